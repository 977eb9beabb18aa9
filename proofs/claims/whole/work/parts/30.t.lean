def B_X8_within_14 (Q : tQ) : tK := o_retz Q
def B_X8_within_13 (Q : tQ) : tK := o_const 0 (B_X8_within_14 Q)
def E_X8_within (Q : tQ) : tK := o_load 0 (o_iz (fun x => x < 0) (B_X8_within_13 Q) (o_load 0 (o_load 1 (o_ic (fun x y => y ≤ x) (B_X8_within_13 Q) (o_const 1 (B_X8_within_14 Q))))))
def T_X8_within : tM := fun xs h Q => E_X8_within Q (loOf [0, 0] 2 xs) [] h 0 0
def B_X6_canLie_33 (Q : tQ) : tK := o_retz Q
def B_X6_canLie_28 (Q : tQ) : tK := o_const 1 (B_X6_canLie_33 Q)
def B_X6_canLie_32 (Q : tQ) : tK := o_const 0 (B_X6_canLie_33 Q)
def B_X6_canLie_16 (Q : tQ) : tK := o_load 1 (o_const 2 (o_ic (fun x y => x ≠ y) (B_X6_canLie_32 Q) (o_load 0 (o_get 6 (o_iz (fun x => x = 0) (B_X6_canLie_32 Q) (B_X6_canLie_28 Q))))))
def E_X6_canLie (Q : tQ) : tK := o_load 1 (o_iz (fun x => x = 0) (B_X6_canLie_28 Q) (o_load 1 (o_const 1 (o_ic (fun x y => x ≠ y) (B_X6_canLie_16 Q) (o_load 0 (o_get 5 (o_iz (fun x => x ≠ 0) (B_X6_canLie_28 Q) (B_X6_canLie_16 Q))))))))
def T_X6_canLie : tM := fun xs h Q => E_X6_canLie Q (loOf [16, 0] 2 xs) [] h 0 0
def B_X6_narrowest_37 (Q : tQ) : tK := o_ret Q
def B_X6_narrowest_31 (Q : tQ) : tK := o_load 0 (o_get 1 (o_const 0 (o_ald (B_X6_narrowest_37 Q))))
def E_X6_narrowest (Q : tQ) : tK := o_load 0 (o_get 5 (o_iz (fun x => x = 0) (B_X6_narrowest_31 Q) (o_load 0 (o_get 1 (o_const 1 (o_ald (o_load 0 (o_get 1 (o_const 0 (o_ald (o_ic (fun x y => y ≤ x) (B_X6_narrowest_31 Q) (o_load 0 (o_get 1 (o_const 1 (o_ald (B_X6_narrowest_37 Q))))))))))))))))
def T_X6_narrowest : tM := fun xs h Q => E_X6_narrowest Q (loOf [16] 1 xs) [] h 0 0
def B_X1_meets_127 (Q : tQ) : tK := o_ret Q
def E_X1_meets (Q : tQ) : tK := o_load 0 (o_get 6 (o_load 3 (o_ald (o_store 4 (o_load 0 (o_get 5 (o_load 4 (o_const 0 (o_ald (o_ald (o_store 5 (o_load 0 (o_get 5 (o_load 4 (o_const 0 (o_ald (o_const 1 (o_iadd (o_ald (o_store 6 (o_load 1 (o_get 1 (o_load 2 (o_ald (o_store 7 (o_load 1 (o_get 0 (o_load 2 (o_ald (o_load 7 (o_iadd (o_store 8 (o_load 7 (o_load 5 (o_ic (fun x y => x ≤ y) (o_load 7 (o_load 4 (o_const 2 (o_ald (o_ic (fun x y => x ≤ y) (o_load 1 (o_get 2 (o_load 2 (o_ald (o_load 4 (o_const 3 (o_ald (o_ic (fun x y => x ≤ y) (o_load 7 (o_load 6 (o_ic (fun x y => x ≤ y) (o_load 8 (o_load 5 (o_load 4 (o_const 2 (o_ald (o_iadd (o_ic (fun x y => x ≤ y) (o_load 8 (o_load 6 (o_load 4 (o_const 2 (o_ald (o_iadd (o_ic (fun x y => x ≤ y) (o_const 0 (B_X1_meets_127 Q)) (o_const 6 (B_X1_meets_127 Q))))))))) (o_const 5 (o_ret Q))))))))) (o_const 4 (o_ret Q))))) (o_const 3 (o_ret Q)))))))))) (o_const 2 (o_ret Q))))))) (o_const 1 (o_ret Q)))))))))))))))))))))))))))))))))))))
def T_X1_meets : tM := fun xs h Q => E_X1_meets Q (loOf [11, 16, 0, 0] 9 xs) [] h 0 0
def B_J9_min_7cf53_10 (Q : tQ) : tK := o_ret Q
def E_J9_min_7cf53 (Q : tQ) : tK := o_load 0 (o_load 1 (o_ic (fun x y => y < x) (o_load 1 (B_J9_min_7cf53_10 Q)) (o_load 0 (B_J9_min_7cf53_10 Q))))
def T_J9_min_7cf53 : tM := fun xs h Q => E_J9_min_7cf53 Q (loOf [0, 0] 2 xs) [] h 0 0
def B_X1_barOf_39 (Q : tQ) (k11 : tK) : tK := o_iinc 4 1 k11
def L_X1_barOf_11 (Q : tQ) : tK := o_loop (fun k11 => o_load 4 (o_const 3 (o_ic (fun x y => y ≤ x) (o_load 3 (o_ret Q)) (o_load 1 (o_load 4 (o_inv 2 T_X6_canLie 0 0 (o_iz (fun x => x = 0) (B_X1_barOf_39 Q k11) (o_load 3 (o_load 0 (o_load 1 (o_load 4 (o_load 2 (o_inv 4 T_X1_meets 0 0 (o_imin (o_store 3 (B_X1_barOf_39 Q k11))))))))))))))))
def E_X1_barOf (Q : tQ) : tK := o_load 0 (o_load 1 (o_const 0 (o_load 2 (o_inv 4 T_X1_meets 0 0 (o_store 3 (o_const 1 (o_store 4 (L_X1_barOf_11 Q))))))))
def T_X1_barOf : tM := fun xs h Q => E_X1_barOf Q (loOf [11, 16, 0] 5 xs) [] h 0 0
def B_X1_letsThrough_26 (Q : tQ) : tK := o_retz Q
def B_X1_letsThrough_25 (Q : tQ) : tK := o_const 0 (B_X1_letsThrough_26 Q)
def E_X1_letsThrough (Q : tQ) : tK := o_load 0 (o_get 6 (o_load 2 (o_ald (o_const 6 (o_ald (o_iz (fun x => x ≠ 0) (B_X1_letsThrough_25 Q) (o_load 0 (o_load 1 (o_load 2 (o_inv 3 T_X1_barOf 0 0 (o_iz (fun x => x ≠ 0) (B_X1_letsThrough_25 Q) (o_const 1 (B_X1_letsThrough_26 Q)))))))))))))
def T_X1_letsThrough : tM := fun xs h Q => E_X1_letsThrough Q (loOf [11, 16, 0] 3 xs) [] h 0 0
def B_X1_someGateLets_33 (Q : tQ) (k2 : tK) : tK := o_iinc 3 1 k2
def L_X1_someGateLets_2 (Q : tQ) : tK := o_loop (fun k2 => o_load 3 (o_load 0 (o_get 1 (o_ic (fun x y => y ≤ x) (o_const 0 (o_retz Q)) (o_load 0 (o_get 6 (o_load 3 (o_ald (o_const 0 (o_ald (o_load 2 (o_ic (fun x y => x ≠ y) (B_X1_someGateLets_33 Q k2) (o_load 0 (o_load 1 (o_load 3 (o_inv 3 T_X1_letsThrough 0 0 (o_iz (fun x => x = 0) (B_X1_someGateLets_33 Q k2) (o_const 1 (o_retz Q)))))))))))))))))))
def E_X1_someGateLets (Q : tQ) : tK := o_const 0 (o_store 3 (L_X1_someGateLets_2 Q))
def T_X1_someGateLets : tM := fun xs h Q => E_X1_someGateLets Q (loOf [11, 16, 0] 4 xs) [] h 0 0
