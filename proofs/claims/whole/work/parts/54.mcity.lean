/-! ===== the reference: where it lies, what it says ===== -/
/-- where the reference lies -/
def mtT (m : Int) (L : Int → Int) (R : Int → Int → Int) : Prop := (0 ≤ m) ∧ (R m 5 = m + 1) ∧ (R m 16 = m + 2) ∧ (R m 24 = m + 3) ∧ (R m 25 = m + 4) ∧ (R m 31 = m + 5) ∧ (R m 32 = m + 6) ∧ (R m 33 = m + 7) ∧ (R m 34 = m + 8) ∧ (R m 35 = m + 9) ∧ (R m 36 = m + 10) ∧ (R m 37 = m + 11) ∧ (R m 40 = m + 12) ∧ (R m 41 = m + 13) ∧ (R m 42 = m + 14) ∧ (R m 43 = m + 15) ∧ (L (m + 1) = 900) ∧ (L (m + 2) = 77) ∧ (L (m + 3) = 66) ∧ (L (m + 4) = 6) ∧ (L (m + 5) = 6) ∧ (L (m + 6) = 671) ∧ (L (m + 7) = 2013) ∧ (L (m + 8) = 72) ∧ (L (m + 9) = 72) ∧ (L (m + 10) = 48) ∧ (L (m + 11) = 8) ∧ (L (m + 12) = 72) ∧ (L (m + 13) = 72) ∧ (L (m + 14) = 770) ∧ (L (m + 15) = 10)
theorem mt_p {m : Int} {L : Int → Int} {R : Int → Int → Int} (h : mtT m L R) : 0 ≤ m := h.1
theorem mt_5 {m : Int} {L : Int → Int} {R : Int → Int → Int} (h : mtT m L R) : R m 5 = m + 1 := h.2.1
theorem mt_16 {m : Int} {L : Int → Int} {R : Int → Int → Int} (h : mtT m L R) : R m 16 = m + 2 := h.2.2.1
theorem mt_24 {m : Int} {L : Int → Int} {R : Int → Int → Int} (h : mtT m L R) : R m 24 = m + 3 := h.2.2.2.1
theorem mt_25 {m : Int} {L : Int → Int} {R : Int → Int → Int} (h : mtT m L R) : R m 25 = m + 4 := h.2.2.2.2.1
theorem mt_31 {m : Int} {L : Int → Int} {R : Int → Int → Int} (h : mtT m L R) : R m 31 = m + 5 := h.2.2.2.2.2.1
theorem mt_32 {m : Int} {L : Int → Int} {R : Int → Int → Int} (h : mtT m L R) : R m 32 = m + 6 := h.2.2.2.2.2.2.1
theorem mt_33 {m : Int} {L : Int → Int} {R : Int → Int → Int} (h : mtT m L R) : R m 33 = m + 7 := h.2.2.2.2.2.2.2.1
theorem mt_34 {m : Int} {L : Int → Int} {R : Int → Int → Int} (h : mtT m L R) : R m 34 = m + 8 := h.2.2.2.2.2.2.2.2.1
theorem mt_35 {m : Int} {L : Int → Int} {R : Int → Int → Int} (h : mtT m L R) : R m 35 = m + 9 := h.2.2.2.2.2.2.2.2.2.1
theorem mt_36 {m : Int} {L : Int → Int} {R : Int → Int → Int} (h : mtT m L R) : R m 36 = m + 10 := h.2.2.2.2.2.2.2.2.2.2.1
theorem mt_37 {m : Int} {L : Int → Int} {R : Int → Int → Int} (h : mtT m L R) : R m 37 = m + 11 := h.2.2.2.2.2.2.2.2.2.2.2.1
theorem mt_40 {m : Int} {L : Int → Int} {R : Int → Int → Int} (h : mtT m L R) : R m 40 = m + 12 := h.2.2.2.2.2.2.2.2.2.2.2.2.1
theorem mt_41 {m : Int} {L : Int → Int} {R : Int → Int → Int} (h : mtT m L R) : R m 41 = m + 13 := h.2.2.2.2.2.2.2.2.2.2.2.2.2.1
theorem mt_42 {m : Int} {L : Int → Int} {R : Int → Int → Int} (h : mtT m L R) : R m 42 = m + 14 := h.2.2.2.2.2.2.2.2.2.2.2.2.2.2.1
theorem mt_43 {m : Int} {L : Int → Int} {R : Int → Int → Int} (h : mtT m L R) : R m 43 = m + 15 := h.2.2.2.2.2.2.2.2.2.2.2.2.2.2.2.1
theorem mt_l1 {m : Int} {L : Int → Int} {R : Int → Int → Int} (h : mtT m L R) : L (m + 1) = 900 := h.2.2.2.2.2.2.2.2.2.2.2.2.2.2.2.2.1
theorem mt_l2 {m : Int} {L : Int → Int} {R : Int → Int → Int} (h : mtT m L R) : L (m + 2) = 77 := h.2.2.2.2.2.2.2.2.2.2.2.2.2.2.2.2.2.1
theorem mt_l3 {m : Int} {L : Int → Int} {R : Int → Int → Int} (h : mtT m L R) : L (m + 3) = 66 := h.2.2.2.2.2.2.2.2.2.2.2.2.2.2.2.2.2.2.1
theorem mt_l4 {m : Int} {L : Int → Int} {R : Int → Int → Int} (h : mtT m L R) : L (m + 4) = 6 := h.2.2.2.2.2.2.2.2.2.2.2.2.2.2.2.2.2.2.2.1
theorem mt_l5 {m : Int} {L : Int → Int} {R : Int → Int → Int} (h : mtT m L R) : L (m + 5) = 6 := h.2.2.2.2.2.2.2.2.2.2.2.2.2.2.2.2.2.2.2.2.1
theorem mt_l6 {m : Int} {L : Int → Int} {R : Int → Int → Int} (h : mtT m L R) : L (m + 6) = 671 := h.2.2.2.2.2.2.2.2.2.2.2.2.2.2.2.2.2.2.2.2.2.1
theorem mt_l7 {m : Int} {L : Int → Int} {R : Int → Int → Int} (h : mtT m L R) : L (m + 7) = 2013 := h.2.2.2.2.2.2.2.2.2.2.2.2.2.2.2.2.2.2.2.2.2.2.1
theorem mt_l8 {m : Int} {L : Int → Int} {R : Int → Int → Int} (h : mtT m L R) : L (m + 8) = 72 := h.2.2.2.2.2.2.2.2.2.2.2.2.2.2.2.2.2.2.2.2.2.2.2.1
theorem mt_l9 {m : Int} {L : Int → Int} {R : Int → Int → Int} (h : mtT m L R) : L (m + 9) = 72 := h.2.2.2.2.2.2.2.2.2.2.2.2.2.2.2.2.2.2.2.2.2.2.2.2.1
theorem mt_l10 {m : Int} {L : Int → Int} {R : Int → Int → Int} (h : mtT m L R) : L (m + 10) = 48 := h.2.2.2.2.2.2.2.2.2.2.2.2.2.2.2.2.2.2.2.2.2.2.2.2.2.1
theorem mt_l11 {m : Int} {L : Int → Int} {R : Int → Int → Int} (h : mtT m L R) : L (m + 11) = 8 := h.2.2.2.2.2.2.2.2.2.2.2.2.2.2.2.2.2.2.2.2.2.2.2.2.2.2.1
theorem mt_l12 {m : Int} {L : Int → Int} {R : Int → Int → Int} (h : mtT m L R) : L (m + 12) = 72 := h.2.2.2.2.2.2.2.2.2.2.2.2.2.2.2.2.2.2.2.2.2.2.2.2.2.2.2.1
theorem mt_l13 {m : Int} {L : Int → Int} {R : Int → Int → Int} (h : mtT m L R) : L (m + 13) = 72 := h.2.2.2.2.2.2.2.2.2.2.2.2.2.2.2.2.2.2.2.2.2.2.2.2.2.2.2.2.1
theorem mt_l14 {m : Int} {L : Int → Int} {R : Int → Int → Int} (h : mtT m L R) : L (m + 14) = 770 := h.2.2.2.2.2.2.2.2.2.2.2.2.2.2.2.2.2.2.2.2.2.2.2.2.2.2.2.2.2.1
theorem mt_l15 {m : Int} {L : Int → Int} {R : Int → Int → Int} (h : mtT m L R) : L (m + 15) = 10 := h.2.2.2.2.2.2.2.2.2.2.2.2.2.2.2.2.2.2.2.2.2.2.2.2.2.2.2.2.2.2
/-- where a city of the reference lies -/
def mcT (c : Int) (L : Int → Int) (R : Int → Int → Int) : Prop := (0 ≤ c) ∧ (R c 6 = c + 1) ∧ (R c 7 = c + 2) ∧ (R c 8 = c + 3) ∧ (R c 9 = c + 4) ∧ (R c 10 = c + 5) ∧ (R c 11 = c + 6) ∧ (R c 12 = c + 7) ∧ (R c 13 = c + 8) ∧ (R c 14 = c + 9) ∧ (R c 15 = c + 10) ∧ (R c 16 = c + 11) ∧ (R c 17 = c + 12) ∧ (R c 18 = c + 13) ∧ (R c 19 = c + 14) ∧ (R c 20 = c + 15) ∧ (R c 21 = c + 16) ∧ (R c 22 = c + 17) ∧ (R c 23 = c + 18) ∧ (R c 24 = c + 19) ∧ (R c 25 = c + 20) ∧ (R c 26 = c + 21) ∧ (R c 27 = c + 22) ∧ (L (c + 1) = 6) ∧ (L (c + 2) = 6) ∧ (L (c + 3) = 6) ∧ (L (c + 4) = 6) ∧ (L (c + 5) = 8) ∧ (L (c + 6) = 8) ∧ (L (c + 7) = 77) ∧ (L (c + 8) = 8) ∧ (L (c + 9) = 8) ∧ (L (c + 10) = 8) ∧ (L (c + 11) = 8) ∧ (L (c + 12) = 8) ∧ (L (c + 13) = 8) ∧ (L (c + 14) = 8) ∧ (L (c + 15) = 8) ∧ (L (c + 16) = 8) ∧ (L (c + 17) = 8) ∧ (L (c + 18) = 8) ∧ (L (c + 19) = 8) ∧ (L (c + 20) = 8) ∧ (L (c + 21) = 35) ∧ (L (c + 22) = 35)
theorem mc_p {c : Int} {L : Int → Int} {R : Int → Int → Int} (h : mcT c L R) : 0 ≤ c := h.1
theorem mc_6 {c : Int} {L : Int → Int} {R : Int → Int → Int} (h : mcT c L R) : R c 6 = c + 1 := h.2.1
theorem mc_7 {c : Int} {L : Int → Int} {R : Int → Int → Int} (h : mcT c L R) : R c 7 = c + 2 := h.2.2.1
theorem mc_8 {c : Int} {L : Int → Int} {R : Int → Int → Int} (h : mcT c L R) : R c 8 = c + 3 := h.2.2.2.1
theorem mc_9 {c : Int} {L : Int → Int} {R : Int → Int → Int} (h : mcT c L R) : R c 9 = c + 4 := h.2.2.2.2.1
theorem mc_10 {c : Int} {L : Int → Int} {R : Int → Int → Int} (h : mcT c L R) : R c 10 = c + 5 := h.2.2.2.2.2.1
theorem mc_11 {c : Int} {L : Int → Int} {R : Int → Int → Int} (h : mcT c L R) : R c 11 = c + 6 := h.2.2.2.2.2.2.1
theorem mc_12 {c : Int} {L : Int → Int} {R : Int → Int → Int} (h : mcT c L R) : R c 12 = c + 7 := h.2.2.2.2.2.2.2.1
theorem mc_13 {c : Int} {L : Int → Int} {R : Int → Int → Int} (h : mcT c L R) : R c 13 = c + 8 := h.2.2.2.2.2.2.2.2.1
theorem mc_14 {c : Int} {L : Int → Int} {R : Int → Int → Int} (h : mcT c L R) : R c 14 = c + 9 := h.2.2.2.2.2.2.2.2.2.1
theorem mc_15 {c : Int} {L : Int → Int} {R : Int → Int → Int} (h : mcT c L R) : R c 15 = c + 10 := h.2.2.2.2.2.2.2.2.2.2.1
theorem mc_16 {c : Int} {L : Int → Int} {R : Int → Int → Int} (h : mcT c L R) : R c 16 = c + 11 := h.2.2.2.2.2.2.2.2.2.2.2.1
theorem mc_17 {c : Int} {L : Int → Int} {R : Int → Int → Int} (h : mcT c L R) : R c 17 = c + 12 := h.2.2.2.2.2.2.2.2.2.2.2.2.1
theorem mc_18 {c : Int} {L : Int → Int} {R : Int → Int → Int} (h : mcT c L R) : R c 18 = c + 13 := h.2.2.2.2.2.2.2.2.2.2.2.2.2.1
theorem mc_19 {c : Int} {L : Int → Int} {R : Int → Int → Int} (h : mcT c L R) : R c 19 = c + 14 := h.2.2.2.2.2.2.2.2.2.2.2.2.2.2.1
theorem mc_20 {c : Int} {L : Int → Int} {R : Int → Int → Int} (h : mcT c L R) : R c 20 = c + 15 := h.2.2.2.2.2.2.2.2.2.2.2.2.2.2.2.1
theorem mc_21 {c : Int} {L : Int → Int} {R : Int → Int → Int} (h : mcT c L R) : R c 21 = c + 16 := h.2.2.2.2.2.2.2.2.2.2.2.2.2.2.2.2.1
theorem mc_22 {c : Int} {L : Int → Int} {R : Int → Int → Int} (h : mcT c L R) : R c 22 = c + 17 := h.2.2.2.2.2.2.2.2.2.2.2.2.2.2.2.2.2.1
theorem mc_23 {c : Int} {L : Int → Int} {R : Int → Int → Int} (h : mcT c L R) : R c 23 = c + 18 := h.2.2.2.2.2.2.2.2.2.2.2.2.2.2.2.2.2.2.1
theorem mc_24 {c : Int} {L : Int → Int} {R : Int → Int → Int} (h : mcT c L R) : R c 24 = c + 19 := h.2.2.2.2.2.2.2.2.2.2.2.2.2.2.2.2.2.2.2.1
theorem mc_25 {c : Int} {L : Int → Int} {R : Int → Int → Int} (h : mcT c L R) : R c 25 = c + 20 := h.2.2.2.2.2.2.2.2.2.2.2.2.2.2.2.2.2.2.2.2.1
theorem mc_26 {c : Int} {L : Int → Int} {R : Int → Int → Int} (h : mcT c L R) : R c 26 = c + 21 := h.2.2.2.2.2.2.2.2.2.2.2.2.2.2.2.2.2.2.2.2.2.1
theorem mc_27 {c : Int} {L : Int → Int} {R : Int → Int → Int} (h : mcT c L R) : R c 27 = c + 22 := h.2.2.2.2.2.2.2.2.2.2.2.2.2.2.2.2.2.2.2.2.2.2.1
theorem mc_l1 {c : Int} {L : Int → Int} {R : Int → Int → Int} (h : mcT c L R) : L (c + 1) = 6 := h.2.2.2.2.2.2.2.2.2.2.2.2.2.2.2.2.2.2.2.2.2.2.2.1
theorem mc_l2 {c : Int} {L : Int → Int} {R : Int → Int → Int} (h : mcT c L R) : L (c + 2) = 6 := h.2.2.2.2.2.2.2.2.2.2.2.2.2.2.2.2.2.2.2.2.2.2.2.2.1
theorem mc_l3 {c : Int} {L : Int → Int} {R : Int → Int → Int} (h : mcT c L R) : L (c + 3) = 6 := h.2.2.2.2.2.2.2.2.2.2.2.2.2.2.2.2.2.2.2.2.2.2.2.2.2.1
theorem mc_l4 {c : Int} {L : Int → Int} {R : Int → Int → Int} (h : mcT c L R) : L (c + 4) = 6 := h.2.2.2.2.2.2.2.2.2.2.2.2.2.2.2.2.2.2.2.2.2.2.2.2.2.2.1
theorem mc_l5 {c : Int} {L : Int → Int} {R : Int → Int → Int} (h : mcT c L R) : L (c + 5) = 8 := h.2.2.2.2.2.2.2.2.2.2.2.2.2.2.2.2.2.2.2.2.2.2.2.2.2.2.2.1
theorem mc_l6 {c : Int} {L : Int → Int} {R : Int → Int → Int} (h : mcT c L R) : L (c + 6) = 8 := h.2.2.2.2.2.2.2.2.2.2.2.2.2.2.2.2.2.2.2.2.2.2.2.2.2.2.2.2.1
theorem mc_l7 {c : Int} {L : Int → Int} {R : Int → Int → Int} (h : mcT c L R) : L (c + 7) = 77 := h.2.2.2.2.2.2.2.2.2.2.2.2.2.2.2.2.2.2.2.2.2.2.2.2.2.2.2.2.2.1
theorem mc_l8 {c : Int} {L : Int → Int} {R : Int → Int → Int} (h : mcT c L R) : L (c + 8) = 8 := h.2.2.2.2.2.2.2.2.2.2.2.2.2.2.2.2.2.2.2.2.2.2.2.2.2.2.2.2.2.2.1
theorem mc_l9 {c : Int} {L : Int → Int} {R : Int → Int → Int} (h : mcT c L R) : L (c + 9) = 8 := h.2.2.2.2.2.2.2.2.2.2.2.2.2.2.2.2.2.2.2.2.2.2.2.2.2.2.2.2.2.2.2.1
theorem mc_l10 {c : Int} {L : Int → Int} {R : Int → Int → Int} (h : mcT c L R) : L (c + 10) = 8 := h.2.2.2.2.2.2.2.2.2.2.2.2.2.2.2.2.2.2.2.2.2.2.2.2.2.2.2.2.2.2.2.2.1
theorem mc_l11 {c : Int} {L : Int → Int} {R : Int → Int → Int} (h : mcT c L R) : L (c + 11) = 8 := h.2.2.2.2.2.2.2.2.2.2.2.2.2.2.2.2.2.2.2.2.2.2.2.2.2.2.2.2.2.2.2.2.2.1
theorem mc_l12 {c : Int} {L : Int → Int} {R : Int → Int → Int} (h : mcT c L R) : L (c + 12) = 8 := h.2.2.2.2.2.2.2.2.2.2.2.2.2.2.2.2.2.2.2.2.2.2.2.2.2.2.2.2.2.2.2.2.2.2.1
theorem mc_l13 {c : Int} {L : Int → Int} {R : Int → Int → Int} (h : mcT c L R) : L (c + 13) = 8 := h.2.2.2.2.2.2.2.2.2.2.2.2.2.2.2.2.2.2.2.2.2.2.2.2.2.2.2.2.2.2.2.2.2.2.2.1
theorem mc_l14 {c : Int} {L : Int → Int} {R : Int → Int → Int} (h : mcT c L R) : L (c + 14) = 8 := h.2.2.2.2.2.2.2.2.2.2.2.2.2.2.2.2.2.2.2.2.2.2.2.2.2.2.2.2.2.2.2.2.2.2.2.2.1
theorem mc_l15 {c : Int} {L : Int → Int} {R : Int → Int → Int} (h : mcT c L R) : L (c + 15) = 8 := h.2.2.2.2.2.2.2.2.2.2.2.2.2.2.2.2.2.2.2.2.2.2.2.2.2.2.2.2.2.2.2.2.2.2.2.2.2.1
theorem mc_l16 {c : Int} {L : Int → Int} {R : Int → Int → Int} (h : mcT c L R) : L (c + 16) = 8 := h.2.2.2.2.2.2.2.2.2.2.2.2.2.2.2.2.2.2.2.2.2.2.2.2.2.2.2.2.2.2.2.2.2.2.2.2.2.2.1
theorem mc_l17 {c : Int} {L : Int → Int} {R : Int → Int → Int} (h : mcT c L R) : L (c + 17) = 8 := h.2.2.2.2.2.2.2.2.2.2.2.2.2.2.2.2.2.2.2.2.2.2.2.2.2.2.2.2.2.2.2.2.2.2.2.2.2.2.2.1
theorem mc_l18 {c : Int} {L : Int → Int} {R : Int → Int → Int} (h : mcT c L R) : L (c + 18) = 8 := h.2.2.2.2.2.2.2.2.2.2.2.2.2.2.2.2.2.2.2.2.2.2.2.2.2.2.2.2.2.2.2.2.2.2.2.2.2.2.2.2.1
theorem mc_l19 {c : Int} {L : Int → Int} {R : Int → Int → Int} (h : mcT c L R) : L (c + 19) = 8 := h.2.2.2.2.2.2.2.2.2.2.2.2.2.2.2.2.2.2.2.2.2.2.2.2.2.2.2.2.2.2.2.2.2.2.2.2.2.2.2.2.2.1
theorem mc_l20 {c : Int} {L : Int → Int} {R : Int → Int → Int} (h : mcT c L R) : L (c + 20) = 8 := h.2.2.2.2.2.2.2.2.2.2.2.2.2.2.2.2.2.2.2.2.2.2.2.2.2.2.2.2.2.2.2.2.2.2.2.2.2.2.2.2.2.2.1
theorem mc_l21 {c : Int} {L : Int → Int} {R : Int → Int → Int} (h : mcT c L R) : L (c + 21) = 35 := h.2.2.2.2.2.2.2.2.2.2.2.2.2.2.2.2.2.2.2.2.2.2.2.2.2.2.2.2.2.2.2.2.2.2.2.2.2.2.2.2.2.2.2.1
theorem mc_l22 {c : Int} {L : Int → Int} {R : Int → Int → Int} (h : mcT c L R) : L (c + 22) = 35 := h.2.2.2.2.2.2.2.2.2.2.2.2.2.2.2.2.2.2.2.2.2.2.2.2.2.2.2.2.2.2.2.2.2.2.2.2.2.2.2.2.2.2.2.2
/-- what the reference says of its city -/
def mM (m c : Int) (C : Cy) (F E : Int → Int → Int) : Prop := (F c 0 = C 0 0 0) ∧ (F m 17 = C 0 1 0) ∧ (F c 2 = C 0 2 0) ∧ (F c 3 = C 0 3 0) ∧ (F c 4 = C 0 4 0) ∧ (∀ g : Int, 0 ≤ g → g < C 0 0 0 → E (c + 1) g = C 1 g 0) ∧ (∀ g w : Int, 0 ≤ g → g < C 0 1 0 → 0 ≤ w → w < 7 → E (m + 2) (7 * g + w) = C 2 g w) ∧ (∀ g : Int, 0 ≤ g → g < C 0 0 0 → E (c + 2) g = C 4 g 1) ∧ (∀ g : Int, 0 ≤ g → g < C 0 0 0 → E (c + 3) g = C 4 g 2) ∧ (∀ g : Int, 0 ≤ g → g < C 0 2 0 → E (c + 8) g = C 3 g 0) ∧ (∀ g : Int, 0 ≤ g → g < C 0 2 0 → E (c + 9) g = C 3 g 1) ∧ (∀ g : Int, 0 ≤ g → g < C 0 3 0 → E (c + 10) g = C 6 g 0) ∧ (∀ g : Int, 0 ≤ g → g < C 0 3 0 → E (c + 11) g = C 6 g 1) ∧ (∀ g : Int, 0 ≤ g → g < C 0 3 0 → E (c + 12) g = C 6 g 2) ∧ (∀ g : Int, 0 ≤ g → g < C 0 3 0 → E (c + 13) g = C 6 g 3) ∧ (∀ g : Int, 0 ≤ g → g < C 0 3 0 → E (c + 14) g = C 6 g 4) ∧ (∀ g : Int, 0 ≤ g → g < C 0 3 0 → E (c + 5) g = C 6 g 5) ∧ (∀ g : Int, 0 ≤ g → g < C 0 3 0 → E (c + 6) g = C 6 g 6) ∧ (∀ g : Int, 0 ≤ g → g < C 0 4 0 → E (c + 15) g = C 5 g 0) ∧ (∀ g : Int, 0 ≤ g → g < C 0 4 0 → E (c + 16) g = C 5 g 1) ∧ (∀ g : Int, 0 ≤ g → g < C 0 4 0 → E (c + 17) g = C 5 g 2) ∧ (∀ g : Int, 0 ≤ g → g < C 0 4 0 → E (c + 18) g = C 5 g 3) ∧ (∀ g : Int, 0 ≤ g → g < C 0 4 0 → E (c + 19) g = C 5 g 4) ∧ (∀ g : Int, 0 ≤ g → g < C 0 4 0 → E (c + 20) g = C 5 g 5)
theorem mm_0 {m c : Int} {C : Cy} {F E : Int → Int → Int} (h : mM m c C F E) : F c 0 = C 0 0 0 := h.1
theorem mm_1 {m c : Int} {C : Cy} {F E : Int → Int → Int} (h : mM m c C F E) : F m 17 = C 0 1 0 := h.2.1
theorem mm_2 {m c : Int} {C : Cy} {F E : Int → Int → Int} (h : mM m c C F E) : F c 2 = C 0 2 0 := h.2.2.1
theorem mm_3 {m c : Int} {C : Cy} {F E : Int → Int → Int} (h : mM m c C F E) : F c 3 = C 0 3 0 := h.2.2.2.1
theorem mm_4 {m c : Int} {C : Cy} {F E : Int → Int → Int} (h : mM m c C F E) : F c 4 = C 0 4 0 := h.2.2.2.2.1
theorem mm_w {m c : Int} {C : Cy} {F E : Int → Int → Int} (h : mM m c C F E) : ∀ g : Int, 0 ≤ g → g < C 0 0 0 → E (c + 1) g = C 1 g 0 := h.2.2.2.2.2.1
theorem mm_g {m c : Int} {C : Cy} {F E : Int → Int → Int} (h : mM m c C F E) : ∀ g w : Int, 0 ≤ g → g < C 0 1 0 → 0 ≤ w → w < 7 → E (m + 2) (7 * g + w) = C 2 g w := h.2.2.2.2.2.2.1
theorem mm_s1 {m c : Int} {C : Cy} {F E : Int → Int → Int} (h : mM m c C F E) : ∀ g : Int, 0 ≤ g → g < C 0 0 0 → E (c + 2) g = C 4 g 1 := h.2.2.2.2.2.2.2.1
theorem mm_s2 {m c : Int} {C : Cy} {F E : Int → Int → Int} (h : mM m c C F E) : ∀ g : Int, 0 ≤ g → g < C 0 0 0 → E (c + 3) g = C 4 g 2 := h.2.2.2.2.2.2.2.2.1
theorem mm_c0 {m c : Int} {C : Cy} {F E : Int → Int → Int} (h : mM m c C F E) : ∀ g : Int, 0 ≤ g → g < C 0 2 0 → E (c + 8) g = C 3 g 0 := h.2.2.2.2.2.2.2.2.2.1
theorem mm_c1 {m c : Int} {C : Cy} {F E : Int → Int → Int} (h : mM m c C F E) : ∀ g : Int, 0 ≤ g → g < C 0 2 0 → E (c + 9) g = C 3 g 1 := h.2.2.2.2.2.2.2.2.2.2.1
theorem mm_k0 {m c : Int} {C : Cy} {F E : Int → Int → Int} (h : mM m c C F E) : ∀ g : Int, 0 ≤ g → g < C 0 3 0 → E (c + 10) g = C 6 g 0 := h.2.2.2.2.2.2.2.2.2.2.2.1
theorem mm_k1 {m c : Int} {C : Cy} {F E : Int → Int → Int} (h : mM m c C F E) : ∀ g : Int, 0 ≤ g → g < C 0 3 0 → E (c + 11) g = C 6 g 1 := h.2.2.2.2.2.2.2.2.2.2.2.2.1
theorem mm_k2 {m c : Int} {C : Cy} {F E : Int → Int → Int} (h : mM m c C F E) : ∀ g : Int, 0 ≤ g → g < C 0 3 0 → E (c + 12) g = C 6 g 2 := h.2.2.2.2.2.2.2.2.2.2.2.2.2.1
theorem mm_k3 {m c : Int} {C : Cy} {F E : Int → Int → Int} (h : mM m c C F E) : ∀ g : Int, 0 ≤ g → g < C 0 3 0 → E (c + 13) g = C 6 g 3 := h.2.2.2.2.2.2.2.2.2.2.2.2.2.2.1
theorem mm_k4 {m c : Int} {C : Cy} {F E : Int → Int → Int} (h : mM m c C F E) : ∀ g : Int, 0 ≤ g → g < C 0 3 0 → E (c + 14) g = C 6 g 4 := h.2.2.2.2.2.2.2.2.2.2.2.2.2.2.2.1
theorem mm_k5 {m c : Int} {C : Cy} {F E : Int → Int → Int} (h : mM m c C F E) : ∀ g : Int, 0 ≤ g → g < C 0 3 0 → E (c + 5) g = C 6 g 5 := h.2.2.2.2.2.2.2.2.2.2.2.2.2.2.2.2.1
theorem mm_k6 {m c : Int} {C : Cy} {F E : Int → Int → Int} (h : mM m c C F E) : ∀ g : Int, 0 ≤ g → g < C 0 3 0 → E (c + 6) g = C 6 g 6 := h.2.2.2.2.2.2.2.2.2.2.2.2.2.2.2.2.2.1
theorem mm_o0 {m c : Int} {C : Cy} {F E : Int → Int → Int} (h : mM m c C F E) : ∀ g : Int, 0 ≤ g → g < C 0 4 0 → E (c + 15) g = C 5 g 0 := h.2.2.2.2.2.2.2.2.2.2.2.2.2.2.2.2.2.2.1
theorem mm_o1 {m c : Int} {C : Cy} {F E : Int → Int → Int} (h : mM m c C F E) : ∀ g : Int, 0 ≤ g → g < C 0 4 0 → E (c + 16) g = C 5 g 1 := h.2.2.2.2.2.2.2.2.2.2.2.2.2.2.2.2.2.2.2.1
theorem mm_o2 {m c : Int} {C : Cy} {F E : Int → Int → Int} (h : mM m c C F E) : ∀ g : Int, 0 ≤ g → g < C 0 4 0 → E (c + 17) g = C 5 g 2 := h.2.2.2.2.2.2.2.2.2.2.2.2.2.2.2.2.2.2.2.2.1
theorem mm_o3 {m c : Int} {C : Cy} {F E : Int → Int → Int} (h : mM m c C F E) : ∀ g : Int, 0 ≤ g → g < C 0 4 0 → E (c + 18) g = C 5 g 3 := h.2.2.2.2.2.2.2.2.2.2.2.2.2.2.2.2.2.2.2.2.2.1
theorem mm_o4 {m c : Int} {C : Cy} {F E : Int → Int → Int} (h : mM m c C F E) : ∀ g : Int, 0 ≤ g → g < C 0 4 0 → E (c + 19) g = C 5 g 4 := h.2.2.2.2.2.2.2.2.2.2.2.2.2.2.2.2.2.2.2.2.2.2.1
theorem mm_o5 {m c : Int} {C : Cy} {F E : Int → Int → Int} (h : mM m c C F E) : ∀ g : Int, 0 ≤ g → g < C 0 4 0 → E (c + 20) g = C 5 g 5 := h.2.2.2.2.2.2.2.2.2.2.2.2.2.2.2.2.2.2.2.2.2.2.2
/-- the thing that the reference has taken -/
def scD (m : Int) (th : Int → Int) (F : Int → Int → Int) : Prop := (F m 18 = th 0) ∧ (F m 19 = th 1) ∧ (F m 20 = th 2) ∧ (F m 22 = 1 + 2 * th 5 + 4 * th 6)
theorem sD_0 {m : Int} {th : Int → Int} {F : Int → Int → Int} (h : scD m th F) : F m 18 = th 0 := h.1
theorem sD_1 {m : Int} {th : Int → Int} {F : Int → Int → Int} (h : scD m th F) : F m 19 = th 1 := h.2.1
theorem sD_2 {m : Int} {th : Int → Int} {F : Int → Int → Int} (h : scD m th F) : F m 20 = th 2 := h.2.2.1
theorem sD_p {m : Int} {th : Int → Int} {F : Int → Int → Int} (h : scD m th F) : F m 22 = 1 + 2 * th 5 + 4 * th 6 := h.2.2.2
def scM (m : Int) (th : Int → Int) (F : Int → Int → Int) : Prop := (scD m th F) ∧ (F m 21 = th 3) ∧ (F m 23 = th 4)
theorem sm_d {m : Int} {th : Int → Int} {F : Int → Int → Int} (h : scM m th F) : scD m th F := h.1
theorem sm_3 {m : Int} {th : Int → Int} {F : Int → Int → Int} (h : scM m th F) : F m 21 = th 3 := h.2.1
theorem sm_4 {m : Int} {th : Int → Int} {F : Int → Int → Int} (h : scM m th F) : F m 23 = th 4 := h.2.2
/-- only scratch fields of the reference differ -/
def frS (m : Int) (F F' : Int → Int → Int) : Prop := ∀ b j : Int, (b ≠ m ∨ j < 18 ∨ 31 ≤ j) → F' b j = F b j
/-- only scratch rows differ -/
def frA (m : Int) (E E' : Int → Int → Int) : Prop := ∀ b j : Int, (b ≤ m + 2 ∨ m + 6 ≤ b) → E' b j = E b j
theorem frS.rf {m : Int} {F : Int → Int → Int} : frS m F F := fun _ _ _ => rfl
theorem frA.rf {m : Int} {F : Int → Int → Int} : frA m F F := fun _ _ _ => rfl
theorem frS.tr {m : Int} {F G H : Int → Int → Int} (h1 : frS m F G) (h2 : frS m G H) : frS m F H := fun b j h => (h2 b j h).trans (h1 b j h)
theorem frA.tr {m : Int} {F G H : Int → Int → Int} (h1 : frA m F G) (h2 : frA m G H) : frA m F H := fun b j h => (h2 b j h).trans (h1 b j h)
theorem frS.up {m i v : Int} {F : Int → Int → Int} (h1 : 18 ≤ i) (h2 : i < 31) : frS m F (up F m i v) := fun b j h => up_ne (by omega)
theorem frA.up {m a i v : Int} {E : Int → Int → Int} (h1 : m + 2 < a) (h2 : a < m + 6) : frA m E (up E a i v) := fun b j h => up_ne (by omega)
theorem mM.fr {m c : Int} {C : Cy} {F F' E E' : Int → Int → Int} (h : mM m c C F E) (hc : m + 16 < c) (h1 : frS m F F') (h2 : frA m E E') : mM m c C F' E' := by
  exact ⟨(h1 _ _ (by omega)).trans (mm_0 h), (h1 _ _ (by omega)).trans (mm_1 h), (h1 _ _ (by omega)).trans (mm_2 h), (h1 _ _ (by omega)).trans (mm_3 h), (h1 _ _ (by omega)).trans (mm_4 h), fun g a1 a2 => (h2 _ _ (by omega)).trans (mm_w h g a1 a2), fun g w a1 a2 a3 a4 => (h2 _ _ (by omega)).trans (mm_g h g w a1 a2 a3 a4), fun g a1 a2 => (h2 _ _ (by omega)).trans (mm_s1 h g a1 a2), fun g a1 a2 => (h2 _ _ (by omega)).trans (mm_s2 h g a1 a2), fun g a1 a2 => (h2 _ _ (by omega)).trans (mm_c0 h g a1 a2), fun g a1 a2 => (h2 _ _ (by omega)).trans (mm_c1 h g a1 a2), fun g a1 a2 => (h2 _ _ (by omega)).trans (mm_k0 h g a1 a2), fun g a1 a2 => (h2 _ _ (by omega)).trans (mm_k1 h g a1 a2), fun g a1 a2 => (h2 _ _ (by omega)).trans (mm_k2 h g a1 a2), fun g a1 a2 => (h2 _ _ (by omega)).trans (mm_k3 h g a1 a2), fun g a1 a2 => (h2 _ _ (by omega)).trans (mm_k4 h g a1 a2), fun g a1 a2 => (h2 _ _ (by omega)).trans (mm_k5 h g a1 a2), fun g a1 a2 => (h2 _ _ (by omega)).trans (mm_k6 h g a1 a2), fun g a1 a2 => (h2 _ _ (by omega)).trans (mm_o0 h g a1 a2), fun g a1 a2 => (h2 _ _ (by omega)).trans (mm_o1 h g a1 a2), fun g a1 a2 => (h2 _ _ (by omega)).trans (mm_o2 h g a1 a2), fun g a1 a2 => (h2 _ _ (by omega)).trans (mm_o3 h g a1 a2), fun g a1 a2 => (h2 _ _ (by omega)).trans (mm_o4 h g a1 a2), fun g a1 a2 => (h2 _ _ (by omega)).trans (mm_o5 h g a1 a2)⟩
