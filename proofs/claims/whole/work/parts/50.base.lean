/-! ===== reasoning at the x level: one row an op ===== -/
def up (F : Int → Int → Int) (a i v : Int) : Int → Int → Int := fun b j => if b = a ∧ j = i then v else F b j
def cpy (E : Int → Int → Int) (a sp d dp z : Int) : Int → Int → Int := fun b j => if b = d ∧ dp ≤ j ∧ j < dp + z then E a (sp + (j - dp)) else E b j
/-- a side condition ahead of what comes -/
def sc (P Q : Prop) : Prop := P ∧ Q
theorem sc_d {P Q : Prop} (h : P) : sc P Q = Q := propext ⟨fun x => x.2, fun x => ⟨h, x⟩⟩
theorem up_eq {F : Int → Int → Int} {a i v : Int} : up F a i v a i = v := if_pos ⟨rfl, rfl⟩
theorem up_ne {F : Int → Int → Int} {a i v b j : Int} (h : b ≠ a ∨ j ≠ i) : up F a i v b j = F b j := if_neg fun z => h.elim (fun w => w z.1) (fun w => w z.2)
theorem up_at {F : Int → Int → Int} {a i v b j : Int} (h1 : b = a) (h2 : j = i) : up F a i v b j = v := if_pos ⟨h1, h2⟩
section XR
variable {L : Int → Int} {R F E : Int → Int → Int} {N : Nat} {a i v sp d dp z : Int}
theorem zLg : Lg (L, R, F, E, N) a = L a := rfl
theorem zRf : Rf (L, R, F, E, N) a i = R a i := rfl
theorem zFq : Fq (L, R, F, E, N) a i = F a i := rfl
theorem zEl : El (L, R, F, E, N) a i = E a i := rfl
theorem zNz : Nz (L, R, F, E, N) = N := rfl
theorem zUf : Uf (L, R, F, E, N) a i v = (L, R, up F a i v, E, N) := rfl
theorem zUe : Ue (L, R, F, E, N) a i v = (L, R, F, up E a i v, N) := rfl
theorem zUr : Ur (L, R, F, E, N) a i v = (L, up R a i v, F, E, N) := rfl
theorem zCe : Ce (L, R, F, E, N) a sp d dp z = (L, R, F, cpy E a sp d dp z, N) := rfl
theorem zSn : Sn (L, R, F, E, N) = (L, R, F, E, N + 1) := rfl
end XR
theorem gd_0 {v0 d : Int} {l : List Int} : (v0 :: l).getD 0 d = v0 := rfl
theorem gd_1 {v0 v1 d : Int} {l : List Int} : (v0 :: v1 :: l).getD 1 d = v1 := rfl
theorem gd_2 {v0 v1 v2 d : Int} {l : List Int} : (v0 :: v1 :: v2 :: l).getD 2 d = v2 := rfl
theorem gd_3 {v0 v1 v2 v3 d : Int} {l : List Int} : (v0 :: v1 :: v2 :: v3 :: l).getD 3 d = v3 := rfl
theorem gd_4 {v0 v1 v2 v3 v4 d : Int} {l : List Int} : (v0 :: v1 :: v2 :: v3 :: v4 :: l).getD 4 d = v4 := rfl
theorem gd_5 {v0 v1 v2 v3 v4 v5 d : Int} {l : List Int} : (v0 :: v1 :: v2 :: v3 :: v4 :: v5 :: l).getD 5 d = v5 := rfl
theorem gd_6 {v0 v1 v2 v3 v4 v5 v6 d : Int} {l : List Int} : (v0 :: v1 :: v2 :: v3 :: v4 :: v5 :: v6 :: l).getD 6 d = v6 := rfl
theorem gd_7 {v0 v1 v2 v3 v4 v5 v6 v7 d : Int} {l : List Int} : (v0 :: v1 :: v2 :: v3 :: v4 :: v5 :: v6 :: v7 :: l).getD 7 d = v7 := rfl
theorem gd_8 {v0 v1 v2 v3 v4 v5 v6 v7 v8 d : Int} {l : List Int} : (v0 :: v1 :: v2 :: v3 :: v4 :: v5 :: v6 :: v7 :: v8 :: l).getD 8 d = v8 := rfl
theorem gd_9 {v0 v1 v2 v3 v4 v5 v6 v7 v8 v9 d : Int} {l : List Int} : (v0 :: v1 :: v2 :: v3 :: v4 :: v5 :: v6 :: v7 :: v8 :: v9 :: l).getD 9 d = v9 := rfl
theorem gd_10 {v0 v1 v2 v3 v4 v5 v6 v7 v8 v9 v10 d : Int} {l : List Int} : (v0 :: v1 :: v2 :: v3 :: v4 :: v5 :: v6 :: v7 :: v8 :: v9 :: v10 :: l).getD 10 d = v10 := rfl
theorem gd_11 {v0 v1 v2 v3 v4 v5 v6 v7 v8 v9 v10 v11 d : Int} {l : List Int} : (v0 :: v1 :: v2 :: v3 :: v4 :: v5 :: v6 :: v7 :: v8 :: v9 :: v10 :: v11 :: l).getD 11 d = v11 := rfl
theorem gd_12 {v0 v1 v2 v3 v4 v5 v6 v7 v8 v9 v10 v11 v12 d : Int} {l : List Int} : (v0 :: v1 :: v2 :: v3 :: v4 :: v5 :: v6 :: v7 :: v8 :: v9 :: v10 :: v11 :: v12 :: l).getD 12 d = v12 := rfl
theorem gd_13 {v0 v1 v2 v3 v4 v5 v6 v7 v8 v9 v10 v11 v12 v13 d : Int} {l : List Int} : (v0 :: v1 :: v2 :: v3 :: v4 :: v5 :: v6 :: v7 :: v8 :: v9 :: v10 :: v11 :: v12 :: v13 :: l).getD 13 d = v13 := rfl
theorem gd_14 {v0 v1 v2 v3 v4 v5 v6 v7 v8 v9 v10 v11 v12 v13 v14 d : Int} {l : List Int} : (v0 :: v1 :: v2 :: v3 :: v4 :: v5 :: v6 :: v7 :: v8 :: v9 :: v10 :: v11 :: v12 :: v13 :: v14 :: l).getD 14 d = v14 := rfl
theorem gd_15 {v0 v1 v2 v3 v4 v5 v6 v7 v8 v9 v10 v11 v12 v13 v14 v15 d : Int} {l : List Int} : (v0 :: v1 :: v2 :: v3 :: v4 :: v5 :: v6 :: v7 :: v8 :: v9 :: v10 :: v11 :: v12 :: v13 :: v14 :: v15 :: l).getD 15 d = v15 := rfl
theorem gd_16 {v0 v1 v2 v3 v4 v5 v6 v7 v8 v9 v10 v11 v12 v13 v14 v15 v16 d : Int} {l : List Int} : (v0 :: v1 :: v2 :: v3 :: v4 :: v5 :: v6 :: v7 :: v8 :: v9 :: v10 :: v11 :: v12 :: v13 :: v14 :: v15 :: v16 :: l).getD 16 d = v16 := rfl
theorem gd_17 {v0 v1 v2 v3 v4 v5 v6 v7 v8 v9 v10 v11 v12 v13 v14 v15 v16 v17 d : Int} {l : List Int} : (v0 :: v1 :: v2 :: v3 :: v4 :: v5 :: v6 :: v7 :: v8 :: v9 :: v10 :: v11 :: v12 :: v13 :: v14 :: v15 :: v16 :: v17 :: l).getD 17 d = v17 := rfl
theorem gd_18 {v0 v1 v2 v3 v4 v5 v6 v7 v8 v9 v10 v11 v12 v13 v14 v15 v16 v17 v18 d : Int} {l : List Int} : (v0 :: v1 :: v2 :: v3 :: v4 :: v5 :: v6 :: v7 :: v8 :: v9 :: v10 :: v11 :: v12 :: v13 :: v14 :: v15 :: v16 :: v17 :: v18 :: l).getD 18 d = v18 := rfl
theorem gd_19 {v0 v1 v2 v3 v4 v5 v6 v7 v8 v9 v10 v11 v12 v13 v14 v15 v16 v17 v18 v19 d : Int} {l : List Int} : (v0 :: v1 :: v2 :: v3 :: v4 :: v5 :: v6 :: v7 :: v8 :: v9 :: v10 :: v11 :: v12 :: v13 :: v14 :: v15 :: v16 :: v17 :: v18 :: v19 :: l).getD 19 d = v19 := rfl
theorem se_0 {v0 w : Int} {l : List Int} : (v0 :: l).set 0 w = w :: l := rfl
theorem se_1 {v0 v1 w : Int} {l : List Int} : (v0 :: v1 :: l).set 1 w = v0 :: w :: l := rfl
theorem se_2 {v0 v1 v2 w : Int} {l : List Int} : (v0 :: v1 :: v2 :: l).set 2 w = v0 :: v1 :: w :: l := rfl
theorem se_3 {v0 v1 v2 v3 w : Int} {l : List Int} : (v0 :: v1 :: v2 :: v3 :: l).set 3 w = v0 :: v1 :: v2 :: w :: l := rfl
theorem se_4 {v0 v1 v2 v3 v4 w : Int} {l : List Int} : (v0 :: v1 :: v2 :: v3 :: v4 :: l).set 4 w = v0 :: v1 :: v2 :: v3 :: w :: l := rfl
theorem se_5 {v0 v1 v2 v3 v4 v5 w : Int} {l : List Int} : (v0 :: v1 :: v2 :: v3 :: v4 :: v5 :: l).set 5 w = v0 :: v1 :: v2 :: v3 :: v4 :: w :: l := rfl
theorem se_6 {v0 v1 v2 v3 v4 v5 v6 w : Int} {l : List Int} : (v0 :: v1 :: v2 :: v3 :: v4 :: v5 :: v6 :: l).set 6 w = v0 :: v1 :: v2 :: v3 :: v4 :: v5 :: w :: l := rfl
theorem se_7 {v0 v1 v2 v3 v4 v5 v6 v7 w : Int} {l : List Int} : (v0 :: v1 :: v2 :: v3 :: v4 :: v5 :: v6 :: v7 :: l).set 7 w = v0 :: v1 :: v2 :: v3 :: v4 :: v5 :: v6 :: w :: l := rfl
theorem se_8 {v0 v1 v2 v3 v4 v5 v6 v7 v8 w : Int} {l : List Int} : (v0 :: v1 :: v2 :: v3 :: v4 :: v5 :: v6 :: v7 :: v8 :: l).set 8 w = v0 :: v1 :: v2 :: v3 :: v4 :: v5 :: v6 :: v7 :: w :: l := rfl
theorem se_9 {v0 v1 v2 v3 v4 v5 v6 v7 v8 v9 w : Int} {l : List Int} : (v0 :: v1 :: v2 :: v3 :: v4 :: v5 :: v6 :: v7 :: v8 :: v9 :: l).set 9 w = v0 :: v1 :: v2 :: v3 :: v4 :: v5 :: v6 :: v7 :: v8 :: w :: l := rfl
theorem se_10 {v0 v1 v2 v3 v4 v5 v6 v7 v8 v9 v10 w : Int} {l : List Int} : (v0 :: v1 :: v2 :: v3 :: v4 :: v5 :: v6 :: v7 :: v8 :: v9 :: v10 :: l).set 10 w = v0 :: v1 :: v2 :: v3 :: v4 :: v5 :: v6 :: v7 :: v8 :: v9 :: w :: l := rfl
theorem se_11 {v0 v1 v2 v3 v4 v5 v6 v7 v8 v9 v10 v11 w : Int} {l : List Int} : (v0 :: v1 :: v2 :: v3 :: v4 :: v5 :: v6 :: v7 :: v8 :: v9 :: v10 :: v11 :: l).set 11 w = v0 :: v1 :: v2 :: v3 :: v4 :: v5 :: v6 :: v7 :: v8 :: v9 :: v10 :: w :: l := rfl
theorem se_12 {v0 v1 v2 v3 v4 v5 v6 v7 v8 v9 v10 v11 v12 w : Int} {l : List Int} : (v0 :: v1 :: v2 :: v3 :: v4 :: v5 :: v6 :: v7 :: v8 :: v9 :: v10 :: v11 :: v12 :: l).set 12 w = v0 :: v1 :: v2 :: v3 :: v4 :: v5 :: v6 :: v7 :: v8 :: v9 :: v10 :: v11 :: w :: l := rfl
theorem se_13 {v0 v1 v2 v3 v4 v5 v6 v7 v8 v9 v10 v11 v12 v13 w : Int} {l : List Int} : (v0 :: v1 :: v2 :: v3 :: v4 :: v5 :: v6 :: v7 :: v8 :: v9 :: v10 :: v11 :: v12 :: v13 :: l).set 13 w = v0 :: v1 :: v2 :: v3 :: v4 :: v5 :: v6 :: v7 :: v8 :: v9 :: v10 :: v11 :: v12 :: w :: l := rfl
theorem se_14 {v0 v1 v2 v3 v4 v5 v6 v7 v8 v9 v10 v11 v12 v13 v14 w : Int} {l : List Int} : (v0 :: v1 :: v2 :: v3 :: v4 :: v5 :: v6 :: v7 :: v8 :: v9 :: v10 :: v11 :: v12 :: v13 :: v14 :: l).set 14 w = v0 :: v1 :: v2 :: v3 :: v4 :: v5 :: v6 :: v7 :: v8 :: v9 :: v10 :: v11 :: v12 :: v13 :: w :: l := rfl
theorem se_15 {v0 v1 v2 v3 v4 v5 v6 v7 v8 v9 v10 v11 v12 v13 v14 v15 w : Int} {l : List Int} : (v0 :: v1 :: v2 :: v3 :: v4 :: v5 :: v6 :: v7 :: v8 :: v9 :: v10 :: v11 :: v12 :: v13 :: v14 :: v15 :: l).set 15 w = v0 :: v1 :: v2 :: v3 :: v4 :: v5 :: v6 :: v7 :: v8 :: v9 :: v10 :: v11 :: v12 :: v13 :: v14 :: w :: l := rfl
theorem se_16 {v0 v1 v2 v3 v4 v5 v6 v7 v8 v9 v10 v11 v12 v13 v14 v15 v16 w : Int} {l : List Int} : (v0 :: v1 :: v2 :: v3 :: v4 :: v5 :: v6 :: v7 :: v8 :: v9 :: v10 :: v11 :: v12 :: v13 :: v14 :: v15 :: v16 :: l).set 16 w = v0 :: v1 :: v2 :: v3 :: v4 :: v5 :: v6 :: v7 :: v8 :: v9 :: v10 :: v11 :: v12 :: v13 :: v14 :: v15 :: w :: l := rfl
theorem se_17 {v0 v1 v2 v3 v4 v5 v6 v7 v8 v9 v10 v11 v12 v13 v14 v15 v16 v17 w : Int} {l : List Int} : (v0 :: v1 :: v2 :: v3 :: v4 :: v5 :: v6 :: v7 :: v8 :: v9 :: v10 :: v11 :: v12 :: v13 :: v14 :: v15 :: v16 :: v17 :: l).set 17 w = v0 :: v1 :: v2 :: v3 :: v4 :: v5 :: v6 :: v7 :: v8 :: v9 :: v10 :: v11 :: v12 :: v13 :: v14 :: v15 :: v16 :: w :: l := rfl
theorem se_18 {v0 v1 v2 v3 v4 v5 v6 v7 v8 v9 v10 v11 v12 v13 v14 v15 v16 v17 v18 w : Int} {l : List Int} : (v0 :: v1 :: v2 :: v3 :: v4 :: v5 :: v6 :: v7 :: v8 :: v9 :: v10 :: v11 :: v12 :: v13 :: v14 :: v15 :: v16 :: v17 :: v18 :: l).set 18 w = v0 :: v1 :: v2 :: v3 :: v4 :: v5 :: v6 :: v7 :: v8 :: v9 :: v10 :: v11 :: v12 :: v13 :: v14 :: v15 :: v16 :: v17 :: w :: l := rfl
theorem se_19 {v0 v1 v2 v3 v4 v5 v6 v7 v8 v9 v10 v11 v12 v13 v14 v15 v16 v17 v18 v19 w : Int} {l : List Int} : (v0 :: v1 :: v2 :: v3 :: v4 :: v5 :: v6 :: v7 :: v8 :: v9 :: v10 :: v11 :: v12 :: v13 :: v14 :: v15 :: v16 :: v17 :: v18 :: v19 :: l).set 19 w = v0 :: v1 :: v2 :: v3 :: v4 :: v5 :: v6 :: v7 :: v8 :: v9 :: v10 :: v11 :: v12 :: v13 :: v14 :: v15 :: v16 :: v17 :: v18 :: w :: l := rfl
theorem e_const {l r : List Int} {h : xH} {c n : Nat} {k : xK} {v : Int} : x_const v k l r h c n = k l (v :: r) h c n := rfl
theorem e_load {l r : List Int} {h : xH} {c n : Nat} {k : xK} {i : Nat} : x_load i k l r h c n = k l (l.getD i 0 :: r) h c n := rfl
theorem e_store {l r : List Int} {h : xH} {c n : Nat} {k : xK} {i : Nat} {x : Int} : x_store i k l (x :: r) h c n = k (l.set i x) r h c n := rfl
theorem e_iinc {l r : List Int} {h : xH} {c n : Nat} {k : xK} {i : Nat} {d : Int} : x_iinc i d k l r h c n = sc (inI (l.getD i 0 + d)) (k (l.set i (l.getD i 0 + d)) r h c n) := rfl
theorem e_dup {l r : List Int} {h : xH} {c n : Nat} {k : xK} {x y : Int} : x_dup k l (x :: r) h c n = k l (x :: x :: r) h c n := rfl
theorem e_dup2 {l r : List Int} {h : xH} {c n : Nat} {k : xK} {x y : Int} : x_dup2 k l (x :: y :: r) h c n = k l (x :: y :: x :: y :: r) h c n := rfl
theorem e_pop {l r : List Int} {h : xH} {c n : Nat} {k : xK} {x y : Int} : x_pop k l (x :: r) h c n = k l r h c n := rfl
theorem e_iadd {l r : List Int} {h : xH} {c n : Nat} {k : xK} {x y : Int} : x_iadd k l (y :: x :: r) h c n = sc (inI (x + y)) (k l ((x + y) :: r) h c n) := rfl
theorem e_isub {l r : List Int} {h : xH} {c n : Nat} {k : xK} {x y : Int} : x_isub k l (y :: x :: r) h c n = sc (inI (x - y)) (k l ((x - y) :: r) h c n) := rfl
theorem e_imul {l r : List Int} {h : xH} {c n : Nat} {k : xK} {x y : Int} : x_imul k l (y :: x :: r) h c n = sc (inI (x * y)) (k l ((x * y) :: r) h c n) := rfl
theorem e_ladd {l r : List Int} {h : xH} {c n : Nat} {k : xK} {x y : Int} : x_ladd k l (y :: x :: r) h c n = sc (inL (x + y)) (k l ((x + y) :: r) h c n) := rfl
theorem e_lsub {l r : List Int} {h : xH} {c n : Nat} {k : xK} {x y : Int} : x_lsub k l (y :: x :: r) h c n = sc (inL (x - y)) (k l ((x - y) :: r) h c n) := rfl
theorem e_lmul {l r : List Int} {h : xH} {c n : Nat} {k : xK} {x y : Int} : x_lmul k l (y :: x :: r) h c n = sc (inL (x * y)) (k l ((x * y) :: r) h c n) := rfl
theorem e_iaddw {l r : List Int} {h : xH} {c n : Nat} {k : xK} {x y : Int} : x_iaddw k l (y :: x :: r) h c n = k l ((wI (x + y)) :: r) h c n := propext ⟨fun q => q.2, fun q => ⟨trivial, q⟩⟩
theorem e_isubw {l r : List Int} {h : xH} {c n : Nat} {k : xK} {x y : Int} : x_isubw k l (y :: x :: r) h c n = k l ((wI (x - y)) :: r) h c n := propext ⟨fun q => q.2, fun q => ⟨trivial, q⟩⟩
theorem e_imulw {l r : List Int} {h : xH} {c n : Nat} {k : xK} {x y : Int} : x_imulw k l (y :: x :: r) h c n = k l ((wI (x * y)) :: r) h c n := propext ⟨fun q => q.2, fun q => ⟨trivial, q⟩⟩
theorem e_laddw {l r : List Int} {h : xH} {c n : Nat} {k : xK} {x y : Int} : x_laddw k l (y :: x :: r) h c n = k l ((wL (x + y)) :: r) h c n := propext ⟨fun q => q.2, fun q => ⟨trivial, q⟩⟩
theorem e_lsubw {l r : List Int} {h : xH} {c n : Nat} {k : xK} {x y : Int} : x_lsubw k l (y :: x :: r) h c n = k l ((wL (x - y)) :: r) h c n := propext ⟨fun q => q.2, fun q => ⟨trivial, q⟩⟩
theorem e_lmulw {l r : List Int} {h : xH} {c n : Nat} {k : xK} {x y : Int} : x_lmulw k l (y :: x :: r) h c n = k l ((wL (x * y)) :: r) h c n := propext ⟨fun q => q.2, fun q => ⟨trivial, q⟩⟩
theorem e_iand {l r : List Int} {h : xH} {c n : Nat} {k : xK} {x y : Int} : x_iand k l (y :: x :: r) h c n = k l ((bAnd x y) :: r) h c n := propext ⟨fun q => q.2, fun q => ⟨trivial, q⟩⟩
theorem e_ior {l r : List Int} {h : xH} {c n : Nat} {k : xK} {x y : Int} : x_ior k l (y :: x :: r) h c n = k l ((bOr x y) :: r) h c n := propext ⟨fun q => q.2, fun q => ⟨trivial, q⟩⟩
theorem e_ishl {l r : List Int} {h : xH} {c n : Nat} {k : xK} {x y : Int} : x_ishl k l (y :: x :: r) h c n = k l ((bShl x y) :: r) h c n := propext ⟨fun q => q.2, fun q => ⟨trivial, q⟩⟩
theorem e_ishr {l r : List Int} {h : xH} {c n : Nat} {k : xK} {x y : Int} : x_ishr k l (y :: x :: r) h c n = k l ((bShr x y) :: r) h c n := propext ⟨fun q => q.2, fun q => ⟨trivial, q⟩⟩
theorem e_iushr {l r : List Int} {h : xH} {c n : Nat} {k : xK} {x y : Int} : x_iushr k l (y :: x :: r) h c n = k l ((bUshr x y) :: r) h c n := propext ⟨fun q => q.2, fun q => ⟨trivial, q⟩⟩
theorem e_lcmp {l r : List Int} {h : xH} {c n : Nat} {k : xK} {x y : Int} : x_lcmp k l (y :: x :: r) h c n = k l ((lCmp x y) :: r) h c n := propext ⟨fun q => q.2, fun q => ⟨trivial, q⟩⟩
theorem e_imax {l r : List Int} {h : xH} {c n : Nat} {k : xK} {x y : Int} : x_imax k l (y :: x :: r) h c n = k l ((max x y) :: r) h c n := propext ⟨fun q => q.2, fun q => ⟨trivial, q⟩⟩
theorem e_imin {l r : List Int} {h : xH} {c n : Nat} {k : xK} {x y : Int} : x_imin k l (y :: x :: r) h c n = k l ((min x y) :: r) h c n := propext ⟨fun q => q.2, fun q => ⟨trivial, q⟩⟩
theorem e_idiv {l r : List Int} {h : xH} {c n : Nat} {k : xK} {x y : Int} : x_idiv k l (y :: x :: r) h c n = sc (0 < y) (k l ((Int.tdiv x y) :: r) h c n) := rfl
theorem e_irem {l r : List Int} {h : xH} {c n : Nat} {k : xK} {x y : Int} : x_irem k l (y :: x :: r) h c n = sc (0 < y) (k l ((Int.tmod x y) :: r) h c n) := rfl
theorem e_ldiv {l r : List Int} {h : xH} {c n : Nat} {k : xK} {x y : Int} : x_ldiv k l (y :: x :: r) h c n = sc (0 < y) (k l ((Int.tdiv x y) :: r) h c n) := rfl
theorem e_lrem {l r : List Int} {h : xH} {c n : Nat} {k : xK} {x y : Int} : x_lrem k l (y :: x :: r) h c n = sc (0 < y) (k l ((Int.tmod x y) :: r) h c n) := rfl
theorem e_i2l {l r : List Int} {h : xH} {c n : Nat} {k : xK} {x : Int} : x_i2l k l (x :: r) h c n = k l (x :: r) h c n := propext ⟨fun q => q.2, fun q => ⟨trivial, q⟩⟩
theorem e_i2b {l r : List Int} {h : xH} {c n : Nat} {k : xK} {x : Int} : x_i2b k l (x :: r) h c n = k l (wB x :: r) h c n := propext ⟨fun q => q.2, fun q => ⟨trivial, q⟩⟩
theorem e_l2i {l r : List Int} {h : xH} {c n : Nat} {k : xK} {x y : Int} : x_l2i k l (x :: r) h c n = sc (inI x) (k l (x :: r) h c n) := rfl
theorem e_i2c {l r : List Int} {h : xH} {c n : Nat} {k : xK} {x y : Int} : x_i2c k l (x :: r) h c n = sc (0 ≤ x ∧ x ≤ 65535) (k l (x :: r) h c n) := rfl
theorem e_getF {l r : List Int} {h : xH} {c n : Nat} {k : xK} {a i v : Int} : x_getF i k l (a :: r) h c n = sc (a ≠ -1) (k l (Fq h a i :: r) h c n) := rfl
theorem e_getR {l r : List Int} {h : xH} {c n : Nat} {k : xK} {a i v : Int} : x_getR i k l (a :: r) h c n = sc (a ≠ -1) (k l (Rf h a i :: r) h c n) := rfl
theorem e_putF {l r : List Int} {h : xH} {c n : Nat} {k : xK} {a i v : Int} : x_putF i k l (v :: a :: r) h c n = sc (a ≠ -1) (k l r (Uf h a i v) c n) := rfl
theorem e_putR {l r : List Int} {h : xH} {c n : Nat} {k : xK} {a i v : Int} : x_putR i k l (v :: a :: r) h c n = sc (a ≠ -1) (k l r (Ur h a i v) c n) := rfl
theorem e_putz {l r : List Int} {h : xH} {c n : Nat} {k : xK} {a i v : Int} : x_putz i k l (v :: a :: r) h c n = sc (a ≠ -1) (sc (v = 0 ∨ v = 1) (k l r (Uf h a i v) c n)) := rfl
theorem e_ald {l r : List Int} {h : xH} {c n : Nat} {k : xK} {a i v : Int} : x_ald k l (i :: a :: r) h c n = sc (a ≠ -1) (sc (0 ≤ i ∧ i < Lg h a) (k l (El h a i :: r) h c n)) := rfl
theorem e_aldR {l r : List Int} {h : xH} {c n : Nat} {k : xK} {a i v : Int} : x_aldR k l (i :: a :: r) h c n = sc (a ≠ -1) (sc (0 ≤ i ∧ i < Lg h a) (k l (Rf h a i :: r) h c n)) := rfl
theorem e_ast {l r : List Int} {h : xH} {c n : Nat} {k : xK} {a i v : Int} : x_ast k l (v :: i :: a :: r) h c n = sc (a ≠ -1) (sc (0 ≤ i ∧ i < Lg h a) (k l r (Ue h a i v) c n)) := rfl
theorem e_astb {l r : List Int} {h : xH} {c n : Nat} {k : xK} {a i v : Int} : x_astb k l (v :: i :: a :: r) h c n = sc (a ≠ -1) (sc (0 ≤ i ∧ i < Lg h a) (k l r (Ue h a i (wB v)) c n)) := rfl
theorem e_astz {l r : List Int} {h : xH} {c n : Nat} {k : xK} {a i v : Int} : x_astz k l (v :: i :: a :: r) h c n = sc (a ≠ -1) (sc (0 ≤ i ∧ i < Lg h a) (sc (v = 0 ∨ v = 1) (k l r (Ue h a i v) c n))) := rfl
theorem e_asta {l r : List Int} {h : xH} {c n : Nat} {k : xK} {a i v : Int} : x_asta k l (v :: i :: a :: r) h c n = sc (a ≠ -1) (sc (v ≠ -1) (sc (0 ≤ i ∧ i < Lg h a) (k l r (Ur h a i v) c n))) := rfl
theorem e_len {l r : List Int} {h : xH} {c n : Nat} {k : xK} {a i v : Int} : x_len k l (a :: r) h c n = sc (a ≠ -1) (k l (Lg h a :: r) h c n) := rfl
theorem e_acopy {l r : List Int} {h : xH} {c n : Nat} {k : xK} {z dp d sp a : Int} : x_acopy k l (z :: dp :: d :: sp :: a :: r) h c n = sc (a ≠ -1 ∧ d ≠ -1 ∧ 0 ≤ z ∧ 0 ≤ sp ∧ 0 ≤ dp ∧ sp + z ≤ Lg h a ∧ dp + z ≤ Lg h d) (k l r (Ce h a sp d dp z) c n) := rfl
theorem e_new {l r : List Int} {h : xH} {c n : Nat} {k : xK} {NN mc ms : Nat} : x_new NN mc ms k l r h c n = sc (c + 1 ≤ mc ∧ n + NN ≤ ms) (k l ((Nz h : Int) :: r) (Sn h) (c + 1) (n + NN)) := rfl
theorem e_newa {l r : List Int} {h : xH} {c n : Nat} {k : xK} {mc ms : Nat} {z : Int} : x_newa mc ms k l (z :: r) h c n = sc (0 ≤ z ∧ z ≤ 100000) (sc (c + 1 ≤ mc ∧ n + z.toNat ≤ ms) (k l ((Nz h : Int) :: r) (Sa h z) (c + 1) (n + z.toNat))) := rfl
theorem e_mna {l r : List Int} {h : xH} {c n : Nat} {k : xK} {mc ms : Nat} {a b : Int} : x_mna mc ms k l (b :: a :: r) h c n = sc (0 ≤ a ∧ a ≤ 1000 ∧ 0 ≤ b ∧ b ≤ 1000) (sc (c + 1 + a.toNat ≤ mc ∧ n + a.toNat + a.toNat * b.toNat ≤ ms) (k l ((Nz h : Int) :: r) (Sm h a.toNat a b) (c + 1 + a.toNat) (n + a.toNat + a.toNat * b.toNat))) := rfl
theorem e_this {l r : List Int} {h : xH} {c n : Nat} {k : xK} {a : Int} : x_this 0 k l (a :: r) h c n = sc (a ≠ -1) (k l (a :: r) h c n) := rfl
theorem e_room {l r : List Int} {h : xH} {c n : Nat} {k : xK} {mc ms MC MS : Nat} : x_room mc ms MC MS k l r h c n = sc (c + mc ≤ MC ∧ n + ms ≤ MS) (k l r h c n) := rfl
theorem e_call0 {l r : List Int} {h : xH} {c n : Nat} {k : xK} {f : xM} {mc ms : Nat} : x_call 0 f mc ms k l (r) h c n = f [] h (fun v h' => k l (v :: r) h' (c + mc) (n + ms)) := rfl
theorem e_callv0 {l r : List Int} {h : xH} {c n : Nat} {k : xK} {f : xM} {mc ms : Nat} : x_callv 0 f mc ms k l (r) h c n = f [] h (fun _ h' => k l r h' (c + mc) (n + ms)) := rfl
theorem e_call1 {l r : List Int} {h : xH} {c n : Nat} {k : xK} {b0 : Int} {f : xM} {mc ms : Nat} : x_call 1 f mc ms k l (b0 :: r) h c n = f [b0] h (fun v h' => k l (v :: r) h' (c + mc) (n + ms)) := rfl
theorem e_callv1 {l r : List Int} {h : xH} {c n : Nat} {k : xK} {b0 : Int} {f : xM} {mc ms : Nat} : x_callv 1 f mc ms k l (b0 :: r) h c n = f [b0] h (fun _ h' => k l r h' (c + mc) (n + ms)) := rfl
theorem e_inv1 {l r : List Int} {h : xH} {c n : Nat} {k : xK} {b0 : Int} {f : xM} {mc ms : Nat} : x_inv 1 f mc ms k l (b0 :: r) h c n = sc (b0 ≠ -1) (f [b0] h (fun v h' => k l (v :: r) h' (c + mc) (n + ms))) := rfl
theorem e_invv1 {l r : List Int} {h : xH} {c n : Nat} {k : xK} {b0 : Int} {f : xM} {mc ms : Nat} : x_invv 1 f mc ms k l (b0 :: r) h c n = sc (b0 ≠ -1) (f [b0] h (fun _ h' => k l r h' (c + mc) (n + ms))) := rfl
theorem e_call2 {l r : List Int} {h : xH} {c n : Nat} {k : xK} {b0 b1 : Int} {f : xM} {mc ms : Nat} : x_call 2 f mc ms k l (b1 :: b0 :: r) h c n = f [b0, b1] h (fun v h' => k l (v :: r) h' (c + mc) (n + ms)) := rfl
theorem e_callv2 {l r : List Int} {h : xH} {c n : Nat} {k : xK} {b0 b1 : Int} {f : xM} {mc ms : Nat} : x_callv 2 f mc ms k l (b1 :: b0 :: r) h c n = f [b0, b1] h (fun _ h' => k l r h' (c + mc) (n + ms)) := rfl
theorem e_inv2 {l r : List Int} {h : xH} {c n : Nat} {k : xK} {b0 b1 : Int} {f : xM} {mc ms : Nat} : x_inv 2 f mc ms k l (b1 :: b0 :: r) h c n = sc (b0 ≠ -1) (f [b0, b1] h (fun v h' => k l (v :: r) h' (c + mc) (n + ms))) := rfl
theorem e_invv2 {l r : List Int} {h : xH} {c n : Nat} {k : xK} {b0 b1 : Int} {f : xM} {mc ms : Nat} : x_invv 2 f mc ms k l (b1 :: b0 :: r) h c n = sc (b0 ≠ -1) (f [b0, b1] h (fun _ h' => k l r h' (c + mc) (n + ms))) := rfl
theorem e_call3 {l r : List Int} {h : xH} {c n : Nat} {k : xK} {b0 b1 b2 : Int} {f : xM} {mc ms : Nat} : x_call 3 f mc ms k l (b2 :: b1 :: b0 :: r) h c n = f [b0, b1, b2] h (fun v h' => k l (v :: r) h' (c + mc) (n + ms)) := rfl
theorem e_callv3 {l r : List Int} {h : xH} {c n : Nat} {k : xK} {b0 b1 b2 : Int} {f : xM} {mc ms : Nat} : x_callv 3 f mc ms k l (b2 :: b1 :: b0 :: r) h c n = f [b0, b1, b2] h (fun _ h' => k l r h' (c + mc) (n + ms)) := rfl
theorem e_inv3 {l r : List Int} {h : xH} {c n : Nat} {k : xK} {b0 b1 b2 : Int} {f : xM} {mc ms : Nat} : x_inv 3 f mc ms k l (b2 :: b1 :: b0 :: r) h c n = sc (b0 ≠ -1) (f [b0, b1, b2] h (fun v h' => k l (v :: r) h' (c + mc) (n + ms))) := rfl
theorem e_invv3 {l r : List Int} {h : xH} {c n : Nat} {k : xK} {b0 b1 b2 : Int} {f : xM} {mc ms : Nat} : x_invv 3 f mc ms k l (b2 :: b1 :: b0 :: r) h c n = sc (b0 ≠ -1) (f [b0, b1, b2] h (fun _ h' => k l r h' (c + mc) (n + ms))) := rfl
theorem e_call4 {l r : List Int} {h : xH} {c n : Nat} {k : xK} {b0 b1 b2 b3 : Int} {f : xM} {mc ms : Nat} : x_call 4 f mc ms k l (b3 :: b2 :: b1 :: b0 :: r) h c n = f [b0, b1, b2, b3] h (fun v h' => k l (v :: r) h' (c + mc) (n + ms)) := rfl
theorem e_callv4 {l r : List Int} {h : xH} {c n : Nat} {k : xK} {b0 b1 b2 b3 : Int} {f : xM} {mc ms : Nat} : x_callv 4 f mc ms k l (b3 :: b2 :: b1 :: b0 :: r) h c n = f [b0, b1, b2, b3] h (fun _ h' => k l r h' (c + mc) (n + ms)) := rfl
theorem e_inv4 {l r : List Int} {h : xH} {c n : Nat} {k : xK} {b0 b1 b2 b3 : Int} {f : xM} {mc ms : Nat} : x_inv 4 f mc ms k l (b3 :: b2 :: b1 :: b0 :: r) h c n = sc (b0 ≠ -1) (f [b0, b1, b2, b3] h (fun v h' => k l (v :: r) h' (c + mc) (n + ms))) := rfl
theorem e_invv4 {l r : List Int} {h : xH} {c n : Nat} {k : xK} {b0 b1 b2 b3 : Int} {f : xM} {mc ms : Nat} : x_invv 4 f mc ms k l (b3 :: b2 :: b1 :: b0 :: r) h c n = sc (b0 ≠ -1) (f [b0, b1, b2, b3] h (fun _ h' => k l r h' (c + mc) (n + ms))) := rfl
theorem e_call5 {l r : List Int} {h : xH} {c n : Nat} {k : xK} {b0 b1 b2 b3 b4 : Int} {f : xM} {mc ms : Nat} : x_call 5 f mc ms k l (b4 :: b3 :: b2 :: b1 :: b0 :: r) h c n = f [b0, b1, b2, b3, b4] h (fun v h' => k l (v :: r) h' (c + mc) (n + ms)) := rfl
theorem e_callv5 {l r : List Int} {h : xH} {c n : Nat} {k : xK} {b0 b1 b2 b3 b4 : Int} {f : xM} {mc ms : Nat} : x_callv 5 f mc ms k l (b4 :: b3 :: b2 :: b1 :: b0 :: r) h c n = f [b0, b1, b2, b3, b4] h (fun _ h' => k l r h' (c + mc) (n + ms)) := rfl
theorem e_inv5 {l r : List Int} {h : xH} {c n : Nat} {k : xK} {b0 b1 b2 b3 b4 : Int} {f : xM} {mc ms : Nat} : x_inv 5 f mc ms k l (b4 :: b3 :: b2 :: b1 :: b0 :: r) h c n = sc (b0 ≠ -1) (f [b0, b1, b2, b3, b4] h (fun v h' => k l (v :: r) h' (c + mc) (n + ms))) := rfl
theorem e_invv5 {l r : List Int} {h : xH} {c n : Nat} {k : xK} {b0 b1 b2 b3 b4 : Int} {f : xM} {mc ms : Nat} : x_invv 5 f mc ms k l (b4 :: b3 :: b2 :: b1 :: b0 :: r) h c n = sc (b0 ≠ -1) (f [b0, b1, b2, b3, b4] h (fun _ h' => k l r h' (c + mc) (n + ms))) := rfl
theorem e_call6 {l r : List Int} {h : xH} {c n : Nat} {k : xK} {b0 b1 b2 b3 b4 b5 : Int} {f : xM} {mc ms : Nat} : x_call 6 f mc ms k l (b5 :: b4 :: b3 :: b2 :: b1 :: b0 :: r) h c n = f [b0, b1, b2, b3, b4, b5] h (fun v h' => k l (v :: r) h' (c + mc) (n + ms)) := rfl
theorem e_callv6 {l r : List Int} {h : xH} {c n : Nat} {k : xK} {b0 b1 b2 b3 b4 b5 : Int} {f : xM} {mc ms : Nat} : x_callv 6 f mc ms k l (b5 :: b4 :: b3 :: b2 :: b1 :: b0 :: r) h c n = f [b0, b1, b2, b3, b4, b5] h (fun _ h' => k l r h' (c + mc) (n + ms)) := rfl
theorem e_inv6 {l r : List Int} {h : xH} {c n : Nat} {k : xK} {b0 b1 b2 b3 b4 b5 : Int} {f : xM} {mc ms : Nat} : x_inv 6 f mc ms k l (b5 :: b4 :: b3 :: b2 :: b1 :: b0 :: r) h c n = sc (b0 ≠ -1) (f [b0, b1, b2, b3, b4, b5] h (fun v h' => k l (v :: r) h' (c + mc) (n + ms))) := rfl
theorem e_invv6 {l r : List Int} {h : xH} {c n : Nat} {k : xK} {b0 b1 b2 b3 b4 b5 : Int} {f : xM} {mc ms : Nat} : x_invv 6 f mc ms k l (b5 :: b4 :: b3 :: b2 :: b1 :: b0 :: r) h c n = sc (b0 ≠ -1) (f [b0, b1, b2, b3, b4, b5] h (fun _ h' => k l r h' (c + mc) (n + ms))) := rfl
theorem e_call7 {l r : List Int} {h : xH} {c n : Nat} {k : xK} {b0 b1 b2 b3 b4 b5 b6 : Int} {f : xM} {mc ms : Nat} : x_call 7 f mc ms k l (b6 :: b5 :: b4 :: b3 :: b2 :: b1 :: b0 :: r) h c n = f [b0, b1, b2, b3, b4, b5, b6] h (fun v h' => k l (v :: r) h' (c + mc) (n + ms)) := rfl
theorem e_callv7 {l r : List Int} {h : xH} {c n : Nat} {k : xK} {b0 b1 b2 b3 b4 b5 b6 : Int} {f : xM} {mc ms : Nat} : x_callv 7 f mc ms k l (b6 :: b5 :: b4 :: b3 :: b2 :: b1 :: b0 :: r) h c n = f [b0, b1, b2, b3, b4, b5, b6] h (fun _ h' => k l r h' (c + mc) (n + ms)) := rfl
theorem e_inv7 {l r : List Int} {h : xH} {c n : Nat} {k : xK} {b0 b1 b2 b3 b4 b5 b6 : Int} {f : xM} {mc ms : Nat} : x_inv 7 f mc ms k l (b6 :: b5 :: b4 :: b3 :: b2 :: b1 :: b0 :: r) h c n = sc (b0 ≠ -1) (f [b0, b1, b2, b3, b4, b5, b6] h (fun v h' => k l (v :: r) h' (c + mc) (n + ms))) := rfl
theorem e_invv7 {l r : List Int} {h : xH} {c n : Nat} {k : xK} {b0 b1 b2 b3 b4 b5 b6 : Int} {f : xM} {mc ms : Nat} : x_invv 7 f mc ms k l (b6 :: b5 :: b4 :: b3 :: b2 :: b1 :: b0 :: r) h c n = sc (b0 ≠ -1) (f [b0, b1, b2, b3, b4, b5, b6] h (fun _ h' => k l r h' (c + mc) (n + ms))) := rfl
theorem e_call8 {l r : List Int} {h : xH} {c n : Nat} {k : xK} {b0 b1 b2 b3 b4 b5 b6 b7 : Int} {f : xM} {mc ms : Nat} : x_call 8 f mc ms k l (b7 :: b6 :: b5 :: b4 :: b3 :: b2 :: b1 :: b0 :: r) h c n = f [b0, b1, b2, b3, b4, b5, b6, b7] h (fun v h' => k l (v :: r) h' (c + mc) (n + ms)) := rfl
theorem e_callv8 {l r : List Int} {h : xH} {c n : Nat} {k : xK} {b0 b1 b2 b3 b4 b5 b6 b7 : Int} {f : xM} {mc ms : Nat} : x_callv 8 f mc ms k l (b7 :: b6 :: b5 :: b4 :: b3 :: b2 :: b1 :: b0 :: r) h c n = f [b0, b1, b2, b3, b4, b5, b6, b7] h (fun _ h' => k l r h' (c + mc) (n + ms)) := rfl
theorem e_inv8 {l r : List Int} {h : xH} {c n : Nat} {k : xK} {b0 b1 b2 b3 b4 b5 b6 b7 : Int} {f : xM} {mc ms : Nat} : x_inv 8 f mc ms k l (b7 :: b6 :: b5 :: b4 :: b3 :: b2 :: b1 :: b0 :: r) h c n = sc (b0 ≠ -1) (f [b0, b1, b2, b3, b4, b5, b6, b7] h (fun v h' => k l (v :: r) h' (c + mc) (n + ms))) := rfl
theorem e_invv8 {l r : List Int} {h : xH} {c n : Nat} {k : xK} {b0 b1 b2 b3 b4 b5 b6 b7 : Int} {f : xM} {mc ms : Nat} : x_invv 8 f mc ms k l (b7 :: b6 :: b5 :: b4 :: b3 :: b2 :: b1 :: b0 :: r) h c n = sc (b0 ≠ -1) (f [b0, b1, b2, b3, b4, b5, b6, b7] h (fun _ h' => k l r h' (c + mc) (n + ms))) := rfl
theorem e_ret {l r : List Int} {h : xH} {c n : Nat} {v : Int} {Q : xQ} : x_ret Q l (v :: r) h c n = Q v h := rfl
theorem e_retz {l r : List Int} {h : xH} {c n : Nat} {v : Int} {Q : xQ} : x_retz Q l (v :: r) h c n = sc (v = 0 ∨ v = 1) (Q v h) := rfl
theorem e_retc {l r : List Int} {h : xH} {c n : Nat} {v : Int} {Q : xQ} : x_retc Q l (v :: r) h c n = sc (0 ≤ v ∧ v ≤ 65535) (Q v h) := rfl
theorem e_retb {l r : List Int} {h : xH} {c n : Nat} {v : Int} {Q : xQ} : x_retb Q l (v :: r) h c n = sc (-128 ≤ v ∧ v ≤ 127) (Q v h) := rfl
theorem e_retv {l r : List Int} {h : xH} {c n : Nat} {Q : xQ} : x_retv Q l r h c n = Q 0 h := rfl
theorem e_skip {l r : List Int} {h : xH} {c n : Nat} {k : xK} : x_skip k l r h c n = k l r h c n := rfl
theorem e_sco {l r : List Int} {h : xH} {c n : Nat} {k : xK} {x y : Int} : x_sco k l (x :: r) h c n = k l (0 :: r) h c n := rfl
theorem e_tlen {l r : List Int} {h : xH} {c n : Nat} {k : xK} {a : Int} : x_tlen tx k l (a :: r) h c n = k l (((tx a).length : Int) :: r) h c n := rfl
theorem e_tat {l r : List Int} {h : xH} {c n : Nat} {k : xK} {a i : Int} : x_tat tx k l (i :: a :: r) h c n = sc (0 ≤ i ∧ i < ((tx a).length : Int)) (k l ((tx a).getD i.toNat 0 :: r) h c n) := rfl
theorem e_iz_eq0 {l r : List Int} {h : xH} {c n : Nat} {kt kf : xK} : x_iz (fun x => x = 0) kt kf l (0 :: r) h c n = kt l r h c n := propext ⟨fun q => q.1 (by decide), fun q => ⟨fun z => q, fun z => absurd (by decide) z⟩⟩
theorem e_iz_eq1 {l r : List Int} {h : xH} {c n : Nat} {kt kf : xK} : x_iz (fun x => x = 0) kt kf l (1 :: r) h c n = kf l r h c n := propext ⟨fun q => q.2 (by decide), fun q => ⟨fun z => absurd z (by decide), fun z => q⟩⟩
theorem e_iz_ne0 {l r : List Int} {h : xH} {c n : Nat} {kt kf : xK} : x_iz (fun x => x ≠ 0) kt kf l (0 :: r) h c n = kf l r h c n := propext ⟨fun q => q.2 (by decide), fun q => ⟨fun z => absurd z (by decide), fun z => q⟩⟩
theorem e_iz_ne1 {l r : List Int} {h : xH} {c n : Nat} {kt kf : xK} : x_iz (fun x => x ≠ 0) kt kf l (1 :: r) h c n = kt l r h c n := propext ⟨fun q => q.1 (by decide), fun q => ⟨fun z => q, fun z => absurd (by decide) z⟩⟩
theorem ic_i {P : Int → Int → Prop} {kt kf : xK} {l r : List Int} {h : xH} {c n : Nat} {x y : Int} (h1 : P x y → kt l r h c n) (h2 : ¬ P x y → kf l r h c n) : x_ic P kt kf l (y :: x :: r) h c n := ⟨h1, h2⟩
theorem iz_i {P : Int → Prop} {kt kf : xK} {l r : List Int} {h : xH} {c n : Nat} {x : Int} (h1 : P x → kt l r h c n) (h2 : ¬ P x → kf l r h c n) : x_iz P kt kf l (x :: r) h c n := ⟨h1, h2⟩
/-- a loop: V n says that at most n more rounds are needed -/
theorem lp {B : xK → xK} (V : Nat → xK) (h0 : ∀ k l st h c s, V 0 l st h c s → B k l st h c s) (hs : ∀ n k, (∀ l st h c s, V n l st h c s → k l st h c s) → ∀ l st h c s, V (n + 1) l st h c s → B k l st h c s) {n : Nat} {l st : List Int} {h : xH} {c s : Nat} (hv : V n l st h c s) : x_loop B l st h c s := by
  have key : ∀ n l st h c s, V n l st h c s → x_it B (n + 1) l st h c s := by
    intro n
    induction n with
    | zero => exact fun l st h c s hv => h0 _ l st h c s hv
    | succ n ih => exact fun l st h c s hv => hs n (x_it B (n + 1)) ih l st h c s hv
  exact ⟨n + 1, key n l st h c s hv⟩
noncomputable def bI (P : Prop) : Int := @ite Int P (Classical.propDecidable P) 1 0
theorem bI_t {P : Prop} (h : P) : bI P = 1 := if_pos h
theorem bI_f {P : Prop} (h : ¬ P) : bI P = 0 := if_neg h
theorem inI_i {x : Int} (h1 : -2147483648 ≤ x) (h2 : x ≤ 2147483647) : inI x := ⟨h1, h2⟩
theorem inI_e (x : Int) : inI x = (-2147483648 ≤ x ∧ x ≤ 2147483647) := rfl
theorem inL_e (x : Int) : inL x = (-9223372036854775808 ≤ x ∧ x ≤ 9223372036854775807) := rfl
theorem add0 (n : Nat) : n + 0 = n := rfl
theorem ic_ge {kt kf : xK} {l r : List Int} {h : xH} {c n : Nat} {x y : Int} (h1 : y ≤ x → kt l r h c n) (h2 : x < y → kf l r h c n) : x_ic (fun x y => y ≤ x) kt kf l (y :: x :: r) h c n := ⟨h1, fun z => h2 (by omega)⟩
theorem ic_lt {kt kf : xK} {l r : List Int} {h : xH} {c n : Nat} {x y : Int} (h1 : x < y → kt l r h c n) (h2 : y ≤ x → kf l r h c n) : x_ic (fun x y => x < y) kt kf l (y :: x :: r) h c n := ⟨h1, fun z => h2 (by omega)⟩
theorem ic_eq {kt kf : xK} {l r : List Int} {h : xH} {c n : Nat} {x y : Int} (h1 : x = y → kt l r h c n) (h2 : x ≠ y → kf l r h c n) : x_ic (fun x y => x = y) kt kf l (y :: x :: r) h c n := ⟨h1, fun z => h2 (by omega)⟩
theorem ic_ne {kt kf : xK} {l r : List Int} {h : xH} {c n : Nat} {x y : Int} (h1 : x ≠ y → kt l r h c n) (h2 : x = y → kf l r h c n) : x_ic (fun x y => x ≠ y) kt kf l (y :: x :: r) h c n := ⟨h1, fun z => h2 (by omega)⟩
theorem ic_gt {kt kf : xK} {l r : List Int} {h : xH} {c n : Nat} {x y : Int} (h1 : y < x → kt l r h c n) (h2 : x ≤ y → kf l r h c n) : x_ic (fun x y => y < x) kt kf l (y :: x :: r) h c n := ⟨h1, fun z => h2 (by omega)⟩
theorem ic_le {kt kf : xK} {l r : List Int} {h : xH} {c n : Nat} {x y : Int} (h1 : x ≤ y → kt l r h c n) (h2 : y < x → kf l r h c n) : x_ic (fun x y => x ≤ y) kt kf l (y :: x :: r) h c n := ⟨h1, fun z => h2 (by omega)⟩
theorem iz_eq {kt kf : xK} {l r : List Int} {h : xH} {c n : Nat} {x : Int} (h1 : x = 0 → kt l r h c n) (h2 : x ≠ 0 → kf l r h c n) : x_iz (fun x => x = 0) kt kf l (x :: r) h c n := ⟨h1, fun z => h2 (by omega)⟩
theorem iz_ne {kt kf : xK} {l r : List Int} {h : xH} {c n : Nat} {x : Int} (h1 : x ≠ 0 → kt l r h c n) (h2 : x = 0 → kf l r h c n) : x_iz (fun x => x ≠ 0) kt kf l (x :: r) h c n := ⟨h1, fun z => h2 (by omega)⟩
theorem iz_lt {kt kf : xK} {l r : List Int} {h : xH} {c n : Nat} {x : Int} (h1 : x < 0 → kt l r h c n) (h2 : 0 ≤ x → kf l r h c n) : x_iz (fun x => x < 0) kt kf l (x :: r) h c n := ⟨h1, fun z => h2 (by omega)⟩
theorem iz_ge {kt kf : xK} {l r : List Int} {h : xH} {c n : Nat} {x : Int} (h1 : 0 ≤ x → kt l r h c n) (h2 : x < 0 → kf l r h c n) : x_iz (fun x => 0 ≤ x) kt kf l (x :: r) h c n := ⟨h1, fun z => h2 (by omega)⟩
theorem iz_gt {kt kf : xK} {l r : List Int} {h : xH} {c n : Nat} {x : Int} (h1 : 0 < x → kt l r h c n) (h2 : x ≤ 0 → kf l r h c n) : x_iz (fun x => 0 < x) kt kf l (x :: r) h c n := ⟨h1, fun z => h2 (by omega)⟩
theorem iz_le {kt kf : xK} {l r : List Int} {h : xH} {c n : Nat} {x : Int} (h1 : x ≤ 0 → kt l r h c n) (h2 : 0 < x → kf l r h c n) : x_iz (fun x => x ≤ 0) kt kf l (x :: r) h c n := ⟨h1, fun z => h2 (by omega)⟩
theorem iz_nu {kt kf : xK} {l r : List Int} {h : xH} {c n : Nat} {x : Int} (h1 : x = -1 → kt l r h c n) (h2 : x ≠ -1 → kf l r h c n) : x_iz (fun x => x = -1) kt kf l (x :: r) h c n := ⟨h1, fun z => h2 (by omega)⟩
theorem iz_nn {kt kf : xK} {l r : List Int} {h : xH} {c n : Nat} {x : Int} (h1 : x ≠ -1 → kt l r h c n) (h2 : x = -1 → kf l r h c n) : x_iz (fun x => x ≠ -1) kt kf l (x :: r) h c n := ⟨h1, fun z => h2 (by omega)⟩
