/-! ===== the heap in four: lengths, references, fields, elements ===== -/
abbrev xH : Type := (Int → Int) × (Int → Int → Int) × (Int → Int → Int) × (Int → Int → Int) × Nat
def Lg (s : xH) (a : Int) : Int := s.1 a
def Rf (s : xH) (a i : Int) : Int := s.2.1 a i
def Fq (s : xH) (a i : Int) : Int := s.2.2.1 a i
def El (s : xH) (a i : Int) : Int := s.2.2.2.1 a i
def Nz (s : xH) : Nat := s.2.2.2.2
def Ur (s : xH) (a i v : Int) : xH := (s.1, fun b j => if b = a ∧ j = i then v else s.2.1 b j, s.2.2)
def Uf (s : xH) (a i v : Int) : xH := (s.1, s.2.1, fun b j => if b = a ∧ j = i then v else s.2.2.1 b j, s.2.2.2)
def Ue (s : xH) (a i v : Int) : xH := (s.1, s.2.1, s.2.2.1, fun b j => if b = a ∧ j = i then v else s.2.2.2.1 b j, s.2.2.2.2)
/-- a new object -/
def Sn (s : xH) : xH := (s.1, s.2.1, s.2.2.1, s.2.2.2.1, s.2.2.2.2 + 1)
/-- a new array of length n -/
def Sa (s : xH) (n : Int) : xH := (fun b => if b = (s.2.2.2.2 : Int) then n else s.1 b, s.2.1, s.2.2.1, s.2.2.2.1, s.2.2.2.2 + 1)
/-- new int[a][b] -/
def Sm (s : xH) (a : Nat) (n b : Int) : xH := (fun q => if (s.2.2.2.2 : Int) + 1 ≤ q ∧ q < (s.2.2.2.2 : Int) + 1 + a then b else if q = (s.2.2.2.2 : Int) then n else s.1 q, fun q j => if q = (s.2.2.2.2 : Int) then (s.2.2.2.2 : Int) + 1 + j else s.2.1 q j, s.2.2.1, s.2.2.2.1, s.2.2.2.2 + 1 + a)
/-- arraycopy -/
def Ce (s : xH) (a sp d dp z : Int) : xH := (s.1, s.2.1, s.2.2.1, fun b j => if b = d ∧ dp ≤ j ∧ j < dp + z then s.2.2.2.1 a (sp + (j - dp)) else s.2.2.2.1 b j, s.2.2.2.2)
abbrev xK : Type := List Int → List Int → xH → Nat → Nat → Prop
abbrev xQ : Type := Int → xH → Prop
abbrev xM : Type := List Int → xH → xQ → Prop
def x_const (v : Int) (k : xK) : xK := fun l st h c n => k l (v :: st) h c n
def x_load (i : Nat) (k : xK) : xK := fun l st h c n => k l (l.getD i 0 :: st) h c n
def x_store (i : Nat) (k : xK) : xK := fun l st h c n => match st with
  | x :: r => k (l.set i x) r h c n
  | _ => False
def x_iinc (i : Nat) (d : Int) (k : xK) : xK := fun l st h c n => inI (l.getD i 0 + d) ∧ k (l.set i (l.getD i 0 + d)) st h c n
def x_dup (k : xK) : xK := fun l st h c n => match st with
  | x :: r => k l (x :: x :: r) h c n
  | _ => False
def x_dup2 (k : xK) : xK := fun l st h c n => match st with
  | x :: y :: r => k l (x :: y :: x :: y :: r) h c n
  | _ => False
def x_pop (k : xK) : xK := fun l st h c n => match st with
  | _ :: r => k l r h c n
  | _ => False
def x_bin (f : Int → Int → Int) (P : Int → Int → Prop) (k : xK) : xK := fun l st h c n => match st with
  | y :: x :: r => P x y ∧ k l (f x y :: r) h c n
  | _ => False
def x_un (f : Int → Int) (P : Int → Prop) (k : xK) : xK := fun l st h c n => match st with
  | x :: r => P x ∧ k l (f x :: r) h c n
  | _ => False
def x_iadd : xK → xK := x_bin (fun x y => x + y) (fun x y => inI (x + y))
def x_isub : xK → xK := x_bin (fun x y => x - y) (fun x y => inI (x - y))
def x_imul : xK → xK := x_bin (fun x y => x * y) (fun x y => inI (x * y))
def x_iaddw : xK → xK := x_bin (fun x y => wI (x + y)) (fun _ _ => True)
def x_isubw : xK → xK := x_bin (fun x y => wI (x - y)) (fun _ _ => True)
def x_imulw : xK → xK := x_bin (fun x y => wI (x * y)) (fun _ _ => True)
def x_idiv : xK → xK := x_bin (fun x y => Int.tdiv x y) (fun _ y => 0 < y)
def x_irem : xK → xK := x_bin (fun x y => Int.tmod x y) (fun _ y => 0 < y)
def x_iand : xK → xK := x_bin bAnd (fun _ _ => True)
def x_ior : xK → xK := x_bin bOr (fun _ _ => True)
def x_ishl : xK → xK := x_bin bShl (fun _ _ => True)
def x_ishr : xK → xK := x_bin bShr (fun _ _ => True)
def x_iushr : xK → xK := x_bin bUshr (fun _ _ => True)
def x_ladd : xK → xK := x_bin (fun x y => x + y) (fun x y => inL (x + y))
def x_lsub : xK → xK := x_bin (fun x y => x - y) (fun x y => inL (x - y))
def x_lmul : xK → xK := x_bin (fun x y => x * y) (fun x y => inL (x * y))
def x_laddw : xK → xK := x_bin (fun x y => wL (x + y)) (fun _ _ => True)
def x_lsubw : xK → xK := x_bin (fun x y => wL (x - y)) (fun _ _ => True)
def x_lmulw : xK → xK := x_bin (fun x y => wL (x * y)) (fun _ _ => True)
def x_ldiv : xK → xK := x_bin (fun x y => Int.tdiv x y) (fun _ y => 0 < y)
def x_lrem : xK → xK := x_bin (fun x y => Int.tmod x y) (fun _ y => 0 < y)
def x_lcmp : xK → xK := x_bin lCmp (fun _ _ => True)
def x_i2l : xK → xK := x_un (fun x => x) (fun _ => True)
def x_l2i : xK → xK := x_un (fun x => x) inI
def x_i2b : xK → xK := x_un wB (fun _ => True)
def x_i2c : xK → xK := x_un (fun x => x) (fun x => 0 ≤ x ∧ x ≤ 65535)
def x_imax : xK → xK := x_bin (fun x y => max x y) (fun _ _ => True)
def x_imin : xK → xK := x_bin (fun x y => min x y) (fun _ _ => True)
def x_ic (P : Int → Int → Prop) (kt kf : xK) : xK := fun l st h c n => match st with
  | y :: x :: r => (P x y → kt l r h c n) ∧ (¬ P x y → kf l r h c n)
  | _ => False
def x_iz (P : Int → Prop) (kt kf : xK) : xK := fun l st h c n => match st with
  | x :: r => (P x → kt l r h c n) ∧ (¬ P x → kf l r h c n)
  | _ => False
def x_getF (i : Int) (k : xK) : xK := fun l st h c n => match st with
  | a :: r => a ≠ -1 ∧ k l (Fq h a i :: r) h c n
  | _ => False
def x_getR (i : Int) (k : xK) : xK := fun l st h c n => match st with
  | a :: r => a ≠ -1 ∧ k l (Rf h a i :: r) h c n
  | _ => False
def x_putF (i : Int) (k : xK) : xK := fun l st h c n => match st with
  | v :: a :: r => a ≠ -1 ∧ k l r (Uf h a i v) c n
  | _ => False
def x_putR (i : Int) (k : xK) : xK := fun l st h c n => match st with
  | v :: a :: r => a ≠ -1 ∧ k l r (Ur h a i v) c n
  | _ => False
def x_putz (i : Int) (k : xK) : xK := fun l st h c n => match st with
  | v :: a :: r => a ≠ -1 ∧ (v = 0 ∨ v = 1) ∧ k l r (Uf h a i v) c n
  | _ => False
def x_ald (k : xK) : xK := fun l st h c n => match st with
  | i :: a :: r => a ≠ -1 ∧ (0 ≤ i ∧ i < Lg h a) ∧ k l (El h a i :: r) h c n
  | _ => False
def x_aldR (k : xK) : xK := fun l st h c n => match st with
  | i :: a :: r => a ≠ -1 ∧ (0 ≤ i ∧ i < Lg h a) ∧ k l (Rf h a i :: r) h c n
  | _ => False
def x_ast (k : xK) : xK := fun l st h c n => match st with
  | v :: i :: a :: r => a ≠ -1 ∧ (0 ≤ i ∧ i < Lg h a) ∧ k l r (Ue h a i v) c n
  | _ => False
def x_astb (k : xK) : xK := fun l st h c n => match st with
  | v :: i :: a :: r => a ≠ -1 ∧ (0 ≤ i ∧ i < Lg h a) ∧ k l r (Ue h a i (wB v)) c n
  | _ => False
def x_astz (k : xK) : xK := fun l st h c n => match st with
  | v :: i :: a :: r => a ≠ -1 ∧ (0 ≤ i ∧ i < Lg h a) ∧ (v = 0 ∨ v = 1) ∧ k l r (Ue h a i v) c n
  | _ => False
def x_asta (k : xK) : xK := fun l st h c n => match st with
  | v :: i :: a :: r => a ≠ -1 ∧ v ≠ -1 ∧ (0 ≤ i ∧ i < Lg h a) ∧ k l r (Ur h a i v) c n
  | _ => False
def x_len (k : xK) : xK := fun l st h c n => match st with
  | a :: r => a ≠ -1 ∧ k l (Lg h a :: r) h c n
  | _ => False
def x_new (N mc ms : Nat) (k : xK) : xK := fun l st h c n => (c + 1 ≤ mc ∧ n + N ≤ ms) ∧ k l ((Nz h : Int) :: st) (Sn h) (c + 1) (n + N)
def x_newa (mc ms : Nat) (k : xK) : xK := fun l st h c n => match st with
  | z :: r => (0 ≤ z ∧ z ≤ 100000) ∧ (c + 1 ≤ mc ∧ n + z.toNat ≤ ms) ∧ k l ((Nz h : Int) :: r) (Sa h z) (c + 1) (n + z.toNat)
  | _ => False
def x_mna (mc ms : Nat) (k : xK) : xK := fun l st h c n => match st with
  | b :: a :: r => (0 ≤ a ∧ a ≤ 1000 ∧ 0 ≤ b ∧ b ≤ 1000) ∧ (c + 1 + a.toNat ≤ mc ∧ n + a.toNat + a.toNat * b.toNat ≤ ms) ∧ k l ((Nz h : Int) :: r) (Sm h a.toNat a b) (c + 1 + a.toNat) (n + a.toNat + a.toNat * b.toNat)
  | _ => False
def x_call (na : Nat) (f : xM) (mc ms : Nat) (k : xK) : xK := fun l st h c n => f (st.take na).reverse h (fun v h' => k l (v :: st.drop na) h' (c + mc) (n + ms))
def x_callv (na : Nat) (f : xM) (mc ms : Nat) (k : xK) : xK := fun l st h c n => f (st.take na).reverse h (fun _ h' => k l (st.drop na) h' (c + mc) (n + ms))
def x_inv (na : Nat) (f : xM) (mc ms : Nat) (k : xK) : xK := fun l st h c n => st.getD (na - 1) 0 ≠ -1 ∧ f (st.take na).reverse h (fun v h' => k l (v :: st.drop na) h' (c + mc) (n + ms))
def x_invv (na : Nat) (f : xM) (mc ms : Nat) (k : xK) : xK := fun l st h c n => st.getD (na - 1) 0 ≠ -1 ∧ f (st.take na).reverse h (fun _ h' => k l (st.drop na) h' (c + mc) (n + ms))
def x_this (na : Nat) (k : xK) : xK := fun l st h c n => st.getD na 0 ≠ -1 ∧ k l st h c n
def x_room (mc ms MC MS : Nat) (k : xK) : xK := fun l st h c n => (c + mc ≤ MC ∧ n + ms ≤ MS) ∧ k l st h c n
def x_ret (Q : xQ) : xK := fun _ st h _ _ => match st with
  | v :: _ => Q v h
  | _ => False
def x_retz (Q : xQ) : xK := fun _ st h _ _ => match st with
  | v :: _ => (v = 0 ∨ v = 1) ∧ Q v h
  | _ => False
def x_retc (Q : xQ) : xK := fun _ st h _ _ => match st with
  | v :: _ => (0 ≤ v ∧ v ≤ 65535) ∧ Q v h
  | _ => False
def x_retb (Q : xQ) : xK := fun _ st h _ _ => match st with
  | v :: _ => (-128 ≤ v ∧ v ≤ 127) ∧ Q v h
  | _ => False
def x_retv (Q : xQ) : xK := fun _ _ h _ _ => Q 0 h
def x_it (B : xK → xK) : Nat → xK
  | 0 => fun _ _ _ _ _ => False
  | j + 1 => B (x_it B j)
def x_loop (B : xK → xK) : xK := fun l st h c n => ∃ j, x_it B j l st h c n
def x_slen (L : Nat) (k : xK) : xK := fun l st h c n => match st with
  | _ :: r => k l ((L : Int) :: r) h c n
  | _ => False
def x_sld (L : Nat) (xs : Nat → Int32) (k : xK) : xK := fun l st h c n => match st with
  | i :: _ :: r => (0 ≤ i ∧ i < (L : Int)) ∧ k l ((xs i.toNat).toInt :: r) h c n
  | _ => False
def x_tlen (tx : Int → List Int) (k : xK) : xK := fun l st h c n => match st with
  | a :: r => k l (((tx a).length : Int) :: r) h c n
  | _ => False
def x_tat (tx : Int → List Int) (k : xK) : xK := fun l st h c n => match st with
  | i :: a :: r => (0 ≤ i ∧ i < ((tx a).length : Int)) ∧ k l ((tx a).getD i.toNat 0 :: r) h c n
  | _ => False
def x_tsw (lo : Int) (ks : List xK) (d : xK) : xK := fun l st h c n => match st with
  | x :: r => (∀ (j : Nat) (k : xK), ks[j]? = some k → x = lo + j → k l r h c n) ∧ ((x < lo ∨ lo + ks.length ≤ x) → d l r h c n)
  | _ => False
def x_acopy (k : xK) : xK := fun l st h c n => match st with
  | z :: dp :: d :: sp :: a :: r => (a ≠ -1 ∧ d ≠ -1 ∧ 0 ≤ z ∧ 0 ≤ sp ∧ 0 ≤ dp ∧ sp + z ≤ Lg h a ∧ dp + z ≤ Lg h d) ∧ k l r (Ce h a sp d dp z) c n
  | _ => False
def x_stop : xK := fun _ _ _ _ _ => False
def x_skip (k : xK) : xK := k
def x_sco (k : xK) : xK := fun l st h c n => match st with
  | _ :: r => k l (0 :: r) h c n
  | _ => False
/-! what a heap of the T level shows -/
def isP (κ : Nat) (i : Int) : Bool := if κ < 100 then Nat.ble 4 (ft κ i.toNat) else Nat.ble 4 (κ - 100)
def vLg (h : tH) (a : Int) : Int := match Kd h a with
  | none => 0
  | some κ => if κ < 100 then 0 else Ln h a
def vRf (h : tH) (a i : Int) : Int := match Kd h a with
  | none => -1
  | some κ => if isP κ i = true then Me h a i else -1
def vFd (h : tH) (a i : Int) : Int := match Kd h a with
  | none => 0
  | some κ => if κ < 100 ∧ isP κ i = false then Me h a i else 0
def vEl (h : tH) (a i : Int) : Int := match Kd h a with
  | none => 0
  | some κ => if 100 ≤ κ ∧ isP κ i = false then Me h a i else 0
def spl (h : tH) : xH := (vLg h, vRf h, vFd h, vEl h, Nx h)
theorem isP_arr (e : Nat) (i : Int) : isP (100 + e) i = Nat.ble 4 e := by
  unfold isP
  rw [if_neg (by omega), Nat.add_sub_cancel_left]
theorem vLg_of {h : tH} {a : Int} {e : Nat} (hk : Kd h a = some (100 + e)) : vLg h a = Ln h a := by
  unfold vLg
  rw [hk]
  exact if_neg (by omega)
theorem vRf_of {h : tH} {a i : Int} {κ : Nat} (hk : Kd h a = some κ) (hp : isP κ i = true) : vRf h a i = Me h a i := by
  unfold vRf
  rw [hk]
  exact if_pos hp
theorem vFd_of {h : tH} {a i : Int} {κ : Nat} (hk : Kd h a = some κ) (h1 : κ < 100) (hp : isP κ i = false) : vFd h a i = Me h a i := by
  unfold vFd
  rw [hk]
  exact if_pos ⟨h1, hp⟩
theorem vEl_of {h : tH} {a i : Int} {κ : Nat} (hk : Kd h a = some κ) (h1 : 100 ≤ κ) (hp : isP κ i = false) : vEl h a i = Me h a i := by
  unfold vEl
  rw [hk]
  exact if_pos ⟨h1, hp⟩
theorem vRf_same {h h' : tH} (hk : ∀ b, Kd h' b = Kd h b) (hm : ∀ b j κ, Kd h b = some κ → isP κ j = true → Me h' b j = Me h b j) : vRf h' = vRf h := by
  funext b j
  unfold vRf
  rw [hk b]
  cases hb : Kd h b with
  | none => rfl
  | some κ =>
    show (if isP κ j = true then Me h' b j else -1) = if isP κ j = true then Me h b j else -1
    split
    · next c => exact hm b j κ hb c
    · rfl
theorem vFd_same {h h' : tH} (hk : ∀ b, Kd h' b = Kd h b) (hm : ∀ b j κ, Kd h b = some κ → κ < 100 → isP κ j = false → Me h' b j = Me h b j) : vFd h' = vFd h := by
  funext b j
  unfold vFd
  rw [hk b]
  cases hb : Kd h b with
  | none => rfl
  | some κ =>
    show (if κ < 100 ∧ isP κ j = false then Me h' b j else 0) = if κ < 100 ∧ isP κ j = false then Me h b j else 0
    split
    · next c => exact hm b j κ hb c.1 c.2
    · rfl
theorem vEl_same {h h' : tH} (hk : ∀ b, Kd h' b = Kd h b) (hm : ∀ b j κ, Kd h b = some κ → 100 ≤ κ → isP κ j = false → Me h' b j = Me h b j) : vEl h' = vEl h := by
  funext b j
  unfold vEl
  rw [hk b]
  cases hb : Kd h b with
  | none => rfl
  | some κ =>
    show (if 100 ≤ κ ∧ isP κ j = false then Me h' b j else 0) = if 100 ≤ κ ∧ isP κ j = false then Me h b j else 0
    split
    · next c => exact hm b j κ hb c.1 c.2
    · rfl
theorem Me_Up_ne {h : tH} {a i v b j : Int} (c : ¬ (b = a ∧ j = i)) : Me (Up h a i v) b j = Me h b j := if_neg c
theorem spl_UpF {h : tH} {a i v : Int} {κ : Nat} (hk : Kd h a = some κ) (h1 : κ < 100) (hp : isP κ i = false) : spl (Up h a i v) = Uf (spl h) a i v := by
  have e1 : vRf (Up h a i v) = vRf h := vRf_same (fun _ => rfl) fun b j κ' hb c => Me_Up_ne fun z => by
    obtain ⟨rfl, rfl⟩ := z
    cases hb.symm.trans hk
    rw [hp] at c
    cases c
  have e2 : vEl (Up h a i v) = vEl h := vEl_same (fun _ => rfl) fun b j κ' hb c _ => Me_Up_ne fun z => by
    obtain ⟨rfl, rfl⟩ := z
    cases hb.symm.trans hk
    omega
  have e3 : vFd (Up h a i v) = fun b j => if b = a ∧ j = i then v else vFd h b j := by
    funext b j
    by_cases c : b = a ∧ j = i
    · rw [if_pos c]
      obtain ⟨rfl, rfl⟩ := c
      rw [vFd_of (h := Up h b j v) hk h1 hp]
      exact Me_Up_eq _ _ _ _
    · rw [if_neg c]
      unfold vFd
      rw [Kd_Up]
      cases hb : Kd h b with
      | none => rfl
      | some κ' =>
        show (if κ' < 100 ∧ isP κ' j = false then Me (Up h a i v) b j else 0) = _
        rw [Me_Up_ne c]
  show (vLg h, vRf (Up h a i v), vFd (Up h a i v), vEl (Up h a i v), Nx h) = (vLg h, vRf h, (fun b j => if b = a ∧ j = i then v else vFd h b j), vEl h, Nx h)
  rw [e1, e2, e3]
theorem spl_UpR {h : tH} {a i v : Int} {κ : Nat} (hk : Kd h a = some κ) (hp : isP κ i = true) : spl (Up h a i v) = Ur (spl h) a i v := by
  have e1 : vFd (Up h a i v) = vFd h := vFd_same (fun _ => rfl) fun b j κ' hb _ c => Me_Up_ne fun z => by
    obtain ⟨rfl, rfl⟩ := z
    cases hb.symm.trans hk
    rw [hp] at c
    cases c
  have e2 : vEl (Up h a i v) = vEl h := vEl_same (fun _ => rfl) fun b j κ' hb _ c => Me_Up_ne fun z => by
    obtain ⟨rfl, rfl⟩ := z
    cases hb.symm.trans hk
    rw [hp] at c
    cases c
  have e3 : vRf (Up h a i v) = fun b j => if b = a ∧ j = i then v else vRf h b j := by
    funext b j
    by_cases c : b = a ∧ j = i
    · rw [if_pos c]
      obtain ⟨rfl, rfl⟩ := c
      rw [vRf_of (h := Up h b j v) hk hp]
      exact Me_Up_eq _ _ _ _
    · rw [if_neg c]
      unfold vRf
      rw [Kd_Up]
      cases hb : Kd h b with
      | none => rfl
      | some κ' =>
        show (if isP κ' j = true then Me (Up h a i v) b j else -1) = _
        rw [Me_Up_ne c]
  show (vLg h, vRf (Up h a i v), vFd (Up h a i v), vEl (Up h a i v), Nx h) = (vLg h, (fun b j => if b = a ∧ j = i then v else vRf h b j), vFd h, vEl h, Nx h)
  rw [e1, e2, e3]
theorem spl_UpE {h : tH} {a i v : Int} {κ : Nat} (hk : Kd h a = some κ) (h1 : 100 ≤ κ) (hp : isP κ i = false) : spl (Up h a i v) = Ue (spl h) a i v := by
  have e1 : vRf (Up h a i v) = vRf h := vRf_same (fun _ => rfl) fun b j κ' hb c => Me_Up_ne fun z => by
    obtain ⟨rfl, rfl⟩ := z
    cases hb.symm.trans hk
    rw [hp] at c
    cases c
  have e2 : vFd (Up h a i v) = vFd h := vFd_same (fun _ => rfl) fun b j κ' hb c _ => Me_Up_ne fun z => by
    obtain ⟨rfl, rfl⟩ := z
    cases hb.symm.trans hk
    omega
  have e3 : vEl (Up h a i v) = fun b j => if b = a ∧ j = i then v else vEl h b j := by
    funext b j
    by_cases c : b = a ∧ j = i
    · rw [if_pos c]
      obtain ⟨rfl, rfl⟩ := c
      rw [vEl_of (h := Up h b j v) hk h1 hp]
      exact Me_Up_eq _ _ _ _
    · rw [if_neg c]
      unfold vEl
      rw [Kd_Up]
      cases hb : Kd h b with
      | none => rfl
      | some κ' =>
        show (if 100 ≤ κ' ∧ isP κ' j = false then Me (Up h a i v) b j else 0) = _
        rw [Me_Up_ne c]
  show (vLg h, vRf (Up h a i v), vFd (Up h a i v), vEl (Up h a i v), Nx h) = (vLg h, vRf h, vFd h, (fun b j => if b = a ∧ j = i then v else vEl h b j), Nx h)
  rw [e1, e2, e3]
theorem spl_Cp {h : tH} {a sp d dp z : Int} (hka : Kd h a = some 100) (hkd : Kd h d = some 100) : spl (Cp h a sp d dp z) = Ce (spl h) a sp d dp z := by
  have hne : ∀ b j κ', Kd h b = some κ' → κ' ≠ 100 → Me (Cp h a sp d dp z) b j = Me h b j := fun b j κ' hb c => if_neg fun w => by
    obtain ⟨rfl, -⟩ := w
    cases hb.symm.trans hkd
    exact c rfl
  have p0 : ∀ j : Int, isP 100 j = false := fun j => isP_arr 0 j
  have e1 : vRf (Cp h a sp d dp z) = vRf h := vRf_same (fun _ => rfl) fun b j κ' hb c => hne b j κ' hb fun w => by
    subst w
    rw [p0] at c
    cases c
  have e2 : vFd (Cp h a sp d dp z) = vFd h := vFd_same (fun _ => rfl) fun b j κ' hb c _ => hne b j κ' hb (by omega)
  have e3 : vEl (Cp h a sp d dp z) = fun b j => if b = d ∧ dp ≤ j ∧ j < dp + z then vEl h a (sp + (j - dp)) else vEl h b j := by
    funext b j
    by_cases c : b = d ∧ dp ≤ j ∧ j < dp + z
    · rw [if_pos c, vEl_of hka (by omega) (p0 _)]
      obtain ⟨rfl, c2⟩ := c
      rw [vEl_of (h := Cp h a sp b dp z) hkd (by omega) (p0 _), Me_Cp, if_pos ⟨rfl, c2⟩]
    · rw [if_neg c]
      unfold vEl
      rw [Kd_Cp]
      cases hb : Kd h b with
      | none => rfl
      | some κ' =>
        show (if 100 ≤ κ' ∧ isP κ' j = false then Me (Cp h a sp d dp z) b j else 0) = _
        rw [Me_Cp, if_neg c]
  show (vLg h, vRf (Cp h a sp d dp z), vFd (Cp h a sp d dp z), vEl (Cp h a sp d dp z), Nx h) = (vLg h, vRf h, vFd h, (fun b j => if b = d ∧ dp ≤ j ∧ j < dp + z then vEl h a (sp + (j - dp)) else vEl h b j), Nx h)
  rw [e1, e2, e3]
theorem dflP {t : Nat} (h : Nat.ble 4 t = true) : dfl t = -1 := by
  have := Nat.le_of_ble_eq_true h
  unfold dfl
  split <;> first | (exfalso; omega) | rfl
theorem dfl0 {t : Nat} (h : Nat.ble 4 t = false) : dfl t = 0 := by
  have : ¬ 4 ≤ t := fun c => by
    rw [Nat.ble_eq_true_of_le c] at h
    cases h
  have : t = 0 ∨ t = 1 ∨ t = 2 ∨ t = 3 := by omega
  rcases this with rfl | rfl | rfl | rfl <;> rfl
theorem spl_Nw {h : tH} {κ : Nat} {n : Int} {f : Int → Int} (h0 : Kd h (Nx h : Int) = none) (hf1 : ∀ j, isP κ j = true → f j = -1) (hf2 : ∀ j, isP κ j = false → f j = 0) : vRf (Nw h κ n f) = vRf h ∧ vFd (Nw h κ n f) = vFd h ∧ vEl (Nw h κ n f) = vEl h := by
  refine ⟨?_, ?_, ?_⟩
  · funext b j
    unfold vRf
    rw [Kd_Nw]
    by_cases c : b = (Nx h : Int)
    · rw [if_pos c, c, h0]
      show (if isP κ j = true then Me (Nw h κ n f) (Nx h : Int) j else -1) = -1
      split
      · next d => rw [Me_Nw, if_pos rfl]; exact hf1 j d
      · rfl
    · rw [if_neg c, Me_Nw, if_neg c]
  · funext b j
    unfold vFd
    rw [Kd_Nw]
    by_cases c : b = (Nx h : Int)
    · rw [if_pos c, c, h0]
      show (if κ < 100 ∧ isP κ j = false then Me (Nw h κ n f) (Nx h : Int) j else 0) = 0
      split
      · next d => rw [Me_Nw, if_pos rfl]; exact hf2 j d.2
      · rfl
    · rw [if_neg c, Me_Nw, if_neg c]
  · funext b j
    unfold vEl
    rw [Kd_Nw]
    by_cases c : b = (Nx h : Int)
    · rw [if_pos c, c, h0]
      show (if 100 ≤ κ ∧ isP κ j = false then Me (Nw h κ n f) (Nx h : Int) j else 0) = 0
      split
      · next d => rw [Me_Nw, if_pos rfl]; exact hf2 j d.2
      · rfl
    · rw [if_neg c, Me_Nw, if_neg c]
theorem spl_newO {h : tH} {κ : Nat} (h0 : Kd h (Nx h : Int) = none) (h1 : κ < 100) : spl (Nw h κ 0 (fun j => dfl (ft κ j.toNat))) = Sn (spl h) := by
  obtain ⟨e1, e2, e3⟩ := spl_Nw (κ := κ) (n := 0) (f := fun j => dfl (ft κ j.toNat)) h0 (fun j c => dflP (by unfold isP at c; rw [if_pos h1] at c; exact c)) (fun j c => dfl0 (by unfold isP at c; rw [if_pos h1] at c; exact c))
  have e4 : vLg (Nw h κ 0 (fun j => dfl (ft κ j.toNat))) = vLg h := by
    funext b
    unfold vLg
    rw [Kd_Nw]
    by_cases c : b = (Nx h : Int)
    · rw [if_pos c, c, h0]
      exact if_pos h1
    · rw [if_neg c, Ln_Nw, if_neg c]
  show (vLg (Nw h κ 0 (fun j => dfl (ft κ j.toNat))), vRf (Nw h κ 0 (fun j => dfl (ft κ j.toNat))), vFd (Nw h κ 0 (fun j => dfl (ft κ j.toNat))), vEl (Nw h κ 0 (fun j => dfl (ft κ j.toNat))), Nx h + 1) = (vLg h, vRf h, vFd h, vEl h, Nx h + 1)
  rw [e1, e2, e3, e4]
theorem spl_newA {h : tH} {e : Nat} {n : Int} (h0 : Kd h (Nx h : Int) = none) : spl (Nw h (100 + e) n (fun _ => dfl e)) = Sa (spl h) n := by
  obtain ⟨e1, e2, e3⟩ := spl_Nw (κ := 100 + e) (n := n) (f := fun _ => dfl e) h0 (fun j c => dflP (by rw [isP_arr] at c; exact c)) (fun j c => dfl0 (by rw [isP_arr] at c; exact c))
  have e4 : vLg (Nw h (100 + e) n (fun _ => dfl e)) = fun b => if b = (Nx h : Int) then n else vLg h b := by
    funext b
    unfold vLg
    rw [Kd_Nw]
    by_cases c : b = (Nx h : Int)
    · rw [if_pos c, if_pos c, Ln_Nw, if_pos c]
      exact if_neg (by omega)
    · rw [if_neg c, if_neg c, Ln_Nw, if_neg c]
  show (vLg (Nw h (100 + e) n (fun _ => dfl e)), vRf (Nw h (100 + e) n (fun _ => dfl e)), vFd (Nw h (100 + e) n (fun _ => dfl e)), vEl (Nw h (100 + e) n (fun _ => dfl e)), Nx h + 1) = ((fun b => if b = (Nx h : Int) then n else vLg h b), vRf h, vFd h, vEl h, Nx h + 1)
  rw [e1, e2, e3, e4]
theorem spl_mna {h : tH} {a : Nat} {n b : Int} (h0 : ∀ q : Int, (Nx h : Int) ≤ q → Kd h q = none) : spl (Nm (Nw h 200 n (fun j => (Nx h : Int) + 1 + j)) 100 a b) = Sm (spl h) a n b := by
  have hN : ((Nx (Nw h 200 n (fun j => (Nx h : Int) + 1 + j)) : Nat) : Int) = (Nx h : Int) + 1 := by rw [Nx_Nw]; omega
  have hK : ∀ q : Int, Kd (Nm (Nw h 200 n (fun j => (Nx h : Int) + 1 + j)) 100 a b) q = if (Nx h : Int) + 1 ≤ q ∧ q < (Nx h : Int) + 1 + a then some 100 else if q = (Nx h : Int) then some 200 else Kd h q := fun q => by
    show (if ((Nx (Nw h 200 n (fun j => (Nx h : Int) + 1 + j)) : Nat) : Int) ≤ q ∧ q < ((Nx (Nw h 200 n (fun j => (Nx h : Int) + 1 + j)) : Nat) : Int) + a then some 100 else Kd (Nw h 200 n (fun j => (Nx h : Int) + 1 + j)) q) = _
    rw [hN, Kd_Nw]
  have hL : ∀ q : Int, Ln (Nm (Nw h 200 n (fun j => (Nx h : Int) + 1 + j)) 100 a b) q = if (Nx h : Int) + 1 ≤ q ∧ q < (Nx h : Int) + 1 + a then b else if q = (Nx h : Int) then n else Ln h q := fun q => by
    show (if ((Nx (Nw h 200 n (fun j => (Nx h : Int) + 1 + j)) : Nat) : Int) ≤ q ∧ q < ((Nx (Nw h 200 n (fun j => (Nx h : Int) + 1 + j)) : Nat) : Int) + a then b else Ln (Nw h 200 n (fun j => (Nx h : Int) + 1 + j)) q) = _
    rw [hN, Ln_Nw]
  have hM : ∀ q j : Int, Me (Nm (Nw h 200 n (fun j => (Nx h : Int) + 1 + j)) 100 a b) q j = if (Nx h : Int) + 1 ≤ q ∧ q < (Nx h : Int) + 1 + a then 0 else if q = (Nx h : Int) then (Nx h : Int) + 1 + j else Me h q j := fun q j => by
    show (if ((Nx (Nw h 200 n (fun j => (Nx h : Int) + 1 + j)) : Nat) : Int) ≤ q ∧ q < ((Nx (Nw h 200 n (fun j => (Nx h : Int) + 1 + j)) : Nat) : Int) + a then 0 else Me (Nw h 200 n (fun j => (Nx h : Int) + 1 + j)) q j) = _
    rw [hN, Me_Nw]
  have hX : Nx (Nm (Nw h 200 n (fun j => (Nx h : Int) + 1 + j)) 100 a b) = Nx h + 1 + a := rfl
  generalize Nm (Nw h 200 n (fun j => (Nx h : Int) + 1 + j)) 100 a b = h' at hK hL hM hX ⊢
  have p0 : ∀ j : Int, isP 100 j = false := fun j => isP_arr 0 j
  have p1 : ∀ j : Int, isP 200 j = true := fun j => isP_arr 100 j
  have e1 : vRf h' = fun q j => if q = (Nx h : Int) then (Nx h : Int) + 1 + j else vRf h q j := by
    funext q j
    unfold vRf
    rw [hK, hM]
    by_cases c1 : (Nx h : Int) + 1 ≤ q ∧ q < (Nx h : Int) + 1 + a
    · rw [if_pos c1, if_pos c1, if_neg (by omega), h0 q (by omega)]
      show (if isP 100 j = true then (0 : Int) else -1) = -1
      rw [p0]
      rfl
    · rw [if_neg c1, if_neg c1]
      by_cases c2 : q = (Nx h : Int)
      · rw [if_pos c2, if_pos c2, if_pos c2]
        exact if_pos (p1 j)
      · rw [if_neg c2, if_neg c2, if_neg c2]
  have e2 : vFd h' = vFd h := by
    funext q j
    unfold vFd
    rw [hK, hM]
    by_cases c1 : (Nx h : Int) + 1 ≤ q ∧ q < (Nx h : Int) + 1 + a
    · rw [if_pos c1, if_pos c1, h0 q (by omega)]
      exact if_neg fun z => absurd z.1 (by decide)
    · rw [if_neg c1, if_neg c1]
      by_cases c2 : q = (Nx h : Int)
      · rw [if_pos c2, if_pos c2, h0 q (by omega)]
        exact if_neg fun z => absurd z.1 (by decide)
      · rw [if_neg c2, if_neg c2]
  have e3 : vEl h' = vEl h := by
    funext q j
    unfold vEl
    rw [hK, hM]
    by_cases c1 : (Nx h : Int) + 1 ≤ q ∧ q < (Nx h : Int) + 1 + a
    · rw [if_pos c1, if_pos c1, h0 q (by omega)]
      show (if 100 ≤ 100 ∧ isP 100 j = false then (0 : Int) else 0) = 0
      split <;> rfl
    · rw [if_neg c1, if_neg c1]
      by_cases c2 : q = (Nx h : Int)
      · rw [if_pos c2, if_pos c2, h0 q (by omega)]
        show (if 100 ≤ 200 ∧ isP 200 j = false then (Nx h : Int) + 1 + j else 0) = 0
        rw [p1]
        exact if_neg fun z => by cases z.2
      · rw [if_neg c2, if_neg c2]
  have e4 : vLg h' = fun q => if (Nx h : Int) + 1 ≤ q ∧ q < (Nx h : Int) + 1 + a then b else if q = (Nx h : Int) then n else vLg h q := by
    funext q
    unfold vLg
    rw [hK, hL]
    by_cases c1 : (Nx h : Int) + 1 ≤ q ∧ q < (Nx h : Int) + 1 + a
    · rw [if_pos c1, if_pos c1, if_pos c1]
      exact if_neg (by decide)
    · rw [if_neg c1, if_neg c1, if_neg c1]
      by_cases c2 : q = (Nx h : Int)
      · rw [if_pos c2, if_pos c2, if_pos c2]
        exact if_neg (by decide)
      · rw [if_neg c2, if_neg c2, if_neg c2]
  show (vLg h', vRf h', vFd h', vEl h', Nx h') = ((fun q => if (Nx h : Int) + 1 ≤ q ∧ q < (Nx h : Int) + 1 + a then b else if q = (Nx h : Int) then n else vLg h q), (fun q j => if q = (Nx h : Int) then (Nx h : Int) + 1 + j else vRf h q j), vFd h, vEl h, Nx h + 1 + a)
  rw [e1, e2, e3, e4, hX]
/-! soundness over the split heap -/
abbrev lk (k : xK) : tK := fun l st h c n => k l st (spl h) c n
def SdS (X : CX) (pc : Nat) (Γ : List (Nat × Nat)) (τ : List Nat) (k : xK) : Prop := Sd X pc Γ τ (lk k)
def lf (f : xM) : tM := fun xs h Q => ∃ Q' : xQ, (∀ v h', Q' v (spl h') → Q v h') ∧ f xs (spl h) Q'
def MtS (l : Launch) (y : MethodName) (ws : List Cond) (rm : Room) (τs : List Nat) (rt : Option Nat) (f : xM) : Prop := Mt l y ws rm τs rt (lf f)
def RTS (X : CX) (ret : Option FieldType) (rt : Option Nat) (Q' : xQ) : Prop := ∃ Q : tQ, RT X ret rt Q ∧ ∀ v h', Q' v (spl h') → Q v h'
section SDX
variable {X : CX} {pc : Nat} {Γ Γ' : List (Nat × Nat)} {τ τf : List Nat} {k kt kf : xK} {cc : ByteArray} {own : String} {Ts : List Cond}
theorem Sd.impT {k k' : tK} (hi : ∀ lo st h cn sn, (∀ (a : Int) (κ : Nat), Kd h a = some κ → a < (Nx h : Int)) → RS h τ st → k lo st h cn sn → k' lo st h cn sn) (hs : Sd X pc Γ τ k') : Sd X pc Γ τ k := fun lo st h cn sn H locs ls hk hH hL hS hl h1 h2 => hs lo st h cn sn H locs ls (hi _ _ _ _ _ (fun a κ z => (hH.2.2.2 a κ z).1.2.1) hS hk) hH hL hS hl h1 h2
theorem none_of {h : tH} (hK : ∀ (a : Int) (κ : Nat), Kd h a = some κ → a < (Nx h : Int)) {q : Int} (hq : (Nx h : Int) ≤ q) : Kd h q = none := by
  cases hc : Kd h q with
  | none => rfl
  | some κ => have := hK q κ hc; omega
theorem SdS.loop {B : xK → xK} (hB : ∀ k : xK, SdS X pc Γ τ k → SdS X pc Γ τ (B k)) : SdS X pc Γ τ (x_loop B) := by
  have key : ∀ j : Nat, SdS X pc Γ τ (x_it B j) := by
    intro j
    induction j with
    | zero => exact fun _ _ _ _ _ _ _ _ hk => hk.elim
    | succ j ih => exact hB _ ih
  intro lo st h cn sn H locs ls hk hH hL hS hl h1 h2
  obtain ⟨j, hj⟩ := hk
  exact key j lo st h cn sn H locs ls hj hH hL hS hl h1 h2
theorem SdS.weak (hΓ : ∀ q ∈ Γ', q ∈ Γ) (hs : SdS X pc Γ' τ k) : SdS X pc Γ τ k := Sd.weak hΓ hs
theorem su_stop : SdS X pc Γ τ x_stop := fun _ _ _ _ _ _ _ _ hk => hk.elim
theorem su_iload_n (hC : CF X cc own Ts) {j : Fin 4} {i : Nat} (hdg : decode cc pc = .ok (.iload_n j, 1)) (hi : (j : Nat) = i) (hq : (i, 0) ∈ Γ) (hs : SdS X (pc + 1) Γ (0 :: τ) k) : SdS X pc Γ τ (x_load i k) := Sd.imp (fun lo st h cn sn hk => hk) (sd_iload_n hC hdg hi hq hs)
theorem su_lload_n (hC : CF X cc own Ts) {j : Fin 4} {i : Nat} (hdg : decode cc pc = .ok (.lload_n j, 1)) (hi : (j : Nat) = i) (hq : (i, 1) ∈ Γ) (hs : SdS X (pc + 1) Γ (1 :: τ) k) : SdS X pc Γ τ (x_load i k) := Sd.imp (fun lo st h cn sn hk => hk) (sd_lload_n hC hdg hi hq hs)
theorem su_iload (hC : CF X cc own Ts) {i : Nat} (hdg : decode cc pc = .ok (.iload i, 2)) (hq : (i, 0) ∈ Γ) (hs : SdS X (pc + 2) Γ (0 :: τ) k) : SdS X pc Γ τ (x_load i k) := Sd.imp (fun lo st h cn sn hk => hk) (sd_iload hC hdg hq hs)
theorem su_lload (hC : CF X cc own Ts) {i : Nat} (hdg : decode cc pc = .ok (.lload i, 2)) (hq : (i, 1) ∈ Γ) (hs : SdS X (pc + 2) Γ (1 :: τ) k) : SdS X pc Γ τ (x_load i k) := Sd.imp (fun lo st h cn sn hk => hk) (sd_lload hC hdg hq hs)
theorem su_aload_n (hC : CF X cc own Ts) {j : Fin 4} {i : Nat} (t : Nat) (hdg : decode cc pc = .ok (.aload_n j, 1)) (hi : (j : Nat) = i) (ht : 4 ≤ t) (hq : (i, t) ∈ Γ) (hs : SdS X (pc + 1) Γ (t :: τ) k) : SdS X pc Γ τ (x_load i k) := Sd.imp (fun lo st h cn sn hk => hk) (sd_aload_n hC t hdg hi ht hq hs)
theorem su_aload (hC : CF X cc own Ts) {i : Nat} (t : Nat) (hdg : decode cc pc = .ok (.aload i, 2)) (ht : 4 ≤ t) (hq : (i, t) ∈ Γ) (hs : SdS X (pc + 2) Γ (t :: τ) k) : SdS X pc Γ τ (x_load i k) := Sd.imp (fun lo st h cn sn hk => hk) (sd_aload hC t hdg ht hq hs)
theorem su_iconst (hC : CF X cc own Ts) {n : Int} (hdg : decode cc pc = .ok (.iconst n, 1)) (hn : inI n) (hs : SdS X (pc + 1) Γ (0 :: τ) k) : SdS X pc Γ τ (x_const n k) := Sd.imp (fun lo st h cn sn hk => hk) (sd_iconst hC hdg hn hs)
theorem su_bipush (hC : CF X cc own Ts) {n : Int} (hdg : decode cc pc = .ok (.bipush n, 2)) (hn : -128 ≤ n ∧ n ≤ 127) (hs : SdS X (pc + 2) Γ (0 :: τ) k) : SdS X pc Γ τ (x_const n k) := Sd.imp (fun lo st h cn sn hk => hk) (sd_bipush hC hdg hn hs)
theorem su_sipush (hC : CF X cc own Ts) {n : Int} (hdg : decode cc pc = .ok (.sipush n, 3)) (hn : -32768 ≤ n ∧ n ≤ 32767) (hs : SdS X (pc + 3) Γ (0 :: τ) k) : SdS X pc Γ τ (x_const n k) := Sd.imp (fun lo st h cn sn hk => hk) (sd_sipush hC hdg hn hs)
theorem su_lconst (hC : CF X cc own Ts) {n : Fin 2} {v : Int} (hv : v = ((n : Nat) : Int)) (hdg : decode cc pc = .ok (.lconst n, 1)) (hs : SdS X (pc + 1) Γ (1 :: τ) k) : SdS X pc Γ τ (x_const v k) := Sd.imp (fun lo st h cn sn hk => hk) (sd_lconst hC hv hdg hs)
theorem su_ldc2 (hC : CF X cc own Ts) {n : Int} {index : Nat} (hw : Cond.constantLong own index (Int64.ofInt n) ∈ Ts) (hdg : decode cc pc = .ok (.ldc2_w index, 3)) (hn : inL n) (hs : SdS X (pc + 3) Γ (1 :: τ) k) : SdS X pc Γ τ (x_const n k) := Sd.imp (fun lo st h cn sn hk => hk) (sd_ldc2 hC hw hdg hn hs)
theorem su_ldcS (hC : CF X cc own Ts) {index : Nat} {tx0 : String} {i : Nat} {v : Int} (hv : v = (i : Int)) (hi : i < 24) (hw : (own, index, tx0, i) ∈ strL) (hdg : decode cc pc = .ok (.ldc index, 2)) (hs : SdS X (pc + 2) Γ (5 :: τ) k) : SdS X pc Γ τ (x_const v k) := Sd.imp (fun lo st h cn sn hk => hk) (sd_ldcS hC hv hi hw hdg hs)
theorem su_ldc_wS (hC : CF X cc own Ts) {index : Nat} {tx0 : String} {i : Nat} {v : Int} (hv : v = (i : Int)) (hi : i < 24) (hw : (own, index, tx0, i) ∈ strL) (hdg : decode cc pc = .ok (.ldc_w index, 3)) (hs : SdS X (pc + 3) Γ (5 :: τ) k) : SdS X pc Γ τ (x_const v k) := Sd.imp (fun lo st h cn sn hk => hk) (sd_ldc_wS hC hv hi hw hdg hs)
theorem su_ldc (hC : CF X cc own Ts) {n : Int} {index : Nat} (hw : Cond.constant own index (Int32.ofInt n) ∈ Ts) (hdg : decode cc pc = .ok (.ldc index, 2)) (hn : inI n) (hs : SdS X (pc + 2) Γ (0 :: τ) k) : SdS X pc Γ τ (x_const n k) := Sd.imp (fun lo st h cn sn hk => hk) (sd_ldc hC hw hdg hn hs)
theorem su_istore_n (hC : CF X cc own Ts) {j : Fin 4} {i : Nat} (hdg : decode cc pc = .ok (.istore_n j, 1)) (hi : (j : Nat) = i) (hn : i < xn X) (hg : g1 Γ Γ' i 0 = true) (hs : SdS X (pc + 1) Γ' τ k) : SdS X pc Γ (0 :: τ) (x_store i k) := Sd.imp (fun lo st h cn sn hk => hk) (sd_istore_n hC hdg hi hn hg hs)
theorem su_lstore_n (hC : CF X cc own Ts) {j : Fin 4} {i : Nat} (hdg : decode cc pc = .ok (.lstore_n j, 1)) (hi : (j : Nat) = i) (hn : i + 1 < xn X) (hg : g2 Γ Γ' i 1 = true) (hs : SdS X (pc + 1) Γ' τ k) : SdS X pc Γ (1 :: τ) (x_store i k) := Sd.imp (fun lo st h cn sn hk => hk) (sd_lstore_n hC hdg hi hn hg hs)
theorem su_istore (hC : CF X cc own Ts) {i : Nat} (hdg : decode cc pc = .ok (.istore i, 2)) (hn : i < xn X) (hg : g1 Γ Γ' i 0 = true) (hs : SdS X (pc + 2) Γ' τ k) : SdS X pc Γ (0 :: τ) (x_store i k) := Sd.imp (fun lo st h cn sn hk => hk) (sd_istore hC hdg hn hg hs)
theorem su_lstore (hC : CF X cc own Ts) {i : Nat} (hdg : decode cc pc = .ok (.lstore i, 2)) (hn : i + 1 < xn X) (hg : g2 Γ Γ' i 1 = true) (hs : SdS X (pc + 2) Γ' τ k) : SdS X pc Γ (1 :: τ) (x_store i k) := Sd.imp (fun lo st h cn sn hk => hk) (sd_lstore hC hdg hn hg hs)
theorem su_astore_n (hC : CF X cc own Ts) {j : Fin 4} {i t : Nat} (hdg : decode cc pc = .ok (.astore_n j, 1)) (hi : (j : Nat) = i) (ht : 4 ≤ t) (hn : i < xn X) (hg : g1 Γ Γ' i t = true) (hs : SdS X (pc + 1) Γ' τ k) : SdS X pc Γ (t :: τ) (x_store i k) := Sd.imp (fun lo st h cn sn hk => hk) (sd_astore_n hC hdg hi ht hn hg hs)
theorem su_astore (hC : CF X cc own Ts) {i t : Nat} (hdg : decode cc pc = .ok (.astore i, 2)) (ht : 4 ≤ t) (hn : i < xn X) (hg : g1 Γ Γ' i t = true) (hs : SdS X (pc + 2) Γ' τ k) : SdS X pc Γ (t :: τ) (x_store i k) := Sd.imp (fun lo st h cn sn hk => hk) (sd_astore hC hdg ht hn hg hs)
theorem su_iinc (hC : CF X cc own Ts) {i : Nat} {d : Int} (hdg : decode cc pc = .ok (.iinc i d, 3)) (hq : (i, 0) ∈ Γ) (hn : i < xn X) (hg : g1 Γ Γ' i 0 = true) (hs : SdS X (pc + 3) Γ' τ k) : SdS X pc Γ τ (x_iinc i d k) := Sd.imp (fun lo st h cn sn hk => hk) (sd_iinc hC hdg hq hn hg hs)
theorem su_iadd (hC : CF X cc own Ts) (hdg : decode cc pc = .ok (.iadd, 1)) (hs : SdS X (pc + 1) Γ (0 :: τ) k) : SdS X pc Γ (0 :: 0 :: τ) (x_iadd k) := Sd.imp (fun lo st h cn sn hk => hk) (sd_iadd hC hdg hs)
theorem su_isub (hC : CF X cc own Ts) (hdg : decode cc pc = .ok (.isub, 1)) (hs : SdS X (pc + 1) Γ (0 :: τ) k) : SdS X pc Γ (0 :: 0 :: τ) (x_isub k) := Sd.imp (fun lo st h cn sn hk => hk) (sd_isub hC hdg hs)
theorem su_imul (hC : CF X cc own Ts) (hdg : decode cc pc = .ok (.imul, 1)) (hs : SdS X (pc + 1) Γ (0 :: τ) k) : SdS X pc Γ (0 :: 0 :: τ) (x_imul k) := Sd.imp (fun lo st h cn sn hk => hk) (sd_imul hC hdg hs)
theorem su_ladd (hC : CF X cc own Ts) (hdg : decode cc pc = .ok (.ladd, 1)) (hs : SdS X (pc + 1) Γ (1 :: τ) k) : SdS X pc Γ (1 :: 1 :: τ) (x_ladd k) := Sd.imp (fun lo st h cn sn hk => hk) (sd_ladd hC hdg hs)
theorem su_lsub (hC : CF X cc own Ts) (hdg : decode cc pc = .ok (.lsub, 1)) (hs : SdS X (pc + 1) Γ (1 :: τ) k) : SdS X pc Γ (1 :: 1 :: τ) (x_lsub k) := Sd.imp (fun lo st h cn sn hk => hk) (sd_lsub hC hdg hs)
theorem su_lmul (hC : CF X cc own Ts) (hdg : decode cc pc = .ok (.lmul, 1)) (hs : SdS X (pc + 1) Γ (1 :: τ) k) : SdS X pc Γ (1 :: 1 :: τ) (x_lmul k) := Sd.imp (fun lo st h cn sn hk => hk) (sd_lmul hC hdg hs)
theorem su_iaddw (hC : CF X cc own Ts) (hdg : decode cc pc = .ok (.iadd, 1)) (hs : SdS X (pc + 1) Γ (0 :: τ) k) : SdS X pc Γ (0 :: 0 :: τ) (x_iaddw k) := Sd.imp (fun lo st h cn sn hk => hk) (sd_iaddw hC hdg hs)
theorem su_isubw (hC : CF X cc own Ts) (hdg : decode cc pc = .ok (.isub, 1)) (hs : SdS X (pc + 1) Γ (0 :: τ) k) : SdS X pc Γ (0 :: 0 :: τ) (x_isubw k) := Sd.imp (fun lo st h cn sn hk => hk) (sd_isubw hC hdg hs)
theorem su_imulw (hC : CF X cc own Ts) (hdg : decode cc pc = .ok (.imul, 1)) (hs : SdS X (pc + 1) Γ (0 :: τ) k) : SdS X pc Γ (0 :: 0 :: τ) (x_imulw k) := Sd.imp (fun lo st h cn sn hk => hk) (sd_imulw hC hdg hs)
theorem su_laddw (hC : CF X cc own Ts) (hdg : decode cc pc = .ok (.ladd, 1)) (hs : SdS X (pc + 1) Γ (1 :: τ) k) : SdS X pc Γ (1 :: 1 :: τ) (x_laddw k) := Sd.imp (fun lo st h cn sn hk => hk) (sd_laddw hC hdg hs)
theorem su_lsubw (hC : CF X cc own Ts) (hdg : decode cc pc = .ok (.lsub, 1)) (hs : SdS X (pc + 1) Γ (1 :: τ) k) : SdS X pc Γ (1 :: 1 :: τ) (x_lsubw k) := Sd.imp (fun lo st h cn sn hk => hk) (sd_lsubw hC hdg hs)
theorem su_lmulw (hC : CF X cc own Ts) (hdg : decode cc pc = .ok (.lmul, 1)) (hs : SdS X (pc + 1) Γ (1 :: τ) k) : SdS X pc Γ (1 :: 1 :: τ) (x_lmulw k) := Sd.imp (fun lo st h cn sn hk => hk) (sd_lmulw hC hdg hs)
theorem su_idiv (hC : CF X cc own Ts) (hdg : decode cc pc = .ok (.idiv, 1)) (hs : SdS X (pc + 1) Γ (0 :: τ) k) : SdS X pc Γ (0 :: 0 :: τ) (x_idiv k) := Sd.imp (fun lo st h cn sn hk => hk) (sd_idiv hC hdg hs)
theorem su_irem (hC : CF X cc own Ts) (hdg : decode cc pc = .ok (.irem, 1)) (hs : SdS X (pc + 1) Γ (0 :: τ) k) : SdS X pc Γ (0 :: 0 :: τ) (x_irem k) := Sd.imp (fun lo st h cn sn hk => hk) (sd_irem hC hdg hs)
theorem su_iand (hC : CF X cc own Ts) (hdg : decode cc pc = .ok (.iand, 1)) (hs : SdS X (pc + 1) Γ (0 :: τ) k) : SdS X pc Γ (0 :: 0 :: τ) (x_iand k) := Sd.imp (fun lo st h cn sn hk => hk) (sd_iand hC hdg hs)
theorem su_ior (hC : CF X cc own Ts) (hdg : decode cc pc = .ok (.ior, 1)) (hs : SdS X (pc + 1) Γ (0 :: τ) k) : SdS X pc Γ (0 :: 0 :: τ) (x_ior k) := Sd.imp (fun lo st h cn sn hk => hk) (sd_ior hC hdg hs)
theorem su_ishl (hC : CF X cc own Ts) (hdg : decode cc pc = .ok (.ishl, 1)) (hs : SdS X (pc + 1) Γ (0 :: τ) k) : SdS X pc Γ (0 :: 0 :: τ) (x_ishl k) := Sd.imp (fun lo st h cn sn hk => hk) (sd_ishl hC hdg hs)
theorem su_ishr (hC : CF X cc own Ts) (hdg : decode cc pc = .ok (.ishr, 1)) (hs : SdS X (pc + 1) Γ (0 :: τ) k) : SdS X pc Γ (0 :: 0 :: τ) (x_ishr k) := Sd.imp (fun lo st h cn sn hk => hk) (sd_ishr hC hdg hs)
theorem su_iushr (hC : CF X cc own Ts) (hdg : decode cc pc = .ok (.iushr, 1)) (hs : SdS X (pc + 1) Γ (0 :: τ) k) : SdS X pc Γ (0 :: 0 :: τ) (x_iushr k) := Sd.imp (fun lo st h cn sn hk => hk) (sd_iushr hC hdg hs)
theorem su_ldiv (hC : CF X cc own Ts) (hdg : decode cc pc = .ok (.ldiv, 1)) (hs : SdS X (pc + 1) Γ (1 :: τ) k) : SdS X pc Γ (1 :: 1 :: τ) (x_ldiv k) := Sd.imp (fun lo st h cn sn hk => hk) (sd_ldiv hC hdg hs)
theorem su_lrem (hC : CF X cc own Ts) (hdg : decode cc pc = .ok (.lrem, 1)) (hs : SdS X (pc + 1) Γ (1 :: τ) k) : SdS X pc Γ (1 :: 1 :: τ) (x_lrem k) := Sd.imp (fun lo st h cn sn hk => hk) (sd_lrem hC hdg hs)
theorem su_lcmp (hC : CF X cc own Ts) (hdg : decode cc pc = .ok (.lcmp, 1)) (hs : SdS X (pc + 1) Γ (0 :: τ) k) : SdS X pc Γ (1 :: 1 :: τ) (x_lcmp k) := Sd.imp (fun lo st h cn sn hk => hk) (sd_lcmp hC hdg hs)
theorem su_i2l (hC : CF X cc own Ts) (hdg : decode cc pc = .ok (.i2l, 1)) (hs : SdS X (pc + 1) Γ (1 :: τ) k) : SdS X pc Γ (0 :: τ) (x_i2l k) := Sd.imp (fun lo st h cn sn hk => hk) (sd_i2l hC hdg hs)
theorem su_l2i (hC : CF X cc own Ts) (hdg : decode cc pc = .ok (.l2i, 1)) (hs : SdS X (pc + 1) Γ (0 :: τ) k) : SdS X pc Γ (1 :: τ) (x_l2i k) := Sd.imp (fun lo st h cn sn hk => hk) (sd_l2i hC hdg hs)
theorem su_i2b (hC : CF X cc own Ts) (hdg : decode cc pc = .ok (.i2b, 1)) (hs : SdS X (pc + 1) Γ (0 :: τ) k) : SdS X pc Γ (0 :: τ) (x_i2b k) := Sd.imp (fun lo st h cn sn hk => hk) (sd_i2b hC hdg hs)
theorem su_cstr (hC : CF X cc own Ts) {index : Nat} (hw : Cond.fieldLink own index "java/lang/String" "COMPACT_STRINGS" "Z" ∈ Ts) (hdg : decode cc pc = .ok (.getstatic index, 3)) (hs : SdS X (pc + 3) Γ (0 :: τ) k) : SdS X pc Γ τ (x_const 1 k) := Sd.imp (fun lo st h cn sn hk => hk) (sd_cstr hC hw hdg hs)
theorem su_i2c (hC : CF X cc own Ts) (hdg : decode cc pc = .ok (.i2c, 1)) (hs : SdS X (pc + 1) Γ (0 :: τ) k) : SdS X pc Γ (0 :: τ) (x_i2c k) := Sd.imp (fun lo st h cn sn hk => hk) (sd_i2c hC hdg hs)
theorem su_sco (hC : CF X cc own Ts) {index : Nat} (hw : Cond.fieldLink own index "java/lang/String" "coder" "B" ∈ Ts) (hdg : decode cc pc = .ok (.getfield index, 3)) (hs : SdS X (pc + 3) Γ (0 :: τ) k) : SdS X pc Γ (5 :: τ) (x_sco k) := Sd.imp (fun lo st h cn sn hk => hk) (sd_sco hC hw hdg hs)
theorem su_sval (hC : CF X cc own Ts) {index : Nat} (hw : Cond.fieldLink own index "java/lang/String" "value" "[B" ∈ Ts) (hdg : decode cc pc = .ok (.getfield index, 3)) (hs : SdS X (pc + 3) Γ (4 :: τ) k) : SdS X pc Γ (5 :: τ) (x_skip k) := Sd.imp (fun lo st h cn sn hk => hk) (sd_sval hC hw hdg hs)
theorem su_tlen (hC : CF X cc own Ts) (hdg : decode cc pc = .ok (.arraylength, 1)) (hs : SdS X (pc + 1) Γ (0 :: τ) k) : SdS X pc Γ (4 :: τ) (x_tlen tx k) := Sd.imp (fun lo st h cn sn hk => hk) (sd_tlen hC hdg hs)
theorem su_tat (hC : CF X cc own Ts) (hdg : decode cc pc = .ok (.baload, 1)) (hs : SdS X (pc + 1) Γ (0 :: τ) k) : SdS X pc Γ (0 :: 4 :: τ) (x_tat tx k) := Sd.imp (fun lo st h cn sn hk => hk) (sd_tat hC hdg hs)
theorem su_dup (hC : CF X cc own Ts) {t : Nat} (ht : t ≠ 1) (hdg : decode cc pc = .ok (.dup, 1)) (hs : SdS X (pc + 1) Γ (t :: t :: τ) k) : SdS X pc Γ (t :: τ) (x_dup k) := Sd.imp (fun lo st h cn sn hk => hk) (sd_dup hC ht hdg hs)
theorem su_dup2 (hC : CF X cc own Ts) {t u : Nat} (ht : t ≠ 1) (hu : u ≠ 1) (hdg : decode cc pc = .ok (.dup2, 1)) (hs : SdS X (pc + 1) Γ (t :: u :: t :: u :: τ) k) : SdS X pc Γ (t :: u :: τ) (x_dup2 k) := Sd.imp (fun lo st h cn sn hk => hk) (sd_dup2 hC ht hu hdg hs)
theorem su_pop (hC : CF X cc own Ts) {t : Nat} (ht : t ≠ 1) (hdg : decode cc pc = .ok (.pop, 1)) (hs : SdS X (pc + 1) Γ τ k) : SdS X pc Γ (t :: τ) (x_pop k) := Sd.imp (fun lo st h cn sn hk => hk) (sd_pop hC ht hdg hs)
theorem su_objInit (hC : CF X cc own Ts) {t index : Nat} (ht : 7 ≤ t) (hw1 : Cond.methodLink own index Lib.objectInit ∈ Ts) (hw2 : Cond.instanceMethod Lib.objectInit ∈ Ts) (hw3 : Cond.code Lib.objectInit ⟨#[0xb1]⟩ 1 none ∈ Ts) (hR : 1 ≤ (xR X).frames ∧ 20 ≤ (xR X).locals) (hwd : wd τ ≤ 8) (hdg : decode cc pc = .ok (.invokespecial index, 3)) (hs : SdS X (pc + 3) Γ τ k) : SdS X pc Γ (t :: τ) (x_this 0 (x_pop k)) := Sd.imp (fun lo st h cn sn hk => hk) (sd_objInit hC ht hw1 hw2 hw3 hR hwd hdg hs)
theorem su_imax (hC : CF X cc own Ts) {index : Nat} (hw1 : Cond.methodLink own index Lib.Math.max.name ∈ Ts) (hw2 : Cond.static Lib.Math.max.name ∈ Ts) (hw3 : Cond.initialized "java/lang/Math" ∈ Ts) (hw4 : Cond.code Lib.Math.max.name Lib.Math.max.code 2 (some .int) ∈ Ts) (hR : 1 ≤ (xR X).frames ∧ 21 ≤ (xR X).locals) (hwd : wd τ ≤ 8) (hdg : decode cc pc = .ok (.invokestatic index, 3)) (hs : SdS X (pc + 3) Γ (0 :: τ) k) : SdS X pc Γ (0 :: 0 :: τ) (x_imax k) := Sd.imp (fun lo st h cn sn hk => hk) (sd_imax hC hw1 hw2 hw3 hw4 hR hwd hdg hs)
theorem su_imin (hC : CF X cc own Ts) {index : Nat} (hw1 : Cond.methodLink own index Lib.Math.min.name ∈ Ts) (hw2 : Cond.static Lib.Math.min.name ∈ Ts) (hw3 : Cond.initialized "java/lang/Math" ∈ Ts) (hw4 : Cond.code Lib.Math.min.name Lib.Math.min.code 2 (some .int) ∈ Ts) (hR : 1 ≤ (xR X).frames ∧ 21 ≤ (xR X).locals) (hwd : wd τ ≤ 8) (hdg : decode cc pc = .ok (.invokestatic index, 3)) (hs : SdS X (pc + 3) Γ (0 :: τ) k) : SdS X pc Γ (0 :: 0 :: τ) (x_imin k) := Sd.imp (fun lo st h cn sn hk => hk) (sd_imin hC hw1 hw2 hw3 hw4 hR hwd hdg hs)
theorem su_goto (hC : CF X cc own Ts) {off : Int} {tgt : Nat} (hdg : decode cc pc = .ok (.goto off, 3)) (ht : (pc : Int) + off = (tgt : Int)) (hs : SdS X tgt Γ τ k) : SdS X pc Γ τ k := Sd.imp (fun lo st h cn sn hk => hk) (sd_goto hC hdg ht hs)
theorem su_icmp_eq (hC : CF X cc own Ts) {off : Int} {tgt : Nat} (hdg : decode cc pc = .ok (.if_icmp .eq off, 3)) (hto : (pc : Int) + off = (tgt : Int)) (ht : SdS X tgt Γ τ kt) (hf : SdS X (pc + 3) Γ τ kf) : SdS X pc Γ (0 :: 0 :: τ) (x_ic (fun x y => x = y) kt kf) := Sd.imp (fun lo st h cn sn hk => hk) (sd_icmp_eq hC hdg hto ht hf)
theorem su_icmp_ne (hC : CF X cc own Ts) {off : Int} {tgt : Nat} (hdg : decode cc pc = .ok (.if_icmp .ne off, 3)) (hto : (pc : Int) + off = (tgt : Int)) (ht : SdS X tgt Γ τ kt) (hf : SdS X (pc + 3) Γ τ kf) : SdS X pc Γ (0 :: 0 :: τ) (x_ic (fun x y => x ≠ y) kt kf) := Sd.imp (fun lo st h cn sn hk => hk) (sd_icmp_ne hC hdg hto ht hf)
theorem su_icmp_lt (hC : CF X cc own Ts) {off : Int} {tgt : Nat} (hdg : decode cc pc = .ok (.if_icmp .lt off, 3)) (hto : (pc : Int) + off = (tgt : Int)) (ht : SdS X tgt Γ τ kt) (hf : SdS X (pc + 3) Γ τ kf) : SdS X pc Γ (0 :: 0 :: τ) (x_ic (fun x y => x < y) kt kf) := Sd.imp (fun lo st h cn sn hk => hk) (sd_icmp_lt hC hdg hto ht hf)
theorem su_icmp_ge (hC : CF X cc own Ts) {off : Int} {tgt : Nat} (hdg : decode cc pc = .ok (.if_icmp .ge off, 3)) (hto : (pc : Int) + off = (tgt : Int)) (ht : SdS X tgt Γ τ kt) (hf : SdS X (pc + 3) Γ τ kf) : SdS X pc Γ (0 :: 0 :: τ) (x_ic (fun x y => y ≤ x) kt kf) := Sd.imp (fun lo st h cn sn hk => hk) (sd_icmp_ge hC hdg hto ht hf)
theorem su_icmp_gt (hC : CF X cc own Ts) {off : Int} {tgt : Nat} (hdg : decode cc pc = .ok (.if_icmp .gt off, 3)) (hto : (pc : Int) + off = (tgt : Int)) (ht : SdS X tgt Γ τ kt) (hf : SdS X (pc + 3) Γ τ kf) : SdS X pc Γ (0 :: 0 :: τ) (x_ic (fun x y => y < x) kt kf) := Sd.imp (fun lo st h cn sn hk => hk) (sd_icmp_gt hC hdg hto ht hf)
theorem su_icmp_le (hC : CF X cc own Ts) {off : Int} {tgt : Nat} (hdg : decode cc pc = .ok (.if_icmp .le off, 3)) (hto : (pc : Int) + off = (tgt : Int)) (ht : SdS X tgt Γ τ kt) (hf : SdS X (pc + 3) Γ τ kf) : SdS X pc Γ (0 :: 0 :: τ) (x_ic (fun x y => x ≤ y) kt kf) := Sd.imp (fun lo st h cn sn hk => hk) (sd_icmp_le hC hdg hto ht hf)
theorem su_if_eq (hC : CF X cc own Ts) {off : Int} {tgt : Nat} (hdg : decode cc pc = .ok (.ifCond .eq off, 3)) (hto : (pc : Int) + off = (tgt : Int)) (ht : SdS X tgt Γ τ kt) (hf : SdS X (pc + 3) Γ τ kf) : SdS X pc Γ (0 :: τ) (x_iz (fun x => x = 0) kt kf) := Sd.imp (fun lo st h cn sn hk => hk) (sd_if_eq hC hdg hto ht hf)
theorem su_if_ne (hC : CF X cc own Ts) {off : Int} {tgt : Nat} (hdg : decode cc pc = .ok (.ifCond .ne off, 3)) (hto : (pc : Int) + off = (tgt : Int)) (ht : SdS X tgt Γ τ kt) (hf : SdS X (pc + 3) Γ τ kf) : SdS X pc Γ (0 :: τ) (x_iz (fun x => x ≠ 0) kt kf) := Sd.imp (fun lo st h cn sn hk => hk) (sd_if_ne hC hdg hto ht hf)
theorem su_if_lt (hC : CF X cc own Ts) {off : Int} {tgt : Nat} (hdg : decode cc pc = .ok (.ifCond .lt off, 3)) (hto : (pc : Int) + off = (tgt : Int)) (ht : SdS X tgt Γ τ kt) (hf : SdS X (pc + 3) Γ τ kf) : SdS X pc Γ (0 :: τ) (x_iz (fun x => x < 0) kt kf) := Sd.imp (fun lo st h cn sn hk => hk) (sd_if_lt hC hdg hto ht hf)
theorem su_if_ge (hC : CF X cc own Ts) {off : Int} {tgt : Nat} (hdg : decode cc pc = .ok (.ifCond .ge off, 3)) (hto : (pc : Int) + off = (tgt : Int)) (ht : SdS X tgt Γ τ kt) (hf : SdS X (pc + 3) Γ τ kf) : SdS X pc Γ (0 :: τ) (x_iz (fun x => 0 ≤ x) kt kf) := Sd.imp (fun lo st h cn sn hk => hk) (sd_if_ge hC hdg hto ht hf)
theorem su_if_gt (hC : CF X cc own Ts) {off : Int} {tgt : Nat} (hdg : decode cc pc = .ok (.ifCond .gt off, 3)) (hto : (pc : Int) + off = (tgt : Int)) (ht : SdS X tgt Γ τ kt) (hf : SdS X (pc + 3) Γ τ kf) : SdS X pc Γ (0 :: τ) (x_iz (fun x => 0 < x) kt kf) := Sd.imp (fun lo st h cn sn hk => hk) (sd_if_gt hC hdg hto ht hf)
theorem su_if_le (hC : CF X cc own Ts) {off : Int} {tgt : Nat} (hdg : decode cc pc = .ok (.ifCond .le off, 3)) (hto : (pc : Int) + off = (tgt : Int)) (ht : SdS X tgt Γ τ kt) (hf : SdS X (pc + 3) Γ τ kf) : SdS X pc Γ (0 :: τ) (x_iz (fun x => x ≤ 0) kt kf) := Sd.imp (fun lo st h cn sn hk => hk) (sd_if_le hC hdg hto ht hf)
theorem su_ifnull (hC : CF X cc own Ts) {off : Int} {tgt t : Nat} (h7 : 7 ≤ t) (hdg : decode cc pc = .ok (.ifnull off, 3)) (hto : (pc : Int) + off = (tgt : Int)) (ht : SdS X tgt Γ τ kt) (hf : SdS X (pc + 3) Γ τ kf) : SdS X pc Γ (t :: τ) (x_iz (fun x => x = -1) kt kf) := Sd.imp (fun lo st h cn sn hk => hk) (sd_ifnull hC h7 hdg hto ht hf)
theorem su_ifnonnull (hC : CF X cc own Ts) {off : Int} {tgt t : Nat} (h7 : 7 ≤ t) (hdg : decode cc pc = .ok (.ifnonnull off, 3)) (hto : (pc : Int) + off = (tgt : Int)) (ht : SdS X tgt Γ τ kt) (hf : SdS X (pc + 3) Γ τ kf) : SdS X pc Γ (t :: τ) (x_iz (fun x => x ≠ -1) kt kf) := Sd.imp (fun lo st h cn sn hk => hk) (sd_ifnonnull hC h7 hdg hto ht hf)
theorem su_getF (hC : CF X cc own Ts) {ci j index : Nat} {C : String} {T : u_T} {N : Nat} {i : Int} (hc : clsA[ci]? = some (C, T, N)) (hi : i = (j : Int)) (hj : j < N) (hin : ∀ w ∈ u_ws C T N, w ∈ Ts) (hlk : Cond.fieldLink own index (T j).1 (T j).2.1 (T j).2.2.1 ∈ Ts) (hp : isP (10 + ci) i = false) (hdg : decode cc pc = .ok (.getfield index, 3)) (hs : SdS X (pc + 3) Γ (sty (ft (10 + ci) j) :: τ) k) : SdS X pc Γ ((10 + ci) :: τ) (x_getF i k) := by
  have hci : ci < 11 := (List.getElem?_eq_some_iff.mp hc).1
  refine Sd.impT ?_ (sd_get hC hc hi hj hin hlk hdg hs)
  intro lo st h cn sn hK hS hk
  obtain ⟨a, st, rfl, v1, hS⟩ := hS.c1
  refine ⟨hk.1, ?_⟩
  have e := vFd_of ((vt_obj (by omega) v1).resolve_left hk.1) (by omega) hp
  have hk2 : k lo (vFd h a i :: st) (spl h) cn sn := hk.2
  rw [e] at hk2
  exact hk2
theorem su_getR (hC : CF X cc own Ts) {ci j index : Nat} {C : String} {T : u_T} {N : Nat} {i : Int} (hc : clsA[ci]? = some (C, T, N)) (hi : i = (j : Int)) (hj : j < N) (hin : ∀ w ∈ u_ws C T N, w ∈ Ts) (hlk : Cond.fieldLink own index (T j).1 (T j).2.1 (T j).2.2.1 ∈ Ts) (hp : isP (10 + ci) i = true) (hdg : decode cc pc = .ok (.getfield index, 3)) (hs : SdS X (pc + 3) Γ (sty (ft (10 + ci) j) :: τ) k) : SdS X pc Γ ((10 + ci) :: τ) (x_getR i k) := by
  have hci : ci < 11 := (List.getElem?_eq_some_iff.mp hc).1
  refine Sd.impT ?_ (sd_get hC hc hi hj hin hlk hdg hs)
  intro lo st h cn sn hK hS hk
  obtain ⟨a, st, rfl, v1, hS⟩ := hS.c1
  refine ⟨hk.1, ?_⟩
  have e := vRf_of ((vt_obj (by omega) v1).resolve_left hk.1) hp
  have hk2 : k lo (vRf h a i :: st) (spl h) cn sn := hk.2
  rw [e] at hk2
  exact hk2
theorem su_getFN (hC : CF X cc own Ts) {ci j index : Nat} {C host : String} {T : u_T} {N : Nat} {i : Int} (hc : clsA[ci]? = some (C, T, N)) (hi : i = (j : Int)) (hj : j < N) (hin : ∀ w ∈ u_ws C T N, w ∈ Ts) (hlk : (own, index, (T j).1, (T j).2.1, (T j).2.2.1, host) ∈ nestF) (hp : isP (10 + ci) i = false) (hdg : decode cc pc = .ok (.getfield index, 3)) (hs : SdS X (pc + 3) Γ (sty (ft (10 + ci) j) :: τ) k) : SdS X pc Γ ((10 + ci) :: τ) (x_getF i k) := by
  have hci : ci < 11 := (List.getElem?_eq_some_iff.mp hc).1
  refine Sd.impT ?_ (sd_getN hC hc hi hj hin hlk hdg hs)
  intro lo st h cn sn hK hS hk
  obtain ⟨a, st, rfl, v1, hS⟩ := hS.c1
  refine ⟨hk.1, ?_⟩
  have e := vFd_of ((vt_obj (by omega) v1).resolve_left hk.1) (by omega) hp
  have hk2 : k lo (vFd h a i :: st) (spl h) cn sn := hk.2
  rw [e] at hk2
  exact hk2
theorem su_getRN (hC : CF X cc own Ts) {ci j index : Nat} {C host : String} {T : u_T} {N : Nat} {i : Int} (hc : clsA[ci]? = some (C, T, N)) (hi : i = (j : Int)) (hj : j < N) (hin : ∀ w ∈ u_ws C T N, w ∈ Ts) (hlk : (own, index, (T j).1, (T j).2.1, (T j).2.2.1, host) ∈ nestF) (hp : isP (10 + ci) i = true) (hdg : decode cc pc = .ok (.getfield index, 3)) (hs : SdS X (pc + 3) Γ (sty (ft (10 + ci) j) :: τ) k) : SdS X pc Γ ((10 + ci) :: τ) (x_getR i k) := by
  have hci : ci < 11 := (List.getElem?_eq_some_iff.mp hc).1
  refine Sd.impT ?_ (sd_getN hC hc hi hj hin hlk hdg hs)
  intro lo st h cn sn hK hS hk
  obtain ⟨a, st, rfl, v1, hS⟩ := hS.c1
  refine ⟨hk.1, ?_⟩
  have e := vRf_of ((vt_obj (by omega) v1).resolve_left hk.1) hp
  have hk2 : k lo (vRf h a i :: st) (spl h) cn sn := hk.2
  rw [e] at hk2
  exact hk2
theorem su_putF (hC : CF X cc own Ts) {ci j index : Nat} {C : String} {T : u_T} {N : Nat} {i : Int} (ty0 : Nat → FieldType) (hty : ∀ k, k < N → parseFieldDescriptor (T k).2.2.1 = some (ty0 k)) (hnm : ∀ a, a < N → ∀ b, b < N → a ≠ b → (T a).2.1 ≠ (T b).2.1) (hc : clsA[ci]? = some (C, T, N)) (hi : i = (j : Int)) (hj : j < N) (hin : ∀ w ∈ u_ws C T N, w ∈ Ts) (hct : cty (ty0 j) (ft (10 + ci) j) = true) (hfin : (T j).2.2.2 = false) (hlk : Cond.fieldLink own index (T j).1 (T j).2.1 (T j).2.2.1 ∈ Ts) (hp : isP (10 + ci) i = false) (hdg : decode cc pc = .ok (.putfield index, 3)) (hs : SdS X (pc + 3) Γ τ k) : SdS X pc Γ (ft (10 + ci) j :: (10 + ci) :: τ) (x_putF i k) := by
  have hci : ci < 11 := (List.getElem?_eq_some_iff.mp hc).1
  refine Sd.impT ?_ (sd_put hC ty0 hty hnm hc hi hj hin hct hfin hlk hdg hs)
  intro lo st h cn sn hK hS hk
  obtain ⟨v, a, st, rfl, v1, v2, hS⟩ := hS.c2
  refine ⟨hk.1, ?_⟩
  show k lo st (spl (Up h a i v)) cn sn
  rw [spl_UpF ((vt_obj (by omega) v2).resolve_left hk.1) (by omega) hp]
  exact hk.2
theorem su_putR (hC : CF X cc own Ts) {ci j index : Nat} {C : String} {T : u_T} {N : Nat} {i : Int} (ty0 : Nat → FieldType) (hty : ∀ k, k < N → parseFieldDescriptor (T k).2.2.1 = some (ty0 k)) (hnm : ∀ a, a < N → ∀ b, b < N → a ≠ b → (T a).2.1 ≠ (T b).2.1) (hc : clsA[ci]? = some (C, T, N)) (hi : i = (j : Int)) (hj : j < N) (hin : ∀ w ∈ u_ws C T N, w ∈ Ts) (hct : cty (ty0 j) (ft (10 + ci) j) = true) (hfin : (T j).2.2.2 = false) (hlk : Cond.fieldLink own index (T j).1 (T j).2.1 (T j).2.2.1 ∈ Ts) (hp : isP (10 + ci) i = true) (hdg : decode cc pc = .ok (.putfield index, 3)) (hs : SdS X (pc + 3) Γ τ k) : SdS X pc Γ (ft (10 + ci) j :: (10 + ci) :: τ) (x_putR i k) := by
  have hci : ci < 11 := (List.getElem?_eq_some_iff.mp hc).1
  refine Sd.impT ?_ (sd_put hC ty0 hty hnm hc hi hj hin hct hfin hlk hdg hs)
  intro lo st h cn sn hK hS hk
  obtain ⟨v, a, st, rfl, v1, v2, hS⟩ := hS.c2
  refine ⟨hk.1, ?_⟩
  show k lo st (spl (Up h a i v)) cn sn
  rw [spl_UpR ((vt_obj (by omega) v2).resolve_left hk.1) hp]
  exact hk.2
theorem su_putFN (hC : CF X cc own Ts) {ci j index : Nat} {C host : String} {T : u_T} {N : Nat} {i : Int} (ty0 : Nat → FieldType) (hty : ∀ k, k < N → parseFieldDescriptor (T k).2.2.1 = some (ty0 k)) (hnm : ∀ a, a < N → ∀ b, b < N → a ≠ b → (T a).2.1 ≠ (T b).2.1) (hc : clsA[ci]? = some (C, T, N)) (hi : i = (j : Int)) (hj : j < N) (hin : ∀ w ∈ u_ws C T N, w ∈ Ts) (hct : cty (ty0 j) (ft (10 + ci) j) = true) (hfin : (T j).2.2.2 = false) (hlk : (own, index, (T j).1, (T j).2.1, (T j).2.2.1, host) ∈ nestF) (hp : isP (10 + ci) i = false) (hdg : decode cc pc = .ok (.putfield index, 3)) (hs : SdS X (pc + 3) Γ τ k) : SdS X pc Γ (ft (10 + ci) j :: (10 + ci) :: τ) (x_putF i k) := by
  have hci : ci < 11 := (List.getElem?_eq_some_iff.mp hc).1
  refine Sd.impT ?_ (sd_putN hC ty0 hty hnm hc hi hj hin hct hfin hlk hdg hs)
  intro lo st h cn sn hK hS hk
  obtain ⟨v, a, st, rfl, v1, v2, hS⟩ := hS.c2
  refine ⟨hk.1, ?_⟩
  show k lo st (spl (Up h a i v)) cn sn
  rw [spl_UpF ((vt_obj (by omega) v2).resolve_left hk.1) (by omega) hp]
  exact hk.2
theorem su_putRN (hC : CF X cc own Ts) {ci j index : Nat} {C host : String} {T : u_T} {N : Nat} {i : Int} (ty0 : Nat → FieldType) (hty : ∀ k, k < N → parseFieldDescriptor (T k).2.2.1 = some (ty0 k)) (hnm : ∀ a, a < N → ∀ b, b < N → a ≠ b → (T a).2.1 ≠ (T b).2.1) (hc : clsA[ci]? = some (C, T, N)) (hi : i = (j : Int)) (hj : j < N) (hin : ∀ w ∈ u_ws C T N, w ∈ Ts) (hct : cty (ty0 j) (ft (10 + ci) j) = true) (hfin : (T j).2.2.2 = false) (hlk : (own, index, (T j).1, (T j).2.1, (T j).2.2.1, host) ∈ nestF) (hp : isP (10 + ci) i = true) (hdg : decode cc pc = .ok (.putfield index, 3)) (hs : SdS X (pc + 3) Γ τ k) : SdS X pc Γ (ft (10 + ci) j :: (10 + ci) :: τ) (x_putR i k) := by
  have hci : ci < 11 := (List.getElem?_eq_some_iff.mp hc).1
  refine Sd.impT ?_ (sd_putN hC ty0 hty hnm hc hi hj hin hct hfin hlk hdg hs)
  intro lo st h cn sn hK hS hk
  obtain ⟨v, a, st, rfl, v1, v2, hS⟩ := hS.c2
  refine ⟨hk.1, ?_⟩
  show k lo st (spl (Up h a i v)) cn sn
  rw [spl_UpR ((vt_obj (by omega) v2).resolve_left hk.1) hp]
  exact hk.2
theorem su_putFF (hC : CF X cc own Ts) {ci j index : Nat} {C : String} {T : u_T} {N : Nat} {i : Int} (ty0 : Nat → FieldType) (hty : ∀ k, k < N → parseFieldDescriptor (T k).2.2.1 = some (ty0 k)) (hnm : ∀ a, a < N → ∀ b, b < N → a ≠ b → (T a).2.1 ≠ (T b).2.1) (hc : clsA[ci]? = some (C, T, N)) (hi : i = (j : Int)) (hj : j < N) (hin : ∀ w ∈ u_ws C T N, w ∈ Ts) (hct : cty (ty0 j) (ft (10 + ci) j) = true) (hfin : (T j).2.2.2 = true) (hdecl : (T j).1 = own) (hinit : X.2.2.2.2.2.2.2.2.1.name = "<init>") (hlk : Cond.fieldLink own index (T j).1 (T j).2.1 (T j).2.2.1 ∈ Ts) (hp : isP (10 + ci) i = false) (hdg : decode cc pc = .ok (.putfield index, 3)) (hs : SdS X (pc + 3) Γ τ k) : SdS X pc Γ (ft (10 + ci) j :: (10 + ci) :: τ) (x_putF i k) := by
  have hci : ci < 11 := (List.getElem?_eq_some_iff.mp hc).1
  refine Sd.impT ?_ (sd_putF hC ty0 hty hnm hc hi hj hin hct hfin hdecl hinit hlk hdg hs)
  intro lo st h cn sn hK hS hk
  obtain ⟨v, a, st, rfl, v1, v2, hS⟩ := hS.c2
  refine ⟨hk.1, ?_⟩
  show k lo st (spl (Up h a i v)) cn sn
  rw [spl_UpF ((vt_obj (by omega) v2).resolve_left hk.1) (by omega) hp]
  exact hk.2
theorem su_putRF (hC : CF X cc own Ts) {ci j index : Nat} {C : String} {T : u_T} {N : Nat} {i : Int} (ty0 : Nat → FieldType) (hty : ∀ k, k < N → parseFieldDescriptor (T k).2.2.1 = some (ty0 k)) (hnm : ∀ a, a < N → ∀ b, b < N → a ≠ b → (T a).2.1 ≠ (T b).2.1) (hc : clsA[ci]? = some (C, T, N)) (hi : i = (j : Int)) (hj : j < N) (hin : ∀ w ∈ u_ws C T N, w ∈ Ts) (hct : cty (ty0 j) (ft (10 + ci) j) = true) (hfin : (T j).2.2.2 = true) (hdecl : (T j).1 = own) (hinit : X.2.2.2.2.2.2.2.2.1.name = "<init>") (hlk : Cond.fieldLink own index (T j).1 (T j).2.1 (T j).2.2.1 ∈ Ts) (hp : isP (10 + ci) i = true) (hdg : decode cc pc = .ok (.putfield index, 3)) (hs : SdS X (pc + 3) Γ τ k) : SdS X pc Γ (ft (10 + ci) j :: (10 + ci) :: τ) (x_putR i k) := by
  have hci : ci < 11 := (List.getElem?_eq_some_iff.mp hc).1
  refine Sd.impT ?_ (sd_putF hC ty0 hty hnm hc hi hj hin hct hfin hdecl hinit hlk hdg hs)
  intro lo st h cn sn hK hS hk
  obtain ⟨v, a, st, rfl, v1, v2, hS⟩ := hS.c2
  refine ⟨hk.1, ?_⟩
  show k lo st (spl (Up h a i v)) cn sn
  rw [spl_UpR ((vt_obj (by omega) v2).resolve_left hk.1) hp]
  exact hk.2
theorem su_putz (hC : CF X cc own Ts) {ci j index : Nat} {C : String} {T : u_T} {N : Nat} {i : Int} (ty0 : Nat → FieldType) (hty : ∀ k, k < N → parseFieldDescriptor (T k).2.2.1 = some (ty0 k)) (hnm : ∀ a, a < N → ∀ b, b < N → a ≠ b → (T a).2.1 ≠ (T b).2.1) (hc : clsA[ci]? = some (C, T, N)) (hi : i = (j : Int)) (hj : j < N) (hin : ∀ w ∈ u_ws C T N, w ∈ Ts) (h3 : ft (10 + ci) j = 3) (hct : cty (ty0 j) (ft (10 + ci) j) = true) (hfin : (T j).2.2.2 = false) (hlk : Cond.fieldLink own index (T j).1 (T j).2.1 (T j).2.2.1 ∈ Ts) (hp : isP (10 + ci) i = false) (hdg : decode cc pc = .ok (.putfield index, 3)) (hs : SdS X (pc + 3) Γ τ k) : SdS X pc Γ (0 :: (10 + ci) :: τ) (x_putz i k) := by
  have hci : ci < 11 := (List.getElem?_eq_some_iff.mp hc).1
  refine Sd.impT ?_ (sd_putz hC ty0 hty hnm hc hi hj hin h3 hct hfin hlk hdg hs)
  intro lo st h cn sn hK hS hk
  obtain ⟨v, a, st, rfl, v1, v2, hS⟩ := hS.c2
  refine ⟨hk.1, hk.2.1, ?_⟩
  show k lo st (spl (Up h a i v)) cn sn
  rw [spl_UpF ((vt_obj (by omega) v2).resolve_left hk.1) (by omega) hp]
  exact hk.2.2
theorem su_iaload (hC : CF X cc own Ts) (hdg : decode cc pc = .ok (.iaload, 1)) (hs : SdS X (pc + 1) Γ (0 :: τ) k) : SdS X pc Γ (0 :: 100 :: τ) (x_ald k) := by
  refine Sd.impT ?_ (sd_iaload hC hdg hs)
  intro lo st h cn sn hK hS hk
  obtain ⟨i, a, st, rfl, v1, v2, hS⟩ := hS.c2
  have hka : Kd h a = some (100 + 0) := (vt_obj (by omega) v2).resolve_left hk.1
  have hk1 : 0 ≤ i ∧ i < vLg h a := hk.2.1
  rw [vLg_of hka] at hk1
  have hk2 : k lo (vEl h a i :: st) (spl h) cn sn := hk.2.2
  rw [vEl_of hka (by omega) (isP_arr _ _)] at hk2
  exact ⟨hk.1, hk1, hk2⟩
theorem su_laload (hC : CF X cc own Ts) (hdg : decode cc pc = .ok (.laload, 1)) (hs : SdS X (pc + 1) Γ (1 :: τ) k) : SdS X pc Γ (0 :: 101 :: τ) (x_ald k) := by
  refine Sd.impT ?_ (sd_laload hC hdg hs)
  intro lo st h cn sn hK hS hk
  obtain ⟨i, a, st, rfl, v1, v2, hS⟩ := hS.c2
  have hka : Kd h a = some (100 + 1) := (vt_obj (by omega) v2).resolve_left hk.1
  have hk1 : 0 ≤ i ∧ i < vLg h a := hk.2.1
  rw [vLg_of hka] at hk1
  have hk2 : k lo (vEl h a i :: st) (spl h) cn sn := hk.2.2
  rw [vEl_of hka (by omega) (isP_arr _ _)] at hk2
  exact ⟨hk.1, hk1, hk2⟩
theorem su_baload (hC : CF X cc own Ts) (hdg : decode cc pc = .ok (.baload, 1)) (hs : SdS X (pc + 1) Γ (0 :: τ) k) : SdS X pc Γ (0 :: 102 :: τ) (x_ald k) := by
  refine Sd.impT ?_ (sd_baload hC hdg hs)
  intro lo st h cn sn hK hS hk
  obtain ⟨i, a, st, rfl, v1, v2, hS⟩ := hS.c2
  have hka : Kd h a = some (100 + 2) := (vt_obj (by omega) v2).resolve_left hk.1
  have hk1 : 0 ≤ i ∧ i < vLg h a := hk.2.1
  rw [vLg_of hka] at hk1
  have hk2 : k lo (vEl h a i :: st) (spl h) cn sn := hk.2.2
  rw [vEl_of hka (by omega) (isP_arr _ _)] at hk2
  exact ⟨hk.1, hk1, hk2⟩
theorem su_zaload (hC : CF X cc own Ts) (hdg : decode cc pc = .ok (.baload, 1)) (hs : SdS X (pc + 1) Γ (0 :: τ) k) : SdS X pc Γ (0 :: 103 :: τ) (x_ald k) := by
  refine Sd.impT ?_ (sd_zaload hC hdg hs)
  intro lo st h cn sn hK hS hk
  obtain ⟨i, a, st, rfl, v1, v2, hS⟩ := hS.c2
  have hka : Kd h a = some (100 + 3) := (vt_obj (by omega) v2).resolve_left hk.1
  have hk1 : 0 ≤ i ∧ i < vLg h a := hk.2.1
  rw [vLg_of hka] at hk1
  have hk2 : k lo (vEl h a i :: st) (spl h) cn sn := hk.2.2
  rw [vEl_of hka (by omega) (isP_arr _ _)] at hk2
  exact ⟨hk.1, hk1, hk2⟩
theorem su_aaload (hC : CF X cc own Ts) {e : Nat} {ty : FieldType} (hq : (100 + e, ty) ∈ arrK) (hr : ty.isReference = true) (h7 : sty e = e) (h4 : Nat.ble 4 e = true) (hdg : decode cc pc = .ok (.aaload, 1)) (hs : SdS X (pc + 1) Γ (e :: τ) k) : SdS X pc Γ (0 :: (100 + e) :: τ) (x_aldR k) := by
  refine Sd.impT ?_ (sd_aaload hC hq hr h7 hdg hs)
  intro lo st h cn sn hK hS hk
  obtain ⟨i, a, st, rfl, v1, v2, hS⟩ := hS.c2
  have hka : Kd h a = some (100 + e) := (vt_obj (by omega) v2).resolve_left hk.1
  have hk1 : 0 ≤ i ∧ i < vLg h a := hk.2.1
  rw [vLg_of hka] at hk1
  have hk2 : k lo (vRf h a i :: st) (spl h) cn sn := hk.2.2
  rw [vRf_of hka ((isP_arr _ _).trans h4)] at hk2
  exact ⟨hk.1, hk1, hk2⟩
theorem su_alen (hC : CF X cc own Ts) {e : Nat} {ty : FieldType} (hq : (100 + e, ty) ∈ arrK) (hdg : decode cc pc = .ok (.arraylength, 1)) (hs : SdS X (pc + 1) Γ (0 :: τ) k) : SdS X pc Γ ((100 + e) :: τ) (x_len k) := by
  refine Sd.impT ?_ (sd_alen hC hq hdg hs)
  intro lo st h cn sn hK hS hk
  obtain ⟨a, st, rfl, v2, hS⟩ := hS.c1
  have hka : Kd h a = some (100 + e) := (vt_obj (by omega) v2).resolve_left hk.1
  have hk2 : k lo (vLg h a :: st) (spl h) cn sn := hk.2
  rw [vLg_of hka] at hk2
  exact ⟨hk.1, hk2⟩
theorem su_iastore (hC : CF X cc own Ts) (hdg : decode cc pc = .ok (.iastore, 1)) (hs : SdS X (pc + 1) Γ τ k) : SdS X pc Γ (0 :: 0 :: 100 :: τ) (x_ast k) := by
  refine Sd.impT ?_ (sd_iastore hC hdg hs)
  intro lo st h cn sn hK hS hk
  obtain ⟨v, i, a, st, rfl, v0, v1, v2, hS⟩ := hS.c3
  have hka : Kd h a = some (100 + 0) := (vt_obj (by omega) v2).resolve_left hk.1
  have hk1 : 0 ≤ i ∧ i < vLg h a := hk.2.1
  rw [vLg_of hka] at hk1
  refine ⟨hk.1, hk1, ?_⟩
  show k lo st (spl (Up h a i v)) cn sn
  rw [spl_UpE hka (by omega) (isP_arr _ _)]
  exact hk.2.2
theorem su_lastore (hC : CF X cc own Ts) (hdg : decode cc pc = .ok (.lastore, 1)) (hs : SdS X (pc + 1) Γ τ k) : SdS X pc Γ (1 :: 0 :: 101 :: τ) (x_ast k) := by
  refine Sd.impT ?_ (sd_lastore hC hdg hs)
  intro lo st h cn sn hK hS hk
  obtain ⟨v, i, a, st, rfl, v0, v1, v2, hS⟩ := hS.c3
  have hka : Kd h a = some (100 + 1) := (vt_obj (by omega) v2).resolve_left hk.1
  have hk1 : 0 ≤ i ∧ i < vLg h a := hk.2.1
  rw [vLg_of hka] at hk1
  refine ⟨hk.1, hk1, ?_⟩
  show k lo st (spl (Up h a i v)) cn sn
  rw [spl_UpE hka (by omega) (isP_arr _ _)]
  exact hk.2.2
theorem su_bastore (hC : CF X cc own Ts) (hdg : decode cc pc = .ok (.bastore, 1)) (hs : SdS X (pc + 1) Γ τ k) : SdS X pc Γ (0 :: 0 :: 102 :: τ) (x_astb k) := by
  refine Sd.impT ?_ (sd_bastore hC hdg hs)
  intro lo st h cn sn hK hS hk
  obtain ⟨v, i, a, st, rfl, v0, v1, v2, hS⟩ := hS.c3
  have hka : Kd h a = some (100 + 2) := (vt_obj (by omega) v2).resolve_left hk.1
  have hk1 : 0 ≤ i ∧ i < vLg h a := hk.2.1
  rw [vLg_of hka] at hk1
  refine ⟨hk.1, hk1, ?_⟩
  show k lo st (spl (Up h a i (wB v))) cn sn
  rw [spl_UpE hka (by omega) (isP_arr _ _)]
  exact hk.2.2
theorem su_zastore (hC : CF X cc own Ts) (hdg : decode cc pc = .ok (.bastore, 1)) (hs : SdS X (pc + 1) Γ τ k) : SdS X pc Γ (0 :: 0 :: 103 :: τ) (x_astz k) := by
  refine Sd.impT ?_ (sd_zastore hC hdg hs)
  intro lo st h cn sn hK hS hk
  obtain ⟨v, i, a, st, rfl, v0, v1, v2, hS⟩ := hS.c3
  have hka : Kd h a = some (100 + 3) := (vt_obj (by omega) v2).resolve_left hk.1
  have hk1 : 0 ≤ i ∧ i < vLg h a := hk.2.1
  rw [vLg_of hka] at hk1
  refine ⟨hk.1, hk1, hk.2.2.1, ?_⟩
  show k lo st (spl (Up h a i v)) cn sn
  rw [spl_UpE hka (by omega) (isP_arr _ _)]
  exact hk.2.2.2
theorem su_aastore (hC : CF X cc own Ts) {ci : Nat} {q : vw_C} (hq : (100 + (10 + ci), FieldType.object q.1) ∈ arrK) (hc : clsA[ci]? = some q) (hdg : decode cc pc = .ok (.aastore, 1)) (hs : SdS X (pc + 1) Γ τ k) : SdS X pc Γ ((10 + ci) :: 0 :: (100 + (10 + ci)) :: τ) (x_asta k) := by
  refine Sd.impT ?_ (sd_aastore hC hq hc hdg hs)
  intro lo st h cn sn hK hS hk
  obtain ⟨v, i, a, st, rfl, v0, v1, v2, hS⟩ := hS.c3
  have hka : Kd h a = some (100 + (10 + ci)) := (vt_obj (by omega) v2).resolve_left hk.1
  have hk1 : 0 ≤ i ∧ i < vLg h a := hk.2.2.1
  rw [vLg_of hka] at hk1
  refine ⟨hk.1, hk.2.1, hk1, ?_⟩
  show k lo st (spl (Up h a i v)) cn sn
  rw [spl_UpR hka ((isP_arr _ _).trans (Nat.ble_eq_true_of_le (by omega)))]
  exact hk.2.2.2
theorem su_new (hC : CF X cc own Ts) {ci index mc ms : Nat} {C : String} {T : u_T} {N : Nat} (ty0 : Nat → FieldType) (hty : ∀ k, k < N → parseFieldDescriptor (T k).2.2.1 = some (ty0 k)) (hct : ∀ k, k < N → cty (ty0 k) (ft (10 + ci) k) = true) (hc : clsA[ci]? = some (C, T, N)) (hin : ∀ w ∈ u_ws C T N, w ∈ Ts) (hcl : Cond.classLink own index C ∈ Ts) (hins : Cond.instantiable C N ∈ Ts) (hini : Cond.initialized C ∈ Ts) (hmc : (xR X).cells = mc) (hms : (xR X).slots = ms) (hdg : decode cc pc = .ok (.new index, 3)) (hs : SdS X (pc + 3) Γ ((10 + ci) :: τ) k) : SdS X pc Γ τ (x_new N mc ms k) := by
  have hci : ci < 11 := (List.getElem?_eq_some_iff.mp hc).1
  refine Sd.impT ?_ (sd_new hC ty0 hty hct hc hin hcl hins hini hmc hms hdg hs)
  intro lo st h cn sn hK hS hk
  refine ⟨hk.1, ?_⟩
  show k lo ((Nx h : Int) :: st) (spl (Nw h (10 + ci) 0 (fun j => dfl (ft (10 + ci) j.toNat)))) (cn + 1) (sn + N)
  rw [spl_newO (none_of hK (by omega)) (by omega)]
  exact hk.2
theorem su_newa (hC : CF X cc own Ts) {atype : ArrayType} {e mc ms : Nat} (hq : (100 + e, newarray.typeOf atype) ∈ arrK) (hobj : ∀ C, newarray.typeOf atype ≠ .object C) (hct : cty (newarray.typeOf atype) e = true) (hcb : componentBytes (newarray.typeOf atype) ≤ 8) (hw : Cond.arrayClass (newarray.typeOf atype) ∈ Ts) (hmc : (xR X).cells = mc) (hms : (xR X).slots = ms) (hdg : decode cc pc = .ok (.newarray atype, 2)) (hs : SdS X (pc + 2) Γ ((100 + e) :: τ) k) : SdS X pc Γ (0 :: τ) (x_newa mc ms k) := by
  refine Sd.impT ?_ (sd_newa hC hq hobj hct hcb hw hmc hms hdg hs)
  intro lo st h cn sn hK hS hk
  obtain ⟨z, st, rfl, v1, hS⟩ := hS.c1
  refine ⟨hk.1, hk.2.1, ?_⟩
  show k lo ((Nx h : Int) :: st) (spl (Nw h (100 + e) z (fun _ => dfl e))) (cn + 1) (sn + z.toNat)
  rw [spl_newA (none_of hK (by omega))]
  exact hk.2.2
theorem su_anew (hC : CF X cc own Ts) {C : String} {e mc ms index : Nat} (hq : (100 + e, FieldType.object C) ∈ arrK) (hct : cty (.object C) e = true) (hC3 : C ∈ [RX2, RX6, RX7]) (hcl0 : Cond.classLink own index C ∈ Ts) (hmc : (xR X).cells = mc) (hms : (xR X).slots = ms) (hdg : decode cc pc = .ok (.anewarray index, 3)) (hs : SdS X (pc + 3) Γ ((100 + e) :: τ) k) : SdS X pc Γ (0 :: τ) (x_newa mc ms k) := by
  refine Sd.impT ?_ (sd_anew hC hq hct hC3 hcl0 hmc hms hdg hs)
  intro lo st h cn sn hK hS hk
  obtain ⟨z, st, rfl, v1, hS⟩ := hS.c1
  refine ⟨hk.1, hk.2.1, ?_⟩
  show k lo ((Nx h : Int) :: st) (spl (Nw h (100 + e) z (fun _ => dfl e))) (cn + 1) (sn + z.toNat)
  rw [spl_newA (none_of hK (by omega))]
  exact hk.2.2
theorem su_mna (hC : CF X cc own Ts) {index mc ms : Nat} (hw1 : Cond.classLink own index "[[I" ∈ Ts) (hw2 : Cond.arrayClass .int ∈ Ts) (hmc : (xR X).cells = mc) (hms : (xR X).slots = ms) (hdg : decode cc pc = .ok (.multianewarray index 2, 4)) (hs : SdS X (pc + 4) Γ (200 :: τ) k) : SdS X pc Γ (0 :: 0 :: τ) (x_mna mc ms k) := by
  refine Sd.impT ?_ (sd_mna hC hw1 hw2 hmc hms hdg hs)
  intro lo st h cn sn hK hS hk
  obtain ⟨b, a, st, rfl, v1, v2, hS⟩ := hS.c2
  refine ⟨hk.1, hk.2.1, ?_⟩
  show k lo ((Nx h : Int) :: st) (spl (Nm (Nw h 200 a (fun j => (Nx h : Int) + 1 + j)) 100 a.toNat b)) (cn + 1 + a.toNat) (sn + a.toNat + a.toNat * b.toNat)
  rw [spl_mna fun q hq => none_of hK hq]
  exact hk.2.2
theorem su_acopy (hC : CF X cc own Ts) {index : Nat} (hw1 : Cond.methodLink own index arraycopyName ∈ Ts) (hw2 : Cond.native arraycopyName ∈ Ts) (hw3 : Cond.static arraycopyName ∈ Ts) (hw4 : Cond.initialized "java/lang/System" ∈ Ts) (hR : 1 ≤ (xR X).frames ∧ 26 ≤ (xR X).locals) (hwd : wd τ ≤ 8) (hdg : decode cc pc = .ok (.invokestatic index, 3)) (hs : SdS X (pc + 3) Γ τ k) : SdS X pc Γ (0 :: 0 :: 100 :: 0 :: 100 :: τ) (x_acopy k) := by
  refine Sd.impT ?_ (sd_acopy hC hw1 hw2 hw3 hw4 hR hwd hdg hs)
  intro lo st h cn sn hK hS hk
  obtain ⟨z, dp, d, st, rfl, v1, v2, v3, hS⟩ := hS.c3
  obtain ⟨sp, a, st, rfl, v4, v5, hS⟩ := hS.c2
  obtain ⟨⟨p1, p2, p3, p4, p5, p6, p7⟩, hk⟩ := hk
  have hka : Kd h a = some (100 + 0) := (vt_obj (by omega) v5).resolve_left p1
  have hkd : Kd h d = some (100 + 0) := (vt_obj (by omega) v3).resolve_left p2
  have p6 : sp + z ≤ vLg h a := p6
  have p7 : dp + z ≤ vLg h d := p7
  rw [vLg_of hka] at p6
  rw [vLg_of hkd] at p7
  refine ⟨⟨p1, p2, p3, p4, p5, p6, p7⟩, ?_⟩
  show k lo st (spl (Cp h a sp d dp z)) cn sn
  rw [spl_Cp hka hkd]
  exact hk
theorem su_inv (hC : CF X cc own Ts) {y : MethodName} {cd : ByteArray} {mx index ci t na mc ms MC MS : Nat} {ret : Option FieldType} {rm : Room} {τr : List Nat} {f : xM} {q : vw_C} (hg : Ts.all goodWord = true) (hM : MtS X.2.1 y (Cond.code y cd mx ret :: Ts) rm ((10 + ci) :: τr) (some t) f) (hτ : τf = ((10 + ci) :: τr).reverse ++ τ) (hna : na = τr.length + 1) (hmc : rm.cells = mc) (hms : rm.slots = ms) (hRc : (xR X).cells = MC) (hRs : (xR X).slots = MS) (hcl : clsA[ci]? = some q) (hqy : y.cls = q.1) (hw1 : Cond.methodLink own index y ∈ Ts) (hw2 : Cond.instanceMethod y ∈ Ts) (hw3 : Cond.selects q.1 y y ∈ Ts) (hw4 : Cond.initialized q.1 ∈ Ts) (hw5 : Cond.code y cd mx ret ∈ Ts) (hd : y.cls ≠ "java/lang/invoke/MethodHandle" ∧ y.cls ≠ "java/lang/invoke/VarHandle" ∧ (parseMethodDescriptor y.desc).map (fun d => d.parameters.length) = some τr.length) (hR : rm.frames + 1 ≤ (xR X).frames ∧ 8 + (mx + 11) + rm.locals ≤ (xR X).locals) (hwd : wd τ ≤ 8) (hdg : decode cc pc = .ok (.invokevirtual index, 3)) (hs : SdS X (pc + 3) Γ (t :: τ) k) : SdS X pc Γ τf (x_room mc ms MC MS (x_inv na f mc ms k)) := by
  refine Sd.imp ?_ (sd_inv hC hg hM hτ hna hmc hms hRc hRs hcl hqy hw1 hw2 hw3 hw4 hw5 hd hR hwd hdg hs)
  intro lo st h cn sn hk
  exact ⟨hk.1, hk.2.1, _, fun v h' z => z, hk.2.2⟩
theorem su_invv (hC : CF X cc own Ts) {y : MethodName} {cd : ByteArray} {mx index ci na mc ms MC MS : Nat} {ret : Option FieldType} {rm : Room} {τr : List Nat} {f : xM} {q : vw_C} (hg : Ts.all goodWord = true) (hM : MtS X.2.1 y (Cond.code y cd mx ret :: Ts) rm ((10 + ci) :: τr) none f) (hτ : τf = ((10 + ci) :: τr).reverse ++ τ) (hna : na = τr.length + 1) (hmc : rm.cells = mc) (hms : rm.slots = ms) (hRc : (xR X).cells = MC) (hRs : (xR X).slots = MS) (hcl : clsA[ci]? = some q) (hqy : y.cls = q.1) (hw1 : Cond.methodLink own index y ∈ Ts) (hw2 : Cond.instanceMethod y ∈ Ts) (hw3 : Cond.selects q.1 y y ∈ Ts) (hw4 : Cond.initialized q.1 ∈ Ts) (hw5 : Cond.code y cd mx ret ∈ Ts) (hd : y.cls ≠ "java/lang/invoke/MethodHandle" ∧ y.cls ≠ "java/lang/invoke/VarHandle" ∧ (parseMethodDescriptor y.desc).map (fun d => d.parameters.length) = some τr.length) (hR : rm.frames + 1 ≤ (xR X).frames ∧ 8 + (mx + 11) + rm.locals ≤ (xR X).locals) (hwd : wd τ ≤ 8) (hdg : decode cc pc = .ok (.invokevirtual index, 3)) (hs : SdS X (pc + 3) Γ τ k) : SdS X pc Γ τf (x_room mc ms MC MS (x_invv na f mc ms k)) := by
  refine Sd.imp ?_ (sd_invv hC hg hM hτ hna hmc hms hRc hRs hcl hqy hw1 hw2 hw3 hw4 hw5 hd hR hwd hdg hs)
  intro lo st h cn sn hk
  exact ⟨hk.1, hk.2.1, _, fun v h' z => z, hk.2.2⟩
theorem su_invi (hC : CF X cc own Ts) {y : MethodName} {cd : ByteArray} {mx index ci na mc ms MC MS : Nat} {rm : Room} {τr : List Nat} {f : xM} (hg : Ts.all goodWord = true) (hM : MtS X.2.1 y (Cond.code y cd mx none :: Ts) rm ((10 + ci) :: τr) none f) (hτ : τf = ((10 + ci) :: τr).reverse ++ τ) (hna : na = τr.length + 1) (hmc : rm.cells = mc) (hms : rm.slots = ms) (hRc : (xR X).cells = MC) (hRs : (xR X).slots = MS) (hy1 : y.name = "<init>") (hw1 : Cond.methodLink own index y ∈ Ts) (hw2 : Cond.instanceMethod y ∈ Ts) (hw4 : Cond.initialized y.cls ∈ Ts) (hw5 : Cond.code y cd mx none ∈ Ts) (hd : y.cls ≠ "java/lang/invoke/MethodHandle" ∧ y.cls ≠ "java/lang/invoke/VarHandle" ∧ (parseMethodDescriptor y.desc).map (fun d => d.parameters.length) = some τr.length) (hR : rm.frames + 1 ≤ (xR X).frames ∧ 8 + (mx + 11) + rm.locals ≤ (xR X).locals) (hwd : wd τ ≤ 8) (hdg : decode cc pc = .ok (.invokespecial index, 3)) (hs : SdS X (pc + 3) Γ τ k) : SdS X pc Γ τf (x_room mc ms MC MS (x_invv na f mc ms k)) := by
  refine Sd.imp ?_ (sd_invi hC hg hM hτ hna hmc hms hRc hRs hy1 hw1 hw2 hw4 hw5 hd hR hwd hdg hs)
  intro lo st h cn sn hk
  exact ⟨hk.1, hk.2.1, _, fun v h' z => z, hk.2.2⟩
theorem su_inviN (hC : CF X cc own Ts) {y : MethodName} {cd : ByteArray} {mx index ci na mc ms MC MS : Nat} {rm : Room} {τr : List Nat} {f : xM} {host : String} (hg : Ts.all goodWord = true) (hM : MtS X.2.1 y (Cond.code y cd mx none :: Ts) rm ((10 + ci) :: τr) none f) (hτ : τf = ((10 + ci) :: τr).reverse ++ τ) (hna : na = τr.length + 1) (hmc : rm.cells = mc) (hms : rm.slots = ms) (hRc : (xR X).cells = MC) (hRs : (xR X).slots = MS) (hy1 : y.name = "<init>") (hw1 : (own, index, y, host) ∈ nestM) (hw2 : Cond.instanceMethod y ∈ Ts) (hw4 : Cond.initialized y.cls ∈ Ts) (hw5 : Cond.code y cd mx none ∈ Ts) (hd : y.cls ≠ "java/lang/invoke/MethodHandle" ∧ y.cls ≠ "java/lang/invoke/VarHandle" ∧ (parseMethodDescriptor y.desc).map (fun d => d.parameters.length) = some τr.length) (hR : rm.frames + 1 ≤ (xR X).frames ∧ 8 + (mx + 11) + rm.locals ≤ (xR X).locals) (hwd : wd τ ≤ 8) (hdg : decode cc pc = .ok (.invokespecial index, 3)) (hs : SdS X (pc + 3) Γ τ k) : SdS X pc Γ τf (x_room mc ms MC MS (x_invv na f mc ms k)) := by
  refine Sd.imp ?_ (sd_inviN hC hg hM hτ hna hmc hms hRc hRs hy1 hw1 hw2 hw4 hw5 hd hR hwd hdg hs)
  intro lo st h cn sn hk
  exact ⟨hk.1, hk.2.1, _, fun v h' z => z, hk.2.2⟩
theorem su_inv0 (hC : CF X cc own Ts) {y : MethodName} {cd : ByteArray} {mx index ci t na : Nat} {ret : Option FieldType} {rm : Room} {τr : List Nat} {f : xM} {q : vw_C} (hg : Ts.all goodWord = true) (hM : MtS X.2.1 y (Cond.code y cd mx ret :: Ts) rm ((10 + ci) :: τr) (some t) f) (hτ : τf = ((10 + ci) :: τr).reverse ++ τ) (hna : na = τr.length + 1) (hmc : rm.cells = 0) (hms : rm.slots = 0) (hcl : clsA[ci]? = some q) (hqy : y.cls = q.1) (hw1 : Cond.methodLink own index y ∈ Ts) (hw2 : Cond.instanceMethod y ∈ Ts) (hw3 : Cond.selects q.1 y y ∈ Ts) (hw4 : Cond.initialized q.1 ∈ Ts) (hw5 : Cond.code y cd mx ret ∈ Ts) (hd : y.cls ≠ "java/lang/invoke/MethodHandle" ∧ y.cls ≠ "java/lang/invoke/VarHandle" ∧ (parseMethodDescriptor y.desc).map (fun d => d.parameters.length) = some τr.length) (hR : rm.frames + 1 ≤ (xR X).frames ∧ 8 + (mx + 11) + rm.locals ≤ (xR X).locals) (hwd : wd τ ≤ 8) (hdg : decode cc pc = .ok (.invokevirtual index, 3)) (hs : SdS X (pc + 3) Γ (t :: τ) k) : SdS X pc Γ τf (x_inv na f 0 0 k) := by
  refine Sd.imp ?_ (sd_inv0 hC hg hM hτ hna hmc hms hcl hqy hw1 hw2 hw3 hw4 hw5 hd hR hwd hdg hs)
  intro lo st h cn sn hk
  exact ⟨hk.1, _, fun v h' z => z, hk.2⟩
theorem su_inv0v (hC : CF X cc own Ts) {y : MethodName} {cd : ByteArray} {mx index ci na : Nat} {ret : Option FieldType} {rm : Room} {τr : List Nat} {f : xM} {q : vw_C} (hg : Ts.all goodWord = true) (hM : MtS X.2.1 y (Cond.code y cd mx ret :: Ts) rm ((10 + ci) :: τr) none f) (hτ : τf = ((10 + ci) :: τr).reverse ++ τ) (hna : na = τr.length + 1) (hmc : rm.cells = 0) (hms : rm.slots = 0) (hcl : clsA[ci]? = some q) (hqy : y.cls = q.1) (hw1 : Cond.methodLink own index y ∈ Ts) (hw2 : Cond.instanceMethod y ∈ Ts) (hw3 : Cond.selects q.1 y y ∈ Ts) (hw4 : Cond.initialized q.1 ∈ Ts) (hw5 : Cond.code y cd mx ret ∈ Ts) (hd : y.cls ≠ "java/lang/invoke/MethodHandle" ∧ y.cls ≠ "java/lang/invoke/VarHandle" ∧ (parseMethodDescriptor y.desc).map (fun d => d.parameters.length) = some τr.length) (hR : rm.frames + 1 ≤ (xR X).frames ∧ 8 + (mx + 11) + rm.locals ≤ (xR X).locals) (hwd : wd τ ≤ 8) (hdg : decode cc pc = .ok (.invokevirtual index, 3)) (hs : SdS X (pc + 3) Γ τ k) : SdS X pc Γ τf (x_invv na f 0 0 k) := by
  refine Sd.imp ?_ (sd_inv0v hC hg hM hτ hna hmc hms hcl hqy hw1 hw2 hw3 hw4 hw5 hd hR hwd hdg hs)
  intro lo st h cn sn hk
  exact ⟨hk.1, _, fun v h' z => z, hk.2⟩
theorem su_invs (hC : CF X cc own Ts) {y : MethodName} {cd : ByteArray} {mx index t na : Nat} {ret : Option FieldType} {rm : Room} {τs : List Nat} {f : xM} (nest : Bool) (host : String) (hg : Ts.all goodWord = true) (hM : MtS X.2.1 y (Cond.code y cd mx ret :: Ts) rm τs (some t) f) (hτ : τf = τs.reverse ++ τ) (hna : na = τs.length) (hmc : rm.cells = 0) (hms : rm.slots = 0) (hw1 : if nest = true then (own, index, y, host) ∈ nestM else Cond.methodLink own index y ∈ Ts) (hw2 : Cond.static y ∈ Ts) (hw4 : Cond.initialized y.cls ∈ Ts) (hw5 : Cond.code y cd mx ret ∈ Ts) (hd : y.cls ≠ "java/lang/invoke/MethodHandle" ∧ y.cls ≠ "java/lang/invoke/VarHandle" ∧ (parseMethodDescriptor y.desc).map (fun d => d.parameters.length) = some τs.length) (hR : rm.frames + 1 ≤ (xR X).frames ∧ 8 + (mx + 11) + rm.locals ≤ (xR X).locals) (hwd : wd τ ≤ 8) (hdg : decode cc pc = .ok (.invokestatic index, 3)) (hs : SdS X (pc + 3) Γ (t :: τ) k) : SdS X pc Γ τf (x_call na f 0 0 k) := by
  refine Sd.imp ?_ (sd_invs hC nest host hg hM hτ hna hmc hms hw1 hw2 hw4 hw5 hd hR hwd hdg hs)
  intro lo st h cn sn hk
  exact ⟨_, fun v h' z => z, hk⟩
theorem su_invsv (hC : CF X cc own Ts) {y : MethodName} {cd : ByteArray} {mx index na : Nat} {ret : Option FieldType} {rm : Room} {τs : List Nat} {f : xM} (nest : Bool) (host : String) (hg : Ts.all goodWord = true) (hM : MtS X.2.1 y (Cond.code y cd mx ret :: Ts) rm τs none f) (hτ : τf = τs.reverse ++ τ) (hna : na = τs.length) (hmc : rm.cells = 0) (hms : rm.slots = 0) (hw1 : if nest = true then (own, index, y, host) ∈ nestM else Cond.methodLink own index y ∈ Ts) (hw2 : Cond.static y ∈ Ts) (hw4 : Cond.initialized y.cls ∈ Ts) (hw5 : Cond.code y cd mx ret ∈ Ts) (hd : y.cls ≠ "java/lang/invoke/MethodHandle" ∧ y.cls ≠ "java/lang/invoke/VarHandle" ∧ (parseMethodDescriptor y.desc).map (fun d => d.parameters.length) = some τs.length) (hR : rm.frames + 1 ≤ (xR X).frames ∧ 8 + (mx + 11) + rm.locals ≤ (xR X).locals) (hwd : wd τ ≤ 8) (hdg : decode cc pc = .ok (.invokestatic index, 3)) (hs : SdS X (pc + 3) Γ τ k) : SdS X pc Γ τf (x_callv na f 0 0 k) := by
  refine Sd.imp ?_ (sd_invsv hC nest host hg hM hτ hna hmc hms hw1 hw2 hw4 hw5 hd hR hwd hdg hs)
  intro lo st h cn sn hk
  exact ⟨_, fun v h' z => z, hk⟩
theorem su_invT (hC : CF X cc own Ts) {y : MethodName} {cd : ByteArray} {mx index t na : Nat} {ret : Option FieldType} {rm : Room} {τr : List Nat} {f : xM} (hg : Ts.all goodWord = true) (hM : MtS X.2.1 y (Cond.code y cd mx ret :: Ts) rm (5 :: τr) (some t) f) (hτ : τf = (5 :: τr).reverse ++ τ) (hna : na = τr.length + 1) (hmc : rm.cells = 0) (hms : rm.slots = 0) (hqy : y.cls = "java/lang/String") (hw1 : Cond.methodLink own index y ∈ Ts) (hw2 : Cond.instanceMethod y ∈ Ts) (hw3 : Cond.selects "java/lang/String" y y ∈ Ts) (hw4 : Cond.initialized "java/lang/String" ∈ Ts) (hw5 : Cond.code y cd mx ret ∈ Ts) (hd : y.cls ≠ "java/lang/invoke/MethodHandle" ∧ y.cls ≠ "java/lang/invoke/VarHandle" ∧ (parseMethodDescriptor y.desc).map (fun d => d.parameters.length) = some τr.length) (hR : rm.frames + 1 ≤ (xR X).frames ∧ 8 + (mx + 11) + rm.locals ≤ (xR X).locals) (hwd : wd τ ≤ 8) (hdg : decode cc pc = .ok (.invokevirtual index, 3)) (hs : SdS X (pc + 3) Γ (t :: τ) k) : SdS X pc Γ τf (x_call na f 0 0 k) := by
  refine Sd.imp ?_ (sd_invT hC hg hM hτ hna hmc hms hqy hw1 hw2 hw3 hw4 hw5 hd hR hwd hdg hs)
  intro lo st h cn sn hk
  exact ⟨_, fun v h' z => z, hk⟩
theorem su_ireturn (hC : CF X cc own Ts) {Q : xQ} (hT : RTS X (some .int) (some 0) Q) (hdg : decode cc pc = .ok (.ireturn, 1)) : SdS X pc Γ [0] (x_ret Q) := by
  obtain ⟨Q0, hT, hQ⟩ := hT
  refine Sd.imp ?_ (sd_ireturn hC hT hdg)
  intro lo st h cn sn hk
  cases st with
  | nil => exact hk
  | cons v st => exact hQ v h hk
theorem su_zreturn (hC : CF X cc own Ts) {Q : xQ} (hT : RTS X (some .boolean) (some 0) Q) (hdg : decode cc pc = .ok (.ireturn, 1)) : SdS X pc Γ [0] (x_retz Q) := by
  obtain ⟨Q0, hT, hQ⟩ := hT
  refine Sd.imp ?_ (sd_zreturn hC hT hdg)
  intro lo st h cn sn hk
  cases st with
  | nil => exact hk
  | cons v st => exact ⟨hk.1, hQ v h hk.2⟩
theorem su_lreturn (hC : CF X cc own Ts) {Q : xQ} (hT : RTS X (some .long) (some 1) Q) (hdg : decode cc pc = .ok (.lreturn, 1)) : SdS X pc Γ [1] (x_ret Q) := by
  obtain ⟨Q0, hT, hQ⟩ := hT
  refine Sd.imp ?_ (sd_lreturn hC hT hdg)
  intro lo st h cn sn hk
  cases st with
  | nil => exact hk
  | cons v st => exact hQ v h hk
theorem su_areturn (hC : CF X cc own Ts) {Q : xQ} {t : Nat} {C : String} (ht7 : 7 ≤ t) (hT : RTS X (some (.object C)) (some t) Q) (hdg : decode cc pc = .ok (.areturn, 1)) : SdS X pc Γ [t] (x_ret Q) := by
  obtain ⟨Q0, hT, hQ⟩ := hT
  refine Sd.imp ?_ (sd_areturn hC ht7 hT hdg)
  intro lo st h cn sn hk
  cases st with
  | nil => exact hk
  | cons v st => exact hQ v h hk
theorem su_creturn (hC : CF X cc own Ts) {Q : xQ} (hT : RTS X (some .char) (some 0) Q) (hdg : decode cc pc = .ok (.ireturn, 1)) : SdS X pc Γ [0] (x_retc Q) := by
  obtain ⟨Q0, hT, hQ⟩ := hT
  refine Sd.imp ?_ (sd_creturn hC hT hdg)
  intro lo st h cn sn hk
  cases st with
  | nil => exact hk
  | cons v st => exact ⟨hk.1, hQ v h hk.2⟩
theorem su_breturn (hC : CF X cc own Ts) {Q : xQ} (hT : RTS X (some .byte) (some 0) Q) (hdg : decode cc pc = .ok (.ireturn, 1)) : SdS X pc Γ [0] (x_retb Q) := by
  obtain ⟨Q0, hT, hQ⟩ := hT
  refine Sd.imp ?_ (sd_breturn hC hT hdg)
  intro lo st h cn sn hk
  cases st with
  | nil => exact hk
  | cons v st => exact ⟨hk.1, hQ v h hk.2⟩
theorem su_return (hC : CF X cc own Ts) {Q : xQ} (hT : RTS X none none Q) (hdg : decode cc pc = .ok (.return_, 1)) : SdS X pc Γ [] (x_retv Q) := by
  obtain ⟨Q0, hT, hQ⟩ := hT
  refine Sd.imp ?_ (sd_return hC hT hdg)
  intro lo st h cn sn hk
  exact hQ 0 h hk
theorem su_tsw (hC : CF X cc own Ts) {dflt lo hi : Int} {offs : Array Int} {len td : Nat} {ks : List xK} {kd : xK} (hdg : decode cc pc = .ok (.tableswitch dflt lo hi offs, len)) (hn : hi = lo + ks.length - 1) (htd : (pc : Int) + dflt = (td : Int)) (hj : ∀ (j : Nat) (kj : xK), ks[j]? = some kj → ∃ (off : Int) (tgt : Nat), offs[j]? = some off ∧ (pc : Int) + off = (tgt : Int) ∧ SdS X tgt Γ τ kj) (hd : SdS X td Γ τ kd) : SdS X pc Γ (0 :: τ) (x_tsw lo ks kd) := by
  refine Sd.imp ?_ (sd_tsw (ks := ks.map lk) (kd := lk kd) hC hdg (by rw [List.length_map]; exact hn) htd ?_ hd)
  · intro lc st h cn sn hk
    cases st with
    | nil => exact hk
    | cons x st =>
      refine ⟨fun j kj e hx => ?_, fun z => hk.2 (by rw [List.length_map] at z; exact z)⟩
      rw [List.getElem?_map] at e
      cases e2 : ks[j]? with
      | none => rw [e2] at e; cases e
      | some k2 =>
        rw [e2] at e
        cases e
        exact hk.1 j k2 e2 hx
  · intro j kj e
    rw [List.getElem?_map] at e
    cases e2 : ks[j]? with
    | none => rw [e2] at e; cases e
    | some k2 =>
      rw [e2] at e
      cases e
      exact hj j k2 e2
end SDX
theorem MtS.mk {l : Launch} {y : MethodName} {cc : ByteArray} {mx : Nat} {ret : Option FieldType} {rm : Room} {τs : List Nat} {rt : Option Nat} {f : xM} {Ts : List Cond} {B : xQ → xK} (hy : plainName y.cls = true) (hmx : wd τs ≤ mx) (hf : ∀ xs h Q, f xs h Q → B Q (loOf τs mx xs) [] h 0 0)
    (body : ∀ (X : CX) (Q : xQ), X.2.1 = l → xn X = mx → xR X = rm → CF X cc y.cls Ts → X.2.2.2.2.2.2.2.2.1.name = y.name → RTS X ret rt Q → SdS X 0 (gam 0 τs) [] (B Q)) : MtS l y (Cond.code y cc mx ret :: Ts) rm τs rt f := by
  refine Mt.mk (B := fun Q l st h c n => ∃ Q' : xQ, (∀ v h', Q' v (spl h') → Q v h') ∧ B Q' l st (spl h) c n) hy hmx ?_ ?_
  · rintro xs h Q ⟨Q', q1, q2⟩
    exact ⟨Q', q1, hf xs _ Q' q2⟩
  · intro X Q e1 e2 e3 hC hN hT lo st h cn sn H locs ls hk hH hL hS hl h1 h2
    obtain ⟨Q', q1, q2⟩ := hk
    exact body X Q' e1 e2 e3 hC hN ⟨Q, hT, q1⟩ lo st h cn sn H locs ls q2 hH hL hS hl h1 h2
/-- String.checkIndex, on its good side -/
def T_J0_checkIndex_df160 : xM := fun xs h Q => ∃ i n : Int, xs = [i, n] ∧ (0 ≤ i ∧ i < n) ∧ Q 0 h
