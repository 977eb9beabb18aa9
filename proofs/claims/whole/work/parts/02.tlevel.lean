/-! ===== the T level: heaps of Ints, one function an opcode ===== -/
abbrev tH : Type := (Int → Option Nat) × (Int → Int) × (Int → Int → Int) × Nat
def Kd (h : tH) (a : Int) : Option Nat := h.1 a
def Ln (h : tH) (a : Int) : Int := h.2.1 a
def Me (h : tH) (a i : Int) : Int := h.2.2.1 a i
def Nx (h : tH) : Nat := h.2.2.2
def Up (h : tH) (a i v : Int) : tH := (h.1, h.2.1, fun b j => if b = a ∧ j = i then v else h.2.2.1 b j, h.2.2.2)
/-- one new cell, at the heap's end -/
def Nw (h : tH) (κ : Nat) (n : Int) (f : Int → Int) : tH := (fun b => if b = (h.2.2.2 : Int) then some κ else h.1 b, fun b => if b = (h.2.2.2 : Int) then n else h.2.1 b, fun b j => if b = (h.2.2.2 : Int) then f j else h.2.2.1 b j, h.2.2.2 + 1)
/-- c new int arrays of n zeros behind the heap's end -/
def Nm (h : tH) (κ : Nat) (c : Nat) (n : Int) : tH := (fun b => if (h.2.2.2 : Int) ≤ b ∧ b < (h.2.2.2 : Int) + c then some κ else h.1 b, fun b => if (h.2.2.2 : Int) ≤ b ∧ b < (h.2.2.2 : Int) + c then n else h.2.1 b, fun b j => if (h.2.2.2 : Int) ≤ b ∧ b < (h.2.2.2 : Int) + c then 0 else h.2.2.1 b j, h.2.2.2 + c)
theorem Kd_Up (h : tH) (a i v b : Int) : Kd (Up h a i v) b = Kd h b := rfl
theorem Ln_Up (h : tH) (a i v b : Int) : Ln (Up h a i v) b = Ln h b := rfl
theorem Nx_Up (h : tH) (a i v : Int) : Nx (Up h a i v) = Nx h := rfl
theorem Me_Up (h : tH) (a i v b j : Int) : Me (Up h a i v) b j = if b = a ∧ j = i then v else Me h b j := rfl
theorem Me_Up_eq (h : tH) (a i v : Int) : Me (Up h a i v) a i = v := if_pos ⟨rfl, rfl⟩
theorem Kd_Nw (h : tH) (κ : Nat) (n : Int) (f : Int → Int) (b : Int) : Kd (Nw h κ n f) b = if b = (Nx h : Int) then some κ else Kd h b := rfl
theorem Ln_Nw (h : tH) (κ : Nat) (n : Int) (f : Int → Int) (b : Int) : Ln (Nw h κ n f) b = if b = (Nx h : Int) then n else Ln h b := rfl
theorem Me_Nw (h : tH) (κ : Nat) (n : Int) (f : Int → Int) (b j : Int) : Me (Nw h κ n f) b j = if b = (Nx h : Int) then f j else Me h b j := rfl
theorem Nx_Nw (h : tH) (κ : Nat) (n : Int) (f : Int → Int) : Nx (Nw h κ n f) = Nx h + 1 := rfl
def inI (x : Int) : Prop := -2147483648 ≤ x ∧ x ≤ 2147483647
def inL (x : Int) : Prop := -9223372036854775808 ≤ x ∧ x ≤ 9223372036854775807
def wI (x : Int) : Int := (Int32.ofInt x).toInt
def wL (x : Int) : Int := (Int64.ofInt x).toInt
def wB (x : Int) : Int := (Int32.ofInt x).toInt8.toInt32.toInt
def bAnd (x y : Int) : Int := (Int32.ofInt x &&& Int32.ofInt y).toInt
def bOr (x y : Int) : Int := (Int32.ofInt x ||| Int32.ofInt y).toInt
def bShl (x y : Int) : Int := (Int32.ofInt x <<< (Int32.ofInt y &&& 31)).toInt
def bShr (x y : Int) : Int := (Int32.ofInt x >>> (Int32.ofInt y &&& 31)).toInt
def bUshr (x y : Int) : Int := ((Int32.ofInt x).toUInt32 >>> ((Int32.ofInt y).toUInt32 &&& Int32.toUInt32 31)).toInt32.toInt
def lCmp (x y : Int) : Int := if x < y then -1 else if x = y then 0 else 1
/-- a continuation: locals, stack, heap, cells and slots made -/
abbrev tK : Type := List Int → List Int → tH → Nat → Nat → Prop
abbrev tQ : Type := Int → tH → Prop
abbrev tM : Type := List Int → tH → tQ → Prop
def o_const (v : Int) (k : tK) : tK := fun l st h c n => k l (v :: st) h c n
def o_load (i : Nat) (k : tK) : tK := fun l st h c n => k l (l.getD i 0 :: st) h c n
def o_store (i : Nat) (k : tK) : tK := fun l st h c n => match st with
  | x :: r => k (l.set i x) r h c n
  | _ => False
def o_iinc (i : Nat) (d : Int) (k : tK) : tK := fun l st h c n => inI (l.getD i 0 + d) ∧ k (l.set i (l.getD i 0 + d)) st h c n
def o_dup (k : tK) : tK := fun l st h c n => match st with
  | x :: r => k l (x :: x :: r) h c n
  | _ => False
def o_dup2 (k : tK) : tK := fun l st h c n => match st with
  | x :: y :: r => k l (x :: y :: x :: y :: r) h c n
  | _ => False
def o_pop (k : tK) : tK := fun l st h c n => match st with
  | _ :: r => k l r h c n
  | _ => False
/-- an operation on two numbers, with what it asks of them -/
def o_bin (f : Int → Int → Int) (P : Int → Int → Prop) (k : tK) : tK := fun l st h c n => match st with
  | y :: x :: r => P x y ∧ k l (f x y :: r) h c n
  | _ => False
def o_un (f : Int → Int) (P : Int → Prop) (k : tK) : tK := fun l st h c n => match st with
  | x :: r => P x ∧ k l (f x :: r) h c n
  | _ => False
def o_iadd : tK → tK := o_bin (fun x y => x + y) (fun x y => inI (x + y))
def o_isub : tK → tK := o_bin (fun x y => x - y) (fun x y => inI (x - y))
def o_imul : tK → tK := o_bin (fun x y => x * y) (fun x y => inI (x * y))
def o_iaddw : tK → tK := o_bin (fun x y => wI (x + y)) (fun _ _ => True)
def o_isubw : tK → tK := o_bin (fun x y => wI (x - y)) (fun _ _ => True)
def o_imulw : tK → tK := o_bin (fun x y => wI (x * y)) (fun _ _ => True)
def o_idiv : tK → tK := o_bin (fun x y => Int.tdiv x y) (fun _ y => 0 < y)
def o_irem : tK → tK := o_bin (fun x y => Int.tmod x y) (fun _ y => 0 < y)
def o_iand : tK → tK := o_bin bAnd (fun _ _ => True)
def o_ior : tK → tK := o_bin bOr (fun _ _ => True)
def o_ishl : tK → tK := o_bin bShl (fun _ _ => True)
def o_ishr : tK → tK := o_bin bShr (fun _ _ => True)
def o_iushr : tK → tK := o_bin bUshr (fun _ _ => True)
def o_ladd : tK → tK := o_bin (fun x y => x + y) (fun x y => inL (x + y))
def o_lsub : tK → tK := o_bin (fun x y => x - y) (fun x y => inL (x - y))
def o_lmul : tK → tK := o_bin (fun x y => x * y) (fun x y => inL (x * y))
def o_laddw : tK → tK := o_bin (fun x y => wL (x + y)) (fun _ _ => True)
def o_lsubw : tK → tK := o_bin (fun x y => wL (x - y)) (fun _ _ => True)
def o_lmulw : tK → tK := o_bin (fun x y => wL (x * y)) (fun _ _ => True)
def o_ldiv : tK → tK := o_bin (fun x y => Int.tdiv x y) (fun _ y => 0 < y)
def o_lrem : tK → tK := o_bin (fun x y => Int.tmod x y) (fun _ y => 0 < y)
def o_lcmp : tK → tK := o_bin lCmp (fun _ _ => True)
def o_i2l : tK → tK := o_un (fun x => x) (fun _ => True)
def o_l2i : tK → tK := o_un (fun x => x) inI
def o_i2b : tK → tK := o_un wB (fun _ => True)
def o_ic (P : Int → Int → Prop) (kt kf : tK) : tK := fun l st h c n => match st with
  | y :: x :: r => (P x y → kt l r h c n) ∧ (¬ P x y → kf l r h c n)
  | _ => False
def o_iz (P : Int → Prop) (kt kf : tK) : tK := fun l st h c n => match st with
  | x :: r => (P x → kt l r h c n) ∧ (¬ P x → kf l r h c n)
  | _ => False
def o_get (i : Int) (k : tK) : tK := fun l st h c n => match st with
  | a :: r => a ≠ -1 ∧ k l (Me h a i :: r) h c n
  | _ => False
def o_put (i : Int) (k : tK) : tK := fun l st h c n => match st with
  | v :: a :: r => a ≠ -1 ∧ k l r (Up h a i v) c n
  | _ => False
/-- a boolean field -/
def o_putz (i : Int) (k : tK) : tK := fun l st h c n => match st with
  | v :: a :: r => a ≠ -1 ∧ (v = 0 ∨ v = 1) ∧ k l r (Up h a i v) c n
  | _ => False
def o_ald (k : tK) : tK := fun l st h c n => match st with
  | i :: a :: r => a ≠ -1 ∧ (0 ≤ i ∧ i < Ln h a) ∧ k l (Me h a i :: r) h c n
  | _ => False
def o_ast (k : tK) : tK := fun l st h c n => match st with
  | v :: i :: a :: r => a ≠ -1 ∧ (0 ≤ i ∧ i < Ln h a) ∧ k l r (Up h a i v) c n
  | _ => False
def o_astb (k : tK) : tK := fun l st h c n => match st with
  | v :: i :: a :: r => a ≠ -1 ∧ (0 ≤ i ∧ i < Ln h a) ∧ k l r (Up h a i (wB v)) c n
  | _ => False
def o_astz (k : tK) : tK := fun l st h c n => match st with
  | v :: i :: a :: r => a ≠ -1 ∧ (0 ≤ i ∧ i < Ln h a) ∧ (v = 0 ∨ v = 1) ∧ k l r (Up h a i v) c n
  | _ => False
def o_len (k : tK) : tK := fun l st h c n => match st with
  | a :: r => a ≠ -1 ∧ k l (Ln h a :: r) h c n
  | _ => False
/-- new object of kind κ with N slots; mc, ms: the method's room -/
def o_new (κ N : Nat) (f : Int → Int) (mc ms : Nat) (k : tK) : tK := fun l st h c n => (c + 1 ≤ mc ∧ n + N ≤ ms) ∧ k l ((Nx h : Int) :: st) (Nw h κ 0 f) (c + 1) (n + N)
def o_newa (κ : Nat) (d : Int) (mc ms : Nat) (k : tK) : tK := fun l st h c n => match st with
  | z :: r => (0 ≤ z ∧ z ≤ 100000) ∧ (c + 1 ≤ mc ∧ n + z.toNat ≤ ms) ∧ k l ((Nx h : Int) :: r) (Nw h κ z (fun _ => d)) (c + 1) (n + z.toNat)
  | _ => False
/-- new int[a][b] -/
def o_mna (mc ms : Nat) (k : tK) : tK := fun l st h c n => match st with
  | b :: a :: r => (0 ≤ a ∧ a ≤ 1000 ∧ 0 ≤ b ∧ b ≤ 1000) ∧ (c + 1 + a.toNat ≤ mc ∧ n + a.toNat + a.toNat * b.toNat ≤ ms) ∧ k l ((Nx h : Int) :: r) (Nm (Nw h 200 a (fun j => (Nx h : Int) + 1 + j)) 100 a.toNat b) (c + 1 + a.toNat) (n + a.toNat + a.toNat * b.toNat)
  | _ => False
/-- a call: na arguments (the receiver among them, which is not null), an answer -/
def o_call (na : Nat) (f : tM) (mc ms : Nat) (k : tK) : tK := fun l st h c n => f (st.take na).reverse h (fun v h' => k l (v :: st.drop na) h' (c + mc) (n + ms))
def o_callv (na : Nat) (f : tM) (mc ms : Nat) (k : tK) : tK := fun l st h c n => f (st.take na).reverse h (fun _ h' => k l (st.drop na) h' (c + mc) (n + ms))
/-- the receiver of a call with na arguments behind it -/
def o_this (na : Nat) (k : tK) : tK := fun l st h c n => st.getD na 0 ≠ -1 ∧ k l st h c n
/-- the room that a call needs -/
def o_room (mc ms MC MS : Nat) (k : tK) : tK := fun l st h c n => (c + mc ≤ MC ∧ n + ms ≤ MS) ∧ k l st h c n
def o_ret (Q : tQ) : tK := fun _ st h _ _ => match st with
  | v :: _ => Q v h
  | _ => False
def o_retz (Q : tQ) : tK := fun _ st h _ _ => match st with
  | v :: _ => (v = 0 ∨ v = 1) ∧ Q v h
  | _ => False
def o_retv (Q : tQ) : tK := fun _ _ h _ _ => Q 0 h
def o_it (B : tK → tK) : Nat → tK
  | 0 => fun _ _ _ _ _ => False
  | j + 1 => B (o_it B j)
def o_loop (B : tK → tK) : tK := fun l st h c n => ∃ j, o_it B j l st h c n
/-- the script -/
def o_slen (L : Nat) (k : tK) : tK := fun l st h c n => match st with
  | _ :: r => k l ((L : Int) :: r) h c n
  | _ => False
def o_sld (L : Nat) (xs : Nat → Int32) (k : tK) : tK := fun l st h c n => match st with
  | i :: _ :: r => (0 ≤ i ∧ i < (L : Int)) ∧ k l ((xs i.toNat).toInt :: r) h c n
  | _ => False
/-- texts: their signs by number -/
def o_tlen (tx : Int → List Int) (k : tK) : tK := fun l st h c n => match st with
  | a :: r => k l (((tx a).length : Int) :: r) h c n
  | _ => False
def o_tat (tx : Int → List Int) (k : tK) : tK := fun l st h c n => match st with
  | i :: a :: r => (0 ≤ i ∧ i < ((tx a).length : Int)) ∧ k l ((tx a).getD i.toNat 0 :: r) h c n
  | _ => False
/-- tableswitch from lo: the branches, and else -/
def o_tsw (lo : Int) (ks : List tK) (d : tK) : tK := fun l st h c n => match st with
  | x :: r => (∀ (j : Nat) (k : tK), ks[j]? = some k → x = lo + j → k l r h c n) ∧ ((x < lo ∨ lo + ks.length ≤ x) → d l r h c n)
  | _ => False
/-- arraycopy of ints: z from a's sp on to d's dp on -/
def Cp (h : tH) (a sp d dp z : Int) : tH := (h.1, h.2.1, fun b j => if b = d ∧ dp ≤ j ∧ j < dp + z then h.2.2.1 a (sp + (j - dp)) else h.2.2.1 b j, h.2.2.2)
theorem Kd_Cp (h : tH) (a sp d dp z b : Int) : Kd (Cp h a sp d dp z) b = Kd h b := rfl
theorem Ln_Cp (h : tH) (a sp d dp z b : Int) : Ln (Cp h a sp d dp z) b = Ln h b := rfl
theorem Nx_Cp (h : tH) (a sp d dp z : Int) : Nx (Cp h a sp d dp z) = Nx h := rfl
theorem Me_Cp (h : tH) (a sp d dp z b j : Int) : Me (Cp h a sp d dp z) b j = if b = d ∧ dp ≤ j ∧ j < dp + z then Me h a (sp + (j - dp)) else Me h b j := rfl
def o_acopy (k : tK) : tK := fun l st h c n => match st with
  | z :: dp :: d :: sp :: a :: r => (a ≠ -1 ∧ d ≠ -1 ∧ 0 ≤ z ∧ 0 ≤ sp ∧ 0 ≤ dp ∧ sp + z ≤ Ln h a ∧ dp + z ≤ Ln h d) ∧ k l r (Cp h a sp d dp z) c n
  | _ => False
def o_imax : tK → tK := o_bin (fun x y => max x y) (fun _ _ => True)
def o_imin : tK → tK := o_bin (fun x y => min x y) (fun _ _ => True)
