/-! ===== tokens ===== -/
def rnF (p : Int → Bool) (n : Int) : Nat → Int → Int
  | 0, i => i
  | f + 1, i => if i < n ∧ p i = true then rnF p n f (i + 1) else i
def run (p : Int → Bool) (n i : Int) : Int := rnF p n (n - i).toNat i
theorem run_s {p : Int → Bool} {n i : Int} : run p n i = if i < n ∧ p i = true then run p n (i + 1) else i := by
  unfold run
  by_cases h : i < n
  · have e : (n - i).toNat = (n - (i + 1)).toNat + 1 := by omega
    rw [e]
    rfl
  · have e : (n - i).toNat = 0 := by omega
    rw [e, if_neg (by omega)]
    rfl
theorem run_f {p : Int → Bool} {n : Int} : ∀ (f : Nat) (i : Int), i ≤ rnF p n f i ∧ (∀ q : Int, i ≤ q → q < rnF p n f i → q < n ∧ p q = true) ∧ (i ≤ n → rnF p n f i ≤ n) := by
  intro f
  induction f with
  | zero => exact fun i => ⟨Int.le_refl _, fun q a b => by unfold rnF at b; omega, fun h => h⟩
  | succ f ih =>
    intro i
    unfold rnF
    by_cases h : i < n ∧ p i = true
    · rw [if_pos h]
      obtain ⟨a, b, c⟩ := ih (i + 1)
      refine ⟨by omega, fun q x y => ?_, fun _ => c (by omega)⟩
      by_cases z : q = i
      · rw [z]; exact h
      · exact b q (by omega) y
    · rw [if_neg h]
      exact ⟨Int.le_refl _, fun q x y => by omega, fun h => h⟩
theorem run_ge {p : Int → Bool} {n i : Int} : i ≤ run p n i := (run_f _ _).1
theorem run_in {p : Int → Bool} {n i q : Int} (a : i ≤ q) (b : q < run p n i) : q < n ∧ p q = true := (run_f _ _).2.1 q a b
theorem run_le {p : Int → Bool} {n i : Int} (h : i ≤ n) : run p n i ≤ n := (run_f _ _).2.2 h
theorem run_no {p : Int → Bool} {n i : Int} (h : ¬ (i < n ∧ p i = true)) : run p n i = i := by rw [run_s, if_neg h]
theorem run_go {p : Int → Bool} {n i : Int} (h : i < n) (h2 : p i = true) : run p n i = run p n (i + 1) := by rw [run_s, if_pos ⟨h, h2⟩]
def isL (tp : Int → Int) (q : Int) : Bool := decide (97 ≤ tp q ∧ tp q ≤ 122)
def isD (tp : Int → Int) (q : Int) : Bool := decide (48 ≤ tp q ∧ tp q ≤ 57)
def isS (tp : Int → Int) (q : Int) : Bool := decide (tp q = 32)
theorem isL_t {tp : Int → Int} {q : Int} (h : 97 ≤ tp q ∧ tp q ≤ 122) : isL tp q = true := decide_eq_true h
theorem isL_e {tp : Int → Int} {q : Int} (h : isL tp q = true) : 97 ≤ tp q ∧ tp q ≤ 122 := of_decide_eq_true h
theorem isD_t {tp : Int → Int} {q : Int} (h : 48 ≤ tp q ∧ tp q ≤ 57) : isD tp q = true := decide_eq_true h
theorem isD_e {tp : Int → Int} {q : Int} (h : isD tp q = true) : 48 ≤ tp q ∧ tp q ≤ 57 := of_decide_eq_true h
theorem isS_t {tp : Int → Int} {q : Int} (h : tp q = 32) : isS tp q = true := decide_eq_true h
theorem isS_e {tp : Int → Int} {q : Int} (h : isS tp q = true) : tp q = 32 := of_decide_eq_true h
/-- behind a token that begins at i -/
def nxt (tp : Int → Int) (n i : Int) : Int := if i < n ∧ 97 ≤ tp i ∧ tp i ≤ 122 then run (isL tp) n i else if i < n ∧ 48 ≤ tp i ∧ tp i ≤ 57 then run (isD tp) n i else i + 1
/-- its kind: 0 end, 1 word, 2 whole, 3 semicolon, 4 comma, 5 bad -/
def kdt (tp : Int → Int) (n i : Int) : Int := if n ≤ i then 0 else if 97 ≤ tp i ∧ tp i ≤ 122 then (if run (isL tp) n i - i ≤ 8 then 1 else 5) else if 48 ≤ tp i ∧ tp i ≤ 57 then (if run (isD tp) n i - i ≤ 3 then 2 else 5) else if tp i = 59 then 3 else if tp i = 44 then 4 else 5
def skp (tp : Int → Int) (n i : Int) : Int := run (isS tp) n i
def tkn (tp : Int → Int) (n i : Int) : Int := skp tp n (nxt tp n i)
def wl (f : Nat → Int) : Nat → Int
  | 0 => 0
  | k + 1 => 32 * wl f k + (f k - 96)
def vl (f : Nat → Int) : Nat → Int
  | 0 => 0
  | k + 1 => 10 * vl f k + f k - 48
def wdt (tp : Int → Int) (n i : Int) : Int := wl (fun q => tp (i + q)) (nxt tp n i - i).toNat
def nmt (tp : Int → Int) (n i : Int) : Int := vl (fun q => tp (i + q)) (nxt tp n i - i).toNat
theorem kdt_b (tp : Int → Int) (n i : Int) : 0 ≤ kdt tp n i ∧ kdt tp n i ≤ 5 := by
  unfold kdt
  repeat' split
  all_goals omega
theorem kdt_1 {tp : Int → Int} {n i : Int} (h : kdt tp n i = 1) : i < n ∧ (97 ≤ tp i ∧ tp i ≤ 122) ∧ run (isL tp) n i - i ≤ 8 ∧ nxt tp n i = run (isL tp) n i := by
  unfold kdt at h
  by_cases c1 : n ≤ i
  · rw [if_pos c1] at h; omega
  rw [if_neg c1] at h
  by_cases c2 : 97 ≤ tp i ∧ tp i ≤ 122
  · rw [if_pos c2] at h
    by_cases c3 : run (isL tp) n i - i ≤ 8
    · exact ⟨by omega, c2, c3, if_pos ⟨by omega, c2⟩⟩
    · rw [if_neg c3] at h; omega
  · rw [if_neg c2] at h
    repeat' split at h
    all_goals omega
theorem kdt_2 {tp : Int → Int} {n i : Int} (h : kdt tp n i = 2) : i < n ∧ (48 ≤ tp i ∧ tp i ≤ 57) ∧ run (isD tp) n i - i ≤ 3 ∧ nxt tp n i = run (isD tp) n i := by
  unfold kdt at h
  by_cases c1 : n ≤ i
  · rw [if_pos c1] at h; omega
  rw [if_neg c1] at h
  by_cases c2 : 97 ≤ tp i ∧ tp i ≤ 122
  · rw [if_pos c2] at h
    split at h <;> omega
  rw [if_neg c2] at h
  by_cases c4 : 48 ≤ tp i ∧ tp i ≤ 57
  · rw [if_pos c4] at h
    by_cases c3 : run (isD tp) n i - i ≤ 3
    · exact ⟨by omega, c4, c3, by unfold nxt; rw [if_neg (by omega), if_pos ⟨by omega, c4⟩]⟩
    · rw [if_neg c3] at h; omega
  · rw [if_neg c4] at h
    repeat' split at h
    all_goals omega
theorem kdt_lt {tp : Int → Int} {n i : Int} (h : kdt tp n i ≠ 0) : i < n := by
  unfold kdt at h
  by_cases c1 : n ≤ i
  · rw [if_pos c1] at h; omega
  · omega
theorem nxt_b {tp : Int → Int} {n i : Int} (h : i < n) : i < nxt tp n i ∧ nxt tp n i ≤ n := by
  unfold nxt
  by_cases c1 : i < n ∧ 97 ≤ tp i ∧ tp i ≤ 122
  · rw [if_pos c1, run_go c1.1 (isL_t c1.2)]
    have := run_ge (p := isL tp) (n := n) (i := i + 1)
    have := run_le (p := isL tp) (n := n) (i := i + 1) (by omega)
    omega
  rw [if_neg c1]
  by_cases c2 : i < n ∧ 48 ≤ tp i ∧ tp i ≤ 57
  · rw [if_pos c2, run_go c2.1 (isD_t c2.2)]
    have := run_ge (p := isD tp) (n := n) (i := i + 1)
    have := run_le (p := isD tp) (n := n) (i := i + 1) (by omega)
    omega
  · rw [if_neg c2]; omega
theorem skp_b {tp : Int → Int} {n i : Int} (h : i ≤ n) : i ≤ skp tp n i ∧ skp tp n i ≤ n := ⟨run_ge, run_le h⟩
theorem tkn_b {tp : Int → Int} {n i : Int} (h : i < n) : i < tkn tp n i ∧ tkn tp n i ≤ n := by
  have a := nxt_b (tp := tp) h
  have b := skp_b (tp := tp) a.2
  unfold tkn
  omega
theorem wl_s {f : Nat → Int} {k : Nat} : wl f (k + 1) = 32 * wl f k + (f k - 96) := rfl
theorem wl_b {f : Nat → Int} : ∀ k : Nat, k ≤ 8 → (∀ q : Nat, q < k → 97 ≤ f q ∧ f q ≤ 122) → 0 ≤ wl f k ∧ wl f k < 2 ^ (5 * k) := by
  intro k
  induction k with
  | zero => exact fun _ _ => ⟨Int.le_refl _, by show (0 : Int) < 2 ^ (5 * 0); decide⟩
  | succ k ih =>
    intro hk hf
    obtain ⟨a, b⟩ := ih (by omega) (fun q z => hf q (by omega))
    have c := hf k (by omega)
    rw [wl_s]
    have e : (2 : Int) ^ (5 * (k + 1)) = 32 * 2 ^ (5 * k) := by
      rw [show 5 * (k + 1) = 5 * k + 5 by omega, Int.pow_add]
      omega
    rw [e]
    omega
theorem wl_c {f : Nat → Int} {k : Nat} (hk : k ≤ 8) (hf : ∀ q : Nat, q < k → 97 ≤ f q ∧ f q ≤ 122) : 0 ≤ wl f k ∧ wl f k < 1099511627776 := by
  obtain ⟨a, b⟩ := wl_b k hk hf
  refine ⟨a, ?_⟩
  have h9 : k = 0 ∨ k = 1 ∨ k = 2 ∨ k = 3 ∨ k = 4 ∨ k = 5 ∨ k = 6 ∨ k = 7 ∨ k = 8 := by omega
  rcases h9 with rfl | rfl | rfl | rfl | rfl | rfl | rfl | rfl | rfl
  all_goals
    simp only [Nat.mul_zero, Nat.reduceMul, Int.reducePow] at b
    omega
theorem wl_inj {f g : Nat → Int} : ∀ k l : Nat, (∀ q : Nat, q < k → 97 ≤ f q ∧ f q ≤ 122) → (∀ q : Nat, q < l → 97 ≤ g q ∧ g q ≤ 122) → wl f k = wl g l → k = l ∧ ∀ q : Nat, q < k → f q = g q := by
  intro k
  induction k with
  | zero =>
    intro l _ hg h
    cases l with
    | zero => exact ⟨rfl, fun q z => by omega⟩
    | succ l =>
      exfalso
      rw [wl_s] at h
      have c := hg l (by omega)
      have : 0 ≤ wl g l := by
        clear h
        have hg' : ∀ q : Nat, q < l → 97 ≤ g q ∧ g q ≤ 122 := fun q z => hg q (by omega)
        clear hg c
        induction l with
        | zero => exact Int.le_refl _
        | succ l ih =>
          rw [wl_s]
          have := ih (fun q z => hg' q (by omega))
          have := hg' l (by omega)
          omega
      have e0 : wl f 0 = 0 := rfl
      omega
  | succ k ih =>
    intro l hf hg h
    cases l with
    | zero =>
      exfalso
      rw [wl_s] at h
      have c := hf k (by omega)
      have : 0 ≤ wl f k := by
        clear h ih
        have hg' : ∀ q : Nat, q < k → 97 ≤ f q ∧ f q ≤ 122 := fun q z => hf q (by omega)
        clear hf c
        induction k with
        | zero => exact Int.le_refl _
        | succ l ih =>
          rw [wl_s]
          have := ih (fun q z => hg' q (by omega))
          have := hg' l (by omega)
          omega
      have e0 : wl g 0 = 0 := rfl
      omega
    | succ l =>
      rw [wl_s, wl_s] at h
      have c := hf k (by omega)
      have d := hg l (by omega)
      obtain ⟨a, b⟩ := ih l (fun q z => hf q (by omega)) (fun q z => hg q (by omega)) (by omega)
      subst a
      refine ⟨rfl, fun q z => ?_⟩
      by_cases y : q = k
      · subst y; omega
      · exact b q (by omega)
theorem wl_eq {f g : Nat → Int} : ∀ k : Nat, (∀ q : Nat, q < k → f q = g q) → wl f k = wl g k := by
  intro k
  induction k with
  | zero => exact fun _ => rfl
  | succ k ih =>
    intro h
    rw [wl_s, wl_s, ih (fun q z => h q (by omega)), h k (by omega)]
theorem vl_s {f : Nat → Int} {k : Nat} : vl f (k + 1) = 10 * vl f k + f k - 48 := rfl
theorem vl_c {f : Nat → Int} {k : Nat} (hk : k ≤ 3) (hf : ∀ q : Nat, q < k → 48 ≤ f q ∧ f q ≤ 57) : 0 ≤ vl f k ∧ vl f k ≤ 999 := by
  have h9 : k = 0 ∨ k = 1 ∨ k = 2 ∨ k = 3 := by omega
  have e0 : vl f 0 = 0 := rfl
  have e1 : vl f 1 = 10 * vl f 0 + f 0 - 48 := rfl
  have e2 : vl f 2 = 10 * vl f 1 + f 1 - 48 := rfl
  have e3 : vl f 3 = 10 * vl f 2 + f 2 - 48 := rfl
  rcases h9 with rfl | rfl | rfl | rfl
  · omega
  · have := hf 0 (by omega)
    omega
  · have := hf 0 (by omega)
    have := hf 1 (by omega)
    omega
  · have := hf 0 (by omega)
    have := hf 1 (by omega)
    have := hf 2 (by omega)
    omega
/-! the words that lines are made of -/
def wcd (s : Int) : Int := wl (fun q => (tx s).getD q 0) (tx s).length
theorem tx_b {s : Int} (h0 : 0 ≤ s) (h1 : s < 24) : (tx s).length ≤ 8 ∧ ∀ q : Nat, q < (tx s).length → 97 ≤ (tx s).getD q 0 ∧ (tx s).getD q 0 ≤ 122 := by
  have key : ∀ k : Nat, k < 24 → (tx (k : Int)).length ≤ 8 ∧ ∀ q : Nat, q < (tx (k : Int)).length → 97 ≤ (tx (k : Int)).getD q 0 ∧ (tx (k : Int)).getD q 0 ≤ 122 := by decide
  have := key s.toNat (by omega)
  rw [Int.toNat_of_nonneg h0] at this
  exact this
theorem nm_b {tp : Int → Int} {n i : Int} (h : kdt tp n i = 2) : 0 ≤ nmt tp n i ∧ nmt tp n i ≤ 999 := by
  obtain ⟨a, b, c, d⟩ := kdt_2 h
  unfold nmt
  rw [d]
  refine vl_c (by omega) (fun q z => ?_)
  exact isD_e (run_in (p := isD tp) (n := n) (i := i) (q := i + q) (by omega) (by omega)).2
theorem wd_b {tp : Int → Int} {n i : Int} (h : kdt tp n i = 1) : (nxt tp n i - i).toNat ≤ 8 ∧ (∀ q : Nat, q < (nxt tp n i - i).toNat → 97 ≤ tp (i + q) ∧ tp (i + q) ≤ 122) ∧ 0 ≤ wdt tp n i ∧ wdt tp n i < 1099511627776 := by
  obtain ⟨a, b, c, d⟩ := kdt_1 h
  have hl : ∀ q : Nat, q < (nxt tp n i - i).toNat → 97 ≤ tp (i + q) ∧ tp (i + q) ≤ 122 := fun q z => isL_e (run_in (p := isL tp) (n := n) (i := i) (q := i + q) (by omega) (by omega)).2
  have h8 : (nxt tp n i - i).toNat ≤ 8 := by omega
  refine ⟨h8, hl, ?_⟩
  unfold wdt
  exact wl_c h8 hl
