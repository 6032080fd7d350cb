/-! THE CLASS'S CELLS. T: the task (numbers, rules, tops, weights, bounds). S: a state (size, marks, levels, reasons, low, high, how many cuts, their marks, their sizes, hopeless). -/
abbrev ctT : Type := Nat × Nat × (Nat → Int) × (Nat → Nat → Int) × (Nat → Int)
def tN (T : ctT) : Nat := T.1
def tR (T : ctT) : Nat := T.2.1
def tT (T : ctT) : Nat → Int := T.2.2.1
def tW (T : ctT) : Nat → Nat → Int := T.2.2.2.1
def tB (T : ctT) : Nat → Int := T.2.2.2.2
abbrev ctS : Type := Nat × (Nat → Int) × (Nat → Int) × (Nat → Int) × (Nat → Int) × (Nat → Int) × Nat × (Nat → Int) × (Nat → Int) × Int
def sZ (S : ctS) : Nat := S.1
def sM (S : ctS) : Nat → Int := S.2.1
def sL (S : ctS) : Nat → Int := S.2.2.1
def sR (S : ctS) : Nat → Int := S.2.2.2.1
def sLo (S : ctS) : Nat → Int := S.2.2.2.2.1
def sHi (S : ctS) : Nat → Int := S.2.2.2.2.2.1
def sC (S : ctS) : Nat := S.2.2.2.2.2.2.1
def sCm (S : ctS) : Nat → Int := S.2.2.2.2.2.2.2.1
def sCs (S : ctS) : Nat → Int := S.2.2.2.2.2.2.2.2.1
def sH (S : ctS) : Int := S.2.2.2.2.2.2.2.2.2
/-- the task's ten cells, the first at place b -/
def wT (b : Nat) (T : ctT) : List ct_C := [cO 6 [vI (tN T), vI (tR T), vR (b + 1), vR (b + 2), vR (b + 3)], cA 0 4 (tT T), cQ 3 [some (b + 4), some (b + 5), some (b + 6), some (b + 7), some (b + 8), some (b + 9)], cA 0 6 (tB T), cA 0 4 (tW T 0), cA 0 4 (tW T 1), cA 0 4 (tW T 2), cA 0 4 (tW T 3), cA 0 4 (tW T 4), cA 0 4 (tW T 5)]
/-- a state's ten cells, the first at place b; the task at t -/
def wSt (b t : Nat) (S : ctS) : List ct_C := [cO 5 [vR t, vR (b + 1), vR (b + 7), vI (sH S)], cO 9 [vR t, vR (b + 2), vR (b + 3), vR (b + 4), vR (b + 5), vR (b + 6), vI (sZ S)], cA 0 36 (sM S), cA 0 36 (sL S), cA 0 36 (sR S), cA 0 4 (sLo S), cA 0 4 (sHi S), cO 2 [vR (b + 8), vR (b + 9), vI (sC S)], cA 0 320 (sCm S), cA 0 40 (sCs S)]
/-- a state and its task: the state 0 .. 9 (trail 1, cuts 7), the task 10 .. 19 -/
def wS (T : ctT) (S : ctS) : List ct_C := wSt 0 10 S ++ wT 10 T
/-- what is always so of a task -/
def okT (T : ctT) : Prop := 1 ≤ tN T ∧ tN T ≤ 4 ∧ tR T ≤ 6 ∧ (∀ x, x < 4 → 0 ≤ tT T x ∧ tT T x ≤ 9) ∧ (∀ x, tN T ≤ x → x < 4 → tT T x = 0) ∧ (∀ r x, r < 6 → x < 4 → -3 ≤ tW T r x ∧ tW T r x ≤ 3) ∧ (∀ r x, r < tR T → tN T ≤ x → x < 4 → tW T r x = 0) ∧ (∀ r, r < 6 → -30 ≤ tB T r ∧ tB T r ≤ 30)
/-- a mark's code: 100 x + 10 side + k -/
def okM (T : ctT) (m : Int) : Prop := 0 ≤ m ∧ m < 100 * (tN T : Int) ∧ m / 10 % 10 ≤ 1
/-- what is always so of a state, for the machine's sake -/
def okS (T : ctT) (S : ctS) : Prop := sZ S ≤ 36 ∧ (∀ i, i < sZ S → okM T (sM S i)) ∧ (∀ i, i < sZ S → 0 ≤ sL S i ∧ sL S i ≤ 36) ∧ (∀ i, i < sZ S → -1 ≤ sR S i ∧ sR S i ≤ 49) ∧ (∀ x, x < 4 → 0 ≤ sLo S x ∧ sLo S x ≤ 9 ∧ 0 ≤ sHi S x ∧ sHi S x ≤ 9) ∧ sC S ≤ 40 ∧ (∀ c, c < sC S → 0 ≤ sCs S c ∧ sCs S c ≤ 8) ∧ (∀ c k : Nat, c < sC S → (k : Int) < sCs S c → okM T (sCm S (8 * c + k))) ∧ (sH S = 0 ∨ sH S = 1)
theorem wS_ref : ∀ r, r < 6 → ct_lf [some (10 + 4), some (10 + 5), some (10 + 6), some (10 + 7), some (10 + 8), some (10 + 9)] r = some (14 + r) := by decide
theorem wS_row (T : ctT) (S : ctS) : ∀ r, r < 6 → (wS T S)[14 + r]? = some (cA 0 4 (tW T r)) := by
  intro r hr
  match r, hr with
  | 0, _ => rfl
  | 1, _ => rfl
  | 2, _ => rfl
  | 3, _ => rfl
  | 4, _ => rfl
  | 5, _ => rfl
/-- 1, if it is so; 0 -/
noncomputable def ct_i (P : Prop) : Int := @ite Int P (Classical.propDecidable P) 1 0
theorem ct_i_t {P : Prop} (h : P) : ct_i P = 1 := if_pos h
theorem ct_i_f {P : Prop} (h : ¬ P) : ct_i P = 0 := if_neg h
theorem ct_i_r (P : Prop) : 0 ≤ ct_i P ∧ ct_i P ≤ 1 := by
  by_cases h : P
  · rw [ct_i_t h]; omega
  · rw [ct_i_f h]; omega
theorem ct_i_0 {P : Prop} : ct_i P = 0 ↔ ¬ P := by
  by_cases h : P
  · rw [ct_i_t h]; simp [h]
  · rw [ct_i_f h]; simp [h]
theorem ct_i_1 {P : Prop} : ct_i P = 1 ↔ P := by
  by_cases h : P
  · rw [ct_i_t h]; simp [h]
  · rw [ct_i_f h]; simp [h]
theorem ct_i_z (P : Prop) : ct_i P = 0 ∨ ct_i P = 1 := by
  have := ct_i_r P
  omega
theorem ct_i_c {P Q : Prop} (h : P ↔ Q) : ct_i P = ct_i Q := by rw [propext h]
theorem ct_rI {a b : Int} (h : a = b) : some (vI a) = some (vI b) := by rw [h]
/-- the first place below n with P; the last one -/
noncomputable def ct_first (P : Nat → Prop) : Nat → Option Nat
  | 0 => none
  | n + 1 => match ct_first P n with
    | some i => some i
    | none => @ite _ (P n) (Classical.propDecidable _) (some n) none
noncomputable def ct_last (P : Nat → Prop) : Nat → Option Nat
  | 0 => none
  | n + 1 => @ite _ (P n) (Classical.propDecidable _) (some n) (ct_last P n)
theorem ct_first_no {P : Nat → Prop} : ∀ {n : Nat}, (∀ j, j < n → ¬ P j) → ct_first P n = none
  | 0, _ => rfl
  | n + 1, h => by
    have e := ct_first_no (n := n) (fun j hj => h j (by omega))
    unfold ct_first
    rw [e]
    exact if_neg (h n (by omega))
theorem ct_first_is {P : Nat → Prop} {i : Nat} (hP : P i) (hl : ∀ j, j < i → ¬ P j) : ∀ {n : Nat}, i < n → ct_first P n = some i
  | 0, h => absurd h (Nat.not_lt_zero _)
  | n + 1, h => by
    unfold ct_first
    by_cases hi : i < n
    · rw [ct_first_is hP hl hi]
    · have hin : i = n := by omega
      subst hin
      rw [ct_first_no hl]
      exact if_pos hP
theorem ct_first_inv {P : Nat → Prop} : ∀ {n : Nat} {o : Option Nat}, ct_first P n = o → match o with | some i => i < n ∧ P i ∧ ∀ j, j < i → ¬ P j | none => ∀ j, j < n → ¬ P j
  | 0, o, h => by
    subst h
    exact fun j hj => absurd hj (Nat.not_lt_zero _)
  | n + 1, o, h => by
    subst h
    unfold ct_first
    cases e : ct_first P n with
    | some i =>
      have := ct_first_inv e
      exact ⟨Nat.lt_succ_of_lt this.1, this.2⟩
    | none =>
      have h0 := ct_first_inv e
      by_cases hp : P n
      · simp only [if_pos hp]
        exact ⟨Nat.lt_succ_self n, hp, h0⟩
      · simp only [if_neg hp]
        intro j hj
        rcases Nat.lt_succ_iff_lt_or_eq.mp hj with h1 | h1
        · exact h0 j h1
        · subst h1; exact hp
theorem ct_last_no {P : Nat → Prop} : ∀ {n : Nat}, (∀ j, j < n → ¬ P j) → ct_last P n = none
  | 0, _ => rfl
  | n + 1, h => by
    unfold ct_last
    exact (if_neg (h n (by omega))).trans (ct_last_no (fun j hj => h j (by omega)))
theorem ct_last_is {P : Nat → Prop} {i : Nat} (hP : P i) : ∀ {n : Nat}, i < n → (∀ j, i < j → j < n → ¬ P j) → ct_last P n = some i
  | 0, h, _ => absurd h (Nat.not_lt_zero _)
  | n + 1, h, hl => by
    unfold ct_last
    by_cases hi : i = n
    · subst hi
      exact if_pos hP
    · exact (if_neg (hl n (by omega) (by omega))).trans (ct_last_is hP (by omega) (fun j h1 h2 => hl j h1 (by omega)))
theorem ct_last_inv {P : Nat → Prop} : ∀ {n : Nat} {o : Option Nat}, ct_last P n = o → match o with | some i => i < n ∧ P i ∧ ∀ j, i < j → j < n → ¬ P j | none => ∀ j, j < n → ¬ P j
  | 0, o, h => by
    subst h
    exact fun j hj => absurd hj (Nat.not_lt_zero _)
  | n + 1, o, h => by
    subst h
    unfold ct_last
    by_cases hp : P n
    · simp only [if_pos hp]
      exact ⟨Nat.lt_succ_self n, hp, fun j h1 h2 => by omega⟩
    · simp only [if_neg hp]
      have h0 := ct_last_inv (P := P) (n := n) rfl
      cases e : ct_last P n with
      | some i =>
        rw [e] at h0
        refine ⟨Nat.lt_succ_of_lt h0.1, h0.2.1, fun j h1 h2 => ?_⟩
        rcases Nat.lt_succ_iff_lt_or_eq.mp h2 with h3 | h3
        · exact h0.2.2 j h1 h3
        · subst h3; exact hp
      | none =>
        rw [e] at h0
        intro j hj
        rcases Nat.lt_succ_iff_lt_or_eq.mp hj with h3 | h3
        · exact h0 j h3
        · subst h3; exact hp
/-- a place as a number, d: none -/
def ct_o (d : Int) (o : Option Nat) : Int := match o with
  | some i => i
  | none => d
