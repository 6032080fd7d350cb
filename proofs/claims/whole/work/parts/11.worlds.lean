/-! THE CLASS'S CELLS. T: the task (numbers, rules, tops, weights, bounds). S: a state (size, marks, levels, reasons, low, high, how many cuts, their marks, their sizes, hopeless). -/
abbrev ctT : Type := Nat × Nat × (Nat → Int) × (Nat → Nat → Int) × (Nat → Int)
def tN (T : ctT) : Nat := T.1
def tR (T : ctT) : Nat := T.2.1
def tT (T : ctT) : Nat → Int := T.2.2.1
def tW (T : ctT) : Nat → Nat → Int := T.2.2.2.1
def tB (T : ctT) : Nat → Int := T.2.2.2.2
abbrev ctS : Type := Nat × (Nat → Int) × (Nat → Int) × (Nat → Int) × (Nat → Int) × (Nat → Int) × Nat × (Nat → Int) × (Nat → Int) × Int
def sZ (S : ctS) : Nat := S.1
def sM (S : ctS) : Nat → Int := S.2.1
def sL (S : ctS) : Nat → Int := S.2.2.1
def sR (S : ctS) : Nat → Int := S.2.2.2.1
def sLo (S : ctS) : Nat → Int := S.2.2.2.2.1
def sHi (S : ctS) : Nat → Int := S.2.2.2.2.2.1
def sC (S : ctS) : Nat := S.2.2.2.2.2.2.1
def sCm (S : ctS) : Nat → Int := S.2.2.2.2.2.2.2.1
def sCs (S : ctS) : Nat → Int := S.2.2.2.2.2.2.2.2.1
def sH (S : ctS) : Int := S.2.2.2.2.2.2.2.2.2
/-- the task's ten cells, the first at place b -/
def wT (b : Nat) (T : ctT) : List ct_C := [cO 6 [vI (tN T), vI (tR T), vR (b + 1), vR (b + 2), vR (b + 3)], cA 0 4 (tT T), cQ 3 6 (fun i => some (b + 4 + i)), cA 0 6 (tB T), cA 0 4 (tW T 0), cA 0 4 (tW T 1), cA 0 4 (tW T 2), cA 0 4 (tW T 3), cA 0 4 (tW T 4), cA 0 4 (tW T 5)]
/-- a state's ten cells, the first at place b; the task at t -/
def wSt (b t : Nat) (S : ctS) : List ct_C := [cO 5 [vR t, vR (b + 1), vR (b + 7), vI (sH S)], cO 9 [vR t, vR (b + 2), vR (b + 3), vR (b + 4), vR (b + 5), vR (b + 6), vI (sZ S)], cA 0 36 (sM S), cA 0 36 (sL S), cA 0 36 (sR S), cA 0 4 (sLo S), cA 0 4 (sHi S), cO 2 [vR (b + 8), vR (b + 9), vI (sC S)], cA 0 320 (sCm S), cA 0 40 (sCs S)]
/-- a state and its task: the state 0 .. 9 (trail 1, cuts 7), the task 10 .. 19 -/
def wS (T : ctT) (S : ctS) : List ct_C := wSt 0 10 S ++ wT 10 T
/-- what is always so of a task -/
def okT (T : ctT) : Prop := 1 ≤ tN T ∧ tN T ≤ 4 ∧ tR T ≤ 6 ∧ (∀ x, x < 4 → 0 ≤ tT T x ∧ tT T x ≤ 9) ∧ (∀ x, tN T ≤ x → x < 4 → tT T x = 0) ∧ (∀ r x, r < 6 → x < 4 → -3 ≤ tW T r x ∧ tW T r x ≤ 3) ∧ (∀ r x, r < 6 → tN T ≤ x → x < 4 → tW T r x = 0) ∧ (∀ r, r < 6 → -30 ≤ tB T r ∧ tB T r ≤ 30)
/-- a mark's code: 100 x + 10 side + k -/
def okM (T : ctT) (m : Int) : Prop := 0 ≤ m ∧ m < 100 * (tN T : Int) ∧ m / 10 % 10 ≤ 1
/-- what is always so of a state, for the machine's sake -/
def okS (T : ctT) (S : ctS) : Prop := sZ S ≤ 36 ∧ (∀ i, i < sZ S → okM T (sM S i)) ∧ (∀ i, i < sZ S → 0 ≤ sL S i ∧ sL S i ≤ 36) ∧ (∀ i, i < sZ S → -1 ≤ sR S i ∧ sR S i ≤ 49) ∧ (∀ x, x < 4 → 0 ≤ sLo S x ∧ sLo S x ≤ 9 ∧ 0 ≤ sHi S x ∧ sHi S x ≤ 9) ∧ sC S ≤ 40 ∧ (∀ c, c < sC S → 0 ≤ sCs S c ∧ sCs S c ≤ 8) ∧ (∀ c k : Nat, c < sC S → (k : Int) < sCs S c → okM T (sCm S (8 * c + k))) ∧ (sH S = 0 ∨ sH S = 1)
theorem wS_row (T : ctT) (S : ctS) : ∀ r, r < 6 → (wS T S)[14 + r]? = some (cA 0 4 (tW T r)) := by
  intro r hr
  match r, hr with
  | 0, _ => rfl
  | 1, _ => rfl
  | 2, _ => rfl
  | 3, _ => rfl
  | 4, _ => rfl
  | 5, _ => rfl
/-- 1, if it is so; 0 -/
noncomputable def ct_i (P : Prop) : Int := @ite Int P (Classical.propDecidable P) 1 0
theorem ct_i_t {P : Prop} (h : P) : ct_i P = 1 := if_pos h
theorem ct_i_f {P : Prop} (h : ¬ P) : ct_i P = 0 := if_neg h
theorem ct_i_r (P : Prop) : 0 ≤ ct_i P ∧ ct_i P ≤ 1 := by
  by_cases h : P
  · rw [ct_i_t h]; omega
  · rw [ct_i_f h]; omega
theorem ct_i_0 {P : Prop} : ct_i P = 0 ↔ ¬ P := by
  by_cases h : P
  · rw [ct_i_t h]; simp [h]
  · rw [ct_i_f h]; simp [h]
theorem ct_i_1 {P : Prop} : ct_i P = 1 ↔ P := by
  by_cases h : P
  · rw [ct_i_t h]; simp [h]
  · rw [ct_i_f h]; simp [h]
theorem ct_i_z (P : Prop) : ct_i P = 0 ∨ ct_i P = 1 := by
  have := ct_i_r P
  omega
theorem ct_i_c {P Q : Prop} (h : P ↔ Q) : ct_i P = ct_i Q := by rw [propext h]
theorem ct_rI {a b : Int} (h : a = b) : some (vI a) = some (vI b) := by rw [h]
