/-- a fraction's upper or lower part, in least terms -/
def fFr (a b : Nat) (u : Int) : Int := if u = 0 then ((b / Nat.gcd a b : Nat) : Int) else ((a / Nat.gcd a b : Nat) : Int)
set_option maxRecDepth 100000 in
set_option maxHeartbeats 1000000 in
theorem c_X1_toldOf (w : List ct_C) (a b : Nat) (ha : a < 2 ^ 30) (hb : b < 2 ^ 30) (h0 : 0 < b) (u : Int) (hu : u = 0 ∨ u = 1) : CM MX1_toldOf (1, 0, 0) [vI a, vI b, vI u] (w) (fun v w1 => v = some (vI (fFr a b u)) ∧ w1 = w) := by
  refine CM.of (by decide) (Nat.le_of_ble_eq_true rfl) ?_
  show CV MX1_toldOf (1, 0, 0) w.length (0, 0) 0 [(0, vI a), (1, vI b), (2, vI u)] [] (w) _
  have hg := Nat.gcd_pos_of_pos_right a h0
  have hl := Nat.gcd_le_right a h0
  refine cv_iconst dX1_toldOf_0 ?_
  refine cv_iload_n dX1_toldOf_1 rfl ?_
  refine cv_iload_n dX1_toldOf_2 rfl ?_
  refine cv_sameS (c_X1_greatestDivisor w a b ha hb) lkX1_greatestDivisor mlX1_66 dX1_toldOf_3 (by decide) rfl rfl (Nat.le_of_ble_eq_true rfl) ⟨Nat.le_refl _, Nat.le_refl _⟩ ?_
  intro v w1 hq
  obtain ⟨rfl, rfl⟩ := hq
  refine cv_max mlX1_69 dX1_toldOf_6 (by decide) (Nat.le_of_ble_eq_true rfl) ⟨Nat.le_refl _, Nat.le_refl _⟩ (by omega) ?_
  refine cv_topi ((Nat.gcd a b : Nat) : Int) (by omega) ?_
  refine cv_istore_n dX1_toldOf_9 (by decide) rfl rfl ?_
  refine cv_iload_n dX1_toldOf_10 rfl ?_
  refine cv_if_eq (tgt := 20) dX1_toldOf_11 (by decide) (by omega) (fun h11 => ?_) (fun h11 => ?_)
  · refine cv_iload_n dX1_toldOf_20 rfl ?_
    refine cv_iload_n dX1_toldOf_21 rfl ?_
    refine cv_idiv dX1_toldOf_22 (by omega) ?_
    refine cv_iret rfl dX1_toldOf_23 ⟨Nat.le_refl _, Nat.le_refl _⟩ ⟨ct_rI (by unfold fFr; rw [if_pos h11]; rfl), rfl⟩
  · refine cv_iload_n dX1_toldOf_14 rfl ?_
    refine cv_iload_n dX1_toldOf_15 rfl ?_
    refine cv_idiv dX1_toldOf_16 (by omega) ?_
    refine cv_goto (tgt := 23) dX1_toldOf_17 (by decide) ?_
    refine cv_iret rfl dX1_toldOf_23 ⟨Nat.le_refl _, Nat.le_refl _⟩ ⟨ct_rI (by unfold fFr; rw [if_neg h11]; rfl), rfl⟩
/-- a state, its task, chances (20) with how many ways there are by each set of lost rules (21) -/
abbrev wCh (T : ctT) (S : ctS) (n : Int) (f : Nat → Int) : List ct_C := wS T S ++ [cO 1 [vR 10, vR 21, vI n], cA 0 64 f]
theorem wCh_row (T : ctT) (S : ctS) (n : Int) (f : Nat → Int) : ∀ r, r < 6 → (wCh T S n f)[14 + r]? = some (cA 0 4 (tW T r)) := fun r hr => ct_ap (wS_row T S r hr)
def fLin (T : ctT) (r : Nat) (a b c d : Int) : Int := tW T r 0 * a + tW T r 1 * b + tW T r 2 * c + tW T r 3 * d
/-- the set of rules (of the first r) that values break -/
def fBb (T : ctT) (a b c d : Int) : Nat → Nat
  | 0 => 0
  | r + 1 => if tB T r < fLin T r a b c d then fBb T a b c d r + 2 ^ r else fBb T a b c d r
theorem fBb_r (T : ctT) (a b c d : Int) : ∀ r, fBb T a b c d r < 2 ^ r
  | 0 => by simp [fBb]
  | r + 1 => by
    have := fBb_r T a b c d r
    rw [Nat.pow_succ]
    unfold fBb
    split <;> omega
theorem ct_or {n r : Nat} (h : n < 2 ^ r) : n ||| 2 ^ r = n + 2 ^ r := by
  have := Nat.two_pow_add_eq_or_of_lt h 1
  rw [Nat.mul_one] at this
  rw [Nat.or_comm, ← this, Nat.add_comm]
theorem ct_p2 (r : Nat) : (1 : Int) * ((2 ^ ((r : Int)).toNat : Nat) : Int) = ((2 ^ r : Nat) : Int) := by rw [Int.toNat_natCast, Int.one_mul]
theorem ct_pow6 {r : Nat} (h : r ≤ 6) : 2 ^ r ≤ 64 := Nat.pow_le_pow_right (by decide) h
set_option maxRecDepth 100000 in
set_option maxHeartbeats 1000000 in
theorem c_X1_brokenBy (T : ctT) (S : ctS) (n : Int) (f : Nat → Int) (hT : okT T) (a b c d : Int) (hv : 0 ≤ a ∧ a ≤ 9 ∧ 0 ≤ b ∧ b ≤ 9 ∧ 0 ≤ c ∧ c ≤ 9 ∧ 0 ≤ d ∧ d ≤ 9) : CM MX1_brokenBy (0, 0, 0) [vR 20, vI a, vI b, vI c, vI d] (wCh T S n f) (fun v w => v = some (vI ((fBb T a b c d (tR T) : Nat) : Int)) ∧ w = wCh T S n f) := by
  refine CM.of (by decide) (Nat.le_of_ble_eq_true rfl) ?_
  show CV MX1_brokenBy (0, 0, 0) 22 (0, 0) 0 [(0, vR 20), (1, vI a), (2, vI b), (3, vI c), (4, vI d)] [] (wCh T S n f) _
  have hR := hT.2.2.1
  have loop : ∀ (k : Nat) (r : Nat), (tR T < r + k) → (r ≤ tR T) → CV MX1_brokenBy (0, 0, 0) 22 (0, 0) 6 [(0, vR 20), (1, vI a), (2, vI b), (3, vI c), (4, vI d), (5, vI ((fBb T a b c d r : Nat) : Int)), (6, vI r)] [] (wCh T S n f) (fun v w => v = some (vI ((fBb T a b c d (tR T) : Nat) : Int)) ∧ w = wCh T S n f) := by
    intro k
    induction k with
    | zero => intro r hk hi; exact absurd hk (by omega)
    | succ k ih =>
      intro r hk hi
      have hb := fBb_r T a b c d r
      have hp := ct_pow6 (r := r) (by omega)
      refine cv_iload dX1_brokenBy_6 rfl ?_
      refine cv_aload_n dX1_brokenBy_8 rfl ?_
      refine cv_getf flX1_19 dX1_brokenBy_9 rfl rfl ?_
      refine cv_getf flX1_26 dX1_brokenBy_12 rfl rfl ?_
      refine cv_icmp_ge (tgt := 86) dX1_brokenBy_15 (by decide) (by omega) (fun h15 => ?_) (fun h15 => ?_)
      · refine cv_iload dX1_brokenBy_86 rfl ?_
        refine cv_iret rfl dX1_brokenBy_88 ⟨Nat.le_refl _, Nat.le_refl _⟩ ⟨ct_rI (by rw [show r = tR T by omega]), rfl⟩
      · have w0 := hT.2.2.2.2.2.1 r 0 (by omega) (by omega)
        have w1 := hT.2.2.2.2.2.1 r 1 (by omega) (by omega)
        have w2 := hT.2.2.2.2.2.1 r 2 (by omega) (by omega)
        have w3 := hT.2.2.2.2.2.1 r 3 (by omega) (by omega)
        have b0 := hT.2.2.2.2.2.2.2 r (by omega)
        have m0 := ct_m9 w0 (v := a) (by omega)
        have m1 := ct_m9 w1 (v := b) (by omega)
        have m2 := ct_m9 w2 (v := c) (by omega)
        have m3 := ct_m9 w3 (v := d) (by omega)
        have el : fLin T r a b c d = tW T r 0 * a + tW T r 1 * b + tW T r 2 * c + tW T r 3 * d := rfl
        refine cv_aload_n dX1_brokenBy_18 rfl ?_
        refine cv_getf flX1_19 dX1_brokenBy_19 rfl rfl ?_
        refine cv_getf flX1_59 dX1_brokenBy_22 rfl rfl ?_
        refine cv_iload dX1_brokenBy_25 rfl ?_
        refine cv_aalj (r) (Or.inr rfl) dX1_brokenBy_27 rfl (by omega) (by constructor; show r < 6; omega; decide) (wS_ref r (by omega)) ?_
        refine cv_astore dX1_brokenBy_28 (by decide) rfl rfl ?_
        refine cv_aload dX1_brokenBy_30 rfl ?_
        refine cv_iconst dX1_brokenBy_32 ?_
        refine cv_ialj (0) dX1_brokenBy_33 (wCh_row T S n f r (by omega)) (by omega) (by omega) ?_
        refine cv_iload_n dX1_brokenBy_34 rfl ?_
        refine cv_imul dX1_brokenBy_35 ?_
        refine cv_aload dX1_brokenBy_36 rfl ?_
        refine cv_iconst dX1_brokenBy_38 ?_
        refine cv_ialj (1) dX1_brokenBy_39 (wCh_row T S n f r (by omega)) (by omega) (by omega) ?_
        refine cv_iload_n dX1_brokenBy_40 rfl ?_
        refine cv_imul dX1_brokenBy_41 ?_
        refine cv_iadd dX1_brokenBy_42 ?_
        refine cv_aload dX1_brokenBy_43 rfl ?_
        refine cv_iconst dX1_brokenBy_45 ?_
        refine cv_ialj (2) dX1_brokenBy_46 (wCh_row T S n f r (by omega)) (by omega) (by omega) ?_
        refine cv_iload_n dX1_brokenBy_47 rfl ?_
        refine cv_imul dX1_brokenBy_48 ?_
        refine cv_iadd dX1_brokenBy_49 ?_
        refine cv_aload dX1_brokenBy_50 rfl ?_
        refine cv_iconst dX1_brokenBy_52 ?_
        refine cv_ialj (3) dX1_brokenBy_53 (wCh_row T S n f r (by omega)) (by omega) (by omega) ?_
        refine cv_iload dX1_brokenBy_54 rfl ?_
        refine cv_imul dX1_brokenBy_56 ?_
        refine cv_iadd dX1_brokenBy_57 ?_
        refine cv_aload_n dX1_brokenBy_58 rfl ?_
        refine cv_getf flX1_19 dX1_brokenBy_59 rfl rfl ?_
        refine cv_getf flX1_63 dX1_brokenBy_62 rfl rfl ?_
        refine cv_iload dX1_brokenBy_65 rfl ?_
        refine cv_ialj (r) dX1_brokenBy_67 rfl (by omega) (by omega) ?_
        refine cv_icmp_le (tgt := 80) dX1_brokenBy_68 (by decide) (by omega) (fun h68 => ?_) (fun h68 => ?_)
        · refine cv_iinc dX1_brokenBy_80 (by decide) rfl rfl rfl ?_
          refine cv_goto (tgt := 6) dX1_brokenBy_83 (by decide) ?_
          refine cv_loc [0, 1, 2, 3, 4, 5, 6] rfl ?_
          have e0 : fBb T a b c d (r + 1) = fBb T a b c d r := if_neg (by omega)
          have := ih (r + 1) (by omega) (by omega)
          rw [e0] at this
          exact this
        · refine cv_iload dX1_brokenBy_71 rfl ?_
          refine cv_iconst dX1_brokenBy_73 ?_
          refine cv_iload dX1_brokenBy_74 rfl ?_
          refine cv_ishl dX1_brokenBy_76 (by omega) ?_
          refine cv_topi ((2 ^ r : Nat) : Int) (ct_p2 r) ?_
          refine cv_ior dX1_brokenBy_77 (by omega) ?_
          refine cv_topi ((fBb T a b c d r + 2 ^ r : Nat) : Int) (by rw [Int.toNat_natCast, Int.toNat_natCast, ct_or hb]) ?_
          refine cv_istore dX1_brokenBy_78 (by decide) rfl rfl ?_
          refine cv_iinc dX1_brokenBy_80 (by decide) rfl rfl rfl ?_
          refine cv_goto (tgt := 6) dX1_brokenBy_83 (by decide) ?_
          refine cv_loc [0, 1, 2, 3, 4, 5, 6] rfl ?_
          have e0 : fBb T a b c d (r + 1) = fBb T a b c d r + 2 ^ r := if_pos (by omega)
          have := ih (r + 1) (by omega) (by omega)
          rw [e0] at this
          exact this
  refine cv_iconst dX1_brokenBy_0 ?_
  refine cv_istore dX1_brokenBy_1 (by decide) rfl rfl ?_
  refine cv_iconst dX1_brokenBy_3 ?_
  refine cv_istore dX1_brokenBy_4 (by decide) rfl rfl ?_
  exact loop (tR T + 1) 0 (by omega) (by omega)
/-- a bit of a set -/
def tb (s r : Nat) : Bool := s / 2 ^ r % 2 == 1
theorem ct_bit : ∀ r : Nat, r < 6 → ∀ s : Nat, s < 64 → (((s : Int) / ((2 ^ ((r : Nat) : Int).toNat : Nat) : Int)).toNat &&& (1 : Int).toNat : Nat) = s / 2 ^ r % 2 := by
  intro r hr s hs
  rw [Int.toNat_natCast, ← Int.natCast_ediv, Int.toNat_natCast]
  exact Nat.and_one_is_mod _
theorem ct_xor6 : ∀ r : Nat, r < 6 → ∀ s : Nat, s < 64 → s / 2 ^ r % 2 = 1 → s ^^^ 2 ^ r = s - 2 ^ r ∧ 2 ^ r ≤ s ∧ (s - 2 ^ r) / 2 ^ r % 2 = 0 := by decide +kernel
/-- a set's chance: lost rules by x tenths -/
def fWg (x : Int) (l : Nat) : Nat → Int
  | 0 => 1
  | r + 1 => fWg x l r * (if l / 2 ^ r % 2 = 1 then x else 10 - x)
theorem fWg_r {x : Int} (hx : 0 ≤ x ∧ x ≤ 10) (l : Nat) : ∀ r, 0 ≤ fWg x l r ∧ fWg x l r ≤ ((10 ^ r : Nat) : Int)
  | 0 => by simp [fWg]
  | r + 1 => by
    have h0 := fWg_r hx l r
    have e : fWg x l (r + 1) = fWg x l r * (if l / 2 ^ r % 2 = 1 then x else 10 - x) := rfl
    have hy : 0 ≤ (if l / 2 ^ r % 2 = 1 then x else 10 - x) ∧ (if l / 2 ^ r % 2 = 1 then x else 10 - x) ≤ 10 := by split <;> omega
    rw [e, Nat.pow_succ, Int.natCast_mul]
    exact ⟨Int.mul_nonneg h0.1 hy.1, Int.mul_le_mul h0.2 hy.2 hy.1 (by omega)⟩
set_option maxRecDepth 100000 in
set_option maxHeartbeats 1000000 in
theorem c_X1_weightOf (T : ctT) (S : ctS) (n : Int) (f : Nat → Int) (hT : okT T) (l : Nat) (hl : l < 64) (x : Int) (hx : 0 ≤ x ∧ x ≤ 10) : CM MX1_weightOf (0, 0, 0) [vR 20, vI l, vI x] (wCh T S n f) (fun v w => v = some (vI (fWg x l (tR T))) ∧ w = wCh T S n f) := by
  refine CM.of (by decide) (Nat.le_of_ble_eq_true rfl) ?_
  show CV MX1_weightOf (0, 0, 0) 22 (0, 0) 0 [(0, vR 20), (1, vI l), (2, vI x)] [] (wCh T S n f) _
  have hR := hT.2.2.1
  have loop : ∀ (k : Nat) (r : Nat), (tR T < r + k) → (r ≤ tR T) → CV MX1_weightOf (0, 0, 0) 22 (0, 0) 5 [(0, vR 20), (1, vI l), (2, vI x), (3, vI (fWg x l r)), (4, vI r)] [] (wCh T S n f) (fun v w => v = some (vI (fWg x l (tR T))) ∧ w = wCh T S n f) := by
    intro k
    induction k with
    | zero => intro r hk hi; exact absurd hk (by omega)
    | succ k ih =>
      intro r hk hi
      refine cv_iload dX1_weightOf_5 rfl ?_
      refine cv_aload_n dX1_weightOf_7 rfl ?_
      refine cv_getf flX1_19 dX1_weightOf_8 rfl rfl ?_
      refine cv_getf flX1_26 dX1_weightOf_11 rfl rfl ?_
      refine cv_icmp_ge (tgt := 44) dX1_weightOf_14 (by decide) (by omega) (fun h14 => ?_) (fun h14 => ?_)
      · refine cv_iload_n dX1_weightOf_44 rfl ?_
        refine cv_iret rfl dX1_weightOf_45 ⟨Nat.le_refl _, Nat.le_refl _⟩ ⟨ct_rI (by rw [show r = tR T by omega]), rfl⟩
      · refine cv_iload_n dX1_weightOf_17 rfl ?_
        refine cv_iload_n dX1_weightOf_18 rfl ?_
        refine cv_iload dX1_weightOf_19 rfl ?_
        refine cv_ishr dX1_weightOf_21 (by omega) ?_
        refine cv_iconst dX1_weightOf_22 ?_
        refine cv_iand dX1_weightOf_23 ⟨Int.ediv_nonneg (Int.natCast_nonneg _) (Int.natCast_nonneg _), by omega⟩ ?_
        refine cv_topi ((l / 2 ^ r % 2 : Nat) : Int) (by rw [ct_bit r (by omega) l hl]) ?_
        refine cv_iconst dX1_weightOf_24 ?_
        refine cv_icmp_ne (tgt := 32) dX1_weightOf_25 (by decide) (by omega) (fun h25 => ?_) (fun h25 => ?_)
        · refine cv_bipush dX1_weightOf_32 (by decide) ?_
          refine cv_iload_n dX1_weightOf_34 rfl ?_
          refine cv_isub dX1_weightOf_35 ?_
          refine cv_imul dX1_weightOf_36 ?_
          refine cv_istore_n dX1_weightOf_37 (by decide) rfl rfl ?_
          refine cv_iinc dX1_weightOf_38 (by decide) rfl rfl rfl ?_
          refine cv_goto (tgt := 5) dX1_weightOf_41 (by decide) ?_
          have e0 : fWg x l (r + 1) = fWg x l r * (10 - x) := by
            show fWg x l r * (if l / 2 ^ r % 2 = 1 then x else 10 - x) = _
            rw [if_neg (by omega)]
          have := ih (r + 1) (by omega) (by omega)
          rw [e0] at this
          exact this
        · refine cv_iload_n dX1_weightOf_28 rfl ?_
          refine cv_goto (tgt := 36) dX1_weightOf_29 (by decide) ?_
          refine cv_imul dX1_weightOf_36 ?_
          refine cv_istore_n dX1_weightOf_37 (by decide) rfl rfl ?_
          refine cv_iinc dX1_weightOf_38 (by decide) rfl rfl rfl ?_
          refine cv_goto (tgt := 5) dX1_weightOf_41 (by decide) ?_
          have e0 : fWg x l (r + 1) = fWg x l r * x := by
            show fWg x l r * (if l / 2 ^ r % 2 = 1 then x else 10 - x) = _
            rw [if_pos (by omega)]
          have := ih (r + 1) (by omega) (by omega)
          rw [e0] at this
          exact this
  refine cv_iconst dX1_weightOf_0 ?_
  refine cv_istore_n dX1_weightOf_1 (by decide) rfl rfl ?_
  refine cv_iconst dX1_weightOf_2 ?_
  refine cv_istore dX1_weightOf_3 (by decide) rfl rfl ?_
  exact loop (tR T + 1) 0 (by omega) (by omega)
/-- sets grow by rule r: the first s sets -/
def sosP (f : Nat → Int) (r : Nat) : Nat → (Nat → Int)
  | 0 => f
  | s + 1 => if s / 2 ^ r % 2 = 1 then ct_up (sosP f r s) s (sosP f r s s + sosP f r s (s - 2 ^ r)) else sosP f r s
theorem sosP_s (f : Nat → Int) (r s : Nat) : sosP f r (s + 1) = if s / 2 ^ r % 2 = 1 then ct_up (sosP f r s) s (sosP f r s s + sosP f r s (s - 2 ^ r)) else sosP f r s := rfl
def fSos (f : Nat → Int) : Nat → (Nat → Int)
  | 0 => f
  | r + 1 => sosP (fSos f r) r 64
set_option maxRecDepth 100000 in
set_option maxHeartbeats 1000000 in
theorem c_X1_addSmallerSets (T : ctT) (S : ctS) (n : Int) (f : Nat → Int) (hT : okT T) : CM MX1_addSmallerSets (0, 0, 0) [vR 20] (wCh T S n f) (fun v w => v = none ∧ w = wCh T S n (fSos f 6)) := by
  refine CM.of (by decide) (Nat.le_of_ble_eq_true rfl) ?_
  show CV MX1_addSmallerSets (0, 0, 0) 22 (0, 0) 0 [(0, vR 20)] [] (wCh T S n f) _
  have inner : ∀ (k : Nat) (s r : Nat) (g : Nat → Int), (64 < s + k) → (s ≤ 64) → (r < 6) → (CV MX1_addSmallerSets (0, 0, 0) 22 (0, 0) 50 [(0, vR 20), (1, vI r), (2, vI 64)] [] (wCh T S n (sosP g r 64)) (fun v w => v = none ∧ w = wCh T S n (fSos f 6))) → CV MX1_addSmallerSets (0, 0, 0) 22 (0, 0) 10 [(0, vR 20), (1, vI r), (2, vI s)] [] (wCh T S n (sosP g r s)) (fun v w => v = none ∧ w = wCh T S n (fSos f 6)) := by
    intro k
    induction k with
    | zero => intro s r g hk hi hr hx; exact absurd hk (by omega)
    | succ k ih =>
      intro s r g hk hi hr hx
      refine cv_iload_n dX1_addSmallerSets_10 rfl ?_
      refine cv_bipush dX1_addSmallerSets_11 (by decide) ?_
      refine cv_icmp_ge (tgt := 50) dX1_addSmallerSets_13 (by decide) (by omega) (fun h13 => ?_) (fun h13 => ?_)
      · have e1 : s = 64 := by omega
        subst e1
        exact hx
      · refine cv_iload_n dX1_addSmallerSets_16 rfl ?_
        refine cv_iload_n dX1_addSmallerSets_17 rfl ?_
        refine cv_ishr dX1_addSmallerSets_18 (by omega) ?_
        refine cv_iconst dX1_addSmallerSets_19 ?_
        refine cv_iand dX1_addSmallerSets_20 ⟨Int.ediv_nonneg (Int.natCast_nonneg _) (Int.natCast_nonneg _), by omega⟩ ?_
        refine cv_topi ((s / 2 ^ r % 2 : Nat) : Int) (by rw [ct_bit r hr s (by omega)]) ?_
        refine cv_iconst dX1_addSmallerSets_21 ?_
        refine cv_icmp_ne (tgt := 44) dX1_addSmallerSets_22 (by decide) (by omega) (fun h22 => ?_) (fun h22 => ?_)
        · refine cv_iinc dX1_addSmallerSets_44 (by decide) rfl rfl rfl ?_
          refine cv_goto (tgt := 10) dX1_addSmallerSets_47 (by decide) ?_
          have e0 : sosP g r (s + 1) = sosP g r s := if_neg (by omega)
          have := ih (s + 1) r g (by omega) (by omega) hr hx
          rw [e0] at this
          exact this
        · obtain ⟨x1, x2, x3⟩ := ct_xor6 r hr s (by omega) (by omega)
          have hp := ct_pow6 (r := r) (by omega)
          have hp0 : (0 : Int) ≤ ((2 ^ r : Nat) : Int) := Int.natCast_nonneg _
          refine cv_aload_n dX1_addSmallerSets_25 rfl ?_
          refine cv_getf flX1_9 dX1_addSmallerSets_26 rfl rfl ?_
          refine cv_iload_n dX1_addSmallerSets_29 rfl ?_
          refine cv_dup2 dX1_addSmallerSets_30 rfl rfl ?_
          refine cv_ialj (s) dX1_addSmallerSets_31 rfl (by omega) (by omega) ?_
          refine cv_aload_n dX1_addSmallerSets_32 rfl ?_
          refine cv_getf flX1_9 dX1_addSmallerSets_33 rfl rfl ?_
          refine cv_iload_n dX1_addSmallerSets_36 rfl ?_
          refine cv_iconst dX1_addSmallerSets_37 ?_
          refine cv_iload_n dX1_addSmallerSets_38 rfl ?_
          refine cv_ishl dX1_addSmallerSets_39 (by omega) ?_
          refine cv_topi ((2 ^ r : Nat) : Int) (ct_p2 r) ?_
          refine cv_ixor dX1_addSmallerSets_40 (by omega) ?_
          refine cv_topi ((s - 2 ^ r : Nat) : Int) (by rw [Int.toNat_natCast, Int.toNat_natCast, x1]) ?_
          refine cv_ialj (s - 2 ^ r) dX1_addSmallerSets_41 rfl (by omega) (by omega) ?_
          refine cv_iadd dX1_addSmallerSets_42 ?_
          refine cv_iasj (s) dX1_addSmallerSets_43 rfl (by omega) (by omega) ?_
          refine cv_iinc dX1_addSmallerSets_44 (by decide) rfl rfl rfl ?_
          refine cv_goto (tgt := 10) dX1_addSmallerSets_47 (by decide) ?_
          have e0 : sosP g r (s + 1) = ct_up (sosP g r s) s (sosP g r s s + sosP g r s (s - 2 ^ r)) := if_pos (by omega)
          have := ih (s + 1) r g (by omega) (by omega) hr hx
          rw [e0] at this
          exact this
  have outer : ∀ (k : Nat) (r : Nat), (6 < r + k) → (r ≤ 6) → CV MX1_addSmallerSets (0, 0, 0) 22 (0, 0) 2 [(0, vR 20), (1, vI r)] [] (wCh T S n (fSos f r)) (fun v w => v = none ∧ w = wCh T S n (fSos f 6)) := by
    intro k
    induction k with
    | zero => intro r hk hi; exact absurd hk (by omega)
    | succ k ih =>
      intro r hk hi
      refine cv_iload_n dX1_addSmallerSets_2 rfl ?_
      refine cv_bipush dX1_addSmallerSets_3 (by decide) ?_
      refine cv_icmp_ge (tgt := 56) dX1_addSmallerSets_5 (by decide) (by omega) (fun h5 => ?_) (fun h5 => ?_)
      · refine cv_ret rfl dX1_addSmallerSets_56 ⟨Nat.le_refl _, Nat.le_refl _⟩ ⟨rfl, by rw [show r = 6 by omega]⟩
      · refine cv_iconst dX1_addSmallerSets_8 ?_
        refine cv_istore_n dX1_addSmallerSets_9 (by decide) rfl rfl ?_
        refine inner 65 0 r (fSos f r) (by omega) (by omega) (by omega) ?_
        refine cv_iinc dX1_addSmallerSets_50 (by decide) rfl rfl rfl ?_
        refine cv_goto (tgt := 2) dX1_addSmallerSets_53 (by decide) ?_
        refine cv_loc [0, 1] rfl ?_
        exact ih (r + 1) (by omega) (by omega)
  refine cv_iconst dX1_addSmallerSets_0 ?_
  refine cv_istore_n dX1_addSmallerSets_1 (by decide) rfl rfl ?_
  exact outer 7 0 (by omega) (by omega)
