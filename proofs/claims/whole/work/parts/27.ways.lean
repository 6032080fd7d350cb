/-- a sum of k terms from lo on -/
def sN (g : Int → Int) (lo : Int) : Nat → Int
  | 0 => 0
  | k + 1 => sN g lo k + g (lo + k)
theorem sN_c {g h : Int → Int} {lo : Int} : ∀ {k : Nat}, (∀ i, lo ≤ i → i < lo + k → g i = h i) → sN g lo k = sN h lo k
  | 0, _ => rfl
  | k + 1, e => by
    show sN g lo k + g (lo + k) = sN h lo k + h (lo + k)
    rw [sN_c (fun i h1 h2 => e i h1 (by omega)), e (lo + k) (by omega) (by omega)]
theorem sN_r {g : Int → Int} {lo M : Int} : ∀ {k : Nat}, (∀ i, lo ≤ i → i < lo + k → 0 ≤ g i ∧ g i ≤ M) → 0 ≤ sN g lo k ∧ sN g lo k ≤ (k : Int) * M
  | 0, _ => by simp [sN]
  | k + 1, e => by
    have h1 := sN_r (g := g) (lo := lo) (M := M) (k := k) (fun i h1 h2 => e i h1 (by omega))
    have h2 := e (lo + k) (by omega) (by omega)
    have h3 : ((k + 1 : Nat) : Int) * M = (k : Int) * M + M := by rw [show ((k + 1 : Nat) : Int) = (k : Int) + 1 from rfl, Int.add_mul, Int.one_mul]
    show 0 ≤ sN g lo k + g (lo + k) ∧ sN g lo k + g (lo + k) ≤ _
    omega
/-- how many of a stretch lie between -/
theorem sN_iv {P : Int → Prop} {lo a b : Int} : ∀ {k : Nat}, lo ≤ a → (∀ d, lo ≤ d → d < lo + k → (P d ↔ a ≤ d ∧ d ≤ b)) → sN (fun d => ct_i (P d)) lo k = max 0 (min b (lo + k - 1) - a + 1)
  | 0, h0, _ => by simp only [sN]; omega
  | k + 1, h0, e => by
    have h1 := sN_iv (P := P) (lo := lo) (a := a) (b := b) (k := k) h0 (fun d h1 h2 => e d h1 (by omega))
    have h2 := e (lo + k) (by omega) (by omega)
    show sN (fun d => ct_i (P d)) lo k + ct_i (P (lo + k)) = _
    rw [h1]
    by_cases hp : P (lo + k)
    · rw [ct_i_t hp]
      have := h2.mp hp
      omega
    · rw [ct_i_f hp]
      have h3 : ¬ (a ≤ lo + k ∧ lo + k ≤ b) := fun q => hp (h2.mpr q)
      omega
/-- values keep the first r rules -/
def kpR (T : ctT) (a b c d : Int) (r : Nat) : Prop := ∀ j, j < r → tW T j 0 * a + tW T j 1 * b + tW T j 2 * c + tW T j 3 * d ≤ tB T j
def fK (f t : Nat → Int) (x : Nat) : Nat := (t x - f x + 1).toNat
noncomputable def fC3 (T : ctT) (f t : Nat → Int) (a b c : Int) : Int := sN (fun d => ct_i (kpR T a b c d (tR T))) (f 3) (fK f t 3)
noncomputable def fC2 (T : ctT) (f t : Nat → Int) (a b : Int) : Int := sN (fun c => fC3 T f t a b c) (f 2) (fK f t 2)
noncomputable def fC1 (T : ctT) (f t : Nat → Int) (a : Int) : Int := sN (fun b => fC2 T f t a b) (f 1) (fK f t 1)
/-- how many values of a box keep all rules -/
noncomputable def fBox (T : ctT) (f t : Nat → Int) : Int := sN (fun a => fC1 T f t a) (f 0) (fK f t 0)
def okB (f t : Nat → Int) : Prop := ∀ x, x < 4 → 0 ≤ f x ∧ f x ≤ 10 ∧ -1 ≤ t x ∧ t x ≤ 9
theorem fK_r {f t : Nat → Int} (h : okB f t) {x : Nat} (hx : x < 4) : fK f t x ≤ 10 := by
  have := h x hx
  unfold fK
  omega
theorem fC3_r {T : ctT} {f t : Nat → Int} (h : okB f t) (a b c : Int) : 0 ≤ fC3 T f t a b c ∧ fC3 T f t a b c ≤ 10 := by
  have h1 := sN_r (g := fun d => ct_i (kpR T a b c d (tR T))) (lo := f 3) (M := 1) (k := fK f t 3) (fun i _ _ => ct_i_r _)
  have h2 := fK_r h (x := 3) (by omega)
  unfold fC3
  omega
theorem fC2_r {T : ctT} {f t : Nat → Int} (h : okB f t) (a b : Int) : 0 ≤ fC2 T f t a b ∧ fC2 T f t a b ≤ 100 := by
  have h1 := sN_r (g := fun c => fC3 T f t a b c) (lo := f 2) (M := 10) (k := fK f t 2) (fun i _ _ => fC3_r h a b i)
  have h2 := fK_r h (x := 2) (by omega)
  unfold fC2
  omega
theorem fC1_r {T : ctT} {f t : Nat → Int} (h : okB f t) (a : Int) : 0 ≤ fC1 T f t a ∧ fC1 T f t a ≤ 1000 := by
  have h1 := sN_r (g := fun b => fC2 T f t a b) (lo := f 1) (M := 100) (k := fK f t 1) (fun i _ _ => fC2_r h a i)
  have h2 := fK_r h (x := 1) (by omega)
  unfold fC1
  omega
theorem fBox_r {T : ctT} {f t : Nat → Int} (h : okB f t) : 0 ≤ fBox T f t ∧ fBox T f t ≤ 10000 := by
  have h1 := sN_r (g := fun a => fC1 T f t a) (lo := f 0) (M := 1000) (k := fK f t 0) (fun i _ _ => fC1_r h i)
  have h2 := fK_r h (x := 0) (by omega)
  unfold fBox
  omega
/-- a state, its task, a counter (20) with its box (21: from, 22: to) -/
abbrev wW (T : ctT) (S : ctS) (f t : Nat → Int) : List ct_C := wS T S ++ [cO 10 [vR 10, vR 21, vR 22], cA 0 4 f, cA 0 4 t]
theorem wW_row (T : ctT) (S : ctS) (f t : Nat → Int) : ∀ r, r < 6 → (wW T S f t)[14 + r]? = some (cA 0 4 (tW T r)) := fun r hr => ct_ap (wS_row T S r hr)
theorem ct_m9 {w v : Int} (hw : -3 ≤ w ∧ w ≤ 3) (hv : -1 ≤ v ∧ v ≤ 10) : -30 ≤ w * v ∧ w * v ≤ 30 := by
  have h : w = -3 ∨ w = -2 ∨ w = -1 ∨ w = 0 ∨ w = 1 ∨ w = 2 ∨ w = 3 := by omega
  rcases h with rfl | rfl | rfl | rfl | rfl | rfl | rfl <;> omega
theorem ct_dv {q w : Int} (hw : 0 < w ∧ w ≤ 3) (hq : -300 ≤ q ∧ q ≤ 300) : -300 ≤ q / w ∧ q / w ≤ 300 := by
  have h : w = 1 ∨ w = 2 ∨ w = 3 := by omega
  rcases h with rfl | rfl | rfl <;> omega
theorem ct_up_le {q w d : Int} (hw : 0 < w) : w * d ≤ q ↔ d ≤ q / w := by rw [Int.le_ediv_iff_mul_le hw, Int.mul_comm]
theorem ct_dn_le {q w d : Int} (hw : w < 0) : w * d ≤ q ↔ -(q / -w) ≤ d := by
  have h := ct_up_le (q := q) (w := -w) (d := -d) (by omega)
  rw [Int.neg_mul_neg] at h
  rw [h]
  omega
set_option maxRecDepth 100000 in
set_option maxHeartbeats 1000000 in
theorem c_X10_countOfLast (T : ctT) (S : ctS) (f t : Nat → Int) (hT : okT T) (hB : okB f t) (a b c : Int) (hv : 0 ≤ a ∧ a ≤ 9 ∧ 0 ≤ b ∧ b ≤ 9 ∧ 0 ≤ c ∧ c ≤ 9) : CM MX10_countOfLast (1, 0, 0) [vR 20, vI a, vI b, vI c] (wW T S f t) (fun v w => v = some (vI (fC3 T f t a b c)) ∧ w = wW T S f t) := by
  refine CM.of (by decide) (Nat.le_of_ble_eq_true rfl) ?_
  show CV MX10_countOfLast (1, 0, 0) 23 (0, 0) 0 [(0, vR 20), (1, vI a), (2, vI b), (3, vI c)] [] (wW T S f t) _
  have hR := hT.2.2.1
  obtain ⟨B1, B2, B3, B4⟩ := hB 3 (by omega)
  have loop : ∀ (k : Nat) (r : Nat) (x y : Int), (tR T < r + k) → (r ≤ tR T) → (f 3 ≤ x ∧ x ≤ 1000 ∧ -1000 ≤ y ∧ y ≤ t 3) → (∀ d, f 3 ≤ d → d ≤ t 3 → (kpR T a b c d r ↔ x ≤ d ∧ d ≤ y)) → CV MX10_countOfLast (1, 0, 0) 23 (0, 0) 19 [(0, vR 20), (1, vI a), (2, vI b), (3, vI c), (4, vI x), (5, vI y), (6, vI r)] [] (wW T S f t) (fun v w => v = some (vI (fC3 T f t a b c)) ∧ w = wW T S f t) := by
    intro k
    induction k with
    | zero => intro r x y hk hi hx hP; exact absurd hk (by omega)
    | succ k ih =>
      intro r x y hk hi hx hP
      refine cv_iload dX10_countOfLast_19 rfl ?_
      refine cv_aload_n dX10_countOfLast_21 rfl ?_
      refine cv_getf flX10_18 dX10_countOfLast_22 rfl rfl ?_
      refine cv_getf flX10_84 dX10_countOfLast_25 rfl rfl ?_
      refine cv_icmp_ge (tgt := 143) dX10_countOfLast_28 (by decide) (by omega) (fun h28 => ?_) (fun h28 => ?_)
      · refine cv_iconst dX10_countOfLast_143 ?_
        refine cv_iload dX10_countOfLast_144 rfl ?_
        refine cv_iload dX10_countOfLast_146 rfl ?_
        refine cv_isub dX10_countOfLast_148 ?_
        refine cv_iconst dX10_countOfLast_149 ?_
        refine cv_iadd dX10_countOfLast_150 ?_
        refine cv_max mlX10_72 dX10_countOfLast_151 (by decide) (Nat.le_of_ble_eq_true rfl) ⟨Nat.le_refl _, Nat.le_refl _⟩ (by omega) ?_
        refine cv_iret rfl dX10_countOfLast_154 ⟨Nat.le_refl _, Nat.le_refl _⟩ ⟨ct_rI (by
            have hfk : (fK f t 3 : Int) = max 0 (t 3 - f 3 + 1) := by unfold fK; omega
            unfold fC3
            rw [sN_iv (a := x) (b := y) hx.1 (fun d h1 h2 => ?_)]
            · omega
            · rw [show tR T = r by omega]
              exact hP d h1 (by omega)), rfl⟩
      · have w0 := hT.2.2.2.2.2.1 r 0 (by omega) (by omega)
        have w1 := hT.2.2.2.2.2.1 r 1 (by omega) (by omega)
        have w2 := hT.2.2.2.2.2.1 r 2 (by omega) (by omega)
        have w3 := hT.2.2.2.2.2.1 r 3 (by omega) (by omega)
        have b0 := hT.2.2.2.2.2.2.2 r (by omega)
        have m0 := ct_m9 w0 (v := a) (by omega)
        have m1 := ct_m9 w1 (v := b) (by omega)
        have m2 := ct_m9 w2 (v := c) (by omega)
        have hs : ∀ d, kpR T a b c d (r + 1) ↔ kpR T a b c d r ∧ tW T r 3 * d ≤ tB T r - tW T r 0 * a - tW T r 1 * b - tW T r 2 * c := by
          intro d
          constructor
          · intro h
            exact ⟨fun j hj => h j (by omega), by have := h r (by omega); omega⟩
          · rintro ⟨h1, h2⟩ j hj
            rcases Nat.lt_succ_iff_lt_or_eq.mp hj with q | q
            · exact h1 j q
            · subst q; omega
        refine cv_aload_n dX10_countOfLast_31 rfl ?_
        refine cv_getf flX10_18 dX10_countOfLast_32 rfl rfl ?_
        refine cv_getf flX10_87 dX10_countOfLast_35 rfl rfl ?_
        refine cv_iload dX10_countOfLast_38 rfl ?_
        refine cv_aalj (r) (Or.inr rfl) dX10_countOfLast_40 rfl (by omega) (by constructor; show r < 6; omega; decide) (wS_ref r (by omega)) ?_
        refine cv_astore dX10_countOfLast_41 (by decide) rfl rfl ?_
        refine cv_aload_n dX10_countOfLast_43 rfl ?_
        refine cv_getf flX10_18 dX10_countOfLast_44 rfl rfl ?_
        refine cv_getf flX10_91 dX10_countOfLast_47 rfl rfl ?_
        refine cv_iload dX10_countOfLast_50 rfl ?_
        refine cv_ialj (r) dX10_countOfLast_52 rfl (by omega) (by omega) ?_
        refine cv_aload dX10_countOfLast_53 rfl ?_
        refine cv_iconst dX10_countOfLast_55 ?_
        refine cv_ialj (0) dX10_countOfLast_56 (wW_row T S f t r (by omega)) (by omega) (by omega) ?_
        refine cv_iload_n dX10_countOfLast_57 rfl ?_
        refine cv_imul dX10_countOfLast_58 ?_
        refine cv_isub dX10_countOfLast_59 ?_
        refine cv_aload dX10_countOfLast_60 rfl ?_
        refine cv_iconst dX10_countOfLast_62 ?_
        refine cv_ialj (1) dX10_countOfLast_63 (wW_row T S f t r (by omega)) (by omega) (by omega) ?_
        refine cv_iload_n dX10_countOfLast_64 rfl ?_
        refine cv_imul dX10_countOfLast_65 ?_
        refine cv_isub dX10_countOfLast_66 ?_
        refine cv_aload dX10_countOfLast_67 rfl ?_
        refine cv_iconst dX10_countOfLast_69 ?_
        refine cv_ialj (2) dX10_countOfLast_70 (wW_row T S f t r (by omega)) (by omega) (by omega) ?_
        refine cv_iload_n dX10_countOfLast_71 rfl ?_
        refine cv_imul dX10_countOfLast_72 ?_
        refine cv_isub dX10_countOfLast_73 ?_
        refine cv_istore dX10_countOfLast_74 (by decide) rfl rfl ?_
        refine cv_aload dX10_countOfLast_76 rfl ?_
        refine cv_iconst dX10_countOfLast_78 ?_
        refine cv_ialj (3) dX10_countOfLast_79 (wW_row T S f t r (by omega)) (by omega) (by omega) ?_
        refine cv_if_le (tgt := 102) dX10_countOfLast_80 (by decide) (by omega) (fun h80 => ?_) (fun h80 => ?_)
        · refine cv_aload dX10_countOfLast_102 rfl ?_
          refine cv_iconst dX10_countOfLast_104 ?_
          refine cv_ialj (3) dX10_countOfLast_105 (wW_row T S f t r (by omega)) (by omega) (by omega) ?_
          refine cv_if_ge (tgt := 130) dX10_countOfLast_106 (by decide) (by omega) (fun h106 => ?_) (fun h106 => ?_)
          · refine cv_iload dX10_countOfLast_130 rfl ?_
            refine cv_if_ge (tgt := 137) dX10_countOfLast_132 (by decide) (by omega) (fun h132 => ?_) (fun h132 => ?_)
            · refine cv_iinc dX10_countOfLast_137 (by decide) rfl rfl rfl ?_
              refine cv_goto (tgt := 19) dX10_countOfLast_140 (by decide) ?_
              refine cv_loc [0, 1, 2, 3, 4, 5, 6] rfl ?_
              refine ih (r + 1) x y (by omega) (by omega) (by omega) (fun d h1 h2 => ?_)
              rw [hs, hP d h1 h2, show tW T r 3 = 0 by omega, Int.zero_mul]
              omega
            · refine cv_iconst dX10_countOfLast_135 ?_
              refine cv_iret rfl dX10_countOfLast_136 ⟨Nat.le_refl _, Nat.le_refl _⟩ ⟨ct_rI (by
            unfold fC3
            rw [sN_iv (a := f 3) (b := f 3 - 1) (Int.le_refl _) (fun d h1 h2 => ?_)]
            · omega
            · constructor
              · intro h
                have := h r (by omega)
                rw [show tW T r 3 = 0 by omega, Int.zero_mul] at this
                omega
              · intro h; omega), rfl⟩
          · have hq := ct_dv (q := tB T r - tW T r 0 * a - tW T r 1 * b - tW T r 2 * c) (w := -tW T r 3) (by omega) (by omega)
            refine cv_iload dX10_countOfLast_109 rfl ?_
            refine cv_iload dX10_countOfLast_111 rfl ?_
            refine cv_aload dX10_countOfLast_113 rfl ?_
            refine cv_iconst dX10_countOfLast_115 ?_
            refine cv_ialj (3) dX10_countOfLast_116 (wW_row T S f t r (by omega)) (by omega) (by omega) ?_
            refine cv_ineg dX10_countOfLast_117 ?_
            refine cv_sameS (c_floorDiv (wW T S f t) (tB T r - tW T r 0 * a - tW T r 1 * b - tW T r 2 * c) (-tW T r 3) (by omega) (by omega)) lkJ9_floorDiv_7cf53 mlX10_94 dX10_countOfLast_118 (by decide) rfl rfl (Nat.le_of_ble_eq_true rfl) ⟨Nat.le_refl _, Nat.le_refl _⟩ ?_
            intro v w1 hq
            obtain ⟨rfl, rfl⟩ := hq
            refine cv_ineg dX10_countOfLast_121 ?_
            refine cv_max mlX10_72 dX10_countOfLast_122 (by decide) (Nat.le_of_ble_eq_true rfl) ⟨Nat.le_refl _, Nat.le_refl _⟩ (by omega) ?_
            refine cv_istore dX10_countOfLast_125 (by decide) rfl rfl ?_
            refine cv_goto (tgt := 137) dX10_countOfLast_127 (by decide) ?_
            refine cv_iinc dX10_countOfLast_137 (by decide) rfl rfl rfl ?_
            refine cv_goto (tgt := 19) dX10_countOfLast_140 (by decide) ?_
            refine cv_loc [0, 1, 2, 3, 4, 5, 6] rfl ?_
            refine ih (r + 1) (max x (-((tB T r - tW T r 0 * a - tW T r 1 * b - tW T r 2 * c) / -tW T r 3))) y (by omega) (by omega) (by omega) (fun d h1 h2 => ?_)
            rw [hs, hP d h1 h2, ct_dn_le (show tW T r 3 < 0 by omega)]
            omega
        · have hq := ct_dv (q := tB T r - tW T r 0 * a - tW T r 1 * b - tW T r 2 * c) (w := tW T r 3) (by omega) (by omega)
          refine cv_iload dX10_countOfLast_83 rfl ?_
          refine cv_iload dX10_countOfLast_85 rfl ?_
          refine cv_aload dX10_countOfLast_87 rfl ?_
          refine cv_iconst dX10_countOfLast_89 ?_
          refine cv_ialj (3) dX10_countOfLast_90 (wW_row T S f t r (by omega)) (by omega) (by omega) ?_
          refine cv_sameS (c_floorDiv (wW T S f t) (tB T r - tW T r 0 * a - tW T r 1 * b - tW T r 2 * c) (tW T r 3) (by omega) (by omega)) lkJ9_floorDiv_7cf53 mlX10_94 dX10_countOfLast_91 (by decide) rfl rfl (Nat.le_of_ble_eq_true rfl) ⟨Nat.le_refl _, Nat.le_refl _⟩ ?_
          intro v w1 hq
          obtain ⟨rfl, rfl⟩ := hq
          refine cv_min mlX10_77 dX10_countOfLast_94 (by decide) (Nat.le_of_ble_eq_true rfl) ⟨Nat.le_refl _, Nat.le_refl _⟩ (by omega) ?_
          refine cv_istore dX10_countOfLast_97 (by decide) rfl rfl ?_
          refine cv_goto (tgt := 137) dX10_countOfLast_99 (by decide) ?_
          refine cv_iinc dX10_countOfLast_137 (by decide) rfl rfl rfl ?_
          refine cv_goto (tgt := 19) dX10_countOfLast_140 (by decide) ?_
          refine cv_loc [0, 1, 2, 3, 4, 5, 6] rfl ?_
          refine ih (r + 1) x (min y ((tB T r - tW T r 0 * a - tW T r 1 * b - tW T r 2 * c) / tW T r 3)) (by omega) (by omega) (by omega) (fun d h1 h2 => ?_)
          rw [hs, hP d h1 h2, ct_up_le (show 0 < tW T r 3 by omega)]
          omega
  refine cv_aload_n dX10_countOfLast_0 rfl ?_
  refine cv_getf flX10_9 dX10_countOfLast_1 rfl rfl ?_
  refine cv_iconst dX10_countOfLast_4 ?_
  refine cv_ialj (3) dX10_countOfLast_5 rfl (by omega) (by omega) ?_
  refine cv_istore dX10_countOfLast_6 (by decide) rfl rfl ?_
  refine cv_aload_n dX10_countOfLast_8 rfl ?_
  refine cv_getf flX10_15 dX10_countOfLast_9 rfl rfl ?_
  refine cv_iconst dX10_countOfLast_12 ?_
  refine cv_ialj (3) dX10_countOfLast_13 rfl (by omega) (by omega) ?_
  refine cv_istore dX10_countOfLast_14 (by decide) rfl rfl ?_
  refine cv_iconst dX10_countOfLast_16 ?_
  refine cv_istore dX10_countOfLast_17 (by decide) rfl rfl ?_
  exact loop (tR T + 1) 0 (f 3) (t 3) (by omega) (by omega) (by omega) (fun d h1 h2 => ⟨fun _ => ⟨h1, h2⟩, fun _ j hj => absurd hj (Nat.not_lt_zero _)⟩)
