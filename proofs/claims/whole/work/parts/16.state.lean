set_option maxRecDepth 100000 in
set_option maxHeartbeats 1000000 in
theorem c_X11_markOf (w : List ct_C) (x s k : Int) : CM MX11_markOf (0, 0, 0) [vI x, vI s, vI k] (w) (fun v w1 => v = some (vI (100 * x + 10 * s + k)) ∧ w1 = w) := by
  refine CM.of (by decide) (Nat.le_of_ble_eq_true rfl) ?_
  show CV MX11_markOf (0, 0, 0) w.length (0, 0) 0 [(0, vI x), (1, vI s), (2, vI k)] [] (w) _
  refine cv_bipush dX11_markOf_0 (by decide) ?_
  refine cv_iload_n dX11_markOf_2 rfl ?_
  refine cv_imul dX11_markOf_3 ?_
  refine cv_bipush dX11_markOf_4 (by decide) ?_
  refine cv_iload_n dX11_markOf_6 rfl ?_
  refine cv_imul dX11_markOf_7 ?_
  refine cv_iadd dX11_markOf_8 ?_
  refine cv_iload_n dX11_markOf_9 rfl ?_
  refine cv_iadd dX11_markOf_10 ?_
  refine cv_iret rfl dX11_markOf_11 ⟨Nat.le_refl _, Nat.le_refl _⟩ ⟨rfl, rfl⟩
set_option maxRecDepth 100000 in
set_option maxHeartbeats 1000000 in
theorem c_X11_negated (w : List ct_C) (m : Int) (hm : 0 ≤ m ∧ m ≤ 1000) : CM MX11_negated (0, 0, 0) [vI m] (w) (fun v w1 => v = some (vI (fNeg m)) ∧ w1 = w) := by
  refine CM.of (by decide) (Nat.le_of_ble_eq_true rfl) ?_
  show CV MX11_negated (0, 0, 0) w.length (0, 0) 0 [(0, vI m)] [] (w) _
  refine cv_iload_n dX11_negated_0 rfl ?_
  refine cv_bipush dX11_negated_1 (by decide) ?_
  refine cv_idiv dX11_negated_3 (by omega) ?_
  refine cv_bipush dX11_negated_4 (by decide) ?_
  refine cv_irem dX11_negated_6 (by omega) ?_
  refine cv_if_ne (tgt := 17) dX11_negated_7 (by decide) (by omega) (fun h7 => ?_) (fun h7 => ?_)
  · refine cv_iload_n dX11_negated_17 rfl ?_
    refine cv_bipush dX11_negated_18 (by decide) ?_
    refine cv_isub dX11_negated_20 ?_
    refine cv_iret rfl dX11_negated_21 ⟨Nat.le_refl _, Nat.le_refl _⟩ ⟨ct_rI (by unfold fNeg; rw [if_neg h7]), rfl⟩
  · refine cv_iload_n dX11_negated_10 rfl ?_
    refine cv_bipush dX11_negated_11 (by decide) ?_
    refine cv_iadd dX11_negated_13 ?_
    refine cv_goto (tgt := 21) dX11_negated_14 (by decide) ?_
    refine cv_iret rfl dX11_negated_21 ⟨Nat.le_refl _, Nat.le_refl _⟩ ⟨ct_rI (by unfold fNeg; rw [if_pos h7]), rfl⟩
/-- a mark's number and side, one of eight -/
def fRow (m : Int) : Int := m / 100 * 2 + m / 10 % 10
set_option maxRecDepth 100000 in
set_option maxHeartbeats 1000000 in
theorem c_X11_sideRow (w : List ct_C) (m : Int) (hm : 0 ≤ m ∧ m ≤ 1000) : CM MX11_sideRow (0, 0, 0) [vI m] (w) (fun v w1 => v = some (vI (fRow m)) ∧ w1 = w) := by
  refine CM.of (by decide) (Nat.le_of_ble_eq_true rfl) ?_
  show CV MX11_sideRow (0, 0, 0) w.length (0, 0) 0 [(0, vI m)] [] (w) _
  refine cv_iload_n dX11_sideRow_0 rfl ?_
  refine cv_bipush dX11_sideRow_1 (by decide) ?_
  refine cv_idiv dX11_sideRow_3 (by omega) ?_
  refine cv_iconst dX11_sideRow_4 ?_
  refine cv_imul dX11_sideRow_5 ?_
  refine cv_iload_n dX11_sideRow_6 rfl ?_
  refine cv_bipush dX11_sideRow_7 (by decide) ?_
  refine cv_idiv dX11_sideRow_9 (by omega) ?_
  refine cv_bipush dX11_sideRow_10 (by decide) ?_
  refine cv_irem dX11_sideRow_12 (by omega) ?_
  refine cv_iadd dX11_sideRow_13 ?_
  refine cv_iret rfl dX11_sideRow_14 ⟨Nat.le_refl _, Nat.le_refl _⟩ ⟨rfl, rfl⟩
set_option maxRecDepth 100000 in
set_option maxHeartbeats 1000000 in
theorem c_X5_least (T : ctT) (S : ctS) (hT : okT T) (hS : okS T S) (r : Nat) (hr : r < 6) : CM MX5_least (0, 0, 0) [vR 0, vI r] (wS T S) (fun v w => v = some (vI (fLeast T S r)) ∧ w = wS T S) := by
  refine CM.of (by decide) (Nat.le_of_ble_eq_true rfl) ?_
  show CV MX5_least (0, 0, 0) 20 (0, 0) 0 [(0, vR 0), (1, vI r)] [] (wS T S) _
  have hN := hT.2.1
  have loop : ∀ (k : Nat) (x : Nat), (tN T < x + k) → (x ≤ tN T) → CV MX5_least (0, 0, 0) 20 (0, 0) 15 [(0, vR 0), (1, vI r), (2, vR (14 + r)), (3, vI (fLs T S r x)), (4, vI x)] [] (wS T S) (fun v w => v = some (vI (fLeast T S r)) ∧ w = wS T S) := by
    intro k
    induction k with
    | zero => intro x hk hi; exact absurd hk (by omega)
    | succ k ih =>
      intro x hk hi
      refine cv_iload dX5_least_15 rfl ?_
      refine cv_aload_n dX5_least_17 rfl ?_
      refine cv_getf flX5_22 dX5_least_18 rfl rfl ?_
      refine cv_getf flX5_59 dX5_least_21 rfl rfl ?_
      refine cv_icmp_ge (tgt := 71) dX5_least_24 (by decide) (by omega) (fun h24 => ?_) (fun h24 => ?_)
      · refine cv_iload_n dX5_least_71 rfl ?_
        refine cv_iret rfl dX5_least_72 ⟨Nat.le_refl _, Nat.le_refl _⟩ ⟨ct_rI (by rw [show x = tN T by omega]; rfl), rfl⟩
      · obtain ⟨w1, w2⟩ := hT.2.2.2.2.2.1 r x hr (by omega)
        refine cv_iload_n dX5_least_27 rfl ?_
        refine cv_aload_n dX5_least_28 rfl ?_
        refine cv_iload dX5_least_29 rfl ?_
        refine cv_ialj (x) dX5_least_31 (wS_row T S r hr) (by omega) (by omega) ?_
        refine cv_aload_n dX5_least_32 rfl ?_
        refine cv_iload dX5_least_33 rfl ?_
        refine cv_ialj (x) dX5_least_35 (wS_row T S r hr) (by omega) (by omega) ?_
        refine cv_if_le (tgt := 52) dX5_least_36 (by decide) (by omega) (fun h36 => ?_) (fun h36 => ?_)
        · refine cv_aload_n dX5_least_52 rfl ?_
          refine cv_getf flX5_31 dX5_least_53 rfl rfl ?_
          refine cv_getf flX5_66 dX5_least_56 rfl rfl ?_
          refine cv_iload dX5_least_59 rfl ?_
          refine cv_ialj (x) dX5_least_61 rfl (by omega) (by omega) ?_
          refine cv_imul dX5_least_62 ?_
          refine cv_iadd dX5_least_63 ?_
          refine cv_istore_n dX5_least_64 (by decide) rfl rfl ?_
          refine cv_iinc dX5_least_65 (by decide) rfl rfl rfl ?_
          refine cv_goto (tgt := 15) dX5_least_68 (by decide) ?_
          have e0 : fLs T S r (x + 1) = fLs T S r x + tW T r x * sHi S x := by
            show fLs T S r x + tW T r x * (if 0 < tW T r x then sLo S x else sHi S x) = _
            rw [if_neg (by omega)]
          have := ih (x + 1) (by omega) (by omega)
          rw [e0] at this
          exact this
        · refine cv_aload_n dX5_least_39 rfl ?_
          refine cv_getf flX5_31 dX5_least_40 rfl rfl ?_
          refine cv_getf flX5_62 dX5_least_43 rfl rfl ?_
          refine cv_iload dX5_least_46 rfl ?_
          refine cv_ialj (x) dX5_least_48 rfl (by omega) (by omega) ?_
          refine cv_goto (tgt := 62) dX5_least_49 (by decide) ?_
          refine cv_imul dX5_least_62 ?_
          refine cv_iadd dX5_least_63 ?_
          refine cv_istore_n dX5_least_64 (by decide) rfl rfl ?_
          refine cv_iinc dX5_least_65 (by decide) rfl rfl rfl ?_
          refine cv_goto (tgt := 15) dX5_least_68 (by decide) ?_
          have e0 : fLs T S r (x + 1) = fLs T S r x + tW T r x * sLo S x := by
            show fLs T S r x + tW T r x * (if 0 < tW T r x then sLo S x else sHi S x) = _
            rw [if_pos (by omega)]
          have := ih (x + 1) (by omega) (by omega)
          rw [e0] at this
          exact this
  refine cv_aload_n dX5_least_0 rfl ?_
  refine cv_getf flX5_22 dX5_least_1 rfl rfl ?_
  refine cv_getf flX5_53 dX5_least_4 rfl rfl ?_
  refine cv_iload_n dX5_least_7 rfl ?_
  refine cv_aalj (r) (Or.inr rfl) dX5_least_8 rfl (by omega) (by constructor; exact hr; decide) (wS_ref r hr) ?_
  refine cv_astore_n dX5_least_9 (by decide) rfl rfl ?_
  refine cv_iconst dX5_least_10 ?_
  refine cv_istore_n dX5_least_11 (by decide) rfl rfl ?_
  refine cv_iconst dX5_least_12 ?_
  refine cv_istore dX5_least_13 (by decide) rfl rfl ?_
  exact loop (tN T + 1) 0 (by omega) (by omega)
set_option maxRecDepth 100000 in
set_option maxHeartbeats 1000000 in
theorem c_X5_cutBreaks (T : ctT) (S : ctS) (hT : okT T) (hS : okS T S) (c : Nat) (hc : c < sC S) : CM MX5_cutBreaks (1, 0, 0) [vR 0, vI c] (wS T S) (fun v w => v = some (vI (ct_i (cbP S c))) ∧ w = wS T S) := by
  refine CM.of (by decide) (Nat.le_of_ble_eq_true rfl) ?_
  show CV MX5_cutBreaks (1, 0, 0) 20 (0, 0) 0 [(0, vR 0), (1, vI c)] [] (wS T S) _
  have hC := hS.2.2.2.2.2.1
  obtain ⟨z1, z2⟩ := hS.2.2.2.2.2.2.1 c hc
  have loop : ∀ (k : Nat) (i : Nat), (8 < i + k) → ((i : Int) ≤ sCs S c) → (∀ j : Nat, j < i → soP S (sCm S (8 * c + j))) → CV MX5_cutBreaks (1, 0, 0) 20 (0, 0) 2 [(0, vR 0), (1, vI c), (2, vI i)] [] (wS T S) (fun v w => v = some (vI (ct_i (cbP S c))) ∧ w = wS T S) := by
    intro k
    induction k with
    | zero => intro i hk hi hv; exact absurd hk (by omega)
    | succ k ih =>
      intro i hk hi hv
      refine cv_iload_n dX5_cutBreaks_2 rfl ?_
      refine cv_aload_n dX5_cutBreaks_3 rfl ?_
      refine cv_getf flX5_12 dX5_cutBreaks_4 rfl rfl ?_
      refine cv_getf flX5_83 dX5_cutBreaks_7 rfl rfl ?_
      refine cv_iload_n dX5_cutBreaks_10 rfl ?_
      refine cv_ialj (c) dX5_cutBreaks_11 rfl (by omega) (by omega) ?_
      refine cv_icmp_ge (tgt := 42) dX5_cutBreaks_12 (by decide) (by omega) (fun h12 => ?_) (fun h12 => ?_)
      · refine cv_iconst dX5_cutBreaks_42 ?_
        refine cv_zret rfl dX5_cutBreaks_43 ⟨Nat.le_refl _, Nat.le_refl _⟩ (by omega) ⟨ct_rI (ct_i_t (fun j hj => hv j (by omega))).symm, rfl⟩
      · refine cv_aload_n dX5_cutBreaks_15 rfl ?_
        refine cv_getf flX5_31 dX5_cutBreaks_16 rfl rfl ?_
        refine cv_aload_n dX5_cutBreaks_19 rfl ?_
        refine cv_getf flX5_12 dX5_cutBreaks_20 rfl rfl ?_
        refine cv_iload_n dX5_cutBreaks_23 rfl ?_
        refine cv_iload_n dX5_cutBreaks_24 rfl ?_
        refine cv_sameV (c_X2_at T S c i (by omega) (by omega)) lkX2_at mlX5_86 dX5_cutBreaks_25 (by decide) rfl rfl (by decide) rfl (Nat.le_of_ble_eq_true rfl) ⟨Nat.le_refl _, Nat.le_refl _⟩ ?_
        intro v w1 hq
        obtain ⟨rfl, rfl⟩ := hq
        refine cv_sameV (c_X9_isSo T S hT hS (sCm S (8 * c + i)) (hS.2.2.2.2.2.2.2.1 c i hc (by omega))) lkX9_isSo mlX5_90 dX5_cutBreaks_28 (by decide) rfl rfl (by decide) rfl (Nat.le_of_ble_eq_true rfl) ⟨Nat.le_refl _, Nat.le_refl _⟩ ?_
        intro v w1 hq
        obtain ⟨rfl, rfl⟩ := hq
        have hr0 := ct_i_r (soP S (sCm S (8 * c + i)))
        refine cv_if_ne (tgt := 36) dX5_cutBreaks_31 (by decide) (by omega) (fun h31 => ?_) (fun h31 => ?_)
        · refine cv_iinc dX5_cutBreaks_36 (by decide) rfl rfl rfl ?_
          refine cv_goto (tgt := 2) dX5_cutBreaks_39 (by decide) ?_
          exact ih (i + 1) (by omega) (by omega) (fun j hj => by
            rcases Nat.lt_succ_iff_lt_or_eq.mp hj with q | q
            · exact hv j q
            · subst q
              exact ct_i_1.mp (by omega))
        · refine cv_iconst dX5_cutBreaks_34 ?_
          refine cv_zret rfl dX5_cutBreaks_35 ⟨Nat.le_refl _, Nat.le_refl _⟩ (by omega) ⟨ct_rI (ct_i_f (fun h => absurd (h i (by omega)) (ct_i_0.mp h31))).symm, rfl⟩
  refine cv_iconst dX5_cutBreaks_0 ?_
  refine cv_istore_n dX5_cutBreaks_1 (by decide) rfl rfl ?_
  exact loop 9 0 (by omega) (by omega) (fun j hj => absurd hj (Nat.not_lt_zero _))
set_option maxRecDepth 100000 in
set_option maxHeartbeats 1000000 in
theorem c_X5_theBreak (T : ctT) (S : ctS) (hT : okT T) (hS : okS T S) : CM MX5_theBreak (2, 0, 0) [vR 0] (wS T S) (fun v w => v = some (vI (fBk T S)) ∧ w = wS T S) := by
  refine CM.of (by decide) (Nat.le_of_ble_eq_true rfl) ?_
  show CV MX5_theBreak (2, 0, 0) 20 (0, 0) 0 [(0, vR 0)] [] (wS T S) _
  have hR := hT.2.2.1
  have hC := hS.2.2.2.2.2.1
  have loop2 : ∀ (k : Nat) (c : Nat), (sC S < c + k) → (c ≤ sC S) → (∀ j, j < c → ¬ cbP S j) → (ct_first (fun r => tB T r < fLeast T S r) (tR T) = none) → CV MX5_theBreak (2, 0, 0) 20 (0, 0) 40 [(0, vR 0), (1, vI c)] [] (wS T S) (fun v w => v = some (vI (fBk T S)) ∧ w = wS T S) := by
    intro k
    induction k with
    | zero => intro c hk hi hv h0; exact absurd hk (by omega)
    | succ k ih =>
      intro c hk hi hv h0
      refine cv_iload_n dX5_theBreak_40 rfl ?_
      refine cv_aload_n dX5_theBreak_41 rfl ?_
      refine cv_getf flX5_12 dX5_theBreak_42 rfl rfl ?_
      refine cv_getf flX5_35 dX5_theBreak_45 rfl rfl ?_
      refine cv_icmp_ge (tgt := 70) dX5_theBreak_48 (by decide) (by omega) (fun h48 => ?_) (fun h48 => ?_)
      · refine cv_bipush dX5_theBreak_70 (by decide) ?_
        refine cv_iret rfl dX5_theBreak_72 ⟨Nat.le_refl _, Nat.le_refl _⟩ ⟨ct_rI (by unfold fBk; rw [h0, ct_first_no (fun j hj => hv j (by omega))]), rfl⟩
      · refine cv_aload_n dX5_theBreak_51 rfl ?_
        refine cv_iload_n dX5_theBreak_52 rfl ?_
        refine cv_sameV (c_X5_cutBreaks T S hT hS c (by omega)) lkX5_cutBreaks mlX5_79 dX5_theBreak_53 (by decide) rfl rfl (by decide) rfl (Nat.le_of_ble_eq_true rfl) ⟨Nat.le_refl _, Nat.le_refl _⟩ ?_
        intro v w1 hq
        obtain ⟨rfl, rfl⟩ := hq
        have hr0 := ct_i_r (cbP S c)
        refine cv_if_eq (tgt := 64) dX5_theBreak_56 (by decide) (by omega) (fun h56 => ?_) (fun h56 => ?_)
        · refine cv_iinc dX5_theBreak_64 (by decide) rfl rfl rfl ?_
          refine cv_goto (tgt := 40) dX5_theBreak_67 (by decide) ?_
          exact ih (c + 1) (by omega) (by omega) (fun j hj => by
            rcases Nat.lt_succ_iff_lt_or_eq.mp hj with q | q
            · exact hv j q
            · subst q
              exact ct_i_0.mp h56) h0
        · refine cv_bipush dX5_theBreak_59 (by decide) ?_
          refine cv_iload_n dX5_theBreak_61 rfl ?_
          refine cv_iadd dX5_theBreak_62 ?_
          refine cv_iret rfl dX5_theBreak_63 ⟨Nat.le_refl _, Nat.le_refl _⟩ ⟨ct_rI (by unfold fBk; rw [h0, ct_first_is (i := c) (ct_i_1.mp (by omega)) hv (by omega)]), rfl⟩
  have loop1 : ∀ (k : Nat) (r : Nat), (tR T < r + k) → (r ≤ tR T) → (∀ j, j < r → ¬ tB T j < fLeast T S j) → CV MX5_theBreak (2, 0, 0) 20 (0, 0) 2 [(0, vR 0), (1, vI r)] [] (wS T S) (fun v w => v = some (vI (fBk T S)) ∧ w = wS T S) := by
    intro k
    induction k with
    | zero => intro r hk hi hv; exact absurd hk (by omega)
    | succ k ih =>
      intro r hk hi hv
      refine cv_iload_n dX5_theBreak_2 rfl ?_
      refine cv_aload_n dX5_theBreak_3 rfl ?_
      refine cv_getf flX5_22 dX5_theBreak_4 rfl rfl ?_
      refine cv_getf flX5_69 dX5_theBreak_7 rfl rfl ?_
      refine cv_icmp_ge (tgt := 38) dX5_theBreak_10 (by decide) (by omega) (fun h10 => ?_) (fun h10 => ?_)
      · refine cv_iconst dX5_theBreak_38 ?_
        refine cv_istore_n dX5_theBreak_39 (by decide) rfl rfl ?_
        exact loop2 (sC S + 1) 0 (by omega) (by omega) (fun j hj => absurd hj (Nat.not_lt_zero _)) (ct_first_no (fun j hj => hv j (by omega)))
      · obtain ⟨b1, b2⟩ := hT.2.2.2.2.2.2.2 r (by omega)
        obtain ⟨b3, b4⟩ := fLeast_r hT hS (r := r) (by omega)
        refine cv_aload_n dX5_theBreak_13 rfl ?_
        refine cv_iload_n dX5_theBreak_14 rfl ?_
        refine cv_sameV (c_X5_least T S hT hS r (by omega)) lkX5_least mlX5_72 dX5_theBreak_15 (by decide) rfl rfl (by decide) rfl (Nat.le_of_ble_eq_true rfl) ⟨Nat.le_refl _, Nat.le_refl _⟩ ?_
        intro v w1 hq
        obtain ⟨rfl, rfl⟩ := hq
        refine cv_aload_n dX5_theBreak_18 rfl ?_
        refine cv_getf flX5_22 dX5_theBreak_19 rfl rfl ?_
        refine cv_getf flX5_76 dX5_theBreak_22 rfl rfl ?_
        refine cv_iload_n dX5_theBreak_25 rfl ?_
        refine cv_ialj (r) dX5_theBreak_26 rfl (by omega) (by omega) ?_
        refine cv_icmp_le (tgt := 32) dX5_theBreak_27 (by decide) (by omega) (fun h27 => ?_) (fun h27 => ?_)
        · refine cv_iinc dX5_theBreak_32 (by decide) rfl rfl rfl ?_
          refine cv_goto (tgt := 2) dX5_theBreak_35 (by decide) ?_
          exact ih (r + 1) (by omega) (by omega) (fun j hj => by
            rcases Nat.lt_succ_iff_lt_or_eq.mp hj with q | q
            · exact hv j q
            · subst q
              omega)
        · refine cv_iload_n dX5_theBreak_30 rfl ?_
          refine cv_iret rfl dX5_theBreak_31 ⟨Nat.le_refl _, Nat.le_refl _⟩ ⟨ct_rI (by unfold fBk; rw [ct_first_is (i := r) (by omega) hv (by omega)]), rfl⟩
  refine cv_iconst dX5_theBreak_0 ?_
  refine cv_istore_n dX5_theBreak_1 (by decide) rfl rfl ?_
  exact loop1 (tR T + 1) 0 (by omega) (by omega) (fun j hj => absurd hj (Nat.not_lt_zero _))
