theorem ct_cmp_l {x y : Int} : (-1 ≤ ct_cmp x y ∧ ct_cmp x y ≤ 1) ∧ (ct_cmp x y < 0 ↔ x < y) := by
  unfold ct_cmp
  split
  · omega
  · split <;> omega
def p1k (j : Nat) : Int := ((1000 ^ j : Nat) : Int)
theorem p1k_s (j : Nat) : p1k (j + 1) = p1k j * 1000 := by
  unfold p1k
  rw [Nat.pow_succ, Int.natCast_mul]
  rfl
theorem p1k_r {j : Nat} (h : j ≤ 4) : 1 ≤ p1k j ∧ p1k j ≤ 1000000000000 := by
  unfold p1k
  have h1 : 1000 ^ j ≤ 1000 ^ 4 := Nat.pow_le_pow_right (by decide) h
  have h2 : 0 < 1000 ^ j := Nat.pow_pos (by decide)
  have h3 := Int.ofNat_le.mpr h1
  have h4 := Int.ofNat_lt.mpr h2
  have h5 : ((1000 ^ 4 : Nat) : Int) = 1000000000000 := by decide
  omega
/-- the doings of a row, from one on: the first that could not be, the trial by then -/
noncomputable def fJu (T : ctT) (e : Int) : Nat → Int → Int → ctS → Int × ctS
  | 0, _, _, V => (-9, V)
  | j + 1, i, q, V => if (fCb T V (q * 1000 / e)).1 = 0 then (i, (fCb T V (q * 1000 / e)).2) else fJu T e j (i + 1) (q * 1000 % e) (fCb T V (q * 1000 / e)).2
theorem ju_r {q e : Int} (h : 0 ≤ q ∧ q < e) : (0 ≤ q * 1000 / e ∧ q * 1000 / e ≤ 999) ∧ (0 ≤ q * 1000 % e ∧ q * 1000 % e < e) := by
  have h1 := Int.ediv_nonneg (show 0 ≤ q * 1000 by omega) (show 0 ≤ e by omega)
  have h2 : q * 1000 / e < 1000 := Int.ediv_lt_of_lt_mul (by omega) (by omega)
  exact ⟨⟨h1, by omega⟩, Int.emod_nonneg _ (by omega), Int.emod_lt_of_pos _ (by omega)⟩
set_option maxRecDepth 100000 in
set_option maxHeartbeats 1000000 in
theorem c_X11_judge (T : ctT) (S : ctS) (n : Nat) (P : Nat → Nat) (A : Nat → ctS) (V : ctS) (x : ctX) (y : ctY) (c : ctW) (k : ctK) (sd : Int) (a row : Int) (ar : -2147483648 ≤ a ∧ a ≤ 2147483647) (rr : -9223372036854775808 ≤ row ∧ row ≤ 9223372036854775807) (I : ctS → Prop) (hI : goodI T I) (hS : I S) : CM MX11_judge (7, 0, 0) [vR 165, vI a, vL row] (wTop T S n P A V x y c k sd) (fun v w => (1 ≤ a ∧ a ≤ 4 ∧ 0 ≤ row ∧ row < p1k a.toNat → ∃ x1, v = some (vI (fJu T (p1k a.toNat) a.toNat 0 row (fCp V S)).1) ∧ w = wTop T S n P A (fJu T (p1k a.toNat) a.toNat 0 row (fCp V S)).2 x1 y c k sd) ∧ (¬ (1 ≤ a ∧ a ≤ 4 ∧ 0 ≤ row ∧ row < p1k a.toNat) → v = some (vI (-2)) ∧ w = wTop T S n P A V x y c k sd)) := by
  refine CM.of (by decide) (Nat.le_of_ble_eq_true rfl) ?_
  show CV MX11_judge (7, 0, 0) 209 (0, 0) 0 [(0, vR 165), (1, vI a), (2, vL row)] [] (wTop T S n P A V x y c k sd) _
  have hw := goodI_w hI hS
  have l10 : (¬ (1 ≤ a ∧ a ≤ 4 ∧ 0 ≤ row ∧ row < p1k a.toNat)) → CV MX11_judge (7, 0, 0) 209 (0, 0) 10 [(0, vR 165), (1, vI a), (2, vL row)] [] (wTop T S n P A V x y c k sd) (fun v w => (1 ≤ a ∧ a ≤ 4 ∧ 0 ≤ row ∧ row < p1k a.toNat → ∃ x1, v = some (vI (fJu T (p1k a.toNat) a.toNat 0 row (fCp V S)).1) ∧ w = wTop T S n P A (fJu T (p1k a.toNat) a.toNat 0 row (fCp V S)).2 x1 y c k sd) ∧ (¬ (1 ≤ a ∧ a ≤ 4 ∧ 0 ≤ row ∧ row < p1k a.toNat) → v = some (vI (-2)) ∧ w = wTop T S n P A V x y c k sd)) := by
    intro  ha
    refine cv_bipush dX11_judge_10 (by decide) ?_
    refine cv_iret rfl dX11_judge_12 ⟨Nat.le_refl _, Nat.le_refl _⟩ ⟨fun h => absurd h ha, fun _ => ⟨rfl, rfl⟩⟩
  have l52 : ∀ (i : Int), (¬ (1 ≤ a ∧ a ≤ 4 ∧ 0 ≤ row ∧ row < p1k a.toNat)) → CV MX11_judge (7, 0, 0) 209 (0, 0) 52 [(0, vR 165), (1, vI a), (2, vL row), (4, vL (p1k a.toNat)), (6, vI i)] [] (wTop T S n P A V x y c k sd) (fun v w => (1 ≤ a ∧ a ≤ 4 ∧ 0 ≤ row ∧ row < p1k a.toNat → ∃ x1, v = some (vI (fJu T (p1k a.toNat) a.toNat 0 row (fCp V S)).1) ∧ w = wTop T S n P A (fJu T (p1k a.toNat) a.toNat 0 row (fCp V S)).2 x1 y c k sd) ∧ (¬ (1 ≤ a ∧ a ≤ 4 ∧ 0 ≤ row ∧ row < p1k a.toNat) → v = some (vI (-2)) ∧ w = wTop T S n P A V x y c k sd)) := by
    intro i ha
    refine cv_bipush dX11_judge_52 (by decide) ?_
    refine cv_iret rfl dX11_judge_54 ⟨Nat.le_refl _, Nat.le_refl _⟩ ⟨fun h => absurd h ha, fun _ => ⟨rfl, rfl⟩⟩
  have loop2 : ∀ (j : Nat) (i : Nat) (q : Int) (V1 : ctS) (x1 : ctX), (1 ≤ a ∧ a ≤ 4 ∧ 0 ≤ row ∧ row < p1k a.toNat) → ((i + j : Nat) : Int) = a → (0 ≤ q ∧ q < p1k a.toNat) → I V1 → fJu T (p1k a.toNat) j i q V1 = fJu T (p1k a.toNat) a.toNat 0 row (fCp V S) → CV MX11_judge (7, 0, 0) 209 (0, 0) 72 [(0, vR 165), (1, vI a), (2, vL row), (4, vL (p1k a.toNat)), (6, vL q), (8, vI i)] [] (wTop T S n P A V1 x1 y c k sd) (fun v w => (1 ≤ a ∧ a ≤ 4 ∧ 0 ≤ row ∧ row < p1k a.toNat → ∃ x1, v = some (vI (fJu T (p1k a.toNat) a.toNat 0 row (fCp V S)).1) ∧ w = wTop T S n P A (fJu T (p1k a.toNat) a.toNat 0 row (fCp V S)).2 x1 y c k sd) ∧ (¬ (1 ≤ a ∧ a ≤ 4 ∧ 0 ≤ row ∧ row < p1k a.toNat) → v = some (vI (-2)) ∧ w = wTop T S n P A V x y c k sd)) := by
    intro j
    induction j with
    | zero =>
      intro i q V1 x1 ha hj hq hS1 hr
      refine cv_iload dX11_judge_72 rfl ?_
      refine cv_iload_n dX11_judge_74 rfl ?_
      refine cv_icmp_ge (tgt := 115) dX11_judge_75 (by decide) (by omega) (fun h75 => ?_) (fun h75 => ?_)
      · refine cv_bipush dX11_judge_115 (by decide) ?_
        refine cv_iret rfl dX11_judge_117 ⟨Nat.le_refl _, Nat.le_refl _⟩ ⟨fun _ => ⟨x1, ct_rI (by rw [← hr]; rfl), by rw [← hr]; rfl⟩, fun h => absurd ha h⟩
      · exact absurd h75 (by omega)
    | succ j ih =>
      intro i q V1 x1 ha hj hq hS1 hr
      have hu := ju_r hq
      have hp := p1k_r (j := a.toNat) (by omega)
      have hz := fCb_r (T := T) (V := V1) (d := q * 1000 / p1k a.toNat)
      refine cv_iload dX11_judge_72 rfl ?_
      refine cv_iload_n dX11_judge_74 rfl ?_
      refine cv_icmp_ge (tgt := 115) dX11_judge_75 (by decide) (by omega) (fun h75 => ?_) (fun h75 => ?_)
      · exact absurd h75 (by omega)
      · refine cv_lload dX11_judge_78 rfl ?_
        refine cv_ldc2 dX11_judge_80 kcX11_246 ?_
        refine cv_lmul dX11_judge_83 ?_
        refine cv_lstore dX11_judge_84 (by decide) rfl rfl ?_
        refine cv_aload_n dX11_judge_86 rfl ?_
        refine cv_lload dX11_judge_87 rfl ?_
        refine cv_lload dX11_judge_89 rfl ?_
        refine cv_ldiv dX11_judge_91 (by omega) ?_
        refine cv_l2i dX11_judge_92 ?_
        refine cv_sameV (c_X11_canBe T S n P A V1 x1 y c k sd (q * 1000 / p1k a.toNat) hu.1 I hI hS1) lkX11_canBe mlX11_251 dX11_judge_93 (by decide) rfl rfl (by decide) rfl (Nat.le_of_ble_eq_true rfl) ⟨Nat.le_refl _, Nat.le_refl _⟩ ?_
        intro v w1 hq
        obtain ⟨x2, rfl, rfl⟩ := hq
        refine cv_if_ne (tgt := 102) dX11_judge_96 (by decide) (by omega) (fun h96 => ?_) (fun h96 => ?_)
        · have e0 : fJu T (p1k a.toNat) (j + 1) i q V1 = fJu T (p1k a.toNat) j (i + 1) (q * 1000 % p1k a.toNat) (fCb T V1 (q * 1000 / p1k a.toNat)).2 := if_neg h96
          refine cv_lload dX11_judge_102 rfl ?_
          refine cv_lload dX11_judge_104 rfl ?_
          refine cv_lrem dX11_judge_106 (by omega) ?_
          refine cv_lstore dX11_judge_107 (by decide) rfl rfl ?_
          refine cv_iinc dX11_judge_109 (by decide) rfl rfl rfl ?_
          refine cv_goto (tgt := 72) dX11_judge_112 (by decide) ?_
          exact ih (i + 1) _ _ x2 ha (by omega) hu.2 (fCb_I hI hS1 hu.1) (e0.symm.trans hr)
        · have e0 : fJu T (p1k a.toNat) (j + 1) i q V1 = ((i : Int), (fCb T V1 (q * 1000 / p1k a.toNat)).2) := if_pos (by omega)
          refine cv_iload dX11_judge_99 rfl ?_
          refine cv_iret rfl dX11_judge_101 ⟨Nat.le_refl _, Nat.le_refl _⟩ ⟨fun _ => ⟨x2, ct_rI (by rw [← hr, e0]), by rw [← hr, e0]⟩, fun h => absurd ha h⟩
  have l39 : ∀ (i : Int), (1 ≤ a ∧ a ≤ 4) → CV MX11_judge (7, 0, 0) 209 (0, 0) 39 [(0, vR 165), (1, vI a), (2, vL row), (4, vL (p1k a.toNat)), (6, vI i)] [] (wTop T S n P A V x y c k sd) (fun v w => (1 ≤ a ∧ a ≤ 4 ∧ 0 ≤ row ∧ row < p1k a.toNat → ∃ x1, v = some (vI (fJu T (p1k a.toNat) a.toNat 0 row (fCp V S)).1) ∧ w = wTop T S n P A (fJu T (p1k a.toNat) a.toNat 0 row (fCp V S)).2 x1 y c k sd) ∧ (¬ (1 ≤ a ∧ a ≤ 4 ∧ 0 ≤ row ∧ row < p1k a.toNat) → v = some (vI (-2)) ∧ w = wTop T S n P A V x y c k sd)) := by
    intro i ha
    have hp := p1k_r (j := a.toNat) (by omega)
    have c1 := ct_cmp_l (x := row) (y := 0)
    have c2 := ct_cmp_l (x := row) (y := p1k a.toNat)
    refine cv_lload_n dX11_judge_39 rfl ?_
    refine cv_lconst (v := 0) dX11_judge_40 (by decide) ?_
    refine cv_lcmp dX11_judge_41 (by omega) ?_
    refine cv_if_lt (tgt := 52) dX11_judge_42 (by decide) (by omega) (fun h42 => ?_) (fun h42 => ?_)
    · exact l52 i (by omega)
    · refine cv_lload_n dX11_judge_45 rfl ?_
      refine cv_lload dX11_judge_46 rfl ?_
      refine cv_lcmp dX11_judge_48 (by omega) ?_
      refine cv_if_lt (tgt := 55) dX11_judge_49 (by decide) (by omega) (fun h49 => ?_) (fun h49 => ?_)
      · refine cv_aload_n dX11_judge_55 rfl ?_
        refine cv_getf flX11_32 dX11_judge_56 rfl rfl ?_
        refine cv_aload_n dX11_judge_59 rfl ?_
        refine cv_getf flX11_28 dX11_judge_60 rfl rfl ?_
        refine cv_topCp (c_X5_copy T V S hw.1 hw.2.1 hw.2.2) lkX5_copy mlX11_248 dX11_judge_63 (by decide) rfl rfl (by decide) rfl (Nat.le_of_ble_eq_true rfl) ⟨Nat.le_refl _, Nat.le_refl _⟩ ?_
        intro v w1 hq
        obtain ⟨rfl, rfl⟩ := hq
        refine ⟨_, _, _, rfl, ?_⟩
        refine cv_lload_n dX11_judge_66 rfl ?_
        refine cv_lstore dX11_judge_67 (by decide) rfl rfl ?_
        refine cv_iconst dX11_judge_69 ?_
        refine cv_istore dX11_judge_70 (by decide) rfl rfl ?_
        exact loop2 a.toNat 0 row (fCp V S) x (by omega) (by omega) (by omega) ((hI.2 S hS).2.2.2.2 V) rfl
      · exact l52 i (by omega)
  have loop1 : ∀ (j : Nat) (i : Nat), ((i + j : Nat) : Int) = a → (1 ≤ a ∧ a ≤ 4) → CV MX11_judge (7, 0, 0) 209 (0, 0) 19 [(0, vR 165), (1, vI a), (2, vL row), (4, vL (p1k i)), (6, vI i)] [] (wTop T S n P A V x y c k sd) (fun v w => (1 ≤ a ∧ a ≤ 4 ∧ 0 ≤ row ∧ row < p1k a.toNat → ∃ x1, v = some (vI (fJu T (p1k a.toNat) a.toNat 0 row (fCp V S)).1) ∧ w = wTop T S n P A (fJu T (p1k a.toNat) a.toNat 0 row (fCp V S)).2 x1 y c k sd) ∧ (¬ (1 ≤ a ∧ a ≤ 4 ∧ 0 ≤ row ∧ row < p1k a.toNat) → v = some (vI (-2)) ∧ w = wTop T S n P A V x y c k sd)) := by
    intro j
    induction j with
    | zero =>
      intro i hj ha
      obtain rfl : i = a.toNat := by omega
      refine cv_iload dX11_judge_19 rfl ?_
      refine cv_iload_n dX11_judge_21 rfl ?_
      refine cv_icmp_ge (tgt := 39) dX11_judge_22 (by decide) (by omega) (fun h22 => ?_) (fun h22 => ?_)
      · exact l39 _ ha
      · exact absurd h22 (by omega)
    | succ j ih =>
      intro i hj ha
      refine cv_iload dX11_judge_19 rfl ?_
      refine cv_iload_n dX11_judge_21 rfl ?_
      refine cv_icmp_ge (tgt := 39) dX11_judge_22 (by decide) (by omega) (fun h22 => ?_) (fun h22 => ?_)
      · exact absurd h22 (by omega)
      · refine cv_lload dX11_judge_25 rfl ?_
        refine cv_ldc2 dX11_judge_27 kcX11_246 ?_
        refine cv_lmul dX11_judge_30 ?_
        refine cv_topl (p1k (i + 1)) (p1k_s i).symm ?_
        refine cv_lstore dX11_judge_31 (by decide) rfl rfl ?_
        refine cv_iinc dX11_judge_33 (by decide) rfl rfl rfl ?_
        refine cv_goto (tgt := 19) dX11_judge_36 (by decide) ?_
        exact ih (i + 1) (by omega) ha
  refine cv_iload_n dX11_judge_0 rfl ?_
  refine cv_iconst dX11_judge_1 ?_
  refine cv_icmp_lt (tgt := 10) dX11_judge_2 (by decide) (by omega) (fun h2 => ?_) (fun h2 => ?_)
  · exact l10 (by omega)
  · refine cv_iload_n dX11_judge_5 rfl ?_
    refine cv_iconst dX11_judge_6 ?_
    refine cv_icmp_le (tgt := 13) dX11_judge_7 (by decide) (by omega) (fun h7 => ?_) (fun h7 => ?_)
    · refine cv_lconst (v := 1) dX11_judge_13 (by decide) ?_
      refine cv_lstore dX11_judge_14 (by decide) rfl rfl ?_
      refine cv_iconst dX11_judge_16 ?_
      refine cv_istore dX11_judge_17 (by decide) rfl rfl ?_
      exact loop1 a.toNat 0 (by omega) (by omega)
    · exact l10 (by omega)
theorem fFt_r {n : Nat} {f : Nat → Int} (hn : n ≤ 60) : -9 ≤ fFt n f ∧ fFt n f ≤ 60 := by
  unfold fFt
  cases h : ct_first (fun p => ¬ csP f p) n with
  | some p =>
    have := (ct_first_inv h).1
    show -9 ≤ (p : Int) ∧ (p : Int) ≤ 60
    omega
  | none =>
    show -9 ≤ @ite _ (iwP n f) (Classical.propDecidable _) (-9) (n : Int) ∧ @ite _ (iwP n f) (Classical.propDecidable _) (-9) (n : Int) ≤ 60
    split <;> omega
/-- what a text that is right tells -/
def goodB (T : ctT) (S : ctS) (y : ctY) : Prop := fFt y.1 y.2.1 = -9 → 2 + fTn y.2.1 ≤ (y.1 : Int) ∧ okT (fTask T y.1 y.2.1) ∧ gS (fTask T y.1 y.2.1) (fCut (fTask T y.1 y.2.1) (uC (uH S 0) 0) 0)
noncomputable def fBg (T : ctT) (S : ctS) : ctS := fDraw T (fCut T (uC (uH S 0) 0) 0)
set_option maxRecDepth 100000 in
set_option maxHeartbeats 1000000 in
theorem c_X11_task (T : ctT) (S : ctS) (n : Nat) (P : Nat → Nat) (A : Nat → ctS) (V : ctS) (x : ctX) (y : ctY) (c : ctW) (k : ctK) (sd : Int) (hf : okL y.2.1) (hy : y.1 ≤ 60) (hB : goodB T S y) : CM MX11_task (5, 0, 0) [vR 165] (wTop T S n P A V x y c k sd) (fun v w => (fFt y.1 y.2.1 = -9 → v = some (vI (tR (fTask T y.1 y.2.1) : Nat)) ∧ w = wTop (fTask T y.1 y.2.1) (fBg (fTask T y.1 y.2.1) S) 0 P A V x y (0, c.2) (k.1, k.2.1, fZ k.2.2 2) sd) ∧ (¬ fFt y.1 y.2.1 = -9 → v = some (vI (-3)) ∧ w = wTop T S n P A V x y c k sd)) := by
  refine CM.of (by decide) (Nat.le_of_ble_eq_true rfl) ?_
  show CV MX11_task (5, 0, 0) 209 (0, 0) 0 [(0, vR 165)] [] (wTop T S n P A V x y c k sd) _
  have hr := fFt_r (f := y.2.1) hy
  refine cv_aload_n dX11_task_0 rfl ?_
  refine cv_getf flX11_19 dX11_task_1 rfl rfl ?_
  refine cv_topX (c_X7_firstFault y.1 y.2.1 hf hy) lkX7_firstFault mlX11_89 dX11_task_4 (by decide) rfl rfl (by decide) rfl (Nat.le_of_ble_eq_true rfl) ⟨Nat.le_refl _, Nat.le_refl _⟩ ?_
  intro v w1 hq
  obtain ⟨rfl, rfl⟩ := hq
  refine ⟨_, _, rfl, ?_⟩
  refine cv_bipush dX11_task_7 (by decide) ?_
  refine cv_icmp_eq (tgt := 15) dX11_task_9 (by decide) (by omega) (fun h9 => ?_) (fun h9 => ?_)
  · have hb := hB h9
    refine cv_aload_n dX11_task_15 rfl ?_
    refine cv_getf flX11_19 dX11_task_16 rfl rfl ?_
    refine cv_aload_n dX11_task_19 rfl ?_
    refine cv_getf flX11_12 dX11_task_20 rfl rfl ?_
    refine cv_topTT (c_X7_tellTo T S y.1 y.2.1 hf hy hb.1) lkX7_tellTo mlX11_93 dX11_task_23 (by decide) rfl rfl (by decide) rfl (Nat.le_of_ble_eq_true rfl) ⟨Nat.le_refl _, Nat.le_refl _⟩ ?_
    intro v w1 hq
    obtain ⟨rfl, rfl⟩ := hq
    refine ⟨_, _, _, _, rfl, ?_⟩
    refine cv_aload_n dX11_task_26 rfl ?_
    refine cv_getf flX11_73 dX11_task_27 rfl rfl ?_
    refine cv_iconst dX11_task_30 ?_
    refine cv_putf fpX11_96 dX11_task_31 rfl (Nat.le_of_ble_eq_true rfl) (fun _ => ⟨rfl, rfl⟩) ?_
    show CV MX11_task (5, 0, 0) 209 (0, 0) 34 [(0, vR 165)] [] (wTop (fTask T y.1 y.2.1) S n P A V x y (0, c.2) k sd) _
    refine cv_aload_n dX11_task_34 rfl ?_
    refine cv_getf flX11_45 dX11_task_35 rfl rfl ?_
    refine cv_iconst dX11_task_38 ?_
    refine cv_putf fpX11_100 dX11_task_39 rfl (Nat.le_of_ble_eq_true rfl) (fun _ => ⟨rfl, rfl⟩) ?_
    show CV MX11_task (5, 0, 0) 209 (0, 0) 42 [(0, vR 165)] [] (wTop (fTask T y.1 y.2.1) S 0 P A V x y (0, c.2) k sd) _
    refine cv_aload_n dX11_task_42 rfl ?_
    refine cv_getf flX11_52 dX11_task_43 rfl rfl ?_
    refine cv_topSl (c_X4_empty (fTask T y.1 y.2.1) S k.2.2 k.1 k.2.1) lkX4_empty mlX11_103 dX11_task_46 (by decide) rfl rfl (by decide) rfl (Nat.le_of_ble_eq_true rfl) ⟨Nat.le_refl _, Nat.le_refl _⟩ ?_
    intro v w1 hq
    obtain ⟨rfl, rfl⟩ := hq
    refine ⟨_, _, _, _, _, rfl, ?_⟩
    refine cv_aload_n dX11_task_49 rfl ?_
    refine cv_getf flX11_28 dX11_task_50 rfl rfl ?_
    refine cv_topS (c_X5_begin (fTask T y.1 y.2.1) S hb.2.1 hb.2.2) lkX5_begin mlX11_106 dX11_task_53 (by decide) rfl rfl (by decide) rfl (Nat.le_of_ble_eq_true rfl) ⟨Nat.le_refl _, Nat.le_refl _⟩ ?_
    intro v w1 hq
    obtain ⟨rfl, rfl⟩ := hq
    refine ⟨_, _, rfl, ?_⟩
    refine cv_aload_n dX11_task_56 rfl ?_
    refine cv_getf flX11_12 dX11_task_57 rfl rfl ?_
    refine cv_getf flX11_109 dX11_task_60 rfl rfl ?_
    refine cv_iret rfl dX11_task_63 ⟨Nat.le_refl _, Nat.le_refl _⟩ ⟨fun _ => ⟨rfl, rfl⟩, fun h => absurd h9 h⟩
  · refine cv_bipush dX11_task_12 (by decide) ?_
    refine cv_iret rfl dX11_task_14 ⟨Nat.le_refl _, Nat.le_refl _⟩ ⟨fun h => absurd h h9, fun _ => ⟨rfl, rfl⟩⟩
