noncomputable def fD1 (T : ctT) (S : ctS) : ctS := match fTell T S with
  | some q => fPut S q.1 (fLv S) q.2
  | none => S
theorem fTell_r {T : ctT} {S : ctS} {r : Nat} (h1 : ¬ fTr T S r = -9) (h2 : ∀ j, j < r → ¬ ¬ fTr T S j = -9) (h3 : r < tR T) : fTell T S = some (fTr T S r, (r : Int)) := by
  unfold fTell
  rw [ct_first_is (P := fun r => ¬ fTr T S r = -9) h1 h2 h3]
theorem fTell_c {T : ctT} {S : ctS} {c : Nat} (h0 : ∀ j, j < tR T → ¬ ¬ fTr T S j = -9) (h1 : ¬ fTc S c = -9) (h2 : ∀ j, j < c → ¬ ¬ fTc S j = -9) (h3 : c < sC S) : fTell T S = some (fTc S c, 10 + (c : Int)) := by
  unfold fTell
  rw [ct_first_no (P := fun r => ¬ fTr T S r = -9) h0, ct_first_is (P := fun c => ¬ fTc S c = -9) h1 h2 h3]
theorem fTell_n {T : ctT} {S : ctS} (h0 : ∀ j, j < tR T → ¬ ¬ fTr T S j = -9) (h1 : ∀ j, j < sC S → ¬ ¬ fTc S j = -9) : fTell T S = none := by
  unfold fTell
  rw [ct_first_no (P := fun r => ¬ fTr T S r = -9) h0, ct_first_no (P := fun c => ¬ fTc S c = -9) h1]
theorem fD1_s {T : ctT} {S : ctS} {q : Int × Int} (h : fTell T S = some q) : fD1 T S = fPut S q.1 (fLv S) q.2 := by unfold fD1; rw [h]
theorem fD1_n {T : ctT} {S : ctS} (h : fTell T S = none) : fD1 T S = S := by unfold fD1; rw [h]
set_option maxRecDepth 100000 in
set_option maxHeartbeats 1000000 in
theorem c_X5_drawOne (T : ctT) (S : ctS) (hT : okT T) (hG : gS T S) : CM MX5_drawOne (2, 0, 0) [vR 0] (wS T S) (fun v w => v = some (vI (ct_i (¬ fTell T S = none))) ∧ w = wS T (fD1 T S)) := by
  refine CM.of (by decide) (Nat.le_of_ble_eq_true rfl) ?_
  show CV MX5_drawOne (2, 0, 0) 20 (0, 0) 0 [(0, vR 0)] [] (wS T S) _
  have hS := hG.1
  have hR := hT.2.2.1
  have hC := hS.2.2.2.2.2.1
  have hlv := fLv_r hG
  have hZ := hS.1
  have loop2 : ∀ (k : Nat) (c : Nat), (sC S < c + k) → (c ≤ sC S) → (∀ j, j < c → ¬ ¬ fTc S j = -9) → (∀ j, j < tR T → ¬ ¬ fTr T S j = -9) → CV MX5_drawOne (2, 0, 0) 20 (0, 0) 51 [(0, vR 0), (1, vI c)] [] (wS T S) (fun v w => v = some (vI (ct_i (¬ fTell T S = none))) ∧ w = wS T (fD1 T S)) := by
    intro k
    induction k with
    | zero => intro c hk hi hv h0; exact absurd hk (by omega)
    | succ k ih =>
      intro c hk hi hv h0
      refine cv_iload_n dX5_drawOne_51 rfl ?_
      refine cv_aload_n dX5_drawOne_52 rfl ?_
      refine cv_getf flX5_12 dX5_drawOne_53 rfl rfl ?_
      refine cv_getf flX5_35 dX5_drawOne_56 rfl rfl ?_
      refine cv_icmp_ge (tgt := 101) dX5_drawOne_59 (by decide) (by omega) (fun h59 => ?_) (fun h59 => ?_)
      · refine cv_iconst dX5_drawOne_101 ?_
        refine cv_zret rfl dX5_drawOne_102 ⟨Nat.le_refl _, Nat.le_refl _⟩ (by omega) ⟨ct_rI (ct_i_f (fun h => h (fTell_n h0 (fun j hj => hv j (by omega))))).symm, by rw [fD1_n (fTell_n h0 (fun j hj => hv j (by omega)))]⟩
      · refine cv_aload_n dX5_drawOne_62 rfl ?_
        refine cv_iload_n dX5_drawOne_63 rfl ?_
        refine cv_sameV (c_X5_toldByCut T S hT hS c (by omega)) lkX5_toldByCut mlX5_111 dX5_drawOne_64 (by decide) rfl rfl (by decide) rfl (Nat.le_of_ble_eq_true rfl) ⟨Nat.le_refl _, Nat.le_refl _⟩ ?_
        intro v w1 hq
        obtain ⟨rfl, rfl⟩ := hq
        have hb : -9 ≤ fTc S c ∧ fTc S c ≤ 1000 := by
          rcases fTc_new hT hS (c := c) (by omega) with h | h
          · omega
          · have := h.1.1
            unfold okM at this
            have := hT.2.1
            omega
        refine cv_istore_n dX5_drawOne_67 (by decide) rfl rfl ?_
        refine cv_iload_n dX5_drawOne_68 rfl ?_
        refine cv_bipush dX5_drawOne_69 (by decide) ?_
        refine cv_icmp_eq (tgt := 95) dX5_drawOne_71 (by decide) (by omega) (fun h71 => ?_) (fun h71 => ?_)
        · refine cv_iinc dX5_drawOne_95 (by decide) rfl rfl rfl ?_
          refine cv_goto (tgt := 51) dX5_drawOne_98 (by decide) ?_
          refine cv_loc [0, 1] rfl ?_
          exact ih (c + 1) (by omega) (by omega) (fun j hj => by
            rcases Nat.lt_succ_iff_lt_or_eq.mp hj with q | q
            · exact hv j q
            · subst q
              exact fun h => h h71) h0
        · have ht := fTell_c h0 h71 hv (by omega)
          have hn := fTell_new hT hS ht
          refine cv_aload_n dX5_drawOne_74 rfl ?_
          refine cv_getf flX5_31 dX5_drawOne_75 rfl rfl ?_
          refine cv_iload_n dX5_drawOne_78 rfl ?_
          refine cv_aload_n dX5_drawOne_79 rfl ?_
          refine cv_getf flX5_31 dX5_drawOne_80 rfl rfl ?_
          refine cv_sameV (c_X9_level T S hS) lkX9_level mlX5_104 dX5_drawOne_83 (by decide) rfl rfl (by decide) rfl (Nat.le_of_ble_eq_true rfl) ⟨Nat.le_refl _, Nat.le_refl _⟩ ?_
          intro v w1 hq
          obtain ⟨rfl, rfl⟩ := hq
          refine cv_bipush dX5_drawOne_86 (by decide) ?_
          refine cv_iload_n dX5_drawOne_88 rfl ?_
          refine cv_iadd dX5_drawOne_89 ?_
          refine cv_sameV (c_X9_put T S hT (gS_room hT hG hn.1) (fTc S c) (fLv S) (10 + (c : Int)) hn.1.1) lkX9_put mlX5_107 dX5_drawOne_90 (by decide) rfl rfl (by decide) rfl (Nat.le_of_ble_eq_true rfl) ⟨Nat.le_refl _, Nat.le_refl _⟩ ?_
          intro v w1 hq
          obtain ⟨rfl, rfl⟩ := hq
          have ew : wS T (fPut S (fTc S c) (fLv S) (10 + (c : Int))) = wS T (fD1 T S) := by rw [fD1_s ht]
          rw [ew]
          refine cv_iconst dX5_drawOne_93 ?_
          refine cv_zret rfl dX5_drawOne_94 ⟨Nat.le_refl _, Nat.le_refl _⟩ (by omega) ⟨ct_rI (ct_i_t (by rw [ht]; exact fun h => by cases h)).symm, rfl⟩
  have loop1 : ∀ (k : Nat) (r : Nat), (tR T < r + k) → (r ≤ tR T) → (∀ j, j < r → ¬ ¬ fTr T S j = -9) → CV MX5_drawOne (2, 0, 0) 20 (0, 0) 2 [(0, vR 0), (1, vI r)] [] (wS T S) (fun v w => v = some (vI (ct_i (¬ fTell T S = none))) ∧ w = wS T (fD1 T S)) := by
    intro k
    induction k with
    | zero => intro r hk hi hv; exact absurd hk (by omega)
    | succ k ih =>
      intro r hk hi hv
      refine cv_iload_n dX5_drawOne_2 rfl ?_
      refine cv_aload_n dX5_drawOne_3 rfl ?_
      refine cv_getf flX5_22 dX5_drawOne_4 rfl rfl ?_
      refine cv_getf flX5_69 dX5_drawOne_7 rfl rfl ?_
      refine cv_icmp_ge (tgt := 49) dX5_drawOne_10 (by decide) (by omega) (fun h10 => ?_) (fun h10 => ?_)
      · refine cv_iconst dX5_drawOne_49 ?_
        refine cv_istore_n dX5_drawOne_50 (by decide) rfl rfl ?_
        exact loop2 (sC S + 1) 0 (by omega) (by omega) (fun j hj => absurd hj (Nat.not_lt_zero _)) (fun j hj => hv j (by omega))
      · refine cv_aload_n dX5_drawOne_13 rfl ?_
        refine cv_iload_n dX5_drawOne_14 rfl ?_
        refine cv_sameV (c_X5_toldByRule T S hT hS r (by omega)) lkX5_toldByRule mlX5_101 dX5_drawOne_15 (by decide) rfl rfl (by decide) rfl (Nat.le_of_ble_eq_true rfl) ⟨Nat.le_refl _, Nat.le_refl _⟩ ?_
        intro v w1 hq
        obtain ⟨rfl, rfl⟩ := hq
        have hb : -9 ≤ fTr T S r ∧ fTr T S r ≤ 1000 := by
          rcases fTr_new hT hS (r := r) (by omega) with h | h
          · omega
          · have := h.1.1
            unfold okM at this
            have := hT.2.1
            omega
        refine cv_istore_n dX5_drawOne_18 (by decide) rfl rfl ?_
        refine cv_iload_n dX5_drawOne_19 rfl ?_
        refine cv_bipush dX5_drawOne_20 (by decide) ?_
        refine cv_icmp_eq (tgt := 43) dX5_drawOne_22 (by decide) (by omega) (fun h22 => ?_) (fun h22 => ?_)
        · refine cv_iinc dX5_drawOne_43 (by decide) rfl rfl rfl ?_
          refine cv_goto (tgt := 2) dX5_drawOne_46 (by decide) ?_
          refine cv_loc [0, 1] rfl ?_
          exact ih (r + 1) (by omega) (by omega) (fun j hj => by
            rcases Nat.lt_succ_iff_lt_or_eq.mp hj with q | q
            · exact hv j q
            · subst q
              exact fun h => h h22)
        · have ht := fTell_r h22 hv (by omega)
          have hn := fTell_new hT hS ht
          refine cv_aload_n dX5_drawOne_25 rfl ?_
          refine cv_getf flX5_31 dX5_drawOne_26 rfl rfl ?_
          refine cv_iload_n dX5_drawOne_29 rfl ?_
          refine cv_aload_n dX5_drawOne_30 rfl ?_
          refine cv_getf flX5_31 dX5_drawOne_31 rfl rfl ?_
          refine cv_sameV (c_X9_level T S hS) lkX9_level mlX5_104 dX5_drawOne_34 (by decide) rfl rfl (by decide) rfl (Nat.le_of_ble_eq_true rfl) ⟨Nat.le_refl _, Nat.le_refl _⟩ ?_
          intro v w1 hq
          obtain ⟨rfl, rfl⟩ := hq
          refine cv_iload_n dX5_drawOne_37 rfl ?_
          refine cv_sameV (c_X9_put T S hT (gS_room hT hG hn.1) (fTr T S r) (fLv S) (r : Int) hn.1.1) lkX9_put mlX5_107 dX5_drawOne_38 (by decide) rfl rfl (by decide) rfl (Nat.le_of_ble_eq_true rfl) ⟨Nat.le_refl _, Nat.le_refl _⟩ ?_
          intro v w1 hq
          obtain ⟨rfl, rfl⟩ := hq
          have ew : wS T (fPut S (fTr T S r) (fLv S) (r : Int)) = wS T (fD1 T S) := by rw [fD1_s ht]
          rw [ew]
          refine cv_iconst dX5_drawOne_41 ?_
          refine cv_zret rfl dX5_drawOne_42 ⟨Nat.le_refl _, Nat.le_refl _⟩ (by omega) ⟨ct_rI (ct_i_t (by rw [ht]; exact fun h => by cases h)).symm, rfl⟩
  refine cv_iconst dX5_drawOne_0 ?_
  refine cv_istore_n dX5_drawOne_1 (by decide) rfl rfl ?_
  exact loop1 (tR T + 1) 0 (by omega) (by omega) (fun j hj => absurd hj (Nat.not_lt_zero _))
theorem fDI_b {T : ctT} {S : ctS} {k : Nat} (h : ¬ fBk T S = -9) : fDI T k S = S := by
  cases k with
  | zero => rfl
  | succ k => unfold fDI; rw [if_neg h]
theorem fDI_n {T : ctT} {S : ctS} {k : Nat} (h : fTell T S = none) : fDI T k S = S := by
  cases k with
  | zero => rfl
  | succ k => unfold fDI; rw [h]; split <;> rfl
theorem fDI_s {T : ctT} {S : ctS} {k : Nat} (h : fBk T S = -9) (h2 : ¬ fTell T S = none) : fDI T (k + 1) S = fDI T k (fD1 T S) := by
  cases e : fTell T S with
  | none => exact absurd e h2
  | some q =>
    rw [fD1_s e]
    show (if fBk T S = -9 then (match fTell T S with | some q => fDI T k (fPut S q.1 (fLv S) q.2) | none => S) else S) = _
    rw [if_pos h, e]
theorem gS_D1 {T : ctT} {S : ctS} (hT : okT T) (h : gS T S) : gS T (fD1 T S) := by
  cases e : fTell T S with
  | none => rw [fD1_n e]; exact h
  | some q => rw [fD1_s e]; exact gS_tell hT h e
set_option maxRecDepth 100000 in
set_option maxHeartbeats 1000000 in
theorem c_X5_drawIn (T : ctT) (S : ctS) (hT : okT T) (hG : gS T S) : CM MX5_drawIn (3, 0, 0) [vR 0] (wS T S) (fun v w => v = none ∧ w = wS T (fDraw T S)) := by
  refine CM.of (by decide) (Nat.le_of_ble_eq_true rfl) ?_
  show CV MX5_drawIn (3, 0, 0) 20 (0, 0) 0 [(0, vR 0)] [] (wS T S) _
  have loop : ∀ (k : Nat) (i : Nat) (S1 : ctS), (i + k = 37) → (i ≤ 36) → (gS T S1) → (fDI T (36 - i) S1 = fDraw T S) → CV MX5_drawIn (3, 0, 0) 20 (0, 0) 2 [(0, vR 0), (1, vI i)] [] (wS T S1) (fun v w => v = none ∧ w = wS T (fDraw T S)) := by
    intro k
    induction k with
    | zero => intro i S1 hk hi hg he; exact absurd hk (by omega)
    | succ k ih =>
      intro i S1 hk hi hg he
      have hb := fBk_r hT hg.1
      refine cv_iload_n dX5_drawIn_2 rfl ?_
      refine cv_bipush dX5_drawIn_3 (by decide) ?_
      refine cv_icmp_ge (tgt := 31) dX5_drawIn_5 (by decide) (by omega) (fun h5 => ?_) (fun h5 => ?_)
      · refine cv_ret rfl dX5_drawIn_31 ⟨Nat.le_refl _, Nat.le_refl _⟩ ⟨rfl, by rw [← he, show 36 - i = 0 by omega]; rfl⟩
      · refine cv_aload_n dX5_drawIn_8 rfl ?_
        refine cv_sameV (c_X5_theBreak T S1 hT hg.1) lkX5_theBreak mlX5_93 dX5_drawIn_9 (by decide) rfl rfl (by decide) rfl (Nat.le_of_ble_eq_true rfl) ⟨Nat.le_refl _, Nat.le_refl _⟩ ?_
        intro v w1 hq
        obtain ⟨rfl, rfl⟩ := hq
        refine cv_bipush dX5_drawIn_12 (by decide) ?_
        refine cv_icmp_ne (tgt := 24) dX5_drawIn_14 (by decide) (by omega) (fun h14 => ?_) (fun h14 => ?_)
        · refine cv_ret rfl dX5_drawIn_24 ⟨Nat.le_refl _, Nat.le_refl _⟩ ⟨rfl, by rw [← he, fDI_b h14]⟩
        · refine cv_aload_n dX5_drawIn_17 rfl ?_
          refine cv_sameV (c_X5_drawOne T S1 hT hg) lkX5_drawOne mlX5_97 dX5_drawIn_18 (by decide) rfl rfl (by decide) rfl (Nat.le_of_ble_eq_true rfl) ⟨Nat.le_refl _, Nat.le_refl _⟩ ?_
          intro v w1 hq
          obtain ⟨rfl, rfl⟩ := hq
          have hr0 := ct_i_r (¬ fTell T S1 = none)
          refine cv_if_ne (tgt := 25) dX5_drawIn_21 (by decide) (by omega) (fun h21 => ?_) (fun h21 => ?_)
          · refine cv_iinc dX5_drawIn_25 (by decide) rfl rfl rfl ?_
            refine cv_goto (tgt := 2) dX5_drawIn_28 (by decide) ?_
            refine ih (i + 1) (fD1 T S1) (by omega) (by omega) (gS_D1 hT hg) ?_
            rw [← he, show 36 - i = (36 - (i + 1)) + 1 by omega]
            exact (fDI_s h14 (ct_i_1.mp (by omega))).symm
          · refine cv_ret rfl dX5_drawIn_24 ⟨Nat.le_refl _, Nat.le_refl _⟩ ⟨rfl, by rw [← he, fDI_n (Classical.not_not.mp (ct_i_0.mp h21)), fD1_n (Classical.not_not.mp (ct_i_0.mp h21))]⟩
  refine cv_iconst dX5_drawIn_0 ?_
  refine cv_istore_n dX5_drawIn_1 (by decide) rfl rfl ?_
  exact loop 37 0 S (by omega) (by omega) hG rfl
set_option maxRecDepth 100000 in
set_option maxHeartbeats 1000000 in
theorem c_X5_isSolved (T : ctT) (S : ctS) (hT : okT T) (hS : okS T S) : CM MX5_isSolved (3, 0, 0) [vR 0] (wS T S) (fun v w => v = some (vI (ct_i (fBk T S = -9 ∧ fOp T S = none))) ∧ w = wS T S) := by
  refine CM.of (by decide) (Nat.le_of_ble_eq_true rfl) ?_
  show CV MX5_isSolved (3, 0, 0) 20 (0, 0) 0 [(0, vR 0)] [] (wS T S) _
  have hb := fBk_r hT hS
  have ho : -9 ≤ ct_o (-9) (fOp T S) ∧ ct_o (-9) (fOp T S) ≤ 4 ∧ (ct_o (-9) (fOp T S) = -9 ↔ fOp T S = none) := by
    cases e : fOp T S with
    | none => simp [ct_o]
    | some x =>
      have h1 := (ct_first_inv (show ct_first _ _ = _ from e)).1
      have := hT.2.1
      simp only [ct_o]
      refine ⟨by omega, by omega, ⟨fun h => by omega, fun h => by cases h⟩⟩
  refine cv_aload_n dX5_isSolved_0 rfl ?_
  refine cv_sameV (c_X5_theBreak T S hT hS) lkX5_theBreak mlX5_93 dX5_isSolved_1 (by decide) rfl rfl (by decide) rfl (Nat.le_of_ble_eq_true rfl) ⟨Nat.le_refl _, Nat.le_refl _⟩ ?_
  intro v w1 hq
  obtain ⟨rfl, rfl⟩ := hq
  refine cv_bipush dX5_isSolved_4 (by decide) ?_
  refine cv_icmp_ne (tgt := 25) dX5_isSolved_6 (by decide) (by omega) (fun h6 => ?_) (fun h6 => ?_)
  · refine cv_iconst dX5_isSolved_25 ?_
    refine cv_zret rfl dX5_isSolved_26 ⟨Nat.le_refl _, Nat.le_refl _⟩ (by omega) ⟨ct_rI (ct_i_f (fun h => h6 h.1)).symm, rfl⟩
  · refine cv_aload_n dX5_isSolved_9 rfl ?_
    refine cv_getf flX5_31 dX5_isSolved_10 rfl rfl ?_
    refine cv_sameV (c_X9_firstOpen T S hT hS) lkX9_firstOpen mlX5_124 dX5_isSolved_13 (by decide) rfl rfl (by decide) rfl (Nat.le_of_ble_eq_true rfl) ⟨Nat.le_refl _, Nat.le_refl _⟩ ?_
    intro v w1 hq
    obtain ⟨rfl, rfl⟩ := hq
    refine cv_bipush dX5_isSolved_16 (by decide) ?_
    refine cv_icmp_ne (tgt := 25) dX5_isSolved_18 (by decide) (by omega) (fun h18 => ?_) (fun h18 => ?_)
    · refine cv_iconst dX5_isSolved_25 ?_
      refine cv_zret rfl dX5_isSolved_26 ⟨Nat.le_refl _, Nat.le_refl _⟩ (by omega) ⟨ct_rI (ct_i_f (fun h => h18 (ho.2.2.mpr h.2))).symm, rfl⟩
    · refine cv_iconst dX5_isSolved_21 ?_
      refine cv_goto (tgt := 26) dX5_isSolved_22 (by decide) ?_
      refine cv_zret rfl dX5_isSolved_26 ⟨Nat.le_refl _, Nat.le_refl _⟩ (by omega) ⟨ct_rI (ct_i_t ⟨h6, ho.2.2.mp h18⟩).symm, rfl⟩
/-- a mark may be made -/
def mkP (T : ctT) (S : ctS) (m : Int) : Prop := m / 100 < tN T ∧ ¬ soP S m ∧ ¬ nsP S m ∧ fBk T S = -9
/-- a cut may be learnt -/
def lnP (T : ctT) (S : ctS) : Prop := sH S = 0 ∧ ¬ fBk T S = -9
set_option maxRecDepth 100000 in
set_option maxHeartbeats 1000000 in
theorem c_X5_canMake (T : ctT) (S : ctS) (hT : okT T) (hS : okS T S) (m : Int) (hm : 0 ≤ m ∧ m ≤ 999 ∧ m / 10 % 10 ≤ 1) : CM MX5_canMake (3, 0, 0) [vR 0, vI m] (wS T S) (fun v w => v = some (vI (ct_i (mkP T S m))) ∧ w = wS T S) := by
  refine CM.of (by decide) (Nat.le_of_ble_eq_true rfl) ?_
  show CV MX5_canMake (3, 0, 0) 20 (0, 0) 0 [(0, vR 0), (1, vI m)] [] (wS T S) _
  have hb := fBk_r hT hS
  have r1 := ct_i_r (0 ≤ m / 100 ∧ m / 100 < (tN T : Int))
  have r2 := ct_i_r (soP S m)
  have r3 := ct_i_r (nsP S m)
  refine cv_aload_n dX5_canMake_0 rfl ?_
  refine cv_getf flX5_22 dX5_canMake_1 rfl rfl ?_
  refine cv_iload_n dX5_canMake_4 rfl ?_
  refine cv_bipush dX5_canMake_5 (by decide) ?_
  refine cv_idiv dX5_canMake_7 (by omega) ?_
  refine cv_sameV (c_X6_hasNumber T S hT (m / 100) (by omega)) lkX6_hasNumber mlX5_127 dX5_canMake_8 (by decide) rfl rfl (by decide) rfl (Nat.le_of_ble_eq_true rfl) ⟨Nat.le_refl _, Nat.le_refl _⟩ ?_
  intro v w1 hq
  obtain ⟨rfl, rfl⟩ := hq
  refine cv_if_eq (tgt := 49) dX5_canMake_11 (by decide) (by omega) (fun h11 => ?_) (fun h11 => ?_)
  · refine cv_iconst dX5_canMake_49 ?_
    refine cv_zret rfl dX5_canMake_50 ⟨Nat.le_refl _, Nat.le_refl _⟩ (by omega) ⟨ct_rI (ct_i_f (fun h => ct_i_0.mp h11 ⟨by omega, h.1⟩)).symm, rfl⟩
  · have hnum := ct_i_1.mp (show ct_i (0 ≤ m / 100 ∧ m / 100 < (tN T : Int)) = 1 by omega)
    have hok : okM T m := ⟨by omega, by omega, by omega⟩
    refine cv_aload_n dX5_canMake_14 rfl ?_
    refine cv_getf flX5_31 dX5_canMake_15 rfl rfl ?_
    refine cv_iload_n dX5_canMake_18 rfl ?_
    refine cv_sameV (c_X9_isSo T S hT hS m hok) lkX9_isSo mlX5_90 dX5_canMake_19 (by decide) rfl rfl (by decide) rfl (Nat.le_of_ble_eq_true rfl) ⟨Nat.le_refl _, Nat.le_refl _⟩ ?_
    intro v w1 hq
    obtain ⟨rfl, rfl⟩ := hq
    refine cv_if_ne (tgt := 49) dX5_canMake_22 (by decide) (by omega) (fun h22 => ?_) (fun h22 => ?_)
    · refine cv_iconst dX5_canMake_49 ?_
      refine cv_zret rfl dX5_canMake_50 ⟨Nat.le_refl _, Nat.le_refl _⟩ (by omega) ⟨ct_rI (ct_i_f (fun h => h22 (ct_i_f h.2.1))).symm, rfl⟩
    · refine cv_aload_n dX5_canMake_25 rfl ?_
      refine cv_getf flX5_31 dX5_canMake_26 rfl rfl ?_
      refine cv_iload_n dX5_canMake_29 rfl ?_
      refine cv_sameV (c_X9_isNotSo T S hT hS m hok) lkX9_isNotSo mlX5_118 dX5_canMake_30 (by decide) rfl rfl (by decide) rfl (Nat.le_of_ble_eq_true rfl) ⟨Nat.le_refl _, Nat.le_refl _⟩ ?_
      intro v w1 hq
      obtain ⟨rfl, rfl⟩ := hq
      refine cv_if_ne (tgt := 49) dX5_canMake_33 (by decide) (by omega) (fun h33 => ?_) (fun h33 => ?_)
      · refine cv_iconst dX5_canMake_49 ?_
        refine cv_zret rfl dX5_canMake_50 ⟨Nat.le_refl _, Nat.le_refl _⟩ (by omega) ⟨ct_rI (ct_i_f (fun h => h33 (ct_i_f h.2.2.1))).symm, rfl⟩
      · refine cv_aload_n dX5_canMake_36 rfl ?_
        refine cv_sameV (c_X5_theBreak T S hT hS) lkX5_theBreak mlX5_93 dX5_canMake_37 (by decide) rfl rfl (by decide) rfl (Nat.le_of_ble_eq_true rfl) ⟨Nat.le_refl _, Nat.le_refl _⟩ ?_
        intro v w1 hq
        obtain ⟨rfl, rfl⟩ := hq
        refine cv_bipush dX5_canMake_40 (by decide) ?_
        refine cv_icmp_ne (tgt := 49) dX5_canMake_42 (by decide) (by omega) (fun h42 => ?_) (fun h42 => ?_)
        · refine cv_iconst dX5_canMake_49 ?_
          refine cv_zret rfl dX5_canMake_50 ⟨Nat.le_refl _, Nat.le_refl _⟩ (by omega) ⟨ct_rI (ct_i_f (fun h => h42 h.2.2.2)).symm, rfl⟩
        · refine cv_iconst dX5_canMake_45 ?_
          refine cv_goto (tgt := 50) dX5_canMake_46 (by decide) ?_
          refine cv_zret rfl dX5_canMake_50 ⟨Nat.le_refl _, Nat.le_refl _⟩ (by omega) ⟨ct_rI (ct_i_t ⟨hnum.2, ct_i_0.mp h22, ct_i_0.mp h33, h42⟩).symm, rfl⟩
set_option maxRecDepth 100000 in
set_option maxHeartbeats 1000000 in
theorem c_X5_canLearn (T : ctT) (S : ctS) (hT : okT T) (hS : okS T S) : CM MX5_canLearn (3, 0, 0) [vR 0] (wS T S) (fun v w => v = some (vI (ct_i (lnP T S))) ∧ w = wS T S) := by
  refine CM.of (by decide) (Nat.le_of_ble_eq_true rfl) ?_
  show CV MX5_canLearn (3, 0, 0) 20 (0, 0) 0 [(0, vR 0)] [] (wS T S) _
  have hb := fBk_r hT hS
  have hh := hS.2.2.2.2.2.2.2.2
  refine cv_aload_n dX5_canLearn_0 rfl ?_
  refine cv_getf flX5_18 dX5_canLearn_1 rfl rfl ?_
  refine cv_if_ne (tgt := 20) dX5_canLearn_4 (by decide) (by omega) (fun h4 => ?_) (fun h4 => ?_)
  · refine cv_iconst dX5_canLearn_20 ?_
    refine cv_zret rfl dX5_canLearn_21 ⟨Nat.le_refl _, Nat.le_refl _⟩ (by omega) ⟨ct_rI (ct_i_f (fun h => h4 h.1)).symm, rfl⟩
  · refine cv_aload_n dX5_canLearn_7 rfl ?_
    refine cv_sameV (c_X5_theBreak T S hT hS) lkX5_theBreak mlX5_93 dX5_canLearn_8 (by decide) rfl rfl (by decide) rfl (Nat.le_of_ble_eq_true rfl) ⟨Nat.le_refl _, Nat.le_refl _⟩ ?_
    intro v w1 hq
    obtain ⟨rfl, rfl⟩ := hq
    refine cv_bipush dX5_canLearn_11 (by decide) ?_
    refine cv_icmp_eq (tgt := 20) dX5_canLearn_13 (by decide) (by omega) (fun h13 => ?_) (fun h13 => ?_)
    · refine cv_iconst dX5_canLearn_20 ?_
      refine cv_zret rfl dX5_canLearn_21 ⟨Nat.le_refl _, Nat.le_refl _⟩ (by omega) ⟨ct_rI (ct_i_f (fun h => h.2 h13)).symm, rfl⟩
    · refine cv_iconst dX5_canLearn_16 ?_
      refine cv_goto (tgt := 21) dX5_canLearn_17 (by decide) ?_
      refine cv_zret rfl dX5_canLearn_21 ⟨Nat.le_refl _, Nat.le_refl _⟩ (by omega) ⟨ct_rI (ct_i_t ⟨h4, h13⟩).symm, rfl⟩
theorem mkP_new {T : ctT} {S : ctS} {m : Int} (hm : 0 ≤ m ∧ m ≤ 999 ∧ m / 10 % 10 ≤ 1) (h : mkP T S m) : nwM T S m := ⟨⟨by omega, by have := h.1; omega, by omega⟩, h.2.1, h.2.2.1⟩
noncomputable def fMade (T : ctT) (S : ctS) (m : Int) : ctS := @ite _ (mkP T S m) (Classical.propDecidable _) (fDraw T (fPut S m (fLv S + 1) (-1))) S
theorem fMade_t {T : ctT} {S : ctS} {m : Int} (h : mkP T S m) : fMade T S m = fDraw T (fPut S m (fLv S + 1) (-1)) := if_pos h
theorem fMade_f {T : ctT} {S : ctS} {m : Int} (h : ¬ mkP T S m) : fMade T S m = S := if_neg h
theorem gS_mput {T : ctT} {S : ctS} {m : Int} (hT : okT T) (hG : gS T S) (hn : nwM T S m) : gS T (fPut S m (fLv S + 1) (-1)) := by
  have := fLv_r hG
  exact gS_put hT hG hn (by omega) (by omega)
theorem gS_made {T : ctT} {S : ctS} {m : Int} (hT : okT T) (hG : gS T S) (hm : 0 ≤ m ∧ m ≤ 999 ∧ m / 10 % 10 ≤ 1) : gS T (fMade T S m) := by
  by_cases h : mkP T S m
  · rw [fMade_t h]; exact gS_draw hT (gS_mput hT hG (mkP_new hm h))
  · rw [fMade_f h]; exact hG
set_option maxRecDepth 100000 in
set_option maxHeartbeats 1000000 in
theorem c_X5_made (T : ctT) (S : ctS) (hT : okT T) (hG : gS T S) (m : Int) (hm : 0 ≤ m ∧ m ≤ 999 ∧ m / 10 % 10 ≤ 1) : CM MX5_made (4, 0, 0) [vR 0, vI m] (wS T S) (fun v w => v = some (vI (ct_i (mkP T S m))) ∧ w = wS T (fMade T S m)) := by
  refine CM.of (by decide) (Nat.le_of_ble_eq_true rfl) ?_
  show CV MX5_made (4, 0, 0) 20 (0, 0) 0 [(0, vR 0), (1, vI m)] [] (wS T S) _
  have hS := hG.1
  have r1 := ct_i_r (mkP T S m)
  refine cv_aload_n dX5_made_0 rfl ?_
  refine cv_iload_n dX5_made_1 rfl ?_
  refine cv_sameV (c_X5_canMake T S hT hS m hm) lkX5_canMake mlX5_130 dX5_made_2 (by decide) rfl rfl (by decide) rfl (Nat.le_of_ble_eq_true rfl) ⟨Nat.le_refl _, Nat.le_refl _⟩ ?_
  intro v w1 hq
  obtain ⟨rfl, rfl⟩ := hq
  refine cv_if_ne (tgt := 10) dX5_made_5 (by decide) (by omega) (fun h5 => ?_) (fun h5 => ?_)
  · have hmk := ct_i_1.mp (show ct_i (mkP T S m) = 1 by omega)
    have hn := mkP_new hm hmk
    refine cv_aload_n dX5_made_10 rfl ?_
    refine cv_getf flX5_31 dX5_made_11 rfl rfl ?_
    refine cv_iload_n dX5_made_14 rfl ?_
    refine cv_aload_n dX5_made_15 rfl ?_
    refine cv_getf flX5_31 dX5_made_16 rfl rfl ?_
    refine cv_sameV (c_X9_level T S hS) lkX9_level mlX5_104 dX5_made_19 (by decide) rfl rfl (by decide) rfl (Nat.le_of_ble_eq_true rfl) ⟨Nat.le_refl _, Nat.le_refl _⟩ ?_
    intro v w1 hq
    obtain ⟨rfl, rfl⟩ := hq
    refine cv_iconst dX5_made_22 ?_
    refine cv_iadd dX5_made_23 ?_
    refine cv_iconst dX5_made_24 ?_
    refine cv_sameV (c_X9_put T S hT (gS_room hT hG hn) m (fLv S + 1) (-1) hn.1) lkX9_put mlX5_107 dX5_made_25 (by decide) rfl rfl (by decide) rfl (Nat.le_of_ble_eq_true rfl) ⟨Nat.le_refl _, Nat.le_refl _⟩ ?_
    intro v w1 hq
    obtain ⟨rfl, rfl⟩ := hq
    refine cv_aload_n dX5_made_28 rfl ?_
    refine cv_sameV (c_X5_drawIn T (fPut S m (fLv S + 1) (-1)) hT (gS_mput hT hG hn)) lkX5_drawIn mlX5_43 dX5_made_29 (by decide) rfl rfl (by decide) rfl (Nat.le_of_ble_eq_true rfl) ⟨Nat.le_refl _, Nat.le_refl _⟩ ?_
    intro v w1 hq
    obtain ⟨rfl, rfl⟩ := hq
    refine cv_iconst dX5_made_32 ?_
    refine cv_zret rfl dX5_made_33 ⟨Nat.le_refl _, Nat.le_refl _⟩ (by omega) ⟨ct_rI (ct_i_t hmk).symm, by rw [fMade_t hmk]⟩
  · refine cv_iconst dX5_made_8 ?_
    refine cv_zret rfl dX5_made_9 ⟨Nat.le_refl _, Nat.le_refl _⟩ (by omega) ⟨ct_rI h5.symm, by rw [fMade_f (ct_i_0.mp h5)]⟩
set_option maxRecDepth 100000 in
set_option maxHeartbeats 1000000 in
theorem c_X5_left (T : ctT) (S : ctS) (hT : okT T) (hG : gS T S) (hU : gS T (fUp T S (fLv S - 1))) : CM MX5_left (4, 0, 0) [vR 0] (wS T S) (fun v w => v = none ∧ w = wS T (fDraw T (fUp T S (fLv S - 1)))) := by
  refine CM.of (by decide) (Nat.le_of_ble_eq_true rfl) ?_
  show CV MX5_left (4, 0, 0) 20 (0, 0) 0 [(0, vR 0)] [] (wS T S) _
  have hS := hG.1
  have hlv := fLv_r hG
  have hZ := hS.1
  refine cv_aload_n dX5_left_0 rfl ?_
  refine cv_getf flX5_31 dX5_left_1 rfl rfl ?_
  refine cv_aload_n dX5_left_4 rfl ?_
  refine cv_getf flX5_31 dX5_left_5 rfl rfl ?_
  refine cv_sameV (c_X9_level T S hS) lkX9_level mlX5_104 dX5_left_8 (by decide) rfl rfl (by decide) rfl (Nat.le_of_ble_eq_true rfl) ⟨Nat.le_refl _, Nat.le_refl _⟩ ?_
  intro v w1 hq
  obtain ⟨rfl, rfl⟩ := hq
  refine cv_iconst dX5_left_11 ?_
  refine cv_isub dX5_left_12 ?_
  refine cv_sameV (c_X9_cutAbove T S hT hS (fLv S - 1) (by omega)) lkX9_cutAbove mlX5_133 dX5_left_13 (by decide) rfl rfl (by decide) rfl (Nat.le_of_ble_eq_true rfl) ⟨Nat.le_refl _, Nat.le_refl _⟩ ?_
  intro v w1 hq
  obtain ⟨rfl, rfl⟩ := hq
  refine cv_aload_n dX5_left_16 rfl ?_
  refine cv_sameV (c_X5_drawIn T _ hT hU) lkX5_drawIn mlX5_43 dX5_left_17 (by decide) rfl rfl (by decide) rfl (Nat.le_of_ble_eq_true rfl) ⟨Nat.le_refl _, Nat.le_refl _⟩ ?_
  intro v w1 hq
  obtain ⟨rfl, rfl⟩ := hq
  refine cv_ret rfl dX5_left_20 ⟨Nat.le_refl _, Nat.le_refl _⟩ ⟨rfl, rfl⟩
set_option maxRecDepth 100000 in
set_option maxHeartbeats 1000000 in
theorem c_X5_begin (T : ctT) (S : ctS) (hT : okT T) (hU : gS T (fCut T (uC (uH S 0) 0) 0)) : CM MX5_begin (4, 0, 0) [vR 0] (wS T S) (fun v w => v = none ∧ w = wS T (fDraw T (fCut T (uC (uH S 0) 0) 0))) := by
  refine CM.of (by decide) (Nat.le_of_ble_eq_true rfl) ?_
  show CV MX5_begin (4, 0, 0) 20 (0, 0) 0 [(0, vR 0)] [] (wS T S) _
  refine cv_aload_n dX5_begin_0 rfl ?_
  refine cv_iconst dX5_begin_1 ?_
  refine cv_putf fpX5_18 dX5_begin_2 rfl (Nat.le_of_ble_eq_true rfl) (fun _ => ⟨rfl, rfl⟩) ?_
  refine cv_aload_n dX5_begin_5 rfl ?_
  refine cv_getf flX5_12 dX5_begin_6 rfl rfl ?_
  refine cv_iconst dX5_begin_9 ?_
  refine cv_putf fpX5_35 dX5_begin_10 rfl (Nat.le_of_ble_eq_true rfl) (fun _ => ⟨rfl, rfl⟩) ?_
  refine cv_aload_n dX5_begin_13 rfl ?_
  refine cv_getf flX5_31 dX5_begin_14 rfl rfl ?_
  refine cv_iconst dX5_begin_17 ?_
  refine cv_sameV (c_X9_cutOff T (uC (uH S 0) 0) hT 0 (by omega) (fun i hi => absurd hi (Nat.not_lt_zero _))) lkX9_cutOff mlX5_39 dX5_begin_18 (by decide) rfl rfl (by decide) rfl (Nat.le_of_ble_eq_true rfl) ⟨Nat.le_refl _, Nat.le_refl _⟩ ?_
  intro v w1 hq
  obtain ⟨rfl, rfl⟩ := hq
  refine cv_aload_n dX5_begin_21 rfl ?_
  refine cv_sameV (c_X5_drawIn T _ hT hU) lkX5_drawIn mlX5_43 dX5_begin_22 (by decide) rfl rfl (by decide) rfl (Nat.le_of_ble_eq_true rfl) ⟨Nat.le_refl _, Nat.le_refl _⟩ ?_
  intro v w1 hq
  obtain ⟨rfl, rfl⟩ := hq
  refine cv_ret rfl dX5_begin_25 ⟨Nat.le_refl _, Nat.le_refl _⟩ ⟨rfl, rfl⟩
