set_option maxRecDepth 100000 in
set_option maxHeartbeats 1000000 in
theorem c_X12_mayLearn (u v : Nat) (T : ctT) (o : Nat → Int) (A : Nat → Nat → Int) (tm tr : Int) (p st : Nat → Int) (S : ctS) (hT : okT T) (hA : rT T A) (hR : Rep S p) (hJ : J T S)  : CM MX12_mayLearn (5, 0, 0) [vR 0, vR 5] (wM u v T o A tm tr p st) (fun v1 w => v1 = some (vI (ct_i (lnP T S))) ∧ w = wM u v T o A tm tr p st) := by
  refine CM.of (by decide) (Nat.le_of_ble_eq_true rfl) ?_
  show CV MX12_mayLearn (5, 0, 0) 19 (0, 0) 0 [(0, vR 0), (1, vR 5)] [] (wM u v T o A tm tr p st) _
  have hb := fBk_r hT (J_g hT hJ).1
  have hh := hJ.2.1.2.2.2.2.2
  refine cv_aload_n dX12_mayLearn_0 rfl ?_
  refine cv_sipush dX12_mayLearn_1 (by decide) ?_
  refine cv_ialj (470) dX12_mayLearn_4 rfl (by omega) (by omega) ?_
  rw [hR.2.2.2.2]
  refine cv_if_ne (tgt := 22) dX12_mayLearn_5 (by decide) (by omega) (fun h5 => ?_) (fun h5 => ?_)
  · refine cv_iconst dX12_mayLearn_22 ?_
    refine cv_zret rfl dX12_mayLearn_23 ⟨Nat.le_refl _, Nat.le_refl _⟩ (by omega) ⟨ct_rI (ct_i_f (fun z => h5 z.1)).symm, rfl⟩
  · refine cv_aload_n dX12_mayLearn_8 rfl ?_
    refine cv_aload_n dX12_mayLearn_9 rfl ?_
    refine cv_sameV (c_X12_breakOf u v T o A tm tr p st S hT hA hR hJ) lkX12_breakOf mlX12_176 dX12_mayLearn_10 (by decide) rfl rfl (by decide) rfl (Nat.le_of_ble_eq_true rfl) ⟨Nat.le_refl _, Nat.le_refl _⟩ ?_
    intro v w1 hq
    obtain ⟨rfl, rfl⟩ := hq
    refine cv_bipush dX12_mayLearn_13 (by decide) ?_
    refine cv_icmp_eq (tgt := 22) dX12_mayLearn_15 (by decide) (by omega) (fun h15 => ?_) (fun h15 => ?_)
    · refine cv_iconst dX12_mayLearn_22 ?_
      refine cv_zret rfl dX12_mayLearn_23 ⟨Nat.le_refl _, Nat.le_refl _⟩ (by omega) ⟨ct_rI (ct_i_f (fun z => z.2 h15)).symm, rfl⟩
    · refine cv_iconst dX12_mayLearn_18 ?_
      refine cv_goto (tgt := 23) dX12_mayLearn_19 (by decide) ?_
      refine cv_zret rfl dX12_mayLearn_23 ⟨Nat.le_refl _, Nat.le_refl _⟩ (by omega) ⟨ct_rI (ct_i_t ⟨by omega, h15⟩).symm, rfl⟩
set_option maxRecDepth 100000 in
set_option maxHeartbeats 1000000 in
theorem c_X12_mayMake (u v : Nat) (T : ctT) (o : Nat → Int) (A : Nat → Nat → Int) (tm tr : Int) (p st : Nat → Int) (S : ctS) (hT : okT T) (hA : rT T A) (hR : Rep S p) (hJ : J T S) (m : Int) (hm : okM T m) : CM MX12_mayMake (5, 0, 0) [vR 0, vR 5, vI m] (wM u v T o A tm tr p st) (fun v1 w => v1 = some (vI (ct_i (mkP T S m))) ∧ w = wM u v T o A tm tr p st) := by
  refine CM.of (by decide) (Nat.le_of_ble_eq_true rfl) ?_
  show CV MX12_mayMake (5, 0, 0) 19 (0, 0) 0 [(0, vR 0), (1, vR 5), (2, vI m)] [] (wM u v T o A tm tr p st) _
  have hb := fBk_r hT (J_g hT hJ).1
  have i1 := ct_i_r (soP S m)
  have i2 := ct_i_r (nsP S m)
  have hmo := hm
  unfold okM at hmo
  refine cv_aload_n dX12_mayMake_0 rfl ?_
  refine cv_aload_n dX12_mayMake_1 rfl ?_
  refine cv_sameV (c_X12_breakOf u v T o A tm tr p st S hT hA hR hJ) lkX12_breakOf mlX12_176 dX12_mayMake_2 (by decide) rfl rfl (by decide) rfl (Nat.le_of_ble_eq_true rfl) ⟨Nat.le_refl _, Nat.le_refl _⟩ ?_
  intro v w1 hq
  obtain ⟨rfl, rfl⟩ := hq
  refine cv_bipush dX12_mayMake_5 (by decide) ?_
  refine cv_icmp_ne (tgt := 32) dX12_mayMake_7 (by decide) (by omega) (fun h7 => ?_) (fun h7 => ?_)
  · refine cv_iconst dX12_mayMake_32 ?_
    refine cv_zret rfl dX12_mayMake_33 ⟨Nat.le_refl _, Nat.le_refl _⟩ (by omega) ⟨ct_rI (ct_i_f (fun z => h7 z.2.2.2)).symm, rfl⟩
  · refine cv_aload_n dX12_mayMake_10 rfl ?_
    refine cv_aload_n dX12_mayMake_11 rfl ?_
    refine cv_iload_n dX12_mayMake_12 rfl ?_
    refine cv_sameV (c_X12_isSo u v T o A tm tr p st S hT hA hR hJ m hm) lkX12_isSo mlX12_141 dX12_mayMake_13 (by decide) rfl rfl (by decide) rfl (Nat.le_of_ble_eq_true rfl) ⟨Nat.le_refl _, Nat.le_refl _⟩ ?_
    intro v w1 hq
    obtain ⟨rfl, rfl⟩ := hq
    refine cv_if_ne (tgt := 32) dX12_mayMake_16 (by decide) (by omega) (fun h16 => ?_) (fun h16 => ?_)
    · refine cv_iconst dX12_mayMake_32 ?_
      refine cv_zret rfl dX12_mayMake_33 ⟨Nat.le_refl _, Nat.le_refl _⟩ (by omega) ⟨ct_rI (ct_i_f (fun z => z.2.1 (ct_i_1.mp (by omega)))).symm, rfl⟩
    · refine cv_aload_n dX12_mayMake_19 rfl ?_
      refine cv_aload_n dX12_mayMake_20 rfl ?_
      refine cv_iload_n dX12_mayMake_21 rfl ?_
      refine cv_sameV (c_X12_isNotSo u v T o A tm tr p st S hT hA hR hJ m hm) lkX12_isNotSo mlX12_163 dX12_mayMake_22 (by decide) rfl rfl (by decide) rfl (Nat.le_of_ble_eq_true rfl) ⟨Nat.le_refl _, Nat.le_refl _⟩ ?_
      intro v w1 hq
      obtain ⟨rfl, rfl⟩ := hq
      refine cv_if_ne (tgt := 32) dX12_mayMake_25 (by decide) (by omega) (fun h25 => ?_) (fun h25 => ?_)
      · refine cv_iconst dX12_mayMake_32 ?_
        refine cv_zret rfl dX12_mayMake_33 ⟨Nat.le_refl _, Nat.le_refl _⟩ (by omega) ⟨ct_rI (ct_i_f (fun z => z.2.2.1 (ct_i_1.mp (by omega)))).symm, rfl⟩
      · refine cv_iconst dX12_mayMake_28 ?_
        refine cv_goto (tgt := 33) dX12_mayMake_29 (by decide) ?_
        refine cv_zret rfl dX12_mayMake_33 ⟨Nat.le_refl _, Nat.le_refl _⟩ (by omega) ⟨ct_rI (ct_i_t ⟨by omega, ct_i_0.mp (by omega), ct_i_0.mp (by omega), h7⟩).symm, rfl⟩
set_option maxRecDepth 100000 in
set_option maxHeartbeats 1000000 in
theorem c_X12_makeOn (u v : Nat) (T : ctT) (o : Nat → Int) (A : Nat → Nat → Int) (tm tr : Int) (p st : Nat → Int) (S : ctS) (hT : okT T) (hA : rT T A) (hR : Rep S p) (hJ : J T S) (m : Int) (hm : okm m) (hk : mkP T S m) : CM MX12_makeOn (7, 0, 0) [vR 0, vR 5, vI m] (wM u v T o A tm tr p st) (fun v1 w => ∃ tm1 tr1 p1, v1 = none ∧ w = wM u v T o A tm1 tr1 p1 st ∧ Rep (fMade T S m) p1) := by
  refine CM.of (by decide) (Nat.le_of_ble_eq_true rfl) ?_
  show CV MX12_makeOn (7, 0, 0) 19 (0, 0) 0 [(0, vR 0), (1, vR 5), (2, vI m)] [] (wM u v T o A tm tr p st) _
  have hg := J_g hT hJ
  have hn := mkP_new hm hk
  have rm := gS_room hT hg hn
  have hv := fLv_r hg
  refine cv_aload_n dX12_makeOn_0 rfl ?_
  refine cv_aload_n dX12_makeOn_1 rfl ?_
  refine cv_iload_n dX12_makeOn_2 rfl ?_
  refine cv_aload_n dX12_makeOn_3 rfl ?_
  refine cv_aload_n dX12_makeOn_4 rfl ?_
  refine cv_sameV (c_X12_levelOf u v T o A tm tr p st S hT hA hR hJ) lkX12_levelOf mlX12_184 dX12_makeOn_5 (by decide) rfl rfl (by decide) rfl (Nat.le_of_ble_eq_true rfl) ⟨Nat.le_refl _, Nat.le_refl _⟩ ?_
  intro v w1 hq
  obtain ⟨rfl, rfl⟩ := hq
  refine cv_iconst dX12_makeOn_8 ?_
  refine cv_iadd dX12_makeOn_9 ?_
  refine cv_iconst dX12_makeOn_10 ?_
  refine cv_sameV (c_X12_append u v T o A tm tr p st (sZ S) rm hR.1 m (fLv S + 1) (-1)) lkX12_append mlX12_187 dX12_makeOn_11 (by decide) rfl rfl (by decide) rfl (Nat.le_of_ble_eq_true rfl) ⟨Nat.le_refl _, Nat.le_refl _⟩ ?_
  intro v w1 hq
  obtain ⟨rfl, rfl⟩ := hq
  refine cv_aload_n dX12_makeOn_14 rfl ?_
  refine cv_aload_n dX12_makeOn_15 rfl ?_
  refine cv_sameV (c_X12_drawIn u v T o A tm tr (pAp p (sZ S) m (fLv S + 1) (-1)) st (fPut S m (fLv S + 1) (-1)) hT hA (Rep_put hR rm hJ.2.1.2.2.1 (fun c hc => (hJ.2.1.2.2.2.1 c hc).2) _ _ _) (J_put hT hJ hn (by omega) (by omega))) lkX12_drawIn mlX12_191 dX12_makeOn_16 (by decide) rfl rfl (by decide) rfl (Nat.le_of_ble_eq_true rfl) ⟨Nat.le_refl _, Nat.le_refl _⟩ ?_
  intro v w1 hq
  obtain ⟨tm1, tr1, p1, rfl, rfl, hR1⟩ := hq
  refine cv_ret rfl dX12_makeOn_19 ⟨Nat.le_refl _, Nat.le_refl _⟩ ⟨tm1, tr1, p1, rfl, rfl, by rw [fMade_t hk]; exact hR1⟩
set_option maxRecDepth 100000 in
set_option maxHeartbeats 1000000 in
theorem c_X12_openOf (u v : Nat) (T : ctT) (o : Nat → Int) (A : Nat → Nat → Int) (tm tr : Int) (p st : Nat → Int) (S : ctS) (hT : okT T) (hA : rT T A) (hR : Rep S p) (hJ : J T S)  : CM MX12_openOf (2, 0, 0) [vR 0, vR 5] (wM u v T o A tm tr p st) (fun v1 w => v1 = some (vI (ct_o (-9) (fOp T S))) ∧ w = wM u v T o A tm tr p st) := by
  refine CM.of (by decide) (Nat.le_of_ble_eq_true rfl) ?_
  show CV MX12_openOf (2, 0, 0) 19 (0, 0) 0 [(0, vR 0), (1, vR 5)] [] (wM u v T o A tm tr p st) _
  have hN := hT.2.1
  have ho := (J_g hT hJ).1
  have loop : ∀ (x : Nat) (f : Int), x ≤ tN T → ((f = -9 ∧ ∀ j, x ≤ j → j < tN T → ¬ sLo S j < sHi S j) ∨ (∃ j : Nat, f = (j : Int) ∧ x ≤ j ∧ j < tN T ∧ sLo S j < sHi S j ∧ ∀ i, x ≤ i → i < j → ¬ sLo S i < sHi S i)) → CV MX12_openOf (2, 0, 0) 19 (0, 0) 10 [(0, vR 0), (1, vR 5), (2, vI f), (3, vI ((x : Int) - 1))] [] (wM u v T o A tm tr p st) (fun v1 w => v1 = some (vI (ct_o (-9) (fOp T S))) ∧ w = wM u v T o A tm tr p st) := by
    intro x
    induction x with
    | zero =>
      intro f hx hf
      refine cv_iload_n dX12_openOf_10 rfl ?_
      refine cv_if_lt (tgt := 41) dX12_openOf_11 (by decide) (by omega) (fun h11 => ?_) (fun h11 => ?_)
      · refine cv_iload_n dX12_openOf_41 rfl ?_
        refine cv_iret rfl dX12_openOf_42 ⟨Nat.le_refl _, Nat.le_refl _⟩ (by
        refine ⟨ct_rI ?_, rfl⟩
        unfold fOp
        rcases hf with ⟨rfl, h⟩ | ⟨j, rfl, -, h1, h2, h3⟩
        · rw [ct_first_no (P := fun x => sLo S x < sHi S x) (fun j hj => h j (Nat.zero_le _) hj)]; rfl
        · rw [ct_first_is (P := fun x => sLo S x < sHi S x) h2 (fun i hi => h3 i (Nat.zero_le _) hi) h1]; rfl)
      · exact absurd h11 (by omega)
    | succ x ih =>
      intro f hx hf
      have lh := ho.2.2.2.2.1 x (by omega)
      rw [show (((x + 1 : Nat) : Int) - 1) = (x : Int) by omega]
      refine cv_iload_n dX12_openOf_10 rfl ?_
      refine cv_if_lt (tgt := 41) dX12_openOf_11 (by decide) (by omega) (fun h11 => ?_) (fun h11 => ?_)
      · exact absurd h11 (by omega)
      · refine cv_aload_n dX12_openOf_14 rfl ?_
        refine cv_aload_n dX12_openOf_15 rfl ?_
        refine cv_iload_n dX12_openOf_16 rfl ?_
        refine cv_sameV (c_X12_low u v T o A tm tr p st S hT hA hR hJ x (by omega)) lkX12_low mlX12_123 dX12_openOf_17 (by decide) rfl rfl (by decide) rfl (Nat.le_of_ble_eq_true rfl) ⟨Nat.le_refl _, Nat.le_refl _⟩ ?_
        intro v w1 hq
        obtain ⟨rfl, rfl⟩ := hq
        refine cv_aload_n dX12_openOf_20 rfl ?_
        refine cv_aload_n dX12_openOf_21 rfl ?_
        refine cv_iload_n dX12_openOf_22 rfl ?_
        refine cv_sameV (c_X12_high u v T o A tm tr p st S hT hA hR hJ x (by omega)) lkX12_high mlX12_127 dX12_openOf_23 (by decide) rfl rfl (by decide) rfl (Nat.le_of_ble_eq_true rfl) ⟨Nat.le_refl _, Nat.le_refl _⟩ ?_
        intro v w1 hq
        obtain ⟨rfl, rfl⟩ := hq
        refine cv_icmp_ge (tgt := 33) dX12_openOf_26 (by decide) (by omega) (fun h26 => ?_) (fun h26 => ?_)
        · refine cv_iload_n dX12_openOf_33 rfl ?_
          refine cv_istore_n dX12_openOf_34 (by decide) rfl rfl ?_
          refine cv_iinc dX12_openOf_35 (by decide) rfl rfl rfl ?_
          refine cv_goto (tgt := 10) dX12_openOf_38 (by decide) ?_
          refine cv_loc [0, 1, 2, 3] rfl ?_
          refine ih f (by omega) ?_
          rcases hf with ⟨e, h⟩ | ⟨j, e, j1, j2, j3, j4⟩
          · refine Or.inl ⟨e, fun j hj1 hj2 => ?_⟩
            by_cases z : j = x
            · subst z; omega
            · exact h j (by omega) hj2
          · refine Or.inr ⟨j, e, by omega, j2, j3, fun i hi1 hi2 => ?_⟩
            by_cases z : i = x
            · subst z; omega
            · exact j4 i (by omega) hi2
        · refine cv_iload_n dX12_openOf_29 rfl ?_
          refine cv_goto (tgt := 34) dX12_openOf_30 (by decide) ?_
          refine cv_istore_n dX12_openOf_34 (by decide) rfl rfl ?_
          refine cv_iinc dX12_openOf_35 (by decide) rfl rfl rfl ?_
          refine cv_goto (tgt := 10) dX12_openOf_38 (by decide) ?_
          refine cv_loc [0, 1, 2, 3] rfl ?_
          exact ih (x : Int) (by omega) (Or.inr ⟨x, rfl, Nat.le_refl _, by omega, by omega, fun i h1 h2 => absurd h2 (by omega)⟩)
  refine cv_bipush dX12_openOf_0 (by decide) ?_
  refine cv_istore_n dX12_openOf_2 (by decide) rfl rfl ?_
  refine cv_aload_n dX12_openOf_3 rfl ?_
  refine cv_getf flX12_65 dX12_openOf_4 rfl rfl ?_
  refine cv_iconst dX12_openOf_7 ?_
  refine cv_isub dX12_openOf_8 ?_
  refine cv_istore_n dX12_openOf_9 (by decide) rfl rfl ?_
  exact loop (tN T) (-9) (Nat.le_refl _) (Or.inl ⟨rfl, fun j h1 h2 => absurd h2 (by omega)⟩)
set_option maxRecDepth 100000 in
set_option maxHeartbeats 1000000 in
theorem c_X12_isSolved (u v : Nat) (T : ctT) (o : Nat → Int) (A : Nat → Nat → Int) (tm tr : Int) (p st : Nat → Int) (S : ctS) (hT : okT T) (hA : rT T A) (hR : Rep S p) (hJ : J T S)  : CM MX12_isSolved (5, 0, 0) [vR 0, vR 5] (wM u v T o A tm tr p st) (fun v1 w => v1 = some (vI (ct_i (fBk T S = -9 ∧ fOp T S = none))) ∧ w = wM u v T o A tm tr p st) := by
  refine CM.of (by decide) (Nat.le_of_ble_eq_true rfl) ?_
  show CV MX12_isSolved (5, 0, 0) 19 (0, 0) 0 [(0, vR 0), (1, vR 5)] [] (wM u v T o A tm tr p st) _
  have hb := fBk_r hT (J_g hT hJ).1
  have ho : -9 ≤ ct_o (-9) (fOp T S) ∧ ct_o (-9) (fOp T S) ≤ 4 ∧ (ct_o (-9) (fOp T S) = -9 ↔ fOp T S = none) := by
    cases e : fOp T S with
    | none => simp [ct_o]
    | some x =>
      have h1 := fOp_lt e
      have := hT.2.1
      simp only [ct_o]
      refine ⟨by omega, by omega, ⟨fun h => by omega, fun h => by cases h⟩⟩
  refine cv_aload_n dX12_isSolved_0 rfl ?_
  refine cv_aload_n dX12_isSolved_1 rfl ?_
  refine cv_sameV (c_X12_breakOf u v T o A tm tr p st S hT hA hR hJ) lkX12_breakOf mlX12_176 dX12_isSolved_2 (by decide) rfl rfl (by decide) rfl (Nat.le_of_ble_eq_true rfl) ⟨Nat.le_refl _, Nat.le_refl _⟩ ?_
  intro v w1 hq
  obtain ⟨rfl, rfl⟩ := hq
  refine cv_bipush dX12_isSolved_5 (by decide) ?_
  refine cv_icmp_ne (tgt := 24) dX12_isSolved_7 (by decide) (by omega) (fun h7 => ?_) (fun h7 => ?_)
  · refine cv_iconst dX12_isSolved_24 ?_
    refine cv_zret rfl dX12_isSolved_25 ⟨Nat.le_refl _, Nat.le_refl _⟩ (by omega) ⟨ct_rI (ct_i_f (fun z => h7 z.1)).symm, rfl⟩
  · refine cv_aload_n dX12_isSolved_10 rfl ?_
    refine cv_aload_n dX12_isSolved_11 rfl ?_
    refine cv_sameV (c_X12_openOf u v T o A tm tr p st S hT hA hR hJ) lkX12_openOf mlX12_235 dX12_isSolved_12 (by decide) rfl rfl (by decide) rfl (Nat.le_of_ble_eq_true rfl) ⟨Nat.le_refl _, Nat.le_refl _⟩ ?_
    intro v w1 hq
    obtain ⟨rfl, rfl⟩ := hq
    refine cv_bipush dX12_isSolved_15 (by decide) ?_
    refine cv_icmp_ne (tgt := 24) dX12_isSolved_17 (by decide) (by omega) (fun h17 => ?_) (fun h17 => ?_)
    · refine cv_iconst dX12_isSolved_24 ?_
      refine cv_zret rfl dX12_isSolved_25 ⟨Nat.le_refl _, Nat.le_refl _⟩ (by omega) ⟨ct_rI (ct_i_f (fun z => h17 (ho.2.2.mpr z.2))).symm, rfl⟩
    · refine cv_iconst dX12_isSolved_20 ?_
      refine cv_goto (tgt := 25) dX12_isSolved_21 (by decide) ?_
      refine cv_zret rfl dX12_isSolved_25 ⟨Nat.le_refl _, Nat.le_refl _⟩ (by omega) ⟨ct_rI (ct_i_t ⟨h7, ho.2.2.mp h17⟩).symm, rfl⟩
