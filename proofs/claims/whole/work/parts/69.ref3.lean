set_option maxRecDepth 100000 in
set_option maxHeartbeats 1000000 in
theorem c_X12_make (T : ctT) (S : ctS) (n : Nat) (D : Nat → ctS) (y : ctY) (K : ctK) (sd : Int) (o : Nat → Int) (A : Nat → Nat → Int) (tm tr : Int) (p st : Nat → Int) (hT : okT T) (hI : I2 T S) (hst : stR st) (hM : RM T S n D y K sd o A p) (a s q : Int) (ar : -2147483648 ≤ a ∧ a ≤ 2147483647) (sr : -2147483648 ≤ s ∧ s ≤ 2147483647) (qr : -2147483648 ≤ q ∧ q ≤ 2147483647) (hD : ∀ i, i < n → J T (D i)) (D' : Nat → ctS) (hD1 : ∀ q, Rep S q → Rep (D' (fAi n)) q) (hD2 : ∀ i, i < fAi n → D' i = D (if n < 14 then i else i + 1)) : CM MX12_make (8, 0, 0) [vR 0, vI a, vI s, vI q] (wM 5 6 T o A tm tr p st) (fun v1 w => (∀ i, gMa T S a s q = some i → v1 = some (vI i) ∧ QM T S n D y K sd w) ∧ (gMa T S a s q = none → v1 = some (vI (sZ (fMade T S (mkO a s q)) : Nat)) ∧ QM T (fMade T S (mkO a s q)) (fAi n + 1) D' y K sd w)) := by
  refine CM.of (by decide) (Nat.le_of_ble_eq_true rfl) ?_
  show CV MX12_make (8, 0, 0) 19 (0, 0) 0 [(0, vR 0), (1, vI a), (2, vI s), (3, vI q)] [] (wM 5 6 T o A tm tr p st) _
  have hJ := hI.1.1
  have hg := J_g hT hJ
  have hZ := hg.1.1
  have hN := hT.2.1
  have hN1 := hT.1
  have hR6 := hT.2.2.1
  have hC40 := hJ.2.1.2.2.1
  have hA := hM.1
  have hR := hM.2.1
  refine cv_aload_n dX12_make_0 rfl ?_
  refine cv_iload_n dX12_make_1 rfl ?_
  refine cv_sameV (c_X12_isNumber 5 6 T o A tm tr p st hT a (by omega)) lkX12_isNumber mlX12_247 dX12_make_2 (by decide) rfl rfl (by decide) rfl (Nat.le_of_ble_eq_true rfl) ⟨Nat.le_refl _, Nat.le_refl _⟩ ?_
  intro v w1 hq
  obtain ⟨rfl, rfl⟩ := hq
  have i2 := ct_i_r (0 ≤ a ∧ a < (tN T : Int))
  refine cv_if_ne (tgt := 10) dX12_make_5 (by decide) (by omega) (fun h5 => ?_) (fun h5 => ?_)
  · have ca : 0 ≤ a ∧ a < (tN T : Int) := ct_i_1.mp (by omega)
    refine cv_iload_n dX12_make_10 rfl ?_
    refine cv_i2l dX12_make_11 (by omega) ?_
    refine cv_lconst (v := 0) dX12_make_12 (by decide) ?_
    refine cv_lconst (v := 1) dX12_make_13 (by decide) ?_
    refine cv_sameS (c_X12_in (wM 5 6 T o A tm tr p st) s 0 1 (by omega) (by omega) (by omega)) lkX12_in mlX12_69 dX12_make_14 (by decide) rfl rfl (Nat.le_of_ble_eq_true rfl) ⟨Nat.le_refl _, Nat.le_refl _⟩ ?_
    intro v w1 hq
    obtain ⟨rfl, rfl⟩ := hq
    have i14 := ct_i_r (0 ≤ s ∧ s ≤ 1)
    refine cv_if_eq (tgt := 32) dX12_make_17 (by decide) (by omega) (fun h17 => ?_) (fun h17 => ?_)
    · have cs : ¬ (0 ≤ s ∧ s ≤ 1) := ct_i_0.mp (by omega)
      refine cv_bipush dX12_make_32 (by decide) ?_
      refine cv_iret rfl dX12_make_34 ⟨Nat.le_refl _, Nat.le_refl _⟩ ⟨fun i hi => by rw [show gMa T S a s q = some (-2) by unfold gMa; rw [if_neg (by omega), if_pos (by omega)]] at hi; cases Option.some.inj hi; exact ⟨rfl, ⟨o, A, tm, tr, p, st, rfl, hst, hM⟩⟩, fun hi => by rw [show gMa T S a s q = some (-2) by unfold gMa; rw [if_neg (by omega), if_pos (by omega)]] at hi; cases hi⟩
    · have cs : 0 ≤ s ∧ s ≤ 1 := ct_i_1.mp (by omega)
      refine cv_iload_n dX12_make_20 rfl ?_
      refine cv_i2l dX12_make_21 (by omega) ?_
      refine cv_lconst (v := 0) dX12_make_22 (by decide) ?_
      refine cv_ldc2 dX12_make_23 kcX12_83 ?_
      refine cv_sameS (c_X12_in (wM 5 6 T o A tm tr p st) q 0 9 (by omega) (by omega) (by omega)) lkX12_in mlX12_69 dX12_make_26 (by decide) rfl rfl (Nat.le_of_ble_eq_true rfl) ⟨Nat.le_refl _, Nat.le_refl _⟩ ?_
      intro v w1 hq
      obtain ⟨rfl, rfl⟩ := hq
      have i26 := ct_i_r (0 ≤ q ∧ q ≤ 9)
      refine cv_if_ne (tgt := 35) dX12_make_29 (by decide) (by omega) (fun h29 => ?_) (fun h29 => ?_)
      · have cq : 0 ≤ q ∧ q ≤ 9 := ct_i_1.mp (by omega)
        have ho : okM T (mkO a s q) := by unfold okM mkO; omega
        have hm : okm (mkO a s q) := by unfold okm mkO; omega
        refine cv_aload_n dX12_make_35 rfl ?_
        refine cv_aload_n dX12_make_36 rfl ?_
        refine cv_getf flX12_22 dX12_make_37 rfl rfl ?_
        refine cv_iload_n dX12_make_40 rfl ?_
        refine cv_iload_n dX12_make_41 rfl ?_
        refine cv_iload_n dX12_make_42 rfl ?_
        refine cv_sameS (c_X12_codeOf (wM 5 6 T o A tm tr p st) a s q) lkX12_codeOf mlX12_130 dX12_make_43 (by decide) rfl rfl (Nat.le_of_ble_eq_true rfl) ⟨Nat.le_refl _, Nat.le_refl _⟩ ?_
        intro v w1 hq
        obtain ⟨rfl, rfl⟩ := hq
        refine cv_sameV (c_X12_mayMake 5 6 T o A tm tr p st S hT hM.1 hM.2.1 hI.1.1 (mkO a s q) ho) lkX12_mayMake mlX12_283 dX12_make_46 (by decide) rfl rfl (by decide) rfl (Nat.le_of_ble_eq_true rfl) ⟨Nat.le_refl _, Nat.le_refl _⟩ ?_
        intro v w1 hq
        obtain ⟨rfl, rfl⟩ := hq
        have im := ct_i_r (mkP T S (mkO a s q))
        have ga : gMa T S a s q = @ite _ (mkP T S (mkO a s q)) (Classical.propDecidable _) none (some (-3)) := by unfold gMa; rw [if_neg (by omega), if_neg (by omega)]
        refine cv_if_ne (tgt := 55) dX12_make_49 (by decide) (by omega) (fun h49 => ?_) (fun h49 => ?_)
        · have cm : mkP T S (mkO a s q) := ct_i_1.mp (by omega)
          rw [if_pos cm] at ga
          refine cv_aload_n dX12_make_55 rfl ?_
          refine cv_sameV (c_X12_note T o A tm tr p st n hM.2.2.2.1.1 hM.2.2.2.1.2.1 ⟨hM.2.2.2.1.2.2.1, hM.2.2.2.1.2.2.2.1⟩) lkX12_note mlX12_286 dX12_make_56 (by decide) rfl rfl (by decide) rfl (Nat.le_of_ble_eq_true rfl) ⟨Nat.le_refl _, Nat.le_refl _⟩ ?_
          intro v w1 hq
          obtain ⟨rfl, rfl⟩ := hq
          have hM2 := RM_note hT hI hM hD hD1 hD2
          refine cv_aload_n dX12_make_59 rfl ?_
          refine cv_aload_n dX12_make_60 rfl ?_
          refine cv_getf flX12_22 dX12_make_61 rfl rfl ?_
          refine cv_iload_n dX12_make_64 rfl ?_
          refine cv_iload_n dX12_make_65 rfl ?_
          refine cv_iload_n dX12_make_66 rfl ?_
          refine cv_sameS (c_X12_codeOf (wM 5 6 T (upA (upA o 2 ((o 2 + 1) % 14)) 1 ((fAi n + 1 : Nat) : Int)) (upA A 7 (cpR (A 7) p (471 * (o 2).toNat) 471)) tm tr p st) a s q) lkX12_codeOf mlX12_130 dX12_make_67 (by decide) rfl rfl (Nat.le_of_ble_eq_true rfl) ⟨Nat.le_refl _, Nat.le_refl _⟩ ?_
          intro v w1 hq
          obtain ⟨rfl, rfl⟩ := hq
          refine cv_sameV (c_X12_makeOn 5 6 T (upA (upA o 2 ((o 2 + 1) % 14)) 1 ((fAi n + 1 : Nat) : Int)) (upA A 7 (cpR (A 7) p (471 * (o 2).toNat) 471)) tm tr p st S hT hM2.1 hM2.2.1 hJ (mkO a s q) hm cm) lkX12_makeOn mlX12_241 dX12_make_70 (by decide) rfl rfl (by decide) rfl (Nat.le_of_ble_eq_true rfl) ⟨Nat.le_refl _, Nat.le_refl _⟩ ?_
          intro v w1 hq
          obtain ⟨tm1, tr1, p1, rfl, rfl, hp1⟩ := hq
          refine cv_aload_n dX12_make_73 rfl ?_
          refine cv_getf flX12_22 dX12_make_74 rfl rfl ?_
          refine cv_iconst dX12_make_77 ?_
          refine cv_ialj (0) dX12_make_78 rfl (by omega) (by omega) ?_
          rw [hp1.1]
          refine cv_iret rfl dX12_make_79 ⟨Nat.le_refl _, Nat.le_refl _⟩ ⟨fun i hi => (by rw [ga] at hi; cases hi), fun _ => ⟨rfl, (upA (upA o 2 ((o 2 + 1) % 14)) 1 ((fAi n + 1 : Nat) : Int)), (upA A 7 (cpR (A 7) p (471 * (o 2).toNat) 471)), tm1, tr1, p1, st, rfl, hst, RM_now hM2 hp1⟩⟩
        · have cm : ¬ mkP T S (mkO a s q) := ct_i_0.mp (by omega)
          rw [if_neg cm] at ga
          refine cv_bipush dX12_make_52 (by decide) ?_
          refine cv_iret rfl dX12_make_54 ⟨Nat.le_refl _, Nat.le_refl _⟩ ⟨fun i hi => by rw [ga] at hi; cases Option.some.inj hi; exact ⟨rfl, ⟨o, A, tm, tr, p, st, rfl, hst, hM⟩⟩, fun hi => by rw [ga] at hi; cases hi⟩
      · have cq : ¬ (0 ≤ q ∧ q ≤ 9) := ct_i_0.mp (by omega)
        refine cv_bipush dX12_make_32 (by decide) ?_
        refine cv_iret rfl dX12_make_34 ⟨Nat.le_refl _, Nat.le_refl _⟩ ⟨fun i hi => by rw [show gMa T S a s q = some (-2) by unfold gMa; rw [if_neg (by omega), if_pos (by omega)]] at hi; cases Option.some.inj hi; exact ⟨rfl, ⟨o, A, tm, tr, p, st, rfl, hst, hM⟩⟩, fun hi => by rw [show gMa T S a s q = some (-2) by unfold gMa; rw [if_neg (by omega), if_pos (by omega)]] at hi; cases hi⟩
  · have ca : ¬ (0 ≤ a ∧ a < (tN T : Int)) := ct_i_0.mp (by omega)
    refine cv_iconst dX12_make_8 ?_
    refine cv_iret rfl dX12_make_9 ⟨Nat.le_refl _, Nat.le_refl _⟩ ⟨fun i hi => by rw [show gMa T S a s q = some (-1) by unfold gMa; rw [if_pos ca]] at hi; cases Option.some.inj hi; exact ⟨rfl, ⟨o, A, tm, tr, p, st, rfl, hst, hM⟩⟩, fun hi => by rw [show gMa T S a s q = some (-1) by unfold gMa; rw [if_pos ca]] at hi; cases hi⟩
set_option maxRecDepth 100000 in
set_option maxHeartbeats 1000000 in
theorem c_X12_learn (T : ctT) (S : ctS) (n : Nat) (D : Nat → ctS) (y : ctY) (K : ctK) (sd : Int) (o : Nat → Int) (A : Nat → Nat → Int) (tm tr : Int) (p st : Nat → Int) (hT : okT T) (hI : I2 T S) (hst : stR st) (hM : RM T S n D y K sd o A p)   (hD : ∀ i, i < n → J T (D i)) (D' : Nat → ctS) (hD1 : ∀ q, Rep S q → Rep (D' (fAi n)) q) (hD2 : ∀ i, i < fAi n → D' i = D (if n < 14 then i else i + 1)) : CM MX12_learn (8, 0, 0) [vR 0] (wM 5 6 T o A tm tr p st) (fun v1 w => (lnP T S → v1 = some (vI (fLz T S)) ∧ QM T (fLn T S) (fAi n + 1) D' y K sd w) ∧ (¬ lnP T S → v1 = some (vI (-3)) ∧ QM T S n D y K sd w)) := by
  refine CM.of (by decide) (Nat.le_of_ble_eq_true rfl) ?_
  show CV MX12_learn (8, 0, 0) 19 (0, 0) 0 [(0, vR 0)] [] (wM 5 6 T o A tm tr p st) _
  have hJ := hI.1.1
  have hg := J_g hT hJ
  have hZ := hg.1.1
  have hN := hT.2.1
  have hN1 := hT.1
  have hR6 := hT.2.2.1
  have hC40 := hJ.2.1.2.2.1
  have hA := hM.1
  have hR := hM.2.1
  have il := ct_i_r (lnP T S)
  refine cv_aload_n dX12_learn_0 rfl ?_
  refine cv_aload_n dX12_learn_1 rfl ?_
  refine cv_getf flX12_22 dX12_learn_2 rfl rfl ?_
  refine cv_sameV (c_X12_mayLearn 5 6 T o A tm tr p st S hT hM.1 hM.2.1 hI.1.1) lkX12_mayLearn mlX12_289 dX12_learn_5 (by decide) rfl rfl (by decide) rfl (Nat.le_of_ble_eq_true rfl) ⟨Nat.le_refl _, Nat.le_refl _⟩ ?_
  intro v w1 hq
  obtain ⟨rfl, rfl⟩ := hq
  refine cv_if_ne (tgt := 14) dX12_learn_8 (by decide) (by omega) (fun h8 => ?_) (fun h8 => ?_)
  · have cl : lnP T S := ct_i_1.mp (by omega)
    refine cv_aload_n dX12_learn_14 rfl ?_
    refine cv_sameV (c_X12_note T o A tm tr p st n hM.2.2.2.1.1 hM.2.2.2.1.2.1 ⟨hM.2.2.2.1.2.2.1, hM.2.2.2.1.2.2.2.1⟩) lkX12_note mlX12_286 dX12_learn_15 (by decide) rfl rfl (by decide) rfl (Nat.le_of_ble_eq_true rfl) ⟨Nat.le_refl _, Nat.le_refl _⟩ ?_
    intro v w1 hq
    obtain ⟨rfl, rfl⟩ := hq
    have hM2 := RM_note hT hI hM hD hD1 hD2
    refine cv_aload_n dX12_learn_18 rfl ?_
    refine cv_aload_n dX12_learn_19 rfl ?_
    refine cv_getf flX12_22 dX12_learn_20 rfl rfl ?_
    refine cv_sameV (c_X12_learnOn 5 6 T (upA (upA o 2 ((o 2 + 1) % 14)) 1 ((fAi n + 1 : Nat) : Int)) (upA A 7 (cpR (A 7) p (471 * (o 2).toNat) 471)) tm tr p st S hT hM2.1 hM2.2.1 hJ hI.2.1 cl.2) lkX12_learnOn mlX12_238 dX12_learn_23 (by decide) rfl rfl (by decide) rfl (Nat.le_of_ble_eq_true rfl) ⟨Nat.le_refl _, Nat.le_refl _⟩ ?_
    intro v w1 hq
    obtain ⟨tm1, tr1, p1, st1, rfl, rfl, hp1, hs1⟩ := hq
    refine cv_iret rfl dX12_learn_26 ⟨Nat.le_refl _, Nat.le_refl _⟩ ⟨fun _ => ⟨rfl, (upA (upA o 2 ((o 2 + 1) % 14)) 1 ((fAi n + 1 : Nat) : Int)), (upA A 7 (cpR (A 7) p (471 * (o 2).toNat) 471)), tm1, tr1, p1, st1, rfl, hs1, RM_now hM2 hp1⟩, fun z => absurd cl z⟩
  · have cl : ¬ lnP T S := ct_i_0.mp (by omega)
    refine cv_bipush dX12_learn_11 (by decide) ?_
    refine cv_iret rfl dX12_learn_13 ⟨Nat.le_refl _, Nat.le_refl _⟩ ⟨fun z => absurd z cl, fun _ => ⟨rfl, ⟨o, A, tm, tr, p, st, rfl, hst, hM⟩⟩⟩
set_option maxRecDepth 100000 in
set_option maxHeartbeats 1000000 in
theorem c_X12_leave (T : ctT) (S : ctS) (n : Nat) (D : Nat → ctS) (y : ctY) (K : ctK) (sd : Int) (o : Nat → Int) (A : Nat → Nat → Int) (tm tr : Int) (p st : Nat → Int) (hT : okT T) (hI : I2 T S) (hst : stR st) (hM : RM T S n D y K sd o A p)   (hD : ∀ i, i < n → J T (D i)) (D' : Nat → ctS) (hD1 : ∀ q, Rep S q → Rep (D' (fAi n)) q) (hD2 : ∀ i, i < fAi n → D' i = D (if n < 14 then i else i + 1)) : CM MX12_leave (7, 0, 0) [vR 0] (wM 5 6 T o A tm tr p st) (fun v1 w => (¬ fLv S = 0 → v1 = some (vI (fLv (fDraw T (fUp T S (fLv S - 1))))) ∧ QM T (fDraw T (fUp T S (fLv S - 1))) (fAi n + 1) D' y K sd w) ∧ (fLv S = 0 → v1 = some (vI (-3)) ∧ QM T S n D y K sd w)) := by
  refine CM.of (by decide) (Nat.le_of_ble_eq_true rfl) ?_
  show CV MX12_leave (7, 0, 0) 19 (0, 0) 0 [(0, vR 0)] [] (wM 5 6 T o A tm tr p st) _
  have hJ := hI.1.1
  have hg := J_g hT hJ
  have hZ := hg.1.1
  have hN := hT.2.1
  have hN1 := hT.1
  have hR6 := hT.2.2.1
  have hC40 := hJ.2.1.2.2.1
  have hA := hM.1
  have hR := hM.2.1
  have hlv : 0 ≤ fLv S ∧ fLv S ≤ 100 := by
    unfold fLv
    split
    · omega
    · have := hJ.2.1.1 (sZ S - 1) (by omega); omega
  refine cv_aload_n dX12_leave_0 rfl ?_
  refine cv_aload_n dX12_leave_1 rfl ?_
  refine cv_getf flX12_22 dX12_leave_2 rfl rfl ?_
  refine cv_sameV (c_X12_levelOf 5 6 T o A tm tr p st S hT hM.1 hM.2.1 hI.1.1) lkX12_levelOf mlX12_184 dX12_leave_5 (by decide) rfl rfl (by decide) rfl (Nat.le_of_ble_eq_true rfl) ⟨Nat.le_refl _, Nat.le_refl _⟩ ?_
  intro v w1 hq
  obtain ⟨rfl, rfl⟩ := hq
  refine cv_istore_n dX12_leave_8 (by decide) rfl rfl ?_
  refine cv_iload_n dX12_leave_9 rfl ?_
  refine cv_if_ne (tgt := 16) dX12_leave_10 (by decide) (by omega) (fun h10 => ?_) (fun h10 => ?_)
  · refine cv_aload_n dX12_leave_16 rfl ?_
    refine cv_sameV (c_X12_note T o A tm tr p st n hM.2.2.2.1.1 hM.2.2.2.1.2.1 ⟨hM.2.2.2.1.2.2.1, hM.2.2.2.1.2.2.2.1⟩) lkX12_note mlX12_286 dX12_leave_17 (by decide) rfl rfl (by decide) rfl (Nat.le_of_ble_eq_true rfl) ⟨Nat.le_refl _, Nat.le_refl _⟩ ?_
    intro v w1 hq
    obtain ⟨rfl, rfl⟩ := hq
    have hM2 := RM_note hT hI hM hD hD1 hD2
    refine cv_aload_n dX12_leave_20 rfl ?_
    refine cv_aload_n dX12_leave_21 rfl ?_
    refine cv_getf flX12_22 dX12_leave_22 rfl rfl ?_
    refine cv_iload_n dX12_leave_25 rfl ?_
    refine cv_iconst dX12_leave_26 ?_
    refine cv_isub dX12_leave_27 ?_
    refine cv_sameV (c_X12_leaveAbove 5 6 T (upA (upA o 2 ((o 2 + 1) % 14)) 1 ((fAi n + 1 : Nat) : Int)) (upA A 7 (cpR (A 7) p (471 * (o 2).toNat) 471)) tm tr p st S hT hM2.1 hM2.2.1 hJ (fLv S - 1) (by omega)) lkX12_leaveAbove mlX12_232 dX12_leave_28 (by decide) rfl rfl (by decide) rfl (Nat.le_of_ble_eq_true rfl) ⟨Nat.le_refl _, Nat.le_refl _⟩ ?_
    intro v w1 hq
    obtain ⟨p1, rfl, rfl, hp1⟩ := hq
    have J1 := J_up (T := T) hJ (fLv S - 1)
    refine cv_aload_n dX12_leave_31 rfl ?_
    refine cv_aload_n dX12_leave_32 rfl ?_
    refine cv_getf flX12_22 dX12_leave_33 rfl rfl ?_
    refine cv_sameV (c_X12_drawIn 5 6 T (upA (upA o 2 ((o 2 + 1) % 14)) 1 ((fAi n + 1 : Nat) : Int)) (upA A 7 (cpR (A 7) p (471 * (o 2).toNat) 471)) tm tr p1 st (fUp T S (fLv S - 1)) hT hM2.1 hp1 J1) lkX12_drawIn mlX12_191 dX12_leave_36 (by decide) rfl rfl (by decide) rfl (Nat.le_of_ble_eq_true rfl) ⟨Nat.le_refl _, Nat.le_refl _⟩ ?_
    intro v w1 hq
    obtain ⟨tm1, tr1, p2, rfl, rfl, hp2⟩ := hq
    refine cv_aload_n dX12_leave_39 rfl ?_
    refine cv_aload_n dX12_leave_40 rfl ?_
    refine cv_getf flX12_22 dX12_leave_41 rfl rfl ?_
    refine cv_sameV (c_X12_levelOf 5 6 T (upA (upA o 2 ((o 2 + 1) % 14)) 1 ((fAi n + 1 : Nat) : Int)) (upA A 7 (cpR (A 7) p (471 * (o 2).toNat) 471)) tm1 tr1 p2 st (fDraw T (fUp T S (fLv S - 1))) hT hM2.1 hp2 (J_draw hT J1)) lkX12_levelOf mlX12_184 dX12_leave_44 (by decide) rfl rfl (by decide) rfl (Nat.le_of_ble_eq_true rfl) ⟨Nat.le_refl _, Nat.le_refl _⟩ ?_
    intro v w1 hq
    obtain ⟨rfl, rfl⟩ := hq
    refine cv_iret rfl dX12_leave_47 ⟨Nat.le_refl _, Nat.le_refl _⟩ ⟨fun _ => ⟨rfl, (upA (upA o 2 ((o 2 + 1) % 14)) 1 ((fAi n + 1 : Nat) : Int)), (upA A 7 (cpR (A 7) p (471 * (o 2).toNat) 471)), tm1, tr1, p2, st, rfl, hst, RM_now hM2 hp2⟩, fun z => absurd z h10⟩
  · refine cv_bipush dX12_leave_13 (by decide) ?_
    refine cv_iret rfl dX12_leave_15 ⟨Nat.le_refl _, Nat.le_refl _⟩ ⟨fun z => absurd h10 z, fun _ => ⟨rfl, ⟨o, A, tm, tr, p, st, rfl, hst, hM⟩⟩⟩
set_option maxRecDepth 100000 in
set_option maxHeartbeats 1000000 in
theorem c_X12_run (T : ctT) (S : ctS) (n : Nat) (D : Nat → ctS) (y : ctY) (K : ctK) (sd : Int) (o : Nat → Int) (A : Nat → Nat → Int) (tm tr : Int) (p st : Nat → Int) (hT : okT T) (hI : I2 T S) (hst : stR st) (hM : RM T S n D y K sd o A p) (a : Int) (ar : -2147483648 ≤ a ∧ a ≤ 2147483647) (hD : ∀ i, i < n → J T (D i)) (D' : Nat → ctS) (hD1 : ∀ q, Rep S q → Rep (D' (fAi n)) q) (hD2 : ∀ i, i < fAi n → D' i = D (if n < 14 then i else i + 1)) : CM MX12_run (9, 0, 0) [vR 0, vI a] (wM 5 6 T o A tm tr p st) (fun v1 w => (1 ≤ a ∧ a ≤ 50 → v1 = some (vI ((fRun T a.toNat S).1 : Nat)) ∧ QM T (fRun T a.toNat S).2 (fAi n + 1) D' y K sd w) ∧ (a < 1 ∨ 50 < a → v1 = some (vI (-2)) ∧ QM T S n D y K sd w)) := by
  refine CM.of (by decide) (Nat.le_of_ble_eq_true rfl) ?_
  show CV MX12_run (9, 0, 0) 19 (0, 0) 0 [(0, vR 0), (1, vI a)] [] (wM 5 6 T o A tm tr p st) _
  have hJ := hI.1.1
  have hg := J_g hT hJ
  have hZ := hg.1.1
  have hN := hT.2.1
  have hN1 := hT.1
  have hR6 := hT.2.2.1
  have hC40 := hJ.2.1.2.2.1
  have hA := hM.1
  have hR := hM.2.1
  have loop : ∀ (k d : Nat) (S1 : ctS) (tm1 tr1 : Int) (p1 st1 : Nat → Int), rT T (upA A 7 (cpR (A 7) p (471 * (o 2).toNat) 471)) → RM T S (fAi n + 1) D' y K sd (upA (upA o 2 ((o 2 + 1) % 14)) 1 ((fAi n + 1 : Nat) : Int)) (upA A 7 (cpR (A 7) p (471 * (o 2).toNat) 471)) p → (1 ≤ a ∧ a ≤ 50) → a = ((d + k : Nat) : Int) → I2 T S1 → Rep S1 p1 → stR st1 → fRun T a.toNat S = (d + (fRun T k S1).1, (fRun T k S1).2) → CV MX12_run (9, 0, 0) 19 (0, 0) 21 [(0, vR 0), (1, vI a), (2, vI (d : Nat))] [] (wM 5 6 T (upA (upA o 2 ((o 2 + 1) % 14)) 1 ((fAi n + 1 : Nat) : Int)) (upA A 7 (cpR (A 7) p (471 * (o 2).toNat) 471)) tm1 tr1 p1 st1) (fun v1 w => (1 ≤ a ∧ a ≤ 50 → v1 = some (vI ((fRun T a.toNat S).1 : Nat)) ∧ QM T (fRun T a.toNat S).2 (fAi n + 1) D' y K sd w) ∧ (a < 1 ∨ 50 < a → v1 = some (vI (-2)) ∧ QM T S n D y K sd w)) := by
    intro k
    induction k with
    | zero =>
      intro d S1 tm1 tr1 p1 st1 hA2 hM2 ha hd hI1 hp1 hs1 he
      refine cv_iload_n dX12_run_21 rfl ?_
      refine cv_iload_n dX12_run_22 rfl ?_
      refine cv_icmp_ge (tgt := 62) dX12_run_23 (by decide) (by omega) (fun h23 => ?_) (fun h23 => ?_)
      · refine cv_iload_n dX12_run_62 rfl ?_
        refine cv_iret rfl dX12_run_63 ⟨Nat.le_refl _, Nat.le_refl _⟩ ⟨fun _ => ⟨ct_rI (by rw [he]; rfl), (upA (upA o 2 ((o 2 + 1) % 14)) 1 ((fAi n + 1 : Nat) : Int)), (upA A 7 (cpR (A 7) p (471 * (o 2).toNat) 471)), tm1, tr1, p1, st1, rfl, hs1, by rw [he]; exact RM_now hM2 (hp1)⟩, fun z => absurd z (by omega)⟩
      · exact absurd h23 (by omega)
    | succ k ih =>
      intro d S1 tm1 tr1 p1 st1 hA2 hM2 ha hd hI1 hp1 hs1 he
      have hH := hI1.1.1.2.1.2.2.2.2.2
      have is := ct_i_r (fBk T S1 = -9 ∧ fOp T S1 = none)
      have stop : (¬ sH S1 = 0 ∨ (fBk T S1 = -9 ∧ fOp T S1 = none)) → fRun T (k + 1) S1 = (0, S1) := fun z => by
        unfold fRun
        rw [stp_0 hI1 z, if_pos rfl]
      have go : sH S1 = 0 → ¬ (fBk T S1 = -9 ∧ fOp T S1 = none) → fRun T (k + 1) S1 = ((fRun T k (fStp T S1).2).1 + 1, (fRun T k (fStp T S1).2).2) := fun z1 z2 => by
        have := stp_1 hT hI1 z1 z2
        show (if (fStp T S1).1 = 0 then _ else _) = _
        rw [if_neg (by omega)]
      refine cv_iload_n dX12_run_21 rfl ?_
      refine cv_iload_n dX12_run_22 rfl ?_
      refine cv_icmp_ge (tgt := 62) dX12_run_23 (by decide) (by omega) (fun h23 => ?_) (fun h23 => ?_)
      · exact absurd h23 (by omega)
      · refine cv_aload_n dX12_run_26 rfl ?_
        refine cv_getf flX12_22 dX12_run_27 rfl rfl ?_
        refine cv_sipush dX12_run_30 (by decide) ?_
        refine cv_ialj (470) dX12_run_33 rfl (by omega) (by omega) ?_
        rw [hp1.2.2.2.2]
        refine cv_if_ne (tgt := 62) dX12_run_34 (by decide) (by omega) (fun h34 => ?_) (fun h34 => ?_)
        · refine cv_iload_n dX12_run_62 rfl ?_
          refine cv_iret rfl dX12_run_63 ⟨Nat.le_refl _, Nat.le_refl _⟩ ⟨fun _ => ⟨ct_rI (by rw [he]; rw [stop (Or.inl (by omega))]; rfl), (upA (upA o 2 ((o 2 + 1) % 14)) 1 ((fAi n + 1 : Nat) : Int)), (upA A 7 (cpR (A 7) p (471 * (o 2).toNat) 471)), tm1, tr1, p1, st1, rfl, hs1, by rw [he]; exact RM_now hM2 (by rw [stop (Or.inl (by omega))]; exact hp1)⟩, fun z => absurd z (by omega)⟩
        · refine cv_aload_n dX12_run_37 rfl ?_
          refine cv_aload_n dX12_run_38 rfl ?_
          refine cv_getf flX12_22 dX12_run_39 rfl rfl ?_
          refine cv_sameV (c_X12_isSolved 5 6 T (upA (upA o 2 ((o 2 + 1) % 14)) 1 ((fAi n + 1 : Nat) : Int)) (upA A 7 (cpR (A 7) p (471 * (o 2).toNat) 471)) tm1 tr1 p1 st1 S1 hT hA2 hp1 hI1.1.1) lkX12_isSolved mlX12_266 dX12_run_42 (by decide) rfl rfl (by decide) rfl (Nat.le_of_ble_eq_true rfl) ⟨Nat.le_refl _, Nat.le_refl _⟩ ?_
          intro v w1 hq
          obtain ⟨rfl, rfl⟩ := hq
          refine cv_if_ne (tgt := 62) dX12_run_45 (by decide) (by omega) (fun h45 => ?_) (fun h45 => ?_)
          · have cs : fBk T S1 = -9 ∧ fOp T S1 = none := ct_i_1.mp (by omega)
            refine cv_iload_n dX12_run_62 rfl ?_
            refine cv_iret rfl dX12_run_63 ⟨Nat.le_refl _, Nat.le_refl _⟩ ⟨fun _ => ⟨ct_rI (by rw [he]; rw [stop (Or.inr cs)]; rfl), (upA (upA o 2 ((o 2 + 1) % 14)) 1 ((fAi n + 1 : Nat) : Int)), (upA A 7 (cpR (A 7) p (471 * (o 2).toNat) 471)), tm1, tr1, p1, st1, rfl, hs1, by rw [he]; exact RM_now hM2 (by rw [stop (Or.inr cs)]; exact hp1)⟩, fun z => absurd z (by omega)⟩
          · have cs : ¬ (fBk T S1 = -9 ∧ fOp T S1 = none) := ct_i_0.mp (by omega)
            refine cv_aload_n dX12_run_48 rfl ?_
            refine cv_aload_n dX12_run_49 rfl ?_
            refine cv_getf flX12_22 dX12_run_50 rfl rfl ?_
            refine cv_sameV (c_X12_stepOn 5 6 T (upA (upA o 2 ((o 2 + 1) % 14)) 1 ((fAi n + 1 : Nat) : Int)) (upA A 7 (cpR (A 7) p (471 * (o 2).toNat) 471)) tm1 tr1 p1 st1 S1 hT hA2 hp1 hI1 (by omega) cs hs1) lkX12_stepOn mlX12_294 dX12_run_53 (by decide) rfl rfl (by decide) rfl (Nat.le_of_ble_eq_true rfl) ⟨Nat.le_refl _, Nat.le_refl _⟩ ?_
            intro v w1 hq
            obtain ⟨tm2, tr2, p2, st2, rfl, rfl, hp2, hs2⟩ := hq
            refine cv_iinc dX12_run_56 (by decide) rfl rfl rfl ?_
            refine cv_goto (tgt := 21) dX12_run_59 (by decide) ?_
            refine ih (d + 1) (fStp T S1).2 tm2 tr2 p2 st2 hA2 hM2 ha (by omega) (fStp_I (I2_good hT) hI1) hp2 hs2 ?_
            rw [he, go (by omega) cs]
            refine Prod.ext ?_ rfl
            show d + ((fRun T k (fStp T S1).2).1 + 1) = d + 1 + (fRun T k (fStp T S1).2).1
            omega
  refine cv_iload_n dX12_run_0 rfl ?_
  refine cv_i2l dX12_run_1 (by omega) ?_
  refine cv_lconst (v := 1) dX12_run_2 (by decide) ?_
  refine cv_ldc2 dX12_run_3 kcX12_292 ?_
  refine cv_sameS (c_X12_in (wM 5 6 T o A tm tr p st) a 1 50 (by omega) (by omega) (by omega)) lkX12_in mlX12_69 dX12_run_6 (by decide) rfl rfl (Nat.le_of_ble_eq_true rfl) ⟨Nat.le_refl _, Nat.le_refl _⟩ ?_
  intro v w1 hq
  obtain ⟨rfl, rfl⟩ := hq
  have i6 := ct_i_r (1 ≤ a ∧ a ≤ 50)
  refine cv_if_ne (tgt := 15) dX12_run_9 (by decide) (by omega) (fun h9 => ?_) (fun h9 => ?_)
  · have ca : 1 ≤ a ∧ a ≤ 50 := ct_i_1.mp (by omega)
    refine cv_aload_n dX12_run_15 rfl ?_
    refine cv_sameV (c_X12_note T o A tm tr p st n hM.2.2.2.1.1 hM.2.2.2.1.2.1 ⟨hM.2.2.2.1.2.2.1, hM.2.2.2.1.2.2.2.1⟩) lkX12_note mlX12_286 dX12_run_16 (by decide) rfl rfl (by decide) rfl (Nat.le_of_ble_eq_true rfl) ⟨Nat.le_refl _, Nat.le_refl _⟩ ?_
    intro v w1 hq
    obtain ⟨rfl, rfl⟩ := hq
    have hM2 := RM_note hT hI hM hD hD1 hD2
    refine cv_iconst dX12_run_19 ?_
    refine cv_istore_n dX12_run_20 (by decide) rfl rfl ?_
    exact loop a.toNat 0 S tm tr p st hM2.1 hM2 ca (by omega) hI hR hst (by rw [Nat.zero_add])
  · have ca : ¬ (1 ≤ a ∧ a ≤ 50) := ct_i_0.mp (by omega)
    refine cv_bipush dX12_run_12 (by decide) ?_
    refine cv_iret rfl dX12_run_14 ⟨Nat.le_refl _, Nat.le_refl _⟩ ⟨fun z => absurd z ca, fun _ => ⟨rfl, ⟨o, A, tm, tr, p, st, rfl, hst, hM⟩⟩⟩
set_option maxRecDepth 100000 in
set_option maxHeartbeats 1000000 in
theorem c_X12_undo (T : ctT) (S : ctS) (n : Nat) (D : Nat → ctS) (y : ctY) (K : ctK) (sd : Int) (o : Nat → Int) (A : Nat → Nat → Int) (tm tr : Int) (p st : Nat → Int) (hT : okT T) (hI : I2 T S) (hst : stR st) (hM : RM T S n D y K sd o A p)   (hD : ∀ i, i < n → J T (D i)) (S1 : ctS) (h1 : ∀ q, 1 ≤ n → Rep (D (n - 1)) q → Rep S1 q) : CM MX12_undo (0, 0, 0) [vR 0] (wM 5 6 T o A tm tr p st) (fun v1 w => (1 ≤ n → v1 = some (vI ((n - 1 : Nat) : Int)) ∧ QM T S1 (n - 1) D y K sd w) ∧ (n = 0 → v1 = some (vI (-3)) ∧ QM T S n D y K sd w)) := by
  refine CM.of (by decide) (Nat.le_of_ble_eq_true rfl) ?_
  show CV MX12_undo (0, 0, 0) 19 (0, 0) 0 [(0, vR 0)] [] (wM 5 6 T o A tm tr p st) _
  have hJ := hI.1.1
  have hg := J_g hT hJ
  have hZ := hg.1.1
  have hN := hT.2.1
  have hN1 := hT.1
  have hR6 := hT.2.2.1
  have hC40 := hJ.2.1.2.2.1
  have hA := hM.1
  have hR := hM.2.1
  obtain ⟨a1, a2, a3, a4, a5⟩ := hM.2.2.2.1
  have loop : ∀ (k : Nat) (i : Nat), (471 < i + k) → (i ≤ 471) → (1 ≤ n) → CV MX12_undo (0, 0, 0) 19 (0, 0) 38 [(0, vR 0), (1, vI i)] [] (wM 5 6 T (upA (upA o 1 (o 1 - 1)) 2 ((o 2 + 14 - 1) % 14)) A tm tr (cpR p (dgR A (((o 2 + 14 - 1) % 14).toNat)) 0 i) st) (fun v1 w => (1 ≤ n → v1 = some (vI ((n - 1 : Nat) : Int)) ∧ QM T S1 (n - 1) D y K sd w) ∧ (n = 0 → v1 = some (vI (-3)) ∧ QM T S n D y K sd w)) := by
    intro k
    induction k with
    | zero => intro i hk hi hn1; exact absurd hk (by omega)
    | succ k ih =>
      intro i hk hi hn1
      refine cv_iload_n dX12_undo_38 rfl ?_
      refine cv_sipush dX12_undo_39 (by decide) ?_
      refine cv_icmp_ge (tgt := 72) dX12_undo_42 (by decide) (by omega) (fun h42 => ?_) (fun h42 => ?_)
      · rw [show i = 471 by omega]
        refine cv_aload_n dX12_undo_72 rfl ?_
        refine cv_getf flX12_195 dX12_undo_73 rfl rfl ?_
        refine cv_iret rfl dX12_undo_76 ⟨Nat.le_refl _, Nat.le_refl _⟩ (by
        refine ⟨fun _ => ⟨ct_rI (by show o 1 - 1 = _; omega), (upA (upA o 1 (o 1 - 1)) 2 ((o 2 + 14 - 1) % 14)), A, tm, tr, _, st, rfl, hst, hM.1, ?_, hM.2.2.1, ⟨?_, by omega, ?_, ?_, fun i hi => ?_⟩, hM.2.2.2.2⟩, fun z => absurd z (by omega)⟩
        · refine h1 _ hn1 (Rep_ext hT (hD (n - 1) (by omega)) (a5 (n - 1) (by omega)) (fun j hj => ?_))
          unfold cpR
          rw [if_pos (by omega), Nat.sub_zero, show (((o 2 + 14 - 1) % 14).toNat) = ((o 2).toNat + 14 - n + (n - 1)) % 14 by omega]
        · show o 1 - 1 = ((n - 1 : Nat) : Int); omega
        · show 0 ≤ (o 2 + 14 - 1) % 14; omega
        · show (o 2 + 14 - 1) % 14 < 14; omega
        · have := a5 i (by omega)
          rw [show ((o 2).toNat + 14 - n + i) % 14 = ((((o 2 + 14 - 1) % 14).toNat) + 14 - (n - 1) + i) % 14 by omega] at this
          exact this)
      · refine cv_aload_n dX12_undo_45 rfl ?_
        refine cv_getf flX12_22 dX12_undo_46 rfl rfl ?_
        refine cv_iload_n dX12_undo_49 rfl ?_
        refine cv_aload_n dX12_undo_50 rfl ?_
        refine cv_getf flX12_28 dX12_undo_51 rfl rfl ?_
        refine cv_sipush dX12_undo_54 (by decide) ?_
        refine cv_aload_n dX12_undo_57 rfl ?_
        refine cv_getf flX12_280 dX12_undo_58 rfl rfl ?_
        refine cv_imul dX12_undo_61 ?_
        refine cv_iload_n dX12_undo_62 rfl ?_
        refine cv_iadd dX12_undo_63 ?_
        refine cv_ialj (471 * (((o 2 + 14 - 1) % 14).toNat) + i) dX12_undo_64 rfl (by show 471 * ((o 2 + 14 - 1) % 14) + (i : Int) = _; omega) (by omega) ?_
        refine cv_iasj (i) dX12_undo_65 rfl (by omega) (by omega) ?_
        refine cv_iinc dX12_undo_66 (by decide) rfl rfl rfl ?_
        refine cv_goto (tgt := 38) dX12_undo_69 (by decide) ?_
        have := ih (i + 1) (by omega) (by omega) hn1
        have e0 := cpR_s p (dgR A (((o 2 + 14 - 1) % 14).toNat)) 0 i
        rw [Nat.zero_add] at e0
        rw [← e0] at this
        exact this
  refine cv_aload_n dX12_undo_0 rfl ?_
  refine cv_getf flX12_195 dX12_undo_1 rfl rfl ?_
  refine cv_if_ne (tgt := 10) dX12_undo_4 (by decide) (by omega) (fun h4 => ?_) (fun h4 => ?_)
  · refine cv_aload_n dX12_undo_10 rfl ?_
    refine cv_dup dX12_undo_11 rfl ?_
    refine cv_getf flX12_195 dX12_undo_12 rfl rfl ?_
    refine cv_iconst dX12_undo_15 ?_
    refine cv_isub dX12_undo_16 ?_
    refine cv_putf fpX12_195 dX12_undo_17 rfl (Nat.le_of_ble_eq_true rfl) (fun _ => ⟨rfl, rfl⟩) ?_
    refine cv_aload_n dX12_undo_20 rfl ?_
    refine cv_aload_n dX12_undo_21 rfl ?_
    refine cv_getf flX12_280 dX12_undo_22 rfl rfl ?_
    refine cv_bipush dX12_undo_25 (by decide) ?_
    refine cv_iadd dX12_undo_27 ?_
    refine cv_iconst dX12_undo_28 ?_
    refine cv_isub dX12_undo_29 ?_
    refine cv_bipush dX12_undo_30 (by decide) ?_
    refine cv_irem dX12_undo_32 (by show 0 ≤ o 2 + 14 - 1 ∧ o 2 + 14 - 1 ≤ 2147483647 ∧ _; omega) ?_
    refine cv_putf fpX12_280 dX12_undo_33 rfl (Nat.le_of_ble_eq_true rfl) (fun _ => ⟨rfl, rfl⟩) ?_
    refine cv_iconst dX12_undo_36 ?_
    refine cv_istore_n dX12_undo_37 (by decide) rfl rfl ?_
    have := loop 472 0 (by omega) (by omega) (by omega)
    rw [cpR_0] at this
    exact this
  · refine cv_bipush dX12_undo_7 (by decide) ?_
    refine cv_iret rfl dX12_undo_9 ⟨Nat.le_refl _, Nat.le_refl _⟩ ⟨fun z => absurd z (by omega), fun _ => ⟨rfl, ⟨o, A, tm, tr, p, st, rfl, hst, hM⟩⟩⟩
set_option maxRecDepth 100000 in
set_option maxHeartbeats 1000000 in
theorem c_X12_keep (T : ctT) (S : ctS) (n : Nat) (D : Nat → ctS) (y : ctY) (K : ctK) (sd : Int) (o : Nat → Int) (A : Nat → Nat → Int) (tm tr : Int) (p st : Nat → Int) (hT : okT T) (hI : I2 T S) (hst : stR st) (hM : RM T S n D y K sd o A p) (a : Int) (ar : -2147483648 ≤ a ∧ a ≤ 2147483647) (hK : ∀ s, s < 2 → K.2.2 s = 1 → J T (kS K s)) : CM MX12_keep (1, 0, 0) [vR 0, vI a] (wM 5 6 T o A tm tr p st) (fun v1 w => v1 = some (vI (gKp S a K).1) ∧ QM T S n D y (gKp S a K).2 sd w) := by
  refine CM.of (by decide) (Nat.le_of_ble_eq_true rfl) ?_
  show CV MX12_keep (1, 0, 0) 19 (0, 0) 0 [(0, vR 0), (1, vI a)] [] (wM 5 6 T o A tm tr p st) _
  have hJ := hI.1.1
  have hg := J_g hT hJ
  have hZ := hg.1.1
  have hN := hT.2.1
  have hN1 := hT.1
  have hR6 := hT.2.2.1
  have hC40 := hJ.2.1.2.2.1
  have hA := hM.1
  have hR := hM.2.1
  have fin : 0 ≤ a ∧ a ≤ 1 → (gKp S a K).1 = (sZ S : Int) ∧ rmK (gKp S a K).2 (upA (upA A 9 (ct_up (A 9) a.toNat 1)) 8 (cpR (A 8) p (471 * a.toNat) 471)) := fun ca => by
    have hk := hM.2.2.2.2.1
    have e9 : (upA (upA A 9 (ct_up (A 9) a.toNat 1)) 8 (cpR (A 8) p (471 * a.toNat) 471)) 9 = ct_up (A 9) a.toNat 1 := rfl
    have e8 : (upA (upA A 9 (ct_up (A 9) a.toNat 1)) 8 (cpR (A 8) p (471 * a.toNat) 471)) 8 = cpR (A 8) p (471 * a.toNat) 471 := rfl
    have key : ∀ (K1 : ctK), K1.2.2 = ct_up K.2.2 a.toNat 1 → (∀ s, s < 2 → ¬ s = a.toNat → kS K1 s = kS K s) → (∃ V, kS K1 a.toNat = fCp V S) → rmK K1 (upA (upA A 9 (ct_up (A 9) a.toNat 1)) 8 (cpR (A 8) p (471 * a.toNat) 471)) := fun K1 h1 h2 h3 => by
      intro s hs
      rw [e9, e8, h1]
      by_cases e : s = a.toNat
      · subst e
        rw [ct_up_s, ct_up_s]
        refine ⟨rfl, Or.inr rfl, fun _ => ?_⟩
        obtain ⟨V, hV⟩ := h3
        rw [hV]
        refine Rep_cp hJ (Rep_ext hT hJ hR (fun j hj => ?_)) V
        unfold cpR
        rw [if_pos (by omega), Nat.add_sub_cancel_left]
      · rw [ct_up_n e, ct_up_n e, h2 s hs e]
        refine ⟨(hk s hs).1, (hk s hs).2.1, fun z => ?_⟩
        have h0 := (hk s hs).2.2 z
        have hr := h0
        exact Rep_ext hT (hK s hs z) h0 (fun j hj => by
          unfold cpR
          rw [if_neg (by omega)])
    rcases (show a = 0 ∨ a = 1 by omega) with rfl | rfl
    · exact ⟨rfl, key _ rfl (fun s hs e => by
        have : s = 1 := by
          have e' : ¬ s = 0 := e
          omega
        subst this; rfl) ⟨_, rfl⟩⟩
    · exact ⟨rfl, key _ rfl (fun s hs e => by
        have : s = 0 := by
          have e' : ¬ s = 1 := e
          omega
        subst this; rfl) ⟨_, rfl⟩⟩
  have loop : ∀ (k : Nat) (i : Nat), (471 < i + k) → (i ≤ 471) → (0 ≤ a ∧ a ≤ 1) → CV MX12_keep (1, 0, 0) 19 (0, 0) 21 [(0, vR 0), (1, vI a), (2, vI i)] [] (wM 5 6 T o (upA (upA A 9 (ct_up (A 9) a.toNat 1)) 8 (cpR (A 8) p (471 * a.toNat) i)) tm tr p st) (fun v1 w => v1 = some (vI (gKp S a K).1) ∧ QM T S n D y (gKp S a K).2 sd w) := by
    intro k
    induction k with
    | zero => intro i hk hi ca; exact absurd hk (by omega)
    | succ k ih =>
      intro i hk hi ca
      refine cv_iload_n dX12_keep_21 rfl ?_
      refine cv_sipush dX12_keep_22 (by decide) ?_
      refine cv_icmp_ge (tgt := 52) dX12_keep_25 (by decide) (by omega) (fun h25 => ?_) (fun h25 => ?_)
      · rw [show i = 471 by omega]
        refine cv_aload_n dX12_keep_52 rfl ?_
        refine cv_getf flX12_22 dX12_keep_53 rfl rfl ?_
        refine cv_iconst dX12_keep_56 ?_
        refine cv_ialj (0) dX12_keep_57 rfl (by omega) (by omega) ?_
        rw [hR.1]
        refine cv_iret rfl dX12_keep_58 ⟨Nat.le_refl _, Nat.le_refl _⟩ ⟨ct_rI (fin ca).1.symm, o, (upA (upA A 9 (ct_up (A 9) a.toNat 1)) 8 (cpR (A 8) p (471 * a.toNat) 471)), tm, tr, p, st, rfl, hst, hM.1, hM.2.1, hM.2.2.1, hM.2.2.2.1, (fin ca).2, hM.2.2.2.2.2⟩
      · refine cv_aload_n dX12_keep_28 rfl ?_
        refine cv_getf flX12_31 dX12_keep_29 rfl rfl ?_
        refine cv_sipush dX12_keep_32 (by decide) ?_
        refine cv_iload_n dX12_keep_35 rfl ?_
        refine cv_imul dX12_keep_36 ?_
        refine cv_iload_n dX12_keep_37 rfl ?_
        refine cv_iadd dX12_keep_38 ?_
        refine cv_aload_n dX12_keep_39 rfl ?_
        refine cv_getf flX12_22 dX12_keep_40 rfl rfl ?_
        refine cv_iload_n dX12_keep_43 rfl ?_
        refine cv_ialj (i) dX12_keep_44 rfl (by omega) (by omega) ?_
        refine cv_iasj (471 * a.toNat + i) dX12_keep_45 rfl (by omega) (by omega) ?_
        refine cv_iinc dX12_keep_46 (by decide) rfl rfl rfl ?_
        refine cv_goto (tgt := 21) dX12_keep_49 (by decide) ?_
        have := ih (i + 1) (by omega) (by omega) ca
        rw [← cpR_s] at this
        exact this
  refine cv_iload_n dX12_keep_0 rfl ?_
  refine cv_i2l dX12_keep_1 (by omega) ?_
  refine cv_lconst (v := 0) dX12_keep_2 (by decide) ?_
  refine cv_lconst (v := 1) dX12_keep_3 (by decide) ?_
  refine cv_sameS (c_X12_in (wM 5 6 T o A tm tr p st) a 0 1 (by omega) (by omega) (by omega)) lkX12_in mlX12_69 dX12_keep_4 (by decide) rfl rfl (Nat.le_of_ble_eq_true rfl) ⟨Nat.le_refl _, Nat.le_refl _⟩ ?_
  intro v w1 hq
  obtain ⟨rfl, rfl⟩ := hq
  have i4 := ct_i_r (0 ≤ a ∧ a ≤ 1)
  refine cv_if_ne (tgt := 12) dX12_keep_7 (by decide) (by omega) (fun h7 => ?_) (fun h7 => ?_)
  · have ca : 0 ≤ a ∧ a ≤ 1 := ct_i_1.mp (by omega)
    refine cv_aload_n dX12_keep_12 rfl ?_
    refine cv_getf flX12_34 dX12_keep_13 rfl rfl ?_
    refine cv_iload_n dX12_keep_16 rfl ?_
    refine cv_iconst dX12_keep_17 ?_
    refine cv_zasj (a.toNat) dX12_keep_18 rfl (by omega) (by omega) (by omega) ?_
    refine cv_iconst dX12_keep_19 ?_
    refine cv_istore_n dX12_keep_20 (by decide) rfl rfl ?_
    have := loop 472 0 (by omega) (by omega) ca
    rw [cpR_0] at this
    exact this
  · have ca : ¬ (0 ≤ a ∧ a ≤ 1) := ct_i_0.mp (by omega)
    refine cv_iconst dX12_keep_10 ?_
    refine cv_iret rfl dX12_keep_11 ⟨Nat.le_refl _, Nat.le_refl _⟩ (by
      have e0 : gKp S a K = (-1, K) := by unfold gKp; rw [if_neg (by omega), if_neg (by omega)]
      rw [e0]
      exact ⟨rfl, ⟨o, A, tm, tr, p, st, rfl, hst, hM⟩⟩)
set_option maxRecDepth 100000 in
set_option maxHeartbeats 1000000 in
theorem c_X12_again (T : ctT) (S : ctS) (n : Nat) (D : Nat → ctS) (y : ctY) (K : ctK) (sd : Int) (o : Nat → Int) (A : Nat → Nat → Int) (tm tr : Int) (p st : Nat → Int) (hT : okT T) (hI : I2 T S) (hst : stR st) (hM : RM T S n D y K sd o A p) (a : Int) (ar : -2147483648 ≤ a ∧ a ≤ 2147483647) (hK : ∀ s, s < 2 → K.2.2 s = 1 → J T (kS K s)) : CM MX12_again (1, 0, 0) [vR 0, vI a] (wM 5 6 T o A tm tr p st) (fun v1 w => v1 = some (vI (gAg S n a K).1) ∧ QM T (gAg S n a K).2.1 (gAg S n a K).2.2 D y K sd w) := by
  refine CM.of (by decide) (Nat.le_of_ble_eq_true rfl) ?_
  show CV MX12_again (1, 0, 0) 19 (0, 0) 0 [(0, vR 0), (1, vI a)] [] (wM 5 6 T o A tm tr p st) _
  have hJ := hI.1.1
  have hg := J_g hT hJ
  have hZ := hg.1.1
  have hN := hT.2.1
  have hN1 := hT.1
  have hR6 := hT.2.2.1
  have hC40 := hJ.2.1.2.2.1
  have hA := hM.1
  have hR := hM.2.1
  have hk := hM.2.2.2.2.1
  have fin : 0 ≤ a ∧ a ≤ 1 → K.2.2 a.toNat = 1 → (cpR p (fun j => A 8 (471 * a.toNat + j)) 0 471) 0 = (gAg S n a K).1 ∧ (gAg S n a K).2.2 = 0 ∧ Rep (gAg S n a K).2.1 (cpR p (fun j => A 8 (471 * a.toNat + j)) 0 471) := fun ca hf => by
    have hJk := hK a.toNat (by omega) hf
    have hr : Rep (kS K a.toNat) (cpR p (fun j => A 8 (471 * a.toNat + j)) 0 471) := Rep_ext hT hJk ((hk a.toNat (by omega)).2.2 hf) (fun j hj => by
      unfold cpR
      rw [if_pos (by omega), Nat.sub_zero])
    rcases (show a = 0 ∨ a = 1 by omega) with rfl | rfl
    · have hf' : K.2.2 0 = 1 := hf
      have e0 : gAg S n 0 K = ((sZ K.1 : Int), fCp S K.1, 0) := by unfold gAg; rw [if_pos rfl, if_neg (by omega)]
      rw [e0]
      exact ⟨hr.1, rfl, Rep_cp hJk hr S⟩
    · have hf' : K.2.2 1 = 1 := hf
      have e0 : gAg S n 1 K = ((sZ K.2.1 : Int), fCp S K.2.1, 0) := by unfold gAg; rw [if_neg (by omega), if_pos rfl, if_neg (by omega)]
      rw [e0]
      exact ⟨hr.1, rfl, Rep_cp hJk hr S⟩
  have loop : ∀ (k : Nat) (i : Nat), (471 < i + k) → (i ≤ 471) → (0 ≤ a ∧ a ≤ 1) → (K.2.2 a.toNat = 1) → CV MX12_again (1, 0, 0) 19 (0, 0) 26 [(0, vR 0), (1, vI a), (2, vI i)] [] (wM 5 6 T o A tm tr (cpR p (fun j => A 8 (471 * a.toNat + j)) 0 i) st) (fun v1 w => v1 = some (vI (gAg S n a K).1) ∧ QM T (gAg S n a K).2.1 (gAg S n a K).2.2 D y K sd w) := by
    intro k
    induction k with
    | zero => intro i hk hi ca hf; exact absurd hk (by omega)
    | succ k ih =>
      intro i hk hi ca hf
      refine cv_iload_n dX12_again_26 rfl ?_
      refine cv_sipush dX12_again_27 (by decide) ?_
      refine cv_icmp_ge (tgt := 57) dX12_again_30 (by decide) (by omega) (fun h30 => ?_) (fun h30 => ?_)
      · rw [show i = 471 by omega]
        refine cv_aload_n dX12_again_57 rfl ?_
        refine cv_iconst dX12_again_58 ?_
        refine cv_putf fpX12_195 dX12_again_59 rfl (Nat.le_of_ble_eq_true rfl) (fun _ => ⟨rfl, rfl⟩) ?_
        refine cv_aload_n dX12_again_62 rfl ?_
        refine cv_getf flX12_22 dX12_again_63 rfl rfl ?_
        refine cv_iconst dX12_again_66 ?_
        refine cv_ialj (0) dX12_again_67 rfl (by omega) (by omega) ?_
        refine cv_iret rfl dX12_again_68 ⟨Nat.le_refl _, Nat.le_refl _⟩ (by
        obtain ⟨f1, f2, f3⟩ := fin ca hf
        rw [f2]
        exact ⟨ct_rI f1, upA o 1 0, A, tm, tr, _, st, rfl, hst, hM.1, f3, hM.2.2.1, ⟨rfl, by omega, hM.2.2.2.1.2.2.1, hM.2.2.2.1.2.2.2.1, fun i hi => absurd hi (Nat.not_lt_zero _)⟩, hM.2.2.2.2⟩)
      · refine cv_aload_n dX12_again_33 rfl ?_
        refine cv_getf flX12_22 dX12_again_34 rfl rfl ?_
        refine cv_iload_n dX12_again_37 rfl ?_
        refine cv_aload_n dX12_again_38 rfl ?_
        refine cv_getf flX12_31 dX12_again_39 rfl rfl ?_
        refine cv_sipush dX12_again_42 (by decide) ?_
        refine cv_iload_n dX12_again_45 rfl ?_
        refine cv_imul dX12_again_46 ?_
        refine cv_iload_n dX12_again_47 rfl ?_
        refine cv_iadd dX12_again_48 ?_
        refine cv_ialj (471 * a.toNat + i) dX12_again_49 rfl (by omega) (by omega) ?_
        refine cv_iasj (i) dX12_again_50 rfl (by omega) (by omega) ?_
        refine cv_iinc dX12_again_51 (by decide) rfl rfl rfl ?_
        refine cv_goto (tgt := 26) dX12_again_54 (by decide) ?_
        have := ih (i + 1) (by omega) (by omega) ca hf
        have e0 := cpR_s p (fun j => A 8 (471 * a.toNat + j)) 0 i
        rw [Nat.zero_add] at e0
        rw [← e0] at this
        exact this
  refine cv_iload_n dX12_again_0 rfl ?_
  refine cv_i2l dX12_again_1 (by omega) ?_
  refine cv_lconst (v := 0) dX12_again_2 (by decide) ?_
  refine cv_lconst (v := 1) dX12_again_3 (by decide) ?_
  refine cv_sameS (c_X12_in (wM 5 6 T o A tm tr p st) a 0 1 (by omega) (by omega) (by omega)) lkX12_in mlX12_69 dX12_again_4 (by decide) rfl rfl (Nat.le_of_ble_eq_true rfl) ⟨Nat.le_refl _, Nat.le_refl _⟩ ?_
  intro v w1 hq
  obtain ⟨rfl, rfl⟩ := hq
  have i4 := ct_i_r (0 ≤ a ∧ a ≤ 1)
  refine cv_if_ne (tgt := 12) dX12_again_7 (by decide) (by omega) (fun h7 => ?_) (fun h7 => ?_)
  · have ca : 0 ≤ a ∧ a ≤ 1 := ct_i_1.mp (by omega)
    refine cv_aload_n dX12_again_12 rfl ?_
    refine cv_getf flX12_34 dX12_again_13 rfl rfl ?_
    refine cv_iload_n dX12_again_16 rfl ?_
    refine cv_zalj (a.toNat) dX12_again_17 rfl (by omega) (by omega) ?_
    have kz := hk a.toNat (by omega)
    rw [kz.1]
    refine cv_if_ne (tgt := 24) dX12_again_18 (by decide) (by omega) (fun h18 => ?_) (fun h18 => ?_)
    · refine cv_iconst dX12_again_24 ?_
      refine cv_istore_n dX12_again_25 (by decide) rfl rfl ?_
      have := loop 472 0 (by omega) (by omega) ca (by omega)
      rw [cpR_0] at this
      exact this
    · refine cv_bipush dX12_again_21 (by decide) ?_
      refine cv_iret rfl dX12_again_23 ⟨Nat.le_refl _, Nat.le_refl _⟩ (by
      have e0 : gAg S n a K = (-3, S, n) := by
        unfold gAg
        rcases (show a = 0 ∨ a = 1 by omega) with rfl | rfl
        · rw [if_pos rfl, if_pos (show K.2.2 0 = 0 from h18)]
        · rw [if_neg (by omega), if_pos rfl, if_pos (show K.2.2 1 = 0 from h18)]
      rw [e0]
      exact ⟨rfl, ⟨o, A, tm, tr, p, st, rfl, hst, hM⟩⟩)
  · have ca : ¬ (0 ≤ a ∧ a ≤ 1) := ct_i_0.mp (by omega)
    refine cv_iconst dX12_again_10 ?_
    refine cv_iret rfl dX12_again_11 ⟨Nat.le_refl _, Nat.le_refl _⟩ (by
      have e0 : gAg S n a K = (-1, S, n) := by unfold gAg; rw [if_neg (by omega), if_neg (by omega)]
      rw [e0]
      exact ⟨rfl, ⟨o, A, tm, tr, p, st, rfl, hst, hM⟩⟩)
set_option maxRecDepth 100000 in
set_option maxHeartbeats 1000000 in
theorem c_X12_copy (T : ctT) (o : Nat → Int) (A : Nat → Nat → Int) (tm tr : Int) (p st : Nat → Int) : CM MX12_copy (0, 0, 0) [vR 5, vR 6] (wM 5 6 T o A tm tr p st) (fun v1 w => v1 = none ∧ w = wM 5 6 T o (upA A 6 (cpR (A 6) p 0 471)) tm tr p st) := by
  refine CM.of (by decide) (Nat.le_of_ble_eq_true rfl) ?_
  show CV MX12_copy (0, 0, 0) 19 (0, 0) 0 [(0, vR 5), (1, vR 6)] [] (wM 5 6 T o A tm tr p st) _
  have loop : ∀ (k : Nat) (i : Nat), (471 < i + k) → (i ≤ 471) → CV MX12_copy (0, 0, 0) 19 (0, 0) 2 [(0, vR 5), (1, vR 6), (2, vI i)] [] (wM 5 6 T o (upA A 6 (cpR (A 6) p 0 i)) tm tr p st) (fun v1 w => v1 = none ∧ w = wM 5 6 T o (upA A 6 (cpR (A 6) p 0 471)) tm tr p st) := by
    intro k
    induction k with
    | zero => intro i hk hi; exact absurd hk (by omega)
    | succ k ih =>
      intro i hk hi
      refine cv_iload_n dX12_copy_2 rfl ?_
      refine cv_sipush dX12_copy_3 (by decide) ?_
      refine cv_icmp_ge (tgt := 21) dX12_copy_6 (by decide) (by omega) (fun h6 => ?_) (fun h6 => ?_)
      · refine cv_ret rfl dX12_copy_21 ⟨Nat.le_refl _, Nat.le_refl _⟩ ⟨rfl, by rw [show i = 471 by omega]⟩
      · refine cv_aload_n dX12_copy_9 rfl ?_
        refine cv_iload_n dX12_copy_10 rfl ?_
        refine cv_aload_n dX12_copy_11 rfl ?_
        refine cv_iload_n dX12_copy_12 rfl ?_
        refine cv_ialj (i) dX12_copy_13 rfl (by omega) (by omega) ?_
        refine cv_iasj (i) dX12_copy_14 rfl (by omega) (by omega) ?_
        refine cv_iinc dX12_copy_15 (by decide) rfl rfl rfl ?_
        refine cv_goto (tgt := 2) dX12_copy_18 (by decide) ?_
        have := ih (i + 1) (by omega) (by omega)
        have e0 := cpR_s (A 6) p 0 i
        rw [Nat.zero_add] at e0
        rw [← e0] at this
        exact this
  refine cv_iconst dX12_copy_0 ?_
  refine cv_istore_n dX12_copy_1 (by decide) rfl rfl ?_
  have := loop 472 0 (by omega) (by omega)
  rw [cpR_0] at this
  exact this
