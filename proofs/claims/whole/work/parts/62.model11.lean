/-- why of a mark on the trail: how many, the set by then -/
noncomputable def wyO (T : ctT) (S : ctS) (st : Nat → Int) (i : Nat) (cm : Int) : Int × (Nat → Int) := if sR S i < 0 then (0, st) else if sR S i < 10 then wyR T S st (sR S i).toNat i (sM S i) cm (tN T) else wyC S st (sR S i - 10).toNat i (sM S i) cm (sCs S (sR S i - 10).toNat).toNat
set_option maxRecDepth 100000 in
set_option maxHeartbeats 1000000 in
theorem c_X12_whyOf (u v : Nat) (T : ctT) (o : Nat → Int) (A : Nat → Nat → Int) (tm tr : Int) (p st : Nat → Int) (S : ctS) (hT : okT T) (hA : rT T A) (hR : Rep S p) (hJ : J T S) (hq : rq T S) (i : Nat) (hi : i < sZ S) (cm : Int) (hc : cm = 0 ∨ cm = 1) (hs : stR st) : CM MX12_whyOf (3, 0, 0) [vR 0, vR 5, vI i, vI cm] (wM u v T o A tm tr p st) (fun v1 w => v1 = some (vI (wyO T S st i cm).1) ∧ w = wM u v T o A tm tr p (wyO T S st i cm).2) := by
  refine CM.of (by decide) (Nat.le_of_ble_eq_true rfl) ?_
  show CV MX12_whyOf (3, 0, 0) 19 (0, 0) 0 [(0, vR 0), (1, vR 5), (2, vI i), (3, vI cm)] [] (wM u v T o A tm tr p st) _
  have hg := J_g hT hJ
  have hZ := hg.1.1
  have hN := hT.2.1
  have hR6 := hT.2.2.1
  have mo := J_M hJ i hi
  unfold okM at mo
  have rp := hR.2.1 i hi
  have r0 := hq i hi
  have r1 := hJ.2.1.2.1 i hi
  have c40 := hJ.2.1.2.2.1
  refine cv_aload_n dX12_whyOf_0 rfl ?_
  refine cv_bipush dX12_whyOf_1 (by decide) ?_
  refine cv_iload_n dX12_whyOf_3 rfl ?_
  refine cv_iadd dX12_whyOf_4 ?_
  refine cv_ialj (73 + i) dX12_whyOf_5 rfl (by omega) (by omega) ?_
  rw [rp.2.2]
  refine cv_if_ge (tgt := 13) dX12_whyOf_6 (by decide) (by omega) (fun h6 => ?_) (fun h6 => ?_)
  · refine cv_aload_n dX12_whyOf_13 rfl ?_
    refine cv_aload_n dX12_whyOf_14 rfl ?_
    refine cv_aload_n dX12_whyOf_15 rfl ?_
    refine cv_bipush dX12_whyOf_16 (by decide) ?_
    refine cv_iload_n dX12_whyOf_18 rfl ?_
    refine cv_iadd dX12_whyOf_19 ?_
    refine cv_ialj (73 + i) dX12_whyOf_20 rfl (by omega) (by omega) ?_
    rw [rp.2.2]
    refine cv_iload_n dX12_whyOf_21 rfl ?_
    refine cv_aload_n dX12_whyOf_22 rfl ?_
    refine cv_iconst dX12_whyOf_23 ?_
    refine cv_iload_n dX12_whyOf_24 rfl ?_
    refine cv_iadd dX12_whyOf_25 ?_
    refine cv_ialj (1 + i) dX12_whyOf_26 rfl (by omega) (by omega) ?_
    rw [rp.1]
    refine cv_iload_n dX12_whyOf_27 rfl ?_
    by_cases z : sR S i < 10
    · have e0 : wyO T S st i cm = wyR T S st (sR S i).toNat i (sM S i) cm (tN T) := (if_neg (by omega)).trans (if_pos z)
      rw [show (vI (sR S i) : ct_V) = vI (((sR S i).toNat : Nat) : Int) by rw [Int.toNat_of_nonneg (by omega)], e0]
      refine cv_sameV (c_X12_whyByR u v T o A tm tr p st S hT hA hR hJ (sR S i).toNat (by omega) i (by omega) (sM S i) (by omega) cm hc hs) lkX12_whyBy mlX12_206 dX12_whyOf_28 (by decide) rfl rfl (by decide) rfl (Nat.le_of_ble_eq_true rfl) ⟨Nat.le_refl _, Nat.le_refl _⟩ ?_
      intro v w1 hq
      obtain ⟨rfl, rfl⟩ := hq
      exact cv_iret rfl dX12_whyOf_31 ⟨Nat.le_refl _, Nat.le_refl _⟩ ⟨rfl, rfl⟩
    · have e0 : wyO T S st i cm = wyC S st (sR S i - 10).toNat i (sM S i) cm (sCs S (sR S i - 10).toNat).toNat := (if_neg (by omega)).trans (if_neg z)
      rw [show (vI (sR S i) : ct_V) = vI (10 + (((sR S i - 10).toNat : Nat) : Int)) by rw [show 10 + (((sR S i - 10).toNat : Nat) : Int) = sR S i by omega], e0]
      refine cv_sameV (c_X12_whyByC u v T o A tm tr p st S hT hA hR hJ (sR S i - 10).toNat (by omega) i (by omega) (sM S i) (by omega) cm hc hs) lkX12_whyBy mlX12_206 dX12_whyOf_28 (by decide) rfl rfl (by decide) rfl (Nat.le_of_ble_eq_true rfl) ⟨Nat.le_refl _, Nat.le_refl _⟩ ?_
      intro v w1 hq
      obtain ⟨rfl, rfl⟩ := hq
      exact cv_iret rfl dX12_whyOf_31 ⟨Nat.le_refl _, Nat.le_refl _⟩ ⟨rfl, rfl⟩
  · refine cv_iconst dX12_whyOf_9 ?_
    refine cv_goto (tgt := 31) dX12_whyOf_10 (by decide) ?_
    refine cv_iret rfl dX12_whyOf_31 ⟨Nat.le_refl _, Nat.le_refl _⟩ (by
      have e0 : wyO T S st i cm = (0, st) := if_pos (by omega)
      rw [e0]
      exact ⟨rfl, rfl⟩)
