/-! THE REFERENCE HOLDS WHAT THE CLASS HOLDS -/
def rmX (y : ctY) (o : Nat → Int) (A : Nat → Nat → Int) : Prop := o 0 = (y.1 : Int) ∧ ∀ i, i < y.1 → A 1 i = y.2.1 i
def dgR (A : Nat → Nat → Int) (b : Nat) : Nat → Int := fun j => A 7 (471 * b + j)
def rmA (n : Nat) (D : Nat → ctS) (o : Nat → Int) (A : Nat → Nat → Int) : Prop := o 1 = (n : Int) ∧ n ≤ 14 ∧ 0 ≤ o 2 ∧ o 2 < 14 ∧ ∀ i, i < n → Rep (D i) (dgR A (((o 2).toNat + 14 - n + i) % 14))
def kS (K : ctK) (s : Nat) : ctS := match s with | 0 => K.1 | _ => K.2.1
def rmK (K : ctK) (A : Nat → Nat → Int) : Prop := ∀ s, s < 2 → A 9 s = K.2.2 s ∧ (K.2.2 s = 0 ∨ K.2.2 s = 1) ∧ (K.2.2 s = 1 → Rep (kS K s) (fun j => A 8 (471 * s + j)))
def rmS (y : ctY) (o : Nat → Int) (A : Nat → Nat → Int) : Prop := o 3 = (y.2.2.1 : Int) ∧ ∀ i, i < y.2.2.1 → A 10 i = y.2.2.2.1 i ∧ A 11 i = y.2.2.2.2 i
def RM (T : ctT) (S : ctS) (n : Nat) (D : Nat → ctS) (y : ctY) (K : ctK) (sd : Int) (o : Nat → Int) (A : Nat → Nat → Int) (p : Nat → Int) : Prop := rT T A ∧ Rep S p ∧ rmX y o A ∧ rmA n D o A ∧ rmK K A ∧ rmS y o A ∧ o 4 = sd
def QM (T : ctT) (S : ctS) (n : Nat) (D : Nat → ctS) (y : ctY) (K : ctK) (sd : Int) (w : List ct_C) : Prop := ∃ o A tm tr p st, w = wM 5 6 T o A tm tr p st ∧ stR st ∧ RM T S n D y K sd o A p
theorem RM_same {T : ctT} {S : ctS} {n : Nat} {D : Nat → ctS} {y : ctY} {K : ctK} {sd : Int} {o o1 : Nat → Int} {A A1 : Nat → Nat → Int} {p : Nat → Int} (h : RM T S n D y K sd o A p) (ho : ∀ i, i < 5 → o1 i = o i) (hA : ∀ a, a < 12 → ¬ a = 6 → A1 a = A a) : RM T S n D y K sd o1 A1 p := by
  obtain ⟨h1, h2, h3, h4, h5, h6, h7⟩ := h
  have a1 := hA 1 (by omega) (by omega)
  have a2 := hA 2 (by omega) (by omega)
  have a3 := hA 3 (by omega) (by omega)
  have a4 := hA 4 (by omega) (by omega)
  have a7 := hA 7 (by omega) (by omega)
  have a8 := hA 8 (by omega) (by omega)
  have a9 := hA 9 (by omega) (by omega)
  have a10 := hA 10 (by omega) (by omega)
  have a11 := hA 11 (by omega) (by omega)
  have o0 := ho 0 (by omega)
  have o1' := ho 1 (by omega)
  have o2 := ho 2 (by omega)
  have o3 := ho 3 (by omega)
  have o4 := ho 4 (by omega)
  refine ⟨?_, h2, ?_, ?_, ?_, ?_, ?_⟩
  · unfold rT at h1 ⊢; rw [a2, a3, a4]; exact h1
  · unfold rmX at h3 ⊢; rw [o0, a1]; exact h3
  · unfold rmA dgR at h4 ⊢; rw [o1', o2, a7]; exact h4
  · unfold rmK at h5 ⊢; rw [a8, a9]; exact h5
  · unfold rmS at h6 ⊢; rw [o3, a10, a11]; exact h6
  · rw [o4]; exact h7
theorem Rep_ext {T : ctT} {S : ctS} {p q : Nat → Int} (hT : okT T) (hJ : J T S) (h : Rep S p) (e : ∀ j, j < 471 → q j = p j) : Rep S q := by
  obtain ⟨h1, h2, h3, h4, h5⟩ := h
  have hZ := (J_g hT hJ).1.1
  have hC := hJ.2.1.2.2.1
  refine ⟨?_, fun i hi => ⟨?_, ?_, ?_⟩, ?_, fun c hc => ⟨?_, fun k hk => ?_⟩, ?_⟩
  · rw [e _ (by omega)]; exact h1
  · rw [e _ (by omega)]; exact (h2 i hi).1
  · rw [e _ (by omega)]; exact (h2 i hi).2.1
  · rw [e _ (by omega)]; exact (h2 i hi).2.2
  · rw [e _ (by omega)]; exact h3
  · rw [e _ (by omega)]; exact (h4 c hc).1
  · have h8 := hJ.2.1.2.2.2.1 c hc
    rw [e _ (by omega)]; exact (h4 c hc).2 k hk
  · rw [e _ (by omega)]; exact h5
theorem Rep_cp {T : ctT} {S : ctS} {p : Nat → Int} (hJ : J T S) (h : Rep S p) (V : ctS) : Rep (fCp V S) p := by
  obtain ⟨h1, h2, h3, h4, h5⟩ := h
  refine ⟨h1, fun i hi => ?_, h3, fun c hc => ?_, h5⟩
  · have hi' : i < sZ S := hi
    rw [show sM (fCp V S) i = sM S i from cpy_at hi', show sL (fCp V S) i = sL S i from cpy_at hi', show sR (fCp V S) i = sR S i from cpy_at hi']
    exact h2 i hi'
  · have hc' : c < sC S := hc
    have h8 := hJ.2.1.2.2.2.1 c hc'
    rw [show sCs (fCp V S) c = sCs S c from cpy_at hc']
    refine ⟨(h4 c hc').1, fun k hk => ?_⟩
    rw [show sCm (fCp V S) (8 * c + k) = sCm S (8 * c + k) from cpy_at (by omega)]
    exact (h4 c hc').2 k hk
/-- a stretch laid over -/
def cpR (f g : Nat → Int) (b k : Nat) : Nat → Int := fun i => if b ≤ i ∧ i < b + k then g (i - b) else f i
theorem cpR_0 (f g : Nat → Int) (b : Nat) : cpR f g b 0 = f := by
  funext i
  unfold cpR
  rw [if_neg (by omega)]
theorem cpR_s (f g : Nat → Int) (b k : Nat) : ct_up (cpR f g b k) (b + k) (g k) = cpR f g b (k + 1) := by
  funext i
  by_cases e : i = b + k
  · subst e
    rw [ct_up_s]
    unfold cpR
    rw [if_pos (by omega), Nat.add_sub_cancel_left]
  · rw [ct_up_n e]
    unfold cpR
    by_cases q : b ≤ i ∧ i < b + k
    · rw [if_pos q, if_pos (by omega)]
    · rw [if_neg q, if_neg (by omega)]
set_option maxRecDepth 100000 in
set_option maxHeartbeats 1000000 in
theorem c_X12_isNumber (u v : Nat) (T : ctT) (o : Nat → Int) (A : Nat → Nat → Int) (tm tr : Int) (p st : Nat → Int) (hT : okT T) (a : Int) (ar : -2147483648 ≤ a ∧ a ≤ 2147483647) : CM MX12_isNumber (1, 0, 0) [vR 0, vI a] (wM u v T o A tm tr p st) (fun v1 w => v1 = some (vI (ct_i (0 ≤ a ∧ a < (tN T : Int)))) ∧ w = wM u v T o A tm tr p st) := by
  refine CM.of (by decide) (Nat.le_of_ble_eq_true rfl) ?_
  show CV MX12_isNumber (1, 0, 0) 19 (0, 0) 0 [(0, vR 0), (1, vI a)] [] (wM u v T o A tm tr p st) _
  have hN := hT.2.1
  have e0 : ct_i (0 ≤ a ∧ a ≤ (tN T : Int) - 1) = ct_i (0 ≤ a ∧ a < (tN T : Int)) := by
    by_cases c : 0 ≤ a ∧ a < (tN T : Int)
    · rw [ct_i_t c, ct_i_t (by omega)]
    · rw [ct_i_f c, ct_i_f (by omega)]
  have r0 := ct_i_z (0 ≤ a ∧ a ≤ (tN T : Int) - 1)
  refine cv_iload_n dX12_isNumber_0 rfl ?_
  refine cv_i2l dX12_isNumber_1 (by omega) ?_
  refine cv_lconst (v := 0) dX12_isNumber_2 (by decide) ?_
  refine cv_aload_n dX12_isNumber_3 rfl ?_
  refine cv_getf flX12_65 dX12_isNumber_4 rfl rfl ?_
  refine cv_iconst dX12_isNumber_7 ?_
  refine cv_isub dX12_isNumber_8 ?_
  refine cv_i2l dX12_isNumber_9 (by omega) ?_
  refine cv_sameS (c_X12_in (wM u v T o A tm tr p st) a 0 ((tN T : Int) - 1) (by omega) (by omega) (by omega)) lkX12_in mlX12_69 dX12_isNumber_10 (by decide) rfl rfl (Nat.le_of_ble_eq_true rfl) ⟨Nat.le_refl _, Nat.le_refl _⟩ ?_
  intro v w1 hq
  obtain ⟨rfl, rfl⟩ := hq
  refine cv_zret rfl dX12_isNumber_13 ⟨Nat.le_refl _, Nat.le_refl _⟩ r0 ⟨ct_rI e0, rfl⟩
set_option maxRecDepth 100000 in
set_option maxHeartbeats 1000000 in
theorem c_X12_isCut (v : Nat) (T : ctT) (o : Nat → Int) (A : Nat → Nat → Int) (tm tr : Int) (p st : Nat → Int) (S : ctS) (hR : Rep S p) (hC : sC S ≤ 40) (a : Int) (ar : -2147483648 ≤ a ∧ a ≤ 2147483647) : CM MX12_isCut (1, 0, 0) [vR 0, vI a] (wM 5 v T o A tm tr p st) (fun v1 w => v1 = some (vI (ct_i (0 ≤ a ∧ a < (sC S : Int)))) ∧ w = wM 5 v T o A tm tr p st) := by
  refine CM.of (by decide) (Nat.le_of_ble_eq_true rfl) ?_
  show CV MX12_isCut (1, 0, 0) 19 (0, 0) 0 [(0, vR 0), (1, vI a)] [] (wM 5 v T o A tm tr p st) _
  have e0 : ct_i (0 ≤ a ∧ a ≤ (sC S : Int) - 1) = ct_i (0 ≤ a ∧ a < (sC S : Int)) := by
    by_cases c : 0 ≤ a ∧ a < (sC S : Int)
    · rw [ct_i_t c, ct_i_t (by omega)]
    · rw [ct_i_f c, ct_i_f (by omega)]
  have r0 := ct_i_z (0 ≤ a ∧ a ≤ (sC S : Int) - 1)
  refine cv_iload_n dX12_isCut_0 rfl ?_
  refine cv_i2l dX12_isCut_1 (by omega) ?_
  refine cv_lconst (v := 0) dX12_isCut_2 (by decide) ?_
  refine cv_aload_n dX12_isCut_3 rfl ?_
  refine cv_getf flX12_22 dX12_isCut_4 rfl rfl ?_
  refine cv_bipush dX12_isCut_7 (by decide) ?_
  refine cv_ialj (109) dX12_isCut_9 rfl (by omega) (by omega) ?_
  rw [hR.2.2.1]
  refine cv_iconst dX12_isCut_10 ?_
  refine cv_isub dX12_isCut_11 ?_
  refine cv_i2l dX12_isCut_12 (by omega) ?_
  refine cv_sameS (c_X12_in (wM 5 v T o A tm tr p st) a 0 ((sC S : Int) - 1) (by omega) (by omega) (by omega)) lkX12_in mlX12_69 dX12_isCut_13 (by decide) rfl rfl (Nat.le_of_ble_eq_true rfl) ⟨Nat.le_refl _, Nat.le_refl _⟩ ?_
  intro v w1 hq
  obtain ⟨rfl, rfl⟩ := hq
  refine cv_zret rfl dX12_isCut_16 ⟨Nat.le_refl _, Nat.le_refl _⟩ r0 ⟨ct_rI e0, rfl⟩
set_option maxRecDepth 100000 in
set_option maxHeartbeats 1000000 in
theorem c_X12_write (T : ctT) (S : ctS) (n : Nat) (D : Nat → ctS) (y : ctY) (K : ctK) (sd : Int) (o : Nat → Int) (A : Nat → Nat → Int) (tm tr : Int) (p st : Nat → Int) (hT : okT T) (hI : I2 T S) (hst : stR st) (hM : RM T S n D y K sd o A p) (a : Int) (ar : -2147483648 ≤ a ∧ a ≤ 2147483647) (hy : y.1 ≤ 60) : CM MX12_write (1, 0, 0) [vR 0, vI a] (wM 5 6 T o A tm tr p st) (fun v1 w => v1 = some (vI (gWr a y).1) ∧ QM T S n D (gWr a y).2 K sd w) := by
  refine CM.of (by decide) (Nat.le_of_ble_eq_true rfl) ?_
  show CV MX12_write (1, 0, 0) 19 (0, 0) 0 [(0, vR 0), (1, vI a)] [] (wM 5 6 T o A tm tr p st) _
  have x0 := hM.2.2.1.1
  refine cv_iload_n dX12_write_0 rfl ?_
  refine cv_i2l dX12_write_1 (by omega) ?_
  refine cv_lconst (v := 0) dX12_write_2 (by decide) ?_
  refine cv_ldc2 dX12_write_3 kcX12_73 ?_
  refine cv_sameS (c_X12_in (wM 5 6 T o A tm tr p st) a 0 255 (by omega) (by omega) (by omega)) lkX12_in mlX12_69 dX12_write_6 (by decide) rfl rfl (Nat.le_of_ble_eq_true rfl) ⟨Nat.le_refl _, Nat.le_refl _⟩ ?_
  intro v w1 hq
  obtain ⟨rfl, rfl⟩ := hq
  have i6 := ct_i_r (0 ≤ a ∧ a ≤ 255)
  refine cv_if_ne (tgt := 15) dX12_write_9 (by decide) (by omega) (fun h9 => ?_) (fun h9 => ?_)
  · have ca : 0 ≤ a ∧ a ≤ 255 := ct_i_1.mp (by omega)
    refine cv_aload_n dX12_write_15 rfl ?_
    refine cv_getf flX12_75 dX12_write_16 rfl rfl ?_
    refine cv_bipush dX12_write_19 (by decide) ?_
    refine cv_icmp_ne (tgt := 27) dX12_write_21 (by decide) (by omega) (fun h21 => ?_) (fun h21 => ?_)
    · refine cv_aload_n dX12_write_27 rfl ?_
      refine cv_getf flX12_7 dX12_write_28 rfl rfl ?_
      refine cv_aload_n dX12_write_31 rfl ?_
      refine cv_getf flX12_75 dX12_write_32 rfl rfl ?_
      refine cv_iload_n dX12_write_35 rfl ?_
      refine cv_iasj (y.1) dX12_write_36 rfl (by omega) (by omega) ?_
      refine cv_aload_n dX12_write_37 rfl ?_
      refine cv_dup dX12_write_38 rfl ?_
      refine cv_getf flX12_75 dX12_write_39 rfl rfl ?_
      refine cv_iconst dX12_write_42 ?_
      refine cv_iadd dX12_write_43 ?_
      refine cv_putf fpX12_75 dX12_write_44 rfl (Nat.le_of_ble_eq_true rfl) (fun _ => ⟨rfl, rfl⟩) ?_
      refine cv_aload_n dX12_write_47 rfl ?_
      refine cv_getf flX12_75 dX12_write_48 rfl rfl ?_
      refine cv_iret rfl dX12_write_51 ⟨Nat.le_refl _, Nat.le_refl _⟩ (by
        have e0 : gWr a y = ((y.1 : Int) + 1, (y.1 + 1, ct_up y.2.1 y.1 a, y.2.2)) := by unfold gWr; rw [if_neg (by omega), if_neg (by omega)]
        rw [e0]
        refine ⟨ct_rI (by show o 0 + 1 = _; omega), upA o 0 (o 0 + 1), upA A 1 (ct_up (A 1) y.1 a), tm, tr, p, st, rfl, hst, hM.1, hM.2.1, ⟨by show o 0 + 1 = ((y.1 + 1 : Nat) : Int); omega, fun i hi => ?_⟩, hM.2.2.2.1, hM.2.2.2.2.1, hM.2.2.2.2.2.1, hM.2.2.2.2.2.2⟩
        show ct_up (A 1) y.1 a i = ct_up y.2.1 y.1 a i
        have hi' : i < y.1 + 1 := hi
        by_cases e : i = y.1
        · subst e; rw [ct_up_s, ct_up_s]
        · rw [ct_up_n e, ct_up_n e]; exact hM.2.2.1.2 i (by omega))
    · refine cv_bipush dX12_write_24 (by decide) ?_
      refine cv_iret rfl dX12_write_26 ⟨Nat.le_refl _, Nat.le_refl _⟩ ⟨ct_rI (by unfold gWr; rw [if_neg (by omega), if_pos (by omega)]), by unfold gWr; rw [if_neg (by omega), if_pos (by omega)]; exact ⟨o, A, tm, tr, p, st, rfl, hst, hM⟩⟩
  · have ca : ¬ (0 ≤ a ∧ a ≤ 255) := ct_i_0.mp (by omega)
    refine cv_bipush dX12_write_12 (by decide) ?_
    refine cv_iret rfl dX12_write_14 ⟨Nat.le_refl _, Nat.le_refl _⟩ ⟨ct_rI (by unfold gWr; rw [if_pos (by omega)]), by unfold gWr; rw [if_pos (by omega)]; exact ⟨o, A, tm, tr, p, st, rfl, hst, hM⟩⟩
set_option maxRecDepth 100000 in
set_option maxHeartbeats 1000000 in
theorem c_X12_wipe (T : ctT) (S : ctS) (n : Nat) (D : Nat → ctS) (y : ctY) (K : ctK) (sd : Int) (o : Nat → Int) (A : Nat → Nat → Int) (tm tr : Int) (p st : Nat → Int) (hT : okT T) (hI : I2 T S) (hst : stR st) (hM : RM T S n D y K sd o A p)    : CM MX12_wipe (0, 0, 0) [vR 0] (wM 5 6 T o A tm tr p st) (fun v1 w => v1 = some (vI y.1) ∧ QM T S n D (0, y.2) K sd w) := by
  refine CM.of (by decide) (Nat.le_of_ble_eq_true rfl) ?_
  show CV MX12_wipe (0, 0, 0) 19 (0, 0) 0 [(0, vR 0)] [] (wM 5 6 T o A tm tr p st) _
  refine cv_aload_n dX12_wipe_0 rfl ?_
  refine cv_getf flX12_75 dX12_wipe_1 rfl rfl ?_
  refine cv_istore_n dX12_wipe_4 (by decide) rfl rfl ?_
  refine cv_aload_n dX12_wipe_5 rfl ?_
  refine cv_iconst dX12_wipe_6 ?_
  refine cv_putf fpX12_75 dX12_wipe_7 rfl (Nat.le_of_ble_eq_true rfl) (fun _ => ⟨rfl, rfl⟩) ?_
  refine cv_iload_n dX12_wipe_10 rfl ?_
  refine cv_iret rfl dX12_wipe_11 ⟨Nat.le_refl _, Nat.le_refl _⟩ ⟨ct_rI hM.2.2.1.1, upA o 0 0, A, tm, tr, p, st, rfl, hst, hM.1, hM.2.1, ⟨rfl, fun i hi => absurd hi (Nat.not_lt_zero _)⟩, hM.2.2.2.1, hM.2.2.2.2.1, hM.2.2.2.2.2.1, hM.2.2.2.2.2.2⟩
set_option maxRecDepth 100000 in
set_option maxHeartbeats 1000000 in
theorem c_X12_unsee (T : ctT) (S : ctS) (n : Nat) (D : Nat → ctS) (y : ctY) (K : ctK) (sd : Int) (o : Nat → Int) (A : Nat → Nat → Int) (tm tr : Int) (p st : Nat → Int) (hT : okT T) (hI : I2 T S) (hst : stR st) (hM : RM T S n D y K sd o A p)    : CM MX12_unsee (0, 0, 0) [vR 0] (wM 5 6 T o A tm tr p st) (fun v1 w => v1 = some (vI y.2.2.1) ∧ QM T S n D (y.1, y.2.1, 0, y.2.2.2) K sd w) := by
  refine CM.of (by decide) (Nat.le_of_ble_eq_true rfl) ?_
  show CV MX12_unsee (0, 0, 0) 19 (0, 0) 0 [(0, vR 0)] [] (wM 5 6 T o A tm tr p st) _
  refine cv_aload_n dX12_unsee_0 rfl ?_
  refine cv_getf flX12_244 dX12_unsee_1 rfl rfl ?_
  refine cv_istore_n dX12_unsee_4 (by decide) rfl rfl ?_
  refine cv_aload_n dX12_unsee_5 rfl ?_
  refine cv_iconst dX12_unsee_6 ?_
  refine cv_putf fpX12_244 dX12_unsee_7 rfl (Nat.le_of_ble_eq_true rfl) (fun _ => ⟨rfl, rfl⟩) ?_
  refine cv_iload_n dX12_unsee_10 rfl ?_
  refine cv_iret rfl dX12_unsee_11 ⟨Nat.le_refl _, Nat.le_refl _⟩ ⟨ct_rI hM.2.2.2.2.2.1.1, upA o 3 0, A, tm, tr, p, st, rfl, hst, hM.1, hM.2.1, hM.2.2.1, hM.2.2.2.1, hM.2.2.2.2.1, ⟨rfl, fun i hi => absurd hi (Nat.not_lt_zero _)⟩, hM.2.2.2.2.2.2⟩
set_option maxRecDepth 100000 in
set_option maxHeartbeats 1000000 in
theorem c_X12_seed (T : ctT) (S : ctS) (n : Nat) (D : Nat → ctS) (y : ctY) (K : ctK) (sd : Int) (o : Nat → Int) (A : Nat → Nat → Int) (tm tr : Int) (p st : Nat → Int) (hT : okT T) (hI : I2 T S) (hst : stR st) (hM : RM T S n D y K sd o A p)   (a : Int) : CM MX12_seed (0, 0, 0) [vR 0, vL a] (wM 5 6 T o A tm tr p st) (fun v1 w => v1 = some (vL sd) ∧ QM T S n D y K a w) := by
  refine CM.of (by decide) (Nat.le_of_ble_eq_true rfl) ?_
  show CV MX12_seed (0, 0, 0) 19 (0, 0) 0 [(0, vR 0), (1, vL a)] [] (wM 5 6 T o A tm tr p st) _
  refine cv_aload_n dX12_seed_0 rfl ?_
  refine cv_getf flX12_334 dX12_seed_1 rfl rfl ?_
  refine cv_lstore_n dX12_seed_4 (by decide) rfl rfl ?_
  refine cv_aload_n dX12_seed_5 rfl ?_
  refine cv_lload_n dX12_seed_6 rfl ?_
  refine cv_putf fpX12_334 dX12_seed_7 rfl (Nat.le_of_ble_eq_true rfl) (fun _ => ⟨rfl, rfl⟩) ?_
  refine cv_lload_n dX12_seed_10 rfl ?_
  refine cv_lret rfl dX12_seed_11 ⟨Nat.le_refl _, Nat.le_refl _⟩ ⟨by rw [hM.2.2.2.2.2.2], upA o 4 a, A, tm, tr, p, st, rfl, hst, hM.1, hM.2.1, hM.2.2.1, hM.2.2.2.1, hM.2.2.2.2.1, hM.2.2.2.2.2.1, rfl⟩
set_option maxRecDepth 100000 in
set_option maxHeartbeats 1000000 in
theorem c_X12_see (T : ctT) (S : ctS) (n : Nat) (D : Nat → ctS) (y : ctY) (K : ctK) (sd : Int) (o : Nat → Int) (A : Nat → Nat → Int) (tm tr : Int) (p st : Nat → Int) (hT : okT T) (hI : I2 T S) (hst : stR st) (hM : RM T S n D y K sd o A p) (a s q u : Int) (ar : -2147483648 ≤ a ∧ a ≤ 2147483647) (sr : -2147483648 ≤ s ∧ s ≤ 2147483647) (qr : -2147483648 ≤ q ∧ q ≤ 2147483647) (ur : -2147483648 ≤ u ∧ u ≤ 2147483647) (hy : y.2.2.1 ≤ 6) : CM MX12_see (2, 0, 0) [vR 0, vI a, vI s, vI q, vI u] (wM 5 6 T o A tm tr p st) (fun v1 w => v1 = some (vI (gSee T a s q u y).1) ∧ QM T S n D (gSee T a s q u y).2 K sd w) := by
  refine CM.of (by decide) (Nat.le_of_ble_eq_true rfl) ?_
  show CV MX12_see (2, 0, 0) 19 (0, 0) 0 [(0, vR 0), (1, vI a), (2, vI s), (3, vI q), (4, vI u)] [] (wM 5 6 T o A tm tr p st) _
  have x0 := hM.2.2.2.2.2.1.1
  have hN := hT.2.1
  refine cv_aload_n dX12_see_0 rfl ?_
  refine cv_iload_n dX12_see_1 rfl ?_
  refine cv_sameV (c_X12_isNumber 5 6 T o A tm tr p st hT a (by omega)) lkX12_isNumber mlX12_247 dX12_see_2 (by decide) rfl rfl (by decide) rfl (Nat.le_of_ble_eq_true rfl) ⟨Nat.le_refl _, Nat.le_refl _⟩ ?_
  intro v w1 hq
  obtain ⟨rfl, rfl⟩ := hq
  have i2 := ct_i_r (0 ≤ a ∧ a < (tN T : Int))
  refine cv_if_ne (tgt := 10) dX12_see_5 (by decide) (by omega) (fun h5 => ?_) (fun h5 => ?_)
  · have ca : 0 ≤ a ∧ a < (tN T : Int) := ct_i_1.mp (by omega)
    refine cv_iload_n dX12_see_10 rfl ?_
    refine cv_i2l dX12_see_11 (by omega) ?_
    refine cv_lconst (v := 0) dX12_see_12 (by decide) ?_
    refine cv_lconst (v := 1) dX12_see_13 (by decide) ?_
    refine cv_sameS (c_X12_in (wM 5 6 T o A tm tr p st) s 0 1 (by omega) (by omega) (by omega)) lkX12_in mlX12_69 dX12_see_14 (by decide) rfl rfl (Nat.le_of_ble_eq_true rfl) ⟨Nat.le_refl _, Nat.le_refl _⟩ ?_
    intro v w1 hq
    obtain ⟨rfl, rfl⟩ := hq
    have i14 := ct_i_r (0 ≤ s ∧ s ≤ 1)
    refine cv_if_eq (tgt := 43) dX12_see_17 (by decide) (by omega) (fun h17 => ?_) (fun h17 => ?_)
    · have cs : ¬ (0 ≤ s ∧ s ≤ 1) := ct_i_0.mp (by omega)
      refine cv_bipush dX12_see_43 (by decide) ?_
      refine cv_iret rfl dX12_see_45 ⟨Nat.le_refl _, Nat.le_refl _⟩ ⟨ct_rI (by unfold gSee; rw [if_neg (by omega), if_pos (by omega)]), by unfold gSee; rw [if_neg (by omega), if_pos (by omega)]; exact ⟨o, A, tm, tr, p, st, rfl, hst, hM⟩⟩
    · have cs : 0 ≤ s ∧ s ≤ 1 := ct_i_1.mp (by omega)
      refine cv_iload_n dX12_see_20 rfl ?_
      refine cv_i2l dX12_see_21 (by omega) ?_
      refine cv_lconst (v := 0) dX12_see_22 (by decide) ?_
      refine cv_ldc2 dX12_see_23 kcX12_83 ?_
      refine cv_sameS (c_X12_in (wM 5 6 T o A tm tr p st) q 0 9 (by omega) (by omega) (by omega)) lkX12_in mlX12_69 dX12_see_26 (by decide) rfl rfl (Nat.le_of_ble_eq_true rfl) ⟨Nat.le_refl _, Nat.le_refl _⟩ ?_
      intro v w1 hq
      obtain ⟨rfl, rfl⟩ := hq
      have i26 := ct_i_r (0 ≤ q ∧ q ≤ 9)
      refine cv_if_eq (tgt := 43) dX12_see_29 (by decide) (by omega) (fun h29 => ?_) (fun h29 => ?_)
      · have cq : ¬ (0 ≤ q ∧ q ≤ 9) := ct_i_0.mp (by omega)
        refine cv_bipush dX12_see_43 (by decide) ?_
        refine cv_iret rfl dX12_see_45 ⟨Nat.le_refl _, Nat.le_refl _⟩ ⟨ct_rI (by unfold gSee; rw [if_neg (by omega), if_pos (by omega)]), by unfold gSee; rw [if_neg (by omega), if_pos (by omega)]; exact ⟨o, A, tm, tr, p, st, rfl, hst, hM⟩⟩
      · have cq : 0 ≤ q ∧ q ≤ 9 := ct_i_1.mp (by omega)
        refine cv_iload dX12_see_32 rfl ?_
        refine cv_i2l dX12_see_34 (by omega) ?_
        refine cv_lconst (v := 0) dX12_see_35 (by decide) ?_
        refine cv_lconst (v := 1) dX12_see_36 (by decide) ?_
        refine cv_sameS (c_X12_in (wM 5 6 T o A tm tr p st) u 0 1 (by omega) (by omega) (by omega)) lkX12_in mlX12_69 dX12_see_37 (by decide) rfl rfl (Nat.le_of_ble_eq_true rfl) ⟨Nat.le_refl _, Nat.le_refl _⟩ ?_
        intro v w1 hq
        obtain ⟨rfl, rfl⟩ := hq
        have i37 := ct_i_r (0 ≤ u ∧ u ≤ 1)
        refine cv_if_ne (tgt := 46) dX12_see_40 (by decide) (by omega) (fun h40 => ?_) (fun h40 => ?_)
        · have cu : 0 ≤ u ∧ u ≤ 1 := ct_i_1.mp (by omega)
          refine cv_aload_n dX12_see_46 rfl ?_
          refine cv_getf flX12_244 dX12_see_47 rfl rfl ?_
          refine cv_bipush dX12_see_50 (by decide) ?_
          refine cv_icmp_ne (tgt := 58) dX12_see_52 (by decide) (by omega) (fun h52 => ?_) (fun h52 => ?_)
          · refine cv_aload_n dX12_see_58 rfl ?_
            refine cv_getf flX12_38 dX12_see_59 rfl rfl ?_
            refine cv_aload_n dX12_see_62 rfl ?_
            refine cv_getf flX12_244 dX12_see_63 rfl rfl ?_
            refine cv_iload_n dX12_see_66 rfl ?_
            refine cv_iload_n dX12_see_67 rfl ?_
            refine cv_iload_n dX12_see_68 rfl ?_
            refine cv_sameS (c_X12_codeOf (wM 5 6 T o A tm tr p st) a s q) lkX12_codeOf mlX12_130 dX12_see_69 (by decide) rfl rfl (Nat.le_of_ble_eq_true rfl) ⟨Nat.le_refl _, Nat.le_refl _⟩ ?_
            intro v w1 hq
            obtain ⟨rfl, rfl⟩ := hq
            refine cv_iasj (y.2.2.1) dX12_see_72 rfl (by omega) (by omega) ?_
            refine cv_aload_n dX12_see_73 rfl ?_
            refine cv_getf flX12_41 dX12_see_74 rfl rfl ?_
            refine cv_aload_n dX12_see_77 rfl ?_
            refine cv_getf flX12_244 dX12_see_78 rfl rfl ?_
            refine cv_iload dX12_see_81 rfl ?_
            refine cv_iasj (y.2.2.1) dX12_see_83 rfl (by omega) (by omega) ?_
            refine cv_aload_n dX12_see_84 rfl ?_
            refine cv_dup dX12_see_85 rfl ?_
            refine cv_getf flX12_244 dX12_see_86 rfl rfl ?_
            refine cv_iconst dX12_see_89 ?_
            refine cv_iadd dX12_see_90 ?_
            refine cv_putf fpX12_244 dX12_see_91 rfl (Nat.le_of_ble_eq_true rfl) (fun _ => ⟨rfl, rfl⟩) ?_
            refine cv_aload_n dX12_see_94 rfl ?_
            refine cv_getf flX12_244 dX12_see_95 rfl rfl ?_
            refine cv_iret rfl dX12_see_98 ⟨Nat.le_refl _, Nat.le_refl _⟩ (by
        have e0 : gSee T a s q u y = ((y.2.2.1 : Int) + 1, (y.1, y.2.1, y.2.2.1 + 1, ct_up y.2.2.2.1 y.2.2.1 (100 * a + 10 * s + q), ct_up y.2.2.2.2 y.2.2.1 u)) := by unfold gSee; rw [if_neg (by omega), if_neg (by omega), if_neg (by omega)]
        rw [e0]
        refine ⟨ct_rI (by show o 3 + 1 = _; omega), upA o 3 (o 3 + 1), upA (upA A 10 (ct_up (A 10) y.2.2.1 (100 * a + 10 * s + q))) 11 (ct_up (A 11) y.2.2.1 u), tm, tr, p, st, rfl, hst, hM.1, hM.2.1, hM.2.2.1, hM.2.2.2.1, hM.2.2.2.2.1, ⟨by show o 3 + 1 = ((y.2.2.1 + 1 : Nat) : Int); omega, fun i hi => ?_⟩, hM.2.2.2.2.2.2⟩
        show ct_up (A 10) y.2.2.1 (100 * a + 10 * s + q) i = ct_up y.2.2.2.1 y.2.2.1 (100 * a + 10 * s + q) i ∧ ct_up (A 11) y.2.2.1 u i = ct_up y.2.2.2.2 y.2.2.1 u i
        have hi' : i < y.2.2.1 + 1 := hi
        by_cases e : i = y.2.2.1
        · subst e; rw [ct_up_s, ct_up_s, ct_up_s, ct_up_s]; exact ⟨rfl, rfl⟩
        · rw [ct_up_n e, ct_up_n e, ct_up_n e, ct_up_n e]; exact hM.2.2.2.2.2.1.2 i (by omega))
          · refine cv_bipush dX12_see_55 (by decide) ?_
            refine cv_iret rfl dX12_see_57 ⟨Nat.le_refl _, Nat.le_refl _⟩ ⟨ct_rI (by unfold gSee; rw [if_neg (by omega), if_neg (by omega), if_pos (by omega)]), by unfold gSee; rw [if_neg (by omega), if_neg (by omega), if_pos (by omega)]; exact ⟨o, A, tm, tr, p, st, rfl, hst, hM⟩⟩
        · have cu : ¬ (0 ≤ u ∧ u ≤ 1) := ct_i_0.mp (by omega)
          refine cv_bipush dX12_see_43 (by decide) ?_
          refine cv_iret rfl dX12_see_45 ⟨Nat.le_refl _, Nat.le_refl _⟩ ⟨ct_rI (by unfold gSee; rw [if_neg (by omega), if_pos (by omega)]), by unfold gSee; rw [if_neg (by omega), if_pos (by omega)]; exact ⟨o, A, tm, tr, p, st, rfl, hst, hM⟩⟩
  · have ca : ¬ (0 ≤ a ∧ a < (tN T : Int)) := ct_i_0.mp (by omega)
    refine cv_iconst dX12_see_8 ?_
    refine cv_iret rfl dX12_see_9 ⟨Nat.le_refl _, Nat.le_refl _⟩ ⟨ct_rI (by unfold gSee; rw [if_pos ca]), by unfold gSee; rw [if_pos ca]; exact ⟨o, A, tm, tr, p, st, rfl, hst, hM⟩⟩
