set_option maxRecDepth 100000 in
theorem c_X6_hasNumber (T : ctT) (S : ctS) (hT : okT T) (x : Int) (hx : -2147483648 ≤ x ∧ x ≤ 2147483647) : CM MX6_hasNumber (0, 0, 0) [vR 10, vI x] (wS T S) (fun v w => v = some (vI (ct_i (0 ≤ x ∧ x < (tN T : Int)))) ∧ w = wS T S) := by
  refine CM.of (by decide) (Nat.le_of_ble_eq_true rfl) ?_
  show CV MX6_hasNumber (0, 0, 0) 20 (0, 0) 0 [(0, vR 10), (1, vI x)] [] (wS T S) _
  have hT1 := hT.1
  have hT2 := hT.2.1
  have hT3 := hT.2.2.1
  refine cv_iload_n dX6_hasNumber_0 rfl ?_
  refine cv_if_lt (tgt := 16) dX6_hasNumber_1 (by decide) (by omega) (fun h1 => ?_) (fun h1 => ?_)
  · refine cv_iconst dX6_hasNumber_16 ?_
    refine cv_zret rfl dX6_hasNumber_17 ⟨Nat.le_refl _, Nat.le_refl _⟩ (by omega) ⟨ct_rI (by first | exact (ct_i_t (by omega)).symm | exact (ct_i_f (by omega)).symm), rfl⟩
  · refine cv_iload_n dX6_hasNumber_4 rfl ?_
    refine cv_aload_n dX6_hasNumber_5 rfl ?_
    refine cv_getf flX6_9 dX6_hasNumber_6 rfl rfl ?_
    refine cv_icmp_ge (tgt := 16) dX6_hasNumber_9 (by decide) (by omega) (fun h9 => ?_) (fun h9 => ?_)
    · refine cv_iconst dX6_hasNumber_16 ?_
      refine cv_zret rfl dX6_hasNumber_17 ⟨Nat.le_refl _, Nat.le_refl _⟩ (by omega) ⟨ct_rI (by first | exact (ct_i_t (by omega)).symm | exact (ct_i_f (by omega)).symm), rfl⟩
    · refine cv_iconst dX6_hasNumber_12 ?_
      refine cv_goto (tgt := 17) dX6_hasNumber_13 (by decide) ?_
      refine cv_zret rfl dX6_hasNumber_17 ⟨Nat.le_refl _, Nat.le_refl _⟩ (by omega) ⟨ct_rI (by first | exact (ct_i_t (by omega)).symm | exact (ct_i_f (by omega)).symm), rfl⟩
set_option maxRecDepth 100000 in
theorem c_X6_hasRule (T : ctT) (S : ctS) (hT : okT T) (x : Int) (hx : -2147483648 ≤ x ∧ x ≤ 2147483647) : CM MX6_hasRule (0, 0, 0) [vR 10, vI x] (wS T S) (fun v w => v = some (vI (ct_i (0 ≤ x ∧ x < (tR T : Int)))) ∧ w = wS T S) := by
  refine CM.of (by decide) (Nat.le_of_ble_eq_true rfl) ?_
  show CV MX6_hasRule (0, 0, 0) 20 (0, 0) 0 [(0, vR 10), (1, vI x)] [] (wS T S) _
  have hT1 := hT.1
  have hT2 := hT.2.1
  have hT3 := hT.2.2.1
  refine cv_iload_n dX6_hasRule_0 rfl ?_
  refine cv_if_lt (tgt := 16) dX6_hasRule_1 (by decide) (by omega) (fun h1 => ?_) (fun h1 => ?_)
  · refine cv_iconst dX6_hasRule_16 ?_
    refine cv_zret rfl dX6_hasRule_17 ⟨Nat.le_refl _, Nat.le_refl _⟩ (by omega) ⟨ct_rI (by first | exact (ct_i_t (by omega)).symm | exact (ct_i_f (by omega)).symm), rfl⟩
  · refine cv_iload_n dX6_hasRule_4 rfl ?_
    refine cv_aload_n dX6_hasRule_5 rfl ?_
    refine cv_getf flX6_15 dX6_hasRule_6 rfl rfl ?_
    refine cv_icmp_ge (tgt := 16) dX6_hasRule_9 (by decide) (by omega) (fun h9 => ?_) (fun h9 => ?_)
    · refine cv_iconst dX6_hasRule_16 ?_
      refine cv_zret rfl dX6_hasRule_17 ⟨Nat.le_refl _, Nat.le_refl _⟩ (by omega) ⟨ct_rI (by first | exact (ct_i_t (by omega)).symm | exact (ct_i_f (by omega)).symm), rfl⟩
    · refine cv_iconst dX6_hasRule_12 ?_
      refine cv_goto (tgt := 17) dX6_hasRule_13 (by decide) ?_
      refine cv_zret rfl dX6_hasRule_17 ⟨Nat.le_refl _, Nat.le_refl _⟩ (by omega) ⟨ct_rI (by first | exact (ct_i_t (by omega)).symm | exact (ct_i_f (by omega)).symm), rfl⟩
/-- the mark is so; it is not so -/
def soP (S : ctS) (m : Int) : Prop := (m / 10 % 10 = 0 → m % 10 ≤ sLo S (m / 100).toNat) ∧ (¬ m / 10 % 10 = 0 → sHi S (m / 100).toNat ≤ m % 10)
def nsP (S : ctS) (m : Int) : Prop := (m / 10 % 10 = 0 → sHi S (m / 100).toNat < m % 10) ∧ (¬ m / 10 % 10 = 0 → m % 10 < sLo S (m / 100).toNat)
set_option maxRecDepth 100000 in
theorem c_X9_isSo (T : ctT) (S : ctS) (hT : okT T) (hS : okS T S) (m : Int) (hm : okM T m) : CM MX9_isSo (0, 0, 0) [vR 1, vI m] (wS T S) (fun v w => v = some (vI (ct_i (soP S m))) ∧ w = wS T S) := by
  refine CM.of (by decide) (Nat.le_of_ble_eq_true rfl) ?_
  show CV MX9_isSo (0, 0, 0) 20 (0, 0) 0 [(0, vR 1), (1, vI m)] [] (wS T S) _
  have hN := hT.2.1
  obtain ⟨h1, h2, h3⟩ := hm
  obtain ⟨hL1, hL2, hL3, hL4⟩ := hS.2.2.2.2.1 (m / 100).toNat (by omega)
  refine cv_iload_n dX9_isSo_0 rfl ?_
  refine cv_bipush dX9_isSo_1 (by decide) ?_
  refine cv_idiv dX9_isSo_3 (by omega) ?_
  refine cv_istore_n dX9_isSo_4 (by decide) rfl rfl ?_
  refine cv_iload_n dX9_isSo_5 rfl ?_
  refine cv_bipush dX9_isSo_6 (by decide) ?_
  refine cv_irem dX9_isSo_8 (by omega) ?_
  refine cv_istore_n dX9_isSo_9 (by decide) rfl rfl ?_
  refine cv_iload_n dX9_isSo_10 rfl ?_
  refine cv_bipush dX9_isSo_11 (by decide) ?_
  refine cv_idiv dX9_isSo_13 (by omega) ?_
  refine cv_bipush dX9_isSo_14 (by decide) ?_
  refine cv_irem dX9_isSo_16 (by omega) ?_
  refine cv_if_ne (tgt := 38) dX9_isSo_17 (by decide) (by omega) (fun h17 => ?_) (fun h17 => ?_)
  · refine cv_iload_n dX9_isSo_38 rfl ?_
    refine cv_aload_n dX9_isSo_39 rfl ?_
    refine cv_getf flX9_24 dX9_isSo_40 rfl rfl ?_
    refine cv_iload_n dX9_isSo_43 rfl ?_
    refine cv_iald dX9_isSo_44 rfl (by omega) ?_
    refine cv_icmp_lt (tgt := 52) dX9_isSo_45 (by decide) (by omega) (fun h45 => ?_) (fun h45 => ?_)
    · refine cv_iconst dX9_isSo_52 ?_
      refine cv_zret rfl dX9_isSo_53 ⟨Nat.le_refl _, Nat.le_refl _⟩ (by omega) ⟨ct_rI (by first | exact (ct_i_t (by unfold soP; omega)).symm | exact (ct_i_f (by unfold soP; omega)).symm), rfl⟩
    · refine cv_iconst dX9_isSo_48 ?_
      refine cv_goto (tgt := 53) dX9_isSo_49 (by decide) ?_
      refine cv_zret rfl dX9_isSo_53 ⟨Nat.le_refl _, Nat.le_refl _⟩ (by omega) ⟨ct_rI (by first | exact (ct_i_t (by unfold soP; omega)).symm | exact (ct_i_f (by unfold soP; omega)).symm), rfl⟩
  · refine cv_iload_n dX9_isSo_20 rfl ?_
    refine cv_aload_n dX9_isSo_21 rfl ?_
    refine cv_getf flX9_21 dX9_isSo_22 rfl rfl ?_
    refine cv_iload_n dX9_isSo_25 rfl ?_
    refine cv_iald dX9_isSo_26 rfl (by omega) ?_
    refine cv_icmp_gt (tgt := 34) dX9_isSo_27 (by decide) (by omega) (fun h27 => ?_) (fun h27 => ?_)
    · refine cv_iconst dX9_isSo_34 ?_
      refine cv_goto (tgt := 53) dX9_isSo_35 (by decide) ?_
      refine cv_zret rfl dX9_isSo_53 ⟨Nat.le_refl _, Nat.le_refl _⟩ (by omega) ⟨ct_rI (by first | exact (ct_i_t (by unfold soP; omega)).symm | exact (ct_i_f (by unfold soP; omega)).symm), rfl⟩
    · refine cv_iconst dX9_isSo_30 ?_
      refine cv_goto (tgt := 53) dX9_isSo_31 (by decide) ?_
      refine cv_zret rfl dX9_isSo_53 ⟨Nat.le_refl _, Nat.le_refl _⟩ (by omega) ⟨ct_rI (by first | exact (ct_i_t (by unfold soP; omega)).symm | exact (ct_i_f (by unfold soP; omega)).symm), rfl⟩
set_option maxRecDepth 100000 in
theorem c_X9_isNotSo (T : ctT) (S : ctS) (hT : okT T) (hS : okS T S) (m : Int) (hm : okM T m) : CM MX9_isNotSo (0, 0, 0) [vR 1, vI m] (wS T S) (fun v w => v = some (vI (ct_i (nsP S m))) ∧ w = wS T S) := by
  refine CM.of (by decide) (Nat.le_of_ble_eq_true rfl) ?_
  show CV MX9_isNotSo (0, 0, 0) 20 (0, 0) 0 [(0, vR 1), (1, vI m)] [] (wS T S) _
  have hN := hT.2.1
  obtain ⟨h1, h2, h3⟩ := hm
  obtain ⟨hL1, hL2, hL3, hL4⟩ := hS.2.2.2.2.1 (m / 100).toNat (by omega)
  refine cv_iload_n dX9_isNotSo_0 rfl ?_
  refine cv_bipush dX9_isNotSo_1 (by decide) ?_
  refine cv_idiv dX9_isNotSo_3 (by omega) ?_
  refine cv_istore_n dX9_isNotSo_4 (by decide) rfl rfl ?_
  refine cv_iload_n dX9_isNotSo_5 rfl ?_
  refine cv_bipush dX9_isNotSo_6 (by decide) ?_
  refine cv_irem dX9_isNotSo_8 (by omega) ?_
  refine cv_istore_n dX9_isNotSo_9 (by decide) rfl rfl ?_
  refine cv_iload_n dX9_isNotSo_10 rfl ?_
  refine cv_bipush dX9_isNotSo_11 (by decide) ?_
  refine cv_idiv dX9_isNotSo_13 (by omega) ?_
  refine cv_bipush dX9_isNotSo_14 (by decide) ?_
  refine cv_irem dX9_isNotSo_16 (by omega) ?_
  refine cv_if_ne (tgt := 38) dX9_isNotSo_17 (by decide) (by omega) (fun h17 => ?_) (fun h17 => ?_)
  · refine cv_iload_n dX9_isNotSo_38 rfl ?_
    refine cv_aload_n dX9_isNotSo_39 rfl ?_
    refine cv_getf flX9_21 dX9_isNotSo_40 rfl rfl ?_
    refine cv_iload_n dX9_isNotSo_43 rfl ?_
    refine cv_iald dX9_isNotSo_44 rfl (by omega) ?_
    refine cv_icmp_ge (tgt := 52) dX9_isNotSo_45 (by decide) (by omega) (fun h45 => ?_) (fun h45 => ?_)
    · refine cv_iconst dX9_isNotSo_52 ?_
      refine cv_zret rfl dX9_isNotSo_53 ⟨Nat.le_refl _, Nat.le_refl _⟩ (by omega) ⟨ct_rI (by first | exact (ct_i_t (by unfold nsP; omega)).symm | exact (ct_i_f (by unfold nsP; omega)).symm), rfl⟩
    · refine cv_iconst dX9_isNotSo_48 ?_
      refine cv_goto (tgt := 53) dX9_isNotSo_49 (by decide) ?_
      refine cv_zret rfl dX9_isNotSo_53 ⟨Nat.le_refl _, Nat.le_refl _⟩ (by omega) ⟨ct_rI (by first | exact (ct_i_t (by unfold nsP; omega)).symm | exact (ct_i_f (by unfold nsP; omega)).symm), rfl⟩
  · refine cv_iload_n dX9_isNotSo_20 rfl ?_
    refine cv_aload_n dX9_isNotSo_21 rfl ?_
    refine cv_getf flX9_24 dX9_isNotSo_22 rfl rfl ?_
    refine cv_iload_n dX9_isNotSo_25 rfl ?_
    refine cv_iald dX9_isNotSo_26 rfl (by omega) ?_
    refine cv_icmp_le (tgt := 34) dX9_isNotSo_27 (by decide) (by omega) (fun h27 => ?_) (fun h27 => ?_)
    · refine cv_iconst dX9_isNotSo_34 ?_
      refine cv_goto (tgt := 53) dX9_isNotSo_35 (by decide) ?_
      refine cv_zret rfl dX9_isNotSo_53 ⟨Nat.le_refl _, Nat.le_refl _⟩ (by omega) ⟨ct_rI (by first | exact (ct_i_t (by unfold nsP; omega)).symm | exact (ct_i_f (by unfold nsP; omega)).symm), rfl⟩
    · refine cv_iconst dX9_isNotSo_30 ?_
      refine cv_goto (tgt := 53) dX9_isNotSo_31 (by decide) ?_
      refine cv_zret rfl dX9_isNotSo_53 ⟨Nat.le_refl _, Nat.le_refl _⟩ (by omega) ⟨ct_rI (by first | exact (ct_i_t (by unfold nsP; omega)).symm | exact (ct_i_f (by unfold nsP; omega)).symm), rfl⟩
set_option maxRecDepth 100000 in
theorem c_X2_has (T : ctT) (S : ctS) (hS : okS T S) (x : Int) (hx : -2147483648 ≤ x ∧ x ≤ 2147483647) : CM MX2_has (0, 0, 0) [vR 7, vI x] (wS T S) (fun v w => v = some (vI (ct_i (0 ≤ x ∧ x < (sC S : Int)))) ∧ w = wS T S) := by
  refine CM.of (by decide) (Nat.le_of_ble_eq_true rfl) ?_
  show CV MX2_has (0, 0, 0) 20 (0, 0) 0 [(0, vR 7), (1, vI x)] [] (wS T S) _
  have hC := hS.2.2.2.2.2.1
  refine cv_iload_n dX2_has_0 rfl ?_
  refine cv_if_lt (tgt := 16) dX2_has_1 (by decide) (by omega) (fun h1 => ?_) (fun h1 => ?_)
  · refine cv_iconst dX2_has_16 ?_
    refine cv_zret rfl dX2_has_17 ⟨Nat.le_refl _, Nat.le_refl _⟩ (by omega) ⟨ct_rI (by first | exact (ct_i_t (by omega)).symm | exact (ct_i_f (by omega)).symm), rfl⟩
  · refine cv_iload_n dX2_has_4 rfl ?_
    refine cv_aload_n dX2_has_5 rfl ?_
    refine cv_getf flX2_18 dX2_has_6 rfl rfl ?_
    refine cv_icmp_ge (tgt := 16) dX2_has_9 (by decide) (by omega) (fun h9 => ?_) (fun h9 => ?_)
    · refine cv_iconst dX2_has_16 ?_
      refine cv_zret rfl dX2_has_17 ⟨Nat.le_refl _, Nat.le_refl _⟩ (by omega) ⟨ct_rI (by first | exact (ct_i_t (by omega)).symm | exact (ct_i_f (by omega)).symm), rfl⟩
    · refine cv_iconst dX2_has_12 ?_
      refine cv_goto (tgt := 17) dX2_has_13 (by decide) ?_
      refine cv_zret rfl dX2_has_17 ⟨Nat.le_refl _, Nat.le_refl _⟩ (by omega) ⟨ct_rI (by first | exact (ct_i_t (by omega)).symm | exact (ct_i_f (by omega)).symm), rfl⟩
set_option maxRecDepth 100000 in
theorem c_X2_at (T : ctT) (S : ctS) (c k : Nat) (hc : c < 40) (hk : k < 8) : CM MX2_at (0, 0, 0) [vR 7, vI c, vI k] (wS T S) (fun v w => v = some (vI (sCm S (8 * c + k))) ∧ w = wS T S) := by
  refine CM.of (by decide) (Nat.le_of_ble_eq_true rfl) ?_
  show CV MX2_at (0, 0, 0) 20 (0, 0) 0 [(0, vR 7), (1, vI c), (2, vI k)] [] (wS T S) _
  refine cv_aload_n dX2_at_0 rfl ?_
  refine cv_getf flX2_9 dX2_at_1 rfl rfl ?_
  refine cv_iload_n dX2_at_4 rfl ?_
  refine cv_bipush dX2_at_5 (by decide) ?_
  refine cv_imul dX2_at_7 ?_
  refine cv_iload_n dX2_at_8 rfl ?_
  refine cv_iadd dX2_at_9 ?_
  refine cv_iald dX2_at_10 rfl (by omega) ?_
  refine cv_iret rfl dX2_at_11 ⟨Nat.le_refl _, Nat.le_refl _⟩ ⟨ct_rI (by congr 1; omega), rfl⟩
/-- the level -/
def fLv (S : ctS) : Int := if sZ S = 0 then 0 else sL S (sZ S - 1)
set_option maxRecDepth 100000 in
theorem c_X9_level (T : ctT) (S : ctS) (hS : okS T S) : CM MX9_level (0, 0, 0) [vR 1] (wS T S) (fun v w => v = some (vI (fLv S)) ∧ w = wS T S) := by
  refine CM.of (by decide) (Nat.le_of_ble_eq_true rfl) ?_
  show CV MX9_level (0, 0, 0) 20 (0, 0) 0 [(0, vR 1)] [] (wS T S) _
  have hZ := hS.1
  refine cv_aload_n dX9_level_0 rfl ?_
  refine cv_getf flX9_27 dX9_level_1 rfl rfl ?_
  refine cv_if_le (tgt := 21) dX9_level_4 (by decide) (by omega) (fun h4 => ?_) (fun h4 => ?_)
  · refine cv_iconst dX9_level_21 ?_
    refine cv_iret rfl dX9_level_22 ⟨Nat.le_refl _, Nat.le_refl _⟩ ⟨ct_rI (by unfold fLv; first | (rw [if_pos (by omega)]; done) | (rw [if_neg (by omega)]; congr 1; omega)), rfl⟩
  · refine cv_aload_n dX9_level_7 rfl ?_
    refine cv_getf flX9_15 dX9_level_8 rfl rfl ?_
    refine cv_aload_n dX9_level_11 rfl ?_
    refine cv_getf flX9_27 dX9_level_12 rfl rfl ?_
    refine cv_iconst dX9_level_15 ?_
    refine cv_isub dX9_level_16 ?_
    refine cv_iald dX9_level_17 rfl (by omega) ?_
    refine cv_goto (tgt := 22) dX9_level_18 (by decide) ?_
    refine cv_iret rfl dX9_level_22 ⟨Nat.le_refl _, Nat.le_refl _⟩ ⟨ct_rI (by unfold fLv; first | (rw [if_pos (by omega)]; done) | (rw [if_neg (by omega)]; congr 1; omega)), rfl⟩
