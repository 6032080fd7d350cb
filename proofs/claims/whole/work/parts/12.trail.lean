set_option maxRecDepth 100000 in
set_option maxHeartbeats 1000000 in
theorem c_X6_hasNumber (T : ctT) (S : ctS) (hT : okT T) (x : Int) (hx : -2147483648 ≤ x ∧ x ≤ 2147483647) : CM MX6_hasNumber (0, 0, 0) [vR 10, vI x] (wS T S) (fun v w => v = some (vI (ct_i (0 ≤ x ∧ x < (tN T : Int)))) ∧ w = wS T S) := by
  refine CM.of (by decide) (Nat.le_of_ble_eq_true rfl) ?_
  show CV MX6_hasNumber (0, 0, 0) 20 (0, 0) 0 [(0, vR 10), (1, vI x)] [] (wS T S) _
  have hT1 := hT.1
  have hT2 := hT.2.1
  have hT3 := hT.2.2.1
  refine cv_iload_n dX6_hasNumber_0 rfl ?_
  refine cv_if_lt (tgt := 16) dX6_hasNumber_1 (by decide) (by omega) (fun h1 => ?_) (fun h1 => ?_)
  · refine cv_iconst dX6_hasNumber_16 ?_
    refine cv_zret rfl dX6_hasNumber_17 ⟨Nat.le_refl _, Nat.le_refl _⟩ (by omega) ⟨ct_rI (by first | exact (ct_i_t (by omega)).symm | exact (ct_i_f (by omega)).symm), rfl⟩
  · refine cv_iload_n dX6_hasNumber_4 rfl ?_
    refine cv_aload_n dX6_hasNumber_5 rfl ?_
    refine cv_getf flX6_9 dX6_hasNumber_6 rfl rfl ?_
    refine cv_icmp_ge (tgt := 16) dX6_hasNumber_9 (by decide) (by omega) (fun h9 => ?_) (fun h9 => ?_)
    · refine cv_iconst dX6_hasNumber_16 ?_
      refine cv_zret rfl dX6_hasNumber_17 ⟨Nat.le_refl _, Nat.le_refl _⟩ (by omega) ⟨ct_rI (by first | exact (ct_i_t (by omega)).symm | exact (ct_i_f (by omega)).symm), rfl⟩
    · refine cv_iconst dX6_hasNumber_12 ?_
      refine cv_goto (tgt := 17) dX6_hasNumber_13 (by decide) ?_
      refine cv_zret rfl dX6_hasNumber_17 ⟨Nat.le_refl _, Nat.le_refl _⟩ (by omega) ⟨ct_rI (by first | exact (ct_i_t (by omega)).symm | exact (ct_i_f (by omega)).symm), rfl⟩
set_option maxRecDepth 100000 in
set_option maxHeartbeats 1000000 in
theorem c_X6_hasRule (T : ctT) (S : ctS) (hT : okT T) (x : Int) (hx : -2147483648 ≤ x ∧ x ≤ 2147483647) : CM MX6_hasRule (0, 0, 0) [vR 10, vI x] (wS T S) (fun v w => v = some (vI (ct_i (0 ≤ x ∧ x < (tR T : Int)))) ∧ w = wS T S) := by
  refine CM.of (by decide) (Nat.le_of_ble_eq_true rfl) ?_
  show CV MX6_hasRule (0, 0, 0) 20 (0, 0) 0 [(0, vR 10), (1, vI x)] [] (wS T S) _
  have hT1 := hT.1
  have hT2 := hT.2.1
  have hT3 := hT.2.2.1
  refine cv_iload_n dX6_hasRule_0 rfl ?_
  refine cv_if_lt (tgt := 16) dX6_hasRule_1 (by decide) (by omega) (fun h1 => ?_) (fun h1 => ?_)
  · refine cv_iconst dX6_hasRule_16 ?_
    refine cv_zret rfl dX6_hasRule_17 ⟨Nat.le_refl _, Nat.le_refl _⟩ (by omega) ⟨ct_rI (by first | exact (ct_i_t (by omega)).symm | exact (ct_i_f (by omega)).symm), rfl⟩
  · refine cv_iload_n dX6_hasRule_4 rfl ?_
    refine cv_aload_n dX6_hasRule_5 rfl ?_
    refine cv_getf flX6_15 dX6_hasRule_6 rfl rfl ?_
    refine cv_icmp_ge (tgt := 16) dX6_hasRule_9 (by decide) (by omega) (fun h9 => ?_) (fun h9 => ?_)
    · refine cv_iconst dX6_hasRule_16 ?_
      refine cv_zret rfl dX6_hasRule_17 ⟨Nat.le_refl _, Nat.le_refl _⟩ (by omega) ⟨ct_rI (by first | exact (ct_i_t (by omega)).symm | exact (ct_i_f (by omega)).symm), rfl⟩
    · refine cv_iconst dX6_hasRule_12 ?_
      refine cv_goto (tgt := 17) dX6_hasRule_13 (by decide) ?_
      refine cv_zret rfl dX6_hasRule_17 ⟨Nat.le_refl _, Nat.le_refl _⟩ (by omega) ⟨ct_rI (by first | exact (ct_i_t (by omega)).symm | exact (ct_i_f (by omega)).symm), rfl⟩
/-- the mark is so; it is not so -/
def soP (S : ctS) (m : Int) : Prop := (m / 10 % 10 = 0 → m % 10 ≤ sLo S (m / 100).toNat) ∧ (¬ m / 10 % 10 = 0 → sHi S (m / 100).toNat ≤ m % 10)
def nsP (S : ctS) (m : Int) : Prop := (m / 10 % 10 = 0 → sHi S (m / 100).toNat < m % 10) ∧ (¬ m / 10 % 10 = 0 → m % 10 < sLo S (m / 100).toNat)
set_option maxRecDepth 100000 in
set_option maxHeartbeats 1000000 in
theorem c_X9_isSo (T : ctT) (S : ctS) (hT : okT T) (hS : okS T S) (m : Int) (hm : okM T m) : CM MX9_isSo (0, 0, 0) [vR 1, vI m] (wS T S) (fun v w => v = some (vI (ct_i (soP S m))) ∧ w = wS T S) := by
  refine CM.of (by decide) (Nat.le_of_ble_eq_true rfl) ?_
  show CV MX9_isSo (0, 0, 0) 20 (0, 0) 0 [(0, vR 1), (1, vI m)] [] (wS T S) _
  have hN := hT.2.1
  obtain ⟨h1, h2, h3⟩ := hm
  obtain ⟨hL1, hL2, hL3, hL4⟩ := hS.2.2.2.2.1 (m / 100).toNat (by omega)
  refine cv_iload_n dX9_isSo_0 rfl ?_
  refine cv_bipush dX9_isSo_1 (by decide) ?_
  refine cv_idiv dX9_isSo_3 (by omega) ?_
  refine cv_istore_n dX9_isSo_4 (by decide) rfl rfl ?_
  refine cv_iload_n dX9_isSo_5 rfl ?_
  refine cv_bipush dX9_isSo_6 (by decide) ?_
  refine cv_irem dX9_isSo_8 (by omega) ?_
  refine cv_istore_n dX9_isSo_9 (by decide) rfl rfl ?_
  refine cv_iload_n dX9_isSo_10 rfl ?_
  refine cv_bipush dX9_isSo_11 (by decide) ?_
  refine cv_idiv dX9_isSo_13 (by omega) ?_
  refine cv_bipush dX9_isSo_14 (by decide) ?_
  refine cv_irem dX9_isSo_16 (by omega) ?_
  refine cv_if_ne (tgt := 38) dX9_isSo_17 (by decide) (by omega) (fun h17 => ?_) (fun h17 => ?_)
  · refine cv_iload_n dX9_isSo_38 rfl ?_
    refine cv_aload_n dX9_isSo_39 rfl ?_
    refine cv_getf flX9_24 dX9_isSo_40 rfl rfl ?_
    refine cv_iload_n dX9_isSo_43 rfl ?_
    refine cv_iald dX9_isSo_44 rfl (by omega) ?_
    refine cv_icmp_lt (tgt := 52) dX9_isSo_45 (by decide) (by omega) (fun h45 => ?_) (fun h45 => ?_)
    · refine cv_iconst dX9_isSo_52 ?_
      refine cv_zret rfl dX9_isSo_53 ⟨Nat.le_refl _, Nat.le_refl _⟩ (by omega) ⟨ct_rI (by first | exact (ct_i_t (by unfold soP; omega)).symm | exact (ct_i_f (by unfold soP; omega)).symm), rfl⟩
    · refine cv_iconst dX9_isSo_48 ?_
      refine cv_goto (tgt := 53) dX9_isSo_49 (by decide) ?_
      refine cv_zret rfl dX9_isSo_53 ⟨Nat.le_refl _, Nat.le_refl _⟩ (by omega) ⟨ct_rI (by first | exact (ct_i_t (by unfold soP; omega)).symm | exact (ct_i_f (by unfold soP; omega)).symm), rfl⟩
  · refine cv_iload_n dX9_isSo_20 rfl ?_
    refine cv_aload_n dX9_isSo_21 rfl ?_
    refine cv_getf flX9_21 dX9_isSo_22 rfl rfl ?_
    refine cv_iload_n dX9_isSo_25 rfl ?_
    refine cv_iald dX9_isSo_26 rfl (by omega) ?_
    refine cv_icmp_gt (tgt := 34) dX9_isSo_27 (by decide) (by omega) (fun h27 => ?_) (fun h27 => ?_)
    · refine cv_iconst dX9_isSo_34 ?_
      refine cv_goto (tgt := 53) dX9_isSo_35 (by decide) ?_
      refine cv_zret rfl dX9_isSo_53 ⟨Nat.le_refl _, Nat.le_refl _⟩ (by omega) ⟨ct_rI (by first | exact (ct_i_t (by unfold soP; omega)).symm | exact (ct_i_f (by unfold soP; omega)).symm), rfl⟩
    · refine cv_iconst dX9_isSo_30 ?_
      refine cv_goto (tgt := 53) dX9_isSo_31 (by decide) ?_
      refine cv_zret rfl dX9_isSo_53 ⟨Nat.le_refl _, Nat.le_refl _⟩ (by omega) ⟨ct_rI (by first | exact (ct_i_t (by unfold soP; omega)).symm | exact (ct_i_f (by unfold soP; omega)).symm), rfl⟩
set_option maxRecDepth 100000 in
set_option maxHeartbeats 1000000 in
theorem c_X9_isNotSo (T : ctT) (S : ctS) (hT : okT T) (hS : okS T S) (m : Int) (hm : okM T m) : CM MX9_isNotSo (0, 0, 0) [vR 1, vI m] (wS T S) (fun v w => v = some (vI (ct_i (nsP S m))) ∧ w = wS T S) := by
  refine CM.of (by decide) (Nat.le_of_ble_eq_true rfl) ?_
  show CV MX9_isNotSo (0, 0, 0) 20 (0, 0) 0 [(0, vR 1), (1, vI m)] [] (wS T S) _
  have hN := hT.2.1
  obtain ⟨h1, h2, h3⟩ := hm
  obtain ⟨hL1, hL2, hL3, hL4⟩ := hS.2.2.2.2.1 (m / 100).toNat (by omega)
  refine cv_iload_n dX9_isNotSo_0 rfl ?_
  refine cv_bipush dX9_isNotSo_1 (by decide) ?_
  refine cv_idiv dX9_isNotSo_3 (by omega) ?_
  refine cv_istore_n dX9_isNotSo_4 (by decide) rfl rfl ?_
  refine cv_iload_n dX9_isNotSo_5 rfl ?_
  refine cv_bipush dX9_isNotSo_6 (by decide) ?_
  refine cv_irem dX9_isNotSo_8 (by omega) ?_
  refine cv_istore_n dX9_isNotSo_9 (by decide) rfl rfl ?_
  refine cv_iload_n dX9_isNotSo_10 rfl ?_
  refine cv_bipush dX9_isNotSo_11 (by decide) ?_
  refine cv_idiv dX9_isNotSo_13 (by omega) ?_
  refine cv_bipush dX9_isNotSo_14 (by decide) ?_
  refine cv_irem dX9_isNotSo_16 (by omega) ?_
  refine cv_if_ne (tgt := 38) dX9_isNotSo_17 (by decide) (by omega) (fun h17 => ?_) (fun h17 => ?_)
  · refine cv_iload_n dX9_isNotSo_38 rfl ?_
    refine cv_aload_n dX9_isNotSo_39 rfl ?_
    refine cv_getf flX9_21 dX9_isNotSo_40 rfl rfl ?_
    refine cv_iload_n dX9_isNotSo_43 rfl ?_
    refine cv_iald dX9_isNotSo_44 rfl (by omega) ?_
    refine cv_icmp_ge (tgt := 52) dX9_isNotSo_45 (by decide) (by omega) (fun h45 => ?_) (fun h45 => ?_)
    · refine cv_iconst dX9_isNotSo_52 ?_
      refine cv_zret rfl dX9_isNotSo_53 ⟨Nat.le_refl _, Nat.le_refl _⟩ (by omega) ⟨ct_rI (by first | exact (ct_i_t (by unfold nsP; omega)).symm | exact (ct_i_f (by unfold nsP; omega)).symm), rfl⟩
    · refine cv_iconst dX9_isNotSo_48 ?_
      refine cv_goto (tgt := 53) dX9_isNotSo_49 (by decide) ?_
      refine cv_zret rfl dX9_isNotSo_53 ⟨Nat.le_refl _, Nat.le_refl _⟩ (by omega) ⟨ct_rI (by first | exact (ct_i_t (by unfold nsP; omega)).symm | exact (ct_i_f (by unfold nsP; omega)).symm), rfl⟩
  · refine cv_iload_n dX9_isNotSo_20 rfl ?_
    refine cv_aload_n dX9_isNotSo_21 rfl ?_
    refine cv_getf flX9_24 dX9_isNotSo_22 rfl rfl ?_
    refine cv_iload_n dX9_isNotSo_25 rfl ?_
    refine cv_iald dX9_isNotSo_26 rfl (by omega) ?_
    refine cv_icmp_le (tgt := 34) dX9_isNotSo_27 (by decide) (by omega) (fun h27 => ?_) (fun h27 => ?_)
    · refine cv_iconst dX9_isNotSo_34 ?_
      refine cv_goto (tgt := 53) dX9_isNotSo_35 (by decide) ?_
      refine cv_zret rfl dX9_isNotSo_53 ⟨Nat.le_refl _, Nat.le_refl _⟩ (by omega) ⟨ct_rI (by first | exact (ct_i_t (by unfold nsP; omega)).symm | exact (ct_i_f (by unfold nsP; omega)).symm), rfl⟩
    · refine cv_iconst dX9_isNotSo_30 ?_
      refine cv_goto (tgt := 53) dX9_isNotSo_31 (by decide) ?_
      refine cv_zret rfl dX9_isNotSo_53 ⟨Nat.le_refl _, Nat.le_refl _⟩ (by omega) ⟨ct_rI (by first | exact (ct_i_t (by unfold nsP; omega)).symm | exact (ct_i_f (by unfold nsP; omega)).symm), rfl⟩
set_option maxRecDepth 100000 in
set_option maxHeartbeats 1000000 in
theorem c_X2_has (T : ctT) (S : ctS) (hS : okS T S) (x : Int) (hx : -2147483648 ≤ x ∧ x ≤ 2147483647) : CM MX2_has (0, 0, 0) [vR 7, vI x] (wS T S) (fun v w => v = some (vI (ct_i (0 ≤ x ∧ x < (sC S : Int)))) ∧ w = wS T S) := by
  refine CM.of (by decide) (Nat.le_of_ble_eq_true rfl) ?_
  show CV MX2_has (0, 0, 0) 20 (0, 0) 0 [(0, vR 7), (1, vI x)] [] (wS T S) _
  have hC := hS.2.2.2.2.2.1
  refine cv_iload_n dX2_has_0 rfl ?_
  refine cv_if_lt (tgt := 16) dX2_has_1 (by decide) (by omega) (fun h1 => ?_) (fun h1 => ?_)
  · refine cv_iconst dX2_has_16 ?_
    refine cv_zret rfl dX2_has_17 ⟨Nat.le_refl _, Nat.le_refl _⟩ (by omega) ⟨ct_rI (by first | exact (ct_i_t (by omega)).symm | exact (ct_i_f (by omega)).symm), rfl⟩
  · refine cv_iload_n dX2_has_4 rfl ?_
    refine cv_aload_n dX2_has_5 rfl ?_
    refine cv_getf flX2_18 dX2_has_6 rfl rfl ?_
    refine cv_icmp_ge (tgt := 16) dX2_has_9 (by decide) (by omega) (fun h9 => ?_) (fun h9 => ?_)
    · refine cv_iconst dX2_has_16 ?_
      refine cv_zret rfl dX2_has_17 ⟨Nat.le_refl _, Nat.le_refl _⟩ (by omega) ⟨ct_rI (by first | exact (ct_i_t (by omega)).symm | exact (ct_i_f (by omega)).symm), rfl⟩
    · refine cv_iconst dX2_has_12 ?_
      refine cv_goto (tgt := 17) dX2_has_13 (by decide) ?_
      refine cv_zret rfl dX2_has_17 ⟨Nat.le_refl _, Nat.le_refl _⟩ (by omega) ⟨ct_rI (by first | exact (ct_i_t (by omega)).symm | exact (ct_i_f (by omega)).symm), rfl⟩
set_option maxRecDepth 100000 in
set_option maxHeartbeats 1000000 in
theorem c_X2_at (T : ctT) (S : ctS) (c k : Nat) (hc : c < 40) (hk : k < 8) : CM MX2_at (0, 0, 0) [vR 7, vI c, vI k] (wS T S) (fun v w => v = some (vI (sCm S (8 * c + k))) ∧ w = wS T S) := by
  refine CM.of (by decide) (Nat.le_of_ble_eq_true rfl) ?_
  show CV MX2_at (0, 0, 0) 20 (0, 0) 0 [(0, vR 7), (1, vI c), (2, vI k)] [] (wS T S) _
  refine cv_aload_n dX2_at_0 rfl ?_
  refine cv_getf flX2_9 dX2_at_1 rfl rfl ?_
  refine cv_iload_n dX2_at_4 rfl ?_
  refine cv_bipush dX2_at_5 (by decide) ?_
  refine cv_imul dX2_at_7 ?_
  refine cv_iload_n dX2_at_8 rfl ?_
  refine cv_iadd dX2_at_9 ?_
  refine cv_iald dX2_at_10 rfl (by omega) ?_
  refine cv_iret rfl dX2_at_11 ⟨Nat.le_refl _, Nat.le_refl _⟩ ⟨ct_rI (by congr 1; omega), rfl⟩
/-- the level -/
def fLv (S : ctS) : Int := if sZ S = 0 then 0 else sL S (sZ S - 1)
set_option maxRecDepth 100000 in
set_option maxHeartbeats 1000000 in
theorem c_X9_level (T : ctT) (S : ctS) (hS : okS T S) : CM MX9_level (0, 0, 0) [vR 1] (wS T S) (fun v w => v = some (vI (fLv S)) ∧ w = wS T S) := by
  refine CM.of (by decide) (Nat.le_of_ble_eq_true rfl) ?_
  show CV MX9_level (0, 0, 0) 20 (0, 0) 0 [(0, vR 1)] [] (wS T S) _
  have hZ := hS.1
  refine cv_aload_n dX9_level_0 rfl ?_
  refine cv_getf flX9_27 dX9_level_1 rfl rfl ?_
  refine cv_if_le (tgt := 21) dX9_level_4 (by decide) (by omega) (fun h4 => ?_) (fun h4 => ?_)
  · refine cv_iconst dX9_level_21 ?_
    refine cv_iret rfl dX9_level_22 ⟨Nat.le_refl _, Nat.le_refl _⟩ ⟨ct_rI (by unfold fLv; first | (rw [if_pos (by omega)]; done) | (rw [if_neg (by omega)]; congr 1; omega)), rfl⟩
  · refine cv_aload_n dX9_level_7 rfl ?_
    refine cv_getf flX9_15 dX9_level_8 rfl rfl ?_
    refine cv_aload_n dX9_level_11 rfl ?_
    refine cv_getf flX9_27 dX9_level_12 rfl rfl ?_
    refine cv_iconst dX9_level_15 ?_
    refine cv_isub dX9_level_16 ?_
    refine cv_iald dX9_level_17 rfl (by omega) ?_
    refine cv_goto (tgt := 22) dX9_level_18 (by decide) ?_
    refine cv_iret rfl dX9_level_22 ⟨Nat.le_refl _, Nat.le_refl _⟩ ⟨ct_rI (by unfold fLv; first | (rw [if_pos (by omega)]; done) | (rw [if_neg (by omega)]; congr 1; omega)), rfl⟩
/-- the first number that is open -/
noncomputable def fOp (T : ctT) (S : ctS) : Option Nat := ct_first (fun x => sLo S x < sHi S x) (tN T)
set_option maxRecDepth 100000 in
set_option maxHeartbeats 1000000 in
theorem c_X9_firstOpen (T : ctT) (S : ctS) (hT : okT T) (hS : okS T S) : CM MX9_firstOpen (0, 0, 0) [vR 1] (wS T S) (fun v w => v = some (vI (ct_o (-9) (fOp T S))) ∧ w = wS T S) := by
  refine CM.of (by decide) (Nat.le_of_ble_eq_true rfl) ?_
  show CV MX9_firstOpen (0, 0, 0) 20 (0, 0) 0 [(0, vR 1)] [] (wS T S) _
  have hN := hT.2.1
  have loop : ∀ (k : Nat) (i : Nat), (tN T < i + k) → (i ≤ tN T) → (∀ j, j < i → ¬ sLo S j < sHi S j) → CV MX9_firstOpen (0, 0, 0) 20 (0, 0) 2 [(0, vR 1), (1, vI i)] [] (wS T S) (fun v w => v = some (vI (ct_o (-9) (fOp T S))) ∧ w = wS T S) := by
    intro k
    induction k with
    | zero => intro i hk hi hv; exact absurd hk (by omega)
    | succ k ih =>
      intro i hk hi hv
      refine cv_iload_n dX9_firstOpen_2 rfl ?_
      refine cv_aload_n dX9_firstOpen_3 rfl ?_
      refine cv_getf flX9_31 dX9_firstOpen_4 rfl rfl ?_
      refine cv_getf flX9_47 dX9_firstOpen_7 rfl rfl ?_
      refine cv_icmp_ge (tgt := 36) dX9_firstOpen_10 (by decide) (by omega) (fun h10 => ?_) (fun h10 => ?_)
      · refine cv_bipush dX9_firstOpen_36 (by decide) ?_
        refine cv_iret rfl dX9_firstOpen_38 ⟨Nat.le_refl _, Nat.le_refl _⟩ ⟨ct_rI (by unfold fOp; rw [ct_first_no (fun j hj => hv j (by omega))]; rfl), rfl⟩
      · obtain ⟨q1, q2, q3, q4⟩ := hS.2.2.2.2.1 i (by omega)
        refine cv_aload_n dX9_firstOpen_13 rfl ?_
        refine cv_getf flX9_21 dX9_firstOpen_14 rfl rfl ?_
        refine cv_iload_n dX9_firstOpen_17 rfl ?_
        refine cv_ialj (i) dX9_firstOpen_18 rfl (by omega) (by omega) ?_
        refine cv_aload_n dX9_firstOpen_19 rfl ?_
        refine cv_getf flX9_24 dX9_firstOpen_20 rfl rfl ?_
        refine cv_iload_n dX9_firstOpen_23 rfl ?_
        refine cv_ialj (i) dX9_firstOpen_24 rfl (by omega) (by omega) ?_
        refine cv_icmp_ge (tgt := 30) dX9_firstOpen_25 (by decide) (by omega) (fun h25 => ?_) (fun h25 => ?_)
        · refine cv_iinc dX9_firstOpen_30 (by decide) rfl rfl rfl ?_
          refine cv_goto (tgt := 2) dX9_firstOpen_33 (by decide) ?_
          exact ih (i + 1) (by omega) (by omega) (fun j hj => by
            rcases Nat.lt_succ_iff_lt_or_eq.mp hj with q | q
            · exact hv j q
            · subst q
              exact Int.not_lt.mpr h25)
        · refine cv_iload_n dX9_firstOpen_28 rfl ?_
          refine cv_iret rfl dX9_firstOpen_29 ⟨Nat.le_refl _, Nat.le_refl _⟩ ⟨ct_rI (by unfold fOp; rw [ct_first_is (i := i) (Int.not_le.mp h25) hv (by omega)]; rfl), rfl⟩
  refine cv_iconst dX9_firstOpen_0 ?_
  refine cv_istore_n dX9_firstOpen_1 (by decide) rfl rfl ?_
  exact loop (tN T + 1) 0 (by omega) (by omega) (fun j hj => absurd hj (Nat.not_lt_zero _))
/-- the last place ahead of e with a mark of a number and side -/
noncomputable def fLa (S : ctS) (e : Nat) (x s : Int) : Option Nat := ct_last (fun i => sM S i / 10 = 10 * x + s) (min e (sZ S))
set_option maxRecDepth 100000 in
set_option maxHeartbeats 1000000 in
theorem c_X9_lastAhead (T : ctT) (S : ctS) (hT : okT T) (hS : okS T S) (e : Nat) (he : e ≤ 36) (x s : Int) (hx : 0 ≤ x ∧ x ≤ 9 ∧ 0 ≤ s ∧ s ≤ 9) : CM MX9_lastAhead (1, 0, 0) [vR 1, vI e, vI x, vI s] (wS T S) (fun v w => v = some (vI (ct_o (-1) (fLa S e x s))) ∧ w = wS T S) := by
  refine CM.of (by decide) (Nat.le_of_ble_eq_true rfl) ?_
  show CV MX9_lastAhead (1, 0, 0) 20 (0, 0) 0 [(0, vR 1), (1, vI e), (2, vI x), (3, vI s)] [] (wS T S) _
  have hZ := hS.1
  have hN := hT.2.1
  have loop : ∀ (k : Nat) (i : Int), (i < k) → (-1 ≤ i ∧ i < (min e (sZ S) : Nat)) → (∀ j : Nat, i < j → j < min e (sZ S) → ¬ sM S j / 10 = 10 * x + s) → CV MX9_lastAhead (1, 0, 0) 20 (0, 0) 12 [(0, vR 1), (1, vI e), (2, vI x), (3, vI s), (4, vI i)] [] (wS T S) (fun v w => v = some (vI (ct_o (-1) (fLa S e x s))) ∧ w = wS T S) := by
    intro k
    induction k with
    | zero =>
      intro i hk hi hv
      refine cv_iload dX9_lastAhead_12 rfl ?_
      refine cv_if_lt (tgt := 45) dX9_lastAhead_14 (by decide) (by omega) (fun h14 => ?_) (fun h14 => absurd h14 (by omega))
      refine cv_iconst dX9_lastAhead_45 ?_
      exact cv_iret rfl dX9_lastAhead_46 ⟨Nat.le_refl _, Nat.le_refl _⟩ ⟨ct_rI (by unfold fLa; rw [ct_last_no (fun j hj => hv j (by omega) hj)]; rfl), rfl⟩
    | succ k ih =>
      intro i hk hi hv
      refine cv_iload dX9_lastAhead_12 rfl ?_
      refine cv_if_lt (tgt := 45) dX9_lastAhead_14 (by decide) (by omega) (fun h14 => ?_) (fun h14 => ?_)
      · refine cv_iconst dX9_lastAhead_45 ?_
        refine cv_iret rfl dX9_lastAhead_46 ⟨Nat.le_refl _, Nat.le_refl _⟩ ⟨ct_rI (by unfold fLa; rw [ct_last_no (fun j hj => hv j (by omega) hj)]; rfl), rfl⟩
      · obtain ⟨q1, q2, q3⟩ := hS.2.1 i.toNat (by omega)
        refine cv_aload_n dX9_lastAhead_17 rfl ?_
        refine cv_getf flX9_9 dX9_lastAhead_18 rfl rfl ?_
        refine cv_iload dX9_lastAhead_21 rfl ?_
        refine cv_ialj (i.toNat) dX9_lastAhead_23 rfl (by omega) (by omega) ?_
        refine cv_bipush dX9_lastAhead_24 (by decide) ?_
        refine cv_idiv dX9_lastAhead_26 (by omega) ?_
        refine cv_bipush dX9_lastAhead_27 (by decide) ?_
        refine cv_iload_n dX9_lastAhead_29 rfl ?_
        refine cv_imul dX9_lastAhead_30 ?_
        refine cv_iload_n dX9_lastAhead_31 rfl ?_
        refine cv_iadd dX9_lastAhead_32 ?_
        refine cv_icmp_ne (tgt := 39) dX9_lastAhead_33 (by decide) (by omega) (fun h33 => ?_) (fun h33 => ?_)
        · refine cv_iinc dX9_lastAhead_39 (by decide) rfl rfl rfl ?_
          refine cv_goto (tgt := 12) dX9_lastAhead_42 (by decide) ?_
          exact ih (i + -1) (by omega) (by omega) (fun j h1 h2 => by
            by_cases hj : (j : Int) = i
            · have : j = i.toNat := by omega
              subst this
              exact h33
            · exact hv j (by omega) h2)
        · refine cv_iload dX9_lastAhead_36 rfl ?_
          refine cv_iret rfl dX9_lastAhead_38 ⟨Nat.le_refl _, Nat.le_refl _⟩ ⟨ct_rI (by unfold fLa; rw [ct_last_is (i := i.toNat) h33 (by omega) (fun j h1 h2 => hv j (by omega) h2)]; show i = ((i.toNat : Nat) : Int); omega), rfl⟩
  refine cv_iload_n dX9_lastAhead_0 rfl ?_
  refine cv_aload_n dX9_lastAhead_1 rfl ?_
  refine cv_getf flX9_27 dX9_lastAhead_2 rfl rfl ?_
  refine cv_min mlX9_50 dX9_lastAhead_5 (by decide) (Nat.le_of_ble_eq_true rfl) ⟨Nat.le_refl _, Nat.le_refl _⟩ (by omega) ?_
  refine cv_iconst dX9_lastAhead_8 ?_
  refine cv_isub dX9_lastAhead_9 ?_
  refine cv_istore dX9_lastAhead_10 (by decide) rfl rfl ?_
  exact loop 40 _ (by omega) (by omega) (fun j h1 h2 => by omega)
/-- some mark of the trail has that reason -/
def rsP (S : ctS) (q : Int) : Prop := ∃ i, i < sZ S ∧ sR S i = q
set_option maxRecDepth 100000 in
set_option maxHeartbeats 1000000 in
theorem c_X9_hasReason (T : ctT) (S : ctS) (hS : okS T S) (q : Int) (hq : -2147483648 ≤ q ∧ q ≤ 2147483647) : CM MX9_hasReason (0, 0, 0) [vR 1, vI q] (wS T S) (fun v w => v = some (vI (ct_i (rsP S q))) ∧ w = wS T S) := by
  refine CM.of (by decide) (Nat.le_of_ble_eq_true rfl) ?_
  show CV MX9_hasReason (0, 0, 0) 20 (0, 0) 0 [(0, vR 1), (1, vI q)] [] (wS T S) _
  have hZ := hS.1
  have loop : ∀ (k : Nat) (i : Nat), (sZ S < i + k) → (i ≤ sZ S) → (∀ j, j < i → ¬ sR S j = q) → CV MX9_hasReason (0, 0, 0) 20 (0, 0) 2 [(0, vR 1), (1, vI q), (2, vI i)] [] (wS T S) (fun v w => v = some (vI (ct_i (rsP S q))) ∧ w = wS T S) := by
    intro k
    induction k with
    | zero => intro i hk hi hv; exact absurd hk (by omega)
    | succ k ih =>
      intro i hk hi hv
      refine cv_iload_n dX9_hasReason_2 rfl ?_
      refine cv_aload_n dX9_hasReason_3 rfl ?_
      refine cv_getf flX9_27 dX9_hasReason_4 rfl rfl ?_
      refine cv_icmp_ge (tgt := 28) dX9_hasReason_7 (by decide) (by omega) (fun h7 => ?_) (fun h7 => ?_)
      · refine cv_iconst dX9_hasReason_28 ?_
        refine cv_zret rfl dX9_hasReason_29 ⟨Nat.le_refl _, Nat.le_refl _⟩ (by omega) ⟨ct_rI (ct_i_f (fun ⟨j, h1, h2⟩ => hv j (by omega) h2)).symm, rfl⟩
      · obtain ⟨q1, q2⟩ := hS.2.2.2.1 i (by omega)
        refine cv_aload_n dX9_hasReason_10 rfl ?_
        refine cv_getf flX9_18 dX9_hasReason_11 rfl rfl ?_
        refine cv_iload_n dX9_hasReason_14 rfl ?_
        refine cv_ialj (i) dX9_hasReason_15 rfl (by omega) (by omega) ?_
        refine cv_iload_n dX9_hasReason_16 rfl ?_
        refine cv_icmp_ne (tgt := 22) dX9_hasReason_17 (by decide) (by omega) (fun h17 => ?_) (fun h17 => ?_)
        · refine cv_iinc dX9_hasReason_22 (by decide) rfl rfl rfl ?_
          refine cv_goto (tgt := 2) dX9_hasReason_25 (by decide) ?_
          exact ih (i + 1) (by omega) (by omega) (fun j hj => by
            rcases Nat.lt_succ_iff_lt_or_eq.mp hj with h0 | h0
            · exact hv j h0
            · subst h0
              exact h17)
        · refine cv_iconst dX9_hasReason_20 ?_
          refine cv_zret rfl dX9_hasReason_21 ⟨Nat.le_refl _, Nat.le_refl _⟩ (by omega) ⟨ct_rI (ct_i_t ⟨i, by omega, h17⟩).symm, rfl⟩
  refine cv_iconst dX9_hasReason_0 ?_
  refine cv_istore_n dX9_hasReason_1 (by decide) rfl rfl ?_
  exact loop (sZ S + 1) 0 (by omega) (by omega) (fun j hj => absurd hj (Nat.not_lt_zero _))
/-- a state with another part -/
def uZ (S : ctS) (n : Nat) : ctS := (n, S.2)
def uMt (S : ctS) (n : Nat) (f g h : Nat → Int) : ctS := (n, f, g, h, S.2.2.2.2)
def uR (S : ctS) (f : Nat → Int) : ctS := (S.1, S.2.1, S.2.2.1, f, S.2.2.2.2)
def uLo (S : ctS) (f : Nat → Int) : ctS := (S.1, S.2.1, S.2.2.1, S.2.2.2.1, f, S.2.2.2.2.2)
def uHi (S : ctS) (f : Nat → Int) : ctS := (S.1, S.2.1, S.2.2.1, S.2.2.2.1, S.2.2.2.2.1, f, S.2.2.2.2.2.2)
def uC (S : ctS) (n : Nat) : ctS := (S.1, S.2.1, S.2.2.1, S.2.2.2.1, S.2.2.2.2.1, S.2.2.2.2.2.1, n, S.2.2.2.2.2.2.2)
def uCm (S : ctS) (f : Nat → Int) : ctS := (S.1, S.2.1, S.2.2.1, S.2.2.2.1, S.2.2.2.2.1, S.2.2.2.2.2.1, S.2.2.2.2.2.2.1, f, S.2.2.2.2.2.2.2.2)
def uCs (S : ctS) (f : Nat → Int) : ctS := (S.1, S.2.1, S.2.2.1, S.2.2.2.1, S.2.2.2.2.1, S.2.2.2.2.2.1, S.2.2.2.2.2.2.1, S.2.2.2.2.2.2.2.1, f, S.2.2.2.2.2.2.2.2.2)
def uH (S : ctS) (h : Int) : ctS := (S.1, S.2.1, S.2.2.1, S.2.2.2.1, S.2.2.2.2.1, S.2.2.2.2.2.1, S.2.2.2.2.2.2.1, S.2.2.2.2.2.2.2.1, S.2.2.2.2.2.2.2.2.1, h)
/-- reasons above q are one less, of the first i marks -/
def fLR (S : ctS) (q : Int) : Nat → (Nat → Int)
  | 0 => sR S
  | i + 1 => if q < fLR S q i i then ct_up (fLR S q i) i (fLR S q i i - 1) else fLR S q i
theorem fLR_s (S : ctS) (q : Int) (i : Nat) : fLR S q (i + 1) = if q < fLR S q i i then ct_up (fLR S q i) i (fLR S q i i - 1) else fLR S q i := rfl
theorem fLR_at (S : ctS) (q : Int) : ∀ (i j : Nat), fLR S q i j = if j < i ∧ q < sR S j then sR S j - 1 else sR S j
  | 0, j => by rw [if_neg (by omega)]; rfl
  | i + 1, j => by
    have h1 := fLR_at S q i j
    have h2 := fLR_at S q i i
    rw [if_neg (by omega)] at h2
    unfold fLR
    by_cases hq : q < fLR S q i i
    · rw [if_pos hq]
      by_cases hj : j = i
      · subst hj
        rw [ct_up_s, h2, if_pos ⟨by omega, by omega⟩]
      · rw [ct_up_n hj, h1]
        by_cases h3 : j < i ∧ q < sR S j
        · rw [if_pos h3, if_pos ⟨by omega, h3.2⟩]
        · rw [if_neg h3, if_neg (fun h4 => h3 ⟨by omega, h4.2⟩)]
    · rw [if_neg hq, h1]
      by_cases hj : j = i
      · subst hj
        rw [if_neg (by omega), if_neg (by omega)]
      · by_cases h3 : j < i ∧ q < sR S j
        · rw [if_pos h3, if_pos ⟨by omega, h3.2⟩]
        · rw [if_neg h3, if_neg (fun h4 => h3 ⟨by omega, h4.2⟩)]
set_option maxRecDepth 100000 in
set_option maxHeartbeats 1000000 in
theorem c_X9_lowerReasonsAbove (T : ctT) (S : ctS) (hS : okS T S) (q : Int) (hq : -2147483648 ≤ q ∧ q ≤ 2147483647) : CM MX9_lowerReasonsAbove (0, 0, 0) [vR 1, vI q] (wS T S) (fun v w => v = none ∧ w = wS T (uR S (fLR S q (sZ S)))) := by
  refine CM.of (by decide) (Nat.le_of_ble_eq_true rfl) ?_
  show CV MX9_lowerReasonsAbove (0, 0, 0) 20 (0, 0) 0 [(0, vR 1), (1, vI q)] [] (wS T S) _
  have hZ := hS.1
  have loop : ∀ (k : Nat) (i : Nat), (sZ S < i + k) → (i ≤ sZ S) → CV MX9_lowerReasonsAbove (0, 0, 0) 20 (0, 0) 2 [(0, vR 1), (1, vI q), (2, vI i)] [] (wS T (uR S (fLR S q i))) (fun v w => v = none ∧ w = wS T (uR S (fLR S q (sZ S)))) := by
    intro k
    induction k with
    | zero => intro i hk hi; exact absurd hk (by omega)
    | succ k ih =>
      intro i hk hi
      have e1 : sZ (uR S (fLR S q i)) = sZ S := rfl
      have e2 : sR (uR S (fLR S q i)) i = fLR S q i i := rfl
      have eR := fLR_at S q i i
      rw [if_neg (by omega)] at eR
      have step30 : ∀ w, wS T (uR S (fLR S q (i + 1))) = w → i < sZ S → CV MX9_lowerReasonsAbove (0, 0, 0) 20 (0, 0) 30 [(0, vR 1), (1, vI q), (2, vI i)] [] w (fun v w => v = none ∧ w = wS T (uR S (fLR S q (sZ S)))) := by
        intro w hw hlt
        subst hw
        refine cv_iinc dX9_lowerReasonsAbove_30 (by decide) rfl rfl rfl ?_
        refine cv_goto (tgt := 2) dX9_lowerReasonsAbove_33 (by decide) ?_
        exact ih (i + 1) (by omega) (by omega)
      refine cv_iload_n dX9_lowerReasonsAbove_2 rfl ?_
      refine cv_aload_n dX9_lowerReasonsAbove_3 rfl ?_
      refine cv_getf flX9_27 dX9_lowerReasonsAbove_4 rfl rfl ?_
      refine cv_icmp_ge (tgt := 36) dX9_lowerReasonsAbove_7 (by decide) (by omega) (fun h7 => ?_) (fun h7 => ?_)
      · refine cv_ret rfl dX9_lowerReasonsAbove_36 ⟨Nat.le_refl _, Nat.le_refl _⟩ ⟨rfl, by rw [show i = sZ S by omega]⟩
      · obtain ⟨q1, q2⟩ := hS.2.2.2.1 i (by omega)
        have q3 : fLR S q i i = sR S i := eR
        refine cv_aload_n dX9_lowerReasonsAbove_10 rfl ?_
        refine cv_getf flX9_18 dX9_lowerReasonsAbove_11 rfl rfl ?_
        refine cv_iload_n dX9_lowerReasonsAbove_14 rfl ?_
        refine cv_ialj (i) dX9_lowerReasonsAbove_15 rfl (by omega) (by omega) ?_
        refine cv_iload_n dX9_lowerReasonsAbove_16 rfl ?_
        refine cv_icmp_le (tgt := 30) dX9_lowerReasonsAbove_17 (by decide) (by omega) (fun h17 => ?_) (fun h17 => ?_)
        · exact step30 _ (by rw [fLR_s, if_neg (by omega)]) (by omega)
        · refine cv_aload_n dX9_lowerReasonsAbove_20 rfl ?_
          refine cv_getf flX9_18 dX9_lowerReasonsAbove_21 rfl rfl ?_
          refine cv_iload_n dX9_lowerReasonsAbove_24 rfl ?_
          refine cv_dup2 dX9_lowerReasonsAbove_25 rfl rfl ?_
          refine cv_ialj (i) dX9_lowerReasonsAbove_26 rfl (by omega) (by omega) ?_
          refine cv_iconst dX9_lowerReasonsAbove_27 ?_
          refine cv_isub dX9_lowerReasonsAbove_28 ?_
          refine cv_iasj (i) dX9_lowerReasonsAbove_29 rfl (by omega) (by omega) ?_
          exact step30 _ (by rw [fLR_s, if_pos (by omega)]; rfl) (by omega)
  refine cv_iconst dX9_lowerReasonsAbove_0 ?_
  refine cv_istore_n dX9_lowerReasonsAbove_1 (by decide) rfl rfl ?_
  exact loop (sZ S + 1) 0 (by omega) (by omega)
/-- a mark draws its bound in -/
def fDr (S : ctS) (m : Int) : ctS := if m / 10 % 10 = 0 then uLo S (ct_up (sLo S) (m / 100).toNat (m % 10)) else uHi S (ct_up (sHi S) (m / 100).toNat (m % 10))
/-- a mark comes onto the trail -/
def fPut (S : ctS) (m l r : Int) : ctS := fDr (uMt S (sZ S + 1) (ct_up (sM S) (sZ S) m) (ct_up (sL S) (sZ S) l) (ct_up (sR S) (sZ S) r)) m
set_option maxRecDepth 100000 in
set_option maxHeartbeats 1000000 in
theorem c_X9_draw (T : ctT) (S : ctS) (hT : okT T) (m : Int) (hm : okM T m) : CM MX9_draw (0, 0, 0) [vR 1, vI m] (wS T S) (fun v w => v = none ∧ w = wS T (fDr S m)) := by
  refine CM.of (by decide) (Nat.le_of_ble_eq_true rfl) ?_
  show CV MX9_draw (0, 0, 0) 20 (0, 0) 0 [(0, vR 1), (1, vI m)] [] (wS T S) _
  have hN := hT.2.1
  obtain ⟨h1, h2, h3⟩ := hm
  refine cv_iload_n dX9_draw_0 rfl ?_
  refine cv_bipush dX9_draw_1 (by decide) ?_
  refine cv_idiv dX9_draw_3 (by omega) ?_
  refine cv_bipush dX9_draw_4 (by decide) ?_
  refine cv_irem dX9_draw_6 (by omega) ?_
  refine cv_if_ne (tgt := 17) dX9_draw_7 (by decide) (by omega) (fun h7 => ?_) (fun h7 => ?_)
  · refine cv_aload_n dX9_draw_17 rfl ?_
    refine cv_getf flX9_24 dX9_draw_18 rfl rfl ?_
    refine cv_astore_n dX9_draw_21 (by decide) rfl rfl ?_
    refine cv_aload_n dX9_draw_22 rfl ?_
    refine cv_iload_n dX9_draw_23 rfl ?_
    refine cv_bipush dX9_draw_24 (by decide) ?_
    refine cv_idiv dX9_draw_26 (by omega) ?_
    refine cv_iload_n dX9_draw_27 rfl ?_
    refine cv_bipush dX9_draw_28 (by decide) ?_
    refine cv_irem dX9_draw_30 (by omega) ?_
    refine cv_iast dX9_draw_31 rfl (by omega) ?_
    refine cv_ret rfl dX9_draw_32 ⟨Nat.le_refl _, Nat.le_refl _⟩ ⟨rfl, by unfold fDr; rw [if_neg h7]; rfl⟩
  · refine cv_aload_n dX9_draw_10 rfl ?_
    refine cv_getf flX9_21 dX9_draw_11 rfl rfl ?_
    refine cv_goto (tgt := 21) dX9_draw_14 (by decide) ?_
    refine cv_astore_n dX9_draw_21 (by decide) rfl rfl ?_
    refine cv_aload_n dX9_draw_22 rfl ?_
    refine cv_iload_n dX9_draw_23 rfl ?_
    refine cv_bipush dX9_draw_24 (by decide) ?_
    refine cv_idiv dX9_draw_26 (by omega) ?_
    refine cv_iload_n dX9_draw_27 rfl ?_
    refine cv_bipush dX9_draw_28 (by decide) ?_
    refine cv_irem dX9_draw_30 (by omega) ?_
    refine cv_iast dX9_draw_31 rfl (by omega) ?_
    refine cv_ret rfl dX9_draw_32 ⟨Nat.le_refl _, Nat.le_refl _⟩ ⟨rfl, by unfold fDr; rw [if_pos h7]; rfl⟩
set_option maxRecDepth 100000 in
set_option maxHeartbeats 1000000 in
theorem c_X9_put (T : ctT) (S : ctS) (hT : okT T) (hZ : sZ S < 36) (m l q : Int) (hm : okM T m) : CM MX9_put (1, 0, 0) [vR 1, vI m, vI l, vI q] (wS T S) (fun v w => v = none ∧ w = wS T (fPut S m l q)) := by
  refine CM.of (by decide) (Nat.le_of_ble_eq_true rfl) ?_
  show CV MX9_put (1, 0, 0) 20 (0, 0) 0 [(0, vR 1), (1, vI m), (2, vI l), (3, vI q)] [] (wS T S) _
  refine cv_aload_n dX9_put_0 rfl ?_
  refine cv_getf flX9_27 dX9_put_1 rfl rfl ?_
  refine cv_bipush dX9_put_4 (by decide) ?_
  refine cv_icmp_ge (tgt := 54) dX9_put_6 (by decide) (by omega) (fun h6 => ?_) (fun h6 => ?_)
  · exact absurd h6 (by omega)
  · refine cv_aload_n dX9_put_9 rfl ?_
    refine cv_getf flX9_9 dX9_put_10 rfl rfl ?_
    refine cv_aload_n dX9_put_13 rfl ?_
    refine cv_getf flX9_27 dX9_put_14 rfl rfl ?_
    refine cv_iload_n dX9_put_17 rfl ?_
    refine cv_iasj (sZ S) dX9_put_18 rfl (by omega) (by omega) ?_
    refine cv_aload_n dX9_put_19 rfl ?_
    refine cv_getf flX9_15 dX9_put_20 rfl rfl ?_
    refine cv_aload_n dX9_put_23 rfl ?_
    refine cv_getf flX9_27 dX9_put_24 rfl rfl ?_
    refine cv_iload_n dX9_put_27 rfl ?_
    refine cv_iasj (sZ S) dX9_put_28 rfl (by omega) (by omega) ?_
    refine cv_aload_n dX9_put_29 rfl ?_
    refine cv_getf flX9_18 dX9_put_30 rfl rfl ?_
    refine cv_aload_n dX9_put_33 rfl ?_
    refine cv_getf flX9_27 dX9_put_34 rfl rfl ?_
    refine cv_iload_n dX9_put_37 rfl ?_
    refine cv_iasj (sZ S) dX9_put_38 rfl (by omega) (by omega) ?_
    refine cv_aload_n dX9_put_39 rfl ?_
    refine cv_dup dX9_put_40 rfl ?_
    refine cv_getf flX9_27 dX9_put_41 rfl rfl ?_
    refine cv_iconst dX9_put_44 ?_
    refine cv_iadd dX9_put_45 ?_
    refine cv_putf fpX9_27 dX9_put_46 rfl (Nat.le_of_ble_eq_true rfl) (fun _ => ⟨rfl, rfl⟩) ?_
    refine cv_aload_n dX9_put_49 rfl ?_
    refine cv_iload_n dX9_put_50 rfl ?_
    refine cv_sameV (c_X9_draw T (uMt S (sZ S + 1) (ct_up (sM S) (sZ S) m) (ct_up (sL S) (sZ S) l) (ct_up (sR S) (sZ S) q)) hT m hm) lkX9_draw mlX9_39 dX9_put_51 (by decide) rfl rfl (by decide) rfl (Nat.le_of_ble_eq_true rfl) ⟨Nat.le_refl _, Nat.le_refl _⟩ ?_
    intro v w1 hq
    obtain ⟨rfl, rfl⟩ := hq
    refine cv_ret rfl dX9_put_54 ⟨Nat.le_refl _, Nat.le_refl _⟩ ⟨rfl, rfl⟩
