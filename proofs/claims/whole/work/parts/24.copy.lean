/-- two states and their task: the first 0 .. 9, the other 10 .. 19, the task 20 .. 29 -/
def wCp (T : ctT) (S O : ctS) : List ct_C := wSt 0 20 S ++ (wSt 10 20 O ++ wT 20 T)
def fCpT (S O : ctS) : ctS := (sZ O, ct_cpy (sM O) (sM S) 0 0 (sZ O), ct_cpy (sL O) (sL S) 0 0 (sZ O), ct_cpy (sR O) (sR S) 0 0 (sZ O), ct_cpy (sLo O) (sLo S) 0 0 4, ct_cpy (sHi O) (sHi S) 0 0 4, S.2.2.2.2.2.2)
def fCpC (S O : ctS) : ctS := (S.1, S.2.1, S.2.2.1, S.2.2.2.1, S.2.2.2.2.1, S.2.2.2.2.2.1, sC O, ct_cpy (sCm O) (sCm S) 0 0 (8 * sC O), ct_cpy (sCs O) (sCs S) 0 0 (sC O), sH S)
/-- a state becomes what another is -/
def fCp (S O : ctS) : ctS := fCpC (fCpT (uH S (sH O)) O) O
set_option maxRecDepth 100000 in
set_option maxHeartbeats 1000000 in
theorem c_X9_copy (T : ctT) (S O : ctS) (hZ : sZ O ≤ 36) : CM MX9_copy (1, 0, 0) [vR 1, vR 11] (wCp T S O) (fun v w => v = none ∧ w = wCp T (fCpT S O) O) := by
  refine CM.of (by decide) (Nat.le_of_ble_eq_true rfl) ?_
  show CV MX9_copy (1, 0, 0) 30 (0, 0) 0 [(0, vR 1), (1, vR 11)] [] (wCp T S O) _
  refine cv_aload_n dX9_copy_0 rfl ?_
  refine cv_aload_n dX9_copy_1 rfl ?_
  refine cv_getf flX9_27 dX9_copy_2 rfl rfl ?_
  refine cv_putf fpX9_27 dX9_copy_5 rfl (Nat.le_of_ble_eq_true rfl) (fun _ => ⟨rfl, rfl⟩) ?_
  refine cv_aload_n dX9_copy_8 rfl ?_
  refine cv_getf flX9_9 dX9_copy_9 rfl rfl ?_
  refine cv_iconst dX9_copy_12 ?_
  refine cv_aload_n dX9_copy_13 rfl ?_
  refine cv_getf flX9_9 dX9_copy_14 rfl rfl ?_
  refine cv_iconst dX9_copy_17 ?_
  refine cv_aload_n dX9_copy_18 rfl ?_
  refine cv_getf flX9_27 dX9_copy_19 rfl rfl ?_
  refine cv_copy mlX9_56 dX9_copy_22 (by decide) (Nat.le_of_ble_eq_true rfl) rfl rfl (by omega) ?_
  refine cv_aload_n dX9_copy_25 rfl ?_
  refine cv_getf flX9_15 dX9_copy_26 rfl rfl ?_
  refine cv_iconst dX9_copy_29 ?_
  refine cv_aload_n dX9_copy_30 rfl ?_
  refine cv_getf flX9_15 dX9_copy_31 rfl rfl ?_
  refine cv_iconst dX9_copy_34 ?_
  refine cv_aload_n dX9_copy_35 rfl ?_
  refine cv_getf flX9_27 dX9_copy_36 rfl rfl ?_
  refine cv_copy mlX9_56 dX9_copy_39 (by decide) (Nat.le_of_ble_eq_true rfl) rfl rfl (by omega) ?_
  refine cv_aload_n dX9_copy_42 rfl ?_
  refine cv_getf flX9_18 dX9_copy_43 rfl rfl ?_
  refine cv_iconst dX9_copy_46 ?_
  refine cv_aload_n dX9_copy_47 rfl ?_
  refine cv_getf flX9_18 dX9_copy_48 rfl rfl ?_
  refine cv_iconst dX9_copy_51 ?_
  refine cv_aload_n dX9_copy_52 rfl ?_
  refine cv_getf flX9_27 dX9_copy_53 rfl rfl ?_
  refine cv_copy mlX9_56 dX9_copy_56 (by decide) (Nat.le_of_ble_eq_true rfl) rfl rfl (by omega) ?_
  refine cv_aload_n dX9_copy_59 rfl ?_
  refine cv_getf flX9_21 dX9_copy_60 rfl rfl ?_
  refine cv_iconst dX9_copy_63 ?_
  refine cv_aload_n dX9_copy_64 rfl ?_
  refine cv_getf flX9_21 dX9_copy_65 rfl rfl ?_
  refine cv_iconst dX9_copy_68 ?_
  refine cv_iconst dX9_copy_69 ?_
  refine cv_copy mlX9_56 dX9_copy_70 (by decide) (Nat.le_of_ble_eq_true rfl) rfl rfl (by omega) ?_
  refine cv_aload_n dX9_copy_73 rfl ?_
  refine cv_getf flX9_24 dX9_copy_74 rfl rfl ?_
  refine cv_iconst dX9_copy_77 ?_
  refine cv_aload_n dX9_copy_78 rfl ?_
  refine cv_getf flX9_24 dX9_copy_79 rfl rfl ?_
  refine cv_iconst dX9_copy_82 ?_
  refine cv_iconst dX9_copy_83 ?_
  refine cv_copy mlX9_56 dX9_copy_84 (by decide) (Nat.le_of_ble_eq_true rfl) rfl rfl (by omega) ?_
  refine cv_ret rfl dX9_copy_87 ⟨Nat.le_refl _, Nat.le_refl _⟩ ⟨rfl, rfl⟩
set_option maxRecDepth 100000 in
set_option maxHeartbeats 1000000 in
theorem c_X2_copy (T : ctT) (S O : ctS) (hC : sC O ≤ 40) : CM MX2_copy (1, 0, 0) [vR 7, vR 17] (wCp T S O) (fun v w => v = none ∧ w = wCp T (fCpC S O) O) := by
  refine CM.of (by decide) (Nat.le_of_ble_eq_true rfl) ?_
  show CV MX2_copy (1, 0, 0) 30 (0, 0) 0 [(0, vR 7), (1, vR 17)] [] (wCp T S O) _
  have e1 : ((sC O : Int) * 8).toNat = 8 * sC O := by omega
  refine cv_aload_n dX2_copy_0 rfl ?_
  refine cv_aload_n dX2_copy_1 rfl ?_
  refine cv_getf flX2_18 dX2_copy_2 rfl rfl ?_
  refine cv_putf fpX2_18 dX2_copy_5 rfl (Nat.le_of_ble_eq_true rfl) (fun _ => ⟨rfl, rfl⟩) ?_
  refine cv_aload_n dX2_copy_8 rfl ?_
  refine cv_getf flX2_15 dX2_copy_9 rfl rfl ?_
  refine cv_iconst dX2_copy_12 ?_
  refine cv_aload_n dX2_copy_13 rfl ?_
  refine cv_getf flX2_15 dX2_copy_14 rfl rfl ?_
  refine cv_iconst dX2_copy_17 ?_
  refine cv_aload_n dX2_copy_18 rfl ?_
  refine cv_getf flX2_18 dX2_copy_19 rfl rfl ?_
  refine cv_copy mlX2_22 dX2_copy_22 (by decide) (Nat.le_of_ble_eq_true rfl) rfl rfl (by omega) ?_
  refine cv_aload_n dX2_copy_25 rfl ?_
  refine cv_getf flX2_9 dX2_copy_26 rfl rfl ?_
  refine cv_iconst dX2_copy_29 ?_
  refine cv_aload_n dX2_copy_30 rfl ?_
  refine cv_getf flX2_9 dX2_copy_31 rfl rfl ?_
  refine cv_iconst dX2_copy_34 ?_
  refine cv_aload_n dX2_copy_35 rfl ?_
  refine cv_getf flX2_18 dX2_copy_36 rfl rfl ?_
  refine cv_bipush dX2_copy_39 (by decide) ?_
  refine cv_imul dX2_copy_41 ?_
  refine cv_copy mlX2_22 dX2_copy_42 (by decide) (Nat.le_of_ble_eq_true rfl) rfl rfl (by omega) ?_
  rw [e1]
  refine cv_ret rfl dX2_copy_45 ⟨Nat.le_refl _, Nat.le_refl _⟩ ⟨rfl, rfl⟩
set_option maxRecDepth 100000 in
set_option maxHeartbeats 1000000 in
theorem c_X5_copy (T : ctT) (S O : ctS) (hZ : sZ O ≤ 36) (hC : sC O ≤ 40) (hH : sH O = 0 ∨ sH O = 1) : CM MX5_copy (2, 0, 0) [vR 0, vR 10] (wCp T S O) (fun v w => v = none ∧ w = wCp T (fCp S O) O) := by
  refine CM.of (by decide) (Nat.le_of_ble_eq_true rfl) ?_
  show CV MX5_copy (2, 0, 0) 30 (0, 0) 0 [(0, vR 0), (1, vR 10)] [] (wCp T S O) _
  refine cv_aload_n dX5_copy_0 rfl ?_
  refine cv_aload_n dX5_copy_1 rfl ?_
  refine cv_getf flX5_18 dX5_copy_2 rfl rfl ?_
  refine cv_putf fpX5_18 dX5_copy_5 rfl (Nat.le_of_ble_eq_true rfl) (fun _ => by rcases hH with h | h <;> rw [h] <;> exact ⟨rfl, rfl⟩) ?_
  refine cv_aload_n dX5_copy_8 rfl ?_
  refine cv_getf flX5_31 dX5_copy_9 rfl rfl ?_
  refine cv_aload_n dX5_copy_12 rfl ?_
  refine cv_getf flX5_31 dX5_copy_13 rfl rfl ?_
  refine cv_sameV (c_X9_copy T (uH S (sH O)) O hZ) lkX9_copy mlX5_46 dX5_copy_16 (by decide) rfl rfl (by decide) rfl (Nat.le_of_ble_eq_true rfl) ⟨Nat.le_refl _, Nat.le_refl _⟩ ?_
  intro v w1 hq
  obtain ⟨rfl, rfl⟩ := hq
  refine cv_aload_n dX5_copy_19 rfl ?_
  refine cv_getf flX5_12 dX5_copy_20 rfl rfl ?_
  refine cv_aload_n dX5_copy_23 rfl ?_
  refine cv_getf flX5_12 dX5_copy_24 rfl rfl ?_
  refine cv_sameV (c_X2_copy T (fCpT (uH S (sH O)) O) O hC) lkX2_copy mlX5_50 dX5_copy_27 (by decide) rfl rfl (by decide) rfl (Nat.le_of_ble_eq_true rfl) ⟨Nat.le_refl _, Nat.le_refl _⟩ ?_
  intro v w1 hq
  obtain ⟨rfl, rfl⟩ := hq
  refine cv_ret rfl dX5_copy_30 ⟨Nat.le_refl _, Nat.le_refl _⟩ ⟨rfl, rfl⟩
/-- what was seen: how many, marks, whether so -/
def wSn (b n : Nat) (f g : Nat → Int) : List ct_C := [cO 3 [vR (b + 1), vR (b + 2), vI n], cA 0 6 f, cA 1 6 g]
set_option maxRecDepth 100000 in
set_option maxHeartbeats 1000000 in
theorem c_X3_put (n : Nat) (f g : Nat → Int) (hn : n < 6) (m s : Int) (hs : s = 0 ∨ s = 1) : CM MX3_put (0, 0, 0) [vR 0, vI m, vI s] (wSn 0 n f g) (fun v w => v = none ∧ w = wSn 0 (n + 1) (ct_up f n m) (ct_up g n s)) := by
  refine CM.of (by decide) (Nat.le_of_ble_eq_true rfl) ?_
  show CV MX3_put (0, 0, 0) 3 (0, 0) 0 [(0, vR 0), (1, vI m), (2, vI s)] [] (wSn 0 n f g) _
  refine cv_aload_n dX3_put_0 rfl ?_
  refine cv_getf flX3_19 dX3_put_1 rfl rfl ?_
  refine cv_bipush dX3_put_4 (by decide) ?_
  refine cv_icmp_ge (tgt := 39) dX3_put_6 (by decide) (by omega) (fun h6 => ?_) (fun h6 => ?_)
  · exact absurd h6 (by omega)
  · refine cv_aload_n dX3_put_9 rfl ?_
    refine cv_getf flX3_9 dX3_put_10 rfl rfl ?_
    refine cv_aload_n dX3_put_13 rfl ?_
    refine cv_getf flX3_19 dX3_put_14 rfl rfl ?_
    refine cv_iload_n dX3_put_17 rfl ?_
    refine cv_iasj (n) dX3_put_18 rfl (by omega) (by omega) ?_
    refine cv_aload_n dX3_put_19 rfl ?_
    refine cv_getf flX3_15 dX3_put_20 rfl rfl ?_
    refine cv_aload_n dX3_put_23 rfl ?_
    refine cv_getf flX3_19 dX3_put_24 rfl rfl ?_
    refine cv_iload_n dX3_put_27 rfl ?_
    refine cv_zasj (n) dX3_put_28 rfl (by omega) (by omega) (by omega) ?_
    refine cv_aload_n dX3_put_29 rfl ?_
    refine cv_dup dX3_put_30 rfl ?_
    refine cv_getf flX3_19 dX3_put_31 rfl rfl ?_
    refine cv_iconst dX3_put_34 ?_
    refine cv_iadd dX3_put_35 ?_
    refine cv_putf fpX3_19 dX3_put_36 rfl (Nat.le_of_ble_eq_true rfl) (fun _ => ⟨rfl, rfl⟩) ?_
    refine cv_ret rfl dX3_put_39 ⟨Nat.le_refl _, Nat.le_refl _⟩ ⟨rfl, rfl⟩
/-- the text: its length, its letters -/
def wTx (b n : Nat) (f : Nat → Int) : List ct_C := [cO 7 [vR (b + 1), vI n], cA 0 60 f]
def okL (f : Nat → Int) : Prop := ∀ i, i < 60 → 0 ≤ f i ∧ f i ≤ 255
set_option maxRecDepth 100000 in
set_option maxHeartbeats 1000000 in
theorem c_X7_put (n : Nat) (f : Nat → Int) (hn : n < 60) (m : Int) : CM MX7_put (0, 0, 0) [vR 0, vI m] (wTx 0 n f) (fun v w => v = none ∧ w = wTx 0 (n + 1) (ct_up f n m)) := by
  refine CM.of (by decide) (Nat.le_of_ble_eq_true rfl) ?_
  show CV MX7_put (0, 0, 0) 2 (0, 0) 0 [(0, vR 0), (1, vI m)] [] (wTx 0 n f) _
  refine cv_aload_n dX7_put_0 rfl ?_
  refine cv_getf flX7_15 dX7_put_1 rfl rfl ?_
  refine cv_bipush dX7_put_4 (by decide) ?_
  refine cv_icmp_ge (tgt := 29) dX7_put_6 (by decide) (by omega) (fun h6 => ?_) (fun h6 => ?_)
  · exact absurd h6 (by omega)
  · refine cv_aload_n dX7_put_9 rfl ?_
    refine cv_getf flX7_9 dX7_put_10 rfl rfl ?_
    refine cv_aload_n dX7_put_13 rfl ?_
    refine cv_getf flX7_15 dX7_put_14 rfl rfl ?_
    refine cv_iload_n dX7_put_17 rfl ?_
    refine cv_iasj (n) dX7_put_18 rfl (by omega) (by omega) ?_
    refine cv_aload_n dX7_put_19 rfl ?_
    refine cv_dup dX7_put_20 rfl ?_
    refine cv_getf flX7_15 dX7_put_21 rfl rfl ?_
    refine cv_iconst dX7_put_24 ?_
    refine cv_iadd dX7_put_25 ?_
    refine cv_putf fpX7_15 dX7_put_26 rfl (Nat.le_of_ble_eq_true rfl) (fun _ => ⟨rfl, rfl⟩) ?_
    refine cv_ret rfl dX7_put_29 ⟨Nat.le_refl _, Nat.le_refl _⟩ ⟨rfl, rfl⟩
/-- how many numbers the text tells -/
def fTn (f : Nat → Int) : Int := max 1 (min 4 (f 1 - 48))
theorem fTn_r (f : Nat → Int) : 1 ≤ fTn f ∧ fTn f ≤ 4 := by unfold fTn; omega
def figP (x : Int) : Prop := 48 ≤ x ∧ x ≤ 57
set_option maxRecDepth 100000 in
set_option maxHeartbeats 1000000 in
theorem c_X7_numbersTold (w : List ct_C) (q q2 n : Nat) (f : Nat → Int) (h1 : w[q]? = some (cO 7 [vR q2, vI n])) (h2 : w[q2]? = some (cA 0 60 f)) (hf : okL f) : CM MX7_numbersTold (1, 0, 0) [vR q] (w) (fun v w1 => v = some (vI (fTn f)) ∧ w1 = w) := by
  refine CM.of (by decide) (Nat.le_of_ble_eq_true rfl) ?_
  show CV MX7_numbersTold (1, 0, 0) w.length (0, 0) 0 [(0, vR q)] [] (w) _
  have h3 := hf 1 (by omega)
  refine cv_iconst dX7_numbersTold_0 ?_
  refine cv_iconst dX7_numbersTold_1 ?_
  refine cv_aload_n dX7_numbersTold_2 rfl ?_
  refine cv_getf flX7_9 dX7_numbersTold_3 h1 rfl ?_
  refine cv_iconst dX7_numbersTold_6 ?_
  refine cv_ialj (1) dX7_numbersTold_7 h2 (by omega) (by omega) ?_
  refine cv_bipush dX7_numbersTold_8 (by decide) ?_
  refine cv_isub dX7_numbersTold_10 ?_
  refine cv_min mlX7_38 dX7_numbersTold_11 (by decide) (Nat.le_of_ble_eq_true rfl) ⟨Nat.le_refl _, Nat.le_refl _⟩ (by omega) ?_
  refine cv_max mlX7_44 dX7_numbersTold_14 (by decide) (Nat.le_of_ble_eq_true rfl) ⟨Nat.le_refl _, Nat.le_refl _⟩ (by omega) ?_
  refine cv_iret rfl dX7_numbersTold_17 ⟨Nat.le_refl _, Nat.le_refl _⟩ ⟨rfl, rfl⟩
set_option maxRecDepth 100000 in
set_option maxHeartbeats 1000000 in
theorem c_X7_isFigure (w : List ct_C) (x : Int) (hx : -2147483648 ≤ x ∧ x ≤ 2147483647) : CM MX7_isFigure (0, 0, 0) [vI x] (w) (fun v w1 => v = some (vI (ct_i (figP x))) ∧ w1 = w) := by
  refine CM.of (by decide) (Nat.le_of_ble_eq_true rfl) ?_
  show CV MX7_isFigure (0, 0, 0) w.length (0, 0) 0 [(0, vI x)] [] (w) _
  refine cv_iload_n dX7_isFigure_0 rfl ?_
  refine cv_bipush dX7_isFigure_1 (by decide) ?_
  refine cv_icmp_lt (tgt := 16) dX7_isFigure_3 (by decide) (by omega) (fun h3 => ?_) (fun h3 => ?_)
  · refine cv_iconst dX7_isFigure_16 ?_
    refine cv_zret rfl dX7_isFigure_17 ⟨Nat.le_refl _, Nat.le_refl _⟩ (by omega) ⟨ct_rI (by first | exact (ct_i_t (by unfold figP; omega)).symm | exact (ct_i_f (by unfold figP; omega)).symm), rfl⟩
  · refine cv_iload_n dX7_isFigure_6 rfl ?_
    refine cv_bipush dX7_isFigure_7 (by decide) ?_
    refine cv_icmp_gt (tgt := 16) dX7_isFigure_9 (by decide) (by omega) (fun h9 => ?_) (fun h9 => ?_)
    · refine cv_iconst dX7_isFigure_16 ?_
      refine cv_zret rfl dX7_isFigure_17 ⟨Nat.le_refl _, Nat.le_refl _⟩ (by omega) ⟨ct_rI (by first | exact (ct_i_t (by unfold figP; omega)).symm | exact (ct_i_f (by unfold figP; omega)).symm), rfl⟩
    · refine cv_iconst dX7_isFigure_12 ?_
      refine cv_goto (tgt := 17) dX7_isFigure_13 (by decide) ?_
      refine cv_zret rfl dX7_isFigure_17 ⟨Nat.le_refl _, Nat.le_refl _⟩ (by omega) ⟨ct_rI (by first | exact (ct_i_t (by unfold figP; omega)).symm | exact (ct_i_f (by unfold figP; omega)).symm), rfl⟩
def crP (f : Nat → Int) (p : Nat) (a n : Int) : Prop := (a = 0 → f p = 114) ∧ (¬ a = 0 → a ≤ n → (48 ≤ f p ∧ f p ≤ 51) ∨ (97 ≤ f p ∧ f p ≤ 99)) ∧ (n < a → a = n + 1 → f p = 43 ∨ f p = 45) ∧ (n < a → a = n + 2 → 48 ≤ f p ∧ f p ≤ 51) ∧ (n < a → ¬ a = n + 1 → ¬ a = n + 2 → (f (p - 1) = 51 → f p = 48) ∧ (¬ f (p - 1) = 51 → 48 ≤ f p ∧ f p ≤ 57))
set_option maxRecDepth 100000 in
set_option maxHeartbeats 1000000 in
theorem c_X7_canStandInRule (n : Nat) (f : Nat → Int) (hf : okL f) (p : Nat) (hp : 1 ≤ p ∧ p < 60) (a N : Int) (ha : 0 ≤ a ∧ a ≤ 100 ∧ 1 ≤ N ∧ N ≤ 4) : CM MX7_canStandInRule (1, 0, 0) [vR 0, vI p, vI a, vI N] (wTx 0 n f) (fun v w => v = some (vI (ct_i (crP f p a N))) ∧ w = wTx 0 n f) := by
  refine CM.of (by decide) (Nat.le_of_ble_eq_true rfl) ?_
  show CV MX7_canStandInRule (1, 0, 0) 2 (0, 0) 0 [(0, vR 0), (1, vI p), (2, vI a), (3, vI N)] [] (wTx 0 n f) _
  have h1 := hf p (by omega)
  have h2 := hf (p - 1) (by omega)
  have r1 := ct_i_r (figP (f p))
  refine cv_aload_n dX7_canStandInRule_0 rfl ?_
  refine cv_getf flX7_9 dX7_canStandInRule_1 rfl rfl ?_
  refine cv_iload_n dX7_canStandInRule_4 rfl ?_
  refine cv_ialj (p) dX7_canStandInRule_5 rfl (by omega) (by omega) ?_
  refine cv_istore dX7_canStandInRule_6 (by decide) rfl rfl ?_
  refine cv_iload_n dX7_canStandInRule_8 rfl ?_
  refine cv_if_ne (tgt := 25) dX7_canStandInRule_9 (by decide) (by omega) (fun h9 => ?_) (fun h9 => ?_)
  · refine cv_iload_n dX7_canStandInRule_25 rfl ?_
    refine cv_iload_n dX7_canStandInRule_26 rfl ?_
    refine cv_icmp_gt (tgt := 64) dX7_canStandInRule_27 (by decide) (by omega) (fun h27 => ?_) (fun h27 => ?_)
    · refine cv_iload_n dX7_canStandInRule_64 rfl ?_
      refine cv_iload_n dX7_canStandInRule_65 rfl ?_
      refine cv_iconst dX7_canStandInRule_66 ?_
      refine cv_iadd dX7_canStandInRule_67 ?_
      refine cv_icmp_ne (tgt := 91) dX7_canStandInRule_68 (by decide) (by omega) (fun h68 => ?_) (fun h68 => ?_)
      · refine cv_iload_n dX7_canStandInRule_91 rfl ?_
        refine cv_iload_n dX7_canStandInRule_92 rfl ?_
        refine cv_iconst dX7_canStandInRule_93 ?_
        refine cv_iadd dX7_canStandInRule_94 ?_
        refine cv_icmp_ne (tgt := 118) dX7_canStandInRule_95 (by decide) (by omega) (fun h95 => ?_) (fun h95 => ?_)
        · refine cv_aload_n dX7_canStandInRule_118 rfl ?_
          refine cv_getf flX7_9 dX7_canStandInRule_119 rfl rfl ?_
          refine cv_iload_n dX7_canStandInRule_122 rfl ?_
          refine cv_iconst dX7_canStandInRule_123 ?_
          refine cv_isub dX7_canStandInRule_124 ?_
          refine cv_ialj (p - 1) dX7_canStandInRule_125 rfl (by omega) (by omega) ?_
          refine cv_bipush dX7_canStandInRule_126 (by decide) ?_
          refine cv_icmp_ne (tgt := 146) dX7_canStandInRule_128 (by decide) (by omega) (fun h128 => ?_) (fun h128 => ?_)
          · refine cv_iload dX7_canStandInRule_146 rfl ?_
            refine cv_sameS (c_X7_isFigure (wTx 0 n f) (f p) (by omega)) lkX7_isFigure mlX7_31 dX7_canStandInRule_148 (by decide) rfl rfl (Nat.le_of_ble_eq_true rfl) ⟨Nat.le_refl _, Nat.le_refl _⟩ ?_
            intro v w1 hq
            obtain ⟨rfl, rfl⟩ := hq
            refine cv_zret rfl dX7_canStandInRule_151 ⟨Nat.le_refl _, Nat.le_refl _⟩ (by first | omega | exact ct_i_z _) ⟨ct_rI (ct_i_c (by unfold figP crP; omega)), rfl⟩
          · refine cv_iload dX7_canStandInRule_131 rfl ?_
            refine cv_bipush dX7_canStandInRule_133 (by decide) ?_
            refine cv_icmp_ne (tgt := 142) dX7_canStandInRule_135 (by decide) (by omega) (fun h135 => ?_) (fun h135 => ?_)
            · refine cv_iconst dX7_canStandInRule_142 ?_
              refine cv_goto (tgt := 151) dX7_canStandInRule_143 (by decide) ?_
              refine cv_zret rfl dX7_canStandInRule_151 ⟨Nat.le_refl _, Nat.le_refl _⟩ (by first | omega | exact ct_i_z _) ⟨ct_rI (by first | exact (ct_i_t (by unfold crP; omega)).symm | exact (ct_i_f (by unfold crP; omega)).symm), rfl⟩
            · refine cv_iconst dX7_canStandInRule_138 ?_
              refine cv_goto (tgt := 151) dX7_canStandInRule_139 (by decide) ?_
              refine cv_zret rfl dX7_canStandInRule_151 ⟨Nat.le_refl _, Nat.le_refl _⟩ (by first | omega | exact ct_i_z _) ⟨ct_rI (by first | exact (ct_i_t (by unfold crP; omega)).symm | exact (ct_i_f (by unfold crP; omega)).symm), rfl⟩
        · refine cv_iload dX7_canStandInRule_98 rfl ?_
          refine cv_bipush dX7_canStandInRule_100 (by decide) ?_
          refine cv_icmp_lt (tgt := 116) dX7_canStandInRule_102 (by decide) (by omega) (fun h102 => ?_) (fun h102 => ?_)
          · refine cv_iconst dX7_canStandInRule_116 ?_
            refine cv_zret rfl dX7_canStandInRule_117 ⟨Nat.le_refl _, Nat.le_refl _⟩ (by omega) ⟨ct_rI (by first | exact (ct_i_t (by unfold crP; omega)).symm | exact (ct_i_f (by unfold crP; omega)).symm), rfl⟩
          · refine cv_iload dX7_canStandInRule_105 rfl ?_
            refine cv_bipush dX7_canStandInRule_107 (by decide) ?_
            refine cv_icmp_gt (tgt := 116) dX7_canStandInRule_109 (by decide) (by omega) (fun h109 => ?_) (fun h109 => ?_)
            · refine cv_iconst dX7_canStandInRule_116 ?_
              refine cv_zret rfl dX7_canStandInRule_117 ⟨Nat.le_refl _, Nat.le_refl _⟩ (by omega) ⟨ct_rI (by first | exact (ct_i_t (by unfold crP; omega)).symm | exact (ct_i_f (by unfold crP; omega)).symm), rfl⟩
            · refine cv_iconst dX7_canStandInRule_112 ?_
              refine cv_goto (tgt := 117) dX7_canStandInRule_113 (by decide) ?_
              refine cv_zret rfl dX7_canStandInRule_117 ⟨Nat.le_refl _, Nat.le_refl _⟩ (by omega) ⟨ct_rI (by first | exact (ct_i_t (by unfold crP; omega)).symm | exact (ct_i_f (by unfold crP; omega)).symm), rfl⟩
      · refine cv_iload dX7_canStandInRule_71 rfl ?_
        refine cv_bipush dX7_canStandInRule_73 (by decide) ?_
        refine cv_icmp_eq (tgt := 85) dX7_canStandInRule_75 (by decide) (by omega) (fun h75 => ?_) (fun h75 => ?_)
        · refine cv_iconst dX7_canStandInRule_85 ?_
          refine cv_goto (tgt := 90) dX7_canStandInRule_86 (by decide) ?_
          refine cv_zret rfl dX7_canStandInRule_90 ⟨Nat.le_refl _, Nat.le_refl _⟩ (by omega) ⟨ct_rI (by first | exact (ct_i_t (by unfold crP; omega)).symm | exact (ct_i_f (by unfold crP; omega)).symm), rfl⟩
        · refine cv_iload dX7_canStandInRule_78 rfl ?_
          refine cv_bipush dX7_canStandInRule_80 (by decide) ?_
          refine cv_icmp_ne (tgt := 89) dX7_canStandInRule_82 (by decide) (by omega) (fun h82 => ?_) (fun h82 => ?_)
          · refine cv_iconst dX7_canStandInRule_89 ?_
            refine cv_zret rfl dX7_canStandInRule_90 ⟨Nat.le_refl _, Nat.le_refl _⟩ (by omega) ⟨ct_rI (by first | exact (ct_i_t (by unfold crP; omega)).symm | exact (ct_i_f (by unfold crP; omega)).symm), rfl⟩
          · refine cv_iconst dX7_canStandInRule_85 ?_
            refine cv_goto (tgt := 90) dX7_canStandInRule_86 (by decide) ?_
            refine cv_zret rfl dX7_canStandInRule_90 ⟨Nat.le_refl _, Nat.le_refl _⟩ (by omega) ⟨ct_rI (by first | exact (ct_i_t (by unfold crP; omega)).symm | exact (ct_i_f (by unfold crP; omega)).symm), rfl⟩
    · refine cv_iload dX7_canStandInRule_30 rfl ?_
      refine cv_bipush dX7_canStandInRule_32 (by decide) ?_
      refine cv_icmp_lt (tgt := 44) dX7_canStandInRule_34 (by decide) (by omega) (fun h34 => ?_) (fun h34 => ?_)
      · refine cv_iload dX7_canStandInRule_44 rfl ?_
        refine cv_bipush dX7_canStandInRule_46 (by decide) ?_
        refine cv_icmp_lt (tgt := 62) dX7_canStandInRule_48 (by decide) (by omega) (fun h48 => ?_) (fun h48 => ?_)
        · refine cv_iconst dX7_canStandInRule_62 ?_
          refine cv_zret rfl dX7_canStandInRule_63 ⟨Nat.le_refl _, Nat.le_refl _⟩ (by omega) ⟨ct_rI (by first | exact (ct_i_t (by unfold crP; omega)).symm | exact (ct_i_f (by unfold crP; omega)).symm), rfl⟩
        · refine cv_iload dX7_canStandInRule_51 rfl ?_
          refine cv_bipush dX7_canStandInRule_53 (by decide) ?_
          refine cv_icmp_gt (tgt := 62) dX7_canStandInRule_55 (by decide) (by omega) (fun h55 => ?_) (fun h55 => ?_)
          · refine cv_iconst dX7_canStandInRule_62 ?_
            refine cv_zret rfl dX7_canStandInRule_63 ⟨Nat.le_refl _, Nat.le_refl _⟩ (by omega) ⟨ct_rI (by first | exact (ct_i_t (by unfold crP; omega)).symm | exact (ct_i_f (by unfold crP; omega)).symm), rfl⟩
          · refine cv_iconst dX7_canStandInRule_58 ?_
            refine cv_goto (tgt := 63) dX7_canStandInRule_59 (by decide) ?_
            refine cv_zret rfl dX7_canStandInRule_63 ⟨Nat.le_refl _, Nat.le_refl _⟩ (by omega) ⟨ct_rI (by first | exact (ct_i_t (by unfold crP; omega)).symm | exact (ct_i_f (by unfold crP; omega)).symm), rfl⟩
      · refine cv_iload dX7_canStandInRule_37 rfl ?_
        refine cv_bipush dX7_canStandInRule_39 (by decide) ?_
        refine cv_icmp_le (tgt := 58) dX7_canStandInRule_41 (by decide) (by omega) (fun h41 => ?_) (fun h41 => ?_)
        · refine cv_iconst dX7_canStandInRule_58 ?_
          refine cv_goto (tgt := 63) dX7_canStandInRule_59 (by decide) ?_
          refine cv_zret rfl dX7_canStandInRule_63 ⟨Nat.le_refl _, Nat.le_refl _⟩ (by omega) ⟨ct_rI (by first | exact (ct_i_t (by unfold crP; omega)).symm | exact (ct_i_f (by unfold crP; omega)).symm), rfl⟩
        · refine cv_iload dX7_canStandInRule_44 rfl ?_
          refine cv_bipush dX7_canStandInRule_46 (by decide) ?_
          refine cv_icmp_lt (tgt := 62) dX7_canStandInRule_48 (by decide) (by omega) (fun h48 => ?_) (fun h48 => ?_)
          · refine cv_iconst dX7_canStandInRule_62 ?_
            refine cv_zret rfl dX7_canStandInRule_63 ⟨Nat.le_refl _, Nat.le_refl _⟩ (by omega) ⟨ct_rI (by first | exact (ct_i_t (by unfold crP; omega)).symm | exact (ct_i_f (by unfold crP; omega)).symm), rfl⟩
          · refine cv_iload dX7_canStandInRule_51 rfl ?_
            refine cv_bipush dX7_canStandInRule_53 (by decide) ?_
            refine cv_icmp_gt (tgt := 62) dX7_canStandInRule_55 (by decide) (by omega) (fun h55 => ?_) (fun h55 => ?_)
            · refine cv_iconst dX7_canStandInRule_62 ?_
              refine cv_zret rfl dX7_canStandInRule_63 ⟨Nat.le_refl _, Nat.le_refl _⟩ (by omega) ⟨ct_rI (by first | exact (ct_i_t (by unfold crP; omega)).symm | exact (ct_i_f (by unfold crP; omega)).symm), rfl⟩
            · refine cv_iconst dX7_canStandInRule_58 ?_
              refine cv_goto (tgt := 63) dX7_canStandInRule_59 (by decide) ?_
              refine cv_zret rfl dX7_canStandInRule_63 ⟨Nat.le_refl _, Nat.le_refl _⟩ (by omega) ⟨ct_rI (by first | exact (ct_i_t (by unfold crP; omega)).symm | exact (ct_i_f (by unfold crP; omega)).symm), rfl⟩
  · refine cv_iload dX7_canStandInRule_12 rfl ?_
    refine cv_bipush dX7_canStandInRule_14 (by decide) ?_
    refine cv_icmp_ne (tgt := 23) dX7_canStandInRule_16 (by decide) (by omega) (fun h16 => ?_) (fun h16 => ?_)
    · refine cv_iconst dX7_canStandInRule_23 ?_
      refine cv_zret rfl dX7_canStandInRule_24 ⟨Nat.le_refl _, Nat.le_refl _⟩ (by omega) ⟨ct_rI (by first | exact (ct_i_t (by unfold crP; omega)).symm | exact (ct_i_f (by unfold crP; omega)).symm), rfl⟩
    · refine cv_iconst dX7_canStandInRule_19 ?_
      refine cv_goto (tgt := 24) dX7_canStandInRule_20 (by decide) ?_
      refine cv_zret rfl dX7_canStandInRule_24 ⟨Nat.le_refl _, Nat.le_refl _⟩ (by omega) ⟨ct_rI (by first | exact (ct_i_t (by unfold crP; omega)).symm | exact (ct_i_f (by unfold crP; omega)).symm), rfl⟩
def csP (f : Nat → Int) (p : Nat) : Prop := (p = 0 → f 0 = 76) ∧ (p = 1 → 49 ≤ f 1 ∧ f 1 ≤ 52) ∧ (2 ≤ p → (p : Int) < 2 + fTn f → figP (f p)) ∧ (2 + fTn f ≤ (p : Int) → ((p : Int) - 2 - fTn f) / (fTn f + 4) < 6 ∧ crP f p (((p : Int) - 2 - fTn f) % (fTn f + 4)) (fTn f))
set_option maxRecDepth 100000 in
set_option maxHeartbeats 1000000 in
theorem c_X7_canStand (n : Nat) (f : Nat → Int) (hf : okL f) (p : Nat) (hp : p < 60) : CM MX7_canStand (2, 0, 0) [vR 0, vI p] (wTx 0 n f) (fun v w => v = some (vI (ct_i (csP f p))) ∧ w = wTx 0 n f) := by
  refine CM.of (by decide) (Nat.le_of_ble_eq_true rfl) ?_
  show CV MX7_canStand (2, 0, 0) 2 (0, 0) 0 [(0, vR 0), (1, vI p)] [] (wTx 0 n f) _
  have h1 := hf p hp
  have hn := fTn_r f
  have r1 := ct_i_r (figP (f p))
  refine cv_aload_n dX7_canStand_0 rfl ?_
  refine cv_getf flX7_9 dX7_canStand_1 rfl rfl ?_
  refine cv_iload_n dX7_canStand_4 rfl ?_
  refine cv_ialj (p) dX7_canStand_5 rfl (by omega) (by omega) ?_
  refine cv_istore_n dX7_canStand_6 (by decide) rfl rfl ?_
  refine cv_iload_n dX7_canStand_7 rfl ?_
  refine cv_if_ne (tgt := 23) dX7_canStand_8 (by decide) (by omega) (fun h8 => ?_) (fun h8 => ?_)
  · refine cv_iload_n dX7_canStand_23 rfl ?_
    refine cv_iconst dX7_canStand_24 ?_
    refine cv_icmp_ne (tgt := 46) dX7_canStand_25 (by decide) (by omega) (fun h25 => ?_) (fun h25 => ?_)
    · refine cv_aload_n dX7_canStand_46 rfl ?_
      refine cv_sameV (c_X7_numbersTold (wTx 0 n f) 0 1 n f rfl rfl hf) lkX7_numbersTold mlX7_27 dX7_canStand_47 (by decide) rfl rfl (by decide) rfl (Nat.le_of_ble_eq_true rfl) ⟨Nat.le_refl _, Nat.le_refl _⟩ ?_
      intro v w1 hq
      obtain ⟨rfl, rfl⟩ := hq
      refine cv_istore_n dX7_canStand_50 (by decide) rfl rfl ?_
      refine cv_iload_n dX7_canStand_51 rfl ?_
      refine cv_iconst dX7_canStand_52 ?_
      refine cv_iload_n dX7_canStand_53 rfl ?_
      refine cv_iadd dX7_canStand_54 ?_
      refine cv_icmp_ge (tgt := 63) dX7_canStand_55 (by decide) (by omega) (fun h55 => ?_) (fun h55 => ?_)
      · have d1 := ediv_r (q := (p : Int) - 2 - fTn f) (w := fTn f + 4) (by omega) (by omega)
        have d2 := Int.emod_nonneg ((p : Int) - 2 - fTn f) (show fTn f + 4 ≠ 0 by omega)
        have d3 := Int.emod_lt_of_pos ((p : Int) - 2 - fTn f) (show 0 < fTn f + 4 by omega)
        refine cv_iload_n dX7_canStand_63 rfl ?_
        refine cv_iconst dX7_canStand_64 ?_
        refine cv_isub dX7_canStand_65 ?_
        refine cv_iload_n dX7_canStand_66 rfl ?_
        refine cv_isub dX7_canStand_67 ?_
        refine cv_istore dX7_canStand_68 (by decide) rfl rfl ?_
        refine cv_iload dX7_canStand_70 rfl ?_
        refine cv_iload_n dX7_canStand_72 rfl ?_
        refine cv_iconst dX7_canStand_73 ?_
        refine cv_iadd dX7_canStand_74 ?_
        refine cv_idiv dX7_canStand_75 (by omega) ?_
        refine cv_bipush dX7_canStand_76 (by decide) ?_
        refine cv_icmp_lt (tgt := 83) dX7_canStand_78 (by decide) (by omega) (fun h78 => ?_) (fun h78 => ?_)
        · refine cv_aload_n dX7_canStand_83 rfl ?_
          refine cv_iload_n dX7_canStand_84 rfl ?_
          refine cv_iload dX7_canStand_85 rfl ?_
          refine cv_iload_n dX7_canStand_87 rfl ?_
          refine cv_iconst dX7_canStand_88 ?_
          refine cv_iadd dX7_canStand_89 ?_
          refine cv_irem dX7_canStand_90 (by omega) ?_
          refine cv_iload_n dX7_canStand_91 rfl ?_
          refine cv_sameV (c_X7_canStandInRule n f hf p (by omega) (((p : Int) - 2 - fTn f) % (fTn f + 4)) (fTn f) (by omega)) lkX7_canStandInRule mlX7_34 dX7_canStand_92 (by decide) rfl rfl (by decide) rfl (Nat.le_of_ble_eq_true rfl) ⟨Nat.le_refl _, Nat.le_refl _⟩ ?_
          intro v w1 hq
          obtain ⟨rfl, rfl⟩ := hq
          refine cv_zret rfl dX7_canStand_95 ⟨Nat.le_refl _, Nat.le_refl _⟩ (ct_i_z _) ⟨ct_rI (ct_i_c ⟨fun h => ⟨fun _ => by omega, fun _ => by omega, fun _ _ => by omega, fun _ => ⟨by omega, h⟩⟩, fun h => (h.2.2.2 (by omega)).2⟩), rfl⟩
        · refine cv_iconst dX7_canStand_81 ?_
          refine cv_zret rfl dX7_canStand_82 ⟨Nat.le_refl _, Nat.le_refl _⟩ (by omega) ⟨ct_rI (ct_i_f (fun h => by have := (h.2.2.2 (by omega)).1; omega)).symm, rfl⟩
      · refine cv_iload_n dX7_canStand_58 rfl ?_
        refine cv_sameS (c_X7_isFigure (wTx 0 n f) (f p) (by omega)) lkX7_isFigure mlX7_31 dX7_canStand_59 (by decide) rfl rfl (Nat.le_of_ble_eq_true rfl) ⟨Nat.le_refl _, Nat.le_refl _⟩ ?_
        intro v w1 hq
        obtain ⟨rfl, rfl⟩ := hq
        refine cv_zret rfl dX7_canStand_62 ⟨Nat.le_refl _, Nat.le_refl _⟩ (ct_i_z _) ⟨ct_rI (ct_i_c ⟨fun h => ⟨fun _ => by omega, fun _ => by omega, fun _ _ => h, fun _ => by omega⟩, fun h => h.2.2.1 (by omega) (by omega)⟩), rfl⟩
    · refine cv_iload_n dX7_canStand_28 rfl ?_
      refine cv_bipush dX7_canStand_29 (by decide) ?_
      refine cv_icmp_lt (tgt := 44) dX7_canStand_31 (by decide) (by omega) (fun h31 => ?_) (fun h31 => ?_)
      · refine cv_iconst dX7_canStand_44 ?_
        refine cv_zret rfl dX7_canStand_45 ⟨Nat.le_refl _, Nat.le_refl _⟩ (by omega) ⟨ct_rI (by have e0 : p = 1 := (by omega); subst e0; first | exact (ct_i_t ⟨fun h => by omega, fun _ => by omega, fun h => by omega, fun h => by omega⟩).symm | exact (ct_i_f (fun h => by have := h.2.1 rfl; omega)).symm), rfl⟩
      · refine cv_iload_n dX7_canStand_34 rfl ?_
        refine cv_bipush dX7_canStand_35 (by decide) ?_
        refine cv_icmp_gt (tgt := 44) dX7_canStand_37 (by decide) (by omega) (fun h37 => ?_) (fun h37 => ?_)
        · refine cv_iconst dX7_canStand_44 ?_
          refine cv_zret rfl dX7_canStand_45 ⟨Nat.le_refl _, Nat.le_refl _⟩ (by omega) ⟨ct_rI (by have e0 : p = 1 := (by omega); subst e0; first | exact (ct_i_t ⟨fun h => by omega, fun _ => by omega, fun h => by omega, fun h => by omega⟩).symm | exact (ct_i_f (fun h => by have := h.2.1 rfl; omega)).symm), rfl⟩
        · refine cv_iconst dX7_canStand_40 ?_
          refine cv_goto (tgt := 45) dX7_canStand_41 (by decide) ?_
          refine cv_zret rfl dX7_canStand_45 ⟨Nat.le_refl _, Nat.le_refl _⟩ (by omega) ⟨ct_rI (by have e0 : p = 1 := (by omega); subst e0; first | exact (ct_i_t ⟨fun h => by omega, fun _ => by omega, fun h => by omega, fun h => by omega⟩).symm | exact (ct_i_f (fun h => by have := h.2.1 rfl; omega)).symm), rfl⟩
  · refine cv_iload_n dX7_canStand_11 rfl ?_
    refine cv_bipush dX7_canStand_12 (by decide) ?_
    refine cv_icmp_ne (tgt := 21) dX7_canStand_14 (by decide) (by omega) (fun h14 => ?_) (fun h14 => ?_)
    · refine cv_iconst dX7_canStand_21 ?_
      refine cv_zret rfl dX7_canStand_22 ⟨Nat.le_refl _, Nat.le_refl _⟩ (by omega) ⟨ct_rI (by have e0 : p = 0 := (by omega); subst e0; first | exact (ct_i_t ⟨fun _ => by omega, fun h => by omega, fun h => by omega, fun h => by omega⟩).symm | exact (ct_i_f (fun h => by have := h.1 rfl; omega)).symm), rfl⟩
    · refine cv_iconst dX7_canStand_17 ?_
      refine cv_goto (tgt := 22) dX7_canStand_18 (by decide) ?_
      refine cv_zret rfl dX7_canStand_22 ⟨Nat.le_refl _, Nat.le_refl _⟩ (by omega) ⟨ct_rI (by have e0 : p = 0 := (by omega); subst e0; first | exact (ct_i_t ⟨fun _ => by omega, fun h => by omega, fun h => by omega, fun h => by omega⟩).symm | exact (ct_i_f (fun h => by have := h.1 rfl; omega)).symm), rfl⟩
def iwP (n : Nat) (f : Nat → Int) : Prop := 2 ≤ n ∧ 2 + fTn f ≤ (n : Int) ∧ ((n : Int) - 2 - fTn f) % (fTn f + 4) = 0
set_option maxRecDepth 100000 in
set_option maxHeartbeats 1000000 in
theorem c_X7_isWhole (n : Nat) (f : Nat → Int) (hf : okL f) (hn60 : n ≤ 60) : CM MX7_isWhole (2, 0, 0) [vR 0] (wTx 0 n f) (fun v w => v = some (vI (ct_i (iwP n f))) ∧ w = wTx 0 n f) := by
  refine CM.of (by decide) (Nat.le_of_ble_eq_true rfl) ?_
  show CV MX7_isWhole (2, 0, 0) 2 (0, 0) 0 [(0, vR 0)] [] (wTx 0 n f) _
  have hn := fTn_r f
  refine cv_aload_n dX7_isWhole_0 rfl ?_
  refine cv_getf flX7_15 dX7_isWhole_1 rfl rfl ?_
  refine cv_iconst dX7_isWhole_4 ?_
  refine cv_icmp_ge (tgt := 10) dX7_isWhole_5 (by decide) (by omega) (fun h5 => ?_) (fun h5 => ?_)
  · refine cv_aload_n dX7_isWhole_10 rfl ?_
    refine cv_sameV (c_X7_numbersTold (wTx 0 n f) 0 1 n f rfl rfl hf) lkX7_numbersTold mlX7_27 dX7_isWhole_11 (by decide) rfl rfl (by decide) rfl (Nat.le_of_ble_eq_true rfl) ⟨Nat.le_refl _, Nat.le_refl _⟩ ?_
    intro v w1 hq
    obtain ⟨rfl, rfl⟩ := hq
    refine cv_istore_n dX7_isWhole_14 (by decide) rfl rfl ?_
    refine cv_aload_n dX7_isWhole_15 rfl ?_
    refine cv_getf flX7_15 dX7_isWhole_16 rfl rfl ?_
    refine cv_iconst dX7_isWhole_19 ?_
    refine cv_iload_n dX7_isWhole_20 rfl ?_
    refine cv_iadd dX7_isWhole_21 ?_
    refine cv_icmp_lt (tgt := 44) dX7_isWhole_22 (by decide) (by omega) (fun h22 => ?_) (fun h22 => ?_)
    · refine cv_iconst dX7_isWhole_44 ?_
      refine cv_zret rfl dX7_isWhole_45 ⟨Nat.le_refl _, Nat.le_refl _⟩ (by omega) ⟨ct_rI (by first | exact (ct_i_t ⟨by omega, by omega, by omega⟩).symm | exact (ct_i_f (fun h => by have := h.1; have := h.2.1; have := h.2.2; omega)).symm), rfl⟩
    · have d2 := Int.emod_nonneg ((n : Int) - 2 - fTn f) (show fTn f + 4 ≠ 0 by omega)
      have d3 := Int.emod_lt_of_pos ((n : Int) - 2 - fTn f) (show 0 < fTn f + 4 by omega)
      refine cv_aload_n dX7_isWhole_25 rfl ?_
      refine cv_getf flX7_15 dX7_isWhole_26 rfl rfl ?_
      refine cv_iconst dX7_isWhole_29 ?_
      refine cv_isub dX7_isWhole_30 ?_
      refine cv_iload_n dX7_isWhole_31 rfl ?_
      refine cv_isub dX7_isWhole_32 ?_
      refine cv_iload_n dX7_isWhole_33 rfl ?_
      refine cv_iconst dX7_isWhole_34 ?_
      refine cv_iadd dX7_isWhole_35 ?_
      refine cv_irem dX7_isWhole_36 (by omega) ?_
      refine cv_if_ne (tgt := 44) dX7_isWhole_37 (by decide) (by omega) (fun h37 => ?_) (fun h37 => ?_)
      · refine cv_iconst dX7_isWhole_44 ?_
        refine cv_zret rfl dX7_isWhole_45 ⟨Nat.le_refl _, Nat.le_refl _⟩ (by omega) ⟨ct_rI (by first | exact (ct_i_t ⟨by omega, by omega, by omega⟩).symm | exact (ct_i_f (fun h => by have := h.1; have := h.2.1; have := h.2.2; omega)).symm), rfl⟩
      · refine cv_iconst dX7_isWhole_40 ?_
        refine cv_goto (tgt := 45) dX7_isWhole_41 (by decide) ?_
        refine cv_zret rfl dX7_isWhole_45 ⟨Nat.le_refl _, Nat.le_refl _⟩ (by omega) ⟨ct_rI (by first | exact (ct_i_t ⟨by omega, by omega, by omega⟩).symm | exact (ct_i_f (fun h => by have := h.1; have := h.2.1; have := h.2.2; omega)).symm), rfl⟩
  · refine cv_iconst dX7_isWhole_8 ?_
    refine cv_zret rfl dX7_isWhole_9 ⟨Nat.le_refl _, Nat.le_refl _⟩ (by omega) ⟨ct_rI (by first | exact (ct_i_t ⟨by omega, by omega, by omega⟩).symm | exact (ct_i_f (fun h => by have := h.1; have := h.2.1; have := h.2.2; omega)).symm), rfl⟩
/-- the text's first fault -/
noncomputable def fFt (n : Nat) (f : Nat → Int) : Int := match ct_first (fun p => ¬ csP f p) n with
  | some p => p
  | none => @ite _ (iwP n f) (Classical.propDecidable _) (-9) n
set_option maxRecDepth 100000 in
set_option maxHeartbeats 1000000 in
theorem c_X7_firstFault (n : Nat) (f : Nat → Int) (hf : okL f) (hn60 : n ≤ 60) : CM MX7_firstFault (3, 0, 0) [vR 0] (wTx 0 n f) (fun v w => v = some (vI (fFt n f)) ∧ w = wTx 0 n f) := by
  refine CM.of (by decide) (Nat.le_of_ble_eq_true rfl) ?_
  show CV MX7_firstFault (3, 0, 0) 2 (0, 0) 0 [(0, vR 0)] [] (wTx 0 n f) _
  have loop : ∀ (k : Nat) (p : Nat), (n < p + k) → (p ≤ n) → (∀ j, j < p → ¬ ¬ csP f j) → CV MX7_firstFault (3, 0, 0) 2 (0, 0) 2 [(0, vR 0), (1, vI p)] [] (wTx 0 n f) (fun v w => v = some (vI (fFt n f)) ∧ w = wTx 0 n f) := by
    intro k
    induction k with
    | zero => intro p hk hi hv; exact absurd hk (by omega)
    | succ k ih =>
      intro p hk hi hv
      have r1 := ct_i_r (csP f p)
      have r2 := ct_i_r (iwP n f)
      refine cv_iload_n dX7_firstFault_2 rfl ?_
      refine cv_aload_n dX7_firstFault_3 rfl ?_
      refine cv_getf flX7_15 dX7_firstFault_4 rfl rfl ?_
      refine cv_icmp_ge (tgt := 26) dX7_firstFault_7 (by decide) (by omega) (fun h7 => ?_) (fun h7 => ?_)
      · refine cv_aload_n dX7_firstFault_26 rfl ?_
        refine cv_sameV (c_X7_isWhole n f hf hn60) lkX7_isWhole mlX7_23 dX7_firstFault_27 (by decide) rfl rfl (by decide) rfl (Nat.le_of_ble_eq_true rfl) ⟨Nat.le_refl _, Nat.le_refl _⟩ ?_
        intro v w1 hq
        obtain ⟨rfl, rfl⟩ := hq
        refine cv_if_eq (tgt := 38) dX7_firstFault_30 (by decide) (by omega) (fun h30 => ?_) (fun h30 => ?_)
        · refine cv_aload_n dX7_firstFault_38 rfl ?_
          refine cv_getf flX7_15 dX7_firstFault_39 rfl rfl ?_
          refine cv_iret rfl dX7_firstFault_42 ⟨Nat.le_refl _, Nat.le_refl _⟩ ⟨ct_rI (by unfold fFt; rw [ct_first_no (P := fun p => ¬ csP f p) (fun j hj => hv j (by omega))]; exact (if_neg (ct_i_0.mp h30)).symm), rfl⟩
        · refine cv_bipush dX7_firstFault_33 (by decide) ?_
          refine cv_goto (tgt := 42) dX7_firstFault_35 (by decide) ?_
          refine cv_iret rfl dX7_firstFault_42 ⟨Nat.le_refl _, Nat.le_refl _⟩ ⟨ct_rI (by unfold fFt; rw [ct_first_no (P := fun p => ¬ csP f p) (fun j hj => hv j (by omega))]; exact (if_pos (ct_i_1.mp (by omega))).symm), rfl⟩
      · refine cv_aload_n dX7_firstFault_10 rfl ?_
        refine cv_iload_n dX7_firstFault_11 rfl ?_
        refine cv_sameV (c_X7_canStand n f hf p (by omega)) lkX7_canStand mlX7_19 dX7_firstFault_12 (by decide) rfl rfl (by decide) rfl (Nat.le_of_ble_eq_true rfl) ⟨Nat.le_refl _, Nat.le_refl _⟩ ?_
        intro v w1 hq
        obtain ⟨rfl, rfl⟩ := hq
        refine cv_if_ne (tgt := 20) dX7_firstFault_15 (by decide) (by omega) (fun h15 => ?_) (fun h15 => ?_)
        · refine cv_iinc dX7_firstFault_20 (by decide) rfl rfl rfl ?_
          refine cv_goto (tgt := 2) dX7_firstFault_23 (by decide) ?_
          exact ih (p + 1) (by omega) (by omega) (fun j hj => by
            rcases Nat.lt_succ_iff_lt_or_eq.mp hj with q | q
            · exact hv j q
            · subst q
              exact fun h => h (ct_i_1.mp (by omega)))
        · refine cv_iload_n dX7_firstFault_18 rfl ?_
          refine cv_iret rfl dX7_firstFault_19 ⟨Nat.le_refl _, Nat.le_refl _⟩ ⟨ct_rI (by unfold fFt; rw [ct_first_is (P := fun p => ¬ csP f p) (i := p) (ct_i_0.mp h15) hv (by omega)]), rfl⟩
  refine cv_iconst dX7_firstFault_0 ?_
  refine cv_istore_n dX7_firstFault_1 (by decide) rfl rfl ?_
  exact loop (n + 1) 0 (by omega) (by omega) (fun j hj => absurd hj (Nat.not_lt_zero _))
