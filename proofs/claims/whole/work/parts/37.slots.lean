/-- a state, its task, the slots (20), their row (21), which are filled (22), the two states 23 .. 42 -/
def LSl (T : ctT) (S : ctS) (g : Nat → Int) (K0 K1 : ctS) : List (List ct_C) := [wSt 0 10 S, wT 10 T, [cO 4 [vR 21, vR 22], cQ 2 [some 23, some 33], cA 1 2 g], wSt 23 10 K0, wSt 33 10 K1]
def wSl (T : ctT) (S : ctS) (g : Nat → Int) (K0 K1 : ctS) : List ct_C := (LSl T S g K0 K1).flatten
theorem nSl_e (T : ctT) (S : ctS) (g : Nat → Int) (K0 K1 : ctS) : (LSl T S g K0 K1).map List.length = [10, 10, 3, 10, 10] := rfl
set_option maxRecDepth 100000 in
set_option maxHeartbeats 1000000 in
theorem c_X4_has (w : List ct_C) (q : Nat) (x : Int) (hx : -2147483648 ≤ x ∧ x ≤ 2147483647) : CM MX4_has (0, 0, 0) [vR q, vI x] (w) (fun v w1 => v = some (vI (ct_i (0 ≤ x ∧ x < 2))) ∧ w1 = w) := by
  refine CM.of (by decide) (Nat.le_of_ble_eq_true rfl) ?_
  show CV MX4_has (0, 0, 0) w.length (0, 0) 0 [(0, vR q), (1, vI x)] [] (w) _
  refine cv_iload_n dX4_has_0 rfl ?_
  refine cv_if_lt (tgt := 13) dX4_has_1 (by decide) (by omega) (fun h1 => ?_) (fun h1 => ?_)
  · refine cv_iconst dX4_has_13 ?_
    refine cv_zret rfl dX4_has_14 ⟨Nat.le_refl _, Nat.le_refl _⟩ (by omega) ⟨ct_rI (by first | exact (ct_i_t (by omega)).symm | exact (ct_i_f (by omega)).symm), rfl⟩
  · refine cv_iload_n dX4_has_4 rfl ?_
    refine cv_iconst dX4_has_5 ?_
    refine cv_icmp_ge (tgt := 13) dX4_has_6 (by decide) (by omega) (fun h6 => ?_) (fun h6 => ?_)
    · refine cv_iconst dX4_has_13 ?_
      refine cv_zret rfl dX4_has_14 ⟨Nat.le_refl _, Nat.le_refl _⟩ (by omega) ⟨ct_rI (by first | exact (ct_i_t (by omega)).symm | exact (ct_i_f (by omega)).symm), rfl⟩
    · refine cv_iconst dX4_has_9 ?_
      refine cv_goto (tgt := 14) dX4_has_10 (by decide) ?_
      refine cv_zret rfl dX4_has_14 ⟨Nat.le_refl _, Nat.le_refl _⟩ (by omega) ⟨ct_rI (by first | exact (ct_i_t (by omega)).symm | exact (ct_i_f (by omega)).symm), rfl⟩
set_option maxRecDepth 100000 in
set_option maxHeartbeats 1000000 in
theorem c_X4_empty (T : ctT) (S : ctS) (g : Nat → Int) (K0 K1 : ctS) : CM MX4_empty (0, 0, 0) [vR 20] (wSl T S g K0 K1) (fun v w => v = none ∧ w = wSl T S (fZ g 2) K0 K1) := by
  refine CM.of (by decide) (Nat.le_of_ble_eq_true rfl) ?_
  show CV MX4_empty (0, 0, 0) 43 (0, 0) 0 [(0, vR 20)] [] (wSl T S g K0 K1) _
  have loop : ∀ (k : Nat) (i : Nat), (2 < i + k) → (i ≤ 2) → CV MX4_empty (0, 0, 0) 43 (0, 0) 2 [(0, vR 20), (1, vI i)] [] (wSl T S (fZ g i) K0 K1) (fun v w => v = none ∧ w = wSl T S (fZ g 2) K0 K1) := by
    intro k
    induction k with
    | zero => intro i hk hi; exact absurd hk (by omega)
    | succ k ih =>
      intro i hk hi
      refine cv_iload_n dX4_empty_2 rfl ?_
      refine cv_iconst dX4_empty_3 ?_
      refine cv_icmp_ge (tgt := 20) dX4_empty_4 (by decide) (by omega) (fun h4 => ?_) (fun h4 => ?_)
      · refine cv_ret rfl dX4_empty_20 ⟨Nat.le_refl _, Nat.le_refl _⟩ ⟨rfl, by rw [show i = 2 by omega]⟩
      · refine cv_aload_n dX4_empty_7 rfl ?_
        refine cv_getf flX4_17 dX4_empty_8 rfl rfl ?_
        refine cv_iload_n dX4_empty_11 rfl ?_
        refine cv_iconst dX4_empty_12 ?_
        refine cv_zasj (i) dX4_empty_13 rfl (by omega) (by omega) (by omega) ?_
        refine cv_iinc dX4_empty_14 (by decide) rfl rfl rfl ?_
        refine cv_goto (tgt := 2) dX4_empty_17 (by decide) ?_
        exact ih (i + 1) (by omega) (by omega)
  refine cv_iconst dX4_empty_0 ?_
  refine cv_istore_n dX4_empty_1 (by decide) rfl rfl ?_
  exact loop 3 0 (by omega) (by omega)
set_option maxRecDepth 100000 in
set_option maxHeartbeats 1000000 in
theorem c_X4_put0 (T : ctT) (S : ctS) (g : Nat → Int) (K0 K1 : ctS) (hZ : sZ S ≤ 36) (hC : sC S ≤ 40) (hH : sH S = 0 ∨ sH S = 1) : CM MX4_put (3, 0, 0) [vR 20, vI 0, vR 0] (wSl T S g K0 K1) (fun v w => v = none ∧ w = wSl T S (ct_up g 0 1) (fCp K0 S) K1) := by
  refine CM.of (by decide) (Nat.le_of_ble_eq_true rfl) ?_
  show CV MX4_put (3, 0, 0) 43 (0, 0) 0 [(0, vR 20), (1, vI 0), (2, vR 0)] [] (wSl T S g K0 K1) _
  refine cv_aload_n dX4_put_0 rfl ?_
  refine cv_getf flX4_11 dX4_put_1 rfl rfl ?_
  refine cv_iload_n dX4_put_4 rfl ?_
  refine cv_aald (Or.inl rfl) dX4_put_5 rfl (by decide) rfl ?_
  refine cv_aload_n dX4_put_6 rfl ?_
  refine cv_blkV [(3, 23, 10), (0, 0, 10), (1, 10, 10)] (nSl_e T S g K0 K1) (by decide) (by decide) (c_X5_copy T K0 S hZ hC hH) rfl lkX5_copy mlX4_24 dX4_put_7 (by decide) rfl rfl (by decide) rfl (Nat.le_of_ble_eq_true rfl) ⟨Nat.le_refl _, Nat.le_refl _⟩ (fun v w1 h => (congrArg List.length h.2).trans (wCp_ll _ _ _ _ _)) ?_
  intro v w1 hq
  obtain ⟨rfl, rfl⟩ := hq
  refine ⟨[wSt 23 10 (fCp K0 S), wSt 0 10 S, wT 10 T], rfl, rfl, ?_⟩
  show CV MX4_put (3, 0, 0) 43 (0, 0) 10 [(0, vR 20), (1, vI 0), (2, vR 0)] [] (wSl T S g (fCp K0 S) K1) _
  refine cv_aload_n dX4_put_10 rfl ?_
  refine cv_getf flX4_17 dX4_put_11 rfl rfl ?_
  refine cv_iload_n dX4_put_14 rfl ?_
  refine cv_iconst dX4_put_15 ?_
  refine cv_zasj (0) dX4_put_16 rfl (by omega) (by omega) (by omega) ?_
  exact cv_ret rfl dX4_put_17 ⟨Nat.le_refl _, Nat.le_refl _⟩ ⟨rfl, rfl⟩
set_option maxRecDepth 100000 in
set_option maxHeartbeats 1000000 in
theorem c_X4_put1 (T : ctT) (S : ctS) (g : Nat → Int) (K0 K1 : ctS) (hZ : sZ S ≤ 36) (hC : sC S ≤ 40) (hH : sH S = 0 ∨ sH S = 1) : CM MX4_put (3, 0, 0) [vR 20, vI 1, vR 0] (wSl T S g K0 K1) (fun v w => v = none ∧ w = wSl T S (ct_up g 1 1) K0 (fCp K1 S)) := by
  refine CM.of (by decide) (Nat.le_of_ble_eq_true rfl) ?_
  show CV MX4_put (3, 0, 0) 43 (0, 0) 0 [(0, vR 20), (1, vI 1), (2, vR 0)] [] (wSl T S g K0 K1) _
  refine cv_aload_n dX4_put_0 rfl ?_
  refine cv_getf flX4_11 dX4_put_1 rfl rfl ?_
  refine cv_iload_n dX4_put_4 rfl ?_
  refine cv_aald (Or.inl rfl) dX4_put_5 rfl (by decide) rfl ?_
  refine cv_aload_n dX4_put_6 rfl ?_
  refine cv_blkV [(4, 33, 10), (0, 0, 10), (1, 10, 10)] (nSl_e T S g K0 K1) (by decide) (by decide) (c_X5_copy T K1 S hZ hC hH) rfl lkX5_copy mlX4_24 dX4_put_7 (by decide) rfl rfl (by decide) rfl (Nat.le_of_ble_eq_true rfl) ⟨Nat.le_refl _, Nat.le_refl _⟩ (fun v w1 h => (congrArg List.length h.2).trans (wCp_ll _ _ _ _ _)) ?_
  intro v w1 hq
  obtain ⟨rfl, rfl⟩ := hq
  refine ⟨[wSt 33 10 (fCp K1 S), wSt 0 10 S, wT 10 T], rfl, rfl, ?_⟩
  show CV MX4_put (3, 0, 0) 43 (0, 0) 10 [(0, vR 20), (1, vI 1), (2, vR 0)] [] (wSl T S g K0 (fCp K1 S)) _
  refine cv_aload_n dX4_put_10 rfl ?_
  refine cv_getf flX4_17 dX4_put_11 rfl rfl ?_
  refine cv_iload_n dX4_put_14 rfl ?_
  refine cv_iconst dX4_put_15 ?_
  refine cv_zasj (1) dX4_put_16 rfl (by omega) (by omega) (by omega) ?_
  exact cv_ret rfl dX4_put_17 ⟨Nat.le_refl _, Nat.le_refl _⟩ ⟨rfl, rfl⟩
