/-! CONSTRUCTORS -/
abbrev zF : Nat → Int := fun _ => 0
def zLo : Nat → (Nat → Int)
  | 0 => zF
  | i + 1 => ct_up (zLo i) i 0
def zHi (f : Nat → Int) : Nat → (Nat → Int)
  | 0 => zF
  | i + 1 => ct_up (zHi f i) i (f i)
theorem zLo_at : ∀ i x, zLo i x = 0
  | 0, _ => rfl
  | i + 1, x => by
    show ct_up (zLo i) i 0 x = 0
    by_cases e : x = i
    · subst e; rw [ct_up_s]
    · rw [ct_up_n e]; exact zLo_at i x
theorem zHi_at (f : Nat → Int) : ∀ i x, x < i → zHi f i x = f x
  | 0, _, h => absurd h (Nat.not_lt_zero _)
  | i + 1, x, h => by
    show ct_up (zHi f i) i (f i) x = f x
    by_cases e : x = i
    · subst e; rw [ct_up_s]
    · rw [ct_up_n e]; exact zHi_at f i x (by omega)
set_option maxRecDepth 100000 in
set_option maxHeartbeats 1000000 in
theorem c_X2_init  : CM MX2_init (1, 2, 360) [vR 0] ([cO 2 [vO none, vO none, vI 0]]) (fun v1 w => v1 = none ∧ w = [cO 2 [vR 1, vR 2, vI 0], cA 0 320 zF, cA 0 40 zF]) := by
  refine CM.of (by decide) (Nat.le_of_ble_eq_true rfl) ?_
  show CV MX2_init (1, 2, 360) 1 (0, 0) 0 [(0, vR 0)] [] ([cO 2 [vO none, vO none, vI 0]]) _
  refine cv_aload_n dX2_init_0 rfl ?_
  refine cv_obj mlX2_3 dX2_init_1 (by decide) (Nat.le_of_ble_eq_true rfl) ?_
  refine cv_aload_n dX2_init_4 rfl ?_
  refine cv_sipush dX2_init_5 (by decide) ?_
  refine cv_newi (N := 320) dX2_init_8 (by decide) (by decide) rfl (Nat.le_of_ble_eq_true rfl) ⟨Nat.le_of_ble_eq_true rfl, Nat.le_of_ble_eq_true rfl⟩ ?_
  refine cv_putF fpX2_9 rfl (fun C h => by cases h; rfl) dX2_init_10 rfl (Nat.le_of_ble_eq_true rfl) (fun _ => ⟨rfl, rfl⟩) ?_
  refine cv_aload_n dX2_init_13 rfl ?_
  refine cv_bipush dX2_init_14 (by decide) ?_
  refine cv_newi (N := 40) dX2_init_16 (by decide) (by decide) rfl (Nat.le_of_ble_eq_true rfl) ⟨Nat.le_of_ble_eq_true rfl, Nat.le_of_ble_eq_true rfl⟩ ?_
  refine cv_putF fpX2_15 rfl (fun C h => by cases h; rfl) dX2_init_18 rfl (Nat.le_of_ble_eq_true rfl) (fun _ => ⟨rfl, rfl⟩) ?_
  refine cv_aload_n dX2_init_21 rfl ?_
  refine cv_iconst dX2_init_22 ?_
  refine cv_putf fpX2_18 dX2_init_23 rfl (Nat.le_of_ble_eq_true rfl) (fun _ => ⟨rfl, rfl⟩) ?_
  refine cv_ret rfl dX2_init_26 ⟨Nat.le_refl _, Nat.le_refl _⟩ ⟨rfl, rfl⟩
set_option maxRecDepth 100000 in
set_option maxHeartbeats 1000000 in
theorem c_X7_init  : CM MX7_init (1, 1, 60) [vR 0] ([cO 7 [vO none, vI 0]]) (fun v1 w => v1 = none ∧ w = [cO 7 [vR 1, vI 0], cA 0 60 zF]) := by
  refine CM.of (by decide) (Nat.le_of_ble_eq_true rfl) ?_
  show CV MX7_init (1, 1, 60) 1 (0, 0) 0 [(0, vR 0)] [] ([cO 7 [vO none, vI 0]]) _
  refine cv_aload_n dX7_init_0 rfl ?_
  refine cv_obj mlX7_3 dX7_init_1 (by decide) (Nat.le_of_ble_eq_true rfl) ?_
  refine cv_aload_n dX7_init_4 rfl ?_
  refine cv_bipush dX7_init_5 (by decide) ?_
  refine cv_newi (N := 60) dX7_init_7 (by decide) (by decide) rfl (Nat.le_of_ble_eq_true rfl) ⟨Nat.le_of_ble_eq_true rfl, Nat.le_of_ble_eq_true rfl⟩ ?_
  refine cv_putF fpX7_9 rfl (fun C h => by cases h; rfl) dX7_init_9 rfl (Nat.le_of_ble_eq_true rfl) (fun _ => ⟨rfl, rfl⟩) ?_
  refine cv_aload_n dX7_init_12 rfl ?_
  refine cv_iconst dX7_init_13 ?_
  refine cv_putf fpX7_15 dX7_init_14 rfl (Nat.le_of_ble_eq_true rfl) (fun _ => ⟨rfl, rfl⟩) ?_
  refine cv_ret rfl dX7_init_17 ⟨Nat.le_refl _, Nat.le_refl _⟩ ⟨rfl, rfl⟩
set_option maxRecDepth 100000 in
set_option maxHeartbeats 1000000 in
theorem c_X8_init  : CM MX8_init (1, 2, 16) [vR 0] ([cO 8 [vO none, vO none]]) (fun v1 w => v1 = none ∧ w = [cO 8 [vR 1, vR 2], cA 0 8 zF, cA 0 8 zF]) := by
  refine CM.of (by decide) (Nat.le_of_ble_eq_true rfl) ?_
  show CV MX8_init (1, 2, 16) 1 (0, 0) 0 [(0, vR 0)] [] ([cO 8 [vO none, vO none]]) _
  refine cv_aload_n dX8_init_0 rfl ?_
  refine cv_obj mlX8_3 dX8_init_1 (by decide) (Nat.le_of_ble_eq_true rfl) ?_
  refine cv_aload_n dX8_init_4 rfl ?_
  refine cv_bipush dX8_init_5 (by decide) ?_
  refine cv_newi (N := 8) dX8_init_7 (by decide) (by decide) rfl (Nat.le_of_ble_eq_true rfl) ⟨Nat.le_of_ble_eq_true rfl, Nat.le_of_ble_eq_true rfl⟩ ?_
  refine cv_putF fpX8_9 rfl (fun C h => by cases h; rfl) dX8_init_9 rfl (Nat.le_of_ble_eq_true rfl) (fun _ => ⟨rfl, rfl⟩) ?_
  refine cv_aload_n dX8_init_12 rfl ?_
  refine cv_bipush dX8_init_13 (by decide) ?_
  refine cv_newi (N := 8) dX8_init_15 (by decide) (by decide) rfl (Nat.le_of_ble_eq_true rfl) ⟨Nat.le_of_ble_eq_true rfl, Nat.le_of_ble_eq_true rfl⟩ ?_
  refine cv_putF fpX8_15 rfl (fun C h => by cases h; rfl) dX8_init_17 rfl (Nat.le_of_ble_eq_true rfl) (fun _ => ⟨rfl, rfl⟩) ?_
  refine cv_ret rfl dX8_init_20 ⟨Nat.le_refl _, Nat.le_refl _⟩ ⟨rfl, rfl⟩
set_option maxRecDepth 100000 in
set_option maxHeartbeats 1000000 in
theorem c_X3_init  : CM MX3_init (1, 2, 12) [vR 0] ([cO 3 [vO none, vO none, vI 0]]) (fun v1 w => v1 = none ∧ w = [cO 3 [vR 1, vR 2, vI 0], cA 0 6 zF, cA 1 6 zF]) := by
  refine CM.of (by decide) (Nat.le_of_ble_eq_true rfl) ?_
  show CV MX3_init (1, 2, 12) 1 (0, 0) 0 [(0, vR 0)] [] ([cO 3 [vO none, vO none, vI 0]]) _
  refine cv_aload_n dX3_init_0 rfl ?_
  refine cv_obj mlX3_3 dX3_init_1 (by decide) (Nat.le_of_ble_eq_true rfl) ?_
  refine cv_aload_n dX3_init_4 rfl ?_
  refine cv_bipush dX3_init_5 (by decide) ?_
  refine cv_newi (N := 6) dX3_init_7 (by decide) (by decide) rfl (Nat.le_of_ble_eq_true rfl) ⟨Nat.le_of_ble_eq_true rfl, Nat.le_of_ble_eq_true rfl⟩ ?_
  refine cv_putF fpX3_9 rfl (fun C h => by cases h; rfl) dX3_init_9 rfl (Nat.le_of_ble_eq_true rfl) (fun _ => ⟨rfl, rfl⟩) ?_
  refine cv_aload_n dX3_init_12 rfl ?_
  refine cv_bipush dX3_init_13 (by decide) ?_
  refine cv_newz (N := 6) dX3_init_15 (by decide) (by decide) rfl (Nat.le_of_ble_eq_true rfl) ⟨Nat.le_of_ble_eq_true rfl, Nat.le_of_ble_eq_true rfl⟩ ?_
  refine cv_putF fpX3_15 rfl (fun C h => by cases h; rfl) dX3_init_17 rfl (Nat.le_of_ble_eq_true rfl) (fun _ => ⟨rfl, rfl⟩) ?_
  refine cv_aload_n dX3_init_20 rfl ?_
  refine cv_iconst dX3_init_21 ?_
  refine cv_putf fpX3_19 dX3_init_22 rfl (Nat.le_of_ble_eq_true rfl) (fun _ => ⟨rfl, rfl⟩) ?_
  refine cv_ret rfl dX3_init_25 ⟨Nat.le_refl _, Nat.le_refl _⟩ ⟨rfl, rfl⟩
set_option maxRecDepth 100000 in
set_option maxHeartbeats 1000000 in
theorem c_X10_init (T : ctT) : CM MX10_init (1, 2, 8) [vR 0, vR 1] ([cO 10 [vO none, vO none, vO none], cO 6 [vI (tN T), vI (tR T), vR 2, vR 3, vR 4], cA 0 4 (tT T), cQ 3 [some 5, some 6, some 7, some 8, some 9, some 10], cA 0 6 (tB T), cA 0 4 (tW T 0), cA 0 4 (tW T 1), cA 0 4 (tW T 2), cA 0 4 (tW T 3), cA 0 4 (tW T 4), cA 0 4 (tW T 5)]) (fun v1 w => v1 = none ∧ w = [cO 10 [vR 1, vR 11, vR 12], cO 6 [vI (tN T), vI (tR T), vR 2, vR 3, vR 4], cA 0 4 (tT T), cQ 3 [some 5, some 6, some 7, some 8, some 9, some 10], cA 0 6 (tB T), cA 0 4 (tW T 0), cA 0 4 (tW T 1), cA 0 4 (tW T 2), cA 0 4 (tW T 3), cA 0 4 (tW T 4), cA 0 4 (tW T 5), cA 0 4 zF, cA 0 4 zF]) := by
  refine CM.of (by decide) (Nat.le_of_ble_eq_true rfl) ?_
  show CV MX10_init (1, 2, 8) 11 (0, 0) 0 [(0, vR 0), (1, vR 1)] [] ([cO 10 [vO none, vO none, vO none], cO 6 [vI (tN T), vI (tR T), vR 2, vR 3, vR 4], cA 0 4 (tT T), cQ 3 [some 5, some 6, some 7, some 8, some 9, some 10], cA 0 6 (tB T), cA 0 4 (tW T 0), cA 0 4 (tW T 1), cA 0 4 (tW T 2), cA 0 4 (tW T 3), cA 0 4 (tW T 4), cA 0 4 (tW T 5)]) _
  refine cv_aload_n dX10_init_0 rfl ?_
  refine cv_obj mlX10_3 dX10_init_1 (by decide) (Nat.le_of_ble_eq_true rfl) ?_
  refine cv_aload_n dX10_init_4 rfl ?_
  refine cv_iconst dX10_init_5 ?_
  refine cv_newi (N := 4) dX10_init_6 (by decide) (by decide) rfl (Nat.le_of_ble_eq_true rfl) ⟨Nat.le_of_ble_eq_true rfl, Nat.le_of_ble_eq_true rfl⟩ ?_
  refine cv_putF fpX10_9 rfl (fun C h => by cases h; rfl) dX10_init_8 rfl (Nat.le_of_ble_eq_true rfl) (fun _ => ⟨rfl, rfl⟩) ?_
  refine cv_aload_n dX10_init_11 rfl ?_
  refine cv_iconst dX10_init_12 ?_
  refine cv_newi (N := 4) dX10_init_13 (by decide) (by decide) rfl (Nat.le_of_ble_eq_true rfl) ⟨Nat.le_of_ble_eq_true rfl, Nat.le_of_ble_eq_true rfl⟩ ?_
  refine cv_putF fpX10_15 rfl (fun C h => by cases h; rfl) dX10_init_15 rfl (Nat.le_of_ble_eq_true rfl) (fun _ => ⟨rfl, rfl⟩) ?_
  refine cv_aload_n dX10_init_18 rfl ?_
  refine cv_aload_n dX10_init_19 rfl ?_
  refine cv_putF fpX10_18 rfl (fun C h => by cases h; rfl) dX10_init_20 rfl (Nat.le_of_ble_eq_true rfl) (fun _ => ⟨rfl, rfl⟩) ?_
  refine cv_ret rfl dX10_init_23 ⟨Nat.le_refl _, Nat.le_refl _⟩ ⟨rfl, rfl⟩
set_option maxRecDepth 100000 in
set_option maxHeartbeats 1000000 in
theorem c_X1_init (T : ctT) : CM MX1_init (1, 1, 64) [vR 0, vR 1] ([cO 1 [vO none, vO none, vI 0], cO 6 [vI (tN T), vI (tR T), vR 2, vR 3, vR 4], cA 0 4 (tT T), cQ 3 [some 5, some 6, some 7, some 8, some 9, some 10], cA 0 6 (tB T), cA 0 4 (tW T 0), cA 0 4 (tW T 1), cA 0 4 (tW T 2), cA 0 4 (tW T 3), cA 0 4 (tW T 4), cA 0 4 (tW T 5)]) (fun v1 w => v1 = none ∧ w = [cO 1 [vR 1, vR 11, vI 0], cO 6 [vI (tN T), vI (tR T), vR 2, vR 3, vR 4], cA 0 4 (tT T), cQ 3 [some 5, some 6, some 7, some 8, some 9, some 10], cA 0 6 (tB T), cA 0 4 (tW T 0), cA 0 4 (tW T 1), cA 0 4 (tW T 2), cA 0 4 (tW T 3), cA 0 4 (tW T 4), cA 0 4 (tW T 5), cA 0 64 zF]) := by
  refine CM.of (by decide) (Nat.le_of_ble_eq_true rfl) ?_
  show CV MX1_init (1, 1, 64) 11 (0, 0) 0 [(0, vR 0), (1, vR 1)] [] ([cO 1 [vO none, vO none, vI 0], cO 6 [vI (tN T), vI (tR T), vR 2, vR 3, vR 4], cA 0 4 (tT T), cQ 3 [some 5, some 6, some 7, some 8, some 9, some 10], cA 0 6 (tB T), cA 0 4 (tW T 0), cA 0 4 (tW T 1), cA 0 4 (tW T 2), cA 0 4 (tW T 3), cA 0 4 (tW T 4), cA 0 4 (tW T 5)]) _
  refine cv_aload_n dX1_init_0 rfl ?_
  refine cv_obj mlX1_3 dX1_init_1 (by decide) (Nat.le_of_ble_eq_true rfl) ?_
  refine cv_aload_n dX1_init_4 rfl ?_
  refine cv_bipush dX1_init_5 (by decide) ?_
  refine cv_newi (N := 64) dX1_init_7 (by decide) (by decide) rfl (Nat.le_of_ble_eq_true rfl) ⟨Nat.le_of_ble_eq_true rfl, Nat.le_of_ble_eq_true rfl⟩ ?_
  refine cv_putF fpX1_9 rfl (fun C h => by cases h; rfl) dX1_init_9 rfl (Nat.le_of_ble_eq_true rfl) (fun _ => ⟨rfl, rfl⟩) ?_
  refine cv_aload_n dX1_init_12 rfl ?_
  refine cv_iconst dX1_init_13 ?_
  refine cv_putf fpX1_15 dX1_init_14 rfl (Nat.le_of_ble_eq_true rfl) (fun _ => ⟨rfl, rfl⟩) ?_
  refine cv_aload_n dX1_init_17 rfl ?_
  refine cv_aload_n dX1_init_18 rfl ?_
  refine cv_putF fpX1_19 rfl (fun C h => by cases h; rfl) dX1_init_19 rfl (Nat.le_of_ble_eq_true rfl) (fun _ => ⟨rfl, rfl⟩) ?_
  refine cv_ret rfl dX1_init_22 ⟨Nat.le_refl _, Nat.le_refl _⟩ ⟨rfl, rfl⟩
set_option maxRecDepth 100000 in
set_option maxHeartbeats 1000000 in
theorem c_X6_init  : CM MX6_init (1, 9, 40) [vR 0] ([cO 6 [vI 0, vI 0, vO none, vO none, vO none]]) (fun v1 w => v1 = none ∧ w = [cO 6 [vI 1, vI 0, vR 1, vR 2, vR 9], cA 0 4 (ct_up zF 0 9), cQ 3 [some 3, some 4, some 5, some 6, some 7, some 8], cA 0 4 zF, cA 0 4 zF, cA 0 4 zF, cA 0 4 zF, cA 0 4 zF, cA 0 4 zF, cA 0 6 zF]) := by
  refine CM.of (by decide) (Nat.le_of_ble_eq_true rfl) ?_
  show CV MX6_init (1, 9, 40) 1 (0, 0) 0 [(0, vR 0)] [] ([cO 6 [vI 0, vI 0, vO none, vO none, vO none]]) _
  refine cv_aload_n dX6_init_0 rfl ?_
  refine cv_obj mlX6_3 dX6_init_1 (by decide) (Nat.le_of_ble_eq_true rfl) ?_
  refine cv_aload_n dX6_init_4 rfl ?_
  refine cv_iconst dX6_init_5 ?_
  refine cv_putf fpX6_9 dX6_init_6 rfl (Nat.le_of_ble_eq_true rfl) (fun _ => ⟨rfl, rfl⟩) ?_
  refine cv_aload_n dX6_init_9 rfl ?_
  refine cv_iconst dX6_init_10 ?_
  refine cv_putf fpX6_15 dX6_init_11 rfl (Nat.le_of_ble_eq_true rfl) (fun _ => ⟨rfl, rfl⟩) ?_
  refine cv_aload_n dX6_init_14 rfl ?_
  refine cv_iconst dX6_init_15 ?_
  refine cv_newi (N := 4) dX6_init_16 (by decide) (by decide) rfl (Nat.le_of_ble_eq_true rfl) ⟨Nat.le_of_ble_eq_true rfl, Nat.le_of_ble_eq_true rfl⟩ ?_
  refine cv_putF fpX6_18 rfl (fun C h => by cases h; rfl) dX6_init_18 rfl (Nat.le_of_ble_eq_true rfl) (fun _ => ⟨rfl, rfl⟩) ?_
  refine cv_aload_n dX6_init_21 rfl ?_
  refine cv_bipush dX6_init_22 (by decide) ?_
  refine cv_iconst dX6_init_24 ?_
  refine cv_multi ckX6_22 dX6_init_25 rfl (Nat.le_of_ble_eq_true rfl) ⟨Nat.le_of_ble_eq_true rfl, Nat.le_of_ble_eq_true rfl⟩ ?_
  refine cv_putF fpX6_24 rfl (fun C h => by cases h; rfl) dX6_init_29 rfl (Nat.le_of_ble_eq_true rfl) (fun _ => ⟨rfl, rfl⟩) ?_
  refine cv_aload_n dX6_init_32 rfl ?_
  refine cv_bipush dX6_init_33 (by decide) ?_
  refine cv_newi (N := 6) dX6_init_35 (by decide) (by decide) rfl (Nat.le_of_ble_eq_true rfl) ⟨Nat.le_of_ble_eq_true rfl, Nat.le_of_ble_eq_true rfl⟩ ?_
  refine cv_putF fpX6_27 rfl (fun C h => by cases h; rfl) dX6_init_37 rfl (Nat.le_of_ble_eq_true rfl) (fun _ => ⟨rfl, rfl⟩) ?_
  refine cv_aload_n dX6_init_40 rfl ?_
  refine cv_getf flX6_18 dX6_init_41 rfl rfl ?_
  refine cv_iconst dX6_init_44 ?_
  refine cv_bipush dX6_init_45 (by decide) ?_
  refine cv_iasj (0) dX6_init_47 rfl (by omega) (by omega) ?_
  refine cv_ret rfl dX6_init_48 ⟨Nat.le_refl _, Nat.le_refl _⟩ ⟨rfl, rfl⟩
set_option maxRecDepth 100000 in
set_option maxHeartbeats 1000000 in
theorem c_X9_cutOff0 (T : ctT) : CM MX9_cutOff (0, 0, 0) [vR 0, vI 0] ([cO 9 [vR 1, vR 11, vR 12, vR 13, vR 14, vR 15, vI 0], cO 6 [vI (tN T), vI (tR T), vR 2, vR 3, vR 4], cA 0 4 (tT T), cQ 3 [some 5, some 6, some 7, some 8, some 9, some 10], cA 0 6 (tB T), cA 0 4 (tW T 0), cA 0 4 (tW T 1), cA 0 4 (tW T 2), cA 0 4 (tW T 3), cA 0 4 (tW T 4), cA 0 4 (tW T 5), cA 0 36 zF, cA 0 36 zF, cA 0 36 zF, cA 0 4 zF, cA 0 4 zF]) (fun v1 w => v1 = none ∧ w = [cO 9 [vR 1, vR 11, vR 12, vR 13, vR 14, vR 15, vI 0], cO 6 [vI (tN T), vI (tR T), vR 2, vR 3, vR 4], cA 0 4 (tT T), cQ 3 [some 5, some 6, some 7, some 8, some 9, some 10], cA 0 6 (tB T), cA 0 4 (tW T 0), cA 0 4 (tW T 1), cA 0 4 (tW T 2), cA 0 4 (tW T 3), cA 0 4 (tW T 4), cA 0 4 (tW T 5), cA 0 36 zF, cA 0 36 zF, cA 0 36 zF, cA 0 4 (zLo 4), cA 0 4 (zHi (tT T) 4)]) := by
  refine CM.of (by decide) (Nat.le_of_ble_eq_true rfl) ?_
  show CV MX9_cutOff (0, 0, 0) 16 (0, 0) 0 [(0, vR 0), (1, vI 0)] [] ([cO 9 [vR 1, vR 11, vR 12, vR 13, vR 14, vR 15, vI 0], cO 6 [vI (tN T), vI (tR T), vR 2, vR 3, vR 4], cA 0 4 (tT T), cQ 3 [some 5, some 6, some 7, some 8, some 9, some 10], cA 0 6 (tB T), cA 0 4 (tW T 0), cA 0 4 (tW T 1), cA 0 4 (tW T 2), cA 0 4 (tW T 3), cA 0 4 (tW T 4), cA 0 4 (tW T 5), cA 0 36 zF, cA 0 36 zF, cA 0 36 zF, cA 0 4 zF, cA 0 4 zF]) _
  have loop : ∀ (k : Nat) (i : Nat), (4 < i + k) → (i ≤ 4) → CV MX9_cutOff (0, 0, 0) 16 (0, 0) 7 [(0, vR 0), (1, vI 0), (2, vI (i : Nat))] [] ([cO 9 [vR 1, vR 11, vR 12, vR 13, vR 14, vR 15, vI 0], cO 6 [vI (tN T), vI (tR T), vR 2, vR 3, vR 4], cA 0 4 (tT T), cQ 3 [some 5, some 6, some 7, some 8, some 9, some 10], cA 0 6 (tB T), cA 0 4 (tW T 0), cA 0 4 (tW T 1), cA 0 4 (tW T 2), cA 0 4 (tW T 3), cA 0 4 (tW T 4), cA 0 4 (tW T 5), cA 0 36 zF, cA 0 36 zF, cA 0 36 zF, cA 0 4 (zLo i), cA 0 4 (zHi (tT T) i)]) (fun v1 w => v1 = none ∧ w = [cO 9 [vR 1, vR 11, vR 12, vR 13, vR 14, vR 15, vI 0], cO 6 [vI (tN T), vI (tR T), vR 2, vR 3, vR 4], cA 0 4 (tT T), cQ 3 [some 5, some 6, some 7, some 8, some 9, some 10], cA 0 6 (tB T), cA 0 4 (tW T 0), cA 0 4 (tW T 1), cA 0 4 (tW T 2), cA 0 4 (tW T 3), cA 0 4 (tW T 4), cA 0 4 (tW T 5), cA 0 36 zF, cA 0 36 zF, cA 0 36 zF, cA 0 4 (zLo 4), cA 0 4 (zHi (tT T) 4)]) := by
    intro k
    induction k with
    | zero => intro i hk hi; exact absurd hk (by omega)
    | succ k ih =>
      intro i hk hi
      refine cv_iload_n dX9_cutOff_7 rfl ?_
      refine cv_iconst dX9_cutOff_8 ?_
      refine cv_icmp_ge (tgt := 40) dX9_cutOff_9 (by decide) (by omega) (fun h9 => ?_) (fun h9 => ?_)
      · refine cv_iconst dX9_cutOff_40 ?_
        refine cv_istore_n dX9_cutOff_41 (by decide) rfl rfl ?_
        rw [show i = 4 by omega]
        refine cv_iload_n dX9_cutOff_42 rfl ?_
        refine cv_aload_n dX9_cutOff_43 rfl ?_
        refine cv_getf flX9_27 dX9_cutOff_44 rfl rfl ?_
        refine cv_icmp_ge (tgt := 66) dX9_cutOff_47 (by decide) (by decide) (fun h47 => ?_) (fun h47 => absurd h47 (by decide))
        refine cv_ret rfl dX9_cutOff_66 ⟨Nat.le_refl _, Nat.le_refl _⟩ ⟨rfl, rfl⟩
      · refine cv_aload_n dX9_cutOff_12 rfl ?_
        refine cv_getf flX9_21 dX9_cutOff_13 rfl rfl ?_
        refine cv_iload_n dX9_cutOff_16 rfl ?_
        refine cv_iconst dX9_cutOff_17 ?_
        refine cv_iasj (i) dX9_cutOff_18 rfl (by omega) (by omega) ?_
        refine cv_aload_n dX9_cutOff_19 rfl ?_
        refine cv_getf flX9_24 dX9_cutOff_20 rfl rfl ?_
        refine cv_iload_n dX9_cutOff_23 rfl ?_
        refine cv_aload_n dX9_cutOff_24 rfl ?_
        refine cv_getf flX9_31 dX9_cutOff_25 rfl rfl ?_
        refine cv_getf flX9_42 dX9_cutOff_28 rfl rfl ?_
        refine cv_iload_n dX9_cutOff_31 rfl ?_
        refine cv_ialj (i) dX9_cutOff_32 rfl (by omega) (by omega) ?_
        refine cv_iasj (i) dX9_cutOff_33 rfl (by omega) (by omega) ?_
        refine cv_iinc dX9_cutOff_34 (by decide) rfl rfl rfl ?_
        refine cv_goto (tgt := 7) dX9_cutOff_37 (by decide) ?_
        exact ih (i + 1) (by omega) (by omega)
  refine cv_aload_n dX9_cutOff_0 rfl ?_
  refine cv_iload_n dX9_cutOff_1 rfl ?_
  refine cv_putf fpX9_27 dX9_cutOff_2 rfl (Nat.le_of_ble_eq_true rfl) (fun _ => ⟨rfl, rfl⟩) ?_
  refine cv_iconst dX9_cutOff_5 ?_
  refine cv_istore_n dX9_cutOff_6 (by decide) rfl rfl ?_
  exact loop 5 0 (by omega) (by omega)
set_option maxRecDepth 100000 in
set_option maxHeartbeats 1000000 in
theorem c_X9_init (T : ctT) : CM MX9_init (1, 5, 116) [vR 0, vR 1] ([cO 9 [vO none, vO none, vO none, vO none, vO none, vO none, vI 0], cO 6 [vI (tN T), vI (tR T), vR 2, vR 3, vR 4], cA 0 4 (tT T), cQ 3 [some 5, some 6, some 7, some 8, some 9, some 10], cA 0 6 (tB T), cA 0 4 (tW T 0), cA 0 4 (tW T 1), cA 0 4 (tW T 2), cA 0 4 (tW T 3), cA 0 4 (tW T 4), cA 0 4 (tW T 5)]) (fun v1 w => v1 = none ∧ w = [cO 9 [vR 1, vR 11, vR 12, vR 13, vR 14, vR 15, vI 0], cO 6 [vI (tN T), vI (tR T), vR 2, vR 3, vR 4], cA 0 4 (tT T), cQ 3 [some 5, some 6, some 7, some 8, some 9, some 10], cA 0 6 (tB T), cA 0 4 (tW T 0), cA 0 4 (tW T 1), cA 0 4 (tW T 2), cA 0 4 (tW T 3), cA 0 4 (tW T 4), cA 0 4 (tW T 5), cA 0 36 zF, cA 0 36 zF, cA 0 36 zF, cA 0 4 (zLo 4), cA 0 4 (zHi (tT T) 4)]) := by
  refine CM.of (by decide) (Nat.le_of_ble_eq_true rfl) ?_
  show CV MX9_init (1, 5, 116) 11 (0, 0) 0 [(0, vR 0), (1, vR 1)] [] ([cO 9 [vO none, vO none, vO none, vO none, vO none, vO none, vI 0], cO 6 [vI (tN T), vI (tR T), vR 2, vR 3, vR 4], cA 0 4 (tT T), cQ 3 [some 5, some 6, some 7, some 8, some 9, some 10], cA 0 6 (tB T), cA 0 4 (tW T 0), cA 0 4 (tW T 1), cA 0 4 (tW T 2), cA 0 4 (tW T 3), cA 0 4 (tW T 4), cA 0 4 (tW T 5)]) _
  refine cv_aload_n dX9_init_0 rfl ?_
  refine cv_obj mlX9_3 dX9_init_1 (by decide) (Nat.le_of_ble_eq_true rfl) ?_
  refine cv_aload_n dX9_init_4 rfl ?_
  refine cv_bipush dX9_init_5 (by decide) ?_
  refine cv_newi (N := 36) dX9_init_7 (by decide) (by decide) rfl (Nat.le_of_ble_eq_true rfl) ⟨Nat.le_of_ble_eq_true rfl, Nat.le_of_ble_eq_true rfl⟩ ?_
  refine cv_putF fpX9_9 rfl (fun C h => by cases h; rfl) dX9_init_9 rfl (Nat.le_of_ble_eq_true rfl) (fun _ => ⟨rfl, rfl⟩) ?_
  refine cv_aload_n dX9_init_12 rfl ?_
  refine cv_bipush dX9_init_13 (by decide) ?_
  refine cv_newi (N := 36) dX9_init_15 (by decide) (by decide) rfl (Nat.le_of_ble_eq_true rfl) ⟨Nat.le_of_ble_eq_true rfl, Nat.le_of_ble_eq_true rfl⟩ ?_
  refine cv_putF fpX9_15 rfl (fun C h => by cases h; rfl) dX9_init_17 rfl (Nat.le_of_ble_eq_true rfl) (fun _ => ⟨rfl, rfl⟩) ?_
  refine cv_aload_n dX9_init_20 rfl ?_
  refine cv_bipush dX9_init_21 (by decide) ?_
  refine cv_newi (N := 36) dX9_init_23 (by decide) (by decide) rfl (Nat.le_of_ble_eq_true rfl) ⟨Nat.le_of_ble_eq_true rfl, Nat.le_of_ble_eq_true rfl⟩ ?_
  refine cv_putF fpX9_18 rfl (fun C h => by cases h; rfl) dX9_init_25 rfl (Nat.le_of_ble_eq_true rfl) (fun _ => ⟨rfl, rfl⟩) ?_
  refine cv_aload_n dX9_init_28 rfl ?_
  refine cv_iconst dX9_init_29 ?_
  refine cv_newi (N := 4) dX9_init_30 (by decide) (by decide) rfl (Nat.le_of_ble_eq_true rfl) ⟨Nat.le_of_ble_eq_true rfl, Nat.le_of_ble_eq_true rfl⟩ ?_
  refine cv_putF fpX9_21 rfl (fun C h => by cases h; rfl) dX9_init_32 rfl (Nat.le_of_ble_eq_true rfl) (fun _ => ⟨rfl, rfl⟩) ?_
  refine cv_aload_n dX9_init_35 rfl ?_
  refine cv_iconst dX9_init_36 ?_
  refine cv_newi (N := 4) dX9_init_37 (by decide) (by decide) rfl (Nat.le_of_ble_eq_true rfl) ⟨Nat.le_of_ble_eq_true rfl, Nat.le_of_ble_eq_true rfl⟩ ?_
  refine cv_putF fpX9_24 rfl (fun C h => by cases h; rfl) dX9_init_39 rfl (Nat.le_of_ble_eq_true rfl) (fun _ => ⟨rfl, rfl⟩) ?_
  refine cv_aload_n dX9_init_42 rfl ?_
  refine cv_iconst dX9_init_43 ?_
  refine cv_putf fpX9_27 dX9_init_44 rfl (Nat.le_of_ble_eq_true rfl) (fun _ => ⟨rfl, rfl⟩) ?_
  refine cv_aload_n dX9_init_47 rfl ?_
  refine cv_aload_n dX9_init_48 rfl ?_
  refine cv_putF fpX9_31 rfl (fun C h => by cases h; rfl) dX9_init_49 rfl (Nat.le_of_ble_eq_true rfl) (fun _ => ⟨rfl, rfl⟩) ?_
  refine cv_aload_n dX9_init_52 rfl ?_
  refine cv_iconst dX9_init_53 ?_
  refine cv_sameV (c_X9_cutOff0 T) lkX9_cutOff mlX9_35 dX9_init_54 (by decide) rfl rfl (by decide) rfl (Nat.le_of_ble_eq_true rfl) ⟨Nat.le_of_ble_eq_true rfl, Nat.le_of_ble_eq_true rfl⟩ ?_
  intro v w1 hq
  obtain ⟨rfl, rfl⟩ := hq
  refine cv_ret rfl dX9_init_57 ⟨Nat.le_refl _, Nat.le_refl _⟩ ⟨rfl, rfl⟩
set_option maxRecDepth 100000 in
set_option maxHeartbeats 1000000 in
theorem c_X5_init (T : ctT) : CM MX5_init (2, 9, 486) [vR 0, vR 1] ([cO 5 [vO none, vO none, vO none, vI 0], cO 6 [vI (tN T), vI (tR T), vR 2, vR 3, vR 4], cA 0 4 (tT T), cQ 3 [some 5, some 6, some 7, some 8, some 9, some 10], cA 0 6 (tB T), cA 0 4 (tW T 0), cA 0 4 (tW T 1), cA 0 4 (tW T 2), cA 0 4 (tW T 3), cA 0 4 (tW T 4), cA 0 4 (tW T 5)]) (fun v1 w => v1 = none ∧ w = [cO 5 [vR 1, vR 14, vR 11, vI 0], cO 6 [vI (tN T), vI (tR T), vR 2, vR 3, vR 4], cA 0 4 (tT T), cQ 3 [some 5, some 6, some 7, some 8, some 9, some 10], cA 0 6 (tB T), cA 0 4 (tW T 0), cA 0 4 (tW T 1), cA 0 4 (tW T 2), cA 0 4 (tW T 3), cA 0 4 (tW T 4), cA 0 4 (tW T 5), cO 2 [vR 12, vR 13, vI 0], cA 0 320 zF, cA 0 40 zF, cO 9 [vR 1, vR 15, vR 16, vR 17, vR 18, vR 19, vI 0], cA 0 36 zF, cA 0 36 zF, cA 0 36 zF, cA 0 4 (zLo 4), cA 0 4 (zHi (tT T) 4)]) := by
  refine CM.of (by decide) (Nat.le_of_ble_eq_true rfl) ?_
  show CV MX5_init (2, 9, 486) 11 (0, 0) 0 [(0, vR 0), (1, vR 1)] [] ([cO 5 [vO none, vO none, vO none, vI 0], cO 6 [vI (tN T), vI (tR T), vR 2, vR 3, vR 4], cA 0 4 (tT T), cQ 3 [some 5, some 6, some 7, some 8, some 9, some 10], cA 0 6 (tB T), cA 0 4 (tW T 0), cA 0 4 (tW T 1), cA 0 4 (tW T 2), cA 0 4 (tW T 3), cA 0 4 (tW T 4), cA 0 4 (tW T 5)]) _
  refine cv_aload_n dX5_init_0 rfl ?_
  refine cv_obj mlX5_3 dX5_init_1 (by decide) (Nat.le_of_ble_eq_true rfl) ?_
  refine cv_aload_n dX5_init_4 rfl ?_
  refine cv_new (ci := 2) [vO none, vO none, vI 0] clX2 ckX5_9 ikX2 lkX2_init.1 dX5_init_5 (by intro as j hj; rcases (show j = 0 ∨ j = 1 ∨ j = 2 by omega) with rfl | rfl | rfl <;> rfl) rfl rfl (Nat.le_of_ble_eq_true rfl) ⟨Nat.le_of_ble_eq_true rfl, Nat.le_of_ble_eq_true rfl⟩ ?_
  refine cv_dup dX5_init_8 rfl ?_
  refine cv_callIN [11] (c_X2_init) lkX2_init rfl rfl mnX5_11 dX5_init_9 (Nat.le_of_ble_eq_true rfl) rfl rfl (by decide) rfl (Nat.le_of_ble_eq_true rfl) ⟨Nat.le_of_ble_eq_true rfl, Nat.le_of_ble_eq_true rfl⟩ (by decide) rfl (Nat.le_of_ble_eq_true rfl) (fun v w1 h => ⟨h.1, by rw [h.2]; exact Nat.le_of_ble_eq_true rfl⟩) ?_
  refine fun w1 hq => ?_
  obtain ⟨-, rfl⟩ := hq
  refine cv_eq (w' := [cO 5 [vO none, vO none, vO none, vI 0], cO 6 [vI (tN T), vI (tR T), vR 2, vR 3, vR 4], cA 0 4 (tT T), cQ 3 [some 5, some 6, some 7, some 8, some 9, some 10], cA 0 6 (tB T), cA 0 4 (tW T 0), cA 0 4 (tW T 1), cA 0 4 (tW T 2), cA 0 4 (tW T 3), cA 0 4 (tW T 4), cA 0 4 (tW T 5), cO 2 [vR 12, vR 13, vI 0], cA 0 320 zF, cA 0 40 zF]) rfl rfl rfl ?_
  refine cv_putF fpX5_12 rfl (fun C h => by cases h; rfl) dX5_init_12 rfl (Nat.le_of_ble_eq_true rfl) (fun _ => ⟨rfl, rfl⟩) ?_
  refine cv_aload_n dX5_init_15 rfl ?_
  refine cv_iconst dX5_init_16 ?_
  refine cv_putf fpX5_18 dX5_init_17 rfl (Nat.le_of_ble_eq_true rfl) (fun _ => ⟨rfl, rfl⟩) ?_
  refine cv_aload_n dX5_init_20 rfl ?_
  refine cv_aload_n dX5_init_21 rfl ?_
  refine cv_putF fpX5_22 rfl (fun C h => by cases h; rfl) dX5_init_22 rfl (Nat.le_of_ble_eq_true rfl) (fun _ => ⟨rfl, rfl⟩) ?_
  refine cv_aload_n dX5_init_25 rfl ?_
  refine cv_eq (w' := [cO 5 [vR 1, vO none, vR 11, vI 0], cO 6 [vI (tN T), vI (tR T), vR 2, vR 3, vR 4], cA 0 4 (tT T), cQ 3 [some 5, some 6, some 7, some 8, some 9, some 10], cA 0 6 (tB T), cA 0 4 (tW T 0), cA 0 4 (tW T 1), cA 0 4 (tW T 2), cA 0 4 (tW T 3), cA 0 4 (tW T 4), cA 0 4 (tW T 5), cO 2 [vR 12, vR 13, vI 0], cA 0 320 zF, cA 0 40 zF]) rfl rfl rfl ?_
  refine cv_new (ci := 9) [vO none, vO none, vO none, vO none, vO none, vO none, vI 0] clX9 ckX5_26 ikX9 lkX9_init.1 dX5_init_26 (by intro as j hj; rcases (show j = 0 ∨ j = 1 ∨ j = 2 ∨ j = 3 ∨ j = 4 ∨ j = 5 ∨ j = 6 by omega) with rfl | rfl | rfl | rfl | rfl | rfl | rfl <;> rfl) rfl rfl (Nat.le_of_ble_eq_true rfl) ⟨Nat.le_of_ble_eq_true rfl, Nat.le_of_ble_eq_true rfl⟩ ?_
  refine cv_eq (w' := [cO 5 [vR 1, vO none, vR 11, vI 0], cO 6 [vI (tN T), vI (tR T), vR 2, vR 3, vR 4], cA 0 4 (tT T), cQ 3 [some 5, some 6, some 7, some 8, some 9, some 10], cA 0 6 (tB T), cA 0 4 (tW T 0), cA 0 4 (tW T 1), cA 0 4 (tW T 2), cA 0 4 (tW T 3), cA 0 4 (tW T 4), cA 0 4 (tW T 5), cO 2 [vR 12, vR 13, vI 0], cA 0 320 zF, cA 0 40 zF, cO 9 [vO none, vO none, vO none, vO none, vO none, vO none, vI 0]]) rfl rfl rfl ?_
  refine cv_dup dX5_init_29 rfl ?_
  refine cv_aload_n dX5_init_30 rfl ?_
  refine cv_callI [14, 1, 2, 3, 4, 5, 6, 7, 8, 9, 10] (c_X9_init T) lkX9_init rfl rfl mlX5_28 dX5_init_31 (Nat.le_of_ble_eq_true rfl) rfl rfl (by decide) rfl (Nat.le_of_ble_eq_true rfl) ⟨Nat.le_of_ble_eq_true rfl, Nat.le_of_ble_eq_true rfl⟩ (by decide) rfl (Nat.le_of_ble_eq_true rfl) (fun v w1 h => ⟨h.1, by rw [h.2]; exact Nat.le_of_ble_eq_true rfl⟩) ?_
  refine fun w1 hq => ?_
  obtain ⟨-, rfl⟩ := hq
  refine cv_eq (w' := [cO 5 [vR 1, vO none, vR 11, vI 0], cO 6 [vI (tN T), vI (tR T), vR 2, vR 3, vR 4], cA 0 4 (tT T), cQ 3 [some 5, some 6, some 7, some 8, some 9, some 10], cA 0 6 (tB T), cA 0 4 (tW T 0), cA 0 4 (tW T 1), cA 0 4 (tW T 2), cA 0 4 (tW T 3), cA 0 4 (tW T 4), cA 0 4 (tW T 5), cO 2 [vR 12, vR 13, vI 0], cA 0 320 zF, cA 0 40 zF, cO 9 [vR 1, vR 15, vR 16, vR 17, vR 18, vR 19, vI 0], cA 0 36 zF, cA 0 36 zF, cA 0 36 zF, cA 0 4 (zLo 4), cA 0 4 (zHi (tT T) 4)]) rfl rfl rfl ?_
  refine cv_putF fpX5_31 rfl (fun C h => by cases h; rfl) dX5_init_34 rfl (Nat.le_of_ble_eq_true rfl) (fun _ => ⟨rfl, rfl⟩) ?_
  refine cv_ret rfl dX5_init_37 ⟨Nat.le_refl _, Nat.le_refl _⟩ ⟨rfl, rfl⟩
