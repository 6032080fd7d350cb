set_option maxRecDepth 100000 in
set_option maxHeartbeats 1000000 in
theorem c_X11_isSide (w : List ct_C) (a : Int) (hx : -2147483648 ≤ a ∧ a ≤ 2147483647) : CM MX11_isSide (0, 0, 0) [vI a] (w) (fun v w1 => v = some (vI (ct_i (a = 0 ∨ a = 1))) ∧ w1 = w) := by
  refine CM.of (by decide) (Nat.le_of_ble_eq_true rfl) ?_
  show CV MX11_isSide (0, 0, 0) w.length (0, 0) 0 [(0, vI a)] [] (w) _
  refine cv_iload_n dX11_isSide_0 rfl ?_
  refine cv_if_eq (tgt := 9) dX11_isSide_1 (by decide) (by omega) (fun h1 => ?_) (fun h1 => ?_)
  · refine cv_iconst dX11_isSide_9 ?_
    refine cv_goto (tgt := 14) dX11_isSide_10 (by decide) ?_
    refine cv_zret rfl dX11_isSide_14 ⟨Nat.le_refl _, Nat.le_refl _⟩ (by omega) ⟨ct_rI (by first | exact (ct_i_t (by omega)).symm | exact (ct_i_f (by omega)).symm), rfl⟩
  · refine cv_iload_n dX11_isSide_4 rfl ?_
    refine cv_iconst dX11_isSide_5 ?_
    refine cv_icmp_ne (tgt := 13) dX11_isSide_6 (by decide) (by omega) (fun h6 => ?_) (fun h6 => ?_)
    · refine cv_iconst dX11_isSide_13 ?_
      refine cv_zret rfl dX11_isSide_14 ⟨Nat.le_refl _, Nat.le_refl _⟩ (by omega) ⟨ct_rI (by first | exact (ct_i_t (by omega)).symm | exact (ct_i_f (by omega)).symm), rfl⟩
    · refine cv_iconst dX11_isSide_9 ?_
      refine cv_goto (tgt := 14) dX11_isSide_10 (by decide) ?_
      refine cv_zret rfl dX11_isSide_14 ⟨Nat.le_refl _, Nat.le_refl _⟩ (by omega) ⟨ct_rI (by first | exact (ct_i_t (by omega)).symm | exact (ct_i_f (by omega)).symm), rfl⟩
set_option maxRecDepth 100000 in
set_option maxHeartbeats 1000000 in
theorem c_X11_isValue (w : List ct_C) (a : Int) (hx : -2147483648 ≤ a ∧ a ≤ 2147483647) : CM MX11_isValue (0, 0, 0) [vI a] (w) (fun v w1 => v = some (vI (ct_i (0 ≤ a ∧ a ≤ 9))) ∧ w1 = w) := by
  refine CM.of (by decide) (Nat.le_of_ble_eq_true rfl) ?_
  show CV MX11_isValue (0, 0, 0) w.length (0, 0) 0 [(0, vI a)] [] (w) _
  refine cv_iload_n dX11_isValue_0 rfl ?_
  refine cv_if_lt (tgt := 14) dX11_isValue_1 (by decide) (by omega) (fun h1 => ?_) (fun h1 => ?_)
  · refine cv_iconst dX11_isValue_14 ?_
    refine cv_zret rfl dX11_isValue_15 ⟨Nat.le_refl _, Nat.le_refl _⟩ (by omega) ⟨ct_rI (by first | exact (ct_i_t (by omega)).symm | exact (ct_i_f (by omega)).symm), rfl⟩
  · refine cv_iload_n dX11_isValue_4 rfl ?_
    refine cv_bipush dX11_isValue_5 (by decide) ?_
    refine cv_icmp_gt (tgt := 14) dX11_isValue_7 (by decide) (by omega) (fun h7 => ?_) (fun h7 => ?_)
    · refine cv_iconst dX11_isValue_14 ?_
      refine cv_zret rfl dX11_isValue_15 ⟨Nat.le_refl _, Nat.le_refl _⟩ (by omega) ⟨ct_rI (by first | exact (ct_i_t (by omega)).symm | exact (ct_i_f (by omega)).symm), rfl⟩
    · refine cv_iconst dX11_isValue_10 ?_
      refine cv_goto (tgt := 15) dX11_isValue_11 (by decide) ?_
      refine cv_zret rfl dX11_isValue_15 ⟨Nat.le_refl _, Nat.le_refl _⟩ (by omega) ⟨ct_rI (by first | exact (ct_i_t (by omega)).symm | exact (ct_i_f (by omega)).symm), rfl⟩
def gWr (a : Int) (y : ctY) : Int × ctY := if a < 0 ∨ 255 < a then (-2, y) else if 60 ≤ y.1 then (-4, y) else ((y.1 : Int) + 1, (y.1 + 1, ct_up y.2.1 y.1 a, y.2.2))
set_option maxRecDepth 100000 in
set_option maxHeartbeats 1000000 in
theorem c_X11_write (T : ctT) (S : ctS) (n : Nat) (P : Nat → Nat) (A : Nat → ctS) (V : ctS) (x : ctX) (y : ctY) (c : ctW) (k : ctK) (sd : Int) (a : Int) (ar : -2147483648 ≤ a ∧ a ≤ 2147483647) (hy : y.1 ≤ 60) : CM MX11_write (1, 0, 0) [vR 165, vI a] (wTop T S n P A V x y c k sd) (fun v w => v = some (vI (gWr a y).1) ∧ w = wTop T S n P A V x (gWr a y).2 c k sd) := by
  refine CM.of (by decide) (Nat.le_of_ble_eq_true rfl) ?_
  show CV MX11_write (1, 0, 0) 209 (0, 0) 0 [(0, vR 165), (1, vI a)] [] (wTop T S n P A V x y c k sd) _
  have e1 : a < 0 ∨ 255 < a → gWr a y = (-2, y) := fun h => if_pos h
  have e2 : ¬ (a < 0 ∨ 255 < a) → 60 ≤ y.1 → gWr a y = (-4, y) := fun h h2 => (if_neg h).trans (if_pos h2)
  have e3 : ¬ (a < 0 ∨ 255 < a) → ¬ 60 ≤ y.1 → gWr a y = ((y.1 : Int) + 1, (y.1 + 1, ct_up y.2.1 y.1 a, y.2.2)) := fun h h2 => (if_neg h).trans (if_neg h2)
  refine cv_iload_n dX11_write_0 rfl ?_
  refine cv_if_lt (tgt := 11) dX11_write_1 (by decide) (by omega) (fun h1 => ?_) (fun h1 => ?_)
  · refine cv_bipush dX11_write_11 (by decide) ?_
    refine cv_iret rfl dX11_write_13 ⟨Nat.le_refl _, Nat.le_refl _⟩ (by rw [e1 (by omega)]; exact ⟨rfl, rfl⟩)
  · refine cv_iload_n dX11_write_4 rfl ?_
    refine cv_sipush dX11_write_5 (by decide) ?_
    refine cv_icmp_le (tgt := 14) dX11_write_8 (by decide) (by omega) (fun h8 => ?_) (fun h8 => ?_)
    · refine cv_aload_n dX11_write_14 rfl ?_
      refine cv_getf flX11_19 dX11_write_15 rfl rfl ?_
      refine cv_getf flX11_81 dX11_write_18 rfl rfl ?_
      refine cv_bipush dX11_write_21 (by decide) ?_
      refine cv_icmp_lt (tgt := 29) dX11_write_23 (by decide) (by omega) (fun h23 => ?_) (fun h23 => ?_)
      · refine cv_aload_n dX11_write_29 rfl ?_
        refine cv_getf flX11_19 dX11_write_30 rfl rfl ?_
        refine cv_iload_n dX11_write_33 rfl ?_
        refine cv_topX (c_X7_put y.1 y.2.1 (by omega) a) lkX7_put mlX11_85 dX11_write_34 (by decide) rfl rfl (by decide) rfl (Nat.le_of_ble_eq_true rfl) ⟨Nat.le_refl _, Nat.le_refl _⟩ ?_
        intro v w1 hq
        obtain ⟨rfl, rfl⟩ := hq
        refine ⟨_, _, rfl, ?_⟩
        refine cv_aload_n dX11_write_37 rfl ?_
        refine cv_getf flX11_19 dX11_write_38 rfl rfl ?_
        refine cv_getf flX11_81 dX11_write_41 rfl rfl ?_
        refine cv_iret rfl dX11_write_44 ⟨Nat.le_refl _, Nat.le_refl _⟩ (by rw [e3 (by omega) (by omega)]; exact ⟨rfl, rfl⟩)
      · refine cv_bipush dX11_write_26 (by decide) ?_
        refine cv_iret rfl dX11_write_28 ⟨Nat.le_refl _, Nat.le_refl _⟩ (by rw [e2 (by omega) (by omega)]; exact ⟨rfl, rfl⟩)
    · refine cv_bipush dX11_write_11 (by decide) ?_
      refine cv_iret rfl dX11_write_13 ⟨Nat.le_refl _, Nat.le_refl _⟩ (by rw [e1 (by omega)]; exact ⟨rfl, rfl⟩)
set_option maxRecDepth 100000 in
set_option maxHeartbeats 1000000 in
theorem c_X11_wipe (T : ctT) (S : ctS) (n : Nat) (P : Nat → Nat) (A : Nat → ctS) (V : ctS) (x : ctX) (y : ctY) (c : ctW) (k : ctK) (sd : Int)  : CM MX11_wipe (0, 0, 0) [vR 165] (wTop T S n P A V x y c k sd) (fun v w => v = some (vI y.1) ∧ w = wTop T S n P A V x (0, y.2) c k sd) := by
  refine CM.of (by decide) (Nat.le_of_ble_eq_true rfl) ?_
  show CV MX11_wipe (0, 0, 0) 209 (0, 0) 0 [(0, vR 165)] [] (wTop T S n P A V x y c k sd) _
  refine cv_aload_n dX11_wipe_0 rfl ?_
  refine cv_getf flX11_19 dX11_wipe_1 rfl rfl ?_
  refine cv_getf flX11_81 dX11_wipe_4 rfl rfl ?_
  refine cv_istore_n dX11_wipe_7 (by decide) rfl rfl ?_
  refine cv_aload_n dX11_wipe_8 rfl ?_
  refine cv_getf flX11_19 dX11_wipe_9 rfl rfl ?_
  refine cv_iconst dX11_wipe_12 ?_
  refine cv_putf fpX11_81 dX11_wipe_13 rfl (Nat.le_of_ble_eq_true rfl) (fun _ => ⟨rfl, rfl⟩) ?_
  refine cv_iload_n dX11_wipe_16 rfl ?_
  refine cv_iret rfl dX11_wipe_17 ⟨Nat.le_refl _, Nat.le_refl _⟩ ⟨rfl, rfl⟩
set_option maxRecDepth 100000 in
set_option maxHeartbeats 1000000 in
theorem c_X11_unsee (T : ctT) (S : ctS) (n : Nat) (P : Nat → Nat) (A : Nat → ctS) (V : ctS) (x : ctX) (y : ctY) (c : ctW) (k : ctK) (sd : Int)  : CM MX11_unsee (0, 0, 0) [vR 165] (wTop T S n P A V x y c k sd) (fun v w => v = some (vI y.2.2.1) ∧ w = wTop T S n P A V x (y.1, y.2.1, 0, y.2.2.2) c k sd) := by
  refine CM.of (by decide) (Nat.le_of_ble_eq_true rfl) ?_
  show CV MX11_unsee (0, 0, 0) 209 (0, 0) 0 [(0, vR 165)] [] (wTop T S n P A V x y c k sd) _
  refine cv_aload_n dX11_unsee_0 rfl ?_
  refine cv_getf flX11_59 dX11_unsee_1 rfl rfl ?_
  refine cv_getf flX11_151 dX11_unsee_4 rfl rfl ?_
  refine cv_istore_n dX11_unsee_7 (by decide) rfl rfl ?_
  refine cv_aload_n dX11_unsee_8 rfl ?_
  refine cv_getf flX11_59 dX11_unsee_9 rfl rfl ?_
  refine cv_iconst dX11_unsee_12 ?_
  refine cv_putf fpX11_151 dX11_unsee_13 rfl (Nat.le_of_ble_eq_true rfl) (fun _ => ⟨rfl, rfl⟩) ?_
  refine cv_iload_n dX11_unsee_16 rfl ?_
  refine cv_iret rfl dX11_unsee_17 ⟨Nat.le_refl _, Nat.le_refl _⟩ ⟨rfl, rfl⟩
set_option maxRecDepth 100000 in
set_option maxHeartbeats 1000000 in
theorem c_X11_seed (T : ctT) (S : ctS) (n : Nat) (P : Nat → Nat) (A : Nat → ctS) (V : ctS) (x : ctX) (y : ctY) (c : ctW) (k : ctK) (sd : Int) (a : Int) : CM MX11_seed (0, 0, 0) [vR 165, vL a] (wTop T S n P A V x y c k sd) (fun v w => v = some (vL sd) ∧ w = wTop T S n P A V x y c k a) := by
  refine CM.of (by decide) (Nat.le_of_ble_eq_true rfl) ?_
  show CV MX11_seed (0, 0, 0) 209 (0, 0) 0 [(0, vR 165), (1, vL a)] [] (wTop T S n P A V x y c k sd) _
  refine cv_aload_n dX11_seed_0 rfl ?_
  refine cv_getf flX11_77 dX11_seed_1 rfl rfl ?_
  refine cv_lstore_n dX11_seed_4 (by decide) rfl rfl ?_
  refine cv_aload_n dX11_seed_5 rfl ?_
  refine cv_lload_n dX11_seed_6 rfl ?_
  refine cv_putf fpX11_77 dX11_seed_7 rfl (Nat.le_of_ble_eq_true rfl) (fun _ => ⟨rfl, rfl⟩) ?_
  refine cv_lload_n dX11_seed_10 rfl ?_
  refine cv_lret rfl dX11_seed_11 ⟨Nat.le_refl _, Nat.le_refl _⟩ ⟨rfl, rfl⟩
set_option maxRecDepth 100000 in
set_option maxHeartbeats 1000000 in
theorem c_X11_fault (T : ctT) (S : ctS) (n : Nat) (P : Nat → Nat) (A : Nat → ctS) (V : ctS) (x : ctX) (y : ctY) (c : ctW) (k : ctK) (sd : Int) (hf : okL y.2.1) (hy : y.1 ≤ 60) : CM MX11_fault (4, 0, 0) [vR 165] (wTop T S n P A V x y c k sd) (fun v w => v = some (vI (fFt y.1 y.2.1)) ∧ w = wTop T S n P A V x y c k sd) := by
  refine CM.of (by decide) (Nat.le_of_ble_eq_true rfl) ?_
  show CV MX11_fault (4, 0, 0) 209 (0, 0) 0 [(0, vR 165)] [] (wTop T S n P A V x y c k sd) _
  refine cv_aload_n dX11_fault_0 rfl ?_
  refine cv_getf flX11_19 dX11_fault_1 rfl rfl ?_
  refine cv_topX (c_X7_firstFault y.1 y.2.1 hf hy) lkX7_firstFault mlX11_89 dX11_fault_4 (by decide) rfl rfl (by decide) rfl (Nat.le_of_ble_eq_true rfl) ⟨Nat.le_refl _, Nat.le_refl _⟩ ?_
  intro v w1 hq
  obtain ⟨rfl, rfl⟩ := hq
  refine ⟨_, _, rfl, ?_⟩
  refine cv_iret rfl dX11_fault_7 ⟨Nat.le_refl _, Nat.le_refl _⟩ ⟨rfl, rfl⟩
def gSee (T : ctT) (a s q u : Int) (y : ctY) : Int × ctY := if ¬ (0 ≤ a ∧ a < (tN T : Int)) then (-1, y) else if ¬ (s = 0 ∨ s = 1) ∨ ¬ (0 ≤ q ∧ q ≤ 9) ∨ u < 0 ∨ 1 < u then (-2, y) else if 6 ≤ y.2.2.1 then (-4, y) else ((y.2.2.1 : Int) + 1, (y.1, y.2.1, y.2.2.1 + 1, ct_up y.2.2.2.1 y.2.2.1 (100 * a + 10 * s + q), ct_up y.2.2.2.2 y.2.2.1 u))
set_option maxRecDepth 100000 in
set_option maxHeartbeats 1000000 in
theorem c_X11_see (T : ctT) (S : ctS) (n : Nat) (P : Nat → Nat) (A : Nat → ctS) (V : ctS) (x : ctX) (y : ctY) (c : ctW) (k : ctK) (sd : Int) (a s q u : Int) (ar : -2147483648 ≤ a ∧ a ≤ 2147483647) (sr : -2147483648 ≤ s ∧ s ≤ 2147483647) (qr : -2147483648 ≤ q ∧ q ≤ 2147483647) (ur : -2147483648 ≤ u ∧ u ≤ 2147483647) (hT : okT T) (hy : y.2.2.1 ≤ 6) : CM MX11_see (1, 0, 0) [vR 165, vI a, vI s, vI q, vI u] (wTop T S n P A V x y c k sd) (fun v w => v = some (vI (gSee T a s q u y).1) ∧ w = wTop T S n P A V x (gSee T a s q u y).2 c k sd) := by
  refine CM.of (by decide) (Nat.le_of_ble_eq_true rfl) ?_
  show CV MX11_see (1, 0, 0) 209 (0, 0) 0 [(0, vR 165), (1, vI a), (2, vI s), (3, vI q), (4, vI u)] [] (wTop T S n P A V x y c k sd) _
  have i1 := ct_i_r (0 ≤ a ∧ a < (tN T : Int))
  have i2 := ct_i_r (s = 0 ∨ s = 1)
  have i3 := ct_i_r (0 ≤ q ∧ q ≤ 9)
  have e1 : ¬ (0 ≤ a ∧ a < (tN T : Int)) → gSee T a s q u y = (-1, y) := fun h => if_pos h
  have e2 : (0 ≤ a ∧ a < (tN T : Int)) → (¬ (s = 0 ∨ s = 1) ∨ ¬ (0 ≤ q ∧ q ≤ 9) ∨ u < 0 ∨ 1 < u) → gSee T a s q u y = (-2, y) := fun h h2 => (if_neg (fun z => z h)).trans (if_pos h2)
  have e3 : (0 ≤ a ∧ a < (tN T : Int)) → ¬ (¬ (s = 0 ∨ s = 1) ∨ ¬ (0 ≤ q ∧ q ≤ 9) ∨ u < 0 ∨ 1 < u) → 6 ≤ y.2.2.1 → gSee T a s q u y = (-4, y) := fun h h2 h3 => (if_neg (fun z => z h)).trans ((if_neg h2).trans (if_pos h3))
  have e4 : (0 ≤ a ∧ a < (tN T : Int)) → ¬ (¬ (s = 0 ∨ s = 1) ∨ ¬ (0 ≤ q ∧ q ≤ 9) ∨ u < 0 ∨ 1 < u) → ¬ 6 ≤ y.2.2.1 → gSee T a s q u y = ((y.2.2.1 : Int) + 1, (y.1, y.2.1, y.2.2.1 + 1, ct_up y.2.2.2.1 y.2.2.1 (100 * a + 10 * s + q), ct_up y.2.2.2.2 y.2.2.1 u)) := fun h h2 h3 => (if_neg (fun z => z h)).trans ((if_neg h2).trans (if_neg h3))
  have l38 : (0 ≤ a ∧ a < (tN T : Int)) → (¬ (s = 0 ∨ s = 1) ∨ ¬ (0 ≤ q ∧ q ≤ 9) ∨ u < 0 ∨ 1 < u) → CV MX11_see (1, 0, 0) 209 (0, 0) 38 [(0, vR 165), (1, vI a), (2, vI s), (3, vI q), (4, vI u)] [] (wTop T S n P A V x y c k sd) (fun v w => v = some (vI (gSee T a s q u y).1) ∧ w = wTop T S n P A V x (gSee T a s q u y).2 c k sd) := by
    intro  ha hb
    refine cv_bipush dX11_see_38 (by decide) ?_
    refine cv_iret rfl dX11_see_40 ⟨Nat.le_refl _, Nat.le_refl _⟩ (by rw [e2 ha hb]; exact ⟨rfl, rfl⟩)
  have l77 : (0 ≤ a ∧ a < (tN T : Int)) → (¬ (¬ (s = 0 ∨ s = 1) ∨ ¬ (0 ≤ q ∧ q ≤ 9) ∨ u < 0 ∨ 1 < u)) → (¬ 6 ≤ y.2.2.1) → CV MX11_see (1, 0, 0) 209 (0, 0) 77 [(0, vR 165), (1, vI a), (2, vI s), (3, vI q), (4, vI u)] [vI u, vI (100 * a + 10 * s + q), vR 178] (wTop T S n P A V x y c k sd) (fun v w => v = some (vI (gSee T a s q u y).1) ∧ w = wTop T S n P A V x (gSee T a s q u y).2 c k sd) := by
    intro  ha hb hc
    refine cv_topN (c_X3_put y.2.2.1 y.2.2.2.1 y.2.2.2.2 (by omega) (100 * a + 10 * s + q) u (by omega)) lkX3_put mlX11_254 dX11_see_77 (by decide) rfl rfl (by decide) rfl (Nat.le_of_ble_eq_true rfl) ⟨Nat.le_refl _, Nat.le_refl _⟩ ?_
    intro v w1 hq
    obtain ⟨rfl, rfl⟩ := hq
    refine ⟨_, _, _, rfl, ?_⟩
    refine cv_aload_n dX11_see_80 rfl ?_
    refine cv_getf flX11_59 dX11_see_81 rfl rfl ?_
    refine cv_getf flX11_151 dX11_see_84 rfl rfl ?_
    refine cv_iret rfl dX11_see_87 ⟨Nat.le_refl _, Nat.le_refl _⟩ (by rw [e4 ha hb hc]; exact ⟨rfl, rfl⟩)
  refine cv_aload_n dX11_see_0 rfl ?_
  refine cv_getf flX11_12 dX11_see_1 rfl rfl ?_
  refine cv_iload_n dX11_see_4 rfl ?_
  refine cv_topS (c_X6_hasNumber T S hT a ar) lkX6_hasNumber mlX11_152 dX11_see_5 (by decide) rfl rfl (by decide) rfl (Nat.le_of_ble_eq_true rfl) ⟨Nat.le_refl _, Nat.le_refl _⟩ ?_
  intro v w1 hq
  obtain ⟨rfl, rfl⟩ := hq
  refine ⟨_, _, rfl, ?_⟩
  refine cv_if_ne (tgt := 13) dX11_see_8 (by decide) (by omega) (fun h8 => ?_) (fun h8 => ?_)
  · have ha := ct_i_1.mp (show ct_i (0 ≤ a ∧ a < (tN T : Int)) = 1 by omega)
    refine cv_iload_n dX11_see_13 rfl ?_
    refine cv_sameS (c_X11_isSide (wTop T S n P A V x y c k sd) s sr) lkX11_isSide mlX11_210 dX11_see_14 (by decide) rfl rfl (Nat.le_of_ble_eq_true rfl) ⟨Nat.le_refl _, Nat.le_refl _⟩ ?_
    intro v w1 hq
    obtain ⟨rfl, rfl⟩ := hq
    refine cv_if_eq (tgt := 38) dX11_see_17 (by decide) (by omega) (fun h17 => ?_) (fun h17 => ?_)
    · have hs := ct_i_0.mp h17
      exact l38 ha (by omega)
    · have hs := ct_i_1.mp (show ct_i (s = 0 ∨ s = 1) = 1 by omega)
      refine cv_iload_n dX11_see_20 rfl ?_
      refine cv_sameS (c_X11_isValue (wTop T S n P A V x y c k sd) q qr) lkX11_isValue mlX11_213 dX11_see_21 (by decide) rfl rfl (Nat.le_of_ble_eq_true rfl) ⟨Nat.le_refl _, Nat.le_refl _⟩ ?_
      intro v w1 hq
      obtain ⟨rfl, rfl⟩ := hq
      refine cv_if_eq (tgt := 38) dX11_see_24 (by decide) (by omega) (fun h24 => ?_) (fun h24 => ?_)
      · have hq := ct_i_0.mp h24
        exact l38 ha (by omega)
      · have hq := ct_i_1.mp (show ct_i (0 ≤ q ∧ q ≤ 9) = 1 by omega)
        refine cv_iload dX11_see_27 rfl ?_
        refine cv_if_lt (tgt := 38) dX11_see_29 (by decide) (by omega) (fun h29 => ?_) (fun h29 => ?_)
        · exact l38 ha (by omega)
        · refine cv_iload dX11_see_32 rfl ?_
          refine cv_iconst dX11_see_34 ?_
          refine cv_icmp_le (tgt := 41) dX11_see_35 (by decide) (by omega) (fun h35 => ?_) (fun h35 => ?_)
          · refine cv_aload_n dX11_see_41 rfl ?_
            refine cv_getf flX11_59 dX11_see_42 rfl rfl ?_
            refine cv_getf flX11_151 dX11_see_45 rfl rfl ?_
            refine cv_bipush dX11_see_48 (by decide) ?_
            refine cv_icmp_lt (tgt := 56) dX11_see_50 (by decide) (by omega) (fun h50 => ?_) (fun h50 => ?_)
            · refine cv_aload_n dX11_see_56 rfl ?_
              refine cv_getf flX11_59 dX11_see_57 rfl rfl ?_
              refine cv_iload_n dX11_see_60 rfl ?_
              refine cv_iload_n dX11_see_61 rfl ?_
              refine cv_iload_n dX11_see_62 rfl ?_
              refine cv_sameS (c_X11_markOf (wTop T S n P A V x y c k sd) a s q) lkX11_markOf mlX11_216 dX11_see_63 (by decide) rfl rfl (Nat.le_of_ble_eq_true rfl) ⟨Nat.le_refl _, Nat.le_refl _⟩ ?_
              intro v w1 hq
              obtain ⟨rfl, rfl⟩ := hq
              refine cv_iload dX11_see_66 rfl ?_
              refine cv_iconst dX11_see_68 ?_
              refine cv_icmp_ne (tgt := 76) dX11_see_69 (by decide) (by omega) (fun h69 => ?_) (fun h69 => ?_)
              · refine cv_iconst dX11_see_76 ?_
                have e9 : (0 : Int) = u := by omega
                refine cv_topi u e9 ?_
                exact l77 ha (by omega) (by omega)
              · refine cv_iconst dX11_see_72 ?_
                refine cv_goto (tgt := 77) dX11_see_73 (by decide) ?_
                have e9 : (1 : Int) = u := by omega
                refine cv_topi u e9 ?_
                exact l77 ha (by omega) (by omega)
            · refine cv_bipush dX11_see_53 (by decide) ?_
              refine cv_iret rfl dX11_see_55 ⟨Nat.le_refl _, Nat.le_refl _⟩ (by rw [e3 ha (by omega) (by omega)]; exact ⟨rfl, rfl⟩)
          · exact l38 ha (by omega)
  · refine cv_iconst dX11_see_11 ?_
    refine cv_iret rfl dX11_see_12 ⟨Nat.le_refl _, Nat.le_refl _⟩ (by rw [e1 (ct_i_0.mp (by omega))]; exact ⟨rfl, rfl⟩)
set_option maxRecDepth 100000 in
set_option maxHeartbeats 1000000 in
theorem c_X11_which (T : ctT) (S : ctS) (n : Nat) (P : Nat → Nat) (A : Nat → ctS) (V : ctS) (x : ctX) (y : ctY) (c : ctW) (k : ctK) (sd : Int) (hT : okT T) (hn : y.2.2.1 ≤ 6) (hg : ∀ i, i < y.2.2.1 → 0 ≤ y.2.2.2.1 i ∧ y.2.2.2.1 i ≤ 999 ∧ y.2.2.2.1 i / 10 % 10 ≤ 1) (hh : ∀ i, i < y.2.2.1 → y.2.2.2.2 i = 0 ∨ y.2.2.2.2 i = 1) : CM MX11_which (4, 0, 0) [vR 165] (wTop T S n P A V x y c k sd) (fun v w => ∃ x1, v = some (vI (fWs T y.2.2.1 y.2.2.2.1 y.2.2.2.2)) ∧ w = wTop T S n P A V x1 y c k sd) := by
  refine CM.of (by decide) (Nat.le_of_ble_eq_true rfl) ?_
  show CV MX11_which (4, 0, 0) 209 (0, 0) 0 [(0, vR 165)] [] (wTop T S n P A V x y c k sd) _
  refine cv_aload_n dX11_which_0 rfl ?_
  refine cv_getf flX11_66 dX11_which_1 rfl rfl ?_
  refine cv_aload_n dX11_which_4 rfl ?_
  refine cv_getf flX11_59 dX11_which_5 rfl rfl ?_
  refine cv_topWN (c_X10_bySeen T S x.2.2.1 x.2.2.2 hT y.2.2.1 y.2.2.2.1 y.2.2.2.2 hn hg hh) lkX10_bySeen mlX11_257 dX11_which_8 (by decide) rfl rfl (by decide) rfl (Nat.le_of_ble_eq_true rfl) ⟨Nat.le_refl _, Nat.le_refl _⟩ ?_
  intro v w1 hq
  obtain ⟨f1, t1, rfl, rfl⟩ := hq
  refine ⟨_, _, f1, t1, _, _, _, rfl, ?_⟩
  refine cv_iret rfl dX11_which_11 ⟨Nat.le_refl _, Nat.le_refl _⟩ ⟨_, rfl, rfl⟩
noncomputable def gSh (T : ctT) (a u : Int) : Int := if 0 ≤ a ∧ a < (tR T : Int) then fFr (fSh T a.toNat (2 ^ tR T)).toNat (dOrd (tR T)).toNat u else -1
noncomputable def gCh (T : ctT) (v a u : Int) : Int := if 0 ≤ v ∧ v ≤ 9999 ∧ 0 ≤ a ∧ a ≤ 10 then fFr (fCs T v a (2 ^ tR T)).toNat (10 ^ tR T) u else -2
set_option maxRecDepth 100000 in
set_option maxHeartbeats 1000000 in
theorem c_X11_share (T : ctT) (S : ctS) (n : Nat) (P : Nat → Nat) (A : Nat → ctS) (V : ctS) (x : ctX) (y : ctY) (c : ctW) (k : ctK) (sd : Int) (a u : Int) (ar : -2147483648 ≤ a ∧ a ≤ 2147483647) (hu : u = 0 ∨ u = 1) (hT : okT T) (hc : okW T c.1 c.2) : CM MX11_share (3, 0, 0) [vR 165, vI a, vI u] (wTop T S n P A V x y c k sd) (fun v w => ∃ c1, v = some (vI (gSh T a u)) ∧ w = wTop T S n P A V x y c1 k sd ∧ okW T c1.1 c1.2) := by
  refine CM.of (by decide) (Nat.le_of_ble_eq_true rfl) ?_
  show CV MX11_share (3, 0, 0) 209 (0, 0) 0 [(0, vR 165), (1, vI a), (2, vI u)] [] (wTop T S n P A V x y c k sd) _
  have i1 := ct_i_r (0 ≤ a ∧ a < (tR T : Int))
  refine cv_aload_n dX11_share_0 rfl ?_
  refine cv_getf flX11_12 dX11_share_1 rfl rfl ?_
  refine cv_iload_n dX11_share_4 rfl ?_
  refine cv_topS (c_X6_hasRule T S hT a ar) lkX6_hasRule mlX11_170 dX11_share_5 (by decide) rfl rfl (by decide) rfl (Nat.le_of_ble_eq_true rfl) ⟨Nat.le_refl _, Nat.le_refl _⟩ ?_
  intro v w1 hq
  obtain ⟨rfl, rfl⟩ := hq
  refine ⟨_, _, rfl, ?_⟩
  refine cv_if_ne (tgt := 13) dX11_share_8 (by decide) (by omega) (fun h8 => ?_) (fun h8 => ?_)
  · have ha := ct_i_1.mp (show ct_i (0 ≤ a ∧ a < (tR T : Int)) = 1 by omega)
    refine cv_aload_n dX11_share_13 rfl ?_
    refine cv_getf flX11_73 dX11_share_14 rfl rfl ?_
    refine cv_iload_n dX11_share_17 rfl ?_
    refine cv_iload_n dX11_share_18 rfl ?_
    have e0 : (vI a : ct_V) = vI ((a.toNat : Nat) : Int) := by rw [Int.toNat_of_nonneg ha.1]
    rw [e0]
    refine cv_topC (c_X1_shareOf T S c.1 c.2 hT hc a.toNat (by omega) u hu) lkX1_shareOf mlX11_261 dX11_share_19 (by decide) rfl rfl (by decide) rfl (Nat.le_of_ble_eq_true rfl) ⟨Nat.le_refl _, Nat.le_refl _⟩ ?_
    intro v w1 hq
    obtain ⟨f1, rfl, rfl, hf⟩ := hq
    refine ⟨_, _, _, f1, rfl, ?_⟩
    refine cv_iret rfl dX11_share_22 ⟨Nat.le_refl _, Nat.le_refl _⟩ ⟨(1, f1), ct_rI (if_pos ha).symm, rfl, Or.inr ⟨rfl, hf⟩⟩
  · refine cv_iconst dX11_share_11 ?_
    refine cv_iret rfl dX11_share_12 ⟨Nat.le_refl _, Nat.le_refl _⟩ ⟨c, ct_rI (if_neg (ct_i_0.mp (by omega))).symm, rfl, hc⟩
set_option maxRecDepth 100000 in
set_option maxHeartbeats 1000000 in
theorem c_X11_chance (T : ctT) (S : ctS) (n : Nat) (P : Nat → Nat) (A : Nat → ctS) (V : ctS) (x : ctX) (y : ctY) (c : ctW) (k : ctK) (sd : Int) (v a u : Int) (vr : -2147483648 ≤ v ∧ v ≤ 2147483647) (ar : -2147483648 ≤ a ∧ a ≤ 2147483647) (hu : u = 0 ∨ u = 1) (hT : okT T) (hc : okW T c.1 c.2) : CM MX11_chance (3, 0, 0) [vR 165, vI v, vI a, vI u] (wTop T S n P A V x y c k sd) (fun v1 w => ∃ c1, v1 = some (vI (gCh T v a u)) ∧ w = wTop T S n P A V x y c1 k sd ∧ okW T c1.1 c1.2) := by
  refine CM.of (by decide) (Nat.le_of_ble_eq_true rfl) ?_
  show CV MX11_chance (3, 0, 0) 209 (0, 0) 0 [(0, vR 165), (1, vI v), (2, vI a), (3, vI u)] [] (wTop T S n P A V x y c k sd) _
  have l21 : (¬ (0 ≤ v ∧ v ≤ 9999 ∧ 0 ≤ a ∧ a ≤ 10)) → CV MX11_chance (3, 0, 0) 209 (0, 0) 21 [(0, vR 165), (1, vI v), (2, vI a), (3, vI u)] [] (wTop T S n P A V x y c k sd) (fun v1 w => ∃ c1, v1 = some (vI (gCh T v a u)) ∧ w = wTop T S n P A V x y c1 k sd ∧ okW T c1.1 c1.2) := by
    intro  ha
    refine cv_bipush dX11_chance_21 (by decide) ?_
    refine cv_iret rfl dX11_chance_23 ⟨Nat.le_refl _, Nat.le_refl _⟩ ⟨c, ct_rI (if_neg ha).symm, rfl, hc⟩
  refine cv_iload_n dX11_chance_0 rfl ?_
  refine cv_if_lt (tgt := 21) dX11_chance_1 (by decide) (by omega) (fun h1 => ?_) (fun h1 => ?_)
  · exact l21 (by omega)
  · refine cv_iload_n dX11_chance_4 rfl ?_
    refine cv_sipush dX11_chance_5 (by decide) ?_
    refine cv_icmp_gt (tgt := 21) dX11_chance_8 (by decide) (by omega) (fun h8 => ?_) (fun h8 => ?_)
    · exact l21 (by omega)
    · refine cv_iload_n dX11_chance_11 rfl ?_
      refine cv_if_lt (tgt := 21) dX11_chance_12 (by decide) (by omega) (fun h12 => ?_) (fun h12 => ?_)
      · exact l21 (by omega)
      · refine cv_iload_n dX11_chance_15 rfl ?_
        refine cv_bipush dX11_chance_16 (by decide) ?_
        refine cv_icmp_le (tgt := 24) dX11_chance_18 (by decide) (by omega) (fun h18 => ?_) (fun h18 => ?_)
        · refine cv_aload_n dX11_chance_24 rfl ?_
          refine cv_getf flX11_73 dX11_chance_25 rfl rfl ?_
          refine cv_iload_n dX11_chance_28 rfl ?_
          refine cv_iload_n dX11_chance_29 rfl ?_
          refine cv_iload_n dX11_chance_30 rfl ?_
          refine cv_topC (c_X1_chanceOf T S c.1 c.2 hT hc v a u (by omega) hu) lkX1_chanceOf mlX11_265 dX11_chance_31 (by decide) rfl rfl (by decide) rfl (Nat.le_of_ble_eq_true rfl) ⟨Nat.le_refl _, Nat.le_refl _⟩ ?_
          intro v1 w1 hq
          obtain ⟨f1, rfl, rfl, hf⟩ := hq
          refine ⟨_, _, _, f1, rfl, ?_⟩
          refine cv_iret rfl dX11_chance_34 ⟨Nat.le_refl _, Nat.le_refl _⟩ ⟨(1, f1), ct_rI (if_pos (by omega)).symm, rfl, Or.inr ⟨rfl, hf⟩⟩
        · exact l21 (by omega)
