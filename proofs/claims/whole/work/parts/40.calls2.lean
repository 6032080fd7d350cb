/-- what a state must be to be copied -/
def wk (S : ctS) : Prop := sZ S ≤ 36 ∧ sC S ≤ 40 ∧ (sH S = 0 ∨ sH S = 1)
theorem okS_wk {T : ctT} {S : ctS} (h : okS T S) : wk S := ⟨h.1, h.2.2.2.2.2.1, h.2.2.2.2.2.2.2.2⟩
def gKp (S : ctS) (a : Int) (k : ctK) : Int × ctK := if a = 0 then ((sZ S : Int), (fCp k.1 S, k.2.1, ct_up k.2.2 0 1)) else if a = 1 then ((sZ S : Int), (k.1, fCp k.2.1 S, ct_up k.2.2 1 1)) else (-1, k)
def gAg (S : ctS) (n : Nat) (a : Int) (k : ctK) : Int × ctS × Nat := if a = 0 then (if k.2.2 0 = 0 then (-3, S, n) else ((sZ k.1 : Int), fCp S k.1, 0)) else if a = 1 then (if k.2.2 1 = 0 then (-3, S, n) else ((sZ k.2.1 : Int), fCp S k.2.1, 0)) else (-1, S, n)
set_option maxRecDepth 100000 in
set_option maxHeartbeats 1000000 in
theorem c_X11_keep (T : ctT) (S : ctS) (n : Nat) (P : Nat → Nat) (A : Nat → ctS) (V : ctS) (x : ctX) (y : ctY) (c : ctW) (k : ctK) (sd : Int) (a : Int) (ar : -2147483648 ≤ a ∧ a ≤ 2147483647) (hS : wk S) : CM MX11_keep (4, 0, 0) [vR 165, vI a] (wTop T S n P A V x y c k sd) (fun v w => v = some (vI (gKp S a k).1) ∧ w = wTop T S n P A V x y c (gKp S a k).2 sd) := by
  refine CM.of (by decide) (Nat.le_of_ble_eq_true rfl) ?_
  show CV MX11_keep (4, 0, 0) 209 (0, 0) 0 [(0, vR 165), (1, vI a)] [] (wTop T S n P A V x y c k sd) _
  have i1 := ct_i_r (0 ≤ a ∧ a < 2)
  have l0 : (a = 0) → CV MX11_keep (4, 0, 0) 209 (0, 0) 13 [(0, vR 165), (1, vI a)] [] (wTop T S n P A V x y c k sd) (fun v w => v = some (vI (gKp S a k).1) ∧ w = wTop T S n P A V x y c (gKp S a k).2 sd) := by
    intro  ha
    subst ha
    refine cv_aload_n dX11_keep_13 rfl ?_
    refine cv_getf flX11_52 dX11_keep_14 rfl rfl ?_
    refine cv_iload_n dX11_keep_17 rfl ?_
    refine cv_aload_n dX11_keep_18 rfl ?_
    refine cv_getf flX11_28 dX11_keep_19 rfl rfl ?_
    refine cv_topSl (c_X4_put0 T S k.2.2 k.1 k.2.1 hS.1 hS.2.1 hS.2.2) lkX4_put mlX11_277 dX11_keep_22 (by decide) rfl rfl (by decide) rfl (Nat.le_of_ble_eq_true rfl) ⟨Nat.le_refl _, Nat.le_refl _⟩ ?_
    intro v w1 hq
    obtain ⟨rfl, rfl⟩ := hq
    refine ⟨_, _, _, _, _, rfl, ?_⟩
    refine cv_aload_n dX11_keep_25 rfl ?_
    refine cv_getf flX11_28 dX11_keep_26 rfl rfl ?_
    refine cv_getf flX11_115 dX11_keep_29 rfl rfl ?_
    refine cv_getf flX11_119 dX11_keep_32 rfl rfl ?_
    refine cv_iret rfl dX11_keep_35 ⟨Nat.le_refl _, Nat.le_refl _⟩ ⟨rfl, rfl⟩
  have l1 : (a = 1) → CV MX11_keep (4, 0, 0) 209 (0, 0) 13 [(0, vR 165), (1, vI a)] [] (wTop T S n P A V x y c k sd) (fun v w => v = some (vI (gKp S a k).1) ∧ w = wTop T S n P A V x y c (gKp S a k).2 sd) := by
    intro  ha
    subst ha
    refine cv_aload_n dX11_keep_13 rfl ?_
    refine cv_getf flX11_52 dX11_keep_14 rfl rfl ?_
    refine cv_iload_n dX11_keep_17 rfl ?_
    refine cv_aload_n dX11_keep_18 rfl ?_
    refine cv_getf flX11_28 dX11_keep_19 rfl rfl ?_
    refine cv_topSl (c_X4_put1 T S k.2.2 k.1 k.2.1 hS.1 hS.2.1 hS.2.2) lkX4_put mlX11_277 dX11_keep_22 (by decide) rfl rfl (by decide) rfl (Nat.le_of_ble_eq_true rfl) ⟨Nat.le_refl _, Nat.le_refl _⟩ ?_
    intro v w1 hq
    obtain ⟨rfl, rfl⟩ := hq
    refine ⟨_, _, _, _, _, rfl, ?_⟩
    refine cv_aload_n dX11_keep_25 rfl ?_
    refine cv_getf flX11_28 dX11_keep_26 rfl rfl ?_
    refine cv_getf flX11_115 dX11_keep_29 rfl rfl ?_
    refine cv_getf flX11_119 dX11_keep_32 rfl rfl ?_
    refine cv_iret rfl dX11_keep_35 ⟨Nat.le_refl _, Nat.le_refl _⟩ ⟨rfl, rfl⟩
  refine cv_aload_n dX11_keep_0 rfl ?_
  refine cv_getf flX11_52 dX11_keep_1 rfl rfl ?_
  refine cv_iload_n dX11_keep_4 rfl ?_
  refine cv_sameV (c_X4_has (wTop T S n P A V x y c k sd) 186 a ar) lkX4_has mlX11_276 dX11_keep_5 (by decide) rfl rfl (by decide) rfl (Nat.le_of_ble_eq_true rfl) ⟨Nat.le_refl _, Nat.le_refl _⟩ ?_
  intro v w1 hq
  obtain ⟨rfl, rfl⟩ := hq
  refine cv_if_ne (tgt := 13) dX11_keep_8 (by decide) (by omega) (fun h8 => ?_) (fun h8 => ?_)
  · have ha := ct_i_1.mp (show ct_i (0 ≤ a ∧ a < 2) = 1 by omega)
    rcases (show a = 0 ∨ a = 1 by omega) with q | q
    · exact l0 q
    · exact l1 q
  · have ha := ct_i_0.mp (show ct_i (0 ≤ a ∧ a < 2) = 0 by omega)
    have e0 : gKp S a k = (-1, k) := (if_neg (by omega)).trans (if_neg (by omega))
    refine cv_iconst dX11_keep_11 ?_
    refine cv_iret rfl dX11_keep_12 ⟨Nat.le_refl _, Nat.le_refl _⟩ (by rw [e0]; exact ⟨rfl, rfl⟩)
set_option maxRecDepth 100000 in
set_option maxHeartbeats 1000000 in
theorem c_X11_again (T : ctT) (S : ctS) (n : Nat) (P : Nat → Nat) (A : Nat → ctS) (V : ctS) (x : ctX) (y : ctY) (c : ctW) (k : ctK) (sd : Int) (a : Int) (ar : -2147483648 ≤ a ∧ a ≤ 2147483647) (hk : wk k.1 ∧ wk k.2.1 ∧ (k.2.2 0 = 0 ∨ k.2.2 0 = 1) ∧ (k.2.2 1 = 0 ∨ k.2.2 1 = 1)) : CM MX11_again (3, 0, 0) [vR 165, vI a] (wTop T S n P A V x y c k sd) (fun v w => v = some (vI (gAg S n a k).1) ∧ w = wTop T (gAg S n a k).2.1 (gAg S n a k).2.2 P A V x y c k sd) := by
  refine CM.of (by decide) (Nat.le_of_ble_eq_true rfl) ?_
  show CV MX11_again (3, 0, 0) 209 (0, 0) 0 [(0, vR 165), (1, vI a)] [] (wTop T S n P A V x y c k sd) _
  have i1 := ct_i_r (0 ≤ a ∧ a < 2)
  have l0 : (a = 0) → CV MX11_again (3, 0, 0) 209 (0, 0) 13 [(0, vR 165), (1, vI a)] [] (wTop T S n P A V x y c k sd) (fun v w => v = some (vI (gAg S n a k).1) ∧ w = wTop T (gAg S n a k).2.1 (gAg S n a k).2.2 P A V x y c k sd) := by
    intro  ha
    subst ha
    have e1 : k.2.2 0 = 0 → gAg S n 0 k = (-3, S, n) := fun h => if_pos h
    have e2 : ¬ k.2.2 0 = 0 → gAg S n 0 k = ((sZ k.1 : Int), fCp S k.1, 0) := fun h => if_neg h
    refine cv_aload_n dX11_again_13 rfl ?_
    refine cv_getf flX11_52 dX11_again_14 rfl rfl ?_
    refine cv_getf flX11_280 dX11_again_17 rfl rfl ?_
    refine cv_iload_n dX11_again_20 rfl ?_
    refine cv_zalj (0) dX11_again_21 rfl (by omega) (by omega) ?_
    refine cv_if_ne (tgt := 28) dX11_again_22 (by decide) (by rcases hk.2.2.1 with h | h <;> omega) (fun h22 => ?_) (fun h22 => ?_)
    · refine cv_aload_n dX11_again_28 rfl ?_
      refine cv_getf flX11_28 dX11_again_29 rfl rfl ?_
      refine cv_aload_n dX11_again_32 rfl ?_
      refine cv_getf flX11_52 dX11_again_33 rfl rfl ?_
      refine cv_getf flX11_284 dX11_again_36 rfl rfl ?_
      refine cv_iload_n dX11_again_39 rfl ?_
      refine cv_aald (Or.inl rfl) dX11_again_40 rfl (by decide) rfl ?_
      refine cv_topK (c_X5_copy T S k.1 hk.1.1 hk.1.2.1 hk.1.2.2) lkX5_copy mlX11_248 dX11_again_41 (by decide) rfl rfl (by decide) rfl (Nat.le_of_ble_eq_true rfl) ⟨Nat.le_refl _, Nat.le_refl _⟩ ?_
      intro v w1 hq
      obtain ⟨rfl, rfl⟩ := hq
      refine ⟨_, _, _, rfl, ?_⟩
      refine cv_aload_n dX11_again_44 rfl ?_
      refine cv_getf flX11_45 dX11_again_45 rfl rfl ?_
      refine cv_iconst dX11_again_48 ?_
      refine cv_putf fpX11_100 dX11_again_49 rfl (Nat.le_of_ble_eq_true rfl) (fun _ => ⟨rfl, rfl⟩) ?_
      refine cv_aload_n dX11_again_52 rfl ?_
      refine cv_getf flX11_28 dX11_again_53 rfl rfl ?_
      refine cv_getf flX11_115 dX11_again_56 rfl rfl ?_
      refine cv_getf flX11_119 dX11_again_59 rfl rfl ?_
      refine cv_iret rfl dX11_again_62 ⟨Nat.le_refl _, Nat.le_refl _⟩ (by rw [e2 (by omega)]; exact ⟨rfl, rfl⟩)
    · refine cv_bipush dX11_again_25 (by decide) ?_
      refine cv_iret rfl dX11_again_27 ⟨Nat.le_refl _, Nat.le_refl _⟩ (by rw [e1 (by omega)]; exact ⟨rfl, rfl⟩)
  have l1 : (a = 1) → CV MX11_again (3, 0, 0) 209 (0, 0) 13 [(0, vR 165), (1, vI a)] [] (wTop T S n P A V x y c k sd) (fun v w => v = some (vI (gAg S n a k).1) ∧ w = wTop T (gAg S n a k).2.1 (gAg S n a k).2.2 P A V x y c k sd) := by
    intro  ha
    subst ha
    have e1 : k.2.2 1 = 0 → gAg S n 1 k = (-3, S, n) := fun h => if_pos h
    have e2 : ¬ k.2.2 1 = 0 → gAg S n 1 k = ((sZ k.2.1 : Int), fCp S k.2.1, 0) := fun h => if_neg h
    refine cv_aload_n dX11_again_13 rfl ?_
    refine cv_getf flX11_52 dX11_again_14 rfl rfl ?_
    refine cv_getf flX11_280 dX11_again_17 rfl rfl ?_
    refine cv_iload_n dX11_again_20 rfl ?_
    refine cv_zalj (1) dX11_again_21 rfl (by omega) (by omega) ?_
    refine cv_if_ne (tgt := 28) dX11_again_22 (by decide) (by rcases hk.2.2.2 with h | h <;> omega) (fun h22 => ?_) (fun h22 => ?_)
    · refine cv_aload_n dX11_again_28 rfl ?_
      refine cv_getf flX11_28 dX11_again_29 rfl rfl ?_
      refine cv_aload_n dX11_again_32 rfl ?_
      refine cv_getf flX11_52 dX11_again_33 rfl rfl ?_
      refine cv_getf flX11_284 dX11_again_36 rfl rfl ?_
      refine cv_iload_n dX11_again_39 rfl ?_
      refine cv_aald (Or.inl rfl) dX11_again_40 rfl (by decide) rfl ?_
      refine cv_topJ (c_X5_copy T S k.2.1 hk.2.1.1 hk.2.1.2.1 hk.2.1.2.2) lkX5_copy mlX11_248 dX11_again_41 (by decide) rfl rfl (by decide) rfl (Nat.le_of_ble_eq_true rfl) ⟨Nat.le_refl _, Nat.le_refl _⟩ ?_
      intro v w1 hq
      obtain ⟨rfl, rfl⟩ := hq
      refine ⟨_, _, _, rfl, ?_⟩
      refine cv_aload_n dX11_again_44 rfl ?_
      refine cv_getf flX11_45 dX11_again_45 rfl rfl ?_
      refine cv_iconst dX11_again_48 ?_
      refine cv_putf fpX11_100 dX11_again_49 rfl (Nat.le_of_ble_eq_true rfl) (fun _ => ⟨rfl, rfl⟩) ?_
      refine cv_aload_n dX11_again_52 rfl ?_
      refine cv_getf flX11_28 dX11_again_53 rfl rfl ?_
      refine cv_getf flX11_115 dX11_again_56 rfl rfl ?_
      refine cv_getf flX11_119 dX11_again_59 rfl rfl ?_
      refine cv_iret rfl dX11_again_62 ⟨Nat.le_refl _, Nat.le_refl _⟩ (by rw [e2 (by omega)]; exact ⟨rfl, rfl⟩)
    · refine cv_bipush dX11_again_25 (by decide) ?_
      refine cv_iret rfl dX11_again_27 ⟨Nat.le_refl _, Nat.le_refl _⟩ (by rw [e1 (by omega)]; exact ⟨rfl, rfl⟩)
  refine cv_aload_n dX11_again_0 rfl ?_
  refine cv_getf flX11_52 dX11_again_1 rfl rfl ?_
  refine cv_iload_n dX11_again_4 rfl ?_
  refine cv_sameV (c_X4_has (wTop T S n P A V x y c k sd) 186 a ar) lkX4_has mlX11_276 dX11_again_5 (by decide) rfl rfl (by decide) rfl (Nat.le_of_ble_eq_true rfl) ⟨Nat.le_refl _, Nat.le_refl _⟩ ?_
  intro v w1 hq
  obtain ⟨rfl, rfl⟩ := hq
  refine cv_if_ne (tgt := 13) dX11_again_8 (by decide) (by omega) (fun h8 => ?_) (fun h8 => ?_)
  · have ha := ct_i_1.mp (show ct_i (0 ≤ a ∧ a < 2) = 1 by omega)
    rcases (show a = 0 ∨ a = 1 by omega) with q | q
    · exact l0 q
    · exact l1 q
  · have ha := ct_i_0.mp (show ct_i (0 ≤ a ∧ a < 2) = 0 by omega)
    have e0 : gAg S n a k = (-1, S, n) := (if_neg (by omega)).trans (if_neg (by omega))
    refine cv_iconst dX11_again_11 ?_
    refine cv_iret rfl dX11_again_12 ⟨Nat.le_refl _, Nat.le_refl _⟩ (by rw [e0]; exact ⟨rfl, rfl⟩)
noncomputable def gAb (T : ctT) (S : ctS) (n : Nat) (y : ctY) (a : Int) : Int := if a = 0 then (tN T : Int) else if a = 1 then (tR T : Int) else if a = 2 then (sZ S : Int) else if a = 3 then fLv S else if a = 4 then fBk T S else if a = 5 then (sC S : Int) else if a = 6 then sH S else if a = 7 then ct_i (fBk T S = -9 ∧ fOp T S = none) else if a = 8 then fAll T else if a = 9 then fBox T (sLo S) (sHi S) else if a = 10 then (n : Int) else if a = 11 then (y.2.2.1 : Int) else if a = 12 then (y.1 : Int) else -2
theorem gAb_d {T : ctT} {S : ctS} {n : Nat} {y : ctY} {a : Int} (h : a < 0 ∨ 12 < a) : gAb T S n y a = -2 := by
  unfold gAb
  rw [if_neg (by omega), if_neg (by omega), if_neg (by omega), if_neg (by omega), if_neg (by omega), if_neg (by omega), if_neg (by omega), if_neg (by omega), if_neg (by omega), if_neg (by omega), if_neg (by omega), if_neg (by omega), if_neg (by omega)]
set_option maxRecDepth 100000 in
set_option maxHeartbeats 1000000 in
theorem c_X11_about (T : ctT) (S : ctS) (n : Nat) (P : Nat → Nat) (A : Nat → ctS) (V : ctS) (x : ctX) (y : ctY) (c : ctW) (k : ctK) (sd : Int) (a : Int) (ar : -2147483648 ≤ a ∧ a ≤ 2147483647) (hT : okT T) (hS : okS T S) : CM MX11_about (4, 0, 0) [vR 165, vI a] (wTop T S n P A V x y c k sd) (fun v w => ∃ x1, v = some (vI (gAb T S n y a)) ∧ w = wTop T S n P A V x1 y c k sd) := by
  refine CM.of (by decide) (Nat.le_of_ble_eq_true rfl) ?_
  show CV MX11_about (4, 0, 0) 209 (0, 0) 0 [(0, vR 165), (1, vI a)] [] (wTop T S n P A V x y c k sd) _
  have hh := hS.2.2.2.2.2.2.2.2
  have i1 := ct_i_r (fBk T S = -9 ∧ fOp T S = none)
  refine cv_iload_n dX11_about_0 rfl ?_
  have sw1 : a = 0 ∨ a = 1 ∨ a = 2 ∨ a = 3 ∨ a = 4 ∨ a = 5 ∨ a = 6 ∨ a = 7 ∨ a = 8 ∨ a = 9 ∨ a = 10 ∨ a = 11 ∨ a = 12 ∨ (a < 0 ∨ 12 < a) := by omega
  rcases sw1 with sw | sw | sw | sw | sw | sw | sw | sw | sw | sw | sw | sw | sw | sw
  · refine cv_tableIn (tgt := 68) dX11_about_1 (by omega) (by omega) (by omega) (by rw [sw]; rfl) (by decide) ?_
    refine cv_aload_n dX11_about_68 rfl ?_
    refine cv_getf flX11_12 dX11_about_69 rfl rfl ?_
    refine cv_getf flX11_112 dX11_about_72 rfl rfl ?_
    refine cv_iret rfl dX11_about_75 ⟨Nat.le_refl _, Nat.le_refl _⟩ ⟨x, ct_rI (by subst sw; rfl), rfl⟩
  · refine cv_tableIn (tgt := 76) dX11_about_1 (by omega) (by omega) (by omega) (by rw [sw]; rfl) (by decide) ?_
    refine cv_aload_n dX11_about_76 rfl ?_
    refine cv_getf flX11_12 dX11_about_77 rfl rfl ?_
    refine cv_getf flX11_109 dX11_about_80 rfl rfl ?_
    refine cv_iret rfl dX11_about_83 ⟨Nat.le_refl _, Nat.le_refl _⟩ ⟨x, ct_rI (by subst sw; rfl), rfl⟩
  · refine cv_tableIn (tgt := 84) dX11_about_1 (by omega) (by omega) (by omega) (by rw [sw]; rfl) (by decide) ?_
    refine cv_aload_n dX11_about_84 rfl ?_
    refine cv_getf flX11_28 dX11_about_85 rfl rfl ?_
    refine cv_getf flX11_115 dX11_about_88 rfl rfl ?_
    refine cv_getf flX11_119 dX11_about_91 rfl rfl ?_
    refine cv_iret rfl dX11_about_94 ⟨Nat.le_refl _, Nat.le_refl _⟩ ⟨x, ct_rI (by subst sw; rfl), rfl⟩
  · refine cv_tableIn (tgt := 95) dX11_about_1 (by omega) (by omega) (by omega) (by rw [sw]; rfl) (by decide) ?_
    refine cv_aload_n dX11_about_95 rfl ?_
    refine cv_getf flX11_28 dX11_about_96 rfl rfl ?_
    refine cv_getf flX11_115 dX11_about_99 rfl rfl ?_
    refine cv_topS (c_X9_level T S hS) lkX9_level mlX11_124 dX11_about_102 (by decide) rfl rfl (by decide) rfl (Nat.le_of_ble_eq_true rfl) ⟨Nat.le_refl _, Nat.le_refl _⟩ ?_
    intro v w1 hq
    obtain ⟨rfl, rfl⟩ := hq
    refine ⟨_, _, rfl, ?_⟩
    refine cv_iret rfl dX11_about_105 ⟨Nat.le_refl _, Nat.le_refl _⟩ ⟨x, ct_rI (by subst sw; rfl), rfl⟩
  · refine cv_tableIn (tgt := 106) dX11_about_1 (by omega) (by omega) (by omega) (by rw [sw]; rfl) (by decide) ?_
    refine cv_aload_n dX11_about_106 rfl ?_
    refine cv_getf flX11_28 dX11_about_107 rfl rfl ?_
    refine cv_topS (c_X5_theBreak T S hT hS) lkX5_theBreak mlX11_127 dX11_about_110 (by decide) rfl rfl (by decide) rfl (Nat.le_of_ble_eq_true rfl) ⟨Nat.le_refl _, Nat.le_refl _⟩ ?_
    intro v w1 hq
    obtain ⟨rfl, rfl⟩ := hq
    refine ⟨_, _, rfl, ?_⟩
    refine cv_iret rfl dX11_about_113 ⟨Nat.le_refl _, Nat.le_refl _⟩ ⟨x, ct_rI (by subst sw; rfl), rfl⟩
  · refine cv_tableIn (tgt := 114) dX11_about_1 (by omega) (by omega) (by omega) (by rw [sw]; rfl) (by decide) ?_
    refine cv_aload_n dX11_about_114 rfl ?_
    refine cv_getf flX11_28 dX11_about_115 rfl rfl ?_
    refine cv_getf flX11_130 dX11_about_118 rfl rfl ?_
    refine cv_getf flX11_134 dX11_about_121 rfl rfl ?_
    refine cv_iret rfl dX11_about_124 ⟨Nat.le_refl _, Nat.le_refl _⟩ ⟨x, ct_rI (by subst sw; rfl), rfl⟩
  · refine cv_tableIn (tgt := 125) dX11_about_1 (by omega) (by omega) (by omega) (by rw [sw]; rfl) (by decide) ?_
    refine cv_aload_n dX11_about_125 rfl ?_
    refine cv_getf flX11_28 dX11_about_126 rfl rfl ?_
    refine cv_getf flX11_137 dX11_about_129 rfl rfl ?_
    refine cv_if_eq (tgt := 139) dX11_about_132 (by decide) (by omega) (fun h132 => ?_) (fun h132 => ?_)
    · refine cv_iconst dX11_about_139 ?_
      refine cv_iret rfl dX11_about_140 ⟨Nat.le_refl _, Nat.le_refl _⟩ ⟨x, ct_rI (by subst sw; show _ = sH S; omega), rfl⟩
    · refine cv_iconst dX11_about_135 ?_
      refine cv_goto (tgt := 140) dX11_about_136 (by decide) ?_
      refine cv_iret rfl dX11_about_140 ⟨Nat.le_refl _, Nat.le_refl _⟩ ⟨x, ct_rI (by subst sw; show _ = sH S; omega), rfl⟩
  · refine cv_tableIn (tgt := 141) dX11_about_1 (by omega) (by omega) (by omega) (by rw [sw]; rfl) (by decide) ?_
    refine cv_aload_n dX11_about_141 rfl ?_
    refine cv_getf flX11_28 dX11_about_142 rfl rfl ?_
    refine cv_topS (c_X5_isSolved T S hT hS) lkX5_isSolved mlX11_140 dX11_about_145 (by decide) rfl rfl (by decide) rfl (Nat.le_of_ble_eq_true rfl) ⟨Nat.le_refl _, Nat.le_refl _⟩ ?_
    intro v w1 hq
    obtain ⟨rfl, rfl⟩ := hq
    refine ⟨_, _, rfl, ?_⟩
    refine cv_if_eq (tgt := 155) dX11_about_148 (by decide) (by omega) (fun h148 => ?_) (fun h148 => ?_)
    · refine cv_iconst dX11_about_155 ?_
      refine cv_iret rfl dX11_about_156 ⟨Nat.le_refl _, Nat.le_refl _⟩ ⟨x, ct_rI (by subst sw; show _ = ct_i (fBk T S = -9 ∧ fOp T S = none); omega), rfl⟩
    · refine cv_iconst dX11_about_151 ?_
      refine cv_goto (tgt := 156) dX11_about_152 (by decide) ?_
      refine cv_iret rfl dX11_about_156 ⟨Nat.le_refl _, Nat.le_refl _⟩ ⟨x, ct_rI (by subst sw; show _ = ct_i (fBk T S = -9 ∧ fOp T S = none); omega), rfl⟩
  · refine cv_tableIn (tgt := 157) dX11_about_1 (by omega) (by omega) (by omega) (by rw [sw]; rfl) (by decide) ?_
    refine cv_aload_n dX11_about_157 rfl ?_
    refine cv_getf flX11_66 dX11_about_158 rfl rfl ?_
    refine cv_topW (c_X10_all T S x.2.2.1 x.2.2.2 hT) lkX10_all mlX11_144 dX11_about_161 (by decide) rfl rfl (by decide) rfl (Nat.le_of_ble_eq_true rfl) ⟨Nat.le_refl _, Nat.le_refl _⟩ ?_
    intro v w1 hq
    obtain ⟨f1, t1, rfl, rfl⟩ := hq
    refine ⟨_, _, f1, t1, rfl, ?_⟩
    refine cv_iret rfl dX11_about_164 ⟨Nat.le_refl _, Nat.le_refl _⟩ ⟨_, ct_rI (by subst sw; rfl), rfl⟩
  · refine cv_tableIn (tgt := 165) dX11_about_1 (by omega) (by omega) (by omega) (by rw [sw]; rfl) (by decide) ?_
    refine cv_aload_n dX11_about_165 rfl ?_
    refine cv_getf flX11_66 dX11_about_166 rfl rfl ?_
    refine cv_aload_n dX11_about_169 rfl ?_
    refine cv_getf flX11_28 dX11_about_170 rfl rfl ?_
    refine cv_getf flX11_115 dX11_about_173 rfl rfl ?_
    refine cv_topW (c_X10_along T S x.2.2.1 x.2.2.2 hT hS) lkX10_along mlX11_147 dX11_about_176 (by decide) rfl rfl (by decide) rfl (Nat.le_of_ble_eq_true rfl) ⟨Nat.le_refl _, Nat.le_refl _⟩ ?_
    intro v w1 hq
    obtain ⟨f1, t1, rfl, rfl⟩ := hq
    refine ⟨_, _, f1, t1, rfl, ?_⟩
    refine cv_iret rfl dX11_about_179 ⟨Nat.le_refl _, Nat.le_refl _⟩ ⟨_, ct_rI (by subst sw; rfl), rfl⟩
  · refine cv_tableIn (tgt := 180) dX11_about_1 (by omega) (by omega) (by omega) (by rw [sw]; rfl) (by decide) ?_
    refine cv_aload_n dX11_about_180 rfl ?_
    refine cv_getf flX11_45 dX11_about_181 rfl rfl ?_
    refine cv_getf flX11_100 dX11_about_184 rfl rfl ?_
    refine cv_iret rfl dX11_about_187 ⟨Nat.le_refl _, Nat.le_refl _⟩ ⟨x, ct_rI (by subst sw; rfl), rfl⟩
  · refine cv_tableIn (tgt := 188) dX11_about_1 (by omega) (by omega) (by omega) (by rw [sw]; rfl) (by decide) ?_
    refine cv_aload_n dX11_about_188 rfl ?_
    refine cv_getf flX11_59 dX11_about_189 rfl rfl ?_
    refine cv_getf flX11_151 dX11_about_192 rfl rfl ?_
    refine cv_iret rfl dX11_about_195 ⟨Nat.le_refl _, Nat.le_refl _⟩ ⟨x, ct_rI (by subst sw; rfl), rfl⟩
  · refine cv_tableIn (tgt := 196) dX11_about_1 (by omega) (by omega) (by omega) (by rw [sw]; rfl) (by decide) ?_
    refine cv_aload_n dX11_about_196 rfl ?_
    refine cv_getf flX11_19 dX11_about_197 rfl rfl ?_
    refine cv_getf flX11_81 dX11_about_200 rfl rfl ?_
    refine cv_iret rfl dX11_about_203 ⟨Nat.le_refl _, Nat.le_refl _⟩ ⟨x, ct_rI (by subst sw; rfl), rfl⟩
  · refine cv_tableOut (tgt := 204) dX11_about_1 (by decide) (by omega) (by omega) ?_
    refine cv_bipush dX11_about_204 (by decide) ?_
    refine cv_iret rfl dX11_about_206 ⟨Nat.le_refl _, Nat.le_refl _⟩ ⟨x, ct_rI (gAb_d sw).symm, rfl⟩
noncomputable def gNu (T : ctT) (S : ctS) (a b : Int) : Int := if ¬ (0 ≤ a ∧ a < (tN T : Int)) then -1 else if b = 0 then sLo S a.toNat else if b = 1 then sHi S a.toNat else if b = 2 then tT T a.toNat else if b = 3 then ct_o (-9) (fLe T a.toNat) else -2
def gRu (T : ctT) (S : ctS) (a b : Int) : Int := if ¬ (0 ≤ a ∧ a < (tR T : Int)) then -1 else if 0 ≤ b ∧ b < (tN T : Int) then tW T a.toNat b.toNat + 10 else if b = 4 then tB T a.toNat + 100 else if b = 5 then fLeast T S a.toNat + 1000 else -2
noncomputable def gMk (T : ctT) (S : ctS) (G : Nat → Int) (a b : Int) : Int := if b < 0 ∨ 3 < b then -2 else if a < 0 ∨ (sZ S : Int) ≤ a then -9 else if b = 0 then sM S a.toNat else if b = 1 then sL S a.toNat else if b = 2 then sR S a.toNat else fCnt (fWhy T S G (sR S a.toNat) a.toNat (sM S a.toNat)) 8
def gCt (S : ctS) (a b : Int) : Int := if ¬ (0 ≤ a ∧ a < (sC S : Int)) then -1 else if b < 0 ∨ sCs S a.toNat ≤ b then -9 else sCm S (8 * a.toNat + b.toNat)
noncomputable def gFo (T : ctT) (S : ctS) (a : Int) : Int := if ¬ (0 ≤ a ∧ a < (sC S : Int)) then -1 else if fWi T S a.toNat = 0 then 1 else 0
set_option maxRecDepth 100000 in
set_option maxHeartbeats 1000000 in
theorem c_X11_number (T : ctT) (S : ctS) (n : Nat) (P : Nat → Nat) (A : Nat → ctS) (V : ctS) (x : ctX) (y : ctY) (c : ctW) (k : ctK) (sd : Int) (a b : Int) (ar : -2147483648 ≤ a ∧ a ≤ 2147483647) (br : -2147483648 ≤ b ∧ b ≤ 2147483647) (hT : okT T) : CM MX11_number (4, 0, 0) [vR 165, vI a, vI b] (wTop T S n P A V x y c k sd) (fun v w => ∃ x1, v = some (vI (gNu T S a b)) ∧ w = wTop T S n P A V x1 y c k sd) := by
  refine CM.of (by decide) (Nat.le_of_ble_eq_true rfl) ?_
  show CV MX11_number (4, 0, 0) 209 (0, 0) 0 [(0, vR 165), (1, vI a), (2, vI b)] [] (wTop T S n P A V x y c k sd) _
  have i1 := ct_i_r (0 ≤ a ∧ a < (tN T : Int))
  have hN := hT.2.1
  refine cv_aload_n dX11_number_0 rfl ?_
  refine cv_getf flX11_12 dX11_number_1 rfl rfl ?_
  refine cv_iload_n dX11_number_4 rfl ?_
  refine cv_topS (c_X6_hasNumber T S hT a ar) lkX6_hasNumber mlX11_152 dX11_number_5 (by decide) rfl rfl (by decide) rfl (Nat.le_of_ble_eq_true rfl) ⟨Nat.le_refl _, Nat.le_refl _⟩ ?_
  intro v w1 hq
  obtain ⟨rfl, rfl⟩ := hq
  refine ⟨_, _, rfl, ?_⟩
  refine cv_if_ne (tgt := 13) dX11_number_8 (by decide) (by omega) (fun h8 => ?_) (fun h8 => ?_)
  · have ha := ct_i_1.mp (show ct_i (0 ≤ a ∧ a < (tN T : Int)) = 1 by omega)
    refine cv_iload_n dX11_number_13 rfl ?_
    have sw14 : b = 0 ∨ b = 1 ∨ b = 2 ∨ b = 3 ∨ (b < 0 ∨ 3 < b) := by omega
    rcases sw14 with sw | sw | sw | sw | sw
    · refine cv_tableIn (tgt := 44) dX11_number_14 (by omega) (by omega) (by omega) (by rw [sw]; rfl) (by decide) ?_
      refine cv_aload_n dX11_number_44 rfl ?_
      refine cv_getf flX11_28 dX11_number_45 rfl rfl ?_
      refine cv_getf flX11_115 dX11_number_48 rfl rfl ?_
      refine cv_getf flX11_156 dX11_number_51 rfl rfl ?_
      refine cv_iload_n dX11_number_54 rfl ?_
      refine cv_ialj (a.toNat) dX11_number_55 rfl (by omega) (by omega) ?_
      refine cv_iret rfl dX11_number_56 ⟨Nat.le_refl _, Nat.le_refl _⟩ ⟨x, ct_rI (by subst sw; exact (if_neg (fun z => z ha)).symm), rfl⟩
    · refine cv_tableIn (tgt := 57) dX11_number_14 (by omega) (by omega) (by omega) (by rw [sw]; rfl) (by decide) ?_
      refine cv_aload_n dX11_number_57 rfl ?_
      refine cv_getf flX11_28 dX11_number_58 rfl rfl ?_
      refine cv_getf flX11_115 dX11_number_61 rfl rfl ?_
      refine cv_getf flX11_160 dX11_number_64 rfl rfl ?_
      refine cv_iload_n dX11_number_67 rfl ?_
      refine cv_ialj (a.toNat) dX11_number_68 rfl (by omega) (by omega) ?_
      refine cv_iret rfl dX11_number_69 ⟨Nat.le_refl _, Nat.le_refl _⟩ ⟨x, ct_rI (by subst sw; exact (if_neg (fun z => z ha)).symm), rfl⟩
    · refine cv_tableIn (tgt := 70) dX11_number_14 (by omega) (by omega) (by omega) (by rw [sw]; rfl) (by decide) ?_
      refine cv_aload_n dX11_number_70 rfl ?_
      refine cv_getf flX11_12 dX11_number_71 rfl rfl ?_
      refine cv_getf flX11_163 dX11_number_74 rfl rfl ?_
      refine cv_iload_n dX11_number_77 rfl ?_
      refine cv_ialj (a.toNat) dX11_number_78 rfl (by omega) (by omega) ?_
      refine cv_iret rfl dX11_number_79 ⟨Nat.le_refl _, Nat.le_refl _⟩ ⟨x, ct_rI (by subst sw; exact (if_neg (fun z => z ha)).symm), rfl⟩
    · refine cv_tableIn (tgt := 80) dX11_number_14 (by omega) (by omega) (by omega) (by rw [sw]; rfl) (by decide) ?_
      refine cv_aload_n dX11_number_80 rfl ?_
      refine cv_getf flX11_66 dX11_number_81 rfl rfl ?_
      refine cv_iload_n dX11_number_84 rfl ?_
      have e0 : (vI a : ct_V) = vI ((a.toNat : Nat) : Int) := by rw [Int.toNat_of_nonneg (by omega)]
      rw [e0]
      refine cv_topW (c_X10_leastOfAll T S x.2.2.1 x.2.2.2 hT a.toNat (by omega)) lkX10_leastOfAll mlX11_166 dX11_number_85 (by decide) rfl rfl (by decide) rfl (Nat.le_of_ble_eq_true rfl) ⟨Nat.le_refl _, Nat.le_refl _⟩ ?_
      intro v w1 hq
      obtain ⟨f1, t1, rfl, rfl⟩ := hq
      refine ⟨_, _, f1, t1, rfl, ?_⟩
      refine cv_iret rfl dX11_number_88 ⟨Nat.le_refl _, Nat.le_refl _⟩ ⟨_, ct_rI (by subst sw; exact (if_neg (fun z => z ha)).symm), rfl⟩
    · refine cv_tableOut (tgt := 89) dX11_number_14 (by decide) (by omega) (by omega) ?_
      refine cv_bipush dX11_number_89 (by decide) ?_
      refine cv_iret rfl dX11_number_91 ⟨Nat.le_refl _, Nat.le_refl _⟩ ⟨x, ct_rI (by unfold gNu; rw [if_neg (fun z => z ha), if_neg (by omega), if_neg (by omega), if_neg (by omega), if_neg (by omega)]), rfl⟩
  · refine cv_iconst dX11_number_11 ?_
    refine cv_iret rfl dX11_number_12 ⟨Nat.le_refl _, Nat.le_refl _⟩ ⟨x, ct_rI (if_pos (ct_i_0.mp (by omega))).symm, rfl⟩
theorem wTop_row (T : ctT) (S : ctS) (n : Nat) (P : Nat → Nat) (A : Nat → ctS) (V : ctS) (x : ctX) (y : ctY) (c : ctW) (k : ctK) (sd : Int) : ∀ r, r < 6 → (wTop T S n P A V x y c k sd)[14 + r]? = some (cA 0 4 (tW T r))
  | 0, _ | 1, _ | 2, _ | 3, _ | 4, _ | 5, _ => rfl
  | n + 6, h => absurd h (by omega)
set_option maxRecDepth 100000 in
set_option maxHeartbeats 1000000 in
theorem c_X11_rule (T : ctT) (S : ctS) (n : Nat) (P : Nat → Nat) (A : Nat → ctS) (V : ctS) (x : ctX) (y : ctY) (c : ctW) (k : ctK) (sd : Int) (a b : Int) (ar : -2147483648 ≤ a ∧ a ≤ 2147483647) (br : -2147483648 ≤ b ∧ b ≤ 2147483647) (hT : okT T) (hS : okS T S) : CM MX11_rule (1, 0, 0) [vR 165, vI a, vI b] (wTop T S n P A V x y c k sd) (fun v w => v = some (vI (gRu T S a b)) ∧ w = wTop T S n P A V x y c k sd) := by
  refine CM.of (by decide) (Nat.le_of_ble_eq_true rfl) ?_
  show CV MX11_rule (1, 0, 0) 209 (0, 0) 0 [(0, vR 165), (1, vI a), (2, vI b)] [] (wTop T S n P A V x y c k sd) _
  have i1 := ct_i_r (0 ≤ a ∧ a < (tR T : Int))
  have i2 := ct_i_r (0 ≤ b ∧ b < (tN T : Int))
  have hN := hT.2.1
  have hR := hT.2.2.1
  have l68 : (0 ≤ a ∧ a < (tR T : Int)) → (¬ (0 ≤ b ∧ b < (tN T : Int))) → (b = 4) → CV MX11_rule (1, 0, 0) 209 (0, 0) 68 [(0, vR 165), (1, vI a), (2, vI b)] [] (wTop T S n P A V x y c k sd) (fun v w => v = some (vI (gRu T S a b)) ∧ w = wTop T S n P A V x y c k sd) := by
    intro  ha hb hc
    refine cv_aload_n dX11_rule_68 rfl ?_
    refine cv_getf flX11_12 dX11_rule_69 rfl rfl ?_
    refine cv_getf flX11_177 dX11_rule_72 rfl rfl ?_
    refine cv_iload_n dX11_rule_75 rfl ?_
    refine cv_ialj (a.toNat) dX11_rule_76 rfl (by omega) (by omega) ?_
    refine cv_bipush dX11_rule_77 (by decide) ?_
    refine cv_iadd dX11_rule_79 ?_
    refine cv_iret rfl dX11_rule_80 ⟨Nat.le_refl _, Nat.le_refl _⟩ ⟨ct_rI (by unfold gRu; rw [if_neg (fun z => z ha), if_neg hb, if_pos hc]), rfl⟩
  have l81 : (0 ≤ a ∧ a < (tR T : Int)) → (¬ (0 ≤ b ∧ b < (tN T : Int))) → (b = 5) → CV MX11_rule (1, 0, 0) 209 (0, 0) 81 [(0, vR 165), (1, vI a), (2, vI b)] [] (wTop T S n P A V x y c k sd) (fun v w => v = some (vI (gRu T S a b)) ∧ w = wTop T S n P A V x y c k sd) := by
    intro  ha hb hc
    refine cv_aload_n dX11_rule_81 rfl ?_
    refine cv_getf flX11_28 dX11_rule_82 rfl rfl ?_
    refine cv_iload_n dX11_rule_85 rfl ?_
    have e0 : (vI a : ct_V) = vI ((a.toNat : Nat) : Int) := by rw [Int.toNat_of_nonneg (by omega)]
    rw [e0]
    refine cv_topS (c_X5_least T S hT hS a.toNat (by omega)) lkX5_least mlX11_180 dX11_rule_86 (by decide) rfl rfl (by decide) rfl (Nat.le_of_ble_eq_true rfl) ⟨Nat.le_refl _, Nat.le_refl _⟩ ?_
    intro v w1 hq
    obtain ⟨rfl, rfl⟩ := hq
    refine ⟨_, _, rfl, ?_⟩
    refine cv_sipush dX11_rule_89 (by decide) ?_
    refine cv_iadd dX11_rule_92 ?_
    refine cv_iret rfl dX11_rule_93 ⟨Nat.le_refl _, Nat.le_refl _⟩ ⟨ct_rI (by unfold gRu; rw [if_neg (fun z => z ha), if_neg hb, if_neg (by omega), if_pos hc]), rfl⟩
  have l94 : (0 ≤ a ∧ a < (tR T : Int)) → (¬ (0 ≤ b ∧ b < (tN T : Int))) → (¬ b = 4 ∧ ¬ b = 5) → CV MX11_rule (1, 0, 0) 209 (0, 0) 94 [(0, vR 165), (1, vI a), (2, vI b)] [] (wTop T S n P A V x y c k sd) (fun v w => v = some (vI (gRu T S a b)) ∧ w = wTop T S n P A V x y c k sd) := by
    intro  ha hb hc
    refine cv_bipush dX11_rule_94 (by decide) ?_
    refine cv_iret rfl dX11_rule_96 ⟨Nat.le_refl _, Nat.le_refl _⟩ ⟨ct_rI (by unfold gRu; rw [if_neg (fun z => z ha), if_neg hb, if_neg hc.1, if_neg hc.2]), rfl⟩
  refine cv_aload_n dX11_rule_0 rfl ?_
  refine cv_getf flX11_12 dX11_rule_1 rfl rfl ?_
  refine cv_iload_n dX11_rule_4 rfl ?_
  refine cv_topS (c_X6_hasRule T S hT a ar) lkX6_hasRule mlX11_170 dX11_rule_5 (by decide) rfl rfl (by decide) rfl (Nat.le_of_ble_eq_true rfl) ⟨Nat.le_refl _, Nat.le_refl _⟩ ?_
  intro v w1 hq
  obtain ⟨rfl, rfl⟩ := hq
  refine ⟨_, _, rfl, ?_⟩
  refine cv_if_ne (tgt := 13) dX11_rule_8 (by decide) (by omega) (fun h8 => ?_) (fun h8 => ?_)
  · have ha := ct_i_1.mp (show ct_i (0 ≤ a ∧ a < (tR T : Int)) = 1 by omega)
    refine cv_aload_n dX11_rule_13 rfl ?_
    refine cv_getf flX11_12 dX11_rule_14 rfl rfl ?_
    refine cv_iload_n dX11_rule_17 rfl ?_
    refine cv_topS (c_X6_hasNumber T S hT b br) lkX6_hasNumber mlX11_152 dX11_rule_18 (by decide) rfl rfl (by decide) rfl (Nat.le_of_ble_eq_true rfl) ⟨Nat.le_refl _, Nat.le_refl _⟩ ?_
    intro v w1 hq
    obtain ⟨rfl, rfl⟩ := hq
    refine ⟨_, _, rfl, ?_⟩
    refine cv_if_eq (tgt := 39) dX11_rule_21 (by decide) (by omega) (fun h21 => ?_) (fun h21 => ?_)
    · have hb := ct_i_0.mp h21
      refine cv_iload_n dX11_rule_39 rfl ?_
      rcases (show b = 4 ∨ b = 5 ∨ (¬ b = 4 ∧ ¬ b = 5) by omega) with q | q | q
      · refine cv_lookup (off := 28) (tgt := 68) dX11_rule_40 br rfl (by subst q; rfl) (by decide) ?_
        exact l68 ha hb q
      · refine cv_lookup (off := 41) (tgt := 81) dX11_rule_40 br rfl (by subst q; rfl) (by decide) ?_
        exact l81 ha hb q
      · refine cv_lookup (off := 54) (tgt := 94) dX11_rule_40 br rfl (by show Op.lookupswitch.offset [(4, 28), (5, 41)] 54 b = 54; rw [Op.lookupswitch.offset_cons, if_neg (fun z => q.1 z.symm), Op.lookupswitch.offset_cons, if_neg (fun z => q.2 z.symm)]; rfl) (by decide) ?_
        exact l94 ha hb q
    · have hb := ct_i_1.mp (show ct_i (0 ≤ b ∧ b < (tN T : Int)) = 1 by omega)
      refine cv_aload_n dX11_rule_24 rfl ?_
      refine cv_getf flX11_12 dX11_rule_25 rfl rfl ?_
      refine cv_getf flX11_173 dX11_rule_28 rfl rfl ?_
      refine cv_iload_n dX11_rule_31 rfl ?_
      refine cv_aalj (a.toNat) (Or.inr rfl) dX11_rule_32 rfl (by omega) (by constructor; show a.toNat < 6; omega; decide) (wS_ref a.toNat (by omega)) ?_
      refine cv_iload_n dX11_rule_33 rfl ?_
      refine cv_ialj (b.toNat) dX11_rule_34 (wTop_row T S n P A V x y c k sd a.toNat (by omega)) (by omega) (by omega) ?_
      refine cv_bipush dX11_rule_35 (by decide) ?_
      refine cv_iadd dX11_rule_37 ?_
      refine cv_iret rfl dX11_rule_38 ⟨Nat.le_refl _, Nat.le_refl _⟩ ⟨ct_rI (by unfold gRu; rw [if_neg (fun z => z ha), if_pos hb]), rfl⟩
  · refine cv_iconst dX11_rule_11 ?_
    refine cv_iret rfl dX11_rule_12 ⟨Nat.le_refl _, Nat.le_refl _⟩ ⟨ct_rI (if_pos (ct_i_0.mp (by omega))).symm, rfl⟩
set_option maxRecDepth 100000 in
set_option maxHeartbeats 1000000 in
theorem c_X11_mark (T : ctT) (S : ctS) (n : Nat) (P : Nat → Nat) (A : Nat → ctS) (V : ctS) (x : ctX) (y : ctY) (c : ctW) (k : ctK) (sd : Int) (a b : Int) (ar : -2147483648 ≤ a ∧ a ≤ 2147483647) (br : -2147483648 ≤ b ∧ b ≤ 2147483647) (hT : okT T) (hS : okS T S) : CM MX11_mark (5, 0, 0) [vR 165, vI a, vI b] (wTop T S n P A V x y c k sd) (fun v w => ∃ x1, v = some (vI (gMk T S x.2.1 a b)) ∧ w = wTop T S n P A V x1 y c k sd) := by
  refine CM.of (by decide) (Nat.le_of_ble_eq_true rfl) ?_
  show CV MX11_mark (5, 0, 0) 209 (0, 0) 0 [(0, vR 165), (1, vI a), (2, vI b)] [] (wTop T S n P A V x y c k sd) _
  have hZ := hS.1
  have l9 : (b < 0 ∨ 3 < b) → CV MX11_mark (5, 0, 0) 209 (0, 0) 9 [(0, vR 165), (1, vI a), (2, vI b)] [] (wTop T S n P A V x y c k sd) (fun v w => ∃ x1, v = some (vI (gMk T S x.2.1 a b)) ∧ w = wTop T S n P A V x1 y c k sd) := by
    intro  ha
    refine cv_bipush dX11_mark_9 (by decide) ?_
    refine cv_iret rfl dX11_mark_11 ⟨Nat.le_refl _, Nat.le_refl _⟩ ⟨x, ct_rI (if_pos ha).symm, rfl⟩
  have l30 : (¬ (b < 0 ∨ 3 < b)) → (a < 0 ∨ (sZ S : Int) ≤ a) → CV MX11_mark (5, 0, 0) 209 (0, 0) 30 [(0, vR 165), (1, vI a), (2, vI b)] [] (wTop T S n P A V x y c k sd) (fun v w => ∃ x1, v = some (vI (gMk T S x.2.1 a b)) ∧ w = wTop T S n P A V x1 y c k sd) := by
    intro  ha hb
    refine cv_bipush dX11_mark_30 (by decide) ?_
    refine cv_iret rfl dX11_mark_32 ⟨Nat.le_refl _, Nat.le_refl _⟩ ⟨x, ct_rI (by unfold gMk; rw [if_neg ha, if_pos hb]), rfl⟩
  have l33 : (¬ (b < 0 ∨ 3 < b)) → (¬ (a < 0 ∨ (sZ S : Int) ≤ a)) → CV MX11_mark (5, 0, 0) 209 (0, 0) 33 [(0, vR 165), (1, vI a), (2, vI b)] [] (wTop T S n P A V x y c k sd) (fun v w => ∃ x1, v = some (vI (gMk T S x.2.1 a b)) ∧ w = wTop T S n P A V x1 y c k sd) := by
    intro  ha hb
    refine cv_iload_n dX11_mark_33 rfl ?_
    have sw34 : b = 0 ∨ b = 1 ∨ b = 2 ∨ (b < 0 ∨ 2 < b) := by omega
    rcases sw34 with sw | sw | sw | sw
    · refine cv_tableIn (tgt := 60) dX11_mark_34 (by omega) (by omega) (by omega) (by rw [sw]; rfl) (by decide) ?_
      refine cv_aload_n dX11_mark_60 rfl ?_
      refine cv_getf flX11_28 dX11_mark_61 rfl rfl ?_
      refine cv_getf flX11_115 dX11_mark_64 rfl rfl ?_
      refine cv_getf flX11_183 dX11_mark_67 rfl rfl ?_
      refine cv_iload_n dX11_mark_70 rfl ?_
      refine cv_ialj (a.toNat) dX11_mark_71 rfl (by omega) (by omega) ?_
      refine cv_iret rfl dX11_mark_72 ⟨Nat.le_refl _, Nat.le_refl _⟩ ⟨x, ct_rI (by unfold gMk; rw [if_neg ha, if_neg hb, if_pos sw]), rfl⟩
    · refine cv_tableIn (tgt := 73) dX11_mark_34 (by omega) (by omega) (by omega) (by rw [sw]; rfl) (by decide) ?_
      refine cv_aload_n dX11_mark_73 rfl ?_
      refine cv_getf flX11_28 dX11_mark_74 rfl rfl ?_
      refine cv_getf flX11_115 dX11_mark_77 rfl rfl ?_
      refine cv_getf flX11_186 dX11_mark_80 rfl rfl ?_
      refine cv_iload_n dX11_mark_83 rfl ?_
      refine cv_ialj (a.toNat) dX11_mark_84 rfl (by omega) (by omega) ?_
      refine cv_iret rfl dX11_mark_85 ⟨Nat.le_refl _, Nat.le_refl _⟩ ⟨x, ct_rI (by unfold gMk; rw [if_neg ha, if_neg hb, if_neg (by omega), if_pos sw]), rfl⟩
    · refine cv_tableIn (tgt := 86) dX11_mark_34 (by omega) (by omega) (by omega) (by rw [sw]; rfl) (by decide) ?_
      refine cv_aload_n dX11_mark_86 rfl ?_
      refine cv_getf flX11_28 dX11_mark_87 rfl rfl ?_
      refine cv_getf flX11_115 dX11_mark_90 rfl rfl ?_
      refine cv_getf flX11_189 dX11_mark_93 rfl rfl ?_
      refine cv_iload_n dX11_mark_96 rfl ?_
      refine cv_ialj (a.toNat) dX11_mark_97 rfl (by omega) (by omega) ?_
      refine cv_iret rfl dX11_mark_98 ⟨Nat.le_refl _, Nat.le_refl _⟩ ⟨x, ct_rI (by unfold gMk; rw [if_neg ha, if_neg hb, if_neg (by omega), if_neg (by omega), if_pos sw]), rfl⟩
    · refine cv_tableOut (tgt := 99) dX11_mark_34 (by decide) (by omega) (by omega) ?_
      refine cv_aload_n dX11_mark_99 rfl ?_
      refine cv_getf flX11_38 dX11_mark_100 rfl rfl ?_
      refine cv_aload_n dX11_mark_103 rfl ?_
      refine cv_getf flX11_28 dX11_mark_104 rfl rfl ?_
      refine cv_iload_n dX11_mark_107 rfl ?_
      have e0 : (vI a : ct_V) = vI ((a.toNat : Nat) : Int) := by rw [Int.toNat_of_nonneg (by omega)]
      rw [e0]
      refine cv_topR (c_X8_countWhy T S x.1 x.2.1 hT hS a.toNat (by omega)) lkX8_countWhy mlX11_192 dX11_mark_108 (by decide) rfl rfl (by decide) rfl (Nat.le_of_ble_eq_true rfl) ⟨Nat.le_refl _, Nat.le_refl _⟩ ?_
      intro v w1 hq
      obtain ⟨rfl, rfl⟩ := hq
      refine ⟨_, _, _, _, rfl, ?_⟩
      refine cv_iret rfl dX11_mark_111 ⟨Nat.le_refl _, Nat.le_refl _⟩ ⟨_, ct_rI (by unfold gMk; rw [if_neg ha, if_neg hb, if_neg (by omega), if_neg (by omega), if_neg (by omega)]), rfl⟩
  refine cv_iload_n dX11_mark_0 rfl ?_
  refine cv_if_lt (tgt := 9) dX11_mark_1 (by decide) (by omega) (fun h1 => ?_) (fun h1 => ?_)
  · exact l9 (by omega)
  · refine cv_iload_n dX11_mark_4 rfl ?_
    refine cv_iconst dX11_mark_5 ?_
    refine cv_icmp_le (tgt := 12) dX11_mark_6 (by decide) (by omega) (fun h6 => ?_) (fun h6 => ?_)
    · refine cv_iload_n dX11_mark_12 rfl ?_
      refine cv_if_lt (tgt := 30) dX11_mark_13 (by decide) (by omega) (fun h13 => ?_) (fun h13 => ?_)
      · exact l30 (by omega) (by omega)
      · refine cv_iload_n dX11_mark_16 rfl ?_
        refine cv_aload_n dX11_mark_17 rfl ?_
        refine cv_getf flX11_28 dX11_mark_18 rfl rfl ?_
        refine cv_getf flX11_115 dX11_mark_21 rfl rfl ?_
        refine cv_getf flX11_119 dX11_mark_24 rfl rfl ?_
        refine cv_icmp_lt (tgt := 33) dX11_mark_27 (by decide) (by omega) (fun h27 => ?_) (fun h27 => ?_)
        · exact l33 (by omega) (by omega)
        · exact l30 (by omega) (by omega)
    · exact l9 (by omega)
set_option maxRecDepth 100000 in
set_option maxHeartbeats 1000000 in
theorem c_X11_cut (T : ctT) (S : ctS) (n : Nat) (P : Nat → Nat) (A : Nat → ctS) (V : ctS) (x : ctX) (y : ctY) (c : ctW) (k : ctK) (sd : Int) (a b : Int) (ar : -2147483648 ≤ a ∧ a ≤ 2147483647) (br : -2147483648 ≤ b ∧ b ≤ 2147483647) (hS : okS T S) : CM MX11_cut (1, 0, 0) [vR 165, vI a, vI b] (wTop T S n P A V x y c k sd) (fun v w => v = some (vI (gCt S a b)) ∧ w = wTop T S n P A V x y c k sd) := by
  refine CM.of (by decide) (Nat.le_of_ble_eq_true rfl) ?_
  show CV MX11_cut (1, 0, 0) 209 (0, 0) 0 [(0, vR 165), (1, vI a), (2, vI b)] [] (wTop T S n P A V x y c k sd) _
  have i1 := ct_i_r (0 ≤ a ∧ a < (sC S : Int))
  have hC := hS.2.2.2.2.2.1
  have l36 : (0 ≤ a ∧ a < (sC S : Int)) → (b < 0 ∨ sCs S a.toNat ≤ b) → CV MX11_cut (1, 0, 0) 209 (0, 0) 36 [(0, vR 165), (1, vI a), (2, vI b)] [] (wTop T S n P A V x y c k sd) (fun v w => v = some (vI (gCt S a b)) ∧ w = wTop T S n P A V x y c k sd) := by
    intro  ha hb
    refine cv_bipush dX11_cut_36 (by decide) ?_
    refine cv_iret rfl dX11_cut_38 ⟨Nat.le_refl _, Nat.le_refl _⟩ ⟨ct_rI (by unfold gCt; rw [if_neg (fun z => z ha), if_pos hb]), rfl⟩
  refine cv_aload_n dX11_cut_0 rfl ?_
  refine cv_getf flX11_28 dX11_cut_1 rfl rfl ?_
  refine cv_getf flX11_130 dX11_cut_4 rfl rfl ?_
  refine cv_iload_n dX11_cut_7 rfl ?_
  refine cv_topS (c_X2_has T S hS a ar) lkX2_has mlX11_196 dX11_cut_8 (by decide) rfl rfl (by decide) rfl (Nat.le_of_ble_eq_true rfl) ⟨Nat.le_refl _, Nat.le_refl _⟩ ?_
  intro v w1 hq
  obtain ⟨rfl, rfl⟩ := hq
  refine ⟨_, _, rfl, ?_⟩
  refine cv_if_ne (tgt := 16) dX11_cut_11 (by decide) (by omega) (fun h11 => ?_) (fun h11 => ?_)
  · have ha := ct_i_1.mp (show ct_i (0 ≤ a ∧ a < (sC S : Int)) = 1 by omega)
    have hc8 := hS.2.2.2.2.2.2.1 a.toNat (by omega)
    refine cv_iload_n dX11_cut_16 rfl ?_
    refine cv_if_lt (tgt := 36) dX11_cut_17 (by decide) (by omega) (fun h17 => ?_) (fun h17 => ?_)
    · exact l36 ha (by omega)
    · refine cv_iload_n dX11_cut_20 rfl ?_
      refine cv_aload_n dX11_cut_21 rfl ?_
      refine cv_getf flX11_28 dX11_cut_22 rfl rfl ?_
      refine cv_getf flX11_130 dX11_cut_25 rfl rfl ?_
      refine cv_getf flX11_199 dX11_cut_28 rfl rfl ?_
      refine cv_iload_n dX11_cut_31 rfl ?_
      refine cv_ialj (a.toNat) dX11_cut_32 rfl (by omega) (by omega) ?_
      refine cv_icmp_lt (tgt := 39) dX11_cut_33 (by decide) (by omega) (fun h33 => ?_) (fun h33 => ?_)
      · refine cv_aload_n dX11_cut_39 rfl ?_
        refine cv_getf flX11_28 dX11_cut_40 rfl rfl ?_
        refine cv_getf flX11_130 dX11_cut_43 rfl rfl ?_
        refine cv_iload_n dX11_cut_46 rfl ?_
        refine cv_iload_n dX11_cut_47 rfl ?_
        have e0 : (vI a : ct_V) = vI ((a.toNat : Nat) : Int) := by rw [Int.toNat_of_nonneg (by omega)]
        have e1 : (vI b : ct_V) = vI ((b.toNat : Nat) : Int) := by rw [Int.toNat_of_nonneg (by omega)]
        rw [e0, e1]
        refine cv_topS (c_X2_at T S a.toNat b.toNat (by omega) (by omega)) lkX2_at mlX11_202 dX11_cut_48 (by decide) rfl rfl (by decide) rfl (Nat.le_of_ble_eq_true rfl) ⟨Nat.le_refl _, Nat.le_refl _⟩ ?_
        intro v w1 hq
        obtain ⟨rfl, rfl⟩ := hq
        refine ⟨_, _, rfl, ?_⟩
        refine cv_iret rfl dX11_cut_51 ⟨Nat.le_refl _, Nat.le_refl _⟩ ⟨ct_rI (by unfold gCt; rw [if_neg (fun z => z ha), if_neg (by omega)]), rfl⟩
      · exact l36 ha (by omega)
  · refine cv_iconst dX11_cut_14 ?_
    refine cv_iret rfl dX11_cut_15 ⟨Nat.le_refl _, Nat.le_refl _⟩ ⟨ct_rI (if_pos (ct_i_0.mp (by omega))).symm, rfl⟩
theorem fWi_r {T : ctT} {S : ctS} (hT : okT T) (hS : okS T S) {c : Nat} (hc : c < sC S) : 0 ≤ fWi T S c ∧ fWi T S c ≤ 10000 := by
  refine fBox_r (bW_ok (n := (sCs S c).toNat) (fun x hx => ?_) (fun k hk => ?_) _ (Nat.le_refl _))
  · have := hT.2.2.2.1 x hx
    exact ⟨Int.le_refl 0, (by show (0 : Int) ≤ 10; decide), by show -1 ≤ tT T x; omega, this.2⟩
  · exact (hS.2.2.2.2.2.2.2.1 c k hc (by omega)).1
set_option maxRecDepth 100000 in
set_option maxHeartbeats 1000000 in
theorem c_X11_follows (T : ctT) (S : ctS) (n : Nat) (P : Nat → Nat) (A : Nat → ctS) (V : ctS) (x : ctX) (y : ctY) (c : ctW) (k : ctK) (sd : Int) (a : Int) (ar : -2147483648 ≤ a ∧ a ≤ 2147483647) (hT : okT T) (hS : okS T S) : CM MX11_follows (4, 0, 0) [vR 165, vI a] (wTop T S n P A V x y c k sd) (fun v w => ∃ x1, v = some (vI (gFo T S a)) ∧ w = wTop T S n P A V x1 y c k sd) := by
  refine CM.of (by decide) (Nat.le_of_ble_eq_true rfl) ?_
  show CV MX11_follows (4, 0, 0) 209 (0, 0) 0 [(0, vR 165), (1, vI a)] [] (wTop T S n P A V x y c k sd) _
  have i1 := ct_i_r (0 ≤ a ∧ a < (sC S : Int))
  refine cv_aload_n dX11_follows_0 rfl ?_
  refine cv_getf flX11_28 dX11_follows_1 rfl rfl ?_
  refine cv_getf flX11_130 dX11_follows_4 rfl rfl ?_
  refine cv_iload_n dX11_follows_7 rfl ?_
  refine cv_topS (c_X2_has T S hS a ar) lkX2_has mlX11_196 dX11_follows_8 (by decide) rfl rfl (by decide) rfl (Nat.le_of_ble_eq_true rfl) ⟨Nat.le_refl _, Nat.le_refl _⟩ ?_
  intro v w1 hq
  obtain ⟨rfl, rfl⟩ := hq
  refine ⟨_, _, rfl, ?_⟩
  refine cv_if_ne (tgt := 16) dX11_follows_11 (by decide) (by omega) (fun h11 => ?_) (fun h11 => ?_)
  · have ha := ct_i_1.mp (show ct_i (0 ≤ a ∧ a < (sC S : Int)) = 1 by omega)
    refine cv_aload_n dX11_follows_16 rfl ?_
    refine cv_getf flX11_66 dX11_follows_17 rfl rfl ?_
    refine cv_aload_n dX11_follows_20 rfl ?_
    refine cv_getf flX11_28 dX11_follows_21 rfl rfl ?_
    refine cv_getf flX11_130 dX11_follows_24 rfl rfl ?_
    refine cv_iload_n dX11_follows_27 rfl ?_
    have e0 : (vI a : ct_V) = vI ((a.toNat : Nat) : Int) := by rw [Int.toNat_of_nonneg (by omega)]
    rw [e0]
    refine cv_topW (c_X10_within T S x.2.2.1 x.2.2.2 hT hS a.toNat (by omega)) lkX10_within mlX11_206 dX11_follows_28 (by decide) rfl rfl (by decide) rfl (Nat.le_of_ble_eq_true rfl) ⟨Nat.le_refl _, Nat.le_refl _⟩ ?_
    intro v w1 hq
    obtain ⟨f1, t1, rfl, rfl⟩ := hq
    refine ⟨_, _, f1, t1, rfl, ?_⟩
    have hwi := fWi_r hT hS (c := a.toNat) (by omega)
    refine cv_if_ne (tgt := 38) dX11_follows_31 (by decide) (by omega) (fun h31 => ?_) (fun h31 => ?_)
    · refine cv_iconst dX11_follows_38 ?_
      refine cv_iret rfl dX11_follows_39 ⟨Nat.le_refl _, Nat.le_refl _⟩ ⟨_, ct_rI (by unfold gFo; rw [if_neg (fun z => z ha), if_neg h31]), rfl⟩
    · refine cv_iconst dX11_follows_34 ?_
      refine cv_goto (tgt := 39) dX11_follows_35 (by decide) ?_
      refine cv_iret rfl dX11_follows_39 ⟨Nat.le_refl _, Nat.le_refl _⟩ ⟨_, ct_rI (by unfold gFo; rw [if_neg (fun z => z ha), if_pos h31]), rfl⟩
  · refine cv_iconst dX11_follows_14 ?_
    refine cv_iret rfl dX11_follows_15 ⟨Nat.le_refl _, Nat.le_refl _⟩ ⟨x, ct_rI (if_pos (ct_i_0.mp (by omega))).symm, rfl⟩
