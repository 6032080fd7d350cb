/-- a mark as it is told -/
def okm (m : Int) : Prop := 0 ≤ m ∧ m ≤ 999 ∧ m / 10 % 10 ≤ 1
/-- what holds of every state that is reached, by what the calls need of it -/
def goodI (T : ctT) (I : ctS → Prop) : Prop := okT T ∧ ∀ S, I S → gS T S ∧ (¬ fLv S = 0 → gS T (fUp T S (fLv S - 1)) ∧ I (fDraw T (fUp T S (fLv S - 1)))) ∧ (lnP T S → sC (fF40 S) < 40 ∧ sZ (fF40 S) = sZ S ∧ sM (fF40 S) = sM S ∧ okS T (fL2 T S) ∧ gS T (fUp T (fL2 T S) (fLl T S)) ∧ I (fLn T S)) ∧ (∀ m, okm m → I (fMade T S m)) ∧ (∀ V, I (fCp V S))
theorem goodI_w {T : ctT} {I : ctS → Prop} (h : goodI T I) {S : ctS} (hS : I S) : wk S := okS_wk (h.2 S hS).1.1
/-- the acts, one more remembered -/
def gRm (S : ctS) (n : Nat) (P : Nat → Nat) (A : Nat → ctS) : Nat → ctS := upA A (fAp n P (fAi n)) (fCp (A (fAp n P (fAi n))) S)
def mkO (a s q : Int) : Int := 100 * a + 10 * s + q
theorem mkO_ok {a s q : Int} (h : 0 ≤ a ∧ a ≤ 9) (h1 : s = 0 ∨ s = 1) (h2 : 0 ≤ q ∧ q ≤ 9) : okm (mkO a s q) := by
  unfold okm mkO
  omega
/-- make's answer, when nothing is done -/
noncomputable def gMa (T : ctT) (S : ctS) (a s q : Int) : Option Int := if ¬ (0 ≤ a ∧ a < (tN T : Int)) then some (-1) else if ¬ (s = 0 ∨ s = 1) ∨ ¬ (0 ≤ q ∧ q ≤ 9) then some (-2) else @ite _ (mkP T S (mkO a s q)) (Classical.propDecidable _) none (some (-3))
set_option maxRecDepth 100000 in
set_option maxHeartbeats 1000000 in
theorem c_X11_make (T : ctT) (S : ctS) (n : Nat) (P : Nat → Nat) (A : Nat → ctS) (V : ctS) (x : ctX) (y : ctY) (c : ctW) (k : ctK) (sd : Int) (a s q : Int) (ar : -2147483648 ≤ a ∧ a ≤ 2147483647) (sr : -2147483648 ≤ s ∧ s ≤ 2147483647) (qr : -2147483648 ≤ q ∧ q ≤ 2147483647) (I : ctS → Prop) (hI : goodI T I) (hS : I S) (hn : n ≤ 14) (hP : ∀ i, i < 14 → P i < 14) : CM MX11_make (5, 0, 0) [vR 165, vI a, vI s, vI q] (wTop T S n P A V x y c k sd) (fun v w => (∀ i, gMa T S a s q = some i → v = some (vI i) ∧ w = wTop T S n P A V x y c k sd) ∧ (gMa T S a s q = none → v = some (vI (sZ (fMade T S (mkO a s q)) : Nat)) ∧ w = wTop T (fMade T S (mkO a s q)) (fAi n + 1) (fAp n P) (gRm S n P A) V x y c k sd)) := by
  refine CM.of (by decide) (Nat.le_of_ble_eq_true rfl) ?_
  show CV MX11_make (5, 0, 0) 209 (0, 0) 0 [(0, vR 165), (1, vI a), (2, vI s), (3, vI q)] [] (wTop T S n P A V x y c k sd) _
  have hT := hI.1
  have hg := (hI.2 S hS).1
  have ho := hg.1
  have hw := goodI_w hI hS
  have hN := hT.2.1
  have i1 := ct_i_r (0 ≤ a ∧ a < (tN T : Int))
  have i2 := ct_i_r (s = 0 ∨ s = 1)
  have i3 := ct_i_r (0 ≤ q ∧ q ≤ 9)
  have i4 := ct_i_r (mkP T S (mkO a s q))
  have no : ∀ i : Int, gMa T S a s q = some i → (∀ j, gMa T S a s q = some j → (some (vI i) : Option ct_V) = some (vI j) ∧ (wTop T S n P A V x y c k sd) = wTop T S n P A V x y c k sd) ∧ (gMa T S a s q = none → (some (vI i) : Option ct_V) = some (vI (sZ (fMade T S (mkO a s q)) : Nat)) ∧ (wTop T S n P A V x y c k sd) = wTop T (fMade T S (mkO a s q)) (fAi n + 1) (fAp n P) (gRm S n P A) V x y c k sd) := fun i hi => ⟨fun j hj => by rw [hi] at hj; exact ⟨by rw [Option.some.inj hj], rfl⟩, fun h => by rw [hi] at h; cases h⟩
  have l27 : (0 ≤ a ∧ a < (tN T : Int)) → (¬ (s = 0 ∨ s = 1) ∨ ¬ (0 ≤ q ∧ q ≤ 9)) → CV MX11_make (5, 0, 0) 209 (0, 0) 27 [(0, vR 165), (1, vI a), (2, vI s), (3, vI q)] [] (wTop T S n P A V x y c k sd) (fun v w => (∀ i, gMa T S a s q = some i → v = some (vI i) ∧ w = wTop T S n P A V x y c k sd) ∧ (gMa T S a s q = none → v = some (vI (sZ (fMade T S (mkO a s q)) : Nat)) ∧ w = wTop T (fMade T S (mkO a s q)) (fAi n + 1) (fAp n P) (gRm S n P A) V x y c k sd)) := by
    intro  ha hb
    refine cv_bipush dX11_make_27 (by decide) ?_
    refine cv_iret rfl dX11_make_29 ⟨Nat.le_refl _, Nat.le_refl _⟩ (no (-2) ((if_neg (fun z => z ha)).trans (if_pos hb)))
  refine cv_aload_n dX11_make_0 rfl ?_
  refine cv_getf flX11_12 dX11_make_1 rfl rfl ?_
  refine cv_iload_n dX11_make_4 rfl ?_
  refine cv_topS (c_X6_hasNumber T S hT a ar) lkX6_hasNumber mlX11_152 dX11_make_5 (by decide) rfl rfl (by decide) rfl (Nat.le_of_ble_eq_true rfl) ⟨Nat.le_refl _, Nat.le_refl _⟩ ?_
  intro v w1 hq
  obtain ⟨rfl, rfl⟩ := hq
  refine ⟨_, _, rfl, ?_⟩
  refine cv_if_ne (tgt := 13) dX11_make_8 (by decide) (by omega) (fun h8 => ?_) (fun h8 => ?_)
  · have ha := ct_i_1.mp (show ct_i (0 ≤ a ∧ a < (tN T : Int)) = 1 by omega)
    refine cv_iload_n dX11_make_13 rfl ?_
    refine cv_sameS (c_X11_isSide (wTop T S n P A V x y c k sd) s sr) lkX11_isSide mlX11_210 dX11_make_14 (by decide) rfl rfl (Nat.le_of_ble_eq_true rfl) ⟨Nat.le_refl _, Nat.le_refl _⟩ ?_
    intro v w1 hq
    obtain ⟨rfl, rfl⟩ := hq
    refine cv_if_eq (tgt := 27) dX11_make_17 (by decide) (by omega) (fun h17 => ?_) (fun h17 => ?_)
    · have hs := ct_i_0.mp h17
      exact l27 ha (by omega)
    · have hs := ct_i_1.mp (show ct_i (s = 0 ∨ s = 1) = 1 by omega)
      refine cv_iload_n dX11_make_20 rfl ?_
      refine cv_sameS (c_X11_isValue (wTop T S n P A V x y c k sd) q qr) lkX11_isValue mlX11_213 dX11_make_21 (by decide) rfl rfl (Nat.le_of_ble_eq_true rfl) ⟨Nat.le_refl _, Nat.le_refl _⟩ ?_
      intro v w1 hq
      obtain ⟨rfl, rfl⟩ := hq
      refine cv_if_ne (tgt := 30) dX11_make_24 (by decide) (by omega) (fun h24 => ?_) (fun h24 => ?_)
      · have hq := ct_i_1.mp (show ct_i (0 ≤ q ∧ q ≤ 9) = 1 by omega)
        have hm := mkO_ok (a := a) (by omega) hs hq
        have e0 : gMa T S a s q = @ite _ (mkP T S (mkO a s q)) (Classical.propDecidable _) none (some (-3)) := (if_neg (fun z => z ha)).trans (if_neg (by omega))
        refine cv_iload_n dX11_make_30 rfl ?_
        refine cv_iload_n dX11_make_31 rfl ?_
        refine cv_iload_n dX11_make_32 rfl ?_
        refine cv_sameS (c_X11_markOf (wTop T S n P A V x y c k sd) a s q) lkX11_markOf mlX11_216 dX11_make_33 (by decide) rfl rfl (Nat.le_of_ble_eq_true rfl) ⟨Nat.le_refl _, Nat.le_refl _⟩ ?_
        intro v w1 hq
        obtain ⟨rfl, rfl⟩ := hq
        refine cv_topi (mkO a s q) rfl ?_
        refine cv_istore dX11_make_36 (by decide) rfl rfl ?_
        refine cv_aload_n dX11_make_38 rfl ?_
        refine cv_getf flX11_28 dX11_make_39 rfl rfl ?_
        refine cv_iload dX11_make_42 rfl ?_
        refine cv_topS (c_X5_canMake T S hT ho (mkO a s q) hm) lkX5_canMake mlX11_220 dX11_make_44 (by decide) rfl rfl (by decide) rfl (Nat.le_of_ble_eq_true rfl) ⟨Nat.le_refl _, Nat.le_refl _⟩ ?_
        intro v w1 hq
        obtain ⟨rfl, rfl⟩ := hq
        refine ⟨_, _, rfl, ?_⟩
        refine cv_if_ne (tgt := 53) dX11_make_47 (by decide) (by omega) (fun h47 => ?_) (fun h47 => ?_)
        · have e1 : gMa T S a s q = none := e0.trans (if_pos (ct_i_1.mp (by omega)))
          refine cv_aload_n dX11_make_53 rfl ?_
          refine cv_getf flX11_45 dX11_make_54 rfl rfl ?_
          refine cv_aload_n dX11_make_57 rfl ?_
          refine cv_getf flX11_28 dX11_make_58 rfl rfl ?_
          refine cv_topA (c_X0_remember T S n P A hP hn hw.1 hw.2.1 hw.2.2) lkX0_remember mlX11_223 dX11_make_61 (by decide) rfl rfl (by decide) rfl (Nat.le_of_ble_eq_true rfl) ⟨Nat.le_refl _, Nat.le_refl _⟩ ?_
          intro v w1 hq
          obtain ⟨rfl, rfl⟩ := hq
          refine ⟨_, _, _, _, _, rfl, ?_⟩
          refine cv_aload_n dX11_make_64 rfl ?_
          refine cv_getf flX11_28 dX11_make_65 rfl rfl ?_
          refine cv_iload dX11_make_68 rfl ?_
          refine cv_topS (c_X5_made T S hT hg (mkO a s q) hm) lkX5_made mlX11_227 dX11_make_70 (by decide) rfl rfl (by decide) rfl (Nat.le_of_ble_eq_true rfl) ⟨Nat.le_refl _, Nat.le_refl _⟩ ?_
          intro v w1 hq
          obtain ⟨rfl, rfl⟩ := hq
          refine ⟨_, _, rfl, ?_⟩
          refine cv_pop dX11_make_73 rfl ?_
          refine cv_aload_n dX11_make_74 rfl ?_
          refine cv_getf flX11_28 dX11_make_75 rfl rfl ?_
          refine cv_getf flX11_115 dX11_make_78 rfl rfl ?_
          refine cv_getf flX11_119 dX11_make_81 rfl rfl ?_
          refine cv_iret rfl dX11_make_84 ⟨Nat.le_refl _, Nat.le_refl _⟩ ⟨(fun j hj => by rw [e1] at hj; cases hj), fun _ => ⟨rfl, rfl⟩⟩
        · have e1 : gMa T S a s q = some (-3) := e0.trans (if_neg (ct_i_0.mp (by omega)))
          refine cv_bipush dX11_make_50 (by decide) ?_
          refine cv_iret rfl dX11_make_52 ⟨Nat.le_refl _, Nat.le_refl _⟩ (no (-3) e1)
      · have hq := ct_i_0.mp (show ct_i (0 ≤ q ∧ q ≤ 9) = 0 by omega)
        exact l27 ha (by omega)
  · refine cv_iconst dX11_make_11 ?_
    refine cv_iret rfl dX11_make_12 ⟨Nat.le_refl _, Nat.le_refl _⟩ (no (-1) (if_pos (ct_i_0.mp (by omega))))
set_option maxRecDepth 100000 in
set_option maxHeartbeats 1000000 in
theorem c_X11_learn (T : ctT) (S : ctS) (n : Nat) (P : Nat → Nat) (A : Nat → ctS) (V : ctS) (x : ctX) (y : ctY) (c : ctW) (k : ctK) (sd : Int) (I : ctS → Prop) (hI : goodI T I) (hS : I S) (hn : n ≤ 14) (hP : ∀ i, i < 14 → P i < 14) : CM MX11_learn (6, 0, 0) [vR 165] (wTop T S n P A V x y c k sd) (fun v w => (lnP T S → ∃ x1, v = some (vI (fLz T S)) ∧ w = wTop T (fLn T S) (fAi n + 1) (fAp n P) (gRm S n P A) V x1 y c k sd) ∧ (¬ lnP T S → v = some (vI (-3)) ∧ w = wTop T S n P A V x y c k sd)) := by
  refine CM.of (by decide) (Nat.le_of_ble_eq_true rfl) ?_
  show CV MX11_learn (6, 0, 0) 209 (0, 0) 0 [(0, vR 165)] [] (wTop T S n P A V x y c k sd) _
  have hT := hI.1
  have hg := (hI.2 S hS).1
  have ho := hg.1
  have hw := goodI_w hI hS
  have i1 := ct_i_r (lnP T S)
  refine cv_aload_n dX11_learn_0 rfl ?_
  refine cv_getf flX11_28 dX11_learn_1 rfl rfl ?_
  refine cv_topS (c_X5_canLearn T S hT ho) lkX5_canLearn mlX11_230 dX11_learn_4 (by decide) rfl rfl (by decide) rfl (Nat.le_of_ble_eq_true rfl) ⟨Nat.le_refl _, Nat.le_refl _⟩ ?_
  intro v w1 hq
  obtain ⟨rfl, rfl⟩ := hq
  refine ⟨_, _, rfl, ?_⟩
  refine cv_if_ne (tgt := 13) dX11_learn_7 (by decide) (by omega) (fun h7 => ?_) (fun h7 => ?_)
  · have hp := ct_i_1.mp (show ct_i (lnP T S) = 1 by omega)
    have hl := (hI.2 S hS).2.2.1 hp
    refine cv_aload_n dX11_learn_13 rfl ?_
    refine cv_getf flX11_45 dX11_learn_14 rfl rfl ?_
    refine cv_aload_n dX11_learn_17 rfl ?_
    refine cv_getf flX11_28 dX11_learn_18 rfl rfl ?_
    refine cv_topA (c_X0_remember T S n P A hP hn hw.1 hw.2.1 hw.2.2) lkX0_remember mlX11_223 dX11_learn_21 (by decide) rfl rfl (by decide) rfl (Nat.le_of_ble_eq_true rfl) ⟨Nat.le_refl _, Nat.le_refl _⟩ ?_
    intro v w1 hq
    obtain ⟨rfl, rfl⟩ := hq
    refine ⟨_, _, _, _, _, rfl, ?_⟩
    refine cv_aload_n dX11_learn_24 rfl ?_
    refine cv_getf flX11_38 dX11_learn_25 rfl rfl ?_
    refine cv_aload_n dX11_learn_28 rfl ?_
    refine cv_getf flX11_28 dX11_learn_29 rfl rfl ?_
    refine cv_topR (c_X8_learnt T S x.1 x.2.1 hT hg hl.1 hl.2.1 hl.2.2.1 hl.2.2.2.1 hl.2.2.2.2.1) lkX8_learnt mlX11_233 dX11_learn_32 (by decide) rfl rfl (by decide) rfl (Nat.le_of_ble_eq_true rfl) ⟨Nat.le_refl _, Nat.le_refl _⟩ ?_
    intro v w1 hq
    obtain ⟨F1, G1, rfl, rfl⟩ := hq
    refine ⟨_, _, F1, G1, rfl, ?_⟩
    refine cv_iret rfl dX11_learn_35 ⟨Nat.le_refl _, Nat.le_refl _⟩ ⟨fun _ => ⟨_, rfl, rfl⟩, fun h => absurd hp h⟩
  · have hp := ct_i_0.mp (show ct_i (lnP T S) = 0 by omega)
    refine cv_bipush dX11_learn_10 (by decide) ?_
    refine cv_iret rfl dX11_learn_12 ⟨Nat.le_refl _, Nat.le_refl _⟩ ⟨fun h => absurd h hp, fun _ => ⟨rfl, rfl⟩⟩
set_option maxRecDepth 100000 in
set_option maxHeartbeats 1000000 in
theorem c_X11_leave (T : ctT) (S : ctS) (n : Nat) (P : Nat → Nat) (A : Nat → ctS) (V : ctS) (x : ctX) (y : ctY) (c : ctW) (k : ctK) (sd : Int) (I : ctS → Prop) (hI : goodI T I) (hS : I S) (hn : n ≤ 14) (hP : ∀ i, i < 14 → P i < 14) : CM MX11_leave (5, 0, 0) [vR 165] (wTop T S n P A V x y c k sd) (fun v w => (¬ fLv S = 0 → v = some (vI (fLv (fDraw T (fUp T S (fLv S - 1))))) ∧ w = wTop T (fDraw T (fUp T S (fLv S - 1))) (fAi n + 1) (fAp n P) (gRm S n P A) V x y c k sd) ∧ (fLv S = 0 → v = some (vI (-3)) ∧ w = wTop T S n P A V x y c k sd)) := by
  refine CM.of (by decide) (Nat.le_of_ble_eq_true rfl) ?_
  show CV MX11_leave (5, 0, 0) 209 (0, 0) 0 [(0, vR 165)] [] (wTop T S n P A V x y c k sd) _
  have hT := hI.1
  have hg := (hI.2 S hS).1
  have ho := hg.1
  have hw := goodI_w hI hS
  have hv := fLv_r hg
  have hZ := ho.1
  refine cv_aload_n dX11_leave_0 rfl ?_
  refine cv_getf flX11_28 dX11_leave_1 rfl rfl ?_
  refine cv_getf flX11_115 dX11_leave_4 rfl rfl ?_
  refine cv_topS (c_X9_level T S ho) lkX9_level mlX11_124 dX11_leave_7 (by decide) rfl rfl (by decide) rfl (Nat.le_of_ble_eq_true rfl) ⟨Nat.le_refl _, Nat.le_refl _⟩ ?_
  intro v w1 hq
  obtain ⟨rfl, rfl⟩ := hq
  refine ⟨_, _, rfl, ?_⟩
  refine cv_if_ne (tgt := 16) dX11_leave_10 (by decide) (by omega) (fun h10 => ?_) (fun h10 => ?_)
  · have hl := (hI.2 S hS).2.1 h10
    refine cv_aload_n dX11_leave_16 rfl ?_
    refine cv_getf flX11_45 dX11_leave_17 rfl rfl ?_
    refine cv_aload_n dX11_leave_20 rfl ?_
    refine cv_getf flX11_28 dX11_leave_21 rfl rfl ?_
    refine cv_topA (c_X0_remember T S n P A hP hn hw.1 hw.2.1 hw.2.2) lkX0_remember mlX11_223 dX11_leave_24 (by decide) rfl rfl (by decide) rfl (Nat.le_of_ble_eq_true rfl) ⟨Nat.le_refl _, Nat.le_refl _⟩ ?_
    intro v w1 hq
    obtain ⟨rfl, rfl⟩ := hq
    refine ⟨_, _, _, _, _, rfl, ?_⟩
    refine cv_aload_n dX11_leave_27 rfl ?_
    refine cv_getf flX11_28 dX11_leave_28 rfl rfl ?_
    refine cv_topS (c_X5_left T S hT hg hl.1) lkX5_left mlX11_237 dX11_leave_31 (by decide) rfl rfl (by decide) rfl (Nat.le_of_ble_eq_true rfl) ⟨Nat.le_refl _, Nat.le_refl _⟩ ?_
    intro v w1 hq
    obtain ⟨rfl, rfl⟩ := hq
    refine ⟨_, _, rfl, ?_⟩
    refine cv_aload_n dX11_leave_34 rfl ?_
    refine cv_getf flX11_28 dX11_leave_35 rfl rfl ?_
    refine cv_getf flX11_115 dX11_leave_38 rfl rfl ?_
    refine cv_topS (c_X9_level T (fDraw T (fUp T S (fLv S - 1))) (hI.2 _ hl.2).1.1) lkX9_level mlX11_124 dX11_leave_41 (by decide) rfl rfl (by decide) rfl (Nat.le_of_ble_eq_true rfl) ⟨Nat.le_refl _, Nat.le_refl _⟩ ?_
    intro v w1 hq
    obtain ⟨rfl, rfl⟩ := hq
    refine ⟨_, _, rfl, ?_⟩
    refine cv_iret rfl dX11_leave_44 ⟨Nat.le_refl _, Nat.le_refl _⟩ ⟨fun _ => ⟨rfl, rfl⟩, fun h => absurd h h10⟩
  · refine cv_bipush dX11_leave_13 (by decide) ?_
    refine cv_iret rfl dX11_leave_15 ⟨Nat.le_refl _, Nat.le_refl _⟩ ⟨fun h => absurd (by omega) h, fun _ => ⟨rfl, rfl⟩⟩
set_option maxRecDepth 100000 in
set_option maxHeartbeats 1000000 in
theorem c_X11_undo (T : ctT) (S : ctS) (n : Nat) (P : Nat → Nat) (A : Nat → ctS) (V : ctS) (x : ctX) (y : ctY) (c : ctW) (k : ctK) (sd : Int) (hn : n ≤ 14) (hP : ∀ i, i < 14 → P i < 14) (hA : ∀ i, i < 14 → wk (A i)) : CM MX11_undo (4, 0, 0) [vR 165] (wTop T S n P A V x y c k sd) (fun v w => (1 ≤ n → v = some (vI ((n - 1 : Nat) : Int)) ∧ w = wTop T (fCp S (A (P (n - 1)))) (n - 1) P A V x y c k sd) ∧ (n = 0 → v = some (vI (-3)) ∧ w = wTop T S n P A V x y c k sd)) := by
  refine CM.of (by decide) (Nat.le_of_ble_eq_true rfl) ?_
  show CV MX11_undo (4, 0, 0) 209 (0, 0) 0 [(0, vR 165)] [] (wTop T S n P A V x y c k sd) _
  refine cv_aload_n dX11_undo_0 rfl ?_
  refine cv_getf flX11_45 dX11_undo_1 rfl rfl ?_
  refine cv_getf flX11_100 dX11_undo_4 rfl rfl ?_
  refine cv_if_gt (tgt := 13) dX11_undo_7 (by decide) (by omega) (fun h7 => ?_) (fun h7 => ?_)
  · refine cv_aload_n dX11_undo_13 rfl ?_
    refine cv_getf flX11_45 dX11_undo_14 rfl rfl ?_
    refine cv_aload_n dX11_undo_17 rfl ?_
    refine cv_getf flX11_28 dX11_undo_18 rfl rfl ?_
    refine cv_topA (c_X0_takeBack T S n P A hP (by omega) hA) lkX0_takeBack mlX11_243 dX11_undo_21 (by decide) rfl rfl (by decide) rfl (Nat.le_of_ble_eq_true rfl) ⟨Nat.le_refl _, Nat.le_refl _⟩ ?_
    intro v w1 hq
    obtain ⟨rfl, rfl⟩ := hq
    refine ⟨_, _, _, _, _, rfl, ?_⟩
    refine cv_aload_n dX11_undo_24 rfl ?_
    refine cv_getf flX11_45 dX11_undo_25 rfl rfl ?_
    refine cv_getf flX11_100 dX11_undo_28 rfl rfl ?_
    refine cv_iret rfl dX11_undo_31 ⟨Nat.le_refl _, Nat.le_refl _⟩ ⟨fun _ => ⟨rfl, rfl⟩, fun h => absurd h (by omega)⟩
  · refine cv_bipush dX11_undo_10 (by decide) ?_
    refine cv_iret rfl dX11_undo_12 ⟨Nat.le_refl _, Nat.le_refl _⟩ ⟨fun h => absurd h (by omega), fun _ => ⟨rfl, rfl⟩⟩
/-- a step, on a state: whether there was something to do, and the state by then -/
noncomputable def fStp (T : ctT) (S : ctS) : Int × ctS := @ite _ (lnP T S) (Classical.propDecidable _) (1, fLn T S) (match fOp T S with
  | none => (0, S)
  | some i => (ct_i (mkP T S (mkO i 1 (sLo S i))), fMade T S (mkO i 1 (sLo S i))))
theorem fStp_l {T : ctT} {S : ctS} (h : lnP T S) : fStp T S = (1, fLn T S) := if_pos h
theorem fStp_n {T : ctT} {S : ctS} (h : ¬ lnP T S) (h2 : fOp T S = none) : fStp T S = (0, S) := by unfold fStp; rw [if_neg h, h2]
theorem fStp_s {T : ctT} {S : ctS} {i : Nat} (h : ¬ lnP T S) (h2 : fOp T S = some i) : fStp T S = (ct_i (mkP T S (mkO i 1 (sLo S i))), fMade T S (mkO i 1 (sLo S i))) := by unfold fStp; rw [if_neg h, h2]
theorem fOp_lt {T : ctT} {S : ctS} {i : Nat} (h : fOp T S = some i) : i < tN T := (ct_first_inv h).1
theorem fStp_r {T : ctT} {S : ctS} : (fStp T S).1 = 0 ∨ (fStp T S).1 = 1 := by
  by_cases h : lnP T S
  · rw [fStp_l h]; exact Or.inr rfl
  · cases h2 : fOp T S with
    | none => rw [fStp_n h h2]; exact Or.inl rfl
    | some i => rw [fStp_s h h2]; exact ct_i_z _
theorem fStp_I {T : ctT} {S : ctS} {I : ctS → Prop} (hI : goodI T I) (hS : I S) : I (fStp T S).2 := by
  by_cases h : lnP T S
  · rw [fStp_l h]; exact ((hI.2 S hS).2.2.1 h).2.2.2.2.2
  · cases h2 : fOp T S with
    | none => rw [fStp_n h h2]; exact hS
    | some i =>
      rw [fStp_s h h2]
      have h3 := fOp_lt h2
      have h4 := hI.1.2.1
      have h5 := (hI.2 S hS).1.1.2.2.2.2.1 i (by omega)
      exact (hI.2 S hS).2.2.2.1 _ (mkO_ok (by omega) (Or.inr rfl) (by omega))
noncomputable def fRun (T : ctT) : Nat → ctS → Nat × ctS
  | 0, S => (0, S)
  | j + 1, S => if (fStp T S).1 = 0 then (0, (fStp T S).2) else ((fRun T j (fStp T S).2).1 + 1, (fRun T j (fStp T S).2).2)
theorem fRun_r (T : ctT) : ∀ (j : Nat) (S : ctS), (fRun T j S).1 ≤ j
  | 0, _ => Nat.le_refl _
  | j + 1, S => by
    unfold fRun
    split
    · exact Nat.zero_le _
    · exact Nat.succ_le_succ (fRun_r T j _)
theorem fRun_I {T : ctT} {I : ctS → Prop} (hI : goodI T I) : ∀ (j : Nat) {S : ctS}, I S → I (fRun T j S).2
  | 0, _, h => h
  | j + 1, S, h => by
    unfold fRun
    split
    · exact fStp_I hI h
    · exact fRun_I hI j (fStp_I hI h)
set_option maxRecDepth 100000 in
set_option maxHeartbeats 1000000 in
theorem c_X11_oneStep (T : ctT) (S : ctS) (n : Nat) (P : Nat → Nat) (A : Nat → ctS) (V : ctS) (x : ctX) (y : ctY) (c : ctW) (k : ctK) (sd : Int) (I : ctS → Prop) (hI : goodI T I) (hS : I S) : CM MX11_oneStep (6, 0, 0) [vR 165] (wTop T S n P A V x y c k sd) (fun v w => ∃ x1, v = some (vI (fStp T S).1) ∧ w = wTop T (fStp T S).2 n P A V x1 y c k sd) := by
  refine CM.of (by decide) (Nat.le_of_ble_eq_true rfl) ?_
  show CV MX11_oneStep (6, 0, 0) 209 (0, 0) 0 [(0, vR 165)] [] (wTop T S n P A V x y c k sd) _
  have hT := hI.1
  have hg := (hI.2 S hS).1
  have ho := hg.1
  have hw := goodI_w hI hS
  have hN := hT.2.1
  have i1 := ct_i_r (lnP T S)
  have l24 : ¬ lnP T S → CV MX11_oneStep (6, 0, 0) 209 (0, 0) 24 [(0, vR 165)] [] (wTop T S n P A V x y c k sd) (fun v w => ∃ x1, v = some (vI (fStp T S).1) ∧ w = wTop T (fStp T S).2 n P A V x1 y c k sd) := by
    intro hp
    cases ho2 : fOp T S with
    | none =>
      refine cv_aload_n dX11_oneStep_24 rfl ?_
      refine cv_getf flX11_28 dX11_oneStep_25 rfl rfl ?_
      refine cv_getf flX11_115 dX11_oneStep_28 rfl rfl ?_
      refine cv_topS (c_X9_firstOpen T S hT ho) lkX9_firstOpen mlX11_288 dX11_oneStep_31 (by decide) rfl rfl (by decide) rfl (Nat.le_of_ble_eq_true rfl) ⟨Nat.le_refl _, Nat.le_refl _⟩ ?_
      intro v w1 hq
      obtain ⟨rfl, rfl⟩ := hq
      rw [ho2]
      refine ⟨_, _, rfl, ?_⟩
      refine cv_topi (-9) rfl ?_
      refine cv_istore_n dX11_oneStep_34 (by decide) rfl rfl ?_
      refine cv_iload_n dX11_oneStep_35 rfl ?_
      refine cv_bipush dX11_oneStep_36 (by decide) ?_
      refine cv_icmp_eq (tgt := 72) dX11_oneStep_38 (by decide) (by omega) (fun h38 => ?_) (fun h38 => ?_)
      · refine cv_iconst dX11_oneStep_72 ?_
        refine cv_zret rfl dX11_oneStep_73 ⟨Nat.le_refl _, Nat.le_refl _⟩ (by omega) (by rw [fStp_n hp ho2]; exact ⟨x, rfl, rfl⟩)
      · exact absurd rfl h38
    | some i =>
      have h3 := fOp_lt ho2
      have h5 := ho.2.2.2.2.1 i (by omega)
      have hm := mkO_ok (a := (i : Int)) (s := 1) (q := sLo S i) (by omega) (Or.inr rfl) (by omega)
      have i4 := ct_i_r (mkP T S (mkO i 1 (sLo S i)))
      refine cv_aload_n dX11_oneStep_24 rfl ?_
      refine cv_getf flX11_28 dX11_oneStep_25 rfl rfl ?_
      refine cv_getf flX11_115 dX11_oneStep_28 rfl rfl ?_
      refine cv_topS (c_X9_firstOpen T S hT ho) lkX9_firstOpen mlX11_288 dX11_oneStep_31 (by decide) rfl rfl (by decide) rfl (Nat.le_of_ble_eq_true rfl) ⟨Nat.le_refl _, Nat.le_refl _⟩ ?_
      intro v w1 hq
      obtain ⟨rfl, rfl⟩ := hq
      rw [ho2]
      refine ⟨_, _, rfl, ?_⟩
      refine cv_topi ((i : Nat) : Int) rfl ?_
      refine cv_istore_n dX11_oneStep_34 (by decide) rfl rfl ?_
      refine cv_iload_n dX11_oneStep_35 rfl ?_
      refine cv_bipush dX11_oneStep_36 (by decide) ?_
      refine cv_icmp_eq (tgt := 72) dX11_oneStep_38 (by decide) (by omega) (fun h38 => ?_) (fun h38 => ?_)
      · exact absurd h38 (by omega)
      · refine cv_aload_n dX11_oneStep_41 rfl ?_
        refine cv_getf flX11_28 dX11_oneStep_42 rfl rfl ?_
        refine cv_iload_n dX11_oneStep_45 rfl ?_
        refine cv_iconst dX11_oneStep_46 ?_
        refine cv_aload_n dX11_oneStep_47 rfl ?_
        refine cv_getf flX11_28 dX11_oneStep_48 rfl rfl ?_
        refine cv_getf flX11_115 dX11_oneStep_51 rfl rfl ?_
        refine cv_getf flX11_156 dX11_oneStep_54 rfl rfl ?_
        refine cv_iload_n dX11_oneStep_57 rfl ?_
        refine cv_ialj (i) dX11_oneStep_58 rfl (by omega) (by omega) ?_
        refine cv_sameS (c_X11_markOf (wTop T S n P A V x y c k sd) i 1 (sLo S i)) lkX11_markOf mlX11_216 dX11_oneStep_59 (by decide) rfl rfl (Nat.le_of_ble_eq_true rfl) ⟨Nat.le_refl _, Nat.le_refl _⟩ ?_
        intro v w1 hq
        obtain ⟨rfl, rfl⟩ := hq
        refine cv_topi (mkO i 1 (sLo S i)) rfl ?_
        refine cv_topS (c_X5_made T S hT hg (mkO i 1 (sLo S i)) hm) lkX5_made mlX11_227 dX11_oneStep_62 (by decide) rfl rfl (by decide) rfl (Nat.le_of_ble_eq_true rfl) ⟨Nat.le_refl _, Nat.le_refl _⟩ ?_
        intro v w1 hq
        obtain ⟨rfl, rfl⟩ := hq
        refine ⟨_, _, rfl, ?_⟩
        refine cv_if_eq (tgt := 72) dX11_oneStep_65 (by decide) (by omega) (fun h65 => ?_) (fun h65 => ?_)
        · refine cv_iconst dX11_oneStep_72 ?_
          refine cv_zret rfl dX11_oneStep_73 ⟨Nat.le_refl _, Nat.le_refl _⟩ (by omega) (by rw [fStp_s hp ho2]; exact ⟨x, ct_rI (show _ = ct_i (mkP T S (mkO i 1 (sLo S i))) by omega), rfl⟩)
        · refine cv_iconst dX11_oneStep_68 ?_
          refine cv_goto (tgt := 73) dX11_oneStep_69 (by decide) ?_
          refine cv_zret rfl dX11_oneStep_73 ⟨Nat.le_refl _, Nat.le_refl _⟩ (by omega) (by rw [fStp_s hp ho2]; exact ⟨x, ct_rI (show _ = ct_i (mkP T S (mkO i 1 (sLo S i))) by omega), rfl⟩)
  refine cv_aload_n dX11_oneStep_0 rfl ?_
  refine cv_getf flX11_28 dX11_oneStep_1 rfl rfl ?_
  refine cv_topS (c_X5_canLearn T S hT ho) lkX5_canLearn mlX11_230 dX11_oneStep_4 (by decide) rfl rfl (by decide) rfl (Nat.le_of_ble_eq_true rfl) ⟨Nat.le_refl _, Nat.le_refl _⟩ ?_
  intro v w1 hq
  obtain ⟨rfl, rfl⟩ := hq
  refine ⟨_, _, rfl, ?_⟩
  refine cv_if_eq (tgt := 24) dX11_oneStep_7 (by decide) (by omega) (fun h7 => ?_) (fun h7 => ?_)
  · exact l24 (ct_i_0.mp (by omega))
  · have hp := ct_i_1.mp (show ct_i (lnP T S) = 1 by omega)
    have hl := (hI.2 S hS).2.2.1 hp
    refine cv_aload_n dX11_oneStep_10 rfl ?_
    refine cv_getf flX11_38 dX11_oneStep_11 rfl rfl ?_
    refine cv_aload_n dX11_oneStep_14 rfl ?_
    refine cv_getf flX11_28 dX11_oneStep_15 rfl rfl ?_
    refine cv_topR (c_X8_learnt T S x.1 x.2.1 hT hg hl.1 hl.2.1 hl.2.2.1 hl.2.2.2.1 hl.2.2.2.2.1) lkX8_learnt mlX11_233 dX11_oneStep_18 (by decide) rfl rfl (by decide) rfl (Nat.le_of_ble_eq_true rfl) ⟨Nat.le_refl _, Nat.le_refl _⟩ ?_
    intro v w1 hq
    obtain ⟨F1, G1, rfl, rfl⟩ := hq
    refine ⟨_, _, F1, G1, rfl, ?_⟩
    refine cv_pop dX11_oneStep_21 rfl ?_
    refine cv_iconst dX11_oneStep_22 ?_
    refine cv_zret rfl dX11_oneStep_23 ⟨Nat.le_refl _, Nat.le_refl _⟩ (by omega) (by rw [fStp_l hp]; exact ⟨_, rfl, rfl⟩)
set_option maxRecDepth 100000 in
set_option maxHeartbeats 1000000 in
theorem c_X11_run (T : ctT) (S : ctS) (n : Nat) (P : Nat → Nat) (A : Nat → ctS) (V : ctS) (x : ctX) (y : ctY) (c : ctW) (k : ctK) (sd : Int) (a : Int) (ar : -2147483648 ≤ a ∧ a ≤ 2147483647) (I : ctS → Prop) (hI : goodI T I) (hS : I S) (hn : n ≤ 14) (hP : ∀ i, i < 14 → P i < 14) : CM MX11_run (7, 0, 0) [vR 165, vI a] (wTop T S n P A V x y c k sd) (fun v w => (1 ≤ a ∧ a ≤ 50 → ∃ x1, v = some (vI ((fRun T a.toNat S).1 : Nat)) ∧ w = wTop T (fRun T a.toNat S).2 (fAi n + 1) (fAp n P) (gRm S n P A) V x1 y c k sd) ∧ (a < 1 ∨ 50 < a → v = some (vI (-2)) ∧ w = wTop T S n P A V x y c k sd)) := by
  refine CM.of (by decide) (Nat.le_of_ble_eq_true rfl) ?_
  show CV MX11_run (7, 0, 0) 209 (0, 0) 0 [(0, vR 165), (1, vI a)] [] (wTop T S n P A V x y c k sd) _
  have hT := hI.1
  have hg := (hI.2 S hS).1
  have ho := hg.1
  have hw := goodI_w hI hS
  have l11 : (a < 1 ∨ 50 < a) → CV MX11_run (7, 0, 0) 209 (0, 0) 11 [(0, vR 165), (1, vI a)] [] (wTop T S n P A V x y c k sd) (fun v w => (1 ≤ a ∧ a ≤ 50 → ∃ x1, v = some (vI ((fRun T a.toNat S).1 : Nat)) ∧ w = wTop T (fRun T a.toNat S).2 (fAi n + 1) (fAp n P) (gRm S n P A) V x1 y c k sd) ∧ (a < 1 ∨ 50 < a → v = some (vI (-2)) ∧ w = wTop T S n P A V x y c k sd)) := by
    intro  ha
    refine cv_bipush dX11_run_11 (by decide) ?_
    refine cv_iret rfl dX11_run_13 ⟨Nat.le_refl _, Nat.le_refl _⟩ ⟨fun h => absurd h (by omega), fun _ => ⟨rfl, rfl⟩⟩
  have loop : ∀ (j : Nat) (i : Nat) (S1 : ctS) (x1 : ctX), (1 ≤ a ∧ a ≤ 50) → ((i + j : Nat) : Int) = a → I S1 → (i + (fRun T j S1).1 = (fRun T a.toNat S).1 ∧ (fRun T j S1).2 = (fRun T a.toNat S).2) → CV MX11_run (7, 0, 0) 209 (0, 0) 27 [(0, vR 165), (1, vI a), (2, vI i)] [] (wTop T S1 (fAi n + 1) (fAp n P) (gRm S n P A) V x1 y c k sd) (fun v w => (1 ≤ a ∧ a ≤ 50 → ∃ x1, v = some (vI ((fRun T a.toNat S).1 : Nat)) ∧ w = wTop T (fRun T a.toNat S).2 (fAi n + 1) (fAp n P) (gRm S n P A) V x1 y c k sd) ∧ (a < 1 ∨ 50 < a → v = some (vI (-2)) ∧ w = wTop T S n P A V x y c k sd)) := by
    intro j
    induction j with
    | zero =>
      intro i S1 x1 ha hj hS1 hr
      refine cv_iload_n dX11_run_27 rfl ?_
      refine cv_iload_n dX11_run_28 rfl ?_
      refine cv_icmp_ge (tgt := 45) dX11_run_29 (by decide) (by omega) (fun h29 => ?_) (fun h29 => ?_)
      · refine cv_iload_n dX11_run_45 rfl ?_
        refine cv_iret rfl dX11_run_46 ⟨Nat.le_refl _, Nat.le_refl _⟩ ⟨fun _ => ⟨x1, ct_rI (by rw [← hr.1]; rfl), by rw [← hr.2]; rfl⟩, fun h => absurd h (by omega)⟩
      · exact absurd h29 (by omega)
    | succ j ih =>
      intro i S1 x1 ha hj hS1 hr
      have hz := fStp_r (T := T) (S := S1)
      refine cv_iload_n dX11_run_27 rfl ?_
      refine cv_iload_n dX11_run_28 rfl ?_
      refine cv_icmp_ge (tgt := 45) dX11_run_29 (by decide) (by omega) (fun h29 => ?_) (fun h29 => ?_)
      · exact absurd h29 (by omega)
      · refine cv_aload_n dX11_run_32 rfl ?_
        refine cv_sameV (c_X11_oneStep T S1 (fAi n + 1) (fAp n P) (gRm S n P A) V x1 y c k sd I hI hS1) lkX11_oneStep mlX11_240 dX11_run_33 (by decide) rfl rfl (by decide) rfl (Nat.le_of_ble_eq_true rfl) ⟨Nat.le_refl _, Nat.le_refl _⟩ ?_
        intro v w1 hq
        obtain ⟨x2, rfl, rfl⟩ := hq
        refine cv_if_eq (tgt := 45) dX11_run_36 (by decide) (by omega) (fun h36 => ?_) (fun h36 => ?_)
        · have e0 : fRun T (j + 1) S1 = (0, (fStp T S1).2) := if_pos h36
          rw [e0] at hr
          refine cv_iload_n dX11_run_45 rfl ?_
          refine cv_iret rfl dX11_run_46 ⟨Nat.le_refl _, Nat.le_refl _⟩ ⟨fun _ => ⟨x2, ct_rI (by rw [← hr.1]; rfl), by rw [← hr.2]⟩, fun h => absurd h (by omega)⟩
        · have e0 : fRun T (j + 1) S1 = ((fRun T j (fStp T S1).2).1 + 1, (fRun T j (fStp T S1).2).2) := if_neg h36
          rw [e0] at hr
          refine cv_iinc dX11_run_39 (by decide) rfl rfl rfl ?_
          refine cv_goto (tgt := 27) dX11_run_42 (by decide) ?_
          exact ih (i + 1) (fStp T S1).2 x2 ha (by omega) (fStp_I hI hS1) ⟨by have := hr.1; omega, hr.2⟩
  refine cv_iload_n dX11_run_0 rfl ?_
  refine cv_iconst dX11_run_1 ?_
  refine cv_icmp_lt (tgt := 11) dX11_run_2 (by decide) (by omega) (fun h2 => ?_) (fun h2 => ?_)
  · exact l11 (by omega)
  · refine cv_iload_n dX11_run_5 rfl ?_
    refine cv_bipush dX11_run_6 (by decide) ?_
    refine cv_icmp_le (tgt := 14) dX11_run_8 (by decide) (by omega) (fun h8 => ?_) (fun h8 => ?_)
    · refine cv_aload_n dX11_run_14 rfl ?_
      refine cv_getf flX11_45 dX11_run_15 rfl rfl ?_
      refine cv_aload_n dX11_run_18 rfl ?_
      refine cv_getf flX11_28 dX11_run_19 rfl rfl ?_
      refine cv_topA (c_X0_remember T S n P A hP hn hw.1 hw.2.1 hw.2.2) lkX0_remember mlX11_223 dX11_run_22 (by decide) rfl rfl (by decide) rfl (Nat.le_of_ble_eq_true rfl) ⟨Nat.le_refl _, Nat.le_refl _⟩ ?_
      intro v w1 hq
      obtain ⟨rfl, rfl⟩ := hq
      refine ⟨_, _, _, _, _, rfl, ?_⟩
      refine cv_iconst dX11_run_25 ?_
      refine cv_istore_n dX11_run_26 (by decide) rfl rfl ?_
      exact loop a.toNat 0 S x (by omega) (by omega) hS ⟨by omega, rfl⟩
    · exact l11 (by omega)
