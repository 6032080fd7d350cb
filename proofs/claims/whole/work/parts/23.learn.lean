/-- the same in the eight rows -/
def eq8 (F F' : Nat → Int) : Prop := ∀ r, r < 8 → F r = F' r
theorem gB_c {F F' : Nat → Int} (h : eq8 F F') (e : Int) : ∀ i, i ≤ 8 → gB F e i = gB F' e i
  | 0, _ => rfl
  | i + 1, hi => by
    unfold gB
    rw [gB_c h e i (by omega), h i (by omega)]
theorem fGB_c {F F' : Nat → Int} (h : eq8 F F') (e : Int) : fGB F e = fGB F' e := gB_c h e 8 (by omega)
theorem eq8_up {F F' : Nat → Int} {k : Nat} {v : Int} (h : eq8 F F') : eq8 (ct_up F k v) (ct_up F' k v) := by
  intro r hr
  unfold ct_up
  split
  · rfl
  · exact h r hr
theorem fTk_c {S : ctS} {F F' G G' : Nat → Int} (h : eq8 F F') (h2 : eq8 G G') : eq8 (fTk S F G 8) (fTk S F' G' 8) := by
  intro r hr
  rw [fTk_at, fTk_at, h r hr, h2 r hr]
theorem fWr_c {T : ctT} {S : ctS} {r e : Nat} {o : Int} {G G' : Nat → Int} (h : eq8 G G') : ∀ x, eq8 (fWr T S G r e o x) (fWr T S G' r e o x)
  | 0 => h
  | x + 1 => by
    unfold fWr
    split
    · exact eq8_up (fWr_c h x)
    · exact fWr_c h x
theorem fWc_c {S : ctS} {c e : Nat} {m : Int} {G G' : Nat → Int} (h : eq8 G G') : ∀ k, eq8 (fWc S G c e m k) (fWc S G' c e m k)
  | 0 => h
  | k + 1 => by
    unfold fWc
    split
    · exact eq8_up (fWc_c h k)
    · exact fWc_c h k
theorem fI_c (G G' : Nat → Int) : eq8 (fI G 8) (fI G' 8) := by
  intro r hr
  rw [fI_at, fI_at, if_pos hr, if_pos hr]
theorem fWhy_c {T : ctT} {S : ctS} {q : Int} {e : Nat} {m : Int} (G G' : Nat → Int) : eq8 (fWhy T S G q e m) (fWhy T S G' q e m) := by
  unfold fWhy
  split
  · exact fWr_c (fI_c G G') _
  · split
    · exact fWc_c (fI_c G G') _
    · exact fI_c G G'
theorem tlP_c {S : ctS} {F F' : Nat → Int} (h : eq8 F F') : tlP S F ↔ tlP S F' := by
  unfold tlP
  rw [fGB_c h 36, fGB_c h (fGB F' 36)]
theorem fT1_t {T : ctT} {S : ctS} {p : (Nat → Int) × (Nat → Int)} (h : tlP S p.1) : fT1 T S p = (fTF T S p.1 p.2, fTG T S p.1 p.2) := if_pos h
theorem fT1_c {T : ctT} {S : ctS} {p p' : (Nat → Int) × (Nat → Int)} (h : eq8 p.1 p'.1) (ht : tlP S p.1) : eq8 (fT1 T S p).1 (fT1 T S p').1 := by
  rw [fT1_t ht, fT1_t ((tlP_c h).mp ht)]
  unfold fTF fTG
  rw [fGB_c h 36]
  exact fTk_c (eq8_up h) (fWhy_c _ _)
noncomputable def trI (T : ctT) (S : ctS) : Nat → (Nat → Int) × (Nat → Int) → (Nat → Int) × (Nat → Int)
  | 0, p => p
  | k + 1, p => @ite _ (tlP S p.1) (Classical.propDecidable _) (trI T S k (fT1 T S p)) p
theorem trI_t {T : ctT} {S : ctS} {k : Nat} {p : (Nat → Int) × (Nat → Int)} (h : tlP S p.1) : trI T S (k + 1) p = trI T S k (fT1 T S p) := if_pos h
theorem trI_f {T : ctT} {S : ctS} {k : Nat} {p : (Nat → Int) × (Nat → Int)} (h : ¬ tlP S p.1) : trI T S k p = p := by
  cases k with
  | zero => rfl
  | succ k => exact if_neg h
theorem trI_c {T : ctT} {S : ctS} : ∀ (k : Nat) {p p' : (Nat → Int) × (Nat → Int)}, eq8 p.1 p'.1 → eq8 (trI T S k p).1 (trI T S k p').1
  | 0, _, _, h => h
  | k + 1, p, p', h => by
    by_cases ht : tlP S p.1
    · rw [trI_t ht, trI_t ((tlP_c h).mp ht)]
      exact trI_c k (fT1_c h ht)
    · rw [trI_f ht, trI_f (fun h2 => ht ((tlP_c h).mpr h2))]
      exact h
theorem trI_pl {T : ctT} {S : ctS} : ∀ (k : Nat) {p : (Nat → Int) × (Nat → Int)}, pl8 (sZ S) p.1 → pl8 (sZ S) (trI T S k p).1
  | 0, _, h => h
  | k + 1, p, h => by
    by_cases ht : tlP S p.1
    · rw [trI_t ht]
      refine trI_pl k ?_
      rw [fT1_t ht]
      exact fTk_pl (pl8_up h (by omega)) (fWhy_pl _ (Nat.min_le_right _ _)) 8
    · rw [trI_f ht]; exact h
noncomputable def fP0 (T : ctT) (S : ctS) (F G : Nat → Int) : (Nat → Int) × (Nat → Int) := (fTk S (fI F 8) (fWhy T S G (fBk T S) (sZ S) (-9)) 8, fWhy T S G (fBk T S) (sZ S) (-9))
theorem fP0_pl (T : ctT) (S : ctS) (F G : Nat → Int) : pl8 (sZ S) (fP0 T S F G).1 := fTk_pl (fI_pl F _) (fWhy_pl _ (Nat.min_le_right _ _)) 8
/-- the set at its end -/
noncomputable def fE (T : ctT) (S : ctS) : Nat → Int := (trI T S 36 (fP0 T S (fun _ => -1) (fun _ => -1))).1
theorem fE_c (T : ctT) (S : ctS) (F G : Nat → Int) : eq8 (trI T S 36 (fP0 T S F G)).1 (fE T S) := trI_c 36 (fTk_c (fI_c _ _) (fWhy_c _ _))
theorem fAdd_c {T : ctT} {S : ctS} {F F' : Nat → Int} (hT : okT T) (hM : ∀ i, i < sZ S → okM T (sM S i)) (h : eq8 F F') : ∀ i, i ≤ sZ S → fAdd S F i = fAdd S F' i ∧ fCn S F i = fCn S F' i
  | 0, _ => ⟨rfl, rfl⟩
  | i + 1, hi => by
    obtain ⟨h1, h2⟩ := fAdd_c hT hM h i (by omega)
    have h3 := fRow_r hT (hM i (by omega))
    unfold fAdd fCn
    rw [h1, h2, h _ (by omega)]
    exact ⟨rfl, rfl⟩
noncomputable def fL2 (T : ctT) (S : ctS) : ctS := fAdd (fAE (fF40 S)) (fE T S) (sZ S)
noncomputable def fLl (T : ctT) (S : ctS) : Int := if fGB (fE T S) (fGB (fE T S) 36) = -1 then 0 else sL S (fGB (fE T S) (fGB (fE T S) 36)).toNat
noncomputable def fLn (T : ctT) (S : ctS) : ctS := if fGB (fE T S) 36 = -1 then uH S 1 else fDraw T (fUp T (fL2 T S) (fLl T S))
noncomputable def fLz (T : ctT) (S : ctS) : Int := if fGB (fE T S) 36 = -1 then 0 else fCn (fAE (fF40 S)) (fE T S) (sZ S)
set_option maxRecDepth 100000 in
set_option maxHeartbeats 1000000 in
theorem c_X8_learnt (T : ctT) (S : ctS) (F G : Nat → Int) (hT : okT T) (hG : gS T S) (h1 : sC (fF40 S) < 40) (h2 : sZ (fF40 S) = sZ S) (h3 : sM (fF40 S) = sM S) (hA : okS T (fL2 T S)) (hU : gS T (fUp T (fL2 T S) (fLl T S))) : CM MX8_learnt (5, 0, 0) [vR 20, vR 0] (wR T S F G) (fun v w => ∃ F1 G1, v = some (vI (fLz T S)) ∧ w = wR T (fLn T S) F1 G1) := by
  refine CM.of (by decide) (Nat.le_of_ble_eq_true rfl) ?_
  show CV MX8_learnt (5, 0, 0) 23 (0, 0) 0 [(0, vR 20), (1, vR 0)] [] (wR T S F G) _
  have hS := hG.1
  have hZ := hS.1
  have hb := fBk_r hT hS
  have hpE := trI_pl (T := T) 36 (fP0_pl T S F G)
  have hcE := fE_c T S F G
  have fin : ∀ (x y : Int) (p : (Nat → Int) × (Nat → Int)), (p = trI T S 36 (fP0 T S F G)) → CV MX8_learnt (5, 0, 0) 23 (0, 0) 72 [(0, vR 20), (1, vR 0), (2, vI x)] [] (wR T S p.1 p.2) (fun v w => ∃ F1 G1, v = some (vI (fLz T S)) ∧ w = wR T (fLn T S) F1 G1) := by
    intro x y p hp
    rw [← hp] at hpE hcE
    have g1 := gB_r hpE 36 8 (by omega)
    have g2 := gB_r hpE (fGB p.1 36) 8 (by omega)
    have g3 : gB p.1 36 8 = fGB (fE T S) 36 := fGB_c hcE 36
    have g4 : gB p.1 (fGB p.1 36) 8 = fGB (fE T S) (fGB (fE T S) 36) := by
      have := fGB_c hcE (fGB p.1 36)
      rw [fGB_c hcE 36] at this
      rw [show fGB p.1 36 = fGB (fE T S) 36 from fGB_c hcE 36]
      exact this
    rw [g3] at g1
    rw [g4] at g2
    have e36 : fGB p.1 36 = fGB (fE T S) 36 := g3
    have eot : fGB p.1 (fGB (fE T S) 36) = fGB (fE T S) (fGB (fE T S) 36) := by rw [← e36] at g4 ⊢; exact g4
    obtain ⟨c1, c2⟩ := fAdd_c (S := fAE (fF40 S)) hT (fun i hi => by rw [show sM (fAE (fF40 S)) = sM S from h3]; exact hS.2.1 i (by rw [← h2]; exact hi)) hcE (sZ S) (by rw [show sZ (fAE (fF40 S)) = sZ S from h2]; exact Nat.le_refl _)
    have hll : -2147483648 ≤ fLl T S ∧ fLl T S ≤ 2147483647 := by
      unfold fLl
      split
      · omega
      · have v1 := hS.2.2.1 (fGB (fE T S) (fGB (fE T S) 36)).toNat (by omega)
        omega
    have end_ : ∀ (o : Int), ¬ fGB (fE T S) 36 = -1 → fAdd (fAE (fF40 S)) p.1 (sZ S) = fL2 T S → fCn (fAE (fF40 S)) p.1 (sZ S) = fCn (fAE (fF40 S)) (fE T S) (sZ S) → CV MX8_learnt (5, 0, 0) 23 (0, 0) 117 [(0, vR 20), (1, vR 0), (2, vI (fGB (fE T S) 36)), (3, vI o), (4, vI (fLl T S))] [] (wR T S p.1 p.2) (fun v w => ∃ F1 G1, v = some (vI (fLz T S)) ∧ w = wR T (fLn T S) F1 G1) := by
      intro o h81 c1 c2
      refine cv_aload_n dX8_learnt_117 rfl ?_
      refine cv_aload_n dX8_learnt_118 rfl ?_
      refine cv_sameV (c_X8_addCut T S p.1 p.2 hT hS (fun r hr => by have := hpE r hr; omega) h1 h2 h3) lkX8_addCut mlX8_63 dX8_learnt_119 (by decide) rfl rfl (by decide) rfl (Nat.le_of_ble_eq_true rfl) ⟨Nat.le_refl _, Nat.le_refl _⟩ ?_
      intro v w1 hq
      obtain ⟨rfl, rfl⟩ := hq
      rw [c1, c2]
      refine cv_istore dX8_learnt_122 (by decide) rfl rfl ?_
      refine cv_aload_n dX8_learnt_124 rfl ?_
      refine cv_getf flX8_18 dX8_learnt_125 rfl rfl ?_
      refine cv_iload dX8_learnt_128 rfl ?_
      refine cv_preV (c_X9_cutAbove T (fL2 T S) hT hA (fLl T S) hll) lkX9_cutAbove mlX8_67 dX8_learnt_130 (by decide) rfl rfl (by decide) rfl (Nat.le_of_ble_eq_true rfl) ⟨Nat.le_refl _, Nat.le_refl _⟩ (fun v w1 h => (congrArg List.length h.2).trans (wS_ll _ _ _)) ?_
      intro v w1 hq
      obtain ⟨rfl, rfl⟩ := hq
      refine cv_aload_n dX8_learnt_133 rfl ?_
      refine cv_preV (c_X5_drawIn T _ hT hU) lkX5_drawIn mlX8_71 dX8_learnt_134 (by decide) rfl rfl (by decide) rfl (Nat.le_of_ble_eq_true rfl) ⟨Nat.le_refl _, Nat.le_refl _⟩ (fun v w1 h => (congrArg List.length h.2).trans (wS_ll _ _ _)) ?_
      intro v w1 hq
      obtain ⟨rfl, rfl⟩ := hq
      refine cv_iload dX8_learnt_137 rfl ?_
      refine cv_iret rfl dX8_learnt_139 ⟨Nat.le_refl _, Nat.le_refl _⟩ ⟨p.1, p.2, ct_rI (by unfold fLz; rw [if_neg h81]), by unfold fLn; rw [if_neg h81]⟩
    refine cv_aload_n dX8_learnt_72 rfl ?_
    refine cv_bipush dX8_learnt_73 (by decide) ?_
    refine cv_sameV (c_X8_greatestBelow T S p.1 p.2 (sZ S) hZ hpE 36 (by omega)) lkX8_greatestBelow mlX8_52 dX8_learnt_75 (by decide) rfl rfl (by decide) rfl (Nat.le_of_ble_eq_true rfl) ⟨Nat.le_refl _, Nat.le_refl _⟩ ?_
    intro v w1 hq
    obtain ⟨rfl, rfl⟩ := hq
    rw [e36]
    refine cv_istore_n dX8_learnt_78 (by decide) rfl rfl ?_
    refine cv_iload_n dX8_learnt_79 rfl ?_
    refine cv_iconst dX8_learnt_80 ?_
    refine cv_icmp_ne (tgt := 91) dX8_learnt_81 (by decide) (by omega) (fun h81 => ?_) (fun h81 => ?_)
    · refine cv_aload_n dX8_learnt_91 rfl ?_
      refine cv_iload_n dX8_learnt_92 rfl ?_
      refine cv_sameV (c_X8_greatestBelow T S p.1 p.2 (sZ S) hZ hpE (fGB (fE T S) 36) (by omega)) lkX8_greatestBelow mlX8_52 dX8_learnt_93 (by decide) rfl rfl (by decide) rfl (Nat.le_of_ble_eq_true rfl) ⟨Nat.le_refl _, Nat.le_refl _⟩ ?_
      intro v w1 hq
      obtain ⟨rfl, rfl⟩ := hq
      rw [eot]
      refine cv_istore_n dX8_learnt_96 (by decide) rfl rfl ?_
      refine cv_iload_n dX8_learnt_97 rfl ?_
      refine cv_iconst dX8_learnt_98 ?_
      refine cv_icmp_ne (tgt := 106) dX8_learnt_99 (by decide) (by omega) (fun h99 => ?_) (fun h99 => ?_)
      · have v1 := hS.2.2.1 (fGB (fE T S) (fGB (fE T S) 36)).toNat (by omega)
        refine cv_aload_n dX8_learnt_106 rfl ?_
        refine cv_getf flX8_18 dX8_learnt_107 rfl rfl ?_
        refine cv_getf flX8_60 dX8_learnt_110 rfl rfl ?_
        refine cv_iload_n dX8_learnt_113 rfl ?_
        refine cv_ialj ((fGB (fE T S) (fGB (fE T S) 36)).toNat) dX8_learnt_114 rfl (by omega) (by omega) ?_
        refine cv_topi (fLl T S) (by unfold fLl; rw [if_neg h99]) ?_
        refine cv_istore dX8_learnt_115 (by decide) rfl rfl ?_
        exact end_ _ h81 c1 c2
      · refine cv_iconst dX8_learnt_102 ?_
        refine cv_goto (tgt := 115) dX8_learnt_103 (by decide) ?_
        refine cv_topi (fLl T S) (by unfold fLl; rw [if_pos h99]) ?_
        refine cv_istore dX8_learnt_115 (by decide) rfl rfl ?_
        exact end_ _ h81 c1 c2
    · refine cv_aload_n dX8_learnt_84 rfl ?_
      refine cv_iconst dX8_learnt_85 ?_
      refine cv_putf fpX8_56 dX8_learnt_86 rfl (Nat.le_of_ble_eq_true rfl) (fun _ => ⟨rfl, rfl⟩) ?_
      refine cv_iconst dX8_learnt_89 ?_
      refine cv_iret rfl dX8_learnt_90 ⟨Nat.le_refl _, Nat.le_refl _⟩ ⟨p.1, p.2, ct_rI (by unfold fLz; rw [if_pos h81]), by unfold fLn; rw [if_pos h81]; rfl⟩
  have loop2 : ∀ (k : Nat) (i : Nat) (p : (Nat → Int) × (Nat → Int)), (i + k = 37) → (i ≤ 36) → (trI T S (36 - i) p = trI T S 36 (fP0 T S F G)) → (pl8 (sZ S) p.1) → CV MX8_learnt (5, 0, 0) 23 (0, 0) 49 [(0, vR 20), (1, vR 0), (2, vI i)] [] (wR T S p.1 p.2) (fun v w => ∃ F1 G1, v = some (vI (fLz T S)) ∧ w = wR T (fLn T S) F1 G1) := by
    intro k
    induction k with
    | zero => intro i p hk hi hp hl; exact absurd hk (by omega)
    | succ k ih =>
      intro i p hk hi hp hl
      have r0 := ct_i_r (tlP S p.1)
      refine cv_iload_n dX8_learnt_49 rfl ?_
      refine cv_bipush dX8_learnt_50 (by decide) ?_
      refine cv_icmp_ge (tgt := 72) dX8_learnt_52 (by decide) (by omega) (fun h52 => ?_) (fun h52 => ?_)
      · exact fin _ 0 p (by rw [← hp, show 36 - i = 0 by omega]; rfl)
      · refine cv_aload_n dX8_learnt_55 rfl ?_
        refine cv_aload_n dX8_learnt_56 rfl ?_
        refine cv_sameV (c_X8_traceLast T S p.1 p.2 hT hS hl) lkX8_traceLast mlX8_48 dX8_learnt_57 (by decide) rfl rfl (by decide) rfl (Nat.le_of_ble_eq_true rfl) ⟨Nat.le_refl _, Nat.le_refl _⟩ ?_
        intro v w1 hq
        obtain ⟨rfl, rfl⟩ := hq
        refine cv_if_ne (tgt := 66) dX8_learnt_60 (by decide) (by omega) (fun h60 => ?_) (fun h60 => ?_)
        · refine cv_iinc dX8_learnt_66 (by decide) rfl rfl rfl ?_
          refine cv_goto (tgt := 49) dX8_learnt_69 (by decide) ?_
          have ht : tlP S p.1 := ct_i_1.mp (by omega)
          refine ih (i + 1) (fT1 T S p) (by omega) (by omega) ?_ ?_
          · rw [← hp, show 36 - i = (36 - (i + 1)) + 1 by omega, trI_t ht]
          · rw [fT1_t ht]
            exact fTk_pl (pl8_up hl (by omega)) (fWhy_pl _ (Nat.min_le_right _ _)) 8
        · refine cv_goto (tgt := 72) dX8_learnt_63 (by decide) ?_
          have hn : ¬ tlP S p.1 := ct_i_0.mp h60
          rw [show fT1 T S (p.1, p.2) = p from if_neg hn]
          exact fin _ 0 p (by rw [← hp, trI_f hn])
  have loop1 : ∀ (k : Nat) (i : Nat), (8 < i + k) → (i ≤ 8) → CV MX8_learnt (5, 0, 0) 23 (0, 0) 2 [(0, vR 20), (1, vR 0), (2, vI i)] [] (wR T S (fI F i) G) (fun v w => ∃ F1 G1, v = some (vI (fLz T S)) ∧ w = wR T (fLn T S) F1 G1) := by
    intro k
    induction k with
    | zero => intro i hk hi; exact absurd hk (by omega)
    | succ k ih =>
      intro i hk hi
      refine cv_iload_n dX8_learnt_2 rfl ?_
      refine cv_bipush dX8_learnt_3 (by decide) ?_
      refine cv_icmp_ge (tgt := 21) dX8_learnt_5 (by decide) (by omega) (fun h5 => ?_) (fun h5 => ?_)
      · have e8 : i = 8 := by omega
        subst e8
        refine cv_aload_n dX8_learnt_21 rfl ?_
        refine cv_aload_n dX8_learnt_22 rfl ?_
        refine cv_aload_n dX8_learnt_23 rfl ?_
        refine cv_preV (c_X5_theBreak T S hT hS) lkX5_theBreak mlX8_36 dX8_learnt_24 (by decide) rfl rfl (by decide) rfl (Nat.le_of_ble_eq_true rfl) ⟨Nat.le_refl _, Nat.le_refl _⟩ (fun v w1 h => (congrArg List.length h.2).trans (wS_ll _ _ _)) ?_
        intro v w1 hq
        obtain ⟨rfl, rfl⟩ := hq
        refine cv_aload_n dX8_learnt_27 rfl ?_
        refine cv_getf flX8_18 dX8_learnt_28 rfl rfl ?_
        refine cv_getf flX8_40 dX8_learnt_31 rfl rfl ?_
        refine cv_bipush dX8_learnt_34 (by decide) ?_
        refine cv_sameV (c_X8_lookUpWhy T S (fI F 8) G hT hS (fBk T S) (by omega) (sZ S) hZ (-9) (Or.inl rfl)) lkX8_lookUpWhy mlX8_32 dX8_learnt_36 (by decide) rfl rfl (by decide) rfl (Nat.le_of_ble_eq_true rfl) ⟨Nat.le_refl _, Nat.le_refl _⟩ ?_
        intro v w1 hq
        obtain ⟨rfl, rfl⟩ := hq
        refine cv_aload_n dX8_learnt_39 rfl ?_
        refine cv_aload_n dX8_learnt_40 rfl ?_
        refine cv_getf flX8_18 dX8_learnt_41 rfl rfl ?_
        refine cv_sameV (c_X8_takeWhyIn T S (fI F 8) (fWhy T S G (fBk T S) (sZ S) (-9)) (sZ S) (Nat.le_refl _) hS (fI_pl F _) (fWhy_pl G (Nat.min_le_right _ _))) lkX8_takeWhyIn mlX8_44 dX8_learnt_44 (by decide) rfl rfl (by decide) rfl (Nat.le_of_ble_eq_true rfl) ⟨Nat.le_refl _, Nat.le_refl _⟩ ?_
        intro v w1 hq
        obtain ⟨rfl, rfl⟩ := hq
        refine cv_iconst dX8_learnt_47 ?_
        refine cv_istore_n dX8_learnt_48 (by decide) rfl rfl ?_
        exact loop2 37 0 (fP0 T S F G) (by omega) (by omega) rfl (fP0_pl T S F G)
      · refine cv_aload_n dX8_learnt_8 rfl ?_
        refine cv_getf flX8_9 dX8_learnt_9 rfl rfl ?_
        refine cv_iload_n dX8_learnt_12 rfl ?_
        refine cv_iconst dX8_learnt_13 ?_
        refine cv_iasj (i) dX8_learnt_14 rfl (by omega) (by omega) ?_
        refine cv_iinc dX8_learnt_15 (by decide) rfl rfl rfl ?_
        refine cv_goto (tgt := 2) dX8_learnt_18 (by decide) ?_
        exact ih (i + 1) (by omega) (by omega)
  refine cv_iconst dX8_learnt_0 ?_
  refine cv_istore_n dX8_learnt_1 (by decide) rfl rfl ?_
  exact loop1 9 0 (by omega) (by omega)
