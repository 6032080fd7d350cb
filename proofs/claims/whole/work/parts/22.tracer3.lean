theorem gB_lt (F : Nat → Int) (e : Int) : ∀ i, gB F e i = -1 ∨ gB F e i < e
  | 0 => Or.inl rfl
  | i + 1 => by
    unfold gB
    split
    · rename_i h; exact Or.inr h.1
    · exact gB_lt F e i
/-- the last two of the set are of one level -/
def tlP (S : ctS) (F : Nat → Int) : Prop := ¬ fGB F (fGB F 36) = -1 ∧ sL S (fGB F (fGB F 36)).toNat = sL S (fGB F 36).toNat
noncomputable def fTG (T : ctT) (S : ctS) (F G : Nat → Int) : Nat → Int := fWhy T S G (sR S (fGB F 36).toNat) (fGB F 36).toNat (sM S (fGB F 36).toNat)
noncomputable def fTF (T : ctT) (S : ctS) (F G : Nat → Int) : Nat → Int := fTk S (ct_up F (fRow (sM S (fGB F 36).toNat)).toNat (-1)) (fTG T S F G) 8
noncomputable def fT1 (T : ctT) (S : ctS) (p : (Nat → Int) × (Nat → Int)) : (Nat → Int) × (Nat → Int) := @ite _ (tlP S p.1) (Classical.propDecidable _) (fTF T S p.1 p.2, fTG T S p.1 p.2) p
set_option maxRecDepth 100000 in
set_option maxHeartbeats 1000000 in
theorem c_X8_traceLast (T : ctT) (S : ctS) (F G : Nat → Int) (hT : okT T) (hS : okS T S) (hF : pl8 (sZ S) F) : CM MX8_traceLast (4, 0, 0) [vR 20, vR 0] (wR T S F G) (fun v w => v = some (vI (ct_i (tlP S F))) ∧ w = wR T S (fT1 T S (F, G)).1 (fT1 T S (F, G)).2) := by
  refine CM.of (by decide) (Nat.le_of_ble_eq_true rfl) ?_
  show CV MX8_traceLast (4, 0, 0) 23 (0, 0) 0 [(0, vR 20), (1, vR 0)] [] (wR T S F G) _
  have hZ := hS.1
  have hN := hT.2.1
  have l1 := gB_r hF 36 8 (by omega)
  have l2 := gB_r hF (fGB F 36) 8 (by omega)
  have l3 := gB_lt F (fGB F 36) 8
  have e1 : gB F 36 8 = fGB F 36 := rfl
  have e2 : gB F (fGB F 36) 8 = fGB F (fGB F 36) := rfl
  rw [e1] at l1
  rw [e2] at l2 l3
  refine cv_aload_n dX8_traceLast_0 rfl ?_
  refine cv_getf flX8_18 dX8_traceLast_1 rfl rfl ?_
  refine cv_astore_n dX8_traceLast_4 (by decide) rfl rfl ?_
  refine cv_aload_n dX8_traceLast_5 rfl ?_
  refine cv_bipush dX8_traceLast_6 (by decide) ?_
  refine cv_sameV (c_X8_greatestBelow T S F G (sZ S) hZ hF 36 (by omega)) lkX8_greatestBelow mlX8_52 dX8_traceLast_8 (by decide) rfl rfl (by decide) rfl (Nat.le_of_ble_eq_true rfl) ⟨Nat.le_refl _, Nat.le_refl _⟩ ?_
  intro v w1 hq
  obtain ⟨rfl, rfl⟩ := hq
  refine cv_istore_n dX8_traceLast_11 (by decide) rfl rfl ?_
  refine cv_aload_n dX8_traceLast_12 rfl ?_
  refine cv_iload_n dX8_traceLast_13 rfl ?_
  refine cv_sameV (c_X8_greatestBelow T S F G (sZ S) hZ hF (fGB F 36) (by omega)) lkX8_greatestBelow mlX8_52 dX8_traceLast_14 (by decide) rfl rfl (by decide) rfl (Nat.le_of_ble_eq_true rfl) ⟨Nat.le_refl _, Nat.le_refl _⟩ ?_
  intro v w1 hq
  obtain ⟨rfl, rfl⟩ := hq
  refine cv_istore dX8_traceLast_17 (by decide) rfl rfl ?_
  refine cv_iload dX8_traceLast_19 rfl ?_
  refine cv_iconst dX8_traceLast_21 ?_
  refine cv_icmp_eq (tgt := 41) dX8_traceLast_22 (by decide) (by omega) (fun h22 => ?_) (fun h22 => ?_)
  · refine cv_iconst dX8_traceLast_41 ?_
    refine cv_zret rfl dX8_traceLast_42 ⟨Nat.le_refl _, Nat.le_refl _⟩ (by omega) ⟨ct_rI (ct_i_f (fun h => h.1 h22)).symm, by rw [show fT1 T S (F, G) = (F, G) from if_neg (fun h => h.1 h22)]⟩
  · have v1 := hS.2.2.1 (fGB F (fGB F 36)).toNat (by omega)
    have v2 := hS.2.2.1 (fGB F 36).toNat (by omega)
    refine cv_aload_n dX8_traceLast_25 rfl ?_
    refine cv_getf flX8_60 dX8_traceLast_26 rfl rfl ?_
    refine cv_iload dX8_traceLast_29 rfl ?_
    refine cv_ialj ((fGB F (fGB F 36)).toNat) dX8_traceLast_31 rfl (by omega) (by omega) ?_
    refine cv_aload_n dX8_traceLast_32 rfl ?_
    refine cv_getf flX8_60 dX8_traceLast_33 rfl rfl ?_
    refine cv_iload_n dX8_traceLast_36 rfl ?_
    refine cv_ialj ((fGB F 36).toNat) dX8_traceLast_37 rfl (by omega) (by omega) ?_
    refine cv_icmp_eq (tgt := 43) dX8_traceLast_38 (by decide) (by omega) (fun h38 => ?_) (fun h38 => ?_)
    · have hP : tlP S F := ⟨h22, h38⟩
      have eF : fT1 T S (F, G) = (fTF T S F G, fTG T S F G) := if_pos hP
      have hok := hS.2.1 (fGB F 36).toNat (by omega)
      have hrw := fRow_r hT hok
      obtain ⟨m1, m2, m3⟩ := hok
      have hrs := hS.2.2.2.1 (fGB F 36).toNat (by omega)
      have e9 : fGB F 36 = (((fGB F 36).toNat : Nat) : Int) := by omega
      refine cv_aload_n dX8_traceLast_43 rfl ?_
      refine cv_getf flX8_9 dX8_traceLast_44 rfl rfl ?_
      refine cv_aload_n dX8_traceLast_47 rfl ?_
      refine cv_getf flX8_29 dX8_traceLast_48 rfl rfl ?_
      refine cv_iload_n dX8_traceLast_51 rfl ?_
      refine cv_ialj ((fGB F 36).toNat) dX8_traceLast_52 rfl (by omega) (by omega) ?_
      refine cv_sameSN (c_X11_sideRow (wR T S F G) (sM S (fGB F 36).toNat) (by omega)) lkX11_sideRow mnX8_74 dX8_traceLast_53 (by decide) rfl rfl (Nat.le_of_ble_eq_true rfl) ⟨Nat.le_refl _, Nat.le_refl _⟩ ?_
      intro v w1 hq
      obtain ⟨rfl, rfl⟩ := hq
      refine cv_iconst dX8_traceLast_56 ?_
      refine cv_iasj ((fRow (sM S (fGB F 36).toNat)).toNat) dX8_traceLast_57 rfl (by omega) (by omega) ?_
      refine cv_aload_n dX8_traceLast_58 rfl ?_
      refine cv_aload_n dX8_traceLast_59 rfl ?_
      refine cv_aload_n dX8_traceLast_60 rfl ?_
      refine cv_getf flX8_24 dX8_traceLast_61 rfl rfl ?_
      refine cv_iload_n dX8_traceLast_64 rfl ?_
      refine cv_ialj ((fGB F 36).toNat) dX8_traceLast_65 rfl (by omega) (by omega) ?_
      refine cv_iload_n dX8_traceLast_66 rfl ?_
      refine cv_aload_n dX8_traceLast_67 rfl ?_
      refine cv_getf flX8_29 dX8_traceLast_68 rfl rfl ?_
      refine cv_iload_n dX8_traceLast_71 rfl ?_
      refine cv_ialj ((fGB F 36).toNat) dX8_traceLast_72 rfl (by omega) (by omega) ?_
      rw [show (vI (fGB F 36) : ct_V) = vI (((fGB F 36).toNat : Nat) : Int) by rw [← e9]]
      refine cv_sameV (c_X8_lookUpWhy T S (ct_up F (fRow (sM S (fGB F 36).toNat)).toNat (-1)) G hT hS (sR S (fGB F 36).toNat) (by omega) (fGB F 36).toNat (by omega) (sM S (fGB F 36).toNat) (Or.inr (by omega))) lkX8_lookUpWhy mlX8_32 dX8_traceLast_73 (by decide) rfl rfl (by decide) rfl (Nat.le_of_ble_eq_true rfl) ⟨Nat.le_refl _, Nat.le_refl _⟩ ?_
      intro v w1 hq
      obtain ⟨rfl, rfl⟩ := hq
      refine cv_aload_n dX8_traceLast_76 rfl ?_
      refine cv_aload_n dX8_traceLast_77 rfl ?_
      refine cv_sameV (c_X8_takeWhyIn T S (ct_up F (fRow (sM S (fGB F 36).toNat)).toNat (-1)) (fTG T S F G) (sZ S) (Nat.le_refl _) hS (pl8_up hF (by omega)) (fWhy_pl G (by omega))) lkX8_takeWhyIn mlX8_44 dX8_traceLast_78 (by decide) rfl rfl (by decide) rfl (Nat.le_of_ble_eq_true rfl) ⟨Nat.le_refl _, Nat.le_refl _⟩ ?_
      intro v w1 hq
      obtain ⟨rfl, rfl⟩ := hq
      refine cv_iconst dX8_traceLast_81 ?_
      refine cv_zret rfl dX8_traceLast_82 ⟨Nat.le_refl _, Nat.le_refl _⟩ (by omega) ⟨ct_rI (ct_i_t hP).symm, by rw [eF]; rfl⟩
    · refine cv_iconst dX8_traceLast_41 ?_
      refine cv_zret rfl dX8_traceLast_42 ⟨Nat.le_refl _, Nat.le_refl _⟩ (by omega) ⟨ct_rI (ct_i_f (fun h => h38 h.2)).symm, by rw [show fT1 T S (F, G) = (F, G) from if_neg (fun h => h38 h.2)]⟩
/-- marks of the set, in their row, come to the last cut: the first i places; how many -/
def fAdd (S : ctS) (F : Nat → Int) : Nat → ctS
  | 0 => S
  | i + 1 => if F (fRow (sM S i)).toNat = (i : Int) then fPL (fAdd S F i) (sM S i) else fAdd S F i
def fCn (S : ctS) (F : Nat → Int) : Nat → Nat
  | 0 => 0
  | i + 1 => if F (fRow (sM S i)).toNat = (i : Int) then fCn S F i + 1 else fCn S F i
theorem fAdd_Z (S : ctS) (F : Nat → Int) : ∀ i, sZ (fAdd S F i) = sZ S ∧ sM (fAdd S F i) = sM S ∧ sC (fAdd S F i) = sC S
  | 0 => ⟨rfl, rfl, rfl⟩
  | i + 1 => by
    unfold fAdd
    split
    · exact fAdd_Z S F i
    · exact fAdd_Z S F i
def n8 (F : Nat → Int) (i : Nat) : Nat → Nat
  | 0 => 0
  | r + 1 => n8 F i r + (if 0 ≤ F r ∧ F r < (i : Int) then 1 else 0)
theorem n8_le (F : Nat → Int) (i : Nat) : ∀ r, n8 F i r ≤ r
  | 0 => Nat.le_refl _
  | r + 1 => by
    have := n8_le F i r
    unfold n8
    split <;> omega
theorem n8_mono (F : Nat → Int) (i : Nat) : ∀ r, n8 F i r ≤ n8 F (i + 1) r
  | 0 => Nat.le_refl _
  | r + 1 => by
    have := n8_mono F i r
    unfold n8
    by_cases h : 0 ≤ F r ∧ F r < (i : Int)
    · rw [if_pos h, if_pos (by omega)]; omega
    · rw [if_neg h]; omega
theorem n8_in (F : Nat → Int) (i r0 : Nat) (h : F r0 = (i : Int)) : ∀ r, r0 < r → n8 F i r + 1 ≤ n8 F (i + 1) r
  | 0, h0 => absurd h0 (Nat.not_lt_zero _)
  | r + 1, h0 => by
    unfold n8
    by_cases e : r0 = r
    · subst e
      have := n8_mono F i r0
      rw [if_neg (by omega), if_pos (by omega)]
      omega
    · have := n8_in F i r0 h r (by omega)
      by_cases h2 : 0 ≤ F r ∧ F r < (i : Int)
      · rw [if_pos h2, if_pos (by omega)]; omega
      · rw [if_neg h2]; omega
theorem fCn_n8 {T : ctT} {S : ctS} {F : Nat → Int} (hT : okT T) (hM : ∀ i, i < sZ S → okM T (sM S i)) : ∀ i, i ≤ sZ S → fCn S F i ≤ n8 F i 8
  | 0, _ => Nat.zero_le _
  | i + 1, hi => by
    have h0 := fCn_n8 hT hM (F := F) i (by omega)
    have h1 := n8_mono F i 8
    have h2 := fRow_r hT (hM i (by omega))
    unfold fCn
    split
    · rename_i h
      have := n8_in F i _ h 8 (by omega)
      omega
    · omega
theorem fCn_7 {T : ctT} {S : ctS} {F : Nat → Int} {i : Nat} (hT : okT T) (hM : ∀ i, i < sZ S → okM T (sM S i)) (hi : i < sZ S) (h : F (fRow (sM S i)).toNat = (i : Int)) : fCn S F i < 8 := by
  have h0 := fCn_n8 hT hM (F := F) i (by omega)
  have h1 := n8_le F (i + 1) 8
  have h2 := fRow_r hT (hM i (by omega))
  have := n8_in F i _ h 8 (by omega)
  omega
theorem fAdd_s (S : ctS) (F : Nat → Int) (i : Nat) : fAdd S F (i + 1) = if F (fRow (sM S i)).toNat = (i : Int) then fPL (fAdd S F i) (sM S i) else fAdd S F i := rfl
theorem fAdd_Cs (S : ctS) (F : Nat → Int) (h0 : 0 < sC S) (hz : sCs S (sC S - 1) = 0) : ∀ i, sCs (fAdd S F i) (sC S - 1) = fCn S F i
  | 0 => hz
  | i + 1 => by
    have h1 := fAdd_Cs S F h0 hz i
    have h2 := (fAdd_Z S F i).2.2
    rw [fAdd_s]
    unfold fCn
    split
    · show ct_up (sCs (fAdd S F i)) (sC (fAdd S F i) - 1) (sCs (fAdd S F i) (sC (fAdd S F i) - 1) + 1) (sC S - 1) = _
      rw [h2, ct_up_s, h1]
      rfl
    · exact h1
noncomputable def fF40 (S : ctS) : ctS := if 40 ≤ sC S then fFF S else S
set_option maxRecDepth 100000 in
set_option maxHeartbeats 1000000 in
theorem c_X8_addCut (T : ctT) (S : ctS) (F G : Nat → Int) (hT : okT T) (hS : okS T S) (hF : pl8 36 F) (h1 : sC (fF40 S) < 40) (h2 : sZ (fF40 S) = sZ S) (h3 : sM (fF40 S) = sM S) : CM MX8_addCut (3, 0, 0) [vR 20, vR 0] (wR T S F G) (fun v w => v = some (vI (fCn (fAE (fF40 S)) F (sZ S))) ∧ w = wR T (fAdd (fAE (fF40 S)) F (sZ S)) F G) := by
  refine CM.of (by decide) (Nat.le_of_ble_eq_true rfl) ?_
  show CV MX8_addCut (3, 0, 0) 23 (0, 0) 0 [(0, vR 20), (1, vR 0)] [] (wR T S F G) _
  have hZ := hS.1
  have hN := hT.2.1
  have hC := hS.2.2.2.2.2.1
  generalize hA : fAE (fF40 S) = A
  have a1 : sZ A = sZ S := by rw [← hA]; exact h2
  have a2 : sM A = sM S := by rw [← hA]; exact h3
  have a3 : sC A = sC (fF40 S) + 1 := by rw [← hA]; rfl
  have a4 : sCs A (sC A - 1) = 0 := by rw [a3, ← hA]; exact ct_up_s
  have hM : ∀ i, i < sZ A → okM T (sM A i) := fun i hi => by rw [a2]; exact hS.2.1 i (by omega)
  have loop : ∀ (k : Nat) (i : Nat), (sZ S < i + k) → (i ≤ sZ S) → CV MX8_addCut (3, 0, 0) 23 (0, 0) 33 [(0, vR 20), (1, vR 0), (2, vR 1), (3, vI (fCn A F i)), (4, vI i)] [] (wR T (fAdd A F i) F G) (fun v w => v = some (vI (fCn A F (sZ S))) ∧ w = wR T (fAdd A F (sZ S)) F G) := by
    intro k
    induction k with
    | zero => intro i hk hi; exact absurd hk (by omega)
    | succ k ih =>
      intro i hk hi
      obtain ⟨b1, b2, b3⟩ := fAdd_Z A F i
      refine cv_iload dX8_addCut_33 rfl ?_
      refine cv_aload_n dX8_addCut_35 rfl ?_
      refine cv_getf flX8_40 dX8_addCut_36 rfl rfl ?_
      refine cv_icmp_ge (tgt := 85) dX8_addCut_39 (by decide) (by omega) (fun h39 => ?_) (fun h39 => ?_)
      · refine cv_iload_n dX8_addCut_85 rfl ?_
        refine cv_iret rfl dX8_addCut_86 ⟨Nat.le_refl _, Nat.le_refl _⟩ ⟨ct_rI (by rw [show i = sZ S by omega]), by rw [show i = sZ S by omega]⟩
      · have hok := hM i (by omega)
        have hrw := fRow_r hT hok
        have hfr := hF (fRow (sM A i)).toNat (by omega)
        obtain ⟨m1, m2, m3⟩ := hok
        refine cv_aload_n dX8_addCut_42 rfl ?_
        refine cv_getf flX8_9 dX8_addCut_43 rfl rfl ?_
        refine cv_aload_n dX8_addCut_46 rfl ?_
        refine cv_getf flX8_29 dX8_addCut_47 rfl rfl ?_
        refine cv_iload dX8_addCut_50 rfl ?_
        refine cv_ialj (i) dX8_addCut_52 rfl (by omega) (by omega) ?_
        rw [b2]
        refine cv_sameSN (c_X11_sideRow (wR T (fAdd A F i) F G) (sM A i) (by omega)) lkX11_sideRow mnX8_74 dX8_addCut_53 (by decide) rfl rfl (Nat.le_of_ble_eq_true rfl) ⟨Nat.le_refl _, Nat.le_refl _⟩ ?_
        intro v w1 hq
        obtain ⟨rfl, rfl⟩ := hq
        refine cv_ialj ((fRow (sM A i)).toNat) dX8_addCut_56 rfl (by omega) (by omega) ?_
        refine cv_iload dX8_addCut_57 rfl ?_
        refine cv_icmp_ne (tgt := 79) dX8_addCut_59 (by decide) (by omega) (fun h59 => ?_) (fun h59 => ?_)
        · refine cv_iinc dX8_addCut_79 (by decide) rfl rfl rfl ?_
          refine cv_goto (tgt := 33) dX8_addCut_82 (by decide) ?_
          have e0 : fAdd A F (i + 1) = fAdd A F i := if_neg h59
          have e1 : fCn A F (i + 1) = fCn A F i := if_neg h59
          have := ih (i + 1) (by omega) (by omega)
          rw [e0, e1] at this
          exact this
        · refine cv_aload_n dX8_addCut_62 rfl ?_
          refine cv_getf flX8_96 dX8_addCut_63 rfl rfl ?_
          refine cv_aload_n dX8_addCut_66 rfl ?_
          refine cv_getf flX8_29 dX8_addCut_67 rfl rfl ?_
          refine cv_iload dX8_addCut_70 rfl ?_
          refine cv_ialj (i) dX8_addCut_72 rfl (by omega) (by omega) ?_
          rw [b2]
          have h8 := fCn_7 hT hM (F := F) (i := i) (by omega) h59
          have h9 := fAdd_Cs A F (by omega) a4 i
          refine cv_preV (c_X2_putInLast T (fAdd A F i) (by omega) (by rw [b3, h9]; omega) (sM A i)) lkX2_putInLast mlX8_137 dX8_addCut_73 (by decide) rfl rfl (by decide) rfl (Nat.le_of_ble_eq_true rfl) ⟨Nat.le_refl _, Nat.le_refl _⟩ (fun v w1 h => (congrArg List.length h.2).trans (wS_ll _ _ _)) ?_
          intro v w1 hq
          obtain ⟨rfl, rfl⟩ := hq
          refine cv_iinc dX8_addCut_76 (by decide) rfl rfl rfl ?_
          refine cv_iinc dX8_addCut_79 (by decide) rfl rfl rfl ?_
          refine cv_goto (tgt := 33) dX8_addCut_82 (by decide) ?_
          have e0 : fAdd A F (i + 1) = fPL (fAdd A F i) (sM A i) := if_pos h59
          have e1 : fCn A F (i + 1) = fCn A F i + 1 := if_pos h59
          have := ih (i + 1) (by omega) (by omega)
          rw [e0, e1] at this
          exact this
  have fin : ∀ (S1 : ctS), (S1 = fF40 S) → CV MX8_addCut (3, 0, 0) 23 (0, 0) 21 [(0, vR 20), (1, vR 0), (2, vR 1)] [] (wR T S1 F G) (fun v w => v = some (vI (fCn A F (sZ S))) ∧ w = wR T (fAdd A F (sZ S)) F G) := by
    intro S1 hs
    subst hs
    refine cv_aload_n dX8_addCut_21 rfl ?_
    refine cv_getf flX8_96 dX8_addCut_22 rfl rfl ?_
    refine cv_preV (c_X2_addEmpty T (fF40 S) h1) lkX2_addEmpty mlX8_134 dX8_addCut_25 (by decide) rfl rfl (by decide) rfl (Nat.le_of_ble_eq_true rfl) ⟨Nat.le_refl _, Nat.le_refl _⟩ (fun v w1 h => (congrArg List.length h.2).trans (wS_ll _ _ _)) ?_
    intro v w1 hq
    obtain ⟨rfl, rfl⟩ := hq
    rw [hA]
    refine cv_iconst dX8_addCut_28 ?_
    refine cv_istore_n dX8_addCut_29 (by decide) rfl rfl ?_
    refine cv_iconst dX8_addCut_30 ?_
    refine cv_istore dX8_addCut_31 (by decide) rfl rfl ?_
    exact loop (sZ S + 1) 0 (by omega) (by omega)
  refine cv_aload_n dX8_addCut_0 rfl ?_
  refine cv_getf flX8_18 dX8_addCut_1 rfl rfl ?_
  refine cv_astore_n dX8_addCut_4 (by decide) rfl rfl ?_
  refine cv_aload_n dX8_addCut_5 rfl ?_
  refine cv_getf flX8_96 dX8_addCut_6 rfl rfl ?_
  refine cv_getf flX8_128 dX8_addCut_9 rfl rfl ?_
  refine cv_bipush dX8_addCut_12 (by decide) ?_
  refine cv_icmp_lt (tgt := 21) dX8_addCut_14 (by decide) (by omega) (fun h14 => ?_) (fun h14 => ?_)
  · exact fin _ (by unfold fF40; rw [if_neg (by omega)])
  · refine cv_aload_n dX8_addCut_17 rfl ?_
    refine cv_preV (c_X5_forgetFirstFree T S hT hS) lkX5_forgetFirstFree mlX8_131 dX8_addCut_18 (by decide) rfl rfl (by decide) rfl (Nat.le_of_ble_eq_true rfl) ⟨Nat.le_refl _, Nat.le_refl _⟩ (fun v w1 h => (congrArg List.length h.2).trans (wS_ll _ _ _)) ?_
    intro v w1 hq
    obtain ⟨rfl, rfl⟩ := hq
    exact fin _ (by unfold fF40; rw [if_pos (by omega)])
