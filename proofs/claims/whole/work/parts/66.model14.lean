/-! ALL THAT IS KEPT -/
def I2 (T : ctT) (S : ctS) : Prop := I1 T S ∧ rq T S ∧ dr S
theorem I2_good {T : ctT} (hT : okT T) : goodI T (I2 T) := by
  refine ⟨hT, fun S h => ?_⟩
  obtain ⟨h1, h2, h3⟩ := h
  obtain ⟨g1, g2, g3, g4, g5⟩ := (I1_good hT).2 S h1
  refine ⟨g1, fun z => ⟨(g2 z).1, (g2 z).2, rq_draw (rq_up h2 _), dr_draw (dr_up h3 _)⟩, fun z => ?_, fun m hm => ⟨g4 m hm, rq_made h2 m, dr_made h3 m⟩, fun V => ⟨g5 V, rq_cp h2 V, dr_cp h1.1 h3 V⟩⟩
  obtain ⟨a, b, c, d, e, f⟩ := g3 z
  exact ⟨a, b, c, d, e, f, rq_Ln hT h1.1 h2, dr_Ln hT h1.1 h3⟩
theorem I2_bg {T : ctT} (hT : okT T) (S : ctS) : I2 T (fBg T S) := by
  refine ⟨I1_bg hT S, rq_draw (fun i hi => ?_), dr_draw (fun c k l hc hk hl => ?_)⟩
  · rw [fCut_sZ] at hi; exact absurd hi (Nat.not_lt_zero _)
  · rw [fCut_sC] at hc; exact absurd hc (Nat.not_lt_zero _)
theorem fBk_k {T : ctT} {S : ctS} : fBk T S = -9 ∨ (0 ≤ fBk T S ∧ fBk T S < (tR T : Int)) ∨ (10 ≤ fBk T S ∧ fBk T S < 10 + (sC S : Int)) := by
  unfold fBk
  cases e : ct_first (fun r => tB T r < fLeast T S r) (tR T) with
  | some r => have := (ct_first_inv e).1; exact Or.inr (Or.inl (by show 0 ≤ (r : Int) ∧ (r : Int) < _; omega))
  | none =>
    cases e2 : ct_first (cbP S) (sC S) with
    | some c => have := (ct_first_inv e2).1; exact Or.inr (Or.inr (by show 10 ≤ 10 + (c : Int) ∧ 10 + (c : Int) < _; omega))
    | none => exact Or.inl rfl
theorem sF_O {T : ctT} {S : ctS} {st F : Nat → Int} (h : sF st F) (hr : rwP S F) : stO S st := fun r h8 => by
  have a := h r h8
  have b := hr r h8
  omega
theorem stO_R {S : ctS} {st : Nat → Int} (hZ : sZ S ≤ 36) (h : stO S st) : stR st := fun r h8 => by have := h r h8; omega
theorem sF_g {S : ctS} {F : Nat → Int} (hr : rwP S F) (r : Nat) (h8 : r < 8) : -1 ≤ F r := by
  have b := hr r h8
  omega
theorem sF_up {st F : Nat → Int} (h : sF st F) (j : Nat) : sF (ct_up st j (-9)) (ct_up F j (-1)) := fun r h8 => by
  by_cases e : r = j
  · subst e; rw [ct_up_s, ct_up_s]; exact Or.inl ⟨rfl, rfl⟩
  · rw [ct_up_n e, ct_up_n e]; exact h r h8
theorem tl_n {S : ctS} {F : Nat → Int} (hr : rwP S F) (h : fGB F 36 = -1) : ¬ tlP S F := fun z => by
  have z1 := z.1
  rw [h] at z1
  rcases gB_in F (-1) 8 with y | ⟨g, hg, y1, y2⟩
  · exact z1 y
  · have := sF_g hr g hg
    omega
theorem grS_c {S B : ctS} (h : sL B = sL S) (st : Nat → Int) (b : Int) : ∀ k, grS B st b k = grS S st b k
  | 0 => rfl
  | k + 1 => by unfold grS; rw [grS_c h st b k, h]
theorem Rep_H {T : ctT} {S : ctS} {p : Nat → Int} (h : Rep S p) (hJ : J T S) (hZ : sZ S ≤ 36) : Rep (uH S 1) (ct_up p 470 1) := by
  obtain ⟨h1, h2, h3, h4, h5⟩ := h
  have hC := hJ.2.1.2.2.1
  refine ⟨?_, fun i hi => ⟨?_, ?_, ?_⟩, ?_, fun c hc => ⟨?_, fun k hk => ?_⟩, ?_⟩
  · rw [ct_up_n (by omega)]; exact h1
  · have hi' : i < sZ S := hi
    rw [ct_up_n (by omega)]; exact (h2 i hi).1
  · have hi' : i < sZ S := hi
    rw [ct_up_n (by omega)]; exact (h2 i hi).2.1
  · have hi' : i < sZ S := hi
    rw [ct_up_n (by omega)]; exact (h2 i hi).2.2
  · rw [ct_up_n (by omega)]; exact h3
  · have hc' : c < sC S := hc
    rw [ct_up_n (by omega)]; exact (h4 c hc').1
  · have hc' : c < sC S := hc
    have hk' : (k : Int) < sCs S c := hk
    have h8 := hJ.2.1.2.2.2.1 c hc'
    rw [ct_up_n (by omega)]; exact (h4 c hc').2 k hk
  · rw [ct_up_s]; rfl
theorem P0_w {T : ctT} {S : ctS} {st : Nat → Int} (hT : okT T) (hJ : J T S) (h : ∀ r, r < 8 → st r = -9) : (0 ≤ fBk T S → fBk T S < 10 → sF (wyR T S st (fBk T S).toNat (sZ S) (-9) 1 (tN T)).2 (fP0 T S (fun _ => -1) (fun _ => -1)).1) ∧ (10 ≤ fBk T S → sF (wyC S st (fBk T S - 10).toNat (sZ S) (-9) 1 (sCs S (fBk T S - 10).toNat).toNat).2 (fP0 T S (fun _ => -1) (fun _ => -1)).1) := by
  have h6 := hT.2.2.1
  have h0 : sF st (fI (fun _ => -1) 8) := fun r h8 => Or.inl ⟨h r h8, by rw [fI_at, if_pos h8]⟩
  have h1 : ∀ r, r < 8 → -1 ≤ fI (fun _ => -1) 8 r := fun r h8 => by rw [fI_at, if_pos h8]; omega
  have kb := fBk_k (T := T) (S := S)
  constructor
  · intro a b
    have := wyR_F (fun _ => -1) (r := (fBk T S).toNat) (e := sZ S) (m := -9) (J_M hJ) h0 h1 _ hT.2.1
    show sF _ (fTk S (fI (fun _ => -1) 8) (fWhy T S (fun _ => -1) (fBk T S) (sZ S) (-9)) 8)
    rw [show fWhy T S (fun _ => -1) (fBk T S) (sZ S) (-9) = fWr T S (fI (fun _ => -1) 8) (fBk T S).toNat (sZ S) (fOwn (-9)) (tN T) from if_pos (by omega)]
    exact this
  · intro a
    have := wyC_F (fun _ => -1) (c := (fBk T S - 10).toNat) (e := sZ S) (m := -9) hT (J_M hJ) h0 h1 (sCs S (fBk T S - 10).toNat).toNat (fun k hk => J_C hJ _ k (by omega) (by omega))
    show sF _ (fTk S (fI (fun _ => -1) 8) (fWhy T S (fun _ => -1) (fBk T S) (sZ S) (-9)) 8)
    rw [show fWhy T S (fun _ => -1) (fBk T S) (sZ S) (-9) = fWc S (fI (fun _ => -1) 8) (fBk T S - 10).toNat (sZ S) (-9) (sCs S (fBk T S - 10).toNat).toNat from (if_neg (by omega)).trans (if_pos (by omega))]
    exact this
set_option maxRecDepth 100000 in
set_option maxHeartbeats 1000000 in
theorem c_X12_learnOn (u v : Nat) (T : ctT) (o : Nat → Int) (A : Nat → Nat → Int) (tm tr : Int) (p st : Nat → Int) (S : ctS) (hT : okT T) (hA : rT T A) (hR : Rep S p) (hJ : J T S) (hq : rq T S) (hb : ¬ fBk T S = -9) : CM MX12_learnOn (7, 0, 0) [vR 0, vR 5] (wM u v T o A tm tr p st) (fun v1 w => ∃ tm1 tr1 p1 st1, v1 = some (vI (fLz T S)) ∧ w = wM u v T o A tm1 tr1 p1 st1 ∧ Rep (fLn T S) p1 ∧ stR st1) := by
  refine CM.of (by decide) (Nat.le_of_ble_eq_true rfl) ?_
  show CV MX12_learnOn (7, 0, 0) 19 (0, 0) 0 [(0, vR 0), (1, vR 5)] [] (wM u v T o A tm tr p st) _
  have hg := J_g hT hJ
  have hZ := hg.1.1
  have kb := fBk_k (T := T) (S := S)
  have h6 := hT.2.2.1
  obtain ⟨J2, s2⟩ := L2_ok hT hJ
  have hfE := fE_st hJ
  have hlv : ∀ i, i < sZ S → 0 ≤ sL S i ∧ sL S i ≤ 100 := fun i hi => by have := hJ.2.1.1 i hi; omega
  have fin : ∀ (n : Int) (st : Nat → Int), sF st (fE T S) → CV MX12_learnOn (7, 0, 0) 19 (0, 0) 105 [(0, vR 0), (1, vR 5), (2, vI n), (3, vI (grS S st (-9) 8))] [] (wM u v T o A tm tr p st) (fun v1 w => ∃ tm1 tr1 p1 st1, v1 = some (vI (fLz T S)) ∧ w = wM u v T o A tm1 tr1 p1 st1 ∧ Rep (fLn T S) p1 ∧ stR st1) := by
    intro n st hs
    have hst := sF_O (T := T) hs hfE.1
    have g0 := grS_r (b := -9) hlv hst 8 (by omega)
    have hgr := gr_F (e := 36) (b := -9) hJ.2.2 hs hfE.1 hfE.2 (fun r h8 h0 => by have := hfE.1 r h8; omega)
    have hlp : ¬ fGB (fE T S) 36 = -1 → 0 < sL S (fGB (fE T S) 36).toNat := fun z => by
      obtain ⟨l, hl, l1, l2, l3, l4, l5⟩ := last_in hfE.1 hZ z
      have := hfE.2 l hl
      rw [← l1]; omega
    refine cv_iload_n dX12_learnOn_105 rfl ?_
    refine cv_if_ne (tgt := 117) dX12_learnOn_106 (by decide) (by omega) (fun h106 => ?_) (fun h106 => ?_)
    · have hne : ¬ fGB (fE T S) 36 = -1 := fun z => h106 (by rw [hgr, if_pos z])
      obtain ⟨l0, l1⟩ := lis_F hZ hs hfE.1 hne
      have l7 := lis_le st 7
      have sl := hst (lis st 7) (by omega)
      refine cv_aload_n dX12_learnOn_117 rfl ?_
      refine cv_aload_n dX12_learnOn_118 rfl ?_
      refine cv_sameV (c_X12_addCut u v T o A tm tr p st S hT hA hR hJ (fE T S) hs hfE.1) lkX12_addCut mlX12_229 dX12_learnOn_119 (by decide) rfl rfl (by decide) rfl (Nat.le_of_ble_eq_true rfl) ⟨Nat.le_refl _, Nat.le_refl _⟩ ?_
      intro v w1 hq
      obtain ⟨p1, rfl, rfl, hp1⟩ := hq
      have hR2 : Rep (fL2 T S) p1 := hp1
      have hst2 : stO (fL2 T S) st := fun r h8 => by rw [s2.1]; exact hst r h8
      refine cv_istore dX12_learnOn_122 (by decide) rfl rfl ?_
      refine cv_aload_n dX12_learnOn_124 rfl ?_
      refine cv_aload_n dX12_learnOn_125 rfl ?_
      refine cv_aload_n dX12_learnOn_126 rfl ?_
      refine cv_aload_n dX12_learnOn_127 rfl ?_
      refine cv_aload_n dX12_learnOn_128 rfl ?_
      refine cv_getf flX12_44 dX12_learnOn_129 rfl rfl ?_
      refine cv_aload_n dX12_learnOn_132 rfl ?_
      refine cv_sameV (c_X12_lastInSet u v T o A tm tr p1 st (fun r h8 => by have := hst r h8; omega)) lkX12_lastInSet mlX12_222 dX12_learnOn_133 (by decide) rfl rfl (by decide) rfl (Nat.le_of_ble_eq_true rfl) ⟨Nat.le_refl _, Nat.le_refl _⟩ ?_
      intro v w1 hq
      obtain ⟨rfl, rfl⟩ := hq
      refine cv_ialj (lis st 7) dX12_learnOn_136 rfl (by omega) (by omega) ?_
      refine cv_sameV (c_X12_greatest u v T o A tm tr p1 st (fL2 T S) hT hA hR2 J2 (st (lis st 7)) (by omega) hst2) lkX12_greatest mlX12_216 dX12_learnOn_137 (by decide) rfl rfl (by decide) rfl (Nat.le_of_ble_eq_true rfl) ⟨Nat.le_refl _, Nat.le_refl _⟩ ?_
      intro v w1 hq
      obtain ⟨rfl, rfl⟩ := hq
      have eL : grS (fL2 T S) st (st (lis st 7)) 8 = fLl T S := by
        rw [grS_c s2.2.2.1, gr_F (e := fGB (fE T S) 36) (b := st (lis st 7)) hJ.2.2 hs hfE.1 hfE.2 (fun r h8 h0 => ?_)]
        · rfl
        · obtain ⟨l, hl, k1, k2, k3, k4, k5⟩ := last_in hfE.1 hZ hne
          have := k5 r h8
          omega
      rw [eL]
      have hll : 0 ≤ fLl T S ∧ fLl T S ≤ 100 := by rw [← eL, grS_c s2.2.2.1]; exact grS_r hlv hst 8 (by omega)
      refine cv_sameV (c_X12_leaveAbove u v T o A tm tr p1 st (fL2 T S) hT hA hR2 J2 (fLl T S) (by omega)) lkX12_leaveAbove mlX12_232 dX12_learnOn_140 (by decide) rfl rfl (by decide) rfl (Nat.le_of_ble_eq_true rfl) ⟨Nat.le_refl _, Nat.le_refl _⟩ ?_
      intro v w1 hq
      obtain ⟨p2, rfl, rfl, hp2⟩ := hq
      refine cv_aload_n dX12_learnOn_143 rfl ?_
      refine cv_aload_n dX12_learnOn_144 rfl ?_
      refine cv_sameV (c_X12_drawIn u v T o A tm tr p2 st (fUp T (fL2 T S) (fLl T S)) hT hA hp2 (J_up J2 _)) lkX12_drawIn mlX12_191 dX12_learnOn_145 (by decide) rfl rfl (by decide) rfl (Nat.le_of_ble_eq_true rfl) ⟨Nat.le_refl _, Nat.le_refl _⟩ ?_
      intro v w1 hq
      obtain ⟨tm1, tr1, p3, rfl, rfl, hp3⟩ := hq
      refine cv_iload dX12_learnOn_148 rfl ?_
      refine cv_iret rfl dX12_learnOn_150 ⟨Nat.le_refl _, Nat.le_refl _⟩ ⟨tm1, tr1, p3, st, ct_rI (by unfold fLz; rw [if_neg hne]), rfl, by unfold fLn; rw [if_neg hne]; exact hp3, stO_R hZ hst⟩
    · have he : fGB (fE T S) 36 = -1 := Classical.byContradiction (fun z => by rw [if_neg z] at hgr; have := hlp z; omega)
      refine cv_aload_n dX12_learnOn_109 rfl ?_
      refine cv_sipush dX12_learnOn_110 (by decide) ?_
      refine cv_iconst dX12_learnOn_113 ?_
      refine cv_iasj (470) dX12_learnOn_114 rfl (by omega) (by omega) ?_
      refine cv_iconst dX12_learnOn_115 ?_
      refine cv_iret rfl dX12_learnOn_116 ⟨Nat.le_refl _, Nat.le_refl _⟩ ⟨tm, tr, _, st, ct_rI (by unfold fLz; rw [if_pos he]), rfl, by unfold fLn; rw [if_pos he]; exact Rep_H hR hJ hZ, stO_R hZ hst⟩
  have loop : ∀ (k : Nat) (n : Int) (st F G : Nat → Int), fGB F 36 < (k : Int) → sF st F → rwP S F → lvP S F → (∃ f : Nat, fGB F 36 < (f : Int) ∧ (trI T S f (F, G)).1 = fE T S) → CV MX12_learnOn (7, 0, 0) 19 (0, 0) 47 [(0, vR 0), (1, vR 5), (2, vI n), (3, vI (grS S st (-9) 8))] [] (wM u v T o A tm tr p st) (fun v1 w => ∃ tm1 tr1 p1 st1, v1 = some (vI (fLz T S)) ∧ w = wM u v T o A tm1 tr1 p1 st1 ∧ Rep (fLn T S) p1 ∧ stR st1) := by
    intro k
    induction k with
    | zero => 
      intro n st F G hk hs hr hl he
      have hst := sF_O (T := T) hs hr
      have g0 := grS_r (b := -9) hlv hst 8 (by omega)
      have hm1 : fGB F 36 = -1 := by
        rcases gB_in F 36 8 with z | ⟨g, hg8, z1, z2⟩
        · exact z
        · have z3 : F g = fGB F 36 := z1
          have := sF_g hr g hg8
          omega
      have hgr := gr_F (e := 36) (b := -9) hJ.2.2 hs hr hl (fun r h8 h0 => by have := hr r h8; omega)
      rw [if_pos hm1] at hgr
      obtain ⟨f, f1, f2⟩ := he
      rw [trI_f (tl_n hr hm1)] at f2
      have f3 : F = fE T S := f2
      have m0 := mnS_r S st (grS S st (-9) 8) 8
      refine cv_aload_n dX12_learnOn_47 rfl ?_
      refine cv_aload_n dX12_learnOn_48 rfl ?_
      refine cv_iload_n dX12_learnOn_49 rfl ?_
      refine cv_sameV (c_X12_manyOf u v T o A tm tr p st S hT hA hR hJ (grS S st (-9) 8) g0 hst) lkX12_manyOf mlX12_219 dX12_learnOn_50 (by decide) rfl rfl (by decide) rfl (Nat.le_of_ble_eq_true rfl) ⟨Nat.le_refl _, Nat.le_refl _⟩ ?_
      intro v w1 hq
      obtain ⟨rfl, rfl⟩ := hq
      refine cv_iconst dX12_learnOn_53 ?_
      refine cv_icmp_le (tgt := 105) dX12_learnOn_54 (by decide) (by omega) (fun h54 => ?_) (fun h54 => ?_)
      · exact fin n st (f3 ▸ hs)
      · refine cv_iload_n dX12_learnOn_57 rfl ?_
        refine cv_if_le (tgt := 105) dX12_learnOn_58 (by decide) (by omega) (fun h58 => ?_) (fun h58 => ?_)
        · exact fin n st (f3 ▸ hs)
        · exact absurd h58 (by omega)
    | succ k ih =>
      intro n st F G hk hs hr hl he
      have hst := sF_O (T := T) hs hr
      have g0 := grS_r (b := -9) hlv hst 8 (by omega)
      have hgr := gr_F (e := 36) (b := -9) hJ.2.2 hs hr hl (fun r h8 h0 => by have := hr r h8; omega)
      obtain ⟨f, f1, f2⟩ := he
      have m0 := mnS_r S st (grS S st (-9) 8) 8
      have hlp : ¬ fGB F 36 = -1 → 0 < sL S (fGB F 36).toNat := fun z => by
        obtain ⟨l, hl8, l1, l2, l3, l4, l5⟩ := last_in hr hZ z
        have := hl l hl8
        rw [← l1]; omega
      have ex : ¬ (1 < mnS S st (grS S st (-9) 8) 8 ∧ 0 < grS S st (-9) 8) → F = fE T S := fun z => by
        have nt : ¬ tlP S F := by
          by_cases e : fGB F 36 = -1
          · exact tl_n hr e
          · rw [if_neg e] at hgr
            rw [hgr] at z
            exact fun y => z ⟨(mn_F hJ.2.2 hZ hs hr e).mpr y, hlp e⟩
        rw [trI_f nt] at f2
        exact f2
      refine cv_aload_n dX12_learnOn_47 rfl ?_
      refine cv_aload_n dX12_learnOn_48 rfl ?_
      refine cv_iload_n dX12_learnOn_49 rfl ?_
      refine cv_sameV (c_X12_manyOf u v T o A tm tr p st S hT hA hR hJ (grS S st (-9) 8) g0 hst) lkX12_manyOf mlX12_219 dX12_learnOn_50 (by decide) rfl rfl (by decide) rfl (Nat.le_of_ble_eq_true rfl) ⟨Nat.le_refl _, Nat.le_refl _⟩ ?_
      intro v w1 hq
      obtain ⟨rfl, rfl⟩ := hq
      refine cv_iconst dX12_learnOn_53 ?_
      refine cv_icmp_le (tgt := 105) dX12_learnOn_54 (by decide) (by omega) (fun h54 => ?_) (fun h54 => ?_)
      · exact fin n st (ex (by omega) ▸ hs)
      · refine cv_iload_n dX12_learnOn_57 rfl ?_
        refine cv_if_le (tgt := 105) dX12_learnOn_58 (by decide) (by omega) (fun h58 => ?_) (fun h58 => ?_)
        · exact fin n st (ex (by omega) ▸ hs)
        · refine cv_aload_n dX12_learnOn_61 rfl ?_
          refine cv_sameV (c_X12_lastInSet u v T o A tm tr p st (fun r h8 => by have := hst r h8; omega)) lkX12_lastInSet mlX12_222 dX12_learnOn_62 (by decide) rfl rfl (by decide) rfl (Nat.le_of_ble_eq_true rfl) ⟨Nat.le_refl _, Nat.le_refl _⟩ ?_
          intro v w1 hq
          obtain ⟨rfl, rfl⟩ := hq
          have hne : ¬ fGB F 36 = -1 := fun z => by rw [if_pos z] at hgr; omega
          obtain ⟨l0, l1⟩ := lis_F hZ hs hr hne
          have l7 := lis_le st 7
          have tl : tlP S F := (mn_F hJ.2.2 hZ hs hr hne).mp (by rw [if_neg hne] at hgr; rw [← hgr]; omega)
          obtain ⟨l, hl8, k1, k2, k3, k4, k5⟩ := last_in hr hZ hne
          have hus := sF_up hs (lis st 7)
          have hur := st_up hr hl (lis st 7)
          have huo := sF_O (T := T) hus hur.1
          have hlt := TF_lt (T := T) (G := G) hr hZ hne
          refine cv_istore dX12_learnOn_65 (by decide) rfl rfl ?_
          refine cv_aload_n dX12_learnOn_67 rfl ?_
          refine cv_getf flX12_44 dX12_learnOn_68 rfl rfl ?_
          refine cv_iload dX12_learnOn_71 rfl ?_
          refine cv_ialj (lis st 7) dX12_learnOn_73 rfl (by omega) (by omega) ?_
          refine cv_topi (((fGB F 36).toNat : Nat) : Int) (by rw [l1]; omega) ?_
          refine cv_istore dX12_learnOn_74 (by decide) rfl rfl ?_
          refine cv_aload_n dX12_learnOn_76 rfl ?_
          refine cv_getf flX12_44 dX12_learnOn_77 rfl rfl ?_
          refine cv_iload dX12_learnOn_80 rfl ?_
          refine cv_bipush dX12_learnOn_82 (by decide) ?_
          refine cv_iasj (lis st 7) dX12_learnOn_84 rfl (by omega) (by omega) ?_
          refine cv_aload_n dX12_learnOn_85 rfl ?_
          refine cv_aload_n dX12_learnOn_86 rfl ?_
          refine cv_iload dX12_learnOn_87 rfl ?_
          refine cv_iconst dX12_learnOn_89 ?_
          refine cv_sameV (c_X12_whyOf u v T o A tm tr p (ct_up st (lis st 7) (-9)) S hT hA hR hJ hq (fGB F 36).toNat (by omega) 1 (Or.inr rfl) (stO_R hZ huo)) lkX12_whyOf mlX12_225 dX12_learnOn_90 (by decide) rfl rfl (by decide) rfl (Nat.le_of_ble_eq_true rfl) ⟨Nat.le_refl _, Nat.le_refl _⟩ ?_
          intro v w1 hq
          obtain ⟨rfl, rfl⟩ := hq
          have hws : sF (wyO T S (ct_up st (lis st 7) (-9)) (fGB F 36).toNat 1).2 (fTF T S F G) := by
            have := wyO_F G (i := (fGB F 36).toNat) hT hJ hq (by omega) hus (fun r h8 => sF_g hur.1 r h8)
            rw [l0] at this ⊢
            exact this
          have hwr := st_tk hur.1 hur.2 (rw_why (J_M hJ) (J_C hJ) G (sR S (fGB F 36).toNat) (fGB F 36).toNat (sM S (fGB F 36).toNat))
          rw [l0] at hwr
          have hwo := sF_O (T := T) hws hwr.1
          refine cv_istore_n dX12_learnOn_93 (by decide) rfl rfl ?_
          refine cv_aload_n dX12_learnOn_94 rfl ?_
          refine cv_aload_n dX12_learnOn_95 rfl ?_
          refine cv_bipush dX12_learnOn_96 (by decide) ?_
          refine cv_sameV (c_X12_greatest u v T o A tm tr p (wyO T S (ct_up st (lis st 7) (-9)) (fGB F 36).toNat 1).2 S hT hA hR hJ (-9) (by omega) hwo) lkX12_greatest mlX12_216 dX12_learnOn_98 (by decide) rfl rfl (by decide) rfl (Nat.le_of_ble_eq_true rfl) ⟨Nat.le_refl _, Nat.le_refl _⟩ ?_
          intro v w1 hq
          obtain ⟨rfl, rfl⟩ := hq
          refine cv_istore_n dX12_learnOn_101 (by decide) rfl rfl ?_
          refine cv_goto (tgt := 47) dX12_learnOn_102 (by decide) ?_
          refine cv_loc [0, 1, 2, 3] rfl ?_
          refine ih _ (wyO T S (ct_up st (lis st 7) (-9)) (fGB F 36).toNat 1).2 (fTF T S F G) (fTG T S F G) (by omega) hws hwr.1 hwr.2 ⟨f - 1, by omega, ?_⟩
          obtain ⟨g, rfl⟩ : ∃ g, f = g + 1 := ⟨f - 1, by omega⟩
          rw [trI_t (show tlP S (F, G).1 from tl), fT1_t (show tlP S (F, G).1 from tl)] at f2
          exact f2
  have top : ∀ (n : Int) (st : Nat → Int), sF st (fP0 T S (fun _ => -1) (fun _ => -1)).1 → CV MX12_learnOn (7, 0, 0) 19 (0, 0) 39 [(0, vR 0), (1, vR 5), (2, vI n)] [] (wM u v T o A tm tr p st) (fun v1 w => ∃ tm1 tr1 p1 st1, v1 = some (vI (fLz T S)) ∧ w = wM u v T o A tm1 tr1 p1 st1 ∧ Rep (fLn T S) p1 ∧ stR st1) := by
    intro n st hs
    have hP := P0_st (J_M hJ) (J_C hJ) (fun _ => -1) (fun _ => -1)
    have hst := sF_O (T := T) hs hP.1
    have hpl := gB_r (fP0_pl T S (fun _ => -1) (fun _ => -1)) 36 8 (by omega)
    have hp36 : fGB (fP0 T S (fun _ => -1) (fun _ => -1)).1 36 < (36 : Nat) := by show gB _ 36 8 < _; omega
    refine cv_aload_n dX12_learnOn_39 rfl ?_
    refine cv_aload_n dX12_learnOn_40 rfl ?_
    refine cv_bipush dX12_learnOn_41 (by decide) ?_
    refine cv_sameV (c_X12_greatest u v T o A tm tr p st S hT hA hR hJ (-9) (by omega) hst) lkX12_greatest mlX12_216 dX12_learnOn_43 (by decide) rfl rfl (by decide) rfl (Nat.le_of_ble_eq_true rfl) ⟨Nat.le_refl _, Nat.le_refl _⟩ ?_
    intro v w1 hq
    obtain ⟨rfl, rfl⟩ := hq
    refine cv_istore_n dX12_learnOn_46 (by decide) rfl rfl ?_
    exact loop 36 n st (fP0 T S (fun _ => -1) (fun _ => -1)).1 (fP0 T S (fun _ => -1) (fun _ => -1)).2 hp36 hs hP.1 hP.2 ⟨36, hp36, rfl⟩
  have l0 : ∀ (k : Nat) (q : Nat) (st : Nat → Int), (8 < q + k) → (q ≤ 8) → (∀ r, r < q → st r = -9) → CV MX12_learnOn (7, 0, 0) 19 (0, 0) 2 [(0, vR 0), (1, vR 5), (2, vI q)] [] (wM u v T o A tm tr p st) (fun v1 w => ∃ tm1 tr1 p1 st1, v1 = some (vI (fLz T S)) ∧ w = wM u v T o A tm1 tr1 p1 st1 ∧ Rep (fLn T S) p1 ∧ stR st1) := by
    intro k
    induction k with
    | zero => intro q st hk hi h9; exact absurd hk (by omega)
    | succ k ih =>
      intro q st hk hi h9
      refine cv_iload_n dX12_learnOn_2 rfl ?_
      refine cv_bipush dX12_learnOn_3 (by decide) ?_
      refine cv_icmp_ge (tgt := 22) dX12_learnOn_5 (by decide) (by omega) (fun h5 => ?_) (fun h5 => ?_)
      · have hwy := P0_w (T := T) (S := S) (st := st) hT hJ (fun r h8 => h9 r (by omega))
        have hst : stO S st := fun r h8 => Or.inl (h9 r (by omega))
        refine cv_aload_n dX12_learnOn_22 rfl ?_
        refine cv_aload_n dX12_learnOn_23 rfl ?_
        refine cv_aload_n dX12_learnOn_24 rfl ?_
        refine cv_aload_n dX12_learnOn_25 rfl ?_
        refine cv_sameV (c_X12_breakOf u v T o A tm tr p st S hT hA hR hJ) lkX12_breakOf mlX12_176 dX12_learnOn_26 (by decide) rfl rfl (by decide) rfl (Nat.le_of_ble_eq_true rfl) ⟨Nat.le_refl _, Nat.le_refl _⟩ ?_
        intro v w1 hq
        obtain ⟨rfl, rfl⟩ := hq
        refine cv_aload_n dX12_learnOn_29 rfl ?_
        refine cv_iconst dX12_learnOn_30 ?_
        refine cv_ialj (0) dX12_learnOn_31 rfl (by omega) (by omega) ?_
        rw [hR.1]
        refine cv_bipush dX12_learnOn_32 (by decide) ?_
        refine cv_iconst dX12_learnOn_34 ?_
        rcases Classical.em (fBk T S < 10) with b | b
        · refine cv_sameV (b := 0) (avs := [vR 5, vI (fBk T S), vI (sZ S : Nat), vI (-9), vI 1]) ((by rw [show fBk T S = (((fBk T S).toNat : Nat) : Int) by omega]; exact c_X12_whyByR u v T o A tm tr p st S hT hA hR hJ (fBk T S).toNat (by omega) (sZ S) (Nat.le_refl _) (-9) (Or.inl rfl) 1 (Or.inr rfl) (stO_R hZ hst))) lkX12_whyBy mlX12_206 dX12_learnOn_35 (by decide) rfl rfl (by decide) rfl (Nat.le_of_ble_eq_true rfl) ⟨Nat.le_refl _, Nat.le_refl _⟩ ?_
          intro v w1 hq
          obtain ⟨rfl, rfl⟩ := hq
          refine cv_istore_n dX12_learnOn_38 (by decide) rfl rfl ?_
          exact top _ _ (hwy.1 (by omega) b)
        · refine cv_sameV (b := 0) (avs := [vR 5, vI (fBk T S), vI (sZ S : Nat), vI (-9), vI 1]) ((by rw [show fBk T S = 10 + (((fBk T S - 10).toNat : Nat) : Int) by omega]; exact c_X12_whyByC u v T o A tm tr p st S hT hA hR hJ (fBk T S - 10).toNat (by omega) (sZ S) (Nat.le_refl _) (-9) (Or.inl rfl) 1 (Or.inr rfl) (stO_R hZ hst))) lkX12_whyBy mlX12_206 dX12_learnOn_35 (by decide) rfl rfl (by decide) rfl (Nat.le_of_ble_eq_true rfl) ⟨Nat.le_refl _, Nat.le_refl _⟩ ?_
          intro v w1 hq
          obtain ⟨rfl, rfl⟩ := hq
          refine cv_istore_n dX12_learnOn_38 (by decide) rfl rfl ?_
          exact top _ _ (hwy.2 (by omega))
      · refine cv_aload_n dX12_learnOn_8 rfl ?_
        refine cv_getf flX12_44 dX12_learnOn_9 rfl rfl ?_
        refine cv_iload_n dX12_learnOn_12 rfl ?_
        refine cv_bipush dX12_learnOn_13 (by decide) ?_
        refine cv_iasj (q) dX12_learnOn_15 rfl (by omega) (by omega) ?_
        refine cv_iinc dX12_learnOn_16 (by decide) rfl rfl rfl ?_
        refine cv_goto (tgt := 2) dX12_learnOn_19 (by decide) ?_
        refine ih (q + 1) _ (by omega) (by omega) (fun r hr => ?_)
        by_cases e : r = q
        · subst e; rw [ct_up_s]
        · rw [ct_up_n e]; exact h9 r (by omega)
  refine cv_iconst dX12_learnOn_0 ?_
  refine cv_istore_n dX12_learnOn_1 (by decide) rfl rfl ?_
  exact l0 9 0 st (by omega) (by omega) (fun r hr => absurd hr (Nat.not_lt_zero _))
