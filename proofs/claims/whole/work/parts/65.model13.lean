/-- a row while the new cut is laid behind all: places ahead of i have come -/
def pR (S : ctS) (F p : Nat → Int) (i : Nat) (q : Nat → Int) : Prop := (∀ j, (j < 150 + 8 * sC S ∨ 158 + 8 * sC S ≤ j) → q j = p j) ∧ ∀ k, k < fCn (fAE S) F i → q (150 + 8 * sC S + k) = sCm (fAdd (fAE S) F i) (8 * sC S + k)
theorem pR_f {S : ctS} {F p q : Nat → Int} {i : Nat} (h : pR S F p i q) (e : ¬ F (fRow (sM S i)).toNat = (i : Int)) : pR S F p (i + 1) q := by
  have e' : ¬ F (fRow (sM (fAE S) i)).toNat = (i : Int) := e
  refine ⟨h.1, fun k hk => ?_⟩
  unfold fCn at hk
  rw [if_neg e'] at hk
  rw [fAdd_s, if_neg e']
  exact h.2 k hk
theorem pR_t {S : ctS} {F p q : Nat → Int} {i : Nat} (h8 : ∀ i, i < sZ S → F (fRow (sM S i)).toNat = (i : Int) → fCn (fAE S) F i < 8) (hi : i < sZ S) (h : pR S F p i q) (e : F (fRow (sM S i)).toNat = (i : Int)) : pR S F p (i + 1) (ct_up q (150 + 8 * sC S + fCn (fAE S) F i) (sM S i)) := by
  have e' : F (fRow (sM (fAE S) i)).toNat = (i : Int) := e
  have n8 := h8 i hi e
  obtain ⟨e8, e10, e11⟩ := fAdd_mk F h8 i (by omega)
  have eM : ∀ d, sCm (fPL (fAdd (fAE S) F i) (sM (fAE S) i)) d = ct_up (sCm (fAdd (fAE S) F i)) (8 * sC S + fCn (fAE S) F i) (sM S i) d := fun d => by
    show ct_up (sCm (fAdd (fAE S) F i)) (8 * (sC (fAdd (fAE S) F i) - 1) + (sCs (fAdd (fAE S) F i) (sC (fAdd (fAE S) F i) - 1)).toNat) (sM S i) d = _
    rw [e8, Nat.add_sub_cancel, e10, Int.toNat_natCast]
  refine ⟨fun j hj => ?_, fun k hk => ?_⟩
  · rw [ct_up_n (by omega)]; exact h.1 j hj
  · unfold fCn at hk
    rw [if_pos e'] at hk
    rw [fAdd_s, if_pos e', eM]
    by_cases z : k = fCn (fAE S) F i
    · rw [z, ct_up_s, ct_up_s]
    · rw [ct_up_n (by omega), ct_up_n (by omega)]
      exact h.2 k (by omega)
theorem pR_z {S : ctS} {F p q : Nat → Int} {i k : Nat} (h : pR S F p i q) (hk : fCn (fAE S) F i ≤ k) (h8 : k < 8) : pR S F p i (ct_up q (150 + 8 * sC S + k) 0) := by
  refine ⟨fun j hj => ?_, fun l hl => ?_⟩
  · rw [ct_up_n (by omega)]; exact h.1 j hj
  · rw [ct_up_n (by omega)]; exact h.2 l hl
theorem Rep_add {T : ctT} {S : ctS} {F p q : Nat → Int} (hT : okT T) (hJ : J T S) (hZ : sZ S ≤ 36) (hC : sC S < 40) (hR : Rep S p) (h : pR S F p (sZ S) q) : Rep (fAdd (fAE S) F (sZ S)) (ct_up (ct_up q (110 + sC S) (fCn (fAE S) F (sZ S) : Int)) 109 ((sC S : Int) + 1)) := by
  obtain ⟨⟨m1, m2, m3, m4, m5, m6⟩, k2, k3, k4, k5, k6⟩ := fAdd_ok hT (J_M hJ) F (sZ S) (Nat.le_refl _)
  obtain ⟨h1, h2, h3, h4, h5⟩ := hR
  have far : ∀ j, (j < 150 + 8 * sC S ∨ 158 + 8 * sC S ≤ j) → ¬ j = 110 + sC S → ¬ j = 109 → ct_up (ct_up q (110 + sC S) (fCn (fAE S) F (sZ S) : Int)) 109 ((sC S : Int) + 1) j = p j := fun j a b c => by
    rw [ct_up_n c, ct_up_n b]; exact h.1 j a
  refine ⟨?_, fun i hi => ⟨?_, ?_, ?_⟩, ?_, fun c hc => ⟨?_, fun k hk => ?_⟩, ?_⟩
  · rw [far 0 (by omega) (by omega) (by omega), m1]; exact h1
  · rw [m1] at hi
    rw [far _ (by omega) (by omega) (by omega), m2]; exact (h2 i hi).1
  · rw [m1] at hi
    rw [far _ (by omega) (by omega) (by omega), m3]; exact (h2 i hi).2.1
  · rw [m1] at hi
    rw [far _ (by omega) (by omega) (by omega), k2]; exact (h2 i hi).2.2
  · rw [ct_up_s, k3]; omega
  · rw [k3] at hc
    by_cases z : c = sC S
    · subst z
      rw [ct_up_n (by omega), ct_up_s, k5]
    · rw [far _ (by omega) (by omega) (by omega), (k4 c (by omega)).1]; exact (h4 c (by omega)).1
  · rw [k3] at hc
    by_cases z : c = sC S
    · subst z
      rw [k5] at hk
      rw [ct_up_n (by omega), ct_up_n (by omega)]
      exact h.2 k (by omega)
    · rw [(k4 c (by omega)).1] at hk
      have h8 := hJ.2.1.2.2.2.1 c (by omega)
      rw [far _ (by omega) (by omega) (by omega), (k4 c (by omega)).2 k (by omega)]
      exact (h4 c (by omega)).2 k hk
  · rw [far _ (by omega) (by omega) (by omega), m6]; exact h5
set_option maxRecDepth 100000 in
set_option maxHeartbeats 1000000 in
theorem c_X12_addCut (u v : Nat) (T : ctT) (o : Nat → Int) (A : Nat → Nat → Int) (tm tr : Int) (p st : Nat → Int) (S : ctS) (hT : okT T) (hA : rT T A) (hR : Rep S p) (hJ : J T S) (F : Nat → Int) (hs : sF st F) (hr : rwP S F) : CM MX12_addCut (1, 0, 0) [vR 0, vR 5] (wM u v T o A tm tr p st) (fun v1 w => ∃ p1, v1 = some (vI (fCn (fAE (fF40 S)) F (sZ S) : Nat)) ∧ w = wM u v T o A tm tr p1 st ∧ Rep (fAdd (fAE (fF40 S)) F (sZ S)) p1) := by
  refine CM.of (by decide) (Nat.le_of_ble_eq_true rfl) ?_
  show CV MX12_addCut (1, 0, 0) 19 (0, 0) 0 [(0, vR 0), (1, vR 5)] [] (wM u v T o A tm tr p st) _
  have hZ := (J_g hT hJ).1.1
  have hC40 := hJ.2.1.2.2.1
  obtain ⟨hA4, sA, cA⟩ := F40_ok hT hJ
  have zA := sA.1
  have mA := sA.2.1
  have h8 : ∀ i, i < sZ (fF40 S) → F (fRow (sM (fF40 S) i)).toNat = (i : Int) → fCn (fAE (fF40 S)) F i < 8 := fun i hi z => fCn_7 (S := fAE (fF40 S)) hT (fun a ha => J_M hA4 a ha) hi z
  have n8 : ∀ i, i ≤ sZ S → fCn (fAE (fF40 S)) F i ≤ 8 := fun i hi => Nat.le_trans (fCn_n8 (S := fAE (fF40 S)) hT (fun a ha => J_M hA4 a ha) i (by rw [show sZ (fAE (fF40 S)) = sZ S from zA]; exact hi)) (n8_le F i 8)
  have hst : ∀ r, r < 8 → -9 ≤ st r ∧ st r ≤ 100 := fun r hr8 => by
    have h1 := hs r hr8
    have h2 := hr r hr8
    omega
  have fin : ∀ (p : Nat → Int), Rep (fF40 S) p → CV MX12_addCut (1, 0, 0) 19 (0, 0) 32 [(0, vR 0), (1, vR 5)] [] (wM u v T o A tm tr p st) (fun v1 w => ∃ p1, v1 = some (vI (fCn (fAE (fF40 S)) F (sZ S) : Nat)) ∧ w = wM u v T o A tm tr p1 st ∧ Rep (fAdd (fAE (fF40 S)) F (sZ S)) p1) := by
    intro p hR4
    have zf : ∀ (k : Nat) (q : Nat) (p1 : Nat → Int), (8 < q + k) → (q ≤ 8) → (fCn (fAE (fF40 S)) F (sZ S) ≤ q) → (pR (fF40 S) F p (sZ S) p1) → CV MX12_addCut (1, 0, 0) 19 (0, 0) 108 [(0, vR 0), (1, vR 5), (2, vI (sC (fF40 S) : Nat)), (3, vI (fCn (fAE (fF40 S)) F (sZ S) : Nat)), (4, vI q)] [] (wM u v T o A tm tr p1 st) (fun v1 w => ∃ p1, v1 = some (vI (fCn (fAE (fF40 S)) F (sZ S) : Nat)) ∧ w = wM u v T o A tm tr p1 st ∧ Rep (fAdd (fAE (fF40 S)) F (sZ S)) p1) := by
      intro k
      induction k with
      | zero => intro q p1 hk hi hn hp; exact absurd hk (by omega)
      | succ k ih =>
        intro q p1 hk hi hn hp
        refine cv_iload dX12_addCut_108 rfl ?_
        refine cv_bipush dX12_addCut_110 (by decide) ?_
        refine cv_icmp_ge (tgt := 135) dX12_addCut_112 (by decide) (by omega) (fun h112 => ?_) (fun h112 => ?_)
        · refine cv_aload_n dX12_addCut_135 rfl ?_
          refine cv_bipush dX12_addCut_136 (by decide) ?_
          refine cv_iload_n dX12_addCut_138 rfl ?_
          refine cv_iadd dX12_addCut_139 ?_
          refine cv_iload_n dX12_addCut_140 rfl ?_
          refine cv_iasj (110 + sC (fF40 S)) dX12_addCut_141 rfl (by omega) (by omega) ?_
          refine cv_aload_n dX12_addCut_142 rfl ?_
          refine cv_bipush dX12_addCut_143 (by decide) ?_
          refine cv_dup2 dX12_addCut_145 rfl rfl ?_
          refine cv_ialj (109) dX12_addCut_146 rfl (by omega) (by omega) ?_
          rw [show ct_up p1 (110 + sC (fF40 S)) (fCn (fAE (fF40 S)) F (sZ S) : Int) 109 = (sC (fF40 S) : Int) by rw [ct_up_n (by omega), hp.1 109 (by omega)]; exact hR4.2.2.1]
          refine cv_iconst dX12_addCut_147 ?_
          refine cv_iadd dX12_addCut_148 ?_
          refine cv_iasj (109) dX12_addCut_149 rfl (by omega) (by omega) ?_
          refine cv_iload_n dX12_addCut_150 rfl ?_
          refine cv_iret rfl dX12_addCut_151 ⟨Nat.le_refl _, Nat.le_refl _⟩ ⟨_, rfl, rfl, by have := Rep_add (F := F) (p := p) (q := p1) hT hA4 (by omega) cA hR4 (by rw [zA]; exact hp); rw [zA] at this; exact this⟩
        · refine cv_aload_n dX12_addCut_115 rfl ?_
          refine cv_sipush dX12_addCut_116 (by decide) ?_
          refine cv_bipush dX12_addCut_119 (by decide) ?_
          refine cv_iload_n dX12_addCut_121 rfl ?_
          refine cv_imul dX12_addCut_122 ?_
          refine cv_iadd dX12_addCut_123 ?_
          refine cv_iload dX12_addCut_124 rfl ?_
          refine cv_iadd dX12_addCut_126 ?_
          refine cv_iconst dX12_addCut_127 ?_
          refine cv_iasj (150 + 8 * sC (fF40 S) + q) dX12_addCut_128 rfl (by omega) (by omega) ?_
          refine cv_iinc dX12_addCut_129 (by decide) rfl rfl rfl ?_
          refine cv_goto (tgt := 108) dX12_addCut_132 (by decide) ?_
          exact ih (q + 1) _ (by omega) (by omega) (by omega) (pR_z hp hn (by omega))
    have loop1 : ∀ (k : Nat) (i : Nat) (p1 : Nat → Int), sZ S < i + k → i ≤ sZ S → pR (fF40 S) F p i p1 → CV MX12_addCut (1, 0, 0) 19 (0, 0) 42 [(0, vR 0), (1, vR 5), (2, vI (sC (fF40 S) : Nat)), (3, vI (fCn (fAE (fF40 S)) F i : Nat)), (4, vI i)] [] (wM u v T o A tm tr p1 st) (fun v1 w => ∃ p1, v1 = some (vI (fCn (fAE (fF40 S)) F (sZ S) : Nat)) ∧ w = wM u v T o A tm tr p1 st ∧ Rep (fAdd (fAE (fF40 S)) F (sZ S)) p1) := by
      intro k
      induction k with
      | zero => intro i p1 hk h1 h2; exact absurd hk (by omega)
      | succ k ih0 =>
        intro i p1 hk h1 hp
        have rowF : ∀ q, q < 8 → (st q = (i : Int) ↔ (i < sZ S ∧ q = (fRow (sM S i)).toNat ∧ F (fRow (sM S i)).toNat = (i : Int))) := fun q hq8 => by
          have a := hs q hq8
          have b := hr q hq8
          constructor
          · intro e
            rcases b with b | b
            · omega
            · have e1 : F q = (i : Int) := by omega
              rw [e1, Int.toNat_natCast] at b
              rw [b.2.2, Int.toNat_natCast]
              exact ⟨by omega, rfl, e1⟩
          · intro e
            rw [← e.2.1] at e
            omega
        have lB : ∀ (k : Nat) (q n : Nat) (p2 : Nat → Int), (8 < q + k) → (q ≤ 8) → (∀ r, q ≤ r → r < 8 → ¬ st r = (i : Int)) → (CV MX12_addCut (1, 0, 0) 19 (0, 0) 42 [(0, vR 0), (1, vR 5), (2, vI (sC (fF40 S) : Nat)), (3, vI (n : Nat)), (4, vI (i + 1 : Nat))] [] (wM u v T o A tm tr p2 st) (fun v1 w => ∃ p1, v1 = some (vI (fCn (fAE (fF40 S)) F (sZ S) : Nat)) ∧ w = wM u v T o A tm tr p1 st ∧ Rep (fAdd (fAE (fF40 S)) F (sZ S)) p1)) → CV MX12_addCut (1, 0, 0) 19 (0, 0) 53 [(0, vR 0), (1, vR 5), (2, vI (sC (fF40 S) : Nat)), (3, vI (n : Nat)), (4, vI i), (5, vI q)] [] (wM u v T o A tm tr p2 st) (fun v1 w => ∃ p1, v1 = some (vI (fCn (fAE (fF40 S)) F (sZ S) : Nat)) ∧ w = wM u v T o A tm tr p1 st ∧ Rep (fAdd (fAE (fF40 S)) F (sZ S)) p1) := by
          intro k
          induction k with
          | zero => intro q n p2 hq hi hno hih; exact absurd hq (by omega)
          | succ k ih =>
            intro q n p2 hq hi hno hih
            have s0 := fun h : q < 8 => hst q h
            refine cv_iload dX12_addCut_53 rfl ?_
            refine cv_bipush dX12_addCut_55 (by decide) ?_
            refine cv_icmp_ge (tgt := 99) dX12_addCut_57 (by decide) (by omega) (fun h57 => ?_) (fun h57 => ?_)
            · refine cv_iinc dX12_addCut_99 (by decide) rfl rfl rfl ?_
              refine cv_goto (tgt := 42) dX12_addCut_102 (by decide) ?_
              refine cv_loc [0, 1, 2, 3, 4] rfl ?_
              exact hih
            · refine cv_aload_n dX12_addCut_60 rfl ?_
              refine cv_getf flX12_44 dX12_addCut_61 rfl rfl ?_
              refine cv_iload dX12_addCut_64 rfl ?_
              refine cv_ialj (q) dX12_addCut_66 rfl (by omega) (by omega) ?_
              refine cv_iload dX12_addCut_67 rfl ?_
              refine cv_icmp_ne (tgt := 93) dX12_addCut_69 (by decide) (by have := s0 (by omega); omega) (fun h69 => ?_) (fun h69 => ?_)
              · refine cv_iinc dX12_addCut_93 (by decide) rfl rfl rfl ?_
                refine cv_goto (tgt := 53) dX12_addCut_96 (by decide) ?_
                exact ih (q + 1) n p2 (by omega) (by omega) (fun r a b => hno r (by omega) b) hih
              · exact absurd h69 (fun z => hno q (Nat.le_refl _) (by omega) (by omega))
        have lA : ∀ (k : Nat) (q : Nat), (8 < q + k) → (q ≤ (fRow (sM S i)).toNat) → (F (fRow (sM S i)).toNat = (i : Int)) → (i < sZ S) → (CV MX12_addCut (1, 0, 0) 19 (0, 0) 42 [(0, vR 0), (1, vR 5), (2, vI (sC (fF40 S) : Nat)), (3, vI (fCn (fAE (fF40 S)) F i + 1 : Nat)), (4, vI (i + 1 : Nat))] [] (wM u v T o A tm tr (ct_up p1 (150 + 8 * sC (fF40 S) + fCn (fAE (fF40 S)) F i) (sM S i)) st) (fun v1 w => ∃ p1, v1 = some (vI (fCn (fAE (fF40 S)) F (sZ S) : Nat)) ∧ w = wM u v T o A tm tr p1 st ∧ Rep (fAdd (fAE (fF40 S)) F (sZ S)) p1)) → CV MX12_addCut (1, 0, 0) 19 (0, 0) 53 [(0, vR 0), (1, vR 5), (2, vI (sC (fF40 S) : Nat)), (3, vI (fCn (fAE (fF40 S)) F i : Nat)), (4, vI i), (5, vI q)] [] (wM u v T o A tm tr p1 st) (fun v1 w => ∃ p1, v1 = some (vI (fCn (fAE (fF40 S)) F (sZ S) : Nat)) ∧ w = wM u v T o A tm tr p1 st ∧ Rep (fAdd (fAE (fF40 S)) F (sZ S)) p1) := by
          intro k
          induction k with
          | zero =>
            intro q hq hi hE hiz hih
            have hr8 := fRow_r hT (J_M hJ i hiz)
            exact absurd hq (by omega)
          | succ k ih =>
            intro q hq hi hE hiz hih
            have hr8 := fRow_r hT (J_M hJ i hiz)
            have s0 := hst q (by omega)
            have n7 := h8 i (by omega) (by rw [mA]; exact hE)
            refine cv_iload dX12_addCut_53 rfl ?_
            refine cv_bipush dX12_addCut_55 (by decide) ?_
            refine cv_icmp_ge (tgt := 99) dX12_addCut_57 (by decide) (by omega) (fun h57 => ?_) (fun h57 => ?_)
            · exact absurd h57 (by omega)
            · refine cv_aload_n dX12_addCut_60 rfl ?_
              refine cv_getf flX12_44 dX12_addCut_61 rfl rfl ?_
              refine cv_iload dX12_addCut_64 rfl ?_
              refine cv_ialj (q) dX12_addCut_66 rfl (by omega) (by omega) ?_
              refine cv_iload dX12_addCut_67 rfl ?_
              refine cv_icmp_ne (tgt := 93) dX12_addCut_69 (by decide) (by omega) (fun h69 => ?_) (fun h69 => ?_)
              · refine cv_iinc dX12_addCut_93 (by decide) rfl rfl rfl ?_
                refine cv_goto (tgt := 53) dX12_addCut_96 (by decide) ?_
                exact ih (q + 1) (by omega) (by
              have : ¬ q = (fRow (sM S i)).toNat := fun z => h69 ((rowF q (by omega)).mpr ⟨hiz, z, hE⟩)
              omega) hE hiz hih
              · refine cv_aload_n dX12_addCut_72 rfl ?_
                refine cv_sipush dX12_addCut_73 (by decide) ?_
                refine cv_bipush dX12_addCut_76 (by decide) ?_
                refine cv_iload_n dX12_addCut_78 rfl ?_
                refine cv_imul dX12_addCut_79 ?_
                refine cv_iadd dX12_addCut_80 ?_
                refine cv_iload_n dX12_addCut_81 rfl ?_
                refine cv_iadd dX12_addCut_82 ?_
                refine cv_aload_n dX12_addCut_83 rfl ?_
                refine cv_iconst dX12_addCut_84 ?_
                refine cv_iload dX12_addCut_85 rfl ?_
                refine cv_iadd dX12_addCut_87 ?_
                refine cv_ialj (1 + i) dX12_addCut_88 rfl (by omega) (by omega) ?_
                rw [show p1 (1 + i) = sM S i by rw [hp.1 (1 + i) (by omega), ← mA]; exact (hR4.2.1 i (by omega)).1]
                refine cv_iasj (150 + 8 * sC (fF40 S) + fCn (fAE (fF40 S)) F i) dX12_addCut_89 rfl (by omega) (by omega) ?_
                refine cv_iinc dX12_addCut_90 (by decide) rfl rfl rfl ?_
                refine cv_iinc dX12_addCut_93 (by decide) rfl rfl rfl ?_
                refine cv_goto (tgt := 53) dX12_addCut_96 (by decide) ?_
                refine lB 9 (q + 1) _ _ (by omega) (by omega) (fun r a b z => ?_) hih
                have z1 := (rowF r b).mp z
                have z2 := (rowF q (by omega)).mp (by omega)
                omega
        refine cv_iload dX12_addCut_42 rfl ?_
        refine cv_aload_n dX12_addCut_44 rfl ?_
        refine cv_iconst dX12_addCut_45 ?_
        refine cv_ialj (0) dX12_addCut_46 rfl (by omega) (by omega) ?_
        rw [show p1 0 = (sZ S : Int) by rw [hp.1 0 (by omega), hR4.1, zA]]
        refine cv_icmp_ge (tgt := 105) dX12_addCut_47 (by decide) (by omega) (fun h47 => ?_) (fun h47 => ?_)
        · refine cv_iload_n dX12_addCut_105 rfl ?_
          refine cv_istore dX12_addCut_106 (by decide) rfl rfl ?_
          have e := show i = sZ S by omega
          rw [e] at hp ⊢
          exact zf 9 (fCn (fAE (fF40 S)) F (sZ S)) p1 (by omega) (n8 _ (Nat.le_refl _)) (Nat.le_refl _) hp
        · refine cv_iconst dX12_addCut_50 ?_
          refine cv_istore dX12_addCut_51 (by decide) rfl rfl ?_
          by_cases E : F (fRow (sM S i)).toNat = (i : Int)
          · refine lA 9 0 (by omega) (Nat.zero_le _) E (by omega) ?_
            have := ih0 (i + 1) _ (by omega) (by omega) (pR_t h8 (by omega) hp (by rw [mA]; exact E))
            rw [mA, show fCn (fAE (fF40 S)) F (i + 1) = fCn (fAE (fF40 S)) F i + 1 from if_pos (by show F (fRow (sM (fF40 S) i)).toNat = (i : Int); rw [mA]; exact E)] at this
            exact this
          · refine lB 9 0 _ _ (by omega) (by omega) (fun r _ b z => E ((rowF r b).mp z).2.2) ?_
            have := ih0 (i + 1) p1 (by omega) (by omega) (pR_f hp (by rw [mA]; exact E))
            rw [show fCn (fAE (fF40 S)) F (i + 1) = fCn (fAE (fF40 S)) F i from if_neg (by show ¬ F (fRow (sM (fF40 S) i)).toNat = (i : Int); rw [mA]; exact E)] at this
            exact this
    refine cv_aload_n dX12_addCut_32 rfl ?_
    refine cv_bipush dX12_addCut_33 (by decide) ?_
    refine cv_ialj (109) dX12_addCut_35 rfl (by omega) (by omega) ?_
    rw [hR4.2.2.1]
    refine cv_istore_n dX12_addCut_36 (by decide) rfl rfl ?_
    refine cv_iconst dX12_addCut_37 ?_
    refine cv_istore_n dX12_addCut_38 (by decide) rfl rfl ?_
    refine cv_iconst dX12_addCut_39 ?_
    refine cv_istore dX12_addCut_40 (by decide) rfl rfl ?_
    exact loop1 (sZ S + 1) 0 p (by omega) (by omega) ⟨fun _ _ => rfl, fun k hk => absurd hk (Nat.not_lt_zero _)⟩
  have free : sC S = 40 → ∃ g, ct_first (fun c => ¬ rsP S (10 + (c : Int))) (sC S) = some g := fun h => by
    cases e : ct_first (fun c => ¬ rsP S (10 + (c : Int))) (sC S) with
    | some g => exact ⟨g, rfl⟩
    | none =>
      refine absurd cA ?_
      unfold fF40 fFF
      rw [if_pos (by omega), e]
      show ¬ sC S < 40
      omega
  have wl : ∀ (g : Nat), sC S = 40 → ct_first (fun c => ¬ rsP S (10 + (c : Int))) (sC S) = some g → ∀ (k : Nat) (c : Nat), g < c + k → c ≤ g → CV MX12_addCut (1, 0, 0) 19 (0, 0) 11 [(0, vR 0), (1, vR 5), (2, vI c)] [] (wM u v T o A tm tr p st) (fun v1 w => ∃ p1, v1 = some (vI (fCn (fAE (fF40 S)) F (sZ S) : Nat)) ∧ w = wM u v T o A tm tr p1 st ∧ Rep (fAdd (fAE (fF40 S)) F (sZ S)) p1) := by
    intro g h40 eg
    obtain ⟨g1, g2, g3⟩ := ct_first_inv eg
    intro k
    induction k with
    | zero => intro c hk h1; exact absurd hk (by omega)
    | succ k ih =>
      intro c hk h1
      refine cv_aload_n dX12_addCut_11 rfl ?_
      refine cv_aload_n dX12_addCut_12 rfl ?_
      refine cv_iload_n dX12_addCut_13 rfl ?_
      refine cv_sameV (c_X12_isReason u v T o A tm tr p st S hT hA hR hJ c (by omega)) lkX12_isReason mlX12_210 dX12_addCut_14 (by decide) rfl rfl (by decide) rfl (Nat.le_of_ble_eq_true rfl) ⟨Nat.le_refl _, Nat.le_refl _⟩ ?_
      intro v w1 hq
      obtain ⟨rfl, rfl⟩ := hq
      have i1 := ct_i_r (rsP S (10 + (c : Int)))
      refine cv_if_eq (tgt := 26) dX12_addCut_17 (by decide) (by omega) (fun h17 => ?_) (fun h17 => ?_)
      · refine cv_aload_n dX12_addCut_26 rfl ?_
        refine cv_aload_n dX12_addCut_27 rfl ?_
        refine cv_iload_n dX12_addCut_28 rfl ?_
        refine cv_sameV (c_X12_forget u v T o A tm tr p st S hT hA hR hJ c (by omega)) lkX12_forget mlX12_213 dX12_addCut_29 (by decide) rfl rfl (by decide) rfl (Nat.le_of_ble_eq_true rfl) ⟨Nat.le_refl _, Nat.le_refl _⟩ ?_
        intro v w1 hq
        obtain ⟨p1, rfl, rfl, hp1⟩ := hq
        refine cv_loc [0, 1] rfl ?_
        refine fin p1 ?_
        have e : c = g := by
          rcases Nat.lt_or_ge c g with z | z
          · exact absurd (g3 c z) (fun y => y (ct_i_0.mp (by omega)))
          · omega
        subst e
        unfold fF40 fFF
        rw [if_pos (by omega), eg]
        exact hp1
      · refine cv_iinc dX12_addCut_20 (by decide) rfl rfl rfl ?_
        refine cv_goto (tgt := 11) dX12_addCut_23 (by decide) ?_
        refine ih (c + 1) (by omega) ?_
        rcases Nat.lt_or_ge c g with z | z
        · exact z
        · exact absurd (ct_i_1.mp (by omega)) (show ¬ rsP S (10 + (c : Int)) from (show c = g by omega) ▸ g2)
  refine cv_aload_n dX12_addCut_0 rfl ?_
  refine cv_bipush dX12_addCut_1 (by decide) ?_
  refine cv_ialj (109) dX12_addCut_3 rfl (by omega) (by omega) ?_
  rw [hR.2.2.1]
  refine cv_bipush dX12_addCut_4 (by decide) ?_
  refine cv_icmp_ne (tgt := 32) dX12_addCut_6 (by decide) (by omega) (fun h6 => ?_) (fun h6 => ?_)
  · exact fin p (by unfold fF40; rw [if_neg (by omega)]; exact hR)
  · refine cv_iconst dX12_addCut_9 ?_
    refine cv_istore_n dX12_addCut_10 (by decide) rfl rfl ?_
    obtain ⟨g, eg⟩ := free (by omega)
    exact wl g (by omega) eg (g + 1) 0 (by omega) (by omega)
