/-! WHAT HOLDS OF EVERY STATE, KEPT BY ALL THAT IS DONE -/
theorem F40_cut {S : ctS} {d : Nat} (hd : d < sC (fF40 S)) : ∃ c, c < sC S ∧ sCs (fF40 S) d = sCs S c ∧ ∀ k : Nat, k < 8 → sCm (fF40 S) (8 * d + k) = sCm S (8 * c + k) := by
  revert hd
  unfold fF40
  split
  · unfold fFF
    cases e : ct_first (fun c => ¬ rsP S (10 + (c : Int))) (sC S) with
    | none => exact fun hd => ⟨d, hd, rfl, fun _ _ => rfl⟩
    | some c =>
      intro hd
      have hc := (ct_first_inv e).1
      have hd' : d < sC S - 1 := hd
      have e2 : ∀ d, sCs (fFg S c) d = if c ≤ d ∧ d < c + (sC S - c - 1) then sCs S (c + 1 + (d - c)) else sCs S d := fun _ => rfl
      have e3 : ∀ d, sCm (fFg S c) d = if 8 * c ≤ d ∧ d < 8 * c + 8 * (sC S - c - 1) then sCm S (8 * c + 8 + (d - 8 * c)) else sCm S d := fun _ => rfl
      by_cases q : c ≤ d
      · refine ⟨d + 1, by omega, ?_, fun k hk => ?_⟩
        · show sCs (fFg S c) d = _
          rw [e2, if_pos (by omega), show c + 1 + (d - c) = d + 1 by omega]
        · show sCm (fFg S c) (8 * d + k) = _
          rw [e3, if_pos (by omega), show 8 * c + 8 + (8 * d + k - 8 * c) = 8 * (d + 1) + k by omega]
      · refine ⟨d, by omega, ?_, fun k hk => ?_⟩
        · show sCs (fFg S c) d = _
          rw [e2, if_neg (by omega)]
        · show sCm (fFg S c) (8 * d + k) = _
          rw [e3, if_neg (by omega)]
  · exact fun hd => ⟨d, hd, rfl, fun _ _ => rfl⟩
/-- the marks of the cut that is laid -/
theorem fAdd_mk {A : ctS} (F : Nat → Int) (h8 : ∀ i, i < sZ A → F (fRow (sM A i)).toNat = (i : Int) → fCn (fAE A) F i < 8) : ∀ i, i ≤ sZ A → sC (fAdd (fAE A) F i) = sC A + 1 ∧ sCs (fAdd (fAE A) F i) (sC A) = (fCn (fAE A) F i : Int) ∧ ∀ k : Nat, k < fCn (fAE A) F i → ∃ j, j < i ∧ sCm (fAdd (fAE A) F i) (8 * sC A + k) = sM A j ∧ F (fRow (sM A j)).toNat = (j : Int)
  | 0, _ => ⟨rfl, by show ct_up (sCs A) (sC A) 0 (sC A) = _; rw [ct_up_s]; rfl, fun k hk => absurd hk (Nat.not_lt_zero _)⟩
  | i + 1, hi => by
    obtain ⟨e8, e10, e11⟩ := fAdd_mk F h8 i (by omega)
    rw [fAdd_s]
    unfold fCn
    by_cases q : F (fRow (sM (fAE A) i)).toNat = (i : Int)
    · rw [if_pos q, if_pos q]
      have eS : ∀ d, sCs (fPL (fAdd (fAE A) F i) (sM (fAE A) i)) d = ct_up (sCs (fAdd (fAE A) F i)) (sC A) ((fCn (fAE A) F i : Int) + 1) d := fun d => by
        show ct_up (sCs (fAdd (fAE A) F i)) (sC (fAdd (fAE A) F i) - 1) (sCs (fAdd (fAE A) F i) (sC (fAdd (fAE A) F i) - 1) + 1) d = _
        rw [e8, Nat.add_sub_cancel, e10]
      have eM : ∀ d, sCm (fPL (fAdd (fAE A) F i) (sM (fAE A) i)) d = ct_up (sCm (fAdd (fAE A) F i)) (8 * sC A + fCn (fAE A) F i) (sM A i) d := fun d => by
        show ct_up (sCm (fAdd (fAE A) F i)) (8 * (sC (fAdd (fAE A) F i) - 1) + (sCs (fAdd (fAE A) F i) (sC (fAdd (fAE A) F i) - 1)).toNat) (sM A i) d = _
        rw [e8, Nat.add_sub_cancel, e10, Int.toNat_natCast]
      refine ⟨e8, ?_, fun k hk => ?_⟩
      · rw [eS, ct_up_s]; rfl
      · rw [eM]
        by_cases z : k = fCn (fAE A) F i
        · subst z; rw [ct_up_s]; exact ⟨i, by omega, rfl, q⟩
        · rw [ct_up_n (by omega)]
          obtain ⟨j, j1, j2⟩ := e11 k (by omega)
          exact ⟨j, by omega, j2⟩
    · rw [if_neg q, if_neg q]
      refine ⟨e8, e10, fun k hk => ?_⟩
      obtain ⟨j, j1, j2⟩ := e11 k hk
      exact ⟨j, by omega, j2⟩
theorem fCn_pos {S : ctS} {F : Nat → Int} {i : Nat} (h : F (fRow (sM S i)).toNat = (i : Int)) : ∀ n, i < n → 1 ≤ fCn S F n
  | 0, h0 => absurd h0 (Nat.not_lt_zero _)
  | n + 1, h0 => by
    unfold fCn
    by_cases q : i = n
    · subst q; rw [if_pos h]; omega
    · have := fCn_pos h n (by omega)
      split <;> omega
theorem X1_L2 {T : ctT} {S : ctS} (hT : okT T) (h : I1 T S) (he : ¬ fGB (fE T S) 36 = -1) : X1 T (fL2 T S) := by
  intro hz
  obtain ⟨hA, sA, cA⟩ := F40_ok hT h.1
  obtain ⟨h2, sm⟩ := L2_ok hT h.1
  obtain ⟨e1, e2, e3, e4, e5, e6⟩ := sm
  have hM := J_M hA
  have k := fAdd_ok hT hM (fE T S) (sZ S) (by rw [sA.1]; exact Nat.le_refl _)
  obtain ⟨-, -, e8, e9, e10, -⟩ := k
  have eV : fLv (fL2 T S) = fLv S := by unfold fLv; rw [e1, e3]
  have e0 : z0 (fL2 T S) = z0 S := by
    unfold z0
    rw [e1]
    exact fAb_c (sZ S) (fun i _ => by rw [e3])
  rw [eV] at hz
  obtain ⟨n1, n2⟩ := fBk_iff.mp (h.2.1 hz)
  obtain ⟨t1, t2⟩ := fE_st h.1
  have zle : z0 S ≤ sZ S := fAb_le S 0 (sZ S)
  rw [e0, e2, fBk_iff]
  refine ⟨fun r hr => ?_, fun c hc => ?_⟩
  · rw [fLeast_c (S := uBx S (bx T (sM S) (z0 S))) (A := uBx (fL2 T S) (bx T (sM S) (z0 S))) hT (b4_r _)]
    exact n1 r hr
  · have hc' : c < sC (fF40 S) + 1 := e8 ▸ hc
    by_cases q : c = sC (fF40 S)
    · subst q
      have g8 : ∀ i, i < sZ (fF40 S) → fE T S (fRow (sM (fF40 S) i)).toNat = (i : Int) → fCn (fAE (fF40 S)) (fE T S) i < 8 := fun i hi hf => fCn_7 (S := fAE (fF40 S)) hT hM hi hf
      obtain ⟨-, m2, m3⟩ := fAdd_mk (fE T S) g8 (sZ S) (by rw [sA.1]; exact Nat.le_refl _)
      -- a mark is in the set
      rcases gB_in (fE T S) 36 8 with z | ⟨r, hr, r1, r2⟩
      · exact absurd z he
      · have hr0 : ¬ fE T S r = -1 := fun z => he (by show gB (fE T S) 36 8 = -1; rw [← r1]; exact z)
        rcases t1 r hr with z | ⟨z1, z2, z3⟩
        · exact absurd z hr0
        · have hin : fE T S (fRow (sM (fAE (fF40 S)) (fE T S r).toNat)).toNat = (((fE T S r).toNat : Nat) : Int) := by
            show fE T S (fRow (sM (fF40 S) (fE T S r).toNat)).toNat = _
            rw [sA.2.1, z3, Int.toNat_natCast, Int.toNat_of_nonneg z1]
          have hpos := fCn_pos hin (sZ S) (by omega)
          obtain ⟨j, j1, j2, j3⟩ := m3 0 (by omega)
          rw [sA.2.1] at j2 j3
          have mj := J_M h.1 j j1
          have hr8 := fRow_r hT mj
          have hlv : 0 < sL S j := by
            rcases t2 (fRow (sM S j)).toNat (by omega) with y | y
            · rw [j3] at y; omega
            · rw [j3, Int.toNat_natCast] at y; exact y
          have hjz : z0 S ≤ j := by
            rcases Nat.lt_or_ge j (z0 S) with y | y
            · have := fAb_lo (l := 0) h.1.2.2 (sZ S) (Nat.le_refl _) j y
              omega
            · exact y
          intro hcb
          have hs0 := hcb 0 (by show ((0 : Nat) : Int) < sCs (fAdd (fAE (fF40 S)) (fE T S) (sZ S)) (sC (fF40 S)); rw [m2]; omega)
          have hs1 : soP (uBx (fL2 T S) (bx T (sM S) (z0 S))) (sM S j) := by
            have : sCm (uBx (fL2 T S) (bx T (sM S) (z0 S))) (8 * sC (fF40 S) + 0) = sM S j := j2
            rw [this] at hs0
            exact hs0
          have nw := (h.1.1.1 j j1).2
          have hx := okM_x hT mj
          have hmono := bx_mono hT h.1.1.1 (z0 S) (j - z0 S) (by omega) (sM S j / 100).toNat hx
          rw [show z0 S + (j - z0 S) = j by omega] at hmono
          by_cases s0 : sM S j / 10 % 10 = 0
          · have a1 : sM S j % 10 ≤ (bx T (sM S) (z0 S)).1 (sM S j / 100).toNat := hs1.1 s0
            have a2 := (nw.1 s0).1
            omega
          · have a1 : (bx T (sM S) (z0 S)).2 (sM S j / 100).toNat ≤ sM S j % 10 := hs1.2 s0
            have a2 := (nw.2 s0).2
            omega
    · obtain ⟨c', c1, c2, c3⟩ := F40_cut (S := S) (d := c) (by omega)
      obtain ⟨f1, f2⟩ := e9 c (by omega)
      have r8 := h.1.2.1.2.2.2.1 c' c1
      intro hcb
      refine n2 c' c1 (fun k hk => ?_)
      have hk' : (k : Int) < sCs S c' := hk
      have := hcb k (by show (k : Int) < sCs (fAdd (fAE (fF40 S)) (fE T S) (sZ S)) c; rw [f1, c2]; exact hk')
      have e : sCm (uBx (fL2 T S) (bx T (sM S) (z0 S))) (8 * c + k) = sCm S (8 * c' + k) := (f2 k (by omega)).trans (c3 k (by omega))
      rw [e] at this
      exact this
theorem I1_Ln {T : ctT} {S : ctS} (hT : okT T) (h : I1 T S) (hl : lnP T S) : I1 T (fLn T S) := by
  unfold fLn
  split
  · rename_i he
    have hv := hope hT h hl.2 he
    exact ⟨J_H h.1, fun hz => absurd hv hz, fun _ => ⟨hv, fun z => hl.2 ((fBk_c (S := S) (A := uH S 1) hT (J_C h.1) (b4_r _) ⟨rfl, fun _ _ => ⟨rfl, fun _ _ => rfl⟩⟩).mp z)⟩⟩
  · rename_i he
    obtain ⟨h2, sm⟩ := L2_ok hT h.1
    have hx := X1_L2 hT h he
    have l0 : 0 ≤ fLl T S := by
      unfold fLl
      split
      · exact Int.le_refl _
      · rename_i q
        have hp : pl8 (sZ S) (fE T S) := trI_pl 36 (fP0_pl T S _ _)
        have h3 := gB_r hp (fGB (fE T S) 36) 8 (by omega)
        have q' : ¬ gB (fE T S) (fGB (fE T S) 36) 8 = -1 := q
        have h4 : gB (fE T S) (fGB (fE T S) 36) 8 < (sZ S : Int) := by
          rcases h3.2 with z | z
          · exact z
          · exact absurd z q'
        exact (h.1.2.1.1 (fGB (fE T S) (fGB (fE T S) 36)).toNat (by show (gB (fE T S) (fGB (fE T S) 36) 8).toNat < _; omega)).1
    refine I1_draw hT ⟨J_up h2 _, X1_up hT h2 hx l0, fun z => ?_⟩
    rw [show sH (fUp T (fL2 T S) (fLl T S)) = sH (fL2 T S) from fCut_sH _ _ _, sm.2.2.2.2.2, hl.1] at z
    omega
theorem I1_good {T : ctT} (hT : okT T) : goodI T (I1 T) := by
  have hJ := J_good hT
  refine ⟨hT, fun S h => ?_⟩
  obtain ⟨g1, g2, g3, g4, g5⟩ := hJ.2 S h.1
  refine ⟨g1, fun z => ⟨(g2 z).1, I1_draw hT (I1_left hT h z)⟩, fun z => ?_, fun m hm => I1_made hT h hm, I1_cp hT h⟩
  obtain ⟨k1, k2, k3, k4, k5, -⟩ := g3 z
  exact ⟨k1, k2, k3, k4, k5, I1_Ln hT h z⟩
theorem I1_bg {T : ctT} (hT : okT T) (S : ctS) : I1 T (fBg T S) := I1_draw hT (I1_begin S)
