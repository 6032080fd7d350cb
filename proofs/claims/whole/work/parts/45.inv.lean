/-! WHAT HOLDS OF EVERY STATE THAT IS REACHED -/
def mno (S : ctS) : Prop := ∀ i j, i ≤ j → j < sZ S → sL S i ≤ sL S j
def J (T : ctT) (S : ctS) : Prop := hist T S ∧ rst T S ∧ mno S
theorem J_g {T : ctT} {S : ctS} (hT : okT T) (h : J T S) : gS T S := gS_of hT h.1 h.2.1
theorem lv_top {S : ctS} (h : mno S) : ∀ i, i < sZ S → sL S i ≤ fLv S := by
  intro i hi
  unfold fLv
  rw [if_neg (by omega)]
  exact h i (sZ S - 1) (by omega) (by omega)
theorem J_put {T : ctT} {S : ctS} {m l q : Int} (hT : okT T) (h : J T S) (hm : nwM T S m) (hl : fLv S ≤ l ∧ l ≤ fLv S + 1) (hq : -1 ≤ q ∧ q < 10 + (sC S : Int)) : J T (fPut S m l q) := by
  have hv := fLv_r (J_g hT h)
  obtain ⟨h1, ⟨r1, r2, r3, r4, r5, r6⟩, h3⟩ := h
  refine ⟨hist_put hT h1 hm l q, ⟨fun i hi => ?_, fun i hi => ?_, ?_, ?_, ?_, ?_⟩, fun i j hij hj => ?_⟩
  · rw [fPut_Z] at hi
    rw [fPut_L]
    by_cases e : i = sZ S
    · subst e; rw [ct_up_s]; omega
    · rw [ct_up_n e]; exact r1 i (by omega)
  · rw [fPut_Z] at hi
    rw [fPut_R, fPut_C]
    by_cases e : i = sZ S
    · subst e; rw [ct_up_s]; exact hq
    · rw [ct_up_n e]; exact r2 i (by omega)
  · rw [fPut_C]; exact r3
  · rw [fPut_C, fPut_Cs]; exact r4
  · rw [fPut_C, fPut_Cs, fPut_Cm]; exact r5
  · rw [fPut_H]; exact r6
  · rw [fPut_Z] at hj
    rw [fPut_L]
    by_cases e : j = sZ S
    · subst e
      rw [ct_up_s]
      by_cases e2 : i = sZ S
      · subst e2; rw [ct_up_s]; exact Int.le_refl _
      · rw [ct_up_n e2]
        have := lv_top h3 i (by omega)
        omega
    · rw [ct_up_n e, ct_up_n (by omega)]
      exact h3 i j hij (by omega)
theorem fTell_q {T : ctT} {S : ctS} (hT : okT T) {q : Int × Int} (h : fTell T S = some q) : 0 ≤ q.2 ∧ q.2 < 10 + (sC S : Int) := by
  have hR := hT.2.2.1
  unfold fTell at h
  cases e : ct_first (fun r => ¬ fTr T S r = -9) (tR T) with
  | some r =>
    rw [e] at h
    have := (ct_first_inv e).1
    have h2 := Option.some.inj h
    subst h2
    show 0 ≤ (r : Int) ∧ (r : Int) < _
    omega
  | none =>
    rw [e] at h
    cases e2 : ct_first (fun c => ¬ fTc S c = -9) (sC S) with
    | some c =>
      rw [e2] at h
      have := (ct_first_inv e2).1
      have h2 := Option.some.inj h
      subst h2
      show 0 ≤ 10 + (c : Int) ∧ 10 + (c : Int) < _
      omega
    | none => rw [e2] at h; cases h
theorem J_DI {T : ctT} (hT : okT T) : ∀ (k : Nat) {S : ctS}, J T S → J T (fDI T k S)
  | 0, _, h => h
  | k + 1, S, h => by
    unfold fDI
    split
    · cases e : fTell T S with
      | none => exact h
      | some q =>
        have h2 := fTell_q hT e
        exact J_DI hT k (J_put hT h (fTell_new hT (J_g hT h).1 e).1 ⟨Int.le_refl _, by omega⟩ (by omega))
    · exact h
theorem J_draw {T : ctT} {S : ctS} (hT : okT T) (h : J T S) : J T (fDraw T S) := J_DI hT 36 h
theorem J_cut {T : ctT} {S : ctS} (h : J T S) {n : Nat} (hn : n ≤ sZ S) : J T (fCut T S n) := by
  obtain ⟨h1, ⟨r1, r2, r3, r4, r5, r6⟩, h3⟩ := h
  refine ⟨hist_cut (fun i hi => h1.1 i (by omega)), ⟨?_, ?_, ?_, ?_, ?_, ?_⟩, ?_⟩
  · rw [fCut_sZ, fCut_sL]; exact fun i hi => r1 i (by omega)
  · rw [fCut_sZ, fCut_sR, fCut_sC]; exact fun i hi => r2 i (by omega)
  · rw [fCut_sC]; exact r3
  · rw [fCut_sC, fCut_sCs]; exact r4
  · rw [fCut_sC, fCut_sCs, fCut_sCm]; exact r5
  · rw [fCut_sH]; exact r6
  · intro i j hij hj
    rw [fCut_sZ] at hj
    rw [fCut_sL]
    exact h3 i j hij (by omega)
theorem J_up {T : ctT} {S : ctS} (h : J T S) (l : Int) : J T (fUp T S l) := J_cut h (fAb_le S l (sZ S))
theorem J_made {T : ctT} {S : ctS} (hT : okT T) (h : J T S) {m : Int} (hm : okm m) : J T (fMade T S m) := by
  by_cases e : mkP T S m
  · rw [fMade_t e]
    exact J_draw hT (J_put hT h (mkP_new hm e) (by omega) (by omega))
  · rw [fMade_f e]; exact h
theorem cpy_at {f g : Nat → Int} {n i : Nat} (h : i < n) : ct_cpy f g 0 0 n i = f i := by
  unfold ct_cpy
  rw [if_pos (by omega), Nat.zero_add, Nat.sub_zero]
theorem J_cp {T : ctT} {S : ctS} (h : J T S) (V : ctS) : J T (fCp V S) := by
  obtain ⟨⟨h1, h2⟩, ⟨r1, r2, r3, r4, r5, r6⟩, h3⟩ := h
  have eZ : sZ (fCp V S) = sZ S := rfl
  have eC : sC (fCp V S) = sC S := rfl
  have eH : sH (fCp V S) = sH S := rfl
  have eM : ∀ i, i < sZ S → sM (fCp V S) i = sM S i := fun i hi => cpy_at hi
  have eL : ∀ i, i < sZ S → sL (fCp V S) i = sL S i := fun i hi => cpy_at hi
  have eR : ∀ i, i < sZ S → sR (fCp V S) i = sR S i := fun i hi => cpy_at hi
  have eLo : ∀ x, x < 4 → sLo (fCp V S) x = sLo S x := fun i hi => cpy_at hi
  have eHi : ∀ x, x < 4 → sHi (fCp V S) x = sHi S x := fun i hi => cpy_at hi
  have eCs : ∀ c, c < sC S → sCs (fCp V S) c = sCs S c := fun i hi => cpy_at hi
  have eCm : ∀ c, c < 8 * sC S → sCm (fCp V S) c = sCm S c := fun i hi => cpy_at hi
  refine ⟨⟨?_, ?_⟩, ⟨fun i hi => ?_, fun i hi => ?_, r3, fun c hc => ?_, fun c k hc hk => ?_, r6⟩, fun i j hij hj => ?_⟩
  · rw [eZ]; exact hs_c (fun i hi => (eM i hi).symm) h1
  · rw [eZ]
    unfold bx
    rw [rp_c _ _ (fun i hi => eM i hi)]
    intro x hx
    show sLo (fCp V S) x = _ ∧ sHi (fCp V S) x = _
    rw [eLo x hx, eHi x hx]
    exact h2 x hx
  · rw [eZ] at hi; rw [eL i hi]; exact r1 i hi
  · rw [eZ] at hi; rw [eR i hi, eC]; exact r2 i hi
  · rw [eC] at hc; rw [eCs c hc]; exact r4 c hc
  · rw [eC] at hc
    rw [eCs c hc] at hk
    have := r4 c hc
    rw [eCm _ (by omega)]
    exact r5 c k hc hk
  · rw [eZ] at hj; rw [eL j hj, eL i (by omega)]; exact h3 i j hij hj
theorem J_H {T : ctT} {S : ctS} (h : J T S) : J T (uH S 1) := ⟨h.1, ⟨h.2.1.1, h.2.1.2.1, h.2.1.2.2.1, h.2.1.2.2.2.1, h.2.1.2.2.2.2.1, Or.inr rfl⟩, h.2.2⟩
/-- so many values want so many places -/
theorem ct_pig : ∀ (n k : Nat) (f : Nat → Int), (∀ c, c < k → ∃ i, i < n ∧ f i = 10 + (c : Int)) → k ≤ n
  | 0, k, f, h => by
    rcases Nat.eq_zero_or_pos k with e | e
    · omega
    · obtain ⟨i, hi, -⟩ := h 0 e
      omega
  | n + 1, k, f, h => by
    by_cases e : ∃ c, c < k ∧ f n = 10 + (c : Int)
    · obtain ⟨c0, hc0, e0⟩ := e
      have := ct_pig n (k - 1) (fun i => if 10 + (c0 : Int) < f i then f i - 1 else f i) (fun c hc => by
        by_cases q : c < c0
        · obtain ⟨i, hi, ei⟩ := h c (by omega)
          refine ⟨i, ?_, ?_⟩
          · rcases Nat.lt_succ_iff_lt_or_eq.mp hi with z | z
            · exact z
            · subst z; omega
          · show (if 10 + (c0 : Int) < f i then f i - 1 else f i) = _
            rw [if_neg (by omega)]; exact ei
        · obtain ⟨i, hi, ei⟩ := h (c + 1) (by omega)
          refine ⟨i, ?_, ?_⟩
          · rcases Nat.lt_succ_iff_lt_or_eq.mp hi with z | z
            · exact z
            · subst z; omega
          · show (if 10 + (c0 : Int) < f i then f i - 1 else f i) = _
            rw [if_pos (by omega)]; omega)
      omega
    · have := ct_pig n k f (fun c hc => by
        obtain ⟨i, hi, ei⟩ := h c hc
        refine ⟨i, ?_, ei⟩
        rcases Nat.lt_succ_iff_lt_or_eq.mp hi with z | z
        · exact z
        · subst z; exact absurd ⟨c, hc, ei⟩ e)
      omega
/-- the same trail -/
def smT (S A : ctS) : Prop := sZ A = sZ S ∧ sM A = sM S ∧ sL A = sL S ∧ sLo A = sLo S ∧ sHi A = sHi S ∧ sH A = sH S
theorem J_of {T : ctT} {S A : ctS} (h : J T S) (e : smT S A) (r2 : ∀ i, i < sZ S → -1 ≤ sR A i ∧ sR A i < 10 + (sC A : Int)) (r3 : sC A ≤ 40) (r4 : ∀ c, c < sC A → 0 ≤ sCs A c ∧ sCs A c ≤ 8) (r5 : ∀ c k : Nat, c < sC A → (k : Int) < sCs A c → okM T (sCm A (8 * c + k))) : J T A := by
  obtain ⟨e1, e2, e3, e4, e5, e6⟩ := e
  obtain ⟨h1, r, h3⟩ := h
  refine ⟨?_, ⟨?_, ?_, r3, r4, r5, ?_⟩, ?_⟩
  · unfold hist at h1 ⊢
    rw [e1, e2, e4, e5]; exact h1
  · rw [e1, e3]; exact r.1
  · rw [e1]; exact r2
  · rw [e6]; exact r.2.2.2.2.2
  · unfold mno at h3 ⊢
    rw [e1, e3]; exact h3
theorem F40_ok {T : ctT} {S : ctS} (hT : okT T) (h : J T S) : J T (fF40 S) ∧ smT S (fF40 S) ∧ sC (fF40 S) < 40 := by
  have ho := (J_g hT h).1
  have hr := h.2.1
  unfold fF40
  by_cases h40 : 40 ≤ sC S
  · rw [if_pos h40]
    unfold fFF
    cases e : ct_first (fun c => ¬ rsP S (10 + (c : Int))) (sC S) with
    | none =>
      have h1 := ct_first_inv e
      have := ct_pig (sZ S) 40 (sR S) (fun c hc => Classical.not_not.mp (h1 c (by omega)))
      have := ho.1
      omega
    | some c =>
      obtain ⟨hc, h1, -⟩ := ct_first_inv e
      have hf := okS_Fg ho hc
      have h3 := hr.2.2.1
      have eC : sC (uR (fFg S c) (fLR (fFg S c) (10 + (c : Int)) (sZ (fFg S c)))) = sC S - 1 := rfl
      have sm : smT S (uR (fFg S c) (fLR (fFg S c) (10 + (c : Int)) (sZ (fFg S c)))) := ⟨rfl, rfl, rfl, rfl, rfl, rfl⟩
      refine ⟨J_of h sm (fun i hi => ?_) (by rw [eC]; omega) hf.2.2.2.2.2.2.1 hf.2.2.2.2.2.2.2.1, sm, by show sC S - 1 < 40; omega⟩
      have h5 := hr.2.1 i hi
      have h6 : ¬ sR S i = 10 + (c : Int) := fun z => h1 ⟨i, hi, z⟩
      show -1 ≤ fLR (fFg S c) (10 + (c : Int)) (sZ (fFg S c)) i ∧ fLR (fFg S c) (10 + (c : Int)) (sZ (fFg S c)) i < 10 + ((sC S - 1 : Nat) : Int)
      rw [fLR_at]
      show -1 ≤ (if i < sZ S ∧ 10 + (c : Int) < sR S i then sR S i - 1 else sR S i) ∧ (if i < sZ S ∧ 10 + (c : Int) < sR S i then sR S i - 1 else sR S i) < _
      split <;> omega
  · rw [if_neg h40]
    exact ⟨h, ⟨rfl, rfl, rfl, rfl, rfl, rfl⟩, by omega⟩
/-- the cut's marks are laid: what has changed -/
theorem fAdd_ok {T : ctT} {A : ctS} (hT : okT T) (hM : ∀ i, i < sZ A → okM T (sM A i)) (F : Nat → Int) : ∀ i, i ≤ sZ A → smT A (fAdd (fAE A) F i) ∧ sR (fAdd (fAE A) F i) = sR A ∧ sC (fAdd (fAE A) F i) = sC A + 1 ∧ (∀ c, c < sC A → sCs (fAdd (fAE A) F i) c = sCs A c ∧ ∀ k : Nat, k < 8 → sCm (fAdd (fAE A) F i) (8 * c + k) = sCm A (8 * c + k)) ∧ sCs (fAdd (fAE A) F i) (sC A) = (fCn (fAE A) F i : Int) ∧ (∀ k : Nat, k < fCn (fAE A) F i → okM T (sCm (fAdd (fAE A) F i) (8 * sC A + k)))
  | 0, _ => ⟨⟨rfl, rfl, rfl, rfl, rfl, rfl⟩, rfl, rfl, fun c hc => ⟨by show ct_up (sCs A) (sC A) 0 c = _; rw [ct_up_n (by omega)], fun _ _ => rfl⟩, by show ct_up (sCs A) (sC A) 0 (sC A) = _; rw [ct_up_s]; rfl, fun k hk => absurd hk (Nat.not_lt_zero _)⟩
  | i + 1, hi => by
    obtain ⟨⟨e1, e2, e3, e4, e5, e6⟩, e7, e8, e9, e10, e11⟩ := fAdd_ok hT hM F i (by omega)
    rw [fAdd_s]
    unfold fCn
    by_cases q : F (fRow (sM (fAE A) i)).toNat = (i : Int)
    · rw [if_pos q, if_pos q]
      have h7 := fCn_7 (S := fAE A) hT hM (show i < sZ (fAE A) from by show i < sZ A; omega) q
      have eS : ∀ d, sCs (fPL (fAdd (fAE A) F i) (sM (fAE A) i)) d = ct_up (sCs (fAdd (fAE A) F i)) (sC A) ((fCn (fAE A) F i : Int) + 1) d := fun d => by
        show ct_up (sCs (fAdd (fAE A) F i)) (sC (fAdd (fAE A) F i) - 1) (sCs (fAdd (fAE A) F i) (sC (fAdd (fAE A) F i) - 1) + 1) d = _
        rw [e8, Nat.add_sub_cancel, e10]
      have eM : ∀ d, sCm (fPL (fAdd (fAE A) F i) (sM (fAE A) i)) d = ct_up (sCm (fAdd (fAE A) F i)) (8 * sC A + fCn (fAE A) F i) (sM A i) d := fun d => by
        show ct_up (sCm (fAdd (fAE A) F i)) (8 * (sC (fAdd (fAE A) F i) - 1) + (sCs (fAdd (fAE A) F i) (sC (fAdd (fAE A) F i) - 1)).toNat) (sM A i) d = _
        rw [e8, Nat.add_sub_cancel, e10, Int.toNat_natCast]
      refine ⟨⟨e1, e2, e3, e4, e5, e6⟩, e7, e8, fun c hc => ⟨?_, fun k hk => ?_⟩, ?_, fun k hk => ?_⟩
      · rw [eS, ct_up_n (by omega)]; exact (e9 c hc).1
      · rw [eM, ct_up_n (by omega)]; exact (e9 c hc).2 k hk
      · rw [eS, ct_up_s]; rfl
      · rw [eM]
        by_cases z : k = fCn (fAE A) F i
        · subst z; rw [ct_up_s]; exact hM i (by omega)
        · rw [ct_up_n (by omega)]; exact e11 k (by omega)
    · rw [if_neg q, if_neg q]
      exact ⟨⟨e1, e2, e3, e4, e5, e6⟩, e7, e8, e9, e10, e11⟩
theorem smT_t {S A B : ctS} (h : smT S A) (k : smT A B) : smT S B := ⟨k.1.trans h.1, k.2.1.trans h.2.1, k.2.2.1.trans h.2.2.1, k.2.2.2.1.trans h.2.2.2.1, k.2.2.2.2.1.trans h.2.2.2.2.1, k.2.2.2.2.2.trans h.2.2.2.2.2⟩
theorem L2_ok {T : ctT} {S : ctS} (hT : okT T) (h : J T S) : J T (fL2 T S) ∧ smT S (fL2 T S) := by
  obtain ⟨hA, sA, cA⟩ := F40_ok hT h
  have hM : ∀ i, i < sZ (fF40 S) → okM T (sM (fF40 S) i) := fun i hi => (hA.1.1 i hi).1
  have k := fAdd_ok hT hM (fE T S) (sZ S) (by rw [sA.1]; exact Nat.le_refl _)
  have c8 := fCn_n8 (S := fAE (fF40 S)) (F := fE T S) hT hM (sZ S) (by show sZ S ≤ sZ (fF40 S); rw [sA.1]; exact Nat.le_refl _)
  have c9 := n8_le (fE T S) (sZ S) 8
  obtain ⟨e1, e7, e8, e9, e10, e11⟩ := k
  have r := hA.2.1
  have sm : smT S (fL2 T S) := smT_t sA e1
  refine ⟨J_of h sm (fun i hi => ?_) ?_ (fun c hc => ?_) (fun c k hc hk => ?_), sm⟩
  · show -1 ≤ sR (fAdd (fAE (fF40 S)) (fE T S) (sZ S)) i ∧ sR (fAdd (fAE (fF40 S)) (fE T S) (sZ S)) i < 10 + (sC (fAdd (fAE (fF40 S)) (fE T S) (sZ S)) : Int)
    have := r.2.1 i (by rw [sA.1]; exact hi)
    rw [e7, e8]
    omega
  · show sC (fAdd (fAE (fF40 S)) (fE T S) (sZ S)) ≤ 40
    rw [e8]; omega
  · have hc' : c < sC (fF40 S) + 1 := e8 ▸ hc
    show 0 ≤ sCs (fAdd (fAE (fF40 S)) (fE T S) (sZ S)) c ∧ sCs (fAdd (fAE (fF40 S)) (fE T S) (sZ S)) c ≤ 8
    by_cases q : c = sC (fF40 S)
    · subst q; rw [e10]; omega
    · rw [(e9 c (by omega)).1]; exact r.2.2.2.1 c (by omega)
  · have hc' : c < sC (fF40 S) + 1 := e8 ▸ hc
    have hk' : (k : Int) < sCs (fAdd (fAE (fF40 S)) (fE T S) (sZ S)) c := hk
    show okM T (sCm (fAdd (fAE (fF40 S)) (fE T S) (sZ S)) (8 * c + k))
    by_cases q : c = sC (fF40 S)
    · subst q
      rw [e10] at hk'
      exact e11 k (by omega)
    · rw [(e9 c (by omega)).1] at hk'
      have := r.2.2.2.1 c (by omega)
      rw [(e9 c (by omega)).2 k (by omega)]
      exact r.2.2.2.2.1 c k (by omega) hk'
theorem J_Ln {T : ctT} {S : ctS} (hT : okT T) (h : J T S) : J T (fLn T S) := by
  unfold fLn
  split
  · exact J_H h
  · exact J_draw hT (J_up (L2_ok hT h).1 _)
theorem J_good {T : ctT} (hT : okT T) : goodI T (J T) := by
  refine ⟨hT, fun S h => ⟨J_g hT h, fun _ => ⟨J_g hT (J_up h _), J_draw hT (J_up h _)⟩, fun _ => ?_, fun m hm => J_made hT h hm, J_cp h⟩⟩
  obtain ⟨hA, sA, cA⟩ := F40_ok hT h
  have h2 := L2_ok hT h
  exact ⟨cA, sA.1, sA.2.1, (J_g hT h2.1).1, J_g hT (J_up h2.1 _), J_Ln hT h⟩
theorem J_begin {T : ctT} (S : ctS) : J T (fCut T (uC (uH S 0) 0) 0) := by
  refine ⟨hist_cut (fun i hi => absurd hi (Nat.not_lt_zero _)), ⟨?_, ?_, ?_, ?_, ?_, ?_⟩, ?_⟩
  · rw [fCut_sZ]; exact fun i hi => absurd hi (Nat.not_lt_zero _)
  · rw [fCut_sZ]; exact fun i hi => absurd hi (Nat.not_lt_zero _)
  · rw [fCut_sC]; exact Nat.zero_le _
  · rw [fCut_sC]; exact fun i hi => absurd hi (Nat.not_lt_zero _)
  · rw [fCut_sC]; exact fun i k hi => absurd hi (Nat.not_lt_zero _)
  · rw [fCut_sH]; exact Or.inl rfl
  · unfold mno
    rw [fCut_sZ]
    exact fun i j _ hj => absurd hj (Nat.not_lt_zero _)
