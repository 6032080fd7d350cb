/-! REASONS ARE NONE, A RULE'S, OR A CUT'S -/
def rq (T : ctT) (S : ctS) : Prop := ∀ i, i < sZ S → sR S i = -1 ∨ (0 ≤ sR S i ∧ sR S i < (tR T : Int)) ∨ 10 ≤ sR S i
theorem rq_put {T : ctT} {S : ctS} {m l q : Int} (h : rq T S) (hq : q = -1 ∨ (0 ≤ q ∧ q < (tR T : Int)) ∨ 10 ≤ q) : rq T (fPut S m l q) := by
  intro i hi
  rw [fPut_Z] at hi
  rw [fPut_R]
  by_cases e : i = sZ S
  · subst e; rw [ct_up_s]; exact hq
  · rw [ct_up_n e]; exact h i (by omega)
theorem fTell_k {T : ctT} {S : ctS} {q : Int × Int} (h : fTell T S = some q) : (0 ≤ q.2 ∧ q.2 < (tR T : Int)) ∨ 10 ≤ q.2 := by
  unfold fTell at h
  cases e : ct_first (fun r => ¬ fTr T S r = -9) (tR T) with
  | some r =>
    rw [e] at h
    have := (ct_first_inv e).1
    have h2 := Option.some.inj h
    subst h2
    exact Or.inl (by show 0 ≤ (r : Int) ∧ (r : Int) < _; omega)
  | none =>
    rw [e] at h
    cases e2 : ct_first (fun c => ¬ fTc S c = -9) (sC S) with
    | some c =>
      rw [e2] at h
      have h2 := Option.some.inj h
      subst h2
      exact Or.inr (by show 10 ≤ 10 + (c : Int); omega)
    | none => rw [e2] at h; cases h
theorem rq_DI {T : ctT} : ∀ (k : Nat) {S : ctS}, rq T S → rq T (fDI T k S)
  | 0, _, h => h
  | k + 1, S, h => by
    unfold fDI
    split
    · cases e : fTell T S with
      | none => exact h
      | some q => exact rq_DI k (rq_put h (Or.inr (fTell_k e)))
    · exact h
theorem rq_draw {T : ctT} {S : ctS} (h : rq T S) : rq T (fDraw T S) := rq_DI 36 h
theorem rq_up {T : ctT} {S : ctS} (h : rq T S) (l : Int) : rq T (fUp T S l) := by
  intro i hi
  have hn := fAb_le S l (sZ S)
  rw [show sZ (fUp T S l) = fAb S l (sZ S) from fCut_sZ _ _ _] at hi
  rw [show sR (fUp T S l) = sR S from fCut_sR _ _ _]
  exact h i (by omega)
theorem rq_made {T : ctT} {S : ctS} (h : rq T S) (m : Int) : rq T (fMade T S m) := by
  by_cases e : mkP T S m
  · rw [fMade_t e]; exact rq_draw (rq_put h (Or.inl rfl))
  · rw [fMade_f e]; exact h
theorem rq_cp {T : ctT} {S : ctS} (h : rq T S) (V : ctS) : rq T (fCp V S) := by
  intro i hi
  have hi' : i < sZ S := hi
  rw [show sR (fCp V S) i = sR S i from cpy_at hi']
  exact h i hi'
theorem rq_F40 {T : ctT} {S : ctS} (h : rq T S) : rq T (fF40 S) := by
  unfold fF40
  split
  · unfold fFF
    cases e : ct_first (fun c => ¬ rsP S (10 + (c : Int))) (sC S) with
    | none => exact h
    | some c =>
      intro i hi
      have h0 := h i hi
      show fLR (fFg S c) (10 + (c : Int)) (sZ (fFg S c)) i = -1 ∨ (0 ≤ fLR (fFg S c) (10 + (c : Int)) (sZ (fFg S c)) i ∧ fLR (fFg S c) (10 + (c : Int)) (sZ (fFg S c)) i < (tR T : Int)) ∨ 10 ≤ fLR (fFg S c) (10 + (c : Int)) (sZ (fFg S c)) i
      rw [fLR_at]
      show (if i < sZ S ∧ 10 + (c : Int) < sR S i then sR S i - 1 else sR S i) = -1 ∨ (0 ≤ (if i < sZ S ∧ 10 + (c : Int) < sR S i then sR S i - 1 else sR S i) ∧ (if i < sZ S ∧ 10 + (c : Int) < sR S i then sR S i - 1 else sR S i) < (tR T : Int)) ∨ 10 ≤ (if i < sZ S ∧ 10 + (c : Int) < sR S i then sR S i - 1 else sR S i)
      split <;> omega
  · exact h
theorem rq_Ln {T : ctT} {S : ctS} (hT : okT T) (hJ : J T S) (h : rq T S) : rq T (fLn T S) := by
  unfold fLn
  split
  · exact h
  · refine rq_draw (rq_up ?_ _)
    obtain ⟨hA, sA, cA⟩ := F40_ok hT hJ
    have k := fAdd_ok hT (J_M hA) (fE T S) (sZ S) (by rw [sA.1]; exact Nat.le_refl _)
    have h4 := rq_F40 h
    intro i hi
    have hi' : i < sZ (fF40 S) := k.1.1 ▸ hi
    rw [show sR (fL2 T S) = sR (fF40 S) from k.2.1]
    exact h4 i hi'
