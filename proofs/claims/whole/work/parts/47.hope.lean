/-! NOTHING BREAKS BY MARKS OF LEVEL 0 ALONE, ABOVE LEVEL 0; WITHOUT HOPE THERE IS A BREAK AT LEVEL 0 -/
theorem fBk_iff {T : ctT} {S : ctS} : fBk T S = -9 ↔ (∀ r, r < tR T → ¬ tB T r < fLeast T S r) ∧ (∀ c, c < sC S → ¬ cbP S c) := by
  unfold fBk
  cases e : ct_first (fun r => tB T r < fLeast T S r) (tR T) with
  | some r =>
    have h := ct_first_inv e
    refine ⟨fun z => ?_, fun z => absurd h.2.1 (z.1 r h.1)⟩
    have z2 : (r : Int) = -9 := z
    omega
  | none =>
    have h := ct_first_inv e
    cases e2 : ct_first (cbP S) (sC S) with
    | some c =>
      have h2 := ct_first_inv e2
      refine ⟨fun z => ?_, fun z => absurd h2.2.1 (z.2 c h2.1)⟩
      have z2 : 10 + (c : Int) = -9 := z
      omega
    | none => exact ⟨fun _ => ⟨h, ct_first_inv e2⟩, fun _ => rfl⟩
theorem fLs_c {T : ctT} {S A : ctS} (r : Nat) : ∀ x, x ≤ 4 → b4 (sLo S, sHi S) (sLo A, sHi A) → fLs T A r x = fLs T S r x
  | 0, _, _ => rfl
  | x + 1, hx, h => by
    have h1 := fLs_c (T := T) r x (by omega) h
    obtain ⟨h2, h3⟩ := h x (by omega)
    show fLs T A r x + _ * (if _ then sLo A x else sHi A x) = fLs T S r x + _ * (if _ then sLo S x else sHi S x)
    rw [h1, show sLo A x = sLo S x from h2.symm, show sHi A x = sHi S x from h3.symm]
theorem soP_c {S A : ctS} {m : Int} (hm : (m / 100).toNat < 4) (h : b4 (sLo S, sHi S) (sLo A, sHi A)) : soP A m ↔ soP S m := by
  obtain ⟨h2, h3⟩ := h _ hm
  unfold soP
  rw [show sLo A (m / 100).toNat = sLo S (m / 100).toNat from h2.symm, show sHi A (m / 100).toNat = sHi S (m / 100).toNat from h3.symm]
/-- the same cuts, as far as they are seen -/
def smC (S A : ctS) : Prop := sC A = sC S ∧ ∀ c, c < sC S → sCs A c = sCs S c ∧ ∀ k : Nat, (k : Int) < sCs S c → sCm A (8 * c + k) = sCm S (8 * c + k)
def okC (T : ctT) (S : ctS) : Prop := ∀ c k : Nat, c < sC S → (k : Int) < sCs S c → okM T (sCm S (8 * c + k))
theorem cbP_c {T : ctT} {S A : ctS} (hT : okT T) (hm : okC T S) (h : b4 (sLo S, sHi S) (sLo A, sHi A)) (k : smC S A) {c : Nat} (hc : c < sC S) : cbP A c ↔ cbP S c := by
  obtain ⟨k1, k2⟩ := k.2 c hc
  unfold cbP
  rw [k1]
  refine ⟨fun z i hi => ?_, fun z i hi => ?_⟩
  · have := z i hi
    rw [k2 i hi] at this
    exact (soP_c (okM_x hT (hm c i hc hi)) h).mp this
  · rw [k2 i hi]
    exact (soP_c (okM_x hT (hm c i hc hi)) h).mpr (z i hi)
theorem fLeast_c {T : ctT} {S A : ctS} (hT : okT T) (h : b4 (sLo S, sHi S) (sLo A, sHi A)) (r : Nat) : fLeast T A r = fLeast T S r := fLs_c r (tN T) hT.2.1 h
theorem fBk_c {T : ctT} {S A : ctS} (hT : okT T) (hm : okC T S) (h : b4 (sLo S, sHi S) (sLo A, sHi A)) (k : smC S A) : fBk T A = -9 ↔ fBk T S = -9 := by
  rw [fBk_iff, fBk_iff, k.1]
  refine ⟨fun z => ⟨fun r hr => ?_, fun c hc => ?_⟩, fun z => ⟨fun r hr => ?_, fun c hc => ?_⟩⟩
  · have := z.1 r hr; rw [fLeast_c hT h] at this; exact this
  · exact fun q => z.2 c hc ((cbP_c hT hm h k hc).mpr q)
  · rw [fLeast_c hT h]; exact z.1 r hr
  · exact fun q => z.2 c hc ((cbP_c hT hm h k hc).mp q)
/-- a state with other bounds -/
def uBx (S : ctS) (p : ctB) : ctS := uHi (uLo S p.1) p.2
theorem b4_s {p q : ctB} (h : b4 p q) : b4 q p := fun x hx => ⟨(h x hx).1.symm, (h x hx).2.symm⟩
theorem b4_t {p q r : ctB} (h : b4 p q) (k : b4 q r) : b4 p r := fun x hx => ⟨(h x hx).1.trans (k x hx).1, (h x hx).2.trans (k x hx).2⟩
theorem b4_r (p : ctB) : b4 p p := fun _ _ => ⟨rfl, rfl⟩
theorem smC_r (S : ctS) : smC S S := ⟨rfl, fun _ _ => ⟨rfl, fun _ _ => rfl⟩⟩
/-- how many marks of level 0 there are -/
def z0 (S : ctS) : Nat := fAb S 0 (sZ S)
def X1 (T : ctT) (S : ctS) : Prop := ¬ fLv S = 0 → fBk T (uBx S (bx T (sM S) (z0 S))) = -9
def X2 (T : ctT) (S : ctS) : Prop := sH S = 1 → fLv S = 0 ∧ ¬ fBk T S = -9
theorem fAb_c {S A : ctS} {l : Int} : ∀ n, (∀ i, i < n → sL A i = sL S i) → fAb A l n = fAb S l n
  | 0, _ => rfl
  | n + 1, h => by
    unfold fAb
    rw [h n (by omega), fAb_c n (fun i hi => h i (by omega))]
theorem fAb_top {S : ctS} {l : Int} : ∀ {n : Nat}, (n = 0 ∨ sL S (n - 1) ≤ l) → fAb S l n = n
  | 0, _ => rfl
  | n + 1, h => by
    unfold fAb
    rcases h with h | h
    · omega
    · rw [if_neg (by show ¬ l < sL S n; have : sL S n ≤ l := h; omega)]
theorem fAb_2 {S : ctS} {l : Int} (hl : 0 ≤ l) : ∀ n, fAb S 0 (fAb S l n) = fAb S 0 n
  | 0 => rfl
  | n + 1 => by
    by_cases q : l < sL S n
    · rw [show fAb S l (n + 1) = fAb S l n from if_pos q, show fAb S 0 (n + 1) = fAb S 0 n from if_pos (by omega)]
      exact fAb_2 hl n
    · rw [show fAb S l (n + 1) = n + 1 from if_neg q]
theorem fAb_hi {S : ctS} {l : Int} : ∀ n i, fAb S l n ≤ i → i < n → l < sL S i
  | 0, _, _, h => absurd h (Nat.not_lt_zero _)
  | n + 1, i, h, hi => by
    by_cases q : l < sL S n
    · rw [show fAb S l (n + 1) = fAb S l n from if_pos q] at h
      by_cases e : i = n
      · subst e; exact q
      · exact fAb_hi n i h (by omega)
    · rw [show fAb S l (n + 1) = n + 1 from if_neg q] at h
      omega
theorem fAb_lo {S : ctS} {l : Int} (hm : mno S) : ∀ n, n ≤ sZ S → ∀ i, i < fAb S l n → sL S i ≤ l
  | 0, _, _, h => absurd h (Nat.not_lt_zero _)
  | n + 1, hn, i, h => by
    by_cases q : l < sL S n
    · rw [show fAb S l (n + 1) = fAb S l n from if_pos q] at h
      exact fAb_lo hm n (by omega) i h
    · rw [show fAb S l (n + 1) = n + 1 from if_neg q] at h
      have := hm i n (by omega) (by omega)
      omega
theorem fLv_put (S : ctS) (m l q : Int) : fLv (fPut S m l q) = l := by
  unfold fLv
  rw [fPut_Z, if_neg (by omega), fPut_L, Nat.add_sub_cancel, ct_up_s]
theorem J_C {T : ctT} {S : ctS} (h : J T S) : okC T S := h.2.1.2.2.2.2.1
theorem X1_put {T : ctT} {S : ctS} {m l q : Int} (hT : okT T) (h : J T S) (x : X1 T S) (hl : fLv S ≤ l ∧ l ≤ fLv S + 1) (hb : fBk T S = -9) : X1 T (fPut S m l q) := by
  intro hz
  rw [fLv_put] at hz
  have hv := fLv_r (J_g hT h)
  have eL : ∀ i, i < sZ S → sL (fPut S m l q) i = sL S i := fun i hi => by rw [fPut_L, ct_up_n (by omega)]
  have e0 : z0 (fPut S m l q) = z0 S := by
    unfold z0
    rw [fPut_Z]
    show (if 0 < sL (fPut S m l q) (sZ S) then fAb (fPut S m l q) 0 (sZ S) else sZ S + 1) = _
    rw [fPut_L, ct_up_s, if_pos (by omega)]
    exact fAb_c _ eL
  have zle : z0 S ≤ sZ S := fAb_le S 0 (sZ S)
  have eB : bx T (sM (fPut S m l q)) (z0 S) = bx T (sM S) (z0 S) := rp_c _ _ (fun i hi => by rw [fPut_M, ct_up_n (by omega)])
  rw [e0, eB]
  have sc : smC S (uBx (fPut S m l q) (bx T (sM S) (z0 S))) := ⟨fPut_C S m l q, fun c hc => ⟨by show sCs (fPut S m l q) c = _; rw [fPut_Cs], fun k hk => by show sCm (fPut S m l q) _ = _; rw [fPut_Cm]⟩⟩
  by_cases z : fLv S = 0
  · have e1 : z0 S = sZ S := fAb_top (by
      unfold fLv at z
      by_cases q0 : sZ S = 0
      · exact Or.inl q0
      · rw [if_neg q0] at z; exact Or.inr (by omega))
    rw [e1] at sc ⊢
    exact (fBk_c (A := uBx (fPut S m l q) (bx T (sM S) (sZ S))) hT (J_C h) h.1.2 sc).mpr hb
  · exact (fBk_c (S := uBx S (bx T (sM S) (z0 S))) (A := uBx (fPut S m l q) (bx T (sM S) (z0 S))) hT (show okC T S from J_C h) (b4_r _) sc).mpr (x z)
theorem X1_up {T : ctT} {S : ctS} {l : Int} (hT : okT T) (h : J T S) (x : X1 T S) (hl : 0 ≤ l) : X1 T (fUp T S l) := by
  have n1 : sZ (fUp T S l) = fAb S l (sZ S) := fCut_sZ _ _ _
  have eL : sL (fUp T S l) = sL S := fCut_sL _ _ _
  have eM : sM (fUp T S l) = sM S := fCut_sM _ _ _
  have nle := fAb_le S l (sZ S)
  intro hz
  have hv := fLv_r (J_g hT h)
  have hz2 : ¬ fLv S = 0 := fun z => by
    apply hz
    unfold fLv
    rw [n1, eL]
    split
    · rfl
    · rename_i q
      have h1 := lv_top h.2.2 (fAb S l (sZ S) - 1) (by omega)
      have h2 := h.2.1.1 (fAb S l (sZ S) - 1) (by omega)
      omega
  have e0 : z0 (fUp T S l) = z0 S := by
    unfold z0
    rw [n1, fAb_c (S := S) (A := fUp T S l) _ (fun i _ => by rw [eL])]
    exact fAb_2 hl (sZ S)
  rw [e0, eM]
  have sc : smC S (uBx (fUp T S l) (bx T (sM S) (z0 S))) := ⟨fCut_sC _ _ _, fun c hc => ⟨by show sCs (fUp T S l) c = _; rw [show sCs (fUp T S l) = sCs S from fCut_sCs _ _ _], fun k hk => by show sCm (fUp T S l) _ = _; rw [show sCm (fUp T S l) = sCm S from fCut_sCm _ _ _]⟩⟩
  exact (fBk_c (S := uBx S (bx T (sM S) (z0 S))) (A := uBx (fUp T S l) (bx T (sM S) (z0 S))) hT (show okC T S from J_C h) (b4_r _) sc).mpr (x hz2)
/-- the invariant, whole -/
def I1 (T : ctT) (S : ctS) : Prop := J T S ∧ X1 T S ∧ X2 T S
theorem I1_DI {T : ctT} (hT : okT T) : ∀ (k : Nat) {S : ctS}, I1 T S → I1 T (fDI T k S)
  | 0, _, h => h
  | k + 1, S, h => by
    unfold fDI
    split
    · rename_i hb
      cases e : fTell T S with
      | none => exact h
      | some q =>
        have h2 := fTell_q hT e
        refine I1_DI hT k ⟨J_put hT h.1 (fTell_new hT (J_g hT h.1).1 e).1 ⟨Int.le_refl _, by omega⟩ (by omega), X1_put hT h.1 h.2.1 ⟨Int.le_refl _, by omega⟩ hb, fun hz => ?_⟩
        rw [fPut_H] at hz
        exact absurd hb (h.2.2 hz).2
    · exact h
theorem I1_draw {T : ctT} {S : ctS} (hT : okT T) (h : I1 T S) : I1 T (fDraw T S) := I1_DI hT 36 h
theorem I1_made {T : ctT} {S : ctS} (hT : okT T) (h : I1 T S) {m : Int} (hm : okm m) : I1 T (fMade T S m) := by
  by_cases e : mkP T S m
  · rw [fMade_t e]
    refine I1_draw hT ⟨J_put hT h.1 (mkP_new hm e) (by omega) (by omega), X1_put hT h.1 h.2.1 (by omega) e.2.2.2, fun hz => ?_⟩
    rw [fPut_H] at hz
    exact absurd e.2.2.2 (h.2.2 hz).2
  · rw [fMade_f e]; exact h
theorem I1_left {T : ctT} {S : ctS} (hT : okT T) (h : I1 T S) (hz : ¬ fLv S = 0) : I1 T (fUp T S (fLv S - 1)) := by
  have hv := fLv_r (J_g hT h.1)
  refine ⟨J_up h.1 _, X1_up hT h.1 h.2.1 (by omega), fun z => ?_⟩
  rw [show sH (fUp T S (fLv S - 1)) = sH S from fCut_sH _ _ _] at z
  exact absurd (h.2.2 z).1 hz
theorem I1_cp {T : ctT} {S : ctS} (hT : okT T) (h : I1 T S) (V : ctS) : I1 T (fCp V S) := by
  have eZ : sZ (fCp V S) = sZ S := rfl
  have eL : ∀ i, i < sZ S → sL (fCp V S) i = sL S i := fun i hi => cpy_at hi
  have eV : fLv (fCp V S) = fLv S := by
    unfold fLv
    rw [eZ]
    split
    · rfl
    · exact eL _ (by omega)
  have sc : ∀ p, smC S (uBx (fCp V S) p) := fun p => ⟨rfl, fun c hc => ⟨cpy_at hc, fun k hk => by
    have := h.1.2.1.2.2.2.1 c hc
    exact cpy_at (by omega)⟩⟩
  have e0 : z0 (fCp V S) = z0 S := fAb_c (sZ S) eL
  have zle : z0 S ≤ sZ S := fAb_le S 0 (sZ S)
  have eB : bx T (sM (fCp V S)) (z0 S) = bx T (sM S) (z0 S) := rp_c _ _ (fun i hi => cpy_at (by omega))
  refine ⟨J_cp h.1 V, fun hz => ?_, fun hz => ⟨eV.trans (h.2.2 hz).1, fun q => (h.2.2 hz).2 ?_⟩⟩
  · rw [eV] at hz
    rw [e0, eB]
    exact (fBk_c (S := uBx S (bx T (sM S) (z0 S))) (A := uBx (fCp V S) (bx T (sM S) (z0 S))) hT (show okC T S from J_C h.1) (b4_r _) (sc _)).mpr (h.2.1 hz)
  · refine (fBk_c hT (J_C h.1) (fun x hx => ⟨(cpy_at hx).symm, (cpy_at hx).symm⟩) (sc (sLo (fCp V S), sHi (fCp V S)))).mp ?_
    exact q
theorem I1_begin {T : ctT} (S : ctS) : I1 T (fCut T (uC (uH S 0) 0) 0) := by
  refine ⟨J_begin S, fun hz => absurd ?_ hz, fun hz => ?_⟩
  · unfold fLv; rw [fCut_sZ]; rfl
  · rw [fCut_sH] at hz
    have : (0 : Int) = 1 := hz
    omega
