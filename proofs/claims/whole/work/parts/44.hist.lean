/-! THE BOUNDS ARE WHAT THE MARKS DREW IN, EACH MARK NEW AT ITS TIME -/
abbrev ctB : Type := (Nat → Int) × (Nat → Int)
def drw (p : ctB) (m : Int) : ctB := if m / 10 % 10 = 0 then (ct_up p.1 (m / 100).toNat (m % 10), p.2) else (p.1, ct_up p.2 (m / 100).toNat (m % 10))
def rp (p : ctB) (M : Nat → Int) : Nat → ctB
  | 0 => p
  | i + 1 => drw (rp p M i) (M i)
def bx (T : ctT) (M : Nat → Int) (n : Nat) : ctB := rp ((fun _ => 0), tT T) M n
theorem bx_s (T : ctT) (M : Nat → Int) (n : Nat) : bx T M (n + 1) = drw (bx T M n) (M n) := rfl
def nwB (p : ctB) (m : Int) : Prop := (m / 10 % 10 = 0 → p.1 (m / 100).toNat < m % 10 ∧ m % 10 ≤ p.2 (m / 100).toNat) ∧ (¬ m / 10 % 10 = 0 → p.1 (m / 100).toNat ≤ m % 10 ∧ m % 10 < p.2 (m / 100).toNat)
def hs (T : ctT) (M : Nat → Int) (n : Nat) : Prop := ∀ i, i < n → okM T (M i) ∧ nwB (bx T M i) (M i)
def b4 (p q : ctB) : Prop := ∀ x, x < 4 → p.1 x = q.1 x ∧ p.2 x = q.2 x
def hist (T : ctT) (S : ctS) : Prop := hs T (sM S) (sZ S) ∧ b4 (sLo S, sHi S) (bx T (sM S) (sZ S))
theorem okM_x {T : ctT} (hT : okT T) {m : Int} (h : okM T m) : (m / 100).toNat < 4 := by
  have := hT.2.1
  unfold okM at h
  omega
theorem rp_c (p : ctB) {M M' : Nat → Int} : ∀ n, (∀ i, i < n → M i = M' i) → rp p M n = rp p M' n
  | 0, _ => rfl
  | n + 1, h => by
    show drw (rp p M n) (M n) = drw (rp p M' n) (M' n)
    rw [rp_c p n (fun i hi => h i (by omega)), h n (by omega)]
theorem drw_b {p q : ctB} (h : b4 p q) (m : Int) : b4 (drw p m) (drw q m) := by
  intro x hx
  obtain ⟨h1, h2⟩ := h x hx
  unfold drw
  split
  · refine ⟨?_, h2⟩
    show ct_up _ _ _ x = ct_up _ _ _ x
    unfold ct_up
    split
    · rfl
    · exact h1
  · refine ⟨h1, ?_⟩
    show ct_up _ _ _ x = ct_up _ _ _ x
    unfold ct_up
    split
    · rfl
    · exact h2
theorem rp_b {p q : ctB} (h : b4 p q) (M : Nat → Int) : ∀ n, b4 (rp p M n) (rp q M n)
  | 0 => h
  | n + 1 => drw_b (rp_b h M n) (M n)
theorem hs_c {T : ctT} {M M' : Nat → Int} {n : Nat} (h : ∀ i, i < n → M i = M' i) (hh : hs T M n) : hs T M' n := by
  intro i hi
  have h1 := hh i hi
  rw [h i hi] at h1
  unfold bx at h1 ⊢
  rw [rp_c _ i (fun j hj => h j (by omega))] at h1
  exact h1
theorem s4_f {f g : Nat → Int} (h : ∀ x, x < 4 → f x = g x) : s4 f = s4 g := by
  unfold s4
  rw [h 0 (by omega), h 1 (by omega), h 2 (by omega), h 3 (by omega)]
theorem bx_ok {T : ctT} (hT : okT T) {M : Nat → Int} {n : Nat} (hh : hs T M n) : ∀ i, i ≤ n → (∀ x, x < 4 → 0 ≤ (bx T M i).1 x ∧ (bx T M i).1 x ≤ (bx T M i).2 x ∧ (bx T M i).2 x ≤ tT T x) ∧ (i : Int) + s4 (fun x => (bx T M i).2 x - (bx T M i).1 x) ≤ s4 (tT T)
  | 0, _ => by
    refine ⟨fun x hx => ?_, ?_⟩
    · have := hT.2.2.2.1 x hx
      exact ⟨Int.le_refl 0, this.1, Int.le_refl _⟩
    · have : s4 (fun x => (bx T M 0).2 x - (bx T M 0).1 x) = s4 (tT T) := s4_f (fun x _ => by show tT T x - 0 = tT T x; omega)
      omega
  | i + 1, hi => by
    obtain ⟨h1, h2⟩ := bx_ok hT hh i (by omega)
    obtain ⟨k1, k2⟩ := hh i (by omega)
    have hx0 := okM_x hT k1
    have hq := h1 _ hx0
    rw [bx_s]
    by_cases hs : M i / 10 % 10 = 0
    · have k3 := k2.1 hs
      have e : drw (bx T M i) (M i) = (ct_up (bx T M i).1 (M i / 100).toNat (M i % 10), (bx T M i).2) := if_pos hs
      rw [e]
      refine ⟨fun x hx => ?_, ?_⟩
      · show 0 ≤ ct_up _ _ _ x ∧ ct_up _ _ _ x ≤ _ ∧ _
        by_cases q : x = (M i / 100).toNat
        · subst q
          rw [ct_up_s]
          exact ⟨by omega, k3.2, hq.2.2⟩
        · rw [ct_up_n q]
          exact h1 x hx
      · have e2 : s4 (fun x => (bx T M i).2 x - ct_up (bx T M i).1 (M i / 100).toNat (M i % 10) x) = s4 (ct_up (fun x => (bx T M i).2 x - (bx T M i).1 x) (M i / 100).toNat ((bx T M i).2 (M i / 100).toNat - M i % 10)) := s4_f (fun x _ => by
          by_cases q : x = (M i / 100).toNat
          · subst q; rw [ct_up_s, ct_up_s]
          · rw [ct_up_n q, ct_up_n q])
        show ((i + 1 : Nat) : Int) + s4 (fun x => (bx T M i).2 x - ct_up (bx T M i).1 (M i / 100).toNat (M i % 10) x) ≤ _
        rw [e2, s4_up _ _ _ hx0]
        show ((i + 1 : Nat) : Int) + (s4 (fun x => (bx T M i).2 x - (bx T M i).1 x) - ((bx T M i).2 (M i / 100).toNat - (bx T M i).1 (M i / 100).toNat) + ((bx T M i).2 (M i / 100).toNat - M i % 10)) ≤ _
        omega
    · have k3 := k2.2 hs
      have e : drw (bx T M i) (M i) = ((bx T M i).1, ct_up (bx T M i).2 (M i / 100).toNat (M i % 10)) := if_neg hs
      rw [e]
      refine ⟨fun x hx => ?_, ?_⟩
      · show 0 ≤ _ ∧ _ ≤ ct_up _ _ _ x ∧ ct_up _ _ _ x ≤ _
        by_cases q : x = (M i / 100).toNat
        · subst q
          rw [ct_up_s]
          exact ⟨hq.1, k3.1, by omega⟩
        · rw [ct_up_n q]
          exact h1 x hx
      · have e2 : s4 (fun x => ct_up (bx T M i).2 (M i / 100).toNat (M i % 10) x - (bx T M i).1 x) = s4 (ct_up (fun x => (bx T M i).2 x - (bx T M i).1 x) (M i / 100).toNat (M i % 10 - (bx T M i).1 (M i / 100).toNat)) := s4_f (fun x _ => by
          by_cases q : x = (M i / 100).toNat
          · subst q; rw [ct_up_s, ct_up_s]
          · rw [ct_up_n q, ct_up_n q])
        show ((i + 1 : Nat) : Int) + s4 (fun x => ct_up (bx T M i).2 (M i / 100).toNat (M i % 10) x - (bx T M i).1 x) ≤ _
        rw [e2, s4_up _ _ _ hx0]
        show ((i + 1 : Nat) : Int) + (s4 (fun x => (bx T M i).2 x - (bx T M i).1 x) - ((bx T M i).2 (M i / 100).toNat - (bx T M i).1 (M i / 100).toNat) + (M i % 10 - (bx T M i).1 (M i / 100).toNat)) ≤ _
        omega
theorem hist_put {T : ctT} {S : ctS} (hT : okT T) (h : hist T S) {m : Int} (hm : nwM T S m) (l q : Int) : hist T (fPut S m l q) := by
  obtain ⟨h1, h2⟩ := h
  obtain ⟨c1, c2, c3, c4, c5, c6⟩ := nwM_ck hT hm
  have eM : ∀ i, i < sZ S → sM S i = sM (fPut S m l q) i := fun i hi => by rw [fPut_M, ct_up_n (by omega)]
  have eZ : sM (fPut S m l q) (sZ S) = m := by rw [fPut_M, ct_up_s]
  have eB : bx T (sM (fPut S m l q)) (sZ S) = bx T (sM S) (sZ S) := (rp_c _ _ eM).symm
  obtain ⟨x1, x2⟩ := h2 _ c1
  refine ⟨fun i hi => ?_, ?_⟩
  · rw [fPut_Z] at hi
    by_cases e : i = sZ S
    · subst e
      rw [eZ, eB]
      refine ⟨hm.1, fun z => ?_, fun z => ?_⟩
      · rw [← x1, ← x2]; exact c5 z
      · rw [← x1, ← x2]; exact c6 z
    · exact hs_c eM h1 i (by omega)
  · rw [fPut_Z, bx_s, eZ, eB]
    have e2 : (sLo (fPut S m l q), sHi (fPut S m l q)) = drw (sLo S, sHi S) m := by
      rw [fPut_Lo, fPut_Hi]
      unfold drw
      split <;> rfl
    rw [e2]
    exact drw_b h2 m
theorem fRs_b (T : ctT) (S : ctS) : ∀ i x, x < i → sLo (fRs T S i) x = 0 ∧ sHi (fRs T S i) x = tT T x
  | 0, x, h => absurd h (by omega)
  | i + 1, x, h => by
    show ct_up (sLo (fRs T S i)) i 0 x = 0 ∧ ct_up (sHi (fRs T S i)) i (tT T i) x = tT T x
    by_cases e : x = i
    · subst e; rw [ct_up_s, ct_up_s]; exact ⟨rfl, rfl⟩
    · rw [ct_up_n e, ct_up_n e]; exact fRs_b T S i x (by omega)
theorem fDs_b (S : ctS) : ∀ i, (sLo (fDs S i), sHi (fDs S i)) = rp (sLo S, sHi S) (sM S) i
  | 0 => rfl
  | i + 1 => by
    show (sLo (fDr (fDs S i) (sM S i)), sHi (fDr (fDs S i) (sM S i))) = drw (rp (sLo S, sHi S) (sM S) i) (sM S i)
    rw [← fDs_b S i]
    unfold fDr drw
    split <;> rfl
theorem hist_cut {T : ctT} {S : ctS} {n : Nat} (h : hs T (sM S) n) : hist T (fCut T S n) := by
  refine ⟨?_, ?_⟩
  · rw [fCut_sM, fCut_sZ]; exact h
  · rw [fCut_sM, fCut_sZ]
    show b4 (sLo (fDs (fRs T (uZ S n) 4) n), sHi (fDs (fRs T (uZ S n) 4) n)) _
    rw [fDs_b, fRs_sM]
    exact rp_b (fun x hx => fRs_b T (uZ S n) 4 x hx) (sM S) n
/-- what else is always so: levels, reasons, cuts -/
def rst (T : ctT) (S : ctS) : Prop := (∀ i, i < sZ S → 0 ≤ sL S i ∧ sL S i ≤ i + 1) ∧ (∀ i, i < sZ S → -1 ≤ sR S i ∧ sR S i < 10 + (sC S : Int)) ∧ sC S ≤ 40 ∧ (∀ c, c < sC S → 0 ≤ sCs S c ∧ sCs S c ≤ 8) ∧ (∀ c k : Nat, c < sC S → (k : Int) < sCs S c → okM T (sCm S (8 * c + k))) ∧ (sH S = 0 ∨ sH S = 1)
theorem gS_of {T : ctT} {S : ctS} (hT : okT T) (h : hist T S) (r : rst T S) : gS T S := by
  obtain ⟨h1, h2⟩ := h
  obtain ⟨b1, b2⟩ := bx_ok hT h1 (sZ S) (Nat.le_refl _)
  have t36 := s4_top hT
  have e4 : s4 (fun x => sHi S x - sLo S x) = s4 (fun x => (bx T (sM S) (sZ S)).2 x - (bx T (sM S) (sZ S)).1 x) := s4_f (fun x hx => by
    obtain ⟨q1, q2⟩ := h2 x hx
    show sHi S x - sLo S x = _
    rw [show sHi S x = (bx T (sM S) (sZ S)).2 x from q2, show sLo S x = (bx T (sM S) (sZ S)).1 x from q1])
  have p4 : 0 ≤ s4 (fun x => (bx T (sM S) (sZ S)).2 x - (bx T (sM S) (sZ S)).1 x) := by
    have a0 := b1 0 (by omega)
    have a1 := b1 1 (by omega)
    have a2 := b1 2 (by omega)
    have a3 := b1 3 (by omega)
    unfold s4
    dsimp only
    omega
  have hZ : sZ S ≤ 36 := by omega
  have lo : ∀ x, x < 4 → 0 ≤ sLo S x ∧ sLo S x ≤ sHi S x ∧ sHi S x ≤ tT T x := fun x hx => by
    obtain ⟨q1, q2⟩ := h2 x hx
    have := b1 x hx
    rw [show sHi S x = (bx T (sM S) (sZ S)).2 x from q2, show sLo S x = (bx T (sM S) (sZ S)).1 x from q1]
    exact this
  refine ⟨⟨hZ, fun i hi => (h1 i hi).1, fun i hi => ?_, fun i hi => ?_, fun x hx => ?_, r.2.2.1, r.2.2.2.1, r.2.2.2.2.1, r.2.2.2.2.2⟩, fun x hx => (lo x hx).2, by rw [e4]; exact b2, fun i hi => (r.1 i hi).2⟩
  · have := r.1 i hi; omega
  · have := r.2.1 i hi; have := r.2.2.1; omega
  · have := lo x hx; have := hT.2.2.2.1 x hx; omega
