/-! WHAT A STATE TELLS: least, breaks, what rules and cuts tell, drawn in -/
def fLs (T : ctT) (S : ctS) (r : Nat) : Nat → Int
  | 0 => 0
  | x + 1 => fLs T S r x + tW T r x * (if 0 < tW T r x then sLo S x else sHi S x)
def fLeast (T : ctT) (S : ctS) (r : Nat) : Int := fLs T S r (tN T)
def cbP (S : ctS) (c : Nat) : Prop := ∀ k : Nat, (k : Int) < sCs S c → soP S (sCm S (8 * c + k))
noncomputable def fBk (T : ctT) (S : ctS) : Int := match ct_first (fun r => tB T r < fLeast T S r) (tR T) with
  | some r => r
  | none => match ct_first (cbP S) (sC S) with
    | some c => 10 + c
    | none => -9
/-- rule r tells of number x, with room q -/
def trP (T : ctT) (S : ctS) (r : Nat) (q : Int) (x : Nat) : Prop := (0 < tW T r x ∧ sLo S x + q / tW T r x < sHi S x) ∨ (tW T r x < 0 ∧ sLo S x < sHi S x - q / -tW T r x)
def trV (T : ctT) (S : ctS) (r : Nat) (q : Int) (x : Nat) : Int := if 0 < tW T r x then 100 * x + 10 * 1 + (sLo S x + q / tW T r x) else 100 * x + 10 * 0 + (sHi S x - q / -tW T r x)
noncomputable def fTr (T : ctT) (S : ctS) (r : Nat) : Int := if tB T r - fLeast T S r < 0 then -9 else match ct_first (trP T S r (tB T r - fLeast T S r)) (tN T) with
  | some x => trV T S r (tB T r - fLeast T S r) x
  | none => -9
def fNeg (m : Int) : Int := if m / 10 % 10 = 0 then m + 9 else m - 9
/-- mark k of cut c is not so -/
def coP (S : ctS) (c : Nat) (k : Nat) : Prop := ¬ soP S (sCm S (8 * c + k))
noncomputable def fTc (S : ctS) (c : Nat) : Int := match ct_first (coP S c) (sCs S c).toNat with
  | none => -9
  | some k => @ite _ ((∃ j, k < j ∧ j < (sCs S c).toNat ∧ coP S c j) ∨ nsP S (sCm S (8 * c + k))) (Classical.propDecidable _) (-9) (fNeg (sCm S (8 * c + k)))
noncomputable def fTell (T : ctT) (S : ctS) : Option (Int × Int) := match ct_first (fun r => ¬ fTr T S r = -9) (tR T) with
  | some r => some (fTr T S r, (r : Int))
  | none => match ct_first (fun c => ¬ fTc S c = -9) (sC S) with
    | some c => some (fTc S c, 10 + (c : Int))
    | none => none
noncomputable def fDI (T : ctT) : Nat → ctS → ctS
  | 0, S => S
  | k + 1, S => if fBk T S = -9 then (match fTell T S with
    | some q => fDI T k (fPut S q.1 (fLv S) q.2)
    | none => S) else S
noncomputable def fDraw (T : ctT) (S : ctS) : ctS := fDI T 36 S
/-- a mark that is neither so nor not so -/
def nwM (T : ctT) (S : ctS) (m : Int) : Prop := okM T m ∧ ¬ soP S m ∧ ¬ nsP S m
def s4 (f : Nat → Int) : Int := f 0 + f 1 + f 2 + f 3
/-- what is always so of a state: bounds inside the tops, each mark took a value away, levels and reasons in their ranges -/
def gS (T : ctT) (S : ctS) : Prop := okS T S ∧ (∀ x, x < 4 → sLo S x ≤ sHi S x ∧ sHi S x ≤ tT T x) ∧ (sZ S : Int) + s4 (fun x => sHi S x - sLo S x) ≤ s4 (tT T) ∧ (∀ i, i < sZ S → sL S i ≤ i + 1)
theorem fLs_r {T : ctT} {S : ctS} (hT : okT T) (hS : okS T S) {r : Nat} (hr : r < 6) : ∀ x : Nat, x ≤ 4 → -27 * (x : Int) ≤ fLs T S r x ∧ fLs T S r x ≤ 27 * (x : Int)
  | 0, _ => by simp [fLs]
  | x + 1, h => by
    have h0 := fLs_r hT hS hr x (by omega)
    obtain ⟨h1, h2⟩ := hT.2.2.2.2.2.1 r x hr (by omega)
    obtain ⟨h3, h4, h5, h6⟩ := hS.2.2.2.2.1 x (by omega)
    have e : fLs T S r (x + 1) = fLs T S r x + tW T r x * (if 0 < tW T r x then sLo S x else sHi S x) := rfl
    rw [e]
    have hb : -27 ≤ tW T r x * (if 0 < tW T r x then sLo S x else sHi S x) ∧ tW T r x * (if 0 < tW T r x then sLo S x else sHi S x) ≤ 27 := by
      generalize hv : (if 0 < tW T r x then sLo S x else sHi S x) = v
      have hv0 : 0 ≤ v ∧ v ≤ 9 := by rw [← hv]; split <;> omega
      generalize tW T r x = a at *
      have ha : a = -3 ∨ a = -2 ∨ a = -1 ∨ a = 0 ∨ a = 1 ∨ a = 2 ∨ a = 3 := by omega
      rcases ha with rfl | rfl | rfl | rfl | rfl | rfl | rfl <;> omega
    omega
theorem fLeast_r {T : ctT} {S : ctS} (hT : okT T) (hS : okS T S) {r : Nat} (hr : r < 6) : -108 ≤ fLeast T S r ∧ fLeast T S r ≤ 108 := by
  have h := fLs_r hT hS hr (tN T) hT.2.1
  have h2 := hT.2.1
  unfold fLeast
  omega
theorem fBk_r {T : ctT} {S : ctS} (hT : okT T) (hS : okS T S) : -9 ≤ fBk T S ∧ fBk T S ≤ 49 := by
  have h1 := hT.2.2.1
  have h2 := hS.2.2.2.2.2.1
  unfold fBk
  cases e : ct_first (fun r => tB T r < fLeast T S r) (tR T) with
  | some r =>
    have := (ct_first_inv e).1
    simp only
    omega
  | none =>
    simp only
    cases e2 : ct_first (cbP S) (sC S) with
    | some c =>
      have := (ct_first_inv e2).1
      simp only
      omega
    | none => simp only; omega
theorem ediv_r {q w : Int} (hq : 0 ≤ q) (hw : 0 < w) : 0 ≤ q / w ∧ q / w ≤ q := ⟨Int.ediv_nonneg hq (by omega), Int.ediv_le_self _ hq⟩
theorem trV_new {T : ctT} {S : ctS} (hT : okT T) (hS : okS T S) (r x : Nat) {q : Int} (hr : r < 6) (hx : x < tN T) (hq : 0 ≤ q) (h : trP T S r q x) : nwM T S (trV T S r q x) ∧ 0 ≤ trV T S r q x := by
  have hN := hT.2.1
  obtain ⟨h3, h4, h5, h6⟩ := hS.2.2.2.2.1 x (by omega)
  unfold trV
  rcases h with ⟨h1, h2⟩ | ⟨h1, h2⟩
  · rw [if_pos h1]
    obtain ⟨a1, a2⟩ := ediv_r hq h1
    generalize q / tW T r x = d at *
    have e0 : (100 * (x : Int) + 10 * 1 + (sLo S x + d)) / 100 = x := by omega
    have e1 : (100 * (x : Int) + 10 * 1 + (sLo S x + d)) / 10 % 10 = 1 := by omega
    have e2 : (100 * (x : Int) + 10 * 1 + (sLo S x + d)) % 10 = sLo S x + d := by omega
    refine ⟨⟨⟨by omega, by omega, by omega⟩, fun hs => ?_, fun hs => ?_⟩, by omega⟩
    · have := hs.2 (by omega)
      rw [e0, e2, Int.toNat_natCast] at this
      omega
    · have := hs.2 (by omega)
      rw [e0, e2, Int.toNat_natCast] at this
      omega
  · rw [if_neg (by omega)]
    obtain ⟨a1, a2⟩ := ediv_r hq (show 0 < -tW T r x by omega)
    generalize q / -tW T r x = d at *
    have e0 : (100 * (x : Int) + 10 * 0 + (sHi S x - d)) / 100 = x := by omega
    have e1 : (100 * (x : Int) + 10 * 0 + (sHi S x - d)) / 10 % 10 = 0 := by omega
    have e2 : (100 * (x : Int) + 10 * 0 + (sHi S x - d)) % 10 = sHi S x - d := by omega
    refine ⟨⟨⟨by omega, by omega, by omega⟩, fun hs => ?_, fun hs => ?_⟩, by omega⟩
    · have := hs.1 e1
      rw [e0, e2, Int.toNat_natCast] at this
      omega
    · have := hs.1 e1
      rw [e0, e2, Int.toNat_natCast] at this
      omega
theorem fNeg_new {T : ctT} {S : ctS} (hT : okT T) (hS : okS T S) {m : Int} (h : nwM T S m) : nwM T S (fNeg m) ∧ 0 ≤ fNeg m := by
  obtain ⟨⟨h1, h2, h3⟩, h4, h5⟩ := h
  have hN := hT.2.1
  obtain ⟨l1, l2, l3, l4⟩ := hS.2.2.2.2.1 (m / 100).toNat (by omega)
  unfold soP at h4
  unfold nsP at h5
  unfold fNeg
  by_cases hs : m / 10 % 10 = 0
  · rw [if_pos hs]
    have k1 : sLo S (m / 100).toNat < m % 10 := by
      rcases Int.lt_or_le (sLo S (m / 100).toNat) (m % 10) with q | q
      · exact q
      · exact absurd ⟨fun _ => q, fun z => absurd hs z⟩ h4
    have k2 : m % 10 ≤ sHi S (m / 100).toNat := by
      rcases Int.lt_or_le (sHi S (m / 100).toNat) (m % 10) with q | q
      · exact absurd ⟨fun _ => q, fun z => absurd hs z⟩ h5
      · exact q
    have e0 : (m + 9) / 100 = m / 100 := by omega
    have e1 : (m + 9) / 10 % 10 = 1 := by omega
    have e2 : (m + 9) % 10 = m % 10 - 1 := by omega
    refine ⟨⟨⟨by omega, by omega, by omega⟩, fun hz => ?_, fun hz => ?_⟩, by omega⟩
    · have := hz.2 (by omega)
      rw [e0, e2] at this
      omega
    · have := hz.2 (by omega)
      rw [e0, e2] at this
      omega
  · rw [if_neg hs]
    have k1 : m % 10 < sHi S (m / 100).toNat := by
      rcases Int.lt_or_le (m % 10) (sHi S (m / 100).toNat) with q | q
      · exact q
      · exact absurd ⟨fun z => absurd z hs, fun _ => q⟩ h4
    have k2 : sLo S (m / 100).toNat ≤ m % 10 := by
      rcases Int.lt_or_le (m % 10) (sLo S (m / 100).toNat) with q | q
      · exact absurd ⟨fun z => absurd z hs, fun _ => q⟩ h5
      · exact q
    have e0 : (m - 9) / 100 = m / 100 := by omega
    have e1 : (m - 9) / 10 % 10 = 0 := by omega
    have e2 : (m - 9) % 10 = m % 10 + 1 := by omega
    refine ⟨⟨⟨by omega, by omega, by omega⟩, fun hz => ?_, fun hz => ?_⟩, by omega⟩
    · have := hz.1 e1
      rw [e0, e2] at this
      omega
    · have := hz.1 e1
      rw [e0, e2] at this
      omega
theorem fTr_new {T : ctT} {S : ctS} (hT : okT T) (hS : okS T S) {r : Nat} (hr : r < 6) : fTr T S r = -9 ∨ (nwM T S (fTr T S r) ∧ 0 ≤ fTr T S r) := by
  unfold fTr
  by_cases h0 : tB T r - fLeast T S r < 0
  · exact Or.inl (if_pos h0)
  · rw [if_neg h0]
    cases e : ct_first (trP T S r (tB T r - fLeast T S r)) (tN T) with
    | none => exact Or.inl rfl
    | some x =>
      obtain ⟨h1, h2, -⟩ := ct_first_inv e
      exact Or.inr (trV_new hT hS r x hr h1 (by omega) h2)
theorem fTc_new {T : ctT} {S : ctS} (hT : okT T) (hS : okS T S) {c : Nat} (hc : c < sC S) : fTc S c = -9 ∨ (nwM T S (fTc S c) ∧ 0 ≤ fTc S c) := by
  unfold fTc
  cases e : ct_first (coP S c) (sCs S c).toNat with
  | none => exact Or.inl rfl
  | some k =>
    obtain ⟨h1, h2, -⟩ := ct_first_inv e
    simp only
    by_cases h3 : (∃ j, k < j ∧ j < (sCs S c).toNat ∧ coP S c j) ∨ nsP S (sCm S (8 * c + k))
    · exact Or.inl (if_pos h3)
    · rw [if_neg h3]
      exact Or.inr (fNeg_new hT hS ⟨hS.2.2.2.2.2.2.2.1 c k hc (by omega), h2, fun q => h3 (Or.inr q)⟩)
theorem fTell_new {T : ctT} {S : ctS} (hT : okT T) (hS : okS T S) {q : Int × Int} (h : fTell T S = some q) : nwM T S q.1 ∧ 0 ≤ q.1 ∧ 0 ≤ q.2 ∧ q.2 ≤ 49 := by
  have hR := hT.2.2.1
  have hC := hS.2.2.2.2.2.1
  unfold fTell at h
  cases e : ct_first (fun r => ¬ fTr T S r = -9) (tR T) with
  | some r =>
    rw [e] at h
    obtain ⟨h1, h2, -⟩ := ct_first_inv e
    cases h
    rcases fTr_new hT hS (r := r) (by omega) with h3 | h3
    · exact absurd h3 h2
    · exact ⟨h3.1, h3.2, by show (0 : Int) ≤ (r : Int); omega, by show (r : Int) ≤ 49; omega⟩
  | none =>
    rw [e] at h
    simp only at h
    cases e2 : ct_first (fun c => ¬ fTc S c = -9) (sC S) with
    | none => rw [e2] at h; cases h
    | some c =>
      rw [e2] at h
      obtain ⟨h1, h2, -⟩ := ct_first_inv e2
      cases h
      rcases fTc_new hT hS (c := c) (by omega) with h3 | h3
      · exact absurd h3 h2
      · exact ⟨h3.1, h3.2, by show (0 : Int) ≤ 10 + (c : Int); omega, by show 10 + (c : Int) ≤ 49; omega⟩
