/-! WHAT IS ALWAYS SO OF A STATE: kept by a new mark, by what is drawn in -/
theorem s4_up (f : Nat → Int) (x : Nat) (v : Int) (hx : x < 4) : s4 (ct_up f x v) = s4 f - f x + v := by
  have h : x = 0 ∨ x = 1 ∨ x = 2 ∨ x = 3 := by omega
  rcases h with rfl | rfl | rfl | rfl <;> simp only [s4, ct_up] <;> simp <;> omega
theorem s4_top {T : ctT} (hT : okT T) : s4 (tT T) ≤ 36 := by
  have h0 := (hT.2.2.2.1 0 (by omega)).2
  have h1 := (hT.2.2.2.1 1 (by omega)).2
  have h2 := (hT.2.2.2.1 2 (by omega)).2
  have h3 := (hT.2.2.2.1 3 (by omega)).2
  unfold s4
  omega
/-- a new mark by its parts -/
theorem nwM_ck {T : ctT} {S : ctS} {m : Int} (hT : okT T) (h : nwM T S m) : (m / 100).toNat < 4 ∧ (m / 100).toNat < tN T ∧ 0 ≤ m % 10 ∧ m % 10 ≤ 9 ∧ (m / 10 % 10 = 0 → sLo S (m / 100).toNat < m % 10 ∧ m % 10 ≤ sHi S (m / 100).toNat) ∧ (¬ m / 10 % 10 = 0 → sLo S (m / 100).toNat ≤ m % 10 ∧ m % 10 < sHi S (m / 100).toNat) := by
  obtain ⟨⟨h1, h2, h3⟩, h4, h5⟩ := h
  have hN := hT.2.1
  unfold soP at h4
  unfold nsP at h5
  refine ⟨by omega, by omega, by omega, by omega, fun hs => ⟨?_, ?_⟩, fun hs => ⟨?_, ?_⟩⟩
  · rcases Int.lt_or_le (sLo S (m / 100).toNat) (m % 10) with q | q
    · exact q
    · exact absurd ⟨fun _ => q, fun z => absurd hs z⟩ h4
  · rcases Int.lt_or_le (sHi S (m / 100).toNat) (m % 10) with q | q
    · exact absurd ⟨fun _ => q, fun z => absurd hs z⟩ h5
    · exact q
  · rcases Int.lt_or_le (m % 10) (sLo S (m / 100).toNat) with q | q
    · exact absurd ⟨fun z => absurd z hs, fun _ => q⟩ h5
    · exact q
  · rcases Int.lt_or_le (m % 10) (sHi S (m / 100).toNat) with q | q
    · exact q
    · exact absurd ⟨fun z => absurd z hs, fun _ => q⟩ h4
theorem s4_ge (f : Nat → Int) (x : Nat) (hx : x < 4) (h : ∀ y, y < 4 → 0 ≤ f y) : f x ≤ s4 f := by
  have h0 := h 0 (by omega)
  have h1 := h 1 (by omega)
  have h2 := h 2 (by omega)
  have h3 := h 3 (by omega)
  have h : x = 0 ∨ x = 1 ∨ x = 2 ∨ x = 3 := by omega
  unfold s4
  rcases h with rfl | rfl | rfl | rfl <;> omega
theorem gS_room {T : ctT} {S : ctS} {m : Int} (hT : okT T) (hS : gS T S) (h : nwM T S m) : sZ S < 36 := by
  obtain ⟨h1, h2, h3, h4, h5, h6⟩ := nwM_ck hT h
  have h7 := s4_ge (fun x => sHi S x - sLo S x) (m / 100).toNat h1 (fun y hy => by have := hS.2.1 y hy; show 0 ≤ sHi S y - sLo S y; omega)
  have h8 := s4_top hT
  have h9 := hS.2.2.1
  by_cases hs : m / 10 % 10 = 0
  · have := h5 hs
    omega
  · have := h6 hs
    omega
theorem fPut_Z (S : ctS) (m l q : Int) : sZ (fPut S m l q) = sZ S + 1 := fDr_sZ _ _
theorem fPut_M (S : ctS) (m l q : Int) : sM (fPut S m l q) = ct_up (sM S) (sZ S) m := fDr_sM _ _
theorem fPut_L (S : ctS) (m l q : Int) : sL (fPut S m l q) = ct_up (sL S) (sZ S) l := fDr_sL _ _
theorem fPut_R (S : ctS) (m l q : Int) : sR (fPut S m l q) = ct_up (sR S) (sZ S) q := fDr_sR _ _
theorem fPut_C (S : ctS) (m l q : Int) : sC (fPut S m l q) = sC S := fDr_sC _ _
theorem fPut_Cm (S : ctS) (m l q : Int) : sCm (fPut S m l q) = sCm S := fDr_sCm _ _
theorem fPut_Cs (S : ctS) (m l q : Int) : sCs (fPut S m l q) = sCs S := fDr_sCs _ _
theorem fPut_H (S : ctS) (m l q : Int) : sH (fPut S m l q) = sH S := fDr_sH _ _
theorem fPut_Lo (S : ctS) (m l q : Int) : sLo (fPut S m l q) = if m / 10 % 10 = 0 then ct_up (sLo S) (m / 100).toNat (m % 10) else sLo S := by
  unfold fPut fDr
  split <;> rfl
theorem fPut_Hi (S : ctS) (m l q : Int) : sHi (fPut S m l q) = if m / 10 % 10 = 0 then sHi S else ct_up (sHi S) (m / 100).toNat (m % 10) := by
  unfold fPut fDr
  split <;> rfl
theorem ct_upx {f : Nat → Int} {k : Nat} {v : Int} {P : Nat → Int → Prop} {n : Nat} (h0 : P k v) (h : ∀ i, i < n → i ≠ k → P i (f i)) : ∀ i, i < n → P i (ct_up f k v i) := by
  intro i hi
  by_cases e : i = k
  · subst e; rw [ct_up_s]; exact h0
  · rw [ct_up_n e]; exact h i hi e
theorem gS_put {T : ctT} {S : ctS} {m l q : Int} (hT : okT T) (hS : gS T S) (hm : nwM T S m) (hl : 0 ≤ l ∧ l ≤ sZ S + 1) (hq : -1 ≤ q ∧ q ≤ 49) : gS T (fPut S m l q) := by
  have hroom := gS_room hT hS hm
  obtain ⟨c1, c2, c3, c4, c5, c6⟩ := nwM_ck hT hm
  obtain ⟨⟨o1, o2, o3, o4, o5, o6, o7, o8, o9⟩, g2, g3, g4⟩ := hS
  refine ⟨⟨by rw [fPut_Z]; omega, ?_, ?_, ?_, ?_, by rw [fPut_C]; exact o6, by rw [fPut_C, fPut_Cs]; exact o7, by rw [fPut_C, fPut_Cs, fPut_Cm]; exact o8, by rw [fPut_H]; exact o9⟩, ?_, ?_, ?_⟩
  · rw [fPut_Z, fPut_M]
    exact ct_upx (P := fun _ v => okM T v) hm.1 (fun i h1 h2 => o2 i (by omega))
  · rw [fPut_Z, fPut_L]
    exact ct_upx (P := fun _ v => 0 ≤ v ∧ v ≤ 36) (by omega) (fun i h1 h2 => o3 i (by omega))
  · rw [fPut_Z, fPut_R]
    exact ct_upx (P := fun _ v => -1 ≤ v ∧ v ≤ 49) hq (fun i h1 h2 => o4 i (by omega))
  · intro x hx
    rw [fPut_Lo, fPut_Hi]
    have h0 := o5 x hx
    split
    · by_cases e : x = (m / 100).toNat
      · subst e; rw [ct_up_s]; omega
      · rw [ct_up_n e]; exact h0
    · by_cases e : x = (m / 100).toNat
      · subst e; rw [ct_up_s]; omega
      · rw [ct_up_n e]; exact h0
  · intro x hx
    rw [fPut_Lo, fPut_Hi]
    have h0 := g2 x hx
    by_cases hs : m / 10 % 10 = 0
    · rw [if_pos hs, if_pos hs]
      by_cases e : x = (m / 100).toNat
      · subst e; rw [ct_up_s]; have := c5 hs; omega
      · rw [ct_up_n e]; exact h0
    · rw [if_neg hs, if_neg hs]
      by_cases e : x = (m / 100).toNat
      · subst e; rw [ct_up_s]; have := c6 hs; omega
      · rw [ct_up_n e]; exact h0
  · rw [fPut_Z, fPut_Lo, fPut_Hi]
    by_cases hs : m / 10 % 10 = 0
    · rw [if_pos hs, if_pos hs]
      have e : (fun x => sHi S x - ct_up (sLo S) (m / 100).toNat (m % 10) x) = ct_up (fun x => sHi S x - sLo S x) (m / 100).toNat (sHi S (m / 100).toNat - m % 10) := by
        funext x
        unfold ct_up
        split
        · rename_i h; rw [h]
        · rfl
      rw [e, s4_up _ _ _ c1]
      have := c5 hs
      omega
    · rw [if_neg hs, if_neg hs]
      have e : (fun x => ct_up (sHi S) (m / 100).toNat (m % 10) x - sLo S x) = ct_up (fun x => sHi S x - sLo S x) (m / 100).toNat (m % 10 - sLo S (m / 100).toNat) := by
        funext x
        unfold ct_up
        split
        · rename_i h; rw [h]
        · rfl
      rw [e, s4_up _ _ _ c1]
      have := c6 hs
      omega
  · rw [fPut_Z, fPut_L]
    exact ct_upx (P := fun i v => v ≤ i + 1) (by omega) (fun i h1 h2 => g4 i (by omega))
theorem fLv_r {T : ctT} {S : ctS} (hS : gS T S) : 0 ≤ fLv S ∧ fLv S ≤ sZ S := by
  unfold fLv
  split
  · omega
  · have h1 := hS.1.2.2.1 (sZ S - 1) (by omega)
    have h2 := hS.2.2.2 (sZ S - 1) (by omega)
    omega
theorem gS_tell {T : ctT} {S : ctS} {q : Int × Int} (hT : okT T) (hS : gS T S) (h : fTell T S = some q) : gS T (fPut S q.1 (fLv S) q.2) := by
  obtain ⟨h1, h2, h3, h4⟩ := fTell_new hT hS.1 h
  have := fLv_r hS
  exact gS_put hT hS h1 (by omega) (by omega)
theorem gS_DI {T : ctT} (hT : okT T) : ∀ (k : Nat) {S : ctS}, gS T S → gS T (fDI T k S)
  | 0, _, h => h
  | k + 1, S, h => by
    unfold fDI
    split
    · cases e : fTell T S with
      | none => exact h
      | some q => exact gS_DI hT k (gS_tell hT h e)
    · exact h
theorem gS_draw {T : ctT} {S : ctS} (hT : okT T) (h : gS T S) : gS T (fDraw T S) := gS_DI hT 36 h
