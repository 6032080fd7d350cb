/-! LEARNING KEEPS IT -/
theorem bx_mono {T : ctT} (hT : okT T) {M : Nat → Int} {n : Nat} (hh : hs T M n) (i : Nat) : ∀ d, i + d ≤ n → ∀ x, x < 4 → (bx T M i).1 x ≤ (bx T M (i + d)).1 x ∧ (bx T M (i + d)).2 x ≤ (bx T M i).2 x
  | 0, _, x, _ => ⟨Int.le_refl _, Int.le_refl _⟩
  | d + 1, h, x, hx => by
    obtain ⟨h1, h2⟩ := bx_mono hT hh i d (by omega) x hx
    obtain ⟨k1, k2⟩ := hh (i + d) (by omega)
    rw [← Nat.add_assoc, bx_s]
    unfold drw
    split
    · rename_i q
      have k3 := (k2.1 q).1
      refine ⟨?_, h2⟩
      show _ ≤ ct_up _ _ _ x
      by_cases e : x = (M (i + d) / 100).toNat
      · rw [e] at h1 ⊢; rw [ct_up_s]; omega
      · rw [ct_up_n e]; exact h1
    · rename_i q
      have k3 := (k2.2 q).2
      refine ⟨h1, ?_⟩
      show ct_up _ _ _ x ≤ _
      by_cases e : x = (M (i + d) / 100).toNat
      · rw [e] at h2 ⊢; rw [ct_up_s]; omega
      · rw [ct_up_n e]; exact h2
/-- places of a set or a why: marks of their rows -/
def rwP (S : ctS) (F : Nat → Int) : Prop := ∀ r, r < 8 → F r = -1 ∨ (0 ≤ F r ∧ F r < (sZ S : Int) ∧ fRow (sM S (F r).toNat) = (r : Int))
def lvP (S : ctS) (F : Nat → Int) : Prop := ∀ r, r < 8 → F r = -1 ∨ 0 < sL S (F r).toNat
theorem rw_la {T : ctT} {S : ctS} (hM : ∀ i, i < sZ S → okM T (sM S i)) {e : Nat} {x s : Int} (hs : 0 ≤ s ∧ s ≤ 1) : ct_o (-1) (fLa S e x s) = -1 ∨ (0 ≤ ct_o (-1) (fLa S e x s) ∧ ct_o (-1) (fLa S e x s) < (sZ S : Int) ∧ fRow (sM S (ct_o (-1) (fLa S e x s)).toNat) = 2 * x + s) := by
  cases h : fLa S e x s with
  | none => exact Or.inl rfl
  | some i =>
    obtain ⟨h1, h2, -⟩ := ct_last_inv h
    refine Or.inr ⟨Int.natCast_nonneg i, by show (i : Int) < _; omega, ?_⟩
    show fRow (sM S ((i : Int)).toNat) = _
    rw [Int.toNat_natCast]
    have := hM i (by omega)
    unfold okM at this
    unfold fRow
    omega
theorem rw_up {S : ctS} {G : Nat → Int} (h : rwP S G) {j : Nat} {v : Int} (hv : v = -1 ∨ (0 ≤ v ∧ v < (sZ S : Int) ∧ fRow (sM S v.toNat) = (j : Int))) : rwP S (ct_up G j v) := by
  intro r hr
  by_cases e : r = j
  · subst e; rw [ct_up_s]; exact hv
  · rw [ct_up_n e]; exact h r hr
theorem rw_Wr {T : ctT} {S : ctS} (hM : ∀ i, i < sZ S → okM T (sM S i)) {G : Nat → Int} (h : rwP S G) (r e : Nat) (own : Int) : ∀ x, rwP S (fWr T S G r e own x)
  | 0 => h
  | x + 1 => by
    unfold fWr
    split
    · refine rw_up (rw_Wr hM h r e own x) ?_
      split
      · have := rw_la hM (e := e) (x := (x : Int)) (s := 0) (by omega)
        rw [show ((2 * x + 0 : Nat) : Int) = 2 * (x : Int) + 0 by omega]; exact this
      · have := rw_la hM (e := e) (x := (x : Int)) (s := 1) (by omega)
        rw [show ((2 * x + 1 : Nat) : Int) = 2 * (x : Int) + 1 by omega]; exact this
    · exact rw_Wr hM h r e own x
theorem rw_Wc {T : ctT} {S : ctS} (hM : ∀ i, i < sZ S → okM T (sM S i)) {G : Nat → Int} (h : rwP S G) (c e : Nat) (m : Int) : ∀ n, (∀ k, k < n → okM T (sCm S (8 * c + k))) → rwP S (fWc S G c e m n)
  | 0, _ => h
  | k + 1, hk => by
    unfold fWc
    split
    · refine rw_up (rw_Wc hM h c e m k (fun j hj => hk j (by omega))) ?_
      have k1 := hk k (by omega)
      unfold okM at k1
      have := rw_la hM (e := e) (x := sCm S (8 * c + k) / 100) (s := sCm S (8 * c + k) / 10 % 10) (by omega)
      rw [show (((fRow (sCm S (8 * c + k))).toNat : Nat) : Int) = 2 * (sCm S (8 * c + k) / 100) + sCm S (8 * c + k) / 10 % 10 by unfold fRow; omega]
      exact this
    · exact rw_Wc hM h c e m k (fun j hj => hk j (by omega))
theorem rw_I (S : ctS) (G : Nat → Int) : rwP S (fI G 8) := fun r hr => Or.inl (by rw [fI_at, if_pos hr])
theorem rw_why {T : ctT} {S : ctS} (hM : ∀ i, i < sZ S → okM T (sM S i)) (hC : okC T S) (G : Nat → Int) (q : Int) (e : Nat) (m : Int) : rwP S (fWhy T S G q e m) := by
  unfold fWhy
  split
  · exact rw_Wr hM (rw_I S G) _ _ _ _
  · split
    · rename_i h
      exact rw_Wc hM (rw_I S G) _ _ _ _ (fun k hk => hC _ k (by omega) (by omega))
    · exact rw_I S G
theorem st_tk {S : ctS} {F G : Nat → Int} (h1 : rwP S F) (h2 : lvP S F) (h3 : rwP S G) : rwP S (fTk S F G 8) ∧ lvP S (fTk S F G 8) := by
  have key : ∀ r, r < 8 → fTk S F G 8 r = F r ∨ (fTk S F G 8 r = G r ∧ 0 < sL S (G r).toNat) := fun r hr => by
    rw [fTk_at]
    split
    · rename_i q
      rcases Int.le_total (F r) (G r) with z | z
      · exact Or.inr ⟨Int.max_eq_right z, q.2.2⟩
      · exact Or.inl (Int.max_eq_left z)
    · exact Or.inl rfl
  refine ⟨fun r hr => ?_, fun r hr => ?_⟩
  · rcases key r hr with e | e
    · rw [e]; exact h1 r hr
    · rw [e.1]; exact h3 r hr
  · rcases key r hr with e | e
    · rw [e]; exact h2 r hr
    · rw [e.1]; exact Or.inr e.2
theorem st_up {S : ctS} {F : Nat → Int} (h1 : rwP S F) (h2 : lvP S F) (j : Nat) : rwP S (ct_up F j (-1)) ∧ lvP S (ct_up F j (-1)) := by
  refine ⟨rw_up h1 (Or.inl rfl), fun r hr => ?_⟩
  by_cases e : r = j
  · subst e; rw [ct_up_s]; exact Or.inl rfl
  · rw [ct_up_n e]; exact h2 r hr
theorem gB_in (F : Nat → Int) (e : Int) : ∀ i, gB F e i = -1 ∨ ∃ j, j < i ∧ F j = gB F e i ∧ F j < e
  | 0 => Or.inl rfl
  | i + 1 => by
    unfold gB
    split
    · rename_i q; exact Or.inr ⟨i, by omega, rfl, q.1⟩
    · rcases gB_in F e i with h | ⟨j, h1, h2⟩
      · exact Or.inl h
      · exact Or.inr ⟨j, by omega, h2⟩
theorem gB_up (F : Nat → Int) (e : Int) : ∀ i j, j < i → F j < e → F j ≤ gB F e i
  | 0, _, h, _ => absurd h (Nat.not_lt_zero _)
  | i + 1, j, h, hj => by
    by_cases q : j = i
    · subst q
      unfold gB
      split
      · exact Int.le_refl _
      · omega
    · have h1 := gB_up F e i j (by omega) hj
      unfold gB
      split
      · omega
      · exact h1
def ne8 (F : Nat → Int) : Prop := ∃ r, r < 8 ∧ 0 ≤ F r
theorem tr_all {T : ctT} {S : ctS} (hM : ∀ i, i < sZ S → okM T (sM S i)) (hC : okC T S) : ∀ (k : Nat) {p : (Nat → Int) × (Nat → Int)}, rwP S p.1 → lvP S p.1 → (rwP S (trI T S k p).1 ∧ lvP S (trI T S k p).1) ∧ (ne8 p.1 → ne8 (trI T S k p).1)
  | 0, _, h1, h2 => ⟨⟨h1, h2⟩, fun h => h⟩
  | k + 1, p, h1, h2 => by
    by_cases ht : tlP S p.1
    · rw [trI_t ht, fT1_t ht]
      have hu := st_up h1 h2 (fRow (sM S (fGB p.1 36).toNat)).toNat
      have hG := rw_why hM hC p.2 (sR S (fGB p.1 36).toNat) (fGB p.1 36).toNat (sM S (fGB p.1 36).toNat)
      have hs := st_tk hu.1 hu.2 hG
      have ih := tr_all hM hC k (p := (fTF T S p.1 p.2, fTG T S p.1 p.2)) hs.1 hs.2
      refine ⟨ih.1, fun _ => ih.2 ?_⟩
      have hn := ht.1
      rcases gB_in p.1 (fGB p.1 36) 8 with e | ⟨j, hj, e1, e2⟩
      · exact absurd e hn
      · have hj0 := h1 j hj
        have hj1 : ¬ p.1 j = -1 := fun z => hn (by show gB p.1 (fGB p.1 36) 8 = -1; rw [← e1]; exact z)
        rcases gB_in p.1 36 8 with e | ⟨g, hg, g1, g2⟩
        · have : fGB p.1 36 = -1 := e
          rcases hj0 with z | z
          · exact absurd z hj1
          · omega
        · have hg0 := h1 g hg
          have g3 : p.1 g = fGB p.1 36 := g1
          rcases hg0 with z | z
          · rcases hj0 with y | y
            · exact absurd y hj1
            · omega
          · have hrow : (fRow (sM S (fGB p.1 36).toNat)).toNat = g := by
              rw [← g3, z.2.2, Int.toNat_natCast]
            refine ⟨j, hj, ?_⟩
            show 0 ≤ fTk S (ct_up p.1 (fRow (sM S (fGB p.1 36).toNat)).toNat (-1)) _ 8 j
            rw [fTk_at, hrow, ct_up_n (show j ≠ g from fun q => by subst q; omega)]
            rcases hj0 with y | y
            · exact absurd y hj1
            · split
              · have := Int.le_max_left (p.1 j) (fTG T S p.1 p.2 j); exact Int.le_trans y.1 this
              · exact y.1
    · rw [trI_f ht]; exact ⟨⟨h1, h2⟩, fun h => h⟩
theorem P0_st {T : ctT} {S : ctS} (hM : ∀ i, i < sZ S → okM T (sM S i)) (hC : okC T S) (F G : Nat → Int) : rwP S (fP0 T S F G).1 ∧ lvP S (fP0 T S F G).1 := st_tk (rw_I S F) (fun r hr => Or.inl (by rw [fI_at, if_pos hr])) (rw_why hM hC G _ _ _)
theorem J_M {T : ctT} {S : ctS} (h : J T S) : ∀ i, i < sZ S → okM T (sM S i) := fun i hi => (h.1.1 i hi).1
theorem fE_st {T : ctT} {S : ctS} (h : J T S) : rwP S (fE T S) ∧ lvP S (fE T S) := by
  have h0 := P0_st (J_M h) (J_C h) (fun _ => -1) (fun _ => -1)
  exact (tr_all (J_M h) (J_C h) 36 h0.1 h0.2).1
/-- the set is empty at its end: no mark above level 0 was there -/
theorem fE_emp {T : ctT} {S : ctS} (h : J T S) (hZ : sZ S ≤ 36) (he : fGB (fE T S) 36 = -1) : ∀ r, r < 8 → fWhy T S (fun _ => -1) (fBk T S) (sZ S) (-9) r = -1 ∨ sL S (fWhy T S (fun _ => -1) (fBk T S) (sZ S) (-9) r).toNat ≤ 0 := by
  have h0 := P0_st (J_M h) (J_C h) (fun _ => -1) (fun _ => -1)
  have h1 := (tr_all (J_M h) (J_C h) 36 h0.1 h0.2)
  have hn : ¬ ne8 (fE T S) := fun ⟨r, hr, hr0⟩ => by
    have := gB_up (fE T S) 36 8 r hr (by
      rcases h1.1.1 r hr with z | z
      · have z2 : fE T S r = -1 := z; omega
      · have z2 : fE T S r < (sZ S : Int) := z.2.1; omega)
    have he2 : gB (fE T S) 36 8 = -1 := he
    omega
  intro r hr
  by_cases z : ¬ fWhy T S (fun _ => -1) (fBk T S) (sZ S) (-9) r = -1 ∧ 0 < sL S (fWhy T S (fun _ => -1) (fBk T S) (sZ S) (-9) r).toNat
  · refine absurd (h1.2 ⟨r, hr, ?_⟩) hn
    show 0 ≤ fTk S (fI (fun _ => -1) 8) (fWhy T S (fun _ => -1) (fBk T S) (sZ S) (-9)) 8 r
    rw [fTk_at, if_pos ⟨hr, z⟩]
    have k := rw_why (J_M h) (J_C h) (fun _ => -1) (fBk T S) (sZ S) (-9) r hr
    rcases k with k | k
    · exact absurd k z.1
    · exact Int.le_trans k.1 (Int.le_max_right _ _)
  · rcases Classical.em (fWhy T S (fun _ => -1) (fBk T S) (sZ S) (-9) r = -1) with q | q
    · exact Or.inl q
    · exact Or.inr (Int.not_lt.mp (fun y => z ⟨q, y⟩))
