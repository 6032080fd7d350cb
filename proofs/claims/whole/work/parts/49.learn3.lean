theorem bx_lo {T : ctT} {M : Nat → Int} {n z x : Nat} (hM : ∀ i, i < n → okM T (M i)) : ∀ d, z + d ≤ n → (∀ i, z ≤ i → i < z + d → ¬ M i / 10 = 10 * (x : Int) + 0) → (bx T M (z + d)).1 x = (bx T M z).1 x
  | 0, _, _ => rfl
  | d + 1, hn, h => by
    have ih := bx_lo hM d (by omega) (fun i h1 h2 => h i h1 (by omega))
    have h1 := h (z + d) (by omega) (by omega)
    have h2 := hM (z + d) (by omega)
    unfold okM at h2
    rw [← Nat.add_assoc, bx_s, ← ih]
    unfold drw
    split
    · exact ct_up_n (by omega)
    · rfl
theorem bx_hi {T : ctT} {M : Nat → Int} {n z x : Nat} (hM : ∀ i, i < n → okM T (M i)) : ∀ d, z + d ≤ n → (∀ i, z ≤ i → i < z + d → ¬ M i / 10 = 10 * (x : Int) + 1) → (bx T M (z + d)).2 x = (bx T M z).2 x
  | 0, _, _ => rfl
  | d + 1, hn, h => by
    have ih := bx_hi hM d (by omega) (fun i h1 h2 => h i h1 (by omega))
    have h1 := h (z + d) (by omega) (by omega)
    have h2 := hM (z + d) (by omega)
    unfold okM at h2
    rw [← Nat.add_assoc, bx_s, ← ih]
    unfold drw
    split
    · rfl
    · exact ct_up_n (by omega)
theorem la_z0 {S : ctS} {x s : Int} (h : ct_o (-1) (fLa S (sZ S) x s) = -1 ∨ sL S (ct_o (-1) (fLa S (sZ S) x s)).toNat ≤ 0) : ∀ j, z0 S ≤ j → j < sZ S → ¬ sM S j / 10 = 10 * x + s := by
  intro j hj hz
  cases e : fLa S (sZ S) x s with
  | none =>
    have := ct_last_inv e
    exact this j (by omega)
  | some i =>
    obtain ⟨h1, h2, h3⟩ := ct_last_inv e
    rw [e] at h
    have hi : sL S i ≤ 0 := by
      rcases h with h | h
      · have : (i : Int) = -1 := h
        omega
      · have : sL S ((i : Int)).toNat ≤ 0 := h
        rwa [Int.toNat_natCast] at this
    have hlt : i < z0 S := by
      rcases Nat.lt_or_ge i (z0 S) with q | q
      · exact q
      · have := fAb_hi (S := S) (l := 0) (sZ S) i q (by omega)
        omega
    exact h3 j (by omega) (by omega)
theorem fWr_at {T : ctT} {S : ctS} {G : Nat → Int} {r e : Nat} : ∀ n x, x < n → ¬ tW T r x = 0 → fWr T S G r e (-9) n (2 * x + if 0 < tW T r x then 0 else 1) = ct_o (-1) (fLa S e x (if 0 < tW T r x then 0 else 1))
  | 0, _, h, _ => absurd h (Nat.not_lt_zero _)
  | n + 1, x, h, hw => by
    unfold fWr
    by_cases q : x = n
    · subst q
      rw [if_pos ⟨hw, by omega⟩, ct_up_s]
    · have ih := fWr_at (T := T) (S := S) (G := G) (r := r) (e := e) n x (by omega) hw
      split
      · rw [ct_up_n (by split <;> split <;> omega)]; exact ih
      · exact ih
theorem fWc_at {T : ctT} {S : ctS} {G : Nat → Int} {c e : Nat} : ∀ n k, k < n → (∀ k, k < n → okM T (sCm S (8 * c + k))) → fWc S G c e (-9) n (fRow (sCm S (8 * c + k))).toNat = ct_o (-1) (fLa S e (sCm S (8 * c + k) / 100) (sCm S (8 * c + k) / 10 % 10))
  | 0, _, h, _ => absurd h (Nat.not_lt_zero _)
  | n + 1, k, h, hm => by
    have m1 := hm k h
    have m2 := hm n (by omega)
    unfold okM at m1 m2
    unfold fWc
    rw [if_pos (Or.inl rfl)]
    by_cases q : (fRow (sCm S (8 * c + k))).toNat = (fRow (sCm S (8 * c + n))).toNat
    · rw [q, ct_up_s]
      unfold fRow at q
      rw [show sCm S (8 * c + n) / 100 = sCm S (8 * c + k) / 100 by omega, show sCm S (8 * c + n) / 10 % 10 = sCm S (8 * c + k) / 10 % 10 by omega]
    · rw [ct_up_n q]
      exact fWc_at n k (by
        rcases Nat.lt_succ_iff_lt_or_eq.mp h with z | z
        · exact z
        · subst z; exact absurd rfl q) (fun j hj => hm j (by omega))
/-- without a mark above level 0 in its why, a break is one of level 0 -/
theorem hope {T : ctT} {S : ctS} (hT : okT T) (h : I1 T S) (hb : ¬ fBk T S = -9) (he : fGB (fE T S) 36 = -1) : fLv S = 0 := by
  rcases Classical.em (fLv S = 0) with q | q
  · exact q
  · have hz := fE_emp h.1 (J_g hT h.1).1.1 he
    obtain ⟨n1, n2⟩ := fBk_iff.mp (h.2.1 q)
    have zle : z0 S ≤ sZ S := fAb_le S 0 (sZ S)
    obtain ⟨d, hd⟩ : ∃ d, sZ S = z0 S + d := ⟨sZ S - z0 S, by omega⟩
    have hB := h.1.1.2
    have lo_eq : ∀ x : Nat, x < 4 → (∀ j, z0 S ≤ j → j < sZ S → ¬ sM S j / 10 = 10 * (x : Int) + 0) → sLo S x = (bx T (sM S) (z0 S)).1 x := fun x hx hh => by
      rw [show sLo S x = (bx T (sM S) (sZ S)).1 x from (hB x hx).1, hd]
      exact bx_lo (n := sZ S) (J_M h.1) d (by omega) (fun i h1 h2 => hh i h1 (by omega))
    have hi_eq : ∀ x : Nat, x < 4 → (∀ j, z0 S ≤ j → j < sZ S → ¬ sM S j / 10 = 10 * (x : Int) + 1) → sHi S x = (bx T (sM S) (z0 S)).2 x := fun x hx hh => by
      rw [show sHi S x = (bx T (sM S) (sZ S)).2 x from (hB x hx).2, hd]
      exact bx_hi (n := sZ S) (J_M h.1) d (by omega) (fun i h1 h2 => hh i h1 (by omega))
    have hN := hT.2.1
    have hR := hT.2.2.1
    have eb : fBk T S = fBk T S := rfl
    revert hz
    generalize hbb : fBk T S = b at hb
    intro hz
    unfold fBk at hbb
    cases e : ct_first (fun r => tB T r < fLeast T S r) (tR T) with
    | some r =>
      rw [e] at hbb
      have hbr : (r : Int) = b := hbb
      obtain ⟨r1, r2, -⟩ := ct_first_inv e
      have ew : fWhy T S (fun _ => -1) b (sZ S) (-9) = fWr T S (fI (fun _ => -1) 8) r (sZ S) (-9) (tN T) := by
        unfold fWhy
        rw [← hbr, if_pos (by omega), Int.toNat_natCast]
        rfl
      rw [ew] at hz
      have els : ∀ x, x ≤ tN T → fLs T (uBx S (bx T (sM S) (z0 S))) r x = fLs T S r x := by
        intro x
        induction x with
        | zero => intro _; rfl
        | succ x ih =>
          intro hx
          show fLs T (uBx S (bx T (sM S) (z0 S))) r x + tW T r x * (if 0 < tW T r x then (bx T (sM S) (z0 S)).1 x else (bx T (sM S) (z0 S)).2 x) = fLs T S r x + tW T r x * (if 0 < tW T r x then sLo S x else sHi S x)
          rw [ih (by omega)]
          by_cases w0 : tW T r x = 0
          · rw [w0, Int.zero_mul, Int.zero_mul]
          · have ha := fWr_at (T := T) (S := S) (G := fI (fun _ => -1) 8) (r := r) (e := sZ S) (tN T) x (by omega) w0
            have hz1 := hz (2 * x + if 0 < tW T r x then 0 else 1) (by split <;> omega)
            rw [ha] at hz1
            have hz2 := la_z0 hz1
            by_cases w1 : 0 < tW T r x
            · rw [if_pos w1, if_pos w1]
              rw [if_pos w1] at hz2
              rw [lo_eq x (by omega) hz2]
            · rw [if_neg w1, if_neg w1]
              rw [if_neg w1] at hz2
              rw [hi_eq x (by omega) hz2]
      have := n1 r r1
      refine absurd ?_ this
      show tB T r < fLs T (uBx S (bx T (sM S) (z0 S))) r (tN T)
      rw [els (tN T) (Nat.le_refl _)]
      exact r2
    | none =>
      rw [e] at hbb
      cases e2 : ct_first (cbP S) (sC S) with
      | none =>
        rw [e2] at hbb
        exact absurd hbb.symm hb
      | some c =>
        rw [e2] at hbb
        have hbc : 10 + (c : Int) = b := hbb
        obtain ⟨c1, c2, -⟩ := ct_first_inv e2
        have hm : ∀ k, k < (sCs S c).toNat → okM T (sCm S (8 * c + k)) := fun k hk => J_C h.1 c k c1 (by omega)
        have ew : fWhy T S (fun _ => -1) b (sZ S) (-9) = fWc S (fI (fun _ => -1) 8) c (sZ S) (-9) (sCs S c).toNat := by
          unfold fWhy
          rw [← hbc, if_neg (by omega), if_pos (by omega), show (10 + (c : Int) - 10).toNat = c by omega]
        rw [ew] at hz
        refine absurd ?_ (n2 c c1)
        intro k hk
        have hk' : (k : Int) < sCs S c := hk
        have mk := hm k (by omega)
        have ha := fWc_at (T := T) (S := S) (G := fI (fun _ => -1) 8) (c := c) (e := sZ S) (sCs S c).toNat k (by omega) hm
        have hr8 := fRow_r hT mk
        have hz1 := hz (fRow (sCm S (8 * c + k))).toNat (by omega)
        rw [ha] at hz1
        have hz2 := la_z0 hz1
        have hso := c2 k hk'
        have hx4 := okM_x hT mk
        unfold okM at mk
        refine ⟨fun s0 => ?_, fun s0 => ?_⟩
        · have s0' : sCm S (8 * c + k) / 10 % 10 = 0 := s0
          have e1 := lo_eq (sCm S (8 * c + k) / 100).toNat hx4 (fun j h1 h2 => by have := hz2 j h1 h2; omega)
          show sCm S (8 * c + k) % 10 ≤ (bx T (sM S) (z0 S)).1 (sCm S (8 * c + k) / 100).toNat
          rw [← e1]; exact hso.1 s0
        · have s0' : ¬ sCm S (8 * c + k) / 10 % 10 = 0 := s0
          have e1 := hi_eq (sCm S (8 * c + k) / 100).toNat hx4 (fun j h1 h2 => by have := hz2 j h1 h2; omega)
          show (bx T (sM S) (z0 S)).2 (sCm S (8 * c + k) / 100).toNat ≤ sCm S (8 * c + k) % 10
          rw [← e1]; exact hso.2 s0
