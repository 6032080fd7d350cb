/-! A TEXT THAT IS RIGHT TELLS A TASK THAT IS RIGHT -/
theorem tx_all {n : Nat} {f : Nat → Int} (h : fFt n f = -9) : (∀ p, p < n → csP f p) ∧ iwP n f := by
  unfold fFt at h
  cases e : ct_first (fun p => ¬ csP f p) n with
  | some p =>
    rw [e] at h
    have h2 : (p : Int) = -9 := h
    omega
  | none =>
    rw [e] at h
    have h1 := ct_first_inv e
    refine ⟨fun p hp => Classical.not_not.mp (h1 p hp), ?_⟩
    rcases Classical.em (iwP n f) with q | q
    · exact q
    · have h2 : @ite _ (iwP n f) (Classical.propDecidable _) (-9) (n : Int) = -9 := h
      rw [if_neg q] at h2
      omega
theorem tx_N (f : Nat → Int) : (fTn f = 1 ∧ (fTn f).toNat = 1) ∨ (fTn f = 2 ∧ (fTn f).toNat = 2) ∨ (fTn f = 3 ∧ (fTn f).toNat = 3) ∨ (fTn f = 4 ∧ (fTn f).toNat = 4) := by
  have := fTn_r f
  omega
theorem tx_rule {n : Nat} {f : Nat → Int} (h : fFt n f = -9) {r j : Nat} (hr : r < fNr n f) (hj : j < (fTn f).toNat + 4) : crP f (2 + (fTn f).toNat + r * ((fTn f).toNat + 4) + j) j (fTn f) := by
  obtain ⟨h1, h2⟩ := tx_all h
  obtain ⟨w1, w2, w3⟩ := h2
  unfold fNr at hr
  have k0 := h1 (2 + (fTn f).toNat + r * ((fTn f).toNat + 4) + j)
  rcases tx_N f with ⟨e1, e2⟩ | ⟨e1, e2⟩ | ⟨e1, e2⟩ | ⟨e1, e2⟩
  · rw [e2] at hj k0 ⊢
    rw [e1] at hr w2 w3
    have k1 := (k0 (by omega)).2.2.2
    rw [e1] at k1 ⊢
    have k2 := (k1 (by omega)).2
    have k3 : (((2 + 1 + r * (1 + 4) + j : Nat) : Int) - 2 - 1) % (1 + 4) = (j : Int) := by omega
    rw [k3] at k2
    exact k2
  · rw [e2] at hj k0 ⊢
    rw [e1] at hr w2 w3
    have k1 := (k0 (by omega)).2.2.2
    rw [e1] at k1 ⊢
    have k2 := (k1 (by omega)).2
    have k3 : (((2 + 2 + r * (2 + 4) + j : Nat) : Int) - 2 - 2) % (2 + 4) = (j : Int) := by omega
    rw [k3] at k2
    exact k2
  · rw [e2] at hj k0 ⊢
    rw [e1] at hr w2 w3
    have k1 := (k0 (by omega)).2.2.2
    rw [e1] at k1 ⊢
    have k2 := (k1 (by omega)).2
    have k3 : (((2 + 3 + r * (3 + 4) + j : Nat) : Int) - 2 - 3) % (3 + 4) = (j : Int) := by omega
    rw [k3] at k2
    exact k2
  · rw [e2] at hj k0 ⊢
    rw [e1] at hr w2 w3
    have k1 := (k0 (by omega)).2.2.2
    rw [e1] at k1 ⊢
    have k2 := (k1 (by omega)).2
    have k3 : (((2 + 4 + r * (4 + 4) + j : Nat) : Int) - 2 - 4) % (4 + 4) = (j : Int) := by omega
    rw [k3] at k2
    exact k2
theorem fTs_W (T : ctT) (f : Nat → Int) : ∀ i r, tW (fTs T f i) r = if r < i then fTw (tW T r) f (2 + tN T + r * (tN T + 4)) (tN T) 4 else tW T r
  | 0, r => by rw [if_neg (by omega)]; rfl
  | i + 1, r => by
    have h0 := fTs_W T f i
    have hN := (fTs_N T f i).1
    show (if r = i then fTw (tW (fTs T f i) i) f (2 + tN T + i * (tN T + 4)) (tN (fTs T f i)) 4 else tW (fTs T f i) r) = _
    by_cases e : r = i
    · subst e
      rw [if_pos rfl, if_pos (by omega), hN, h0 r, if_neg (by omega)]
    · rw [if_neg e, h0 r]
      by_cases q : r < i
      · rw [if_pos q, if_pos (by omega)]
      · rw [if_neg q, if_neg (by omega)]
theorem fTs_B (T : ctT) (f : Nat → Int) : ∀ i r, tB (fTs T f i) r = if r < i then fBd f (2 + tN T + r * (tN T + 4)) (tN T) else tB T r
  | 0, r => by rw [if_neg (by omega)]; rfl
  | i + 1, r => by
    have h0 := fTs_B T f i
    have hN := (fTs_N T f i).1
    show ct_up (tB (fTs T f i)) i (fBd f (2 + tN T + i * (tN T + 4)) (tN (fTs T f i))) r = _
    by_cases e : r = i
    · subst e
      rw [ct_up_s, if_pos (by omega), hN]
    · rw [ct_up_n e, h0 r]
      by_cases q : r < i
      · rw [if_pos q, if_pos (by omega)]
      · rw [if_neg q, if_neg (by omega)]
theorem fTs_T (T : ctT) (f : Nat → Int) : ∀ i, tT (fTs T f i) = tT T
  | 0 => rfl
  | i + 1 => fTs_T T f i
theorem fTw_at (g f : Nat → Int) (s N : Nat) : ∀ y x, x < y → fTw g f s N y x = if x < N then fWt (f (s + 1 + x)) else 0
  | 0, x, h => absurd h (by omega)
  | y + 1, x, h => by
    show ct_up (fTw g f s N y) y (if y < N then fWt (f (s + 1 + y)) else 0) x = _
    by_cases e : x = y
    · subst e; rw [ct_up_s]
    · rw [ct_up_n e]; exact fTw_at g f s N y x (by omega)
theorem fTt_at (g f : Nat → Int) (N : Nat) : ∀ y x, x < y → fTt g f N y x = if x < N then f (2 + x) - 48 else 0
  | 0, x, h => absurd h (by omega)
  | y + 1, x, h => by
    show ct_up (fTt g f N y) y (if y < N then f (2 + y) - 48 else 0) x = _
    by_cases e : x = y
    · subst e; rw [ct_up_s]
    · rw [ct_up_n e]; exact fTt_at g f N y x (by omega)
theorem fWt_r {x : Int} (h : (48 ≤ x ∧ x ≤ 51) ∨ (97 ≤ x ∧ x ≤ 99)) : -3 ≤ fWt x ∧ fWt x ≤ 3 := by
  unfold fWt figP
  rcases h with h | h
  · rw [if_pos (by omega)]; omega
  · rw [if_neg (by omega)]; omega
theorem task_ok {T : ctT} (hT : okT T) {n : Nat} {f : Nat → Int} (h : fFt n f = -9) : okT (fTask T n f) := by
  obtain ⟨h1, w1, w2, w3⟩ := tx_all h
  have hN := fTn_r f
  have e0 : tN (fTask T n f) = (fTn f).toNat := (fTs_N _ f _).1
  have e1 : tR (fTask T n f) = fNr n f := (fTs_N _ f _).2
  have e2 : tT (fTask T n f) = fTt (tT T) f (fTn f).toNat 4 := fTs_T _ f _
  have e3 : ∀ r, tW (fTask T n f) r = if r < fNr n f then fTw (tW T r) f (2 + (fTn f).toNat + r * ((fTn f).toNat + 4)) (fTn f).toNat 4 else tW T r := fun r => fTs_W _ f _ r
  have e4 : ∀ r, tB (fTask T n f) r = if r < fNr n f then fBd f (2 + (fTn f).toNat + r * ((fTn f).toNat + 4)) (fTn f).toNat else tB T r := fun r => fTs_B _ f _ r
  have hK : fNr n f ≤ 6 := by unfold fNr; omega
  refine ⟨by rw [e0]; omega, by rw [e0]; omega, by rw [e1]; exact hK, fun x hx => ?_, fun x hx hx4 => ?_, fun r x hr hx => ?_, fun r x hr hx hx4 => ?_, fun r hr => ?_⟩
  · rw [e2, fTt_at _ _ _ 4 x hx]
    split
    · rename_i q
      have k := (h1 (2 + x) (by omega)).2.2.1 (by omega) (by omega)
      unfold figP at k
      omega
    · omega
  · rw [e0] at hx
    rw [e2, fTt_at _ _ _ 4 x hx4, if_neg (by omega)]
  · rw [e3]
    by_cases q : r < fNr n f
    · rw [if_pos q, fTw_at _ _ _ _ 4 x hx]
      split
      · rename_i z
        have k := (tx_rule h q (j := 1 + x) (by omega)).2.1 (by omega) (by omega)
        rw [← Nat.add_assoc] at k
        exact fWt_r k
      · omega
    · rw [if_neg q]
      exact hT.2.2.2.2.2.1 r x hr hx
  · rw [e1] at hr
    rw [e0] at hx
    rw [e3, if_pos hr, fTw_at _ _ _ _ 4 x hx4, if_neg (by omega)]
  · rw [e4]
    by_cases q : r < fNr n f
    · rw [if_pos q]
      have k2 := (tx_rule h q (j := (fTn f).toNat + 2) (by omega)).2.2.2.1 (by omega) (by omega)
      have k3 := (tx_rule h q (j := (fTn f).toNat + 3) (by omega)).2.2.2.2 (by omega) (by omega) (by omega)
      rw [← Nat.add_assoc] at k2
      rw [show 2 + (fTn f).toNat + r * ((fTn f).toNat + 4) + ((fTn f).toNat + 3) - 1 = 2 + (fTn f).toNat + r * ((fTn f).toNat + 4) + (fTn f).toNat + 2 by omega, ← Nat.add_assoc] at k3
      unfold fBd
      split <;> omega
    · rw [if_neg q]
      exact hT.2.2.2.2.2.2.2 r hr
theorem goodB_ok {T : ctT} (hT : okT T) (S : ctS) (y : ctY) : goodB T S y := fun h => ⟨(tx_all h).2.2.1, task_ok hT h, J_g (task_ok hT h) (J_begin S)⟩
