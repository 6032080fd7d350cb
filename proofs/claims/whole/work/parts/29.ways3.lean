def eq4 (f g : Nat → Int) : Prop := ∀ x, x < 4 → f x = g x
theorem fBox_c {T : ctT} {f f' t t' : Nat → Int} (h : eq4 f f') (h2 : eq4 t t') : fBox T f t = fBox T f' t' := by
  have k : ∀ x, x < 4 → fK f t x = fK f' t' x := fun x hx => by unfold fK; rw [h x hx, h2 x hx]
  have e3 : ∀ a b c, fC3 T f t a b c = fC3 T f' t' a b c := fun a b c => by unfold fC3; rw [h 3 (by omega), k 3 (by omega)]
  have e2 : ∀ a b, fC2 T f t a b = fC2 T f' t' a b := fun a b => by unfold fC2; rw [h 2 (by omega), k 2 (by omega)]; exact sN_c (fun i _ _ => e3 a b i)
  have e1 : ∀ a, fC1 T f t a = fC1 T f' t' a := fun a => by unfold fC1; rw [h 1 (by omega), k 1 (by omega)]; exact sN_c (fun i _ _ => e2 a i)
  unfold fBox
  rw [h 0 (by omega), k 0 (by omega)]
  exact sN_c (fun i _ _ => e1 i)
theorem okB_c {f f' t t' : Nat → Int} (h : eq4 f f') (h2 : eq4 t t') (hb : okB f t) : okB f' t' := fun x hx => by rw [← h x hx, ← h2 x hx]; exact hb x hx
theorem eq4_open (T : ctT) (f t : Nat → Int) : eq4 (fO0 f 4) (fun _ => 0) ∧ eq4 (fO1 (tT T) t 4) (tT T) := ⟨fun x hx => by rw [fO0_at, if_pos hx], fun x hx => by rw [fO1_at, if_pos hx]⟩
theorem eq4_up {f g : Nat → Int} {k : Nat} {v : Int} (h : eq4 f g) : eq4 (ct_up f k v) (ct_up g k v) := by
  intro x hx
  unfold ct_up
  split
  · rfl
  · exact h x hx
theorem eq4_H0 {f g : Nat → Int} {m s : Int} (h : eq4 f g) (hm : (m / 100).toNat < 4) : eq4 (fH0 f m s) (fH0 g m s) := by
  unfold fH0
  rw [h _ hm]
  split
  · exact eq4_up h
  · split
    · exact eq4_up h
    · exact h
theorem eq4_H1 {f g : Nat → Int} {m s : Int} (h : eq4 f g) (hm : (m / 100).toNat < 4) : eq4 (fH1 f m s) (fH1 g m s) := by
  unfold fH1
  rw [h _ hm]
  split
  · exact eq4_up h
  · split
    · exact eq4_up h
    · exact h
/-- WAYS; those along a trail; those by which a cut's marks are so; by what was seen -/
noncomputable def fAll (T : ctT) : Int := fBox T (fun _ => 0) (tT T)
def bW (S : ctS) (c : Nat) (p : (Nat → Int) × (Nat → Int)) : Nat → (Nat → Int) × (Nat → Int)
  | 0 => p
  | k + 1 => (fH0 (bW S c p k).1 (sCm S (8 * c + k)) 1, fH1 (bW S c p k).2 (sCm S (8 * c + k)) 1)
noncomputable def fWi (T : ctT) (S : ctS) (c : Nat) : Int := fBox T (bW S c ((fun _ => 0), tT T) (sCs S c).toNat).1 (bW S c ((fun _ => 0), tT T) (sCs S c).toNat).2
def bS (T : ctT) (g h : Nat → Int) (p : (Nat → Int) × (Nat → Int)) : Nat → (Nat → Int) × (Nat → Int)
  | 0 => p
  | k + 1 => if g k / 100 < (tN T : Int) then (fH0 (bS T g h p k).1 (g k) (h k), fH1 (bS T g h p k).2 (g k) (h k)) else bS T g h p k
noncomputable def fWs (T : ctT) (n : Nat) (g h : Nat → Int) : Int := fBox T (bS T g h ((fun _ => 0), tT T) n).1 (bS T g h ((fun _ => 0), tT T) n).2
theorem bW_c {S : ctS} {c n : Nat} {p q : (Nat → Int) × (Nat → Int)} (h : eq4 p.1 q.1) (h2 : eq4 p.2 q.2) (hm : ∀ k, k < n → (sCm S (8 * c + k) / 100).toNat < 4) : ∀ k, k ≤ n → eq4 (bW S c p k).1 (bW S c q k).1 ∧ eq4 (bW S c p k).2 (bW S c q k).2
  | 0, _ => ⟨h, h2⟩
  | k + 1, hk => ⟨eq4_H0 (bW_c h h2 hm k (by omega)).1 (hm k (by omega)), eq4_H1 (bW_c h h2 hm k (by omega)).2 (hm k (by omega))⟩
theorem bS_c {T : ctT} {g h : Nat → Int} {n : Nat} {p q : (Nat → Int) × (Nat → Int)} (hT : okT T) (h1 : eq4 p.1 q.1) (h2 : eq4 p.2 q.2) (hm : ∀ k, k < n → 0 ≤ g k) : ∀ k, k ≤ n → eq4 (bS T g h p k).1 (bS T g h q k).1 ∧ eq4 (bS T g h p k).2 (bS T g h q k).2
  | 0, _ => ⟨h1, h2⟩
  | k + 1, hk => by
    have h0 := bS_c (h := h) hT h1 h2 hm k (by omega)
    have hN := hT.2.1
    have h3 := hm k (by omega)
    unfold bS
    split
    · exact ⟨eq4_H0 h0.1 (by omega), eq4_H1 h0.2 (by omega)⟩
    · exact h0
theorem bW_ok {S : ctS} {c n : Nat} {p : (Nat → Int) × (Nat → Int)} (h : okB p.1 p.2) (hm : ∀ k, k < n → 0 ≤ sCm S (8 * c + k)) : ∀ k, k ≤ n → okB (bW S c p k).1 (bW S c p k).2
  | 0, _ => h
  | k + 1, hk => okB_hold (bW_ok h hm k (by omega)) (hm k (by omega))
theorem bS_ok {T : ctT} {g h : Nat → Int} {n : Nat} {p : (Nat → Int) × (Nat → Int)} (hb : okB p.1 p.2) (hm : ∀ k, k < n → 0 ≤ g k) : ∀ k, k ≤ n → okB (bS T g h p k).1 (bS T g h p k).2
  | 0, _ => hb
  | k + 1, hk => by
    have h0 := bS_ok hb hm (T := T) (h := h) k (by omega)
    unfold bS
    split
    · exact okB_hold h0 (hm k (by omega))
    · exact h0
set_option maxRecDepth 100000 in
set_option maxHeartbeats 1000000 in
theorem c_X10_all (T : ctT) (S : ctS) (f t : Nat → Int) (hT : okT T) : CM MX10_all (3, 0, 0) [vR 20] (wW T S f t) (fun v w => ∃ f1 t1, v = some (vI (fAll T)) ∧ w = wW T S f1 t1) := by
  refine CM.of (by decide) (Nat.le_of_ble_eq_true rfl) ?_
  show CV MX10_all (3, 0, 0) 23 (0, 0) 0 [(0, vR 20)] [] (wW T S f t) _
  refine cv_aload_n dX10_all_0 rfl ?_
  refine cv_sameV (c_X10_openBox T S f t hT) lkX10_openBox mlX10_22 dX10_all_1 (by decide) rfl rfl (by decide) rfl (Nat.le_of_ble_eq_true rfl) ⟨Nat.le_refl _, Nat.le_refl _⟩ ?_
  intro v w1 hq
  obtain ⟨rfl, rfl⟩ := hq
  refine cv_aload_n dX10_all_4 rfl ?_
  refine cv_sameV (c_X10_countInBox T S (fO0 f 4) (fO1 (tT T) t 4) hT (okB_open hT f t)) lkX10_countInBox mlX10_25 dX10_all_5 (by decide) rfl rfl (by decide) rfl (Nat.le_of_ble_eq_true rfl) ⟨Nat.le_refl _, Nat.le_refl _⟩ ?_
  intro v w1 hq
  obtain ⟨rfl, rfl⟩ := hq
  refine cv_iret rfl dX10_all_8 ⟨Nat.le_refl _, Nat.le_refl _⟩ ⟨_, _, ct_rI (fBox_c (eq4_open T f t).1 (eq4_open T f t).2), rfl⟩
def fA0 (g f : Nat → Int) : Nat → (Nat → Int)
  | 0 => f
  | i + 1 => ct_up (fA0 g f i) i (g i)
theorem fA0_at (g f : Nat → Int) : ∀ (i j : Nat), fA0 g f i j = if j < i then g j else f j
  | 0, j => by rw [if_neg (by omega)]; rfl
  | i + 1, j => by
    show ct_up (fA0 g f i) i (g i) j = _
    by_cases h : j = i
    · subst h; rw [ct_up_s, if_pos (by omega)]
    · rw [ct_up_n h, fA0_at g f i j]
      by_cases h2 : j < i
      · rw [if_pos h2, if_pos (by omega)]
      · rw [if_neg h2, if_neg (by omega)]
set_option maxRecDepth 100000 in
set_option maxHeartbeats 1000000 in
theorem c_X10_along (T : ctT) (S : ctS) (f t : Nat → Int) (hT : okT T) (hS : okS T S) : CM MX10_along (3, 0, 0) [vR 20, vR 1] (wW T S f t) (fun v w => ∃ f1 t1, v = some (vI (fBox T (sLo S) (sHi S))) ∧ w = wW T S f1 t1) := by
  refine CM.of (by decide) (Nat.le_of_ble_eq_true rfl) ?_
  show CV MX10_along (3, 0, 0) 23 (0, 0) 0 [(0, vR 20), (1, vR 1)] [] (wW T S f t) _
  have e1 : eq4 (fA0 (sLo S) f 4) (sLo S) := fun x hx => by rw [fA0_at, if_pos hx]
  have e2 : eq4 (fA0 (sHi S) t 4) (sHi S) := fun x hx => by rw [fA0_at, if_pos hx]
  have hb : okB (fA0 (sLo S) f 4) (fA0 (sHi S) t 4) := fun x hx => by
    rw [e1 x hx, e2 x hx]
    have := hS.2.2.2.2.1 x hx
    omega
  have loop : ∀ (k : Nat) (i : Nat), (4 < i + k) → (i ≤ 4) → CV MX10_along (3, 0, 0) 23 (0, 0) 2 [(0, vR 20), (1, vR 1), (2, vI i)] [] (wW T S (fA0 (sLo S) f i) (fA0 (sHi S) t i)) (fun v w => ∃ f1 t1, v = some (vI (fBox T (sLo S) (sHi S))) ∧ w = wW T S f1 t1) := by
    intro k
    induction k with
    | zero => intro i hk hi; exact absurd hk (by omega)
    | succ k ih =>
      intro i hk hi
      refine cv_iload_n dX10_along_2 rfl ?_
      refine cv_iconst dX10_along_3 ?_
      refine cv_icmp_ge (tgt := 37) dX10_along_4 (by decide) (by omega) (fun h4 => ?_) (fun h4 => ?_)
      · have e4 : i = 4 := by omega
        subst e4
        refine cv_aload_n dX10_along_37 rfl ?_
        refine cv_sameV (c_X10_countInBox T S _ _ hT hb) lkX10_countInBox mlX10_25 dX10_along_38 (by decide) rfl rfl (by decide) rfl (Nat.le_of_ble_eq_true rfl) ⟨Nat.le_refl _, Nat.le_refl _⟩ ?_
        intro v w1 hq
        obtain ⟨rfl, rfl⟩ := hq
        refine cv_iret rfl dX10_along_41 ⟨Nat.le_refl _, Nat.le_refl _⟩ ⟨_, _, ct_rI (fBox_c e1 e2), rfl⟩
      · refine cv_aload_n dX10_along_7 rfl ?_
        refine cv_getf flX10_9 dX10_along_8 rfl rfl ?_
        refine cv_iload_n dX10_along_11 rfl ?_
        refine cv_aload_n dX10_along_12 rfl ?_
        refine cv_getf flX10_29 dX10_along_13 rfl rfl ?_
        refine cv_iload_n dX10_along_16 rfl ?_
        refine cv_ialj (i) dX10_along_17 rfl (by omega) (by omega) ?_
        refine cv_iasj (i) dX10_along_18 rfl (by omega) (by omega) ?_
        refine cv_aload_n dX10_along_19 rfl ?_
        refine cv_getf flX10_15 dX10_along_20 rfl rfl ?_
        refine cv_iload_n dX10_along_23 rfl ?_
        refine cv_aload_n dX10_along_24 rfl ?_
        refine cv_getf flX10_34 dX10_along_25 rfl rfl ?_
        refine cv_iload_n dX10_along_28 rfl ?_
        refine cv_ialj (i) dX10_along_29 rfl (by omega) (by omega) ?_
        refine cv_iasj (i) dX10_along_30 rfl (by omega) (by omega) ?_
        refine cv_iinc dX10_along_31 (by decide) rfl rfl rfl ?_
        refine cv_goto (tgt := 2) dX10_along_34 (by decide) ?_
        exact ih (i + 1) (by omega) (by omega)
  refine cv_iconst dX10_along_0 ?_
  refine cv_istore_n dX10_along_1 (by decide) rfl rfl ?_
  exact loop 5 0 (by omega) (by omega)
set_option maxRecDepth 100000 in
set_option maxHeartbeats 1000000 in
theorem c_X10_within (T : ctT) (S : ctS) (f t : Nat → Int) (hT : okT T) (hS : okS T S) (c : Nat) (hc : c < sC S) : CM MX10_within (3, 0, 0) [vR 20, vR 7, vI c] (wW T S f t) (fun v w => ∃ f1 t1, v = some (vI (fWi T S c)) ∧ w = wW T S f1 t1) := by
  refine CM.of (by decide) (Nat.le_of_ble_eq_true rfl) ?_
  show CV MX10_within (3, 0, 0) 23 (0, 0) 0 [(0, vR 20), (1, vR 7), (2, vI c)] [] (wW T S f t) _
  have hN := hT.2.1
  have hC := hS.2.2.2.2.2.1
  obtain ⟨z1, z2⟩ := hS.2.2.2.2.2.2.1 c hc
  have hM : ∀ k, k < (sCs S c).toNat → okM T (sCm S (8 * c + k)) := fun k hk => hS.2.2.2.2.2.2.2.1 c k hc (by omega)
  have hM0 : ∀ k, k < (sCs S c).toNat → 0 ≤ sCm S (8 * c + k) := fun k hk => (hM k hk).1
  have hM1 : ∀ k, k < (sCs S c).toNat → (sCm S (8 * c + k) / 100).toNat < 4 := fun k hk => by have := hM k hk; unfold okM at this; omega
  have hok := bW_ok (S := S) (c := c) (p := (fO0 f 4, fO1 (tT T) t 4)) (okB_open hT f t) hM0
  obtain ⟨q1, q2⟩ := eq4_open T f t
  have hcg := bW_c (S := S) (c := c) (p := (fO0 f 4, fO1 (tT T) t 4)) (q := ((fun _ => 0), tT T)) q1 q2 hM1 (sCs S c).toNat (Nat.le_refl _)
  have loop : ∀ (k : Nat) (i : Nat), (8 < i + k) → ((i : Int) ≤ sCs S c) → CV MX10_within (3, 0, 0) 23 (0, 0) 6 [(0, vR 20), (1, vR 7), (2, vI c), (3, vI i)] [] (wW T S (bW S c (fO0 f 4, fO1 (tT T) t 4) i).1 (bW S c (fO0 f 4, fO1 (tT T) t 4) i).2) (fun v w => ∃ f1 t1, v = some (vI (fWi T S c)) ∧ w = wW T S f1 t1) := by
    intro k
    induction k with
    | zero => intro i hk hi; exact absurd hk (by omega)
    | succ k ih =>
      intro i hk hi
      refine cv_iload_n dX10_within_6 rfl ?_
      refine cv_aload_n dX10_within_7 rfl ?_
      refine cv_getf flX10_37 dX10_within_8 rfl rfl ?_
      refine cv_iload_n dX10_within_11 rfl ?_
      refine cv_ialj (c) dX10_within_12 rfl (by omega) (by omega) ?_
      refine cv_icmp_ge (tgt := 33) dX10_within_13 (by decide) (by omega) (fun h13 => ?_) (fun h13 => ?_)
      · refine cv_aload_n dX10_within_33 rfl ?_
        refine cv_sameV (c_X10_countInBox T S (bW S c (fO0 f 4, fO1 (tT T) t 4) i).1 (bW S c (fO0 f 4, fO1 (tT T) t 4) i).2 hT (hok i (by omega))) lkX10_countInBox mlX10_25 dX10_within_34 (by decide) rfl rfl (by decide) rfl (Nat.le_of_ble_eq_true rfl) ⟨Nat.le_refl _, Nat.le_refl _⟩ ?_
        intro v w1 hq
        obtain ⟨rfl, rfl⟩ := hq
        refine cv_iret rfl dX10_within_37 ⟨Nat.le_refl _, Nat.le_refl _⟩ ⟨_, _, ct_rI (by rw [show i = (sCs S c).toNat by omega]; exact fBox_c hcg.1 hcg.2), rfl⟩
      · refine cv_aload_n dX10_within_16 rfl ?_
        refine cv_aload_n dX10_within_17 rfl ?_
        refine cv_iload_n dX10_within_18 rfl ?_
        refine cv_iload_n dX10_within_19 rfl ?_
        refine cv_preV (c_X2_at T S c i (by omega) (by omega)) lkX2_at mlX10_42 dX10_within_20 (by decide) rfl rfl (by decide) rfl (Nat.le_of_ble_eq_true rfl) ⟨Nat.le_refl _, Nat.le_refl _⟩ (fun v w1 h => (congrArg List.length h.2).trans (wS_ll _ _ _)) ?_
        intro v w1 hq
        obtain ⟨rfl, rfl⟩ := hq
        refine cv_iconst dX10_within_23 ?_
        refine cv_sameV (c_X10_hold T S (bW S c (fO0 f 4, fO1 (tT T) t 4) i).1 (bW S c (fO0 f 4, fO1 (tT T) t 4) i).2 hT (hok i (by omega)) (sCm S (8 * c + i)) 1 (hM i (by omega)) (Or.inr rfl)) lkX10_hold mlX10_46 dX10_within_24 (by decide) rfl rfl (by decide) rfl (Nat.le_of_ble_eq_true rfl) ⟨Nat.le_refl _, Nat.le_refl _⟩ ?_
        intro v w1 hq
        obtain ⟨rfl, rfl⟩ := hq
        refine cv_iinc dX10_within_27 (by decide) rfl rfl rfl ?_
        refine cv_goto (tgt := 6) dX10_within_30 (by decide) ?_
        exact ih (i + 1) (by omega) (by omega)
  refine cv_aload_n dX10_within_0 rfl ?_
  refine cv_sameV (c_X10_openBox T S f t hT) lkX10_openBox mlX10_22 dX10_within_1 (by decide) rfl rfl (by decide) rfl (Nat.le_of_ble_eq_true rfl) ⟨Nat.le_refl _, Nat.le_refl _⟩ ?_
  intro v w1 hq
  obtain ⟨rfl, rfl⟩ := hq
  refine cv_iconst dX10_within_4 ?_
  refine cv_istore_n dX10_within_5 (by decide) rfl rfl ?_
  exact loop 9 0 (by omega) (by omega)
set_option maxRecDepth 100000 in
set_option maxHeartbeats 1000000 in
theorem c_X10_bySeen (T : ctT) (S : ctS) (f t : Nat → Int) (hT : okT T) (n : Nat) (g h : Nat → Int) (hn : n ≤ 6) (hg : ∀ i, i < n → 0 ≤ g i ∧ g i ≤ 999 ∧ g i / 10 % 10 ≤ 1) (hh : ∀ i, i < n → h i = 0 ∨ h i = 1) : CM MX10_bySeen (3, 0, 0) [vR 20, vR 23] (wW T S f t ++ wSn 23 n g h) (fun v w => ∃ f1 t1, v = some (vI (fWs T n g h)) ∧ w = wW T S f1 t1 ++ wSn 23 n g h) := by
  refine CM.of (by decide) (Nat.le_of_ble_eq_true rfl) ?_
  show CV MX10_bySeen (3, 0, 0) 26 (0, 0) 0 [(0, vR 20), (1, vR 23)] [] (wW T S f t ++ wSn 23 n g h) _
  have hN := hT.2.1
  have hok := bS_ok (T := T) (g := g) (h := h) (n := n) (p := (fO0 f 4, fO1 (tT T) t 4)) (okB_open hT f t) (fun k hk => (hg k hk).1)
  obtain ⟨q1, q2⟩ := eq4_open T f t
  have hcg := bS_c (T := T) (g := g) (h := h) (n := n) (p := (fO0 f 4, fO1 (tT T) t 4)) (q := ((fun _ => 0), tT T)) hT q1 q2 (fun k hk => (hg k hk).1) n (Nat.le_refl _)
  have loop : ∀ (k : Nat) (i : Nat), (n < i + k) → (i ≤ n) → CV MX10_bySeen (3, 0, 0) 26 (0, 0) 6 [(0, vR 20), (1, vR 23), (2, vI i)] [] (wW T S (bS T g h (fO0 f 4, fO1 (tT T) t 4) i).1 (bS T g h (fO0 f 4, fO1 (tT T) t 4) i).2 ++ wSn 23 n g h) (fun v w => ∃ f1 t1, v = some (vI (fWs T n g h)) ∧ w = wW T S f1 t1 ++ wSn 23 n g h) := by
    intro k
    induction k with
    | zero => intro i hk hi; exact absurd hk (by omega)
    | succ k ih =>
      intro i hk hi
      have r0 := ct_i_r (0 ≤ g i / 100 ∧ g i / 100 < (tN T : Int))
      refine cv_iload_n dX10_bySeen_6 rfl ?_
      refine cv_aload_n dX10_bySeen_7 rfl ?_
      refine cv_getf flX10_50 dX10_bySeen_8 rfl rfl ?_
      refine cv_icmp_ge (tgt := 55) dX10_bySeen_11 (by decide) (by omega) (fun h11 => ?_) (fun h11 => ?_)
      · refine cv_aload_n dX10_bySeen_55 rfl ?_
        refine cv_preV (c_X10_countInBox T S (bS T g h (fO0 f 4, fO1 (tT T) t 4) i).1 (bS T g h (fO0 f 4, fO1 (tT T) t 4) i).2 hT (hok i (by omega))) lkX10_countInBox mlX10_25 dX10_bySeen_56 (by decide) rfl rfl (by decide) rfl (Nat.le_of_ble_eq_true rfl) ⟨Nat.le_refl _, Nat.le_refl _⟩ (fun v w1 h => (congrArg List.length h.2).trans rfl) ?_
        intro v w1 hq
        obtain ⟨rfl, rfl⟩ := hq
        refine cv_iret rfl dX10_bySeen_59 ⟨Nat.le_refl _, Nat.le_refl _⟩ ⟨_, _, ct_rI (by rw [show i = n by omega]; exact fBox_c hcg.1 hcg.2), rfl⟩
      · have h0 := hg i (by omega)
        have h1 := hh i (by omega)
        refine cv_aload_n dX10_bySeen_14 rfl ?_
        refine cv_getf flX10_18 dX10_bySeen_15 rfl rfl ?_
        refine cv_aload_n dX10_bySeen_18 rfl ?_
        refine cv_getf flX10_56 dX10_bySeen_19 rfl rfl ?_
        refine cv_iload_n dX10_bySeen_22 rfl ?_
        refine cv_ialj (i) dX10_bySeen_23 rfl (by omega) (by omega) ?_
        refine cv_bipush dX10_bySeen_24 (by decide) ?_
        refine cv_idiv dX10_bySeen_26 (by omega) ?_
        show CV MX10_bySeen (3, 0, 0) 26 (0, 0) _ _ _ (wS T S ++ ([cO 10 [vR 10, vR 21, vR 22], cA 0 4 (bS T g h (fO0 f 4, fO1 (tT T) t 4) i).1, cA 0 4 (bS T g h (fO0 f 4, fO1 (tT T) t 4) i).2] ++ wSn 23 n g h)) _
        refine cv_preV (c_X6_hasNumber T S hT (g i / 100) (by omega)) lkX6_hasNumber mlX10_59 dX10_bySeen_27 (by decide) rfl rfl (by decide) rfl (Nat.le_of_ble_eq_true rfl) ⟨Nat.le_refl _, Nat.le_refl _⟩ (fun v w1 h => (congrArg List.length h.2).trans (wS_ll _ _ _)) ?_
        intro v w1 hq
        obtain ⟨rfl, rfl⟩ := hq
        refine cv_if_eq (tgt := 49) dX10_bySeen_30 (by decide) (by omega) (fun h30 => ?_) (fun h30 => ?_)
        · refine cv_iinc dX10_bySeen_49 (by decide) rfl rfl rfl ?_
          refine cv_goto (tgt := 6) dX10_bySeen_52 (by decide) ?_
          have e0 : bS T g h (fO0 f 4, fO1 (tT T) t 4) (i + 1) = bS T g h (fO0 f 4, fO1 (tT T) t 4) i := if_neg (fun q => ct_i_0.mp h30 ⟨by omega, q⟩)
          have := ih (i + 1) (by omega) (by omega)
          rw [e0] at this
          exact this
        · have hy := ct_i_1.mp (show ct_i (0 ≤ g i / 100 ∧ g i / 100 < (tN T : Int)) = 1 by omega)
          show CV MX10_bySeen (3, 0, 0) 26 (0, 0) _ _ _ (wW T S (bS T g h (fO0 f 4, fO1 (tT T) t 4) i).1 (bS T g h (fO0 f 4, fO1 (tT T) t 4) i).2 ++ wSn 23 n g h) _
          refine cv_aload_n dX10_bySeen_33 rfl ?_
          refine cv_aload_n dX10_bySeen_34 rfl ?_
          refine cv_getf flX10_56 dX10_bySeen_35 rfl rfl ?_
          refine cv_iload_n dX10_bySeen_38 rfl ?_
          refine cv_ialj (i) dX10_bySeen_39 rfl (by omega) (by omega) ?_
          refine cv_aload_n dX10_bySeen_40 rfl ?_
          refine cv_getf flX10_65 dX10_bySeen_41 rfl rfl ?_
          refine cv_iload_n dX10_bySeen_44 rfl ?_
          refine cv_zalj (i) dX10_bySeen_45 rfl (by omega) (by omega) ?_
          refine cv_preV (c_X10_hold T S (bS T g h (fO0 f 4, fO1 (tT T) t 4) i).1 (bS T g h (fO0 f 4, fO1 (tT T) t 4) i).2 hT (hok i (by omega)) (g i) (h i) ⟨h0.1, by omega, h0.2.2⟩ h1) lkX10_hold mlX10_46 dX10_bySeen_46 (by decide) rfl rfl (by decide) rfl (Nat.le_of_ble_eq_true rfl) ⟨Nat.le_refl _, Nat.le_refl _⟩ (fun v w1 h => (congrArg List.length h.2).trans rfl) ?_
          intro v w1 hq
          obtain ⟨rfl, rfl⟩ := hq
          refine cv_iinc dX10_bySeen_49 (by decide) rfl rfl rfl ?_
          refine cv_goto (tgt := 6) dX10_bySeen_52 (by decide) ?_
          have e0 : bS T g h (fO0 f 4, fO1 (tT T) t 4) (i + 1) = (fH0 (bS T g h (fO0 f 4, fO1 (tT T) t 4) i).1 (g i) (h i), fH1 (bS T g h (fO0 f 4, fO1 (tT T) t 4) i).2 (g i) (h i)) := if_pos hy.2
          have := ih (i + 1) (by omega) (by omega)
          rw [e0] at this
          exact this
  refine cv_aload_n dX10_bySeen_0 rfl ?_
  refine cv_preV (c_X10_openBox T S f t hT) lkX10_openBox mlX10_22 dX10_bySeen_1 (by decide) rfl rfl (by decide) rfl (Nat.le_of_ble_eq_true rfl) ⟨Nat.le_refl _, Nat.le_refl _⟩ (fun v w1 h => (congrArg List.length h.2).trans rfl) ?_
  intro v w1 hq
  obtain ⟨rfl, rfl⟩ := hq
  refine cv_iconst dX10_bySeen_4 ?_
  refine cv_istore_n dX10_bySeen_5 (by decide) rfl rfl ?_
  exact loop (n + 1) 0 (by omega) (by omega)
/-- the least a number can be -/
noncomputable def fLe (T : ctT) (x : Nat) : Option Nat := ct_first (fun k => 0 < fBox T (ct_up (fun _ => 0) x k) (ct_up (tT T) x k)) ((tT T x).toNat + 1)
set_option maxRecDepth 100000 in
set_option maxHeartbeats 1000000 in
theorem c_X10_leastOfAll (T : ctT) (S : ctS) (f t : Nat → Int) (hT : okT T) (x : Nat) (hx : x < 4) : CM MX10_leastOfAll (3, 0, 0) [vR 20, vI x] (wW T S f t) (fun v w => ∃ f1 t1, v = some (vI (ct_o (-9) (fLe T x))) ∧ w = wW T S f1 t1) := by
  refine CM.of (by decide) (Nat.le_of_ble_eq_true rfl) ?_
  show CV MX10_leastOfAll (3, 0, 0) 23 (0, 0) 0 [(0, vR 20), (1, vI x)] [] (wW T S f t) _
  have htp := hT.2.2.2.1 x hx
  obtain ⟨q1, q2⟩ := eq4_open T f t
  have loop : ∀ (k : Nat) (i : Nat) (f t : Nat → Int), ((tT T x).toNat + 1 < i + k) → (i ≤ (tT T x).toNat + 1) → (∀ y, y < 4 → y ≠ x → f y = 0 ∧ t y = tT T y) → (∀ j, j < i → ¬ 0 < fBox T (ct_up (fun _ => 0) x j) (ct_up (tT T) x j)) → CV MX10_leastOfAll (3, 0, 0) 23 (0, 0) 6 [(0, vR 20), (1, vI x), (2, vI i)] [] (wW T S f t) (fun v w => ∃ f1 t1, v = some (vI (ct_o (-9) (fLe T x))) ∧ w = wW T S f1 t1) := by
    intro k
    induction k with
    | zero => intro i f t hk hi hf hv; exact absurd hk (by omega)
    | succ k ih =>
      intro i f t hk hi hf hv
      have c1 : eq4 (ct_up f x (i : Int)) (ct_up (fun _ => 0) x (i : Int)) := fun y hy => by
        unfold ct_up
        split
        · rfl
        · rename_i hne; exact (hf y hy hne).1
      have c2 : eq4 (ct_up t x (i : Int)) (ct_up (tT T) x (i : Int)) := fun y hy => by
        unfold ct_up
        split
        · rfl
        · rename_i hne; exact (hf y hy hne).2
      refine cv_iload_n dX10_leastOfAll_6 rfl ?_
      refine cv_aload_n dX10_leastOfAll_7 rfl ?_
      refine cv_getf flX10_18 dX10_leastOfAll_8 rfl rfl ?_
      refine cv_getf flX10_69 dX10_leastOfAll_11 rfl rfl ?_
      refine cv_iload_n dX10_leastOfAll_14 rfl ?_
      refine cv_ialj (x) dX10_leastOfAll_15 rfl (by omega) (by omega) ?_
      refine cv_icmp_gt (tgt := 48) dX10_leastOfAll_16 (by decide) (by omega) (fun h16 => ?_) (fun h16 => ?_)
      · refine cv_bipush dX10_leastOfAll_48 (by decide) ?_
        refine cv_iret rfl dX10_leastOfAll_50 ⟨Nat.le_refl _, Nat.le_refl _⟩ ⟨_, _, ct_rI (by unfold fLe; rw [ct_first_no (fun j hj => hv j (by omega))]; rfl), rfl⟩
      · refine cv_aload_n dX10_leastOfAll_19 rfl ?_
        refine cv_getf flX10_9 dX10_leastOfAll_20 rfl rfl ?_
        refine cv_iload_n dX10_leastOfAll_23 rfl ?_
        refine cv_iload_n dX10_leastOfAll_24 rfl ?_
        refine cv_iasj (x) dX10_leastOfAll_25 rfl (by omega) (by omega) ?_
        refine cv_aload_n dX10_leastOfAll_26 rfl ?_
        refine cv_getf flX10_15 dX10_leastOfAll_27 rfl rfl ?_
        refine cv_iload_n dX10_leastOfAll_30 rfl ?_
        refine cv_iload_n dX10_leastOfAll_31 rfl ?_
        refine cv_iasj (x) dX10_leastOfAll_32 rfl (by omega) (by omega) ?_
        have hok : okB (ct_up f x (i : Int)) (ct_up t x (i : Int)) := fun y hy => by
          rw [c1 y hy, c2 y hy]
          have := hT.2.2.2.1 y hy
          unfold ct_up
          split <;> (try simp only) <;> omega
        have hbr := fBox_r (T := T) hok
        refine cv_aload_n dX10_leastOfAll_33 rfl ?_
        refine cv_sameV (c_X10_countInBox T S _ _ hT hok) lkX10_countInBox mlX10_25 dX10_leastOfAll_34 (by decide) rfl rfl (by decide) rfl (Nat.le_of_ble_eq_true rfl) ⟨Nat.le_refl _, Nat.le_refl _⟩ ?_
        intro v w1 hq
        obtain ⟨rfl, rfl⟩ := hq
        refine cv_if_le (tgt := 42) dX10_leastOfAll_37 (by decide) (by omega) (fun h37 => ?_) (fun h37 => ?_)
        · refine cv_iinc dX10_leastOfAll_42 (by decide) rfl rfl rfl ?_
          refine cv_goto (tgt := 6) dX10_leastOfAll_45 (by decide) ?_
          refine ih (i + 1) _ _ (by omega) (by omega) (fun y hy hne => by rw [ct_up_n hne, ct_up_n hne]; exact hf y hy hne) (fun j hj => ?_)
          rcases Nat.lt_succ_iff_lt_or_eq.mp hj with q | q
          · exact hv j q
          · subst q
            rw [← fBox_c c1 c2]
            omega
        · refine cv_iload_n dX10_leastOfAll_40 rfl ?_
          refine cv_iret rfl dX10_leastOfAll_41 ⟨Nat.le_refl _, Nat.le_refl _⟩ ⟨_, _, ct_rI (by unfold fLe; rw [ct_first_is (i := i) (by show 0 < fBox T _ _; rw [← fBox_c c1 c2]; omega) hv (by omega)]; rfl), rfl⟩
  refine cv_aload_n dX10_leastOfAll_0 rfl ?_
  refine cv_sameV (c_X10_openBox T S f t hT) lkX10_openBox mlX10_22 dX10_leastOfAll_1 (by decide) rfl rfl (by decide) rfl (Nat.le_of_ble_eq_true rfl) ⟨Nat.le_refl _, Nat.le_refl _⟩ ?_
  intro v w1 hq
  obtain ⟨rfl, rfl⟩ := hq
  refine cv_iconst dX10_leastOfAll_4 ?_
  refine cv_istore_n dX10_leastOfAll_5 (by decide) rfl rfl ?_
  exact loop ((tT T x).toNat + 2) 0 _ _ (by omega) (by omega) (fun y hy hne => ⟨q1 y hy, q2 y hy⟩) (fun j hj => absurd hj (Nat.not_lt_zero _))
