/-- the places of the states ahead of the acts, in their order -/
def bL (P : Nat → Nat) : List (Option Nat) := [some (22 + 10 * P 0), some (22 + 10 * P 1), some (22 + 10 * P 2), some (22 + 10 * P 3), some (22 + 10 * P 4), some (22 + 10 * P 5), some (22 + 10 * P 6), some (22 + 10 * P 7), some (22 + 10 * P 8), some (22 + 10 * P 9), some (22 + 10 * P 10), some (22 + 10 * P 11), some (22 + 10 * P 12), some (22 + 10 * P 13)]
/-- a state, its task, the acts (20), their row (21), fourteen states from 22 on -/
def LA (T : ctT) (S : ctS) (n : Int) (P : Nat → Nat) (A : Nat → ctS) : List (List ct_C) := [wSt 0 10 S, wT 10 T, [cO 0 [vR 21, vI n], cQ 2 (bL P)], wSt 22 10 (A 0), wSt 32 10 (A 1), wSt 42 10 (A 2), wSt 52 10 (A 3), wSt 62 10 (A 4), wSt 72 10 (A 5), wSt 82 10 (A 6), wSt 92 10 (A 7), wSt 102 10 (A 8), wSt 112 10 (A 9), wSt 122 10 (A 10), wSt 132 10 (A 11), wSt 142 10 (A 12), wSt 152 10 (A 13)]
def wA (T : ctT) (S : ctS) (n : Int) (P : Nat → Nat) (A : Nat → ctS) : List ct_C := (LA T S n P A).flatten
def nA : List Nat := [10, 10, 2, 10, 10, 10, 10, 10, 10, 10, 10, 10, 10, 10, 10, 10, 10]
theorem nA_e (T : ctT) (S : ctS) (n : Int) (P : Nat → Nat) (A : Nat → ctS) : (LA T S n P A).map List.length = nA := rfl
def upA {α : Type} (A : Nat → α) (j : Nat) (X : α) : Nat → α := fun i => cond (Nat.beq i j) X (A i)
theorem upA_s {α : Type} {A : Nat → α} {j : Nat} {X : α} : upA A j X j = X := by unfold upA; rw [Nat.beq_refl]; rfl
theorem upA_n {α : Type} {A : Nat → α} {i j : Nat} {X : α} (h : i ≠ j) : upA A j X i = A i := by
  unfold upA
  cases hb : Nat.beq i j with
  | true => exact absurd (Nat.eq_of_beq_eq_true hb) h
  | false => rfl
theorem bL_len (P : Nat → Nat) : (bL P).length = 14 := rfl
theorem bL_at (P : Nat → Nat) : ∀ i, i < 14 → ct_lf (bL P) i = some (22 + 10 * P i)
  | 0, _ => rfl
  | 1, _ => rfl
  | 2, _ => rfl
  | 3, _ => rfl
  | 4, _ => rfl
  | 5, _ => rfl
  | 6, _ => rfl
  | 7, _ => rfl
  | 8, _ => rfl
  | 9, _ => rfl
  | 10, _ => rfl
  | 11, _ => rfl
  | 12, _ => rfl
  | 13, _ => rfl
  | n + 14, h => absurd h (by omega)
theorem bL_up (P : Nat → Nat) (j : Nat) : ∀ i, i < 14 → (bL P).set i (some (22 + 10 * j)) = bL (upA P i j)
  | 0, _ => rfl
  | 1, _ => rfl
  | 2, _ => rfl
  | 3, _ => rfl
  | 4, _ => rfl
  | 5, _ => rfl
  | 6, _ => rfl
  | 7, _ => rfl
  | 8, _ => rfl
  | 9, _ => rfl
  | 10, _ => rfl
  | 11, _ => rfl
  | 12, _ => rfl
  | 13, _ => rfl
  | n + 14, h => absurd h (by omega)
theorem wA_ob (T : ctT) (S : ctS) (n : Int) (P : Nat → Nat) (A : Nat → ctS) : ∀ j, j < 14 → (wA T S n P A)[22 + 10 * j]? = some (cO 5 [vR 10, vR (22 + 10 * j + 1), vR (22 + 10 * j + 7), vI (sH (A j))])
  | 0, _ => rfl
  | 1, _ => rfl
  | 2, _ => rfl
  | 3, _ => rfl
  | 4, _ => rfl
  | 5, _ => rfl
  | 6, _ => rfl
  | 7, _ => rfl
  | 8, _ => rfl
  | 9, _ => rfl
  | 10, _ => rfl
  | 11, _ => rfl
  | 12, _ => rfl
  | 13, _ => rfl
  | n + 14, h => absurd h (by omega)
/-- the first row goes behind the others -/
def rot (P : Nat → Nat) : Nat → Nat := fun i => if i < 13 then P (i + 1) else P 0
def rotk (P : Nat → Nat) (k : Nat) : Nat → Nat := fun i => if i + 1 < k then P (i + 1) else P i
theorem wA_P {T : ctT} {S : ctS} {n : Int} {P P' : Nat → Nat} {A : Nat → ctS} (h : ∀ i, i < 14 → P i = P' i) : wA T S n P A = wA T S n P' A := by
  unfold wA LA bL
  rw [h 0 (by omega), h 1 (by omega), h 2 (by omega), h 3 (by omega), h 4 (by omega), h 5 (by omega), h 6 (by omega), h 7 (by omega), h 8 (by omega), h 9 (by omega), h 10 (by omega), h 11 (by omega), h 12 (by omega), h 13 (by omega)]
theorem ct_qq {q : Nat} {l1 l2 : List (Option Nat)} {w : List ct_C} (h : l1 = l2) : w.set q (cQ 2 l1) = w.set q (cQ 2 l2) := by rw [h]
set_option maxRecDepth 100000 in
set_option maxHeartbeats 1000000 in
theorem c_X0_forgetFirst (T : ctT) (S : ctS) (n : Int) (P : Nat → Nat) (A : Nat → ctS) (hP : ∀ i, i < 14 → P i < 14) : CM MX0_forgetFirst (0, 0, 0) [vR 20] (wA T S n P A) (fun v w => v = none ∧ w = wA T S 13 (rot P) A) := by
  refine CM.of (by decide) (Nat.le_of_ble_eq_true rfl) ?_
  show CV MX0_forgetFirst (0, 0, 0) 162 (0, 0) 0 [(0, vR 20)] [] (wA T S n P A) _
  have loop : ∀ (k : Nat) (i : Nat) (p : Nat → Nat), (14 < i + k) → (1 ≤ i ∧ i ≤ 14) → (∀ j, j < 14 → p j = rotk P i j) → CV MX0_forgetFirst (0, 0, 0) 162 (0, 0) 9 [(0, vR 20), (1, vR (22 + 10 * P 0)), (2, vI i)] [] (wA T S n p A) (fun v w => v = none ∧ w = wA T S 13 (rot P) A) := by
    intro k
    induction k with
    | zero => intro i p hk hi hp; exact absurd hk (by omega)
    | succ k ih =>
      intro i p hk hi hp
      refine cv_iload_n dX0_forgetFirst_9 rfl ?_
      refine cv_bipush dX0_forgetFirst_10 (by decide) ?_
      refine cv_icmp_ge (tgt := 35) dX0_forgetFirst_12 (by decide) (by omega) (fun h12 => ?_) (fun h12 => ?_)
      · refine cv_aload_n dX0_forgetFirst_35 rfl ?_
        refine cv_getf flX0_11 dX0_forgetFirst_36 rfl rfl ?_
        refine cv_bipush dX0_forgetFirst_39 (by decide) ?_
        refine cv_aload_n dX0_forgetFirst_41 rfl ?_
        refine cv_aast dX0_forgetFirst_42 rfl (by rw [bL_len]; omega) (wA_ob T S n p A (P 0) (hP 0 (by omega))) ?_
        rw [bL_up p _ _ (by decide)]
        refine cv_aload_n dX0_forgetFirst_43 rfl ?_
        refine cv_bipush dX0_forgetFirst_44 rfl ?_
        refine cv_putf fpX0_17 dX0_forgetFirst_46 rfl (Nat.le_of_ble_eq_true rfl) (fun _ => ⟨rfl, rfl⟩) ?_
        refine cv_ret rfl dX0_forgetFirst_49 ⟨Nat.le_refl _, Nat.le_refl _⟩ ⟨rfl, ?_⟩
        show wA T S 13 (upA p 13 (P 0)) A = _
        refine wA_P (fun j hj => ?_)
        unfold rot
        by_cases q : j = 13
        · rw [q, upA_s, if_neg (by omega)]
        · rw [upA_n q, if_pos (by omega), hp j hj]
          exact if_pos (by omega)
      · refine cv_aload_n dX0_forgetFirst_15 rfl ?_
        refine cv_getf flX0_11 dX0_forgetFirst_16 rfl rfl ?_
        refine cv_iload_n dX0_forgetFirst_19 rfl ?_
        refine cv_iconst dX0_forgetFirst_20 ?_
        refine cv_isub dX0_forgetFirst_21 ?_
        refine cv_aload_n dX0_forgetFirst_22 rfl ?_
        refine cv_getf flX0_11 dX0_forgetFirst_23 rfl rfl ?_
        refine cv_iload_n dX0_forgetFirst_26 rfl ?_
        have e1 : p i = P i := by rw [hp i (by omega)]; exact if_neg (by omega)
        refine cv_aald (Or.inl rfl) dX0_forgetFirst_27 rfl (by rw [bL_len]; omega) (bL_at p _ (by omega)) ?_
        refine cv_aast dX0_forgetFirst_28 rfl (by rw [bL_len]; omega) (wA_ob T S n p A _ (by rw [show ((i : Int)).toNat = i from Int.toNat_natCast i, e1]; exact hP i (by omega))) ?_
        rw [bL_up p _ _ (by omega)]
        refine cv_iinc dX0_forgetFirst_29 (by decide) rfl rfl rfl ?_
        refine cv_goto (tgt := 9) dX0_forgetFirst_32 (by decide) ?_
        refine cv_loc [0, 1, 2] rfl ?_
        refine ih (i + 1) (upA p (((i : Int) - 1)).toNat (p ((i : Int)).toNat)) (by omega) (by omega) (fun j hj => ?_)
        rw [show (((i : Int) - 1)).toNat = i - 1 by omega, show ((i : Int)).toNat = i from Int.toNat_natCast i]
        unfold rotk
        by_cases q : j = i - 1
        · rw [q, upA_s, e1, if_pos (by omega), show i - 1 + 1 = i by omega]
        · rw [upA_n q, hp j hj]
          unfold rotk
          by_cases q2 : j + 1 < i
          · rw [if_pos q2, if_pos (by omega)]
          · rw [if_neg q2, if_neg (by omega)]
  refine cv_aload_n dX0_forgetFirst_0 rfl ?_
  refine cv_getf flX0_11 dX0_forgetFirst_1 rfl rfl ?_
  refine cv_iconst dX0_forgetFirst_4 ?_
  refine cv_aald (Or.inl rfl) dX0_forgetFirst_5 rfl (by rw [bL_len]; omega) (bL_at P _ (by decide)) ?_
  refine cv_astore_n dX0_forgetFirst_6 (by decide) rfl rfl ?_
  refine cv_iconst dX0_forgetFirst_7 ?_
  refine cv_istore_n dX0_forgetFirst_8 (by decide) rfl rfl ?_
  exact loop 14 1 P (by omega) (by omega) (fun j _ => (if_neg (by omega)).symm)
/-- where the next act is remembered, and the row by then -/
def fAi (n : Nat) : Nat := if n < 14 then n else 13
def fAp (n : Nat) (P : Nat → Nat) : Nat → Nat := if n < 14 then P else rot P
theorem rot_r {P : Nat → Nat} (hP : ∀ i, i < 14 → P i < 14) : ∀ i, i < 14 → rot P i < 14 := by
  intro i hi
  unfold rot
  split
  · exact hP _ (by omega)
  · exact hP _ (by omega)
theorem wCp_ll (T : ctT) (S S' O O' : ctS) : (wCp T S O).length = (wCp T S' O').length := rfl
set_option maxRecDepth 100000 in
set_option maxHeartbeats 1000000 in
theorem c_X0_remember (T : ctT) (S : ctS) (n : Nat) (P : Nat → Nat) (A : Nat → ctS) (hP : ∀ i, i < 14 → P i < 14) (hn : n ≤ 14) (hZ : sZ S ≤ 36) (hC : sC S ≤ 40) (hH : sH S = 0 ∨ sH S = 1) : CM MX0_remember (3, 0, 0) [vR 20, vR 0] (wA T S n P A) (fun v w => v = none ∧ w = wA T S ((fAi n + 1 : Nat) : Int) (fAp n P) (upA A (fAp n P (fAi n)) (fCp (A (fAp n P (fAi n))) S))) := by
  refine CM.of (by decide) (Nat.le_of_ble_eq_true rfl) ?_
  show CV MX0_remember (3, 0, 0) 162 (0, 0) 0 [(0, vR 20), (1, vR 0)] [] (wA T S n P A) _
  have hz : n < 14 → fAi n = n ∧ fAp n P = P := fun h => ⟨if_pos h, if_pos h⟩
  have hz2 : ¬ n < 14 → fAi n = 13 ∧ fAp n P = rot P := fun h => ⟨if_neg h, if_neg h⟩
  have tail : ∀ (c : Nat) (p : Nat → Nat) (j : Nat), (fAi n = c ∧ fAp n P = p) → (p c = j) → CV MX0_remember (3, 0, 0) 162 (0, 0) 26 [(0, vR 20), (1, vR 0)] [] (wA T S c p (upA A j (fCp (A j) S))) (fun v w => v = none ∧ w = wA T S ((fAi n + 1 : Nat) : Int) (fAp n P) (upA A (fAp n P (fAi n)) (fCp (A (fAp n P (fAi n))) S))) := by
    intro c p j hc hj
    refine cv_aload_n dX0_remember_26 rfl ?_
    refine cv_dup dX0_remember_27 rfl ?_
    refine cv_getf flX0_17 dX0_remember_28 rfl rfl ?_
    refine cv_iconst dX0_remember_31 ?_
    refine cv_iadd dX0_remember_32 ?_
    refine cv_putf fpX0_17 dX0_remember_33 rfl (Nat.le_of_ble_eq_true rfl) (fun _ => ⟨rfl, rfl⟩) ?_
    refine cv_ret rfl dX0_remember_36 ⟨Nat.le_refl _, Nat.le_refl _⟩ ⟨rfl, ?_⟩
    rw [hc.1, hc.2, hj]
    rfl
  have cpy : ∀ (c : Nat) (p : Nat → Nat), (fAi n = c ∧ fAp n P = p) → ∀ (j : Nat), j < 14 → p c = j → CV MX0_remember (3, 0, 0) 162 (0, 0) 23 [(0, vR 20), (1, vR 0)] [vR 0, vR (22 + 10 * j)] (wA T S c p A) (fun v w => v = none ∧ w = wA T S ((fAi n + 1 : Nat) : Int) (fAp n P) (upA A (fAp n P (fAi n)) (fCp (A (fAp n P (fAi n))) S))) := by
    intro c p hc j hj hq
    match j, hj, hq with
    | 0, _, hq =>
      refine cv_blkV [(3, 22, 10), (0, 0, 10), (1, 10, 10)] (nA_e T S c p A) (by decide) (by decide) (c_X5_copy T (A 0) S hZ hC hH) rfl lkX5_copy mlX0_27 dX0_remember_23 (by decide) rfl rfl (by decide) rfl (Nat.le_of_ble_eq_true rfl) ⟨Nat.le_refl _, Nat.le_refl _⟩ (fun v w1 h => (congrArg List.length h.2).trans (wCp_ll _ _ _ _ _)) ?_
      intro v w1 hw
      obtain ⟨rfl, rfl⟩ := hw
      exact ⟨[wSt 22 10 (fCp (A 0) S), wSt 0 10 S, wT 10 T], rfl, rfl, tail c p 0 hc hq⟩
    | 1, _, hq =>
      refine cv_blkV [(4, 32, 10), (0, 0, 10), (1, 10, 10)] (nA_e T S c p A) (by decide) (by decide) (c_X5_copy T (A 1) S hZ hC hH) rfl lkX5_copy mlX0_27 dX0_remember_23 (by decide) rfl rfl (by decide) rfl (Nat.le_of_ble_eq_true rfl) ⟨Nat.le_refl _, Nat.le_refl _⟩ (fun v w1 h => (congrArg List.length h.2).trans (wCp_ll _ _ _ _ _)) ?_
      intro v w1 hw
      obtain ⟨rfl, rfl⟩ := hw
      exact ⟨[wSt 32 10 (fCp (A 1) S), wSt 0 10 S, wT 10 T], rfl, rfl, tail c p 1 hc hq⟩
    | 2, _, hq =>
      refine cv_blkV [(5, 42, 10), (0, 0, 10), (1, 10, 10)] (nA_e T S c p A) (by decide) (by decide) (c_X5_copy T (A 2) S hZ hC hH) rfl lkX5_copy mlX0_27 dX0_remember_23 (by decide) rfl rfl (by decide) rfl (Nat.le_of_ble_eq_true rfl) ⟨Nat.le_refl _, Nat.le_refl _⟩ (fun v w1 h => (congrArg List.length h.2).trans (wCp_ll _ _ _ _ _)) ?_
      intro v w1 hw
      obtain ⟨rfl, rfl⟩ := hw
      exact ⟨[wSt 42 10 (fCp (A 2) S), wSt 0 10 S, wT 10 T], rfl, rfl, tail c p 2 hc hq⟩
    | 3, _, hq =>
      refine cv_blkV [(6, 52, 10), (0, 0, 10), (1, 10, 10)] (nA_e T S c p A) (by decide) (by decide) (c_X5_copy T (A 3) S hZ hC hH) rfl lkX5_copy mlX0_27 dX0_remember_23 (by decide) rfl rfl (by decide) rfl (Nat.le_of_ble_eq_true rfl) ⟨Nat.le_refl _, Nat.le_refl _⟩ (fun v w1 h => (congrArg List.length h.2).trans (wCp_ll _ _ _ _ _)) ?_
      intro v w1 hw
      obtain ⟨rfl, rfl⟩ := hw
      exact ⟨[wSt 52 10 (fCp (A 3) S), wSt 0 10 S, wT 10 T], rfl, rfl, tail c p 3 hc hq⟩
    | 4, _, hq =>
      refine cv_blkV [(7, 62, 10), (0, 0, 10), (1, 10, 10)] (nA_e T S c p A) (by decide) (by decide) (c_X5_copy T (A 4) S hZ hC hH) rfl lkX5_copy mlX0_27 dX0_remember_23 (by decide) rfl rfl (by decide) rfl (Nat.le_of_ble_eq_true rfl) ⟨Nat.le_refl _, Nat.le_refl _⟩ (fun v w1 h => (congrArg List.length h.2).trans (wCp_ll _ _ _ _ _)) ?_
      intro v w1 hw
      obtain ⟨rfl, rfl⟩ := hw
      exact ⟨[wSt 62 10 (fCp (A 4) S), wSt 0 10 S, wT 10 T], rfl, rfl, tail c p 4 hc hq⟩
    | 5, _, hq =>
      refine cv_blkV [(8, 72, 10), (0, 0, 10), (1, 10, 10)] (nA_e T S c p A) (by decide) (by decide) (c_X5_copy T (A 5) S hZ hC hH) rfl lkX5_copy mlX0_27 dX0_remember_23 (by decide) rfl rfl (by decide) rfl (Nat.le_of_ble_eq_true rfl) ⟨Nat.le_refl _, Nat.le_refl _⟩ (fun v w1 h => (congrArg List.length h.2).trans (wCp_ll _ _ _ _ _)) ?_
      intro v w1 hw
      obtain ⟨rfl, rfl⟩ := hw
      exact ⟨[wSt 72 10 (fCp (A 5) S), wSt 0 10 S, wT 10 T], rfl, rfl, tail c p 5 hc hq⟩
    | 6, _, hq =>
      refine cv_blkV [(9, 82, 10), (0, 0, 10), (1, 10, 10)] (nA_e T S c p A) (by decide) (by decide) (c_X5_copy T (A 6) S hZ hC hH) rfl lkX5_copy mlX0_27 dX0_remember_23 (by decide) rfl rfl (by decide) rfl (Nat.le_of_ble_eq_true rfl) ⟨Nat.le_refl _, Nat.le_refl _⟩ (fun v w1 h => (congrArg List.length h.2).trans (wCp_ll _ _ _ _ _)) ?_
      intro v w1 hw
      obtain ⟨rfl, rfl⟩ := hw
      exact ⟨[wSt 82 10 (fCp (A 6) S), wSt 0 10 S, wT 10 T], rfl, rfl, tail c p 6 hc hq⟩
    | 7, _, hq =>
      refine cv_blkV [(10, 92, 10), (0, 0, 10), (1, 10, 10)] (nA_e T S c p A) (by decide) (by decide) (c_X5_copy T (A 7) S hZ hC hH) rfl lkX5_copy mlX0_27 dX0_remember_23 (by decide) rfl rfl (by decide) rfl (Nat.le_of_ble_eq_true rfl) ⟨Nat.le_refl _, Nat.le_refl _⟩ (fun v w1 h => (congrArg List.length h.2).trans (wCp_ll _ _ _ _ _)) ?_
      intro v w1 hw
      obtain ⟨rfl, rfl⟩ := hw
      exact ⟨[wSt 92 10 (fCp (A 7) S), wSt 0 10 S, wT 10 T], rfl, rfl, tail c p 7 hc hq⟩
    | 8, _, hq =>
      refine cv_blkV [(11, 102, 10), (0, 0, 10), (1, 10, 10)] (nA_e T S c p A) (by decide) (by decide) (c_X5_copy T (A 8) S hZ hC hH) rfl lkX5_copy mlX0_27 dX0_remember_23 (by decide) rfl rfl (by decide) rfl (Nat.le_of_ble_eq_true rfl) ⟨Nat.le_refl _, Nat.le_refl _⟩ (fun v w1 h => (congrArg List.length h.2).trans (wCp_ll _ _ _ _ _)) ?_
      intro v w1 hw
      obtain ⟨rfl, rfl⟩ := hw
      exact ⟨[wSt 102 10 (fCp (A 8) S), wSt 0 10 S, wT 10 T], rfl, rfl, tail c p 8 hc hq⟩
    | 9, _, hq =>
      refine cv_blkV [(12, 112, 10), (0, 0, 10), (1, 10, 10)] (nA_e T S c p A) (by decide) (by decide) (c_X5_copy T (A 9) S hZ hC hH) rfl lkX5_copy mlX0_27 dX0_remember_23 (by decide) rfl rfl (by decide) rfl (Nat.le_of_ble_eq_true rfl) ⟨Nat.le_refl _, Nat.le_refl _⟩ (fun v w1 h => (congrArg List.length h.2).trans (wCp_ll _ _ _ _ _)) ?_
      intro v w1 hw
      obtain ⟨rfl, rfl⟩ := hw
      exact ⟨[wSt 112 10 (fCp (A 9) S), wSt 0 10 S, wT 10 T], rfl, rfl, tail c p 9 hc hq⟩
    | 10, _, hq =>
      refine cv_blkV [(13, 122, 10), (0, 0, 10), (1, 10, 10)] (nA_e T S c p A) (by decide) (by decide) (c_X5_copy T (A 10) S hZ hC hH) rfl lkX5_copy mlX0_27 dX0_remember_23 (by decide) rfl rfl (by decide) rfl (Nat.le_of_ble_eq_true rfl) ⟨Nat.le_refl _, Nat.le_refl _⟩ (fun v w1 h => (congrArg List.length h.2).trans (wCp_ll _ _ _ _ _)) ?_
      intro v w1 hw
      obtain ⟨rfl, rfl⟩ := hw
      exact ⟨[wSt 122 10 (fCp (A 10) S), wSt 0 10 S, wT 10 T], rfl, rfl, tail c p 10 hc hq⟩
    | 11, _, hq =>
      refine cv_blkV [(14, 132, 10), (0, 0, 10), (1, 10, 10)] (nA_e T S c p A) (by decide) (by decide) (c_X5_copy T (A 11) S hZ hC hH) rfl lkX5_copy mlX0_27 dX0_remember_23 (by decide) rfl rfl (by decide) rfl (Nat.le_of_ble_eq_true rfl) ⟨Nat.le_refl _, Nat.le_refl _⟩ (fun v w1 h => (congrArg List.length h.2).trans (wCp_ll _ _ _ _ _)) ?_
      intro v w1 hw
      obtain ⟨rfl, rfl⟩ := hw
      exact ⟨[wSt 132 10 (fCp (A 11) S), wSt 0 10 S, wT 10 T], rfl, rfl, tail c p 11 hc hq⟩
    | 12, _, hq =>
      refine cv_blkV [(15, 142, 10), (0, 0, 10), (1, 10, 10)] (nA_e T S c p A) (by decide) (by decide) (c_X5_copy T (A 12) S hZ hC hH) rfl lkX5_copy mlX0_27 dX0_remember_23 (by decide) rfl rfl (by decide) rfl (Nat.le_of_ble_eq_true rfl) ⟨Nat.le_refl _, Nat.le_refl _⟩ (fun v w1 h => (congrArg List.length h.2).trans (wCp_ll _ _ _ _ _)) ?_
      intro v w1 hw
      obtain ⟨rfl, rfl⟩ := hw
      exact ⟨[wSt 142 10 (fCp (A 12) S), wSt 0 10 S, wT 10 T], rfl, rfl, tail c p 12 hc hq⟩
    | 13, _, hq =>
      refine cv_blkV [(16, 152, 10), (0, 0, 10), (1, 10, 10)] (nA_e T S c p A) (by decide) (by decide) (c_X5_copy T (A 13) S hZ hC hH) rfl lkX5_copy mlX0_27 dX0_remember_23 (by decide) rfl rfl (by decide) rfl (Nat.le_of_ble_eq_true rfl) ⟨Nat.le_refl _, Nat.le_refl _⟩ (fun v w1 h => (congrArg List.length h.2).trans (wCp_ll _ _ _ _ _)) ?_
      intro v w1 hw
      obtain ⟨rfl, rfl⟩ := hw
      exact ⟨[wSt 152 10 (fCp (A 13) S), wSt 0 10 S, wT 10 T], rfl, rfl, tail c p 13 hc hq⟩
    | j + 14, hj, _ => exact absurd hj (by omega)
  have mid : ∀ (c : Nat) (p : Nat → Nat), (fAi n = c ∧ fAp n P = p) → (c < 14 ∧ p c < 14) → CV MX0_remember (3, 0, 0) 162 (0, 0) 13 [(0, vR 20), (1, vR 0)] [] (wA T S c p A) (fun v w => v = none ∧ w = wA T S ((fAi n + 1 : Nat) : Int) (fAp n P) (upA A (fAp n P (fAi n)) (fCp (A (fAp n P (fAi n))) S))) := by
    intro c p hc hp
    refine cv_aload_n dX0_remember_13 rfl ?_
    refine cv_getf flX0_11 dX0_remember_14 rfl rfl ?_
    refine cv_aload_n dX0_remember_17 rfl ?_
    refine cv_getf flX0_17 dX0_remember_18 rfl rfl ?_
    refine cv_aald (Or.inl rfl) dX0_remember_21 rfl (by rw [bL_len]; omega) (bL_at p _ (by omega)) ?_
    rw [show ((c : Int)).toNat = c from Int.toNat_natCast c]
    refine cv_aload_n dX0_remember_22 rfl ?_
    exact cpy c p hc (p c) hp.2 rfl
  refine cv_aload_n dX0_remember_0 rfl ?_
  refine cv_getf flX0_17 dX0_remember_1 rfl rfl ?_
  refine cv_bipush dX0_remember_4 (by decide) ?_
  refine cv_icmp_lt (tgt := 13) dX0_remember_6 (by decide) (by omega) (fun h6 => ?_) (fun h6 => ?_)
  · exact mid n P (hz (by omega)) ⟨by omega, hP n (by omega)⟩
  · refine cv_aload_n dX0_remember_9 rfl ?_
    refine cv_sameV (c_X0_forgetFirst T S n P A hP) lkX0_forgetFirst mlX0_24 dX0_remember_10 (by decide) rfl rfl (by decide) rfl (Nat.le_of_ble_eq_true rfl) ⟨Nat.le_refl _, Nat.le_refl _⟩ ?_
    intro v w1 hq
    obtain ⟨rfl, rfl⟩ := hq
    exact mid 13 (rot P) (hz2 (by omega)) ⟨by omega, rot_r hP 13 (by omega)⟩
set_option maxRecDepth 100000 in
set_option maxHeartbeats 1000000 in
theorem c_X0_takeBack (T : ctT) (S : ctS) (n : Nat) (P : Nat → Nat) (A : Nat → ctS) (hP : ∀ i, i < 14 → P i < 14) (hn : 1 ≤ n ∧ n ≤ 14) (hA : ∀ i, i < 14 → sZ (A i) ≤ 36 ∧ sC (A i) ≤ 40 ∧ (sH (A i) = 0 ∨ sH (A i) = 1)) : CM MX0_takeBack (3, 0, 0) [vR 20, vR 0] (wA T S n P A) (fun v w => v = none ∧ w = wA T (fCp S (A (P (n - 1)))) ((n - 1 : Nat) : Int) P A) := by
  refine CM.of (by decide) (Nat.le_of_ble_eq_true rfl) ?_
  show CV MX0_takeBack (3, 0, 0) 162 (0, 0) 0 [(0, vR 20), (1, vR 0)] [] (wA T S n P A) _
  obtain ⟨c, rfl⟩ : ∃ c, n = c + 1 := ⟨n - 1, by omega⟩
  have hPc := hP c (by omega)
  have cpy : ∀ (j : Nat), j < 14 → P c = j → CV MX0_takeBack (3, 0, 0) 162 (0, 0) 27 [(0, vR 20), (1, vR 0)] [vR (22 + 10 * j), vR 0] (wA T S c P A) (fun v w => v = none ∧ w = wA T (fCp S (A (P (c + 1 - 1)))) ((c + 1 - 1 : Nat) : Int) P A) := by
    intro j hj hq
    match j, hj, hq with
    | 0, _, hq =>
      refine cv_blkV [(0, 0, 10), (3, 22, 10), (1, 10, 10)] (nA_e T S c P A) (by decide) (by decide) (c_X5_copy T S (A 0) (hA 0 (by omega)).1 (hA 0 (by omega)).2.1 (hA 0 (by omega)).2.2) rfl lkX5_copy mlX0_27 dX0_takeBack_27 (by decide) rfl rfl (by decide) rfl (Nat.le_of_ble_eq_true rfl) ⟨Nat.le_refl _, Nat.le_refl _⟩ (fun v w1 h => (congrArg List.length h.2).trans (wCp_ll _ _ _ _ _)) ?_
      intro v w1 hw
      obtain ⟨rfl, rfl⟩ := hw
      exact ⟨[wSt 0 10 (fCp S (A 0)), wSt 22 10 (A 0), wT 10 T], rfl, rfl, cv_ret rfl dX0_takeBack_30 ⟨Nat.le_refl _, Nat.le_refl _⟩ ⟨rfl, by rw [show c + 1 - 1 = c from rfl, hq]; rfl⟩⟩
    | 1, _, hq =>
      refine cv_blkV [(0, 0, 10), (4, 32, 10), (1, 10, 10)] (nA_e T S c P A) (by decide) (by decide) (c_X5_copy T S (A 1) (hA 1 (by omega)).1 (hA 1 (by omega)).2.1 (hA 1 (by omega)).2.2) rfl lkX5_copy mlX0_27 dX0_takeBack_27 (by decide) rfl rfl (by decide) rfl (Nat.le_of_ble_eq_true rfl) ⟨Nat.le_refl _, Nat.le_refl _⟩ (fun v w1 h => (congrArg List.length h.2).trans (wCp_ll _ _ _ _ _)) ?_
      intro v w1 hw
      obtain ⟨rfl, rfl⟩ := hw
      exact ⟨[wSt 0 10 (fCp S (A 1)), wSt 32 10 (A 1), wT 10 T], rfl, rfl, cv_ret rfl dX0_takeBack_30 ⟨Nat.le_refl _, Nat.le_refl _⟩ ⟨rfl, by rw [show c + 1 - 1 = c from rfl, hq]; rfl⟩⟩
    | 2, _, hq =>
      refine cv_blkV [(0, 0, 10), (5, 42, 10), (1, 10, 10)] (nA_e T S c P A) (by decide) (by decide) (c_X5_copy T S (A 2) (hA 2 (by omega)).1 (hA 2 (by omega)).2.1 (hA 2 (by omega)).2.2) rfl lkX5_copy mlX0_27 dX0_takeBack_27 (by decide) rfl rfl (by decide) rfl (Nat.le_of_ble_eq_true rfl) ⟨Nat.le_refl _, Nat.le_refl _⟩ (fun v w1 h => (congrArg List.length h.2).trans (wCp_ll _ _ _ _ _)) ?_
      intro v w1 hw
      obtain ⟨rfl, rfl⟩ := hw
      exact ⟨[wSt 0 10 (fCp S (A 2)), wSt 42 10 (A 2), wT 10 T], rfl, rfl, cv_ret rfl dX0_takeBack_30 ⟨Nat.le_refl _, Nat.le_refl _⟩ ⟨rfl, by rw [show c + 1 - 1 = c from rfl, hq]; rfl⟩⟩
    | 3, _, hq =>
      refine cv_blkV [(0, 0, 10), (6, 52, 10), (1, 10, 10)] (nA_e T S c P A) (by decide) (by decide) (c_X5_copy T S (A 3) (hA 3 (by omega)).1 (hA 3 (by omega)).2.1 (hA 3 (by omega)).2.2) rfl lkX5_copy mlX0_27 dX0_takeBack_27 (by decide) rfl rfl (by decide) rfl (Nat.le_of_ble_eq_true rfl) ⟨Nat.le_refl _, Nat.le_refl _⟩ (fun v w1 h => (congrArg List.length h.2).trans (wCp_ll _ _ _ _ _)) ?_
      intro v w1 hw
      obtain ⟨rfl, rfl⟩ := hw
      exact ⟨[wSt 0 10 (fCp S (A 3)), wSt 52 10 (A 3), wT 10 T], rfl, rfl, cv_ret rfl dX0_takeBack_30 ⟨Nat.le_refl _, Nat.le_refl _⟩ ⟨rfl, by rw [show c + 1 - 1 = c from rfl, hq]; rfl⟩⟩
    | 4, _, hq =>
      refine cv_blkV [(0, 0, 10), (7, 62, 10), (1, 10, 10)] (nA_e T S c P A) (by decide) (by decide) (c_X5_copy T S (A 4) (hA 4 (by omega)).1 (hA 4 (by omega)).2.1 (hA 4 (by omega)).2.2) rfl lkX5_copy mlX0_27 dX0_takeBack_27 (by decide) rfl rfl (by decide) rfl (Nat.le_of_ble_eq_true rfl) ⟨Nat.le_refl _, Nat.le_refl _⟩ (fun v w1 h => (congrArg List.length h.2).trans (wCp_ll _ _ _ _ _)) ?_
      intro v w1 hw
      obtain ⟨rfl, rfl⟩ := hw
      exact ⟨[wSt 0 10 (fCp S (A 4)), wSt 62 10 (A 4), wT 10 T], rfl, rfl, cv_ret rfl dX0_takeBack_30 ⟨Nat.le_refl _, Nat.le_refl _⟩ ⟨rfl, by rw [show c + 1 - 1 = c from rfl, hq]; rfl⟩⟩
    | 5, _, hq =>
      refine cv_blkV [(0, 0, 10), (8, 72, 10), (1, 10, 10)] (nA_e T S c P A) (by decide) (by decide) (c_X5_copy T S (A 5) (hA 5 (by omega)).1 (hA 5 (by omega)).2.1 (hA 5 (by omega)).2.2) rfl lkX5_copy mlX0_27 dX0_takeBack_27 (by decide) rfl rfl (by decide) rfl (Nat.le_of_ble_eq_true rfl) ⟨Nat.le_refl _, Nat.le_refl _⟩ (fun v w1 h => (congrArg List.length h.2).trans (wCp_ll _ _ _ _ _)) ?_
      intro v w1 hw
      obtain ⟨rfl, rfl⟩ := hw
      exact ⟨[wSt 0 10 (fCp S (A 5)), wSt 72 10 (A 5), wT 10 T], rfl, rfl, cv_ret rfl dX0_takeBack_30 ⟨Nat.le_refl _, Nat.le_refl _⟩ ⟨rfl, by rw [show c + 1 - 1 = c from rfl, hq]; rfl⟩⟩
    | 6, _, hq =>
      refine cv_blkV [(0, 0, 10), (9, 82, 10), (1, 10, 10)] (nA_e T S c P A) (by decide) (by decide) (c_X5_copy T S (A 6) (hA 6 (by omega)).1 (hA 6 (by omega)).2.1 (hA 6 (by omega)).2.2) rfl lkX5_copy mlX0_27 dX0_takeBack_27 (by decide) rfl rfl (by decide) rfl (Nat.le_of_ble_eq_true rfl) ⟨Nat.le_refl _, Nat.le_refl _⟩ (fun v w1 h => (congrArg List.length h.2).trans (wCp_ll _ _ _ _ _)) ?_
      intro v w1 hw
      obtain ⟨rfl, rfl⟩ := hw
      exact ⟨[wSt 0 10 (fCp S (A 6)), wSt 82 10 (A 6), wT 10 T], rfl, rfl, cv_ret rfl dX0_takeBack_30 ⟨Nat.le_refl _, Nat.le_refl _⟩ ⟨rfl, by rw [show c + 1 - 1 = c from rfl, hq]; rfl⟩⟩
    | 7, _, hq =>
      refine cv_blkV [(0, 0, 10), (10, 92, 10), (1, 10, 10)] (nA_e T S c P A) (by decide) (by decide) (c_X5_copy T S (A 7) (hA 7 (by omega)).1 (hA 7 (by omega)).2.1 (hA 7 (by omega)).2.2) rfl lkX5_copy mlX0_27 dX0_takeBack_27 (by decide) rfl rfl (by decide) rfl (Nat.le_of_ble_eq_true rfl) ⟨Nat.le_refl _, Nat.le_refl _⟩ (fun v w1 h => (congrArg List.length h.2).trans (wCp_ll _ _ _ _ _)) ?_
      intro v w1 hw
      obtain ⟨rfl, rfl⟩ := hw
      exact ⟨[wSt 0 10 (fCp S (A 7)), wSt 92 10 (A 7), wT 10 T], rfl, rfl, cv_ret rfl dX0_takeBack_30 ⟨Nat.le_refl _, Nat.le_refl _⟩ ⟨rfl, by rw [show c + 1 - 1 = c from rfl, hq]; rfl⟩⟩
    | 8, _, hq =>
      refine cv_blkV [(0, 0, 10), (11, 102, 10), (1, 10, 10)] (nA_e T S c P A) (by decide) (by decide) (c_X5_copy T S (A 8) (hA 8 (by omega)).1 (hA 8 (by omega)).2.1 (hA 8 (by omega)).2.2) rfl lkX5_copy mlX0_27 dX0_takeBack_27 (by decide) rfl rfl (by decide) rfl (Nat.le_of_ble_eq_true rfl) ⟨Nat.le_refl _, Nat.le_refl _⟩ (fun v w1 h => (congrArg List.length h.2).trans (wCp_ll _ _ _ _ _)) ?_
      intro v w1 hw
      obtain ⟨rfl, rfl⟩ := hw
      exact ⟨[wSt 0 10 (fCp S (A 8)), wSt 102 10 (A 8), wT 10 T], rfl, rfl, cv_ret rfl dX0_takeBack_30 ⟨Nat.le_refl _, Nat.le_refl _⟩ ⟨rfl, by rw [show c + 1 - 1 = c from rfl, hq]; rfl⟩⟩
    | 9, _, hq =>
      refine cv_blkV [(0, 0, 10), (12, 112, 10), (1, 10, 10)] (nA_e T S c P A) (by decide) (by decide) (c_X5_copy T S (A 9) (hA 9 (by omega)).1 (hA 9 (by omega)).2.1 (hA 9 (by omega)).2.2) rfl lkX5_copy mlX0_27 dX0_takeBack_27 (by decide) rfl rfl (by decide) rfl (Nat.le_of_ble_eq_true rfl) ⟨Nat.le_refl _, Nat.le_refl _⟩ (fun v w1 h => (congrArg List.length h.2).trans (wCp_ll _ _ _ _ _)) ?_
      intro v w1 hw
      obtain ⟨rfl, rfl⟩ := hw
      exact ⟨[wSt 0 10 (fCp S (A 9)), wSt 112 10 (A 9), wT 10 T], rfl, rfl, cv_ret rfl dX0_takeBack_30 ⟨Nat.le_refl _, Nat.le_refl _⟩ ⟨rfl, by rw [show c + 1 - 1 = c from rfl, hq]; rfl⟩⟩
    | 10, _, hq =>
      refine cv_blkV [(0, 0, 10), (13, 122, 10), (1, 10, 10)] (nA_e T S c P A) (by decide) (by decide) (c_X5_copy T S (A 10) (hA 10 (by omega)).1 (hA 10 (by omega)).2.1 (hA 10 (by omega)).2.2) rfl lkX5_copy mlX0_27 dX0_takeBack_27 (by decide) rfl rfl (by decide) rfl (Nat.le_of_ble_eq_true rfl) ⟨Nat.le_refl _, Nat.le_refl _⟩ (fun v w1 h => (congrArg List.length h.2).trans (wCp_ll _ _ _ _ _)) ?_
      intro v w1 hw
      obtain ⟨rfl, rfl⟩ := hw
      exact ⟨[wSt 0 10 (fCp S (A 10)), wSt 122 10 (A 10), wT 10 T], rfl, rfl, cv_ret rfl dX0_takeBack_30 ⟨Nat.le_refl _, Nat.le_refl _⟩ ⟨rfl, by rw [show c + 1 - 1 = c from rfl, hq]; rfl⟩⟩
    | 11, _, hq =>
      refine cv_blkV [(0, 0, 10), (14, 132, 10), (1, 10, 10)] (nA_e T S c P A) (by decide) (by decide) (c_X5_copy T S (A 11) (hA 11 (by omega)).1 (hA 11 (by omega)).2.1 (hA 11 (by omega)).2.2) rfl lkX5_copy mlX0_27 dX0_takeBack_27 (by decide) rfl rfl (by decide) rfl (Nat.le_of_ble_eq_true rfl) ⟨Nat.le_refl _, Nat.le_refl _⟩ (fun v w1 h => (congrArg List.length h.2).trans (wCp_ll _ _ _ _ _)) ?_
      intro v w1 hw
      obtain ⟨rfl, rfl⟩ := hw
      exact ⟨[wSt 0 10 (fCp S (A 11)), wSt 132 10 (A 11), wT 10 T], rfl, rfl, cv_ret rfl dX0_takeBack_30 ⟨Nat.le_refl _, Nat.le_refl _⟩ ⟨rfl, by rw [show c + 1 - 1 = c from rfl, hq]; rfl⟩⟩
    | 12, _, hq =>
      refine cv_blkV [(0, 0, 10), (15, 142, 10), (1, 10, 10)] (nA_e T S c P A) (by decide) (by decide) (c_X5_copy T S (A 12) (hA 12 (by omega)).1 (hA 12 (by omega)).2.1 (hA 12 (by omega)).2.2) rfl lkX5_copy mlX0_27 dX0_takeBack_27 (by decide) rfl rfl (by decide) rfl (Nat.le_of_ble_eq_true rfl) ⟨Nat.le_refl _, Nat.le_refl _⟩ (fun v w1 h => (congrArg List.length h.2).trans (wCp_ll _ _ _ _ _)) ?_
      intro v w1 hw
      obtain ⟨rfl, rfl⟩ := hw
      exact ⟨[wSt 0 10 (fCp S (A 12)), wSt 142 10 (A 12), wT 10 T], rfl, rfl, cv_ret rfl dX0_takeBack_30 ⟨Nat.le_refl _, Nat.le_refl _⟩ ⟨rfl, by rw [show c + 1 - 1 = c from rfl, hq]; rfl⟩⟩
    | 13, _, hq =>
      refine cv_blkV [(0, 0, 10), (16, 152, 10), (1, 10, 10)] (nA_e T S c P A) (by decide) (by decide) (c_X5_copy T S (A 13) (hA 13 (by omega)).1 (hA 13 (by omega)).2.1 (hA 13 (by omega)).2.2) rfl lkX5_copy mlX0_27 dX0_takeBack_27 (by decide) rfl rfl (by decide) rfl (Nat.le_of_ble_eq_true rfl) ⟨Nat.le_refl _, Nat.le_refl _⟩ (fun v w1 h => (congrArg List.length h.2).trans (wCp_ll _ _ _ _ _)) ?_
      intro v w1 hw
      obtain ⟨rfl, rfl⟩ := hw
      exact ⟨[wSt 0 10 (fCp S (A 13)), wSt 152 10 (A 13), wT 10 T], rfl, rfl, cv_ret rfl dX0_takeBack_30 ⟨Nat.le_refl _, Nat.le_refl _⟩ ⟨rfl, by rw [show c + 1 - 1 = c from rfl, hq]; rfl⟩⟩
    | j + 14, hj, _ => exact absurd hj (by omega)
  refine cv_aload_n dX0_takeBack_0 rfl ?_
  refine cv_getf flX0_17 dX0_takeBack_1 rfl rfl ?_
  refine cv_if_le (tgt := 30) dX0_takeBack_4 (by decide) (by omega) (fun h4 => ?_) (fun h4 => ?_)
  · exact absurd h4 (by omega)
  · refine cv_aload_n dX0_takeBack_7 rfl ?_
    refine cv_dup dX0_takeBack_8 rfl ?_
    refine cv_getf flX0_17 dX0_takeBack_9 rfl rfl ?_
    refine cv_iconst dX0_takeBack_12 ?_
    refine cv_isub dX0_takeBack_13 ?_
    refine cv_topi ((c : Nat) : Int) (by omega) ?_
    refine cv_putf fpX0_17 dX0_takeBack_14 rfl (Nat.le_of_ble_eq_true rfl) (fun _ => ⟨rfl, rfl⟩) ?_
    refine cv_aload_n dX0_takeBack_17 rfl ?_
    refine cv_aload_n dX0_takeBack_18 rfl ?_
    refine cv_getf flX0_11 dX0_takeBack_19 rfl rfl ?_
    refine cv_aload_n dX0_takeBack_22 rfl ?_
    refine cv_getf flX0_17 dX0_takeBack_23 rfl rfl ?_
    refine cv_aald (Or.inl rfl) dX0_takeBack_26 rfl (by rw [bL_len]; omega) (bL_at P _ (by omega)) ?_
    rw [show ((c : Int)).toNat = c from Int.toNat_natCast c]
    exact cpy (P c) hPc rfl
