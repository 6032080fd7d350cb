theorem fDr_sZ (S : ctS) (m : Int) : sZ (fDr S m) = sZ S := by unfold fDr; split <;> rfl
theorem fDr_sM (S : ctS) (m : Int) : sM (fDr S m) = sM S := by unfold fDr; split <;> rfl
theorem fDr_sL (S : ctS) (m : Int) : sL (fDr S m) = sL S := by unfold fDr; split <;> rfl
theorem fDr_sR (S : ctS) (m : Int) : sR (fDr S m) = sR S := by unfold fDr; split <;> rfl
theorem fDr_sC (S : ctS) (m : Int) : sC (fDr S m) = sC S := by unfold fDr; split <;> rfl
theorem fDr_sCm (S : ctS) (m : Int) : sCm (fDr S m) = sCm S := by unfold fDr; split <;> rfl
theorem fDr_sCs (S : ctS) (m : Int) : sCs (fDr S m) = sCs S := by unfold fDr; split <;> rfl
theorem fDr_sH (S : ctS) (m : Int) : sH (fDr S m) = sH S := by unfold fDr; split <;> rfl
/-- bounds as they are without marks, of the first i numbers -/
def fRs (T : ctT) (S : ctS) : Nat → ctS
  | 0 => S
  | i + 1 => uHi (uLo (fRs T S i) (ct_up (sLo (fRs T S i)) i 0)) (ct_up (sHi (fRs T S i)) i (tT T i))
/-- the first i marks draw their bounds in -/
def fDs (S : ctS) : Nat → ctS
  | 0 => S
  | i + 1 => fDr (fDs S i) (sM S i)
/-- n marks are left -/
def fCut (T : ctT) (S : ctS) (n : Nat) : ctS := fDs (fRs T (uZ S n) 4) n
theorem fRs_sZ (T : ctT) (S : ctS) : ∀ i, sZ (fRs T S i) = sZ S
  | 0 => rfl
  | i + 1 => (show sZ (uHi (uLo (fRs T S i) _) _) = sZ S from fRs_sZ T S i)
theorem fDs_sZ (S : ctS) : ∀ i, sZ (fDs S i) = sZ S
  | 0 => rfl
  | i + 1 => (fDr_sZ _ _).trans (fDs_sZ S i)
theorem fCut_sZ (T : ctT) (S : ctS) (n : Nat) : sZ (fCut T S n) = n := (fDs_sZ _ _).trans (fRs_sZ _ _ _)
theorem fRs_sM (T : ctT) (S : ctS) : ∀ i, sM (fRs T S i) = sM S
  | 0 => rfl
  | i + 1 => (show sM (uHi (uLo (fRs T S i) _) _) = sM S from fRs_sM T S i)
theorem fDs_sM (S : ctS) : ∀ i, sM (fDs S i) = sM S
  | 0 => rfl
  | i + 1 => (fDr_sM _ _).trans (fDs_sM S i)
theorem fCut_sM (T : ctT) (S : ctS) (n : Nat) : sM (fCut T S n) = sM S := (fDs_sM _ _).trans (fRs_sM _ _ _)
theorem fRs_sL (T : ctT) (S : ctS) : ∀ i, sL (fRs T S i) = sL S
  | 0 => rfl
  | i + 1 => (show sL (uHi (uLo (fRs T S i) _) _) = sL S from fRs_sL T S i)
theorem fDs_sL (S : ctS) : ∀ i, sL (fDs S i) = sL S
  | 0 => rfl
  | i + 1 => (fDr_sL _ _).trans (fDs_sL S i)
theorem fCut_sL (T : ctT) (S : ctS) (n : Nat) : sL (fCut T S n) = sL S := (fDs_sL _ _).trans (fRs_sL _ _ _)
theorem fRs_sR (T : ctT) (S : ctS) : ∀ i, sR (fRs T S i) = sR S
  | 0 => rfl
  | i + 1 => (show sR (uHi (uLo (fRs T S i) _) _) = sR S from fRs_sR T S i)
theorem fDs_sR (S : ctS) : ∀ i, sR (fDs S i) = sR S
  | 0 => rfl
  | i + 1 => (fDr_sR _ _).trans (fDs_sR S i)
theorem fCut_sR (T : ctT) (S : ctS) (n : Nat) : sR (fCut T S n) = sR S := (fDs_sR _ _).trans (fRs_sR _ _ _)
theorem fRs_sC (T : ctT) (S : ctS) : ∀ i, sC (fRs T S i) = sC S
  | 0 => rfl
  | i + 1 => (show sC (uHi (uLo (fRs T S i) _) _) = sC S from fRs_sC T S i)
theorem fDs_sC (S : ctS) : ∀ i, sC (fDs S i) = sC S
  | 0 => rfl
  | i + 1 => (fDr_sC _ _).trans (fDs_sC S i)
theorem fCut_sC (T : ctT) (S : ctS) (n : Nat) : sC (fCut T S n) = sC S := (fDs_sC _ _).trans (fRs_sC _ _ _)
theorem fRs_sCm (T : ctT) (S : ctS) : ∀ i, sCm (fRs T S i) = sCm S
  | 0 => rfl
  | i + 1 => (show sCm (uHi (uLo (fRs T S i) _) _) = sCm S from fRs_sCm T S i)
theorem fDs_sCm (S : ctS) : ∀ i, sCm (fDs S i) = sCm S
  | 0 => rfl
  | i + 1 => (fDr_sCm _ _).trans (fDs_sCm S i)
theorem fCut_sCm (T : ctT) (S : ctS) (n : Nat) : sCm (fCut T S n) = sCm S := (fDs_sCm _ _).trans (fRs_sCm _ _ _)
theorem fRs_sCs (T : ctT) (S : ctS) : ∀ i, sCs (fRs T S i) = sCs S
  | 0 => rfl
  | i + 1 => (show sCs (uHi (uLo (fRs T S i) _) _) = sCs S from fRs_sCs T S i)
theorem fDs_sCs (S : ctS) : ∀ i, sCs (fDs S i) = sCs S
  | 0 => rfl
  | i + 1 => (fDr_sCs _ _).trans (fDs_sCs S i)
theorem fCut_sCs (T : ctT) (S : ctS) (n : Nat) : sCs (fCut T S n) = sCs S := (fDs_sCs _ _).trans (fRs_sCs _ _ _)
theorem fRs_sH (T : ctT) (S : ctS) : ∀ i, sH (fRs T S i) = sH S
  | 0 => rfl
  | i + 1 => (show sH (uHi (uLo (fRs T S i) _) _) = sH S from fRs_sH T S i)
theorem fDs_sH (S : ctS) : ∀ i, sH (fDs S i) = sH S
  | 0 => rfl
  | i + 1 => (fDr_sH _ _).trans (fDs_sH S i)
theorem fCut_sH (T : ctT) (S : ctS) (n : Nat) : sH (fCut T S n) = sH S := (fDs_sH _ _).trans (fRs_sH _ _ _)
set_option maxRecDepth 100000 in
set_option maxHeartbeats 1000000 in
theorem c_X9_cutOff (T : ctT) (S : ctS) (hT : okT T) (n : Nat) (hn : n ≤ 36) (hm : ∀ i, i < n → okM T (sM S i)) : CM MX9_cutOff (1, 0, 0) [vR 1, vI n] (wS T S) (fun v w => v = none ∧ w = wS T (fCut T S n)) := by
  refine CM.of (by decide) (Nat.le_of_ble_eq_true rfl) ?_
  show CV MX9_cutOff (1, 0, 0) 20 (0, 0) 0 [(0, vR 1), (1, vI n)] [] (wS T S) _
  have loop2 : ∀ (k : Nat) (i : Nat), (n < i + k) → (i ≤ n) → CV MX9_cutOff (1, 0, 0) 20 (0, 0) 42 [(0, vR 1), (1, vI n), (2, vI i)] [] (wS T (fDs (fRs T (uZ S n) 4) i)) (fun v w => v = none ∧ w = wS T (fCut T S n)) := by
    intro k
    induction k with
    | zero => intro i hk hi; exact absurd hk (by omega)
    | succ k ih =>
      intro i hk hi
      have e1 : sZ (fDs (fRs T (uZ S n) 4) i) = n := (fDs_sZ _ _).trans (fRs_sZ _ _ _)
      have e2 : sM (fDs (fRs T (uZ S n) 4) i) = sM S := (fDs_sM _ _).trans (fRs_sM _ _ _)
      refine cv_iload_n dX9_cutOff_42 rfl ?_
      refine cv_aload_n dX9_cutOff_43 rfl ?_
      refine cv_getf flX9_27 dX9_cutOff_44 rfl rfl ?_
      refine cv_icmp_ge (tgt := 66) dX9_cutOff_47 (by decide) (by omega) (fun h47 => ?_) (fun h47 => ?_)
      · refine cv_ret rfl dX9_cutOff_66 ⟨Nat.le_refl _, Nat.le_refl _⟩ ⟨rfl, by rw [show i = n by omega]; rfl⟩
      · refine cv_aload_n dX9_cutOff_50 rfl ?_
        refine cv_aload_n dX9_cutOff_51 rfl ?_
        refine cv_getf flX9_9 dX9_cutOff_52 rfl rfl ?_
        refine cv_iload_n dX9_cutOff_55 rfl ?_
        refine cv_ialj (i) dX9_cutOff_56 rfl (by omega) (by omega) ?_
        rw [e2]
        refine cv_sameV (c_X9_draw T (fDs (fRs T (uZ S n) 4) i) hT (sM S i) (hm i (by omega))) lkX9_draw mlX9_39 dX9_cutOff_57 (by decide) rfl rfl (by decide) rfl (Nat.le_of_ble_eq_true rfl) ⟨Nat.le_refl _, Nat.le_refl _⟩ ?_
        intro v w1 hq
        obtain ⟨rfl, rfl⟩ := hq
        have e3 : fDr (fDs (fRs T (uZ S n) 4) i) (sM S i) = fDs (fRs T (uZ S n) 4) (i + 1) := by
          show _ = fDr (fDs (fRs T (uZ S n) 4) i) (sM (fRs T (uZ S n) 4) i)
          rw [fRs_sM]
          rfl
        rw [e3]
        refine cv_iinc dX9_cutOff_60 (by decide) rfl rfl rfl ?_
        refine cv_goto (tgt := 42) dX9_cutOff_63 (by decide) ?_
        exact ih (i + 1) (by omega) (by omega)
  have loop1 : ∀ (k : Nat) (i : Nat), (4 < i + k) → (i ≤ 4) → CV MX9_cutOff (1, 0, 0) 20 (0, 0) 7 [(0, vR 1), (1, vI n), (2, vI i)] [] (wS T (fRs T (uZ S n) i)) (fun v w => v = none ∧ w = wS T (fCut T S n)) := by
    intro k
    induction k with
    | zero => intro i hk hi; exact absurd hk (by omega)
    | succ k ih =>
      intro i hk hi
      refine cv_iload_n dX9_cutOff_7 rfl ?_
      refine cv_iconst dX9_cutOff_8 ?_
      refine cv_icmp_ge (tgt := 40) dX9_cutOff_9 (by decide) (by omega) (fun h9 => ?_) (fun h9 => ?_)
      · refine cv_iconst dX9_cutOff_40 ?_
        refine cv_istore_n dX9_cutOff_41 (by decide) rfl rfl ?_
        have e0 : i = 4 := by omega
        subst e0
        exact loop2 (n + 1) 0 (by omega) (by omega)
      · refine cv_aload_n dX9_cutOff_12 rfl ?_
        refine cv_getf flX9_21 dX9_cutOff_13 rfl rfl ?_
        refine cv_iload_n dX9_cutOff_16 rfl ?_
        refine cv_iconst dX9_cutOff_17 ?_
        refine cv_iasj (i) dX9_cutOff_18 rfl (by omega) (by omega) ?_
        refine cv_aload_n dX9_cutOff_19 rfl ?_
        refine cv_getf flX9_24 dX9_cutOff_20 rfl rfl ?_
        refine cv_iload_n dX9_cutOff_23 rfl ?_
        refine cv_aload_n dX9_cutOff_24 rfl ?_
        refine cv_getf flX9_31 dX9_cutOff_25 rfl rfl ?_
        refine cv_getf flX9_42 dX9_cutOff_28 rfl rfl ?_
        refine cv_iload_n dX9_cutOff_31 rfl ?_
        refine cv_ialj (i) dX9_cutOff_32 rfl (by omega) (by omega) ?_
        refine cv_iasj (i) dX9_cutOff_33 rfl (by omega) (by omega) ?_
        refine cv_iinc dX9_cutOff_34 (by decide) rfl rfl rfl ?_
        refine cv_goto (tgt := 7) dX9_cutOff_37 (by decide) ?_
        exact ih (i + 1) (by omega) (by omega)
  refine cv_aload_n dX9_cutOff_0 rfl ?_
  refine cv_iload_n dX9_cutOff_1 rfl ?_
  refine cv_putf fpX9_27 dX9_cutOff_2 rfl (Nat.le_of_ble_eq_true rfl) (fun _ => ⟨rfl, rfl⟩) ?_
  refine cv_iconst dX9_cutOff_5 ?_
  refine cv_istore_n dX9_cutOff_6 (by decide) rfl rfl ?_
  exact loop1 5 0 (by omega) (by omega)
/-- how many marks are left when those above a level go: from the end on -/
def fAb (S : ctS) (l : Int) : Nat → Nat
  | 0 => 0
  | i + 1 => if l < sL S i then fAb S l i else i + 1
theorem fAb_le (S : ctS) (l : Int) : ∀ n, fAb S l n ≤ n
  | 0 => Nat.le_refl _
  | n + 1 => by
    unfold fAb
    split
    · exact Nat.le_succ_of_le (fAb_le S l n)
    · exact Nat.le_refl _
/-- marks above a level go -/
def fUp (T : ctT) (S : ctS) (l : Int) : ctS := fCut T S (fAb S l (sZ S))
set_option maxRecDepth 100000 in
set_option maxHeartbeats 1000000 in
theorem c_X9_cutAbove (T : ctT) (S : ctS) (hT : okT T) (hS : okS T S) (q : Int) (hq : -2147483648 ≤ q ∧ q ≤ 2147483647) : CM MX9_cutAbove (2, 0, 0) [vR 1, vI q] (wS T S) (fun v w => v = none ∧ w = wS T (fUp T S q)) := by
  refine CM.of (by decide) (Nat.le_of_ble_eq_true rfl) ?_
  show CV MX9_cutAbove (2, 0, 0) 20 (0, 0) 0 [(0, vR 1), (1, vI q)] [] (wS T S) _
  have hZ := hS.1
  have fin : ∀ (n : Nat), (n = fAb S q (sZ S)) → CV MX9_cutAbove (2, 0, 0) 20 (0, 0) 27 [(0, vR 1), (1, vI q), (2, vI n)] [] (wS T S) (fun v w => v = none ∧ w = wS T (fUp T S q)) := by
    intro n hn
    have hle := fAb_le S q (sZ S)
    refine cv_aload_n dX9_cutAbove_27 rfl ?_
    refine cv_iload_n dX9_cutAbove_28 rfl ?_
    refine cv_sameV (c_X9_cutOff T S hT n (by omega) (fun i hi => hS.2.1 i (by omega))) lkX9_cutOff mlX9_35 dX9_cutAbove_29 (by decide) rfl rfl (by decide) rfl (Nat.le_of_ble_eq_true rfl) ⟨Nat.le_refl _, Nat.le_refl _⟩ ?_
    intro v w1 hq2
    obtain ⟨rfl, rfl⟩ := hq2
    refine cv_ret rfl dX9_cutAbove_32 ⟨Nat.le_refl _, Nat.le_refl _⟩ ⟨rfl, by rw [hn]; rfl⟩
  have loop : ∀ (k : Nat) (n : Nat), (n < k) → (n ≤ sZ S) → (fAb S q (sZ S) = fAb S q n) → CV MX9_cutAbove (2, 0, 0) 20 (0, 0) 5 [(0, vR 1), (1, vI q), (2, vI n)] [] (wS T S) (fun v w => v = none ∧ w = wS T (fUp T S q)) := by
    intro k
    induction k with
    | zero => intro n hk hi he; exact absurd hk (by omega)
    | succ k ih =>
      intro n hk hi he
      cases n with
      | zero =>
        refine cv_iload_n dX9_cutAbove_5 rfl ?_
        refine cv_if_le (tgt := 27) dX9_cutAbove_6 (by decide) (by omega) (fun h6 => ?_) (fun h6 => absurd h6 (by omega))
        exact fin 0 (by rw [he]; rfl)
      | succ n =>
      have e0 : ((n + 1 : Nat) : Int) = (n : Int) + 1 := rfl
      obtain ⟨q1, q2⟩ := hS.2.2.1 n (by omega)
      refine cv_iload_n dX9_cutAbove_5 rfl ?_
      refine cv_if_le (tgt := 27) dX9_cutAbove_6 (by decide) (by omega) (fun h6 => ?_) (fun h6 => ?_)
      · exact absurd h6 (by omega)
      · refine cv_aload_n dX9_cutAbove_9 rfl ?_
        refine cv_getf flX9_15 dX9_cutAbove_10 rfl rfl ?_
        refine cv_iload_n dX9_cutAbove_13 rfl ?_
        refine cv_iconst dX9_cutAbove_14 ?_
        refine cv_isub dX9_cutAbove_15 ?_
        refine cv_ialj (n) dX9_cutAbove_16 rfl (by omega) (by omega) ?_
        refine cv_iload_n dX9_cutAbove_17 rfl ?_
        refine cv_icmp_le (tgt := 27) dX9_cutAbove_18 (by decide) (by omega) (fun h18 => ?_) (fun h18 => ?_)
        · exact fin (n + 1) (by rw [he]; unfold fAb; rw [if_neg (by omega)])
        · refine cv_iinc dX9_cutAbove_21 (by decide) rfl rfl rfl ?_
          refine cv_goto (tgt := 5) dX9_cutAbove_24 (by decide) ?_
          rw [show ((n + 1 : Nat) : Int) + -1 = (n : Int) by omega]
          exact ih n (by omega) (by omega) (by rw [he]; exact if_pos (by omega))
  refine cv_aload_n dX9_cutAbove_0 rfl ?_
  refine cv_getf flX9_27 dX9_cutAbove_1 rfl rfl ?_
  refine cv_istore_n dX9_cutAbove_4 (by decide) rfl rfl ?_
  exact loop (sZ S + 1) (sZ S) (by omega) (by omega) rfl
