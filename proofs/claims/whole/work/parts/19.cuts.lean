/-- an empty cut comes behind all; a mark comes behind the last cut's; a cut is forgotten -/
def fAE (S : ctS) : ctS := uC (uCs S (ct_up (sCs S) (sC S) 0)) (sC S + 1)
def fPL (S : ctS) (m : Int) : ctS := uCs (uCm S (ct_up (sCm S) (8 * (sC S - 1) + (sCs S (sC S - 1)).toNat) m)) (ct_up (sCs S) (sC S - 1) (sCs S (sC S - 1) + 1))
def fFg (S : ctS) (c : Nat) : ctS := uC (uCm (uCs S (ct_cpy (sCs S) (sCs S) (c + 1) c (sC S - c - 1))) (ct_cpy (sCm S) (sCm S) (8 * c + 8) (8 * c) (8 * (sC S - c - 1)))) (sC S - 1)
set_option maxRecDepth 100000 in
set_option maxHeartbeats 1000000 in
theorem c_X2_addEmpty (T : ctT) (S : ctS) (hC : sC S < 40) : CM MX2_addEmpty (0, 0, 0) [vR 7] (wS T S) (fun v w => v = none ∧ w = wS T (fAE S)) := by
  refine CM.of (by decide) (Nat.le_of_ble_eq_true rfl) ?_
  show CV MX2_addEmpty (0, 0, 0) 20 (0, 0) 0 [(0, vR 7)] [] (wS T S) _
  refine cv_aload_n dX2_addEmpty_0 rfl ?_
  refine cv_getf flX2_18 dX2_addEmpty_1 rfl rfl ?_
  refine cv_bipush dX2_addEmpty_4 (by decide) ?_
  refine cv_icmp_ge (tgt := 29) dX2_addEmpty_6 (by decide) (by omega) (fun h6 => ?_) (fun h6 => ?_)
  · exact absurd h6 (by omega)
  · refine cv_aload_n dX2_addEmpty_9 rfl ?_
    refine cv_getf flX2_15 dX2_addEmpty_10 rfl rfl ?_
    refine cv_aload_n dX2_addEmpty_13 rfl ?_
    refine cv_getf flX2_18 dX2_addEmpty_14 rfl rfl ?_
    refine cv_iconst dX2_addEmpty_17 ?_
    refine cv_iasj (sC S) dX2_addEmpty_18 rfl (by omega) (by omega) ?_
    refine cv_aload_n dX2_addEmpty_19 rfl ?_
    refine cv_dup dX2_addEmpty_20 rfl ?_
    refine cv_getf flX2_18 dX2_addEmpty_21 rfl rfl ?_
    refine cv_iconst dX2_addEmpty_24 ?_
    refine cv_iadd dX2_addEmpty_25 ?_
    refine cv_putf fpX2_18 dX2_addEmpty_26 rfl (Nat.le_of_ble_eq_true rfl) (fun _ => ⟨rfl, rfl⟩) ?_
    refine cv_ret rfl dX2_addEmpty_29 ⟨Nat.le_refl _, Nat.le_refl _⟩ ⟨rfl, rfl⟩
set_option maxRecDepth 100000 in
set_option maxHeartbeats 1000000 in
theorem c_X2_putInLast (T : ctT) (S : ctS) (hC : 0 < sC S ∧ sC S ≤ 40) (hs : 0 ≤ sCs S (sC S - 1) ∧ sCs S (sC S - 1) < 8) (m : Int) : CM MX2_putInLast (0, 0, 0) [vR 7, vI m] (wS T S) (fun v w => v = none ∧ w = wS T (fPL S m)) := by
  refine CM.of (by decide) (Nat.le_of_ble_eq_true rfl) ?_
  show CV MX2_putInLast (0, 0, 0) 20 (0, 0) 0 [(0, vR 7), (1, vI m)] [] (wS T S) _
  refine cv_aload_n dX2_putInLast_0 rfl ?_
  refine cv_getf flX2_18 dX2_putInLast_1 rfl rfl ?_
  refine cv_iconst dX2_putInLast_4 ?_
  refine cv_isub dX2_putInLast_5 ?_
  refine cv_istore_n dX2_putInLast_6 (by decide) rfl rfl ?_
  refine cv_iload_n dX2_putInLast_7 rfl ?_
  refine cv_if_lt (tgt := 49) dX2_putInLast_8 (by decide) (by omega) (fun h8 => ?_) (fun h8 => ?_)
  · exact absurd h8 (by omega)
  · refine cv_aload_n dX2_putInLast_11 rfl ?_
    refine cv_getf flX2_15 dX2_putInLast_12 rfl rfl ?_
    refine cv_iload_n dX2_putInLast_15 rfl ?_
    refine cv_ialj (sC S - 1) dX2_putInLast_16 rfl (by omega) (by omega) ?_
    refine cv_bipush dX2_putInLast_17 (by decide) ?_
    refine cv_icmp_ge (tgt := 49) dX2_putInLast_19 (by decide) (by omega) (fun h19 => ?_) (fun h19 => ?_)
    · exact absurd h19 (by omega)
    · refine cv_aload_n dX2_putInLast_22 rfl ?_
      refine cv_getf flX2_9 dX2_putInLast_23 rfl rfl ?_
      refine cv_iload_n dX2_putInLast_26 rfl ?_
      refine cv_bipush dX2_putInLast_27 (by decide) ?_
      refine cv_imul dX2_putInLast_29 ?_
      refine cv_aload_n dX2_putInLast_30 rfl ?_
      refine cv_getf flX2_15 dX2_putInLast_31 rfl rfl ?_
      refine cv_iload_n dX2_putInLast_34 rfl ?_
      refine cv_ialj (sC S - 1) dX2_putInLast_35 rfl (by omega) (by omega) ?_
      refine cv_iadd dX2_putInLast_36 ?_
      refine cv_iload_n dX2_putInLast_37 rfl ?_
      refine cv_iasj (8 * (sC S - 1) + (sCs S (sC S - 1)).toNat) dX2_putInLast_38 rfl (by omega) (by omega) ?_
      refine cv_aload_n dX2_putInLast_39 rfl ?_
      refine cv_getf flX2_15 dX2_putInLast_40 rfl rfl ?_
      refine cv_iload_n dX2_putInLast_43 rfl ?_
      refine cv_dup2 dX2_putInLast_44 rfl rfl ?_
      refine cv_ialj (sC S - 1) dX2_putInLast_45 rfl (by omega) (by omega) ?_
      refine cv_iconst dX2_putInLast_46 ?_
      refine cv_iadd dX2_putInLast_47 ?_
      refine cv_iasj (sC S - 1) dX2_putInLast_48 rfl (by omega) (by omega) ?_
      refine cv_ret rfl dX2_putInLast_49 ⟨Nat.le_refl _, Nat.le_refl _⟩ ⟨rfl, rfl⟩
set_option maxRecDepth 100000 in
set_option maxHeartbeats 1000000 in
theorem c_X2_forget (T : ctT) (S : ctS) (c : Nat) (hc : c < sC S) (hC : sC S ≤ 40) : CM MX2_forget (1, 0, 0) [vR 7, vI c] (wS T S) (fun v w => v = none ∧ w = wS T (fFg S c)) := by
  refine CM.of (by decide) (Nat.le_of_ble_eq_true rfl) ?_
  show CV MX2_forget (1, 0, 0) 20 (0, 0) 0 [(0, vR 7), (1, vI c)] [] (wS T S) _
  have e1 : ((c : Int) + 1).toNat = c + 1 := by omega
  have e2 : ((sC S : Int) - (c : Int) - 1).toNat = sC S - c - 1 := by omega
  have e3 : ((c : Int) * 8 + 8).toNat = 8 * c + 8 := by omega
  have e4 : ((c : Int) * 8).toNat = 8 * c := by omega
  have e5 : (((sC S : Int) - (c : Int) - 1) * 8).toNat = 8 * (sC S - c - 1) := by omega
  have e6 : ((sC S : Int) - 1) = ((sC S - 1 : Nat) : Int) := by omega
  refine cv_aload_n dX2_forget_0 rfl ?_
  refine cv_getf flX2_18 dX2_forget_1 rfl rfl ?_
  refine cv_iload_n dX2_forget_4 rfl ?_
  refine cv_isub dX2_forget_5 ?_
  refine cv_iconst dX2_forget_6 ?_
  refine cv_isub dX2_forget_7 ?_
  refine cv_istore_n dX2_forget_8 (by decide) rfl rfl ?_
  refine cv_iload_n dX2_forget_9 rfl ?_
  refine cv_bipush dX2_forget_10 (by decide) ?_
  refine cv_imul dX2_forget_12 ?_
  refine cv_istore_n dX2_forget_13 (by decide) rfl rfl ?_
  refine cv_aload_n dX2_forget_14 rfl ?_
  refine cv_getf flX2_15 dX2_forget_15 rfl rfl ?_
  refine cv_iload_n dX2_forget_18 rfl ?_
  refine cv_iconst dX2_forget_19 ?_
  refine cv_iadd dX2_forget_20 ?_
  refine cv_aload_n dX2_forget_21 rfl ?_
  refine cv_getf flX2_15 dX2_forget_22 rfl rfl ?_
  refine cv_iload_n dX2_forget_25 rfl ?_
  refine cv_iload_n dX2_forget_26 rfl ?_
  refine cv_copy mlX2_22 dX2_forget_27 (by decide) (Nat.le_of_ble_eq_true rfl) rfl rfl (by omega) ?_
  refine cv_aload_n dX2_forget_30 rfl ?_
  refine cv_getf flX2_9 dX2_forget_31 rfl rfl ?_
  refine cv_iload_n dX2_forget_34 rfl ?_
  refine cv_bipush dX2_forget_35 (by decide) ?_
  refine cv_iadd dX2_forget_37 ?_
  refine cv_aload_n dX2_forget_38 rfl ?_
  refine cv_getf flX2_9 dX2_forget_39 rfl rfl ?_
  refine cv_iload_n dX2_forget_42 rfl ?_
  refine cv_iload_n dX2_forget_43 rfl ?_
  refine cv_bipush dX2_forget_44 (by decide) ?_
  refine cv_imul dX2_forget_46 ?_
  refine cv_copy mlX2_22 dX2_forget_47 (by decide) (Nat.le_of_ble_eq_true rfl) rfl rfl (by omega) ?_
  refine cv_aload_n dX2_forget_50 rfl ?_
  refine cv_dup dX2_forget_51 rfl ?_
  refine cv_getf flX2_18 dX2_forget_52 rfl rfl ?_
  refine cv_iconst dX2_forget_55 ?_
  refine cv_isub dX2_forget_56 ?_
  refine cv_putf fpX2_18 dX2_forget_57 rfl (Nat.le_of_ble_eq_true rfl) (fun _ => ⟨rfl, rfl⟩) ?_
  rw [e1, e2, e3, e4, e5, Int.toNat_natCast, e6]
  refine cv_ret rfl dX2_forget_60 ⟨Nat.le_refl _, Nat.le_refl _⟩ ⟨rfl, rfl⟩
/-- the first cut that is no reason is forgotten -/
noncomputable def fFF (S : ctS) : ctS := match ct_first (fun c => ¬ rsP S (10 + (c : Int))) (sC S) with
  | some c => uR (fFg S c) (fLR (fFg S c) (10 + (c : Int)) (sZ (fFg S c)))
  | none => S
theorem okS_Fg {T : ctT} {S : ctS} {c : Nat} (hS : okS T S) (hc : c < sC S) : okS T (fFg S c) := by
  obtain ⟨o1, o2, o3, o4, o5, o6, o7, o8, o9⟩ := hS
  have e1 : sC (fFg S c) = sC S - 1 := rfl
  have e2 : ∀ d, sCs (fFg S c) d = if c ≤ d ∧ d < c + (sC S - c - 1) then sCs S (c + 1 + (d - c)) else sCs S d := fun _ => rfl
  have e3 : ∀ d, sCm (fFg S c) d = if 8 * c ≤ d ∧ d < 8 * c + 8 * (sC S - c - 1) then sCm S (8 * c + 8 + (d - 8 * c)) else sCm S d := fun _ => rfl
  refine ⟨o1, o2, o3, o4, o5, by rw [e1]; omega, fun d hd => ?_, fun d k hd hk => ?_, o9⟩
  · rw [e1] at hd
    rw [e2]
    split
    · exact o7 _ (by omega)
    · exact o7 _ (by omega)
  · rw [e1] at hd
    rw [e2] at hk
    rw [e3]
    by_cases h : c ≤ d ∧ d < c + (sC S - c - 1)
    · rw [if_pos h] at hk
      have h7 := o7 (c + 1 + (d - c)) (by omega)
      rw [if_pos (by omega), show 8 * c + 8 + (8 * d + k - 8 * c) = 8 * (c + 1 + (d - c)) + k by omega]
      exact o8 _ k (by omega) hk
    · rw [if_neg h] at hk
      have h7 := o7 d (by omega)
      rw [if_neg (by omega)]
      exact o8 _ k (by omega) hk
set_option maxRecDepth 100000 in
set_option maxHeartbeats 1000000 in
theorem c_X5_forgetFirstFree (T : ctT) (S : ctS) (hT : okT T) (hS : okS T S) : CM MX5_forgetFirstFree (2, 0, 0) [vR 0] (wS T S) (fun v w => v = none ∧ w = wS T (fFF S)) := by
  refine CM.of (by decide) (Nat.le_of_ble_eq_true rfl) ?_
  show CV MX5_forgetFirstFree (2, 0, 0) 20 (0, 0) 0 [(0, vR 0)] [] (wS T S) _
  have hC := hS.2.2.2.2.2.1
  have loop : ∀ (k : Nat) (c : Nat), (sC S < c + k) → (c ≤ sC S) → (∀ j, j < c → ¬ ¬ rsP S (10 + (j : Int))) → CV MX5_forgetFirstFree (2, 0, 0) 20 (0, 0) 2 [(0, vR 0), (1, vI c)] [] (wS T S) (fun v w => v = none ∧ w = wS T (fFF S)) := by
    intro k
    induction k with
    | zero => intro c hk hi hv; exact absurd hk (by omega)
    | succ k ih =>
      intro c hk hi hv
      have r0 := ct_i_r (rsP S (10 + (c : Int)))
      refine cv_iload_n dX5_forgetFirstFree_2 rfl ?_
      refine cv_aload_n dX5_forgetFirstFree_3 rfl ?_
      refine cv_getf flX5_12 dX5_forgetFirstFree_4 rfl rfl ?_
      refine cv_getf flX5_35 dX5_forgetFirstFree_7 rfl rfl ?_
      refine cv_icmp_ge (tgt := 53) dX5_forgetFirstFree_10 (by decide) (by omega) (fun h10 => ?_) (fun h10 => ?_)
      · refine cv_ret rfl dX5_forgetFirstFree_53 ⟨Nat.le_refl _, Nat.le_refl _⟩ ⟨rfl, by unfold fFF; rw [ct_first_no (P := fun c => ¬ rsP S (10 + (c : Int))) (fun j hj => hv j (by omega))]⟩
      · refine cv_aload_n dX5_forgetFirstFree_13 rfl ?_
        refine cv_getf flX5_31 dX5_forgetFirstFree_14 rfl rfl ?_
        refine cv_bipush dX5_forgetFirstFree_17 (by decide) ?_
        refine cv_iload_n dX5_forgetFirstFree_19 rfl ?_
        refine cv_iadd dX5_forgetFirstFree_20 ?_
        refine cv_sameV (c_X9_hasReason T S hS (10 + (c : Int)) (by omega)) lkX9_hasReason mlX5_136 dX5_forgetFirstFree_21 (by decide) rfl rfl (by decide) rfl (Nat.le_of_ble_eq_true rfl) ⟨Nat.le_refl _, Nat.le_refl _⟩ ?_
        intro v w1 hq
        obtain ⟨rfl, rfl⟩ := hq
        refine cv_if_ne (tgt := 47) dX5_forgetFirstFree_24 (by decide) (by omega) (fun h24 => ?_) (fun h24 => ?_)
        · refine cv_iinc dX5_forgetFirstFree_47 (by decide) rfl rfl rfl ?_
          refine cv_goto (tgt := 2) dX5_forgetFirstFree_50 (by decide) ?_
          exact ih (c + 1) (by omega) (by omega) (fun j hj => by
            rcases Nat.lt_succ_iff_lt_or_eq.mp hj with q | q
            · exact hv j q
            · subst q
              exact fun h => h (ct_i_1.mp (by omega)))
        · refine cv_aload_n dX5_forgetFirstFree_27 rfl ?_
          refine cv_getf flX5_12 dX5_forgetFirstFree_28 rfl rfl ?_
          refine cv_iload_n dX5_forgetFirstFree_31 rfl ?_
          refine cv_sameV (c_X2_forget T S c (by omega) hC) lkX2_forget mlX5_139 dX5_forgetFirstFree_32 (by decide) rfl rfl (by decide) rfl (Nat.le_of_ble_eq_true rfl) ⟨Nat.le_refl _, Nat.le_refl _⟩ ?_
          intro v w1 hq
          obtain ⟨rfl, rfl⟩ := hq
          refine cv_aload_n dX5_forgetFirstFree_35 rfl ?_
          refine cv_getf flX5_31 dX5_forgetFirstFree_36 rfl rfl ?_
          refine cv_bipush dX5_forgetFirstFree_39 (by decide) ?_
          refine cv_iload_n dX5_forgetFirstFree_41 rfl ?_
          refine cv_iadd dX5_forgetFirstFree_42 ?_
          refine cv_sameV (c_X9_lowerReasonsAbove T (fFg S c) (okS_Fg hS (by omega)) (10 + (c : Int)) (by omega)) lkX9_lowerReasonsAbove mlX5_142 dX5_forgetFirstFree_43 (by decide) rfl rfl (by decide) rfl (Nat.le_of_ble_eq_true rfl) ⟨Nat.le_refl _, Nat.le_refl _⟩ ?_
          intro v w1 hq
          obtain ⟨rfl, rfl⟩ := hq
          refine cv_ret rfl dX5_forgetFirstFree_46 ⟨Nat.le_refl _, Nat.le_refl _⟩ ⟨rfl, by unfold fFF; rw [ct_first_is (P := fun c => ¬ rsP S (10 + (c : Int))) (i := c) (ct_i_0.mp h24) hv (by omega)]⟩
  refine cv_iconst dX5_forgetFirstFree_0 ?_
  refine cv_istore_n dX5_forgetFirstFree_1 (by decide) rfl rfl ?_
  exact loop (sC S + 1) 0 (by omega) (by omega) (fun j hj => absurd hj (Nat.not_lt_zero _))
