/-- a row, its last mark taken away -/
def pLv (p : Nat → Int) (n : Nat) : Nat → Int := ct_up (ct_up (ct_up (ct_up p 0 (n : Int)) (1 + n) 0) (37 + n) 0) (73 + n) 0
theorem Rep_lv {S : ctS} {p : Nat → Int} {n : Nat} (h : Rep (uZ S (n + 1)) p) (hn : n < 36) : Rep (uZ S n) (pLv p n) := by
  obtain ⟨h1, h2, h3, h4, h5⟩ := h
  have far : ∀ j, 109 ≤ j → pLv p n j = p j := fun j hj => by
    unfold pLv
    rw [ct_up_n (by omega), ct_up_n (by omega), ct_up_n (by omega), ct_up_n (by omega)]
  refine ⟨?_, fun i hi => ?_, ?_, fun c hc => ⟨?_, fun k hk => ?_⟩, ?_⟩
  · show pLv p n 0 = (n : Int)
    unfold pLv
    rw [ct_up_n (by omega), ct_up_n (by omega), ct_up_n (by omega), ct_up_s]
  · have hi' : i < n := hi
    have := h2 i (show i < n + 1 by omega)
    unfold pLv
    refine ⟨?_, ?_, ?_⟩
    · rw [ct_up_n (by omega), ct_up_n (by omega), ct_up_n (by omega), ct_up_n (by omega)]; exact this.1
    · rw [ct_up_n (by omega), ct_up_n (by omega), ct_up_n (by omega), ct_up_n (by omega)]; exact this.2.1
    · rw [ct_up_n (by omega), ct_up_n (by omega), ct_up_n (by omega), ct_up_n (by omega)]; exact this.2.2
  · rw [far _ (by omega)]; exact h3
  · rw [far _ (by omega)]; exact (h4 c hc).1
  · rw [far _ (by omega)]; exact (h4 c hc).2 k hk
  · rw [far _ (by omega)]; exact h5
theorem Rep_cut {T : ctT} {S : ctS} {p : Nat → Int} {n : Nat} (h : Rep (uZ S n) p) : Rep (fCut T S n) p := by
  obtain ⟨h1, h2, h3, h4, h5⟩ := h
  refine ⟨?_, ?_, ?_, ?_, ?_⟩
  · rw [fCut_sZ]; exact h1
  · rw [fCut_sZ, fCut_sM, fCut_sL, fCut_sR]; exact h2
  · rw [fCut_sC]; exact h3
  · rw [fCut_sC, fCut_sCs, fCut_sCm]; exact h4
  · rw [fCut_sH]; exact h5
set_option maxRecDepth 100000 in
set_option maxHeartbeats 1000000 in
theorem c_X12_leaveAbove (u v : Nat) (T : ctT) (o : Nat → Int) (A : Nat → Nat → Int) (tm tr : Int) (p st : Nat → Int) (S : ctS) (hT : okT T) (hA : rT T A) (hR : Rep S p) (hJ : J T S) (l : Int) (hl : -2147483648 ≤ l ∧ l ≤ 2147483647) : CM MX12_leaveAbove (0, 0, 0) [vR 0, vR 5, vI l] (wM u v T o A tm tr p st) (fun v1 w => ∃ p1, v1 = none ∧ w = wM u v T o A tm tr p1 st ∧ Rep (fUp T S l) p1) := by
  refine CM.of (by decide) (Nat.le_of_ble_eq_true rfl) ?_
  show CV MX12_leaveAbove (0, 0, 0) 19 (0, 0) 0 [(0, vR 0), (1, vR 5), (2, vI l)] [] (wM u v T o A tm tr p st) _
  have hZ := (J_g hT hJ).1.1
  have loop : ∀ (n : Nat) (p : Nat → Int), n ≤ sZ S → Rep (uZ S n) p → fAb S l n = fAb S l (sZ S) → CV MX12_leaveAbove (0, 0, 0) 19 (0, 0) 0 [(0, vR 0), (1, vR 5), (2, vI l)] [] (wM u v T o A tm tr p st) (fun v1 w => ∃ p1, v1 = none ∧ w = wM u v T o A tm tr p1 st ∧ Rep (fUp T S l) p1) := by
    intro n
    induction n with
    | zero =>
      intro p hn hR he
      refine cv_aload_n dX12_leaveAbove_0 rfl ?_
      refine cv_iconst dX12_leaveAbove_1 ?_
      refine cv_ialj (0) dX12_leaveAbove_2 rfl (by omega) (by omega) ?_
      rw [show p 0 = ((0 : Nat) : Int) from hR.1]
      refine cv_if_le (tgt := 56) dX12_leaveAbove_3 (by decide) (by omega) (fun h3 => ?_) (fun h3 => ?_)
      · refine cv_ret rfl dX12_leaveAbove_56 ⟨Nat.le_refl _, Nat.le_refl _⟩ ⟨p, rfl, rfl, by unfold fUp; rw [← he]; exact Rep_cut hR⟩
      · exact absurd h3 (by omega)
    | succ n ih =>
      intro p hn hR he
      have p0 : p 0 = ((n + 1 : Nat) : Int) := hR.1
      have pl : p (37 + n) = sL S n := (hR.2.1 n (show n < n + 1 by omega)).2.1
      have l0 := hJ.2.1.1 n (by omega)
      refine cv_aload_n dX12_leaveAbove_0 rfl ?_
      refine cv_iconst dX12_leaveAbove_1 ?_
      refine cv_ialj (0) dX12_leaveAbove_2 rfl (by omega) (by omega) ?_
      rw [p0]
      refine cv_if_le (tgt := 56) dX12_leaveAbove_3 (by decide) (by omega) (fun h3 => ?_) (fun h3 => ?_)
      · exact absurd h3 (by omega)
      · refine cv_aload_n dX12_leaveAbove_6 rfl ?_
        refine cv_bipush dX12_leaveAbove_7 (by decide) ?_
        refine cv_aload_n dX12_leaveAbove_9 rfl ?_
        refine cv_iconst dX12_leaveAbove_10 ?_
        refine cv_ialj (0) dX12_leaveAbove_11 rfl (by omega) (by omega) ?_
        rw [p0]
        refine cv_iadd dX12_leaveAbove_12 ?_
        refine cv_iconst dX12_leaveAbove_13 ?_
        refine cv_isub dX12_leaveAbove_14 ?_
        refine cv_ialj (37 + n) dX12_leaveAbove_15 rfl (by omega) (by omega) ?_
        rw [pl]
        refine cv_iload_n dX12_leaveAbove_16 rfl ?_
        refine cv_icmp_le (tgt := 56) dX12_leaveAbove_17 (by decide) (by omega) (fun h17 => ?_) (fun h17 => ?_)
        · refine cv_ret rfl dX12_leaveAbove_56 ⟨Nat.le_refl _, Nat.le_refl _⟩ ⟨p, rfl, rfl, by unfold fUp; rw [← he, show fAb S l (n + 1) = n + 1 from if_neg (by omega)]; exact Rep_cut hR⟩
        · refine cv_aload_n dX12_leaveAbove_20 rfl ?_
          refine cv_iconst dX12_leaveAbove_21 ?_
          refine cv_dup2 dX12_leaveAbove_22 rfl rfl ?_
          refine cv_ialj (0) dX12_leaveAbove_23 rfl (by omega) (by omega) ?_
          rw [p0]
          refine cv_iconst dX12_leaveAbove_24 ?_
          refine cv_isub dX12_leaveAbove_25 ?_
          refine cv_topi (n : Int) (by omega) ?_
          refine cv_iasj (0) dX12_leaveAbove_26 rfl (by omega) (by omega) ?_
          refine cv_aload_n dX12_leaveAbove_27 rfl ?_
          refine cv_iconst dX12_leaveAbove_28 ?_
          refine cv_aload_n dX12_leaveAbove_29 rfl ?_
          refine cv_iconst dX12_leaveAbove_30 ?_
          refine cv_ialj (0) dX12_leaveAbove_31 rfl (by omega) (by omega) ?_
          rw [ct_up_s]
          refine cv_iadd dX12_leaveAbove_32 ?_
          refine cv_iconst dX12_leaveAbove_33 ?_
          refine cv_iasj (1 + n) dX12_leaveAbove_34 rfl (by omega) (by omega) ?_
          refine cv_aload_n dX12_leaveAbove_35 rfl ?_
          refine cv_bipush dX12_leaveAbove_36 (by decide) ?_
          refine cv_aload_n dX12_leaveAbove_38 rfl ?_
          refine cv_iconst dX12_leaveAbove_39 ?_
          refine cv_ialj (0) dX12_leaveAbove_40 rfl (by omega) (by omega) ?_
          rw [show (ct_up (ct_up p 0 (n : Int)) (1 + n) 0) 0 = (n : Int) by rw [ct_up_n (by omega), ct_up_s]]
          refine cv_iadd dX12_leaveAbove_41 ?_
          refine cv_iconst dX12_leaveAbove_42 ?_
          refine cv_iasj (37 + n) dX12_leaveAbove_43 rfl (by omega) (by omega) ?_
          refine cv_aload_n dX12_leaveAbove_44 rfl ?_
          refine cv_bipush dX12_leaveAbove_45 (by decide) ?_
          refine cv_aload_n dX12_leaveAbove_47 rfl ?_
          refine cv_iconst dX12_leaveAbove_48 ?_
          refine cv_ialj (0) dX12_leaveAbove_49 rfl (by omega) (by omega) ?_
          rw [show (ct_up (ct_up (ct_up p 0 (n : Int)) (1 + n) 0) (37 + n) 0) 0 = (n : Int) by rw [ct_up_n (by omega), ct_up_n (by omega), ct_up_s]]
          refine cv_iadd dX12_leaveAbove_50 ?_
          refine cv_iconst dX12_leaveAbove_51 ?_
          refine cv_iasj (73 + n) dX12_leaveAbove_52 rfl (by omega) (by omega) ?_
          refine cv_goto (tgt := 0) dX12_leaveAbove_53 (by decide) ?_
          exact ih (pLv p n) (by omega) (Rep_lv hR (by omega)) ((show fAb S l (n + 1) = fAb S l n from if_pos (by omega)) ▸ he)
  exact loop (sZ S) p (Nat.le_refl _) hR rfl
