/-- how many of a cut's first marks are so -/
noncomputable def fSo (S : ctS) (c : Nat) : Nat → Int
  | 0 => 0
  | k + 1 => fSo S c k + ct_i (soP S (sCm S (8 * c + k)))
theorem fSo_r (S : ctS) (c : Nat) : ∀ n : Nat, 0 ≤ fSo S c n ∧ fSo S c n ≤ n
  | 0 => by simp [fSo]
  | n + 1 => by
    have h1 := fSo_r S c n
    have h2 := ct_i_r (soP S (sCm S (8 * c + n)))
    unfold fSo
    omega
theorem fSo_all (S : ctS) (c : Nat) : ∀ n : Nat, fSo S c n = n ↔ ∀ k, k < n → soP S (sCm S (8 * c + k))
  | 0 => ⟨fun _ k hk => absurd hk (Nat.not_lt_zero _), fun _ => rfl⟩
  | n + 1 => by
    have h0 := fSo_all S c n
    have h1 := fSo_r S c n
    have h2 := ct_i_r (soP S (sCm S (8 * c + n)))
    have e : fSo S c (n + 1) = fSo S c n + ct_i (soP S (sCm S (8 * c + n))) := rfl
    rw [e]
    refine ⟨fun h k hk => ?_, fun h => ?_⟩
    · rcases Nat.lt_succ_iff_lt_or_eq.mp hk with z | z
      · exact h0.mp (by omega) k z
      · subst z; exact ct_i_1.mp (by omega)
    · rw [h0.mpr (fun k hk => h k (by omega)), ct_i_t (h n (by omega))]; omega
theorem cb_so {S : ctS} {c : Nat} (h : 0 ≤ sCs S c) : cbP S c ↔ fSo S c (sCs S c).toNat = sCs S c := by
  have := fSo_all S c (sCs S c).toNat
  rw [show (((sCs S c).toNat : Nat) : Int) = sCs S c by omega] at this
  rw [this]
  exact ⟨fun z k hk => z k (by omega), fun z k hk => z k (by omega)⟩
set_option maxRecDepth 100000 in
set_option maxHeartbeats 1000000 in
theorem c_X12_areSo (u v : Nat) (T : ctT) (o : Nat → Int) (A : Nat → Nat → Int) (tm tr : Int) (p st : Nat → Int) (S : ctS) (hT : okT T) (hA : rT T A) (hR : Rep S p) (hJ : J T S) (c : Nat) (hc : c < sC S) : CM MX12_areSo (3, 0, 0) [vR 0, vR 5, vI c] (wM u v T o A tm tr p st) (fun v1 w => v1 = some (vI (fSo S c (sCs S c).toNat)) ∧ w = wM u v T o A tm tr p st) := by
  refine CM.of (by decide) (Nat.le_of_ble_eq_true rfl) ?_
  show CV MX12_areSo (3, 0, 0) 19 (0, 0) 0 [(0, vR 0), (1, vR 5), (2, vI c)] [] (wM u v T o A tm tr p st) _
  have hc40 := hJ.2.1.2.2.1
  have hc8 := hJ.2.1.2.2.2.1 c hc
  have loop : ∀ (k : Nat) (q : Nat), ((sCs S c).toNat < q + k) → ((q : Int) ≤ sCs S c) → CV MX12_areSo (3, 0, 0) 19 (0, 0) 5 [(0, vR 0), (1, vR 5), (2, vI c), (3, vI (fSo S c q)), (4, vI q)] [] (wM u v T o A tm tr p st) (fun v1 w => v1 = some (vI (fSo S c (sCs S c).toNat)) ∧ w = wM u v T o A tm tr p st) := by
    intro k
    induction k with
    | zero => intro q hk hi; exact absurd hk (by omega)
    | succ k ih =>
      intro q hk hi
      have i1 := ct_i_r (soP S (sCm S (8 * c + q)))
      refine cv_iload dX12_areSo_5 rfl ?_
      refine cv_aload_n dX12_areSo_7 rfl ?_
      refine cv_bipush dX12_areSo_8 (by decide) ?_
      refine cv_iload_n dX12_areSo_10 rfl ?_
      refine cv_iadd dX12_areSo_11 ?_
      refine cv_ialj (110 + c) dX12_areSo_12 rfl (by omega) (by omega) ?_
      rw [(hR.2.2.2.1 c hc).1]
      refine cv_icmp_ge (tgt := 46) dX12_areSo_13 (by decide) (by omega) (fun h13 => ?_) (fun h13 => ?_)
      · refine cv_iload_n dX12_areSo_46 rfl ?_
        refine cv_iret rfl dX12_areSo_47 ⟨Nat.le_refl _, Nat.le_refl _⟩ ⟨ct_rI (by rw [show q = (sCs S c).toNat by omega]), rfl⟩
      · refine cv_iload_n dX12_areSo_16 rfl ?_
        refine cv_aload_n dX12_areSo_17 rfl ?_
        refine cv_aload_n dX12_areSo_18 rfl ?_
        refine cv_aload_n dX12_areSo_19 rfl ?_
        refine cv_aload_n dX12_areSo_20 rfl ?_
        refine cv_iload_n dX12_areSo_21 rfl ?_
        refine cv_iload dX12_areSo_22 rfl ?_
        refine cv_sameV (c_X12_cutMark u v T o A tm tr p st S hT hA hR hJ c q hc (by omega)) lkX12_cutMark mlX12_138 dX12_areSo_24 (by decide) rfl rfl (by decide) rfl (Nat.le_of_ble_eq_true rfl) ⟨Nat.le_refl _, Nat.le_refl _⟩ ?_
        intro v w1 hq
        obtain ⟨rfl, rfl⟩ := hq
        refine cv_sameV (c_X12_isSo u v T o A tm tr p st S hT hA hR hJ (sCm S (8 * c + q)) (hJ.2.1.2.2.2.2.1 c q hc (by omega))) lkX12_isSo mlX12_141 dX12_areSo_27 (by decide) rfl rfl (by decide) rfl (Nat.le_of_ble_eq_true rfl) ⟨Nat.le_refl _, Nat.le_refl _⟩ ?_
        intro v w1 hq
        obtain ⟨rfl, rfl⟩ := hq
        refine cv_if_eq (tgt := 37) dX12_areSo_30 (by decide) (by omega) (fun h30 => ?_) (fun h30 => ?_)
        · refine cv_iconst dX12_areSo_37 ?_
          refine cv_iadd dX12_areSo_38 ?_
          refine cv_istore_n dX12_areSo_39 (by decide) rfl rfl ?_
          refine cv_iinc dX12_areSo_40 (by decide) rfl rfl rfl ?_
          refine cv_goto (tgt := 5) dX12_areSo_43 (by decide) ?_
          refine cv_loc [0, 1, 2, 3, 4] rfl ?_
          have e0 : fSo S c (q + 1) = fSo S c q + ct_i (soP S (sCm S (8 * c + q))) := rfl
          rw [show ct_i (soP S (sCm S (8 * c + q))) = 0 by omega] at e0
          have := ih (q + 1) (by omega) (by omega)
          rw [e0] at this
          exact this
        · refine cv_iconst dX12_areSo_33 ?_
          refine cv_goto (tgt := 38) dX12_areSo_34 (by decide) ?_
          refine cv_iadd dX12_areSo_38 ?_
          refine cv_istore_n dX12_areSo_39 (by decide) rfl rfl ?_
          refine cv_iinc dX12_areSo_40 (by decide) rfl rfl rfl ?_
          refine cv_goto (tgt := 5) dX12_areSo_43 (by decide) ?_
          refine cv_loc [0, 1, 2, 3, 4] rfl ?_
          have e0 : fSo S c (q + 1) = fSo S c q + ct_i (soP S (sCm S (8 * c + q))) := rfl
          rw [show ct_i (soP S (sCm S (8 * c + q))) = 1 by omega] at e0
          have := ih (q + 1) (by omega) (by omega)
          rw [e0] at this
          exact this
  refine cv_iconst dX12_areSo_0 ?_
  refine cv_istore_n dX12_areSo_1 (by decide) rfl rfl ?_
  refine cv_iconst dX12_areSo_2 ?_
  refine cv_istore dX12_areSo_3 (by decide) rfl rfl ?_
  exact loop ((sCs S c).toNat + 1) 0 (by omega) (by omega)
set_option maxRecDepth 100000 in
set_option maxHeartbeats 1000000 in
theorem c_X12_breakOf (u v : Nat) (T : ctT) (o : Nat → Int) (A : Nat → Nat → Int) (tm tr : Int) (p st : Nat → Int) (S : ctS) (hT : okT T) (hA : rT T A) (hR : Rep S p) (hJ : J T S)  : CM MX12_breakOf (4, 0, 0) [vR 0, vR 5] (wM u v T o A tm tr p st) (fun v1 w => v1 = some (vI (fBk T S)) ∧ w = wM u v T o A tm tr p st) := by
  refine CM.of (by decide) (Nat.le_of_ble_eq_true rfl) ?_
  show CV MX12_breakOf (4, 0, 0) 19 (0, 0) 0 [(0, vR 0), (1, vR 5)] [] (wM u v T o A tm tr p st) _
  have hc40 := hJ.2.1.2.2.1
  have hR6 := hT.2.2.1
  have ho := (J_g hT hJ).1
  have loop2 : ∀ (k : Nat) (c : Nat), (sC S < c + k) → (c ≤ sC S) → (∀ r, r < tR T → ¬ tB T r < fLeast T S r) → (∀ j, j < c → ¬ cbP S j) → CV MX12_breakOf (4, 0, 0) 19 (0, 0) 35 [(0, vR 0), (1, vR 5), (2, vI c)] [] (wM u v T o A tm tr p st) (fun v1 w => v1 = some (vI (fBk T S)) ∧ w = wM u v T o A tm tr p st) := by
    intro k
    induction k with
    | zero => intro c hk hi hn hv; exact absurd hk (by omega)
    | succ k ih =>
      intro c hk hi hn hv
      refine cv_iload_n dX12_breakOf_35 rfl ?_
      refine cv_aload_n dX12_breakOf_36 rfl ?_
      refine cv_bipush dX12_breakOf_37 (by decide) ?_
      refine cv_ialj (109) dX12_breakOf_39 rfl (by omega) (by omega) ?_
      rw [hR.2.2.1]
      refine cv_icmp_ge (tgt := 69) dX12_breakOf_40 (by decide) (by omega) (fun h40 => ?_) (fun h40 => ?_)
      · refine cv_bipush dX12_breakOf_69 (by decide) ?_
        refine cv_iret rfl dX12_breakOf_71 ⟨Nat.le_refl _, Nat.le_refl _⟩ ⟨ct_rI (by unfold fBk; rw [ct_first_no (P := fun r => tB T r < fLeast T S r) hn, ct_first_no (P := cbP S) (fun j hj => hv j (by omega))]), rfl⟩
      · refine cv_aload_n dX12_breakOf_43 rfl ?_
        refine cv_aload_n dX12_breakOf_44 rfl ?_
        refine cv_iload_n dX12_breakOf_45 rfl ?_
        refine cv_sameV (c_X12_areSo u v T o A tm tr p st S hT hA hR hJ c (by omega)) lkX12_areSo mlX12_151 dX12_breakOf_46 (by decide) rfl rfl (by decide) rfl (Nat.le_of_ble_eq_true rfl) ⟨Nat.le_refl _, Nat.le_refl _⟩ ?_
        intro v w1 hq
        obtain ⟨rfl, rfl⟩ := hq
        refine cv_aload_n dX12_breakOf_49 rfl ?_
        refine cv_bipush dX12_breakOf_50 (by decide) ?_
        refine cv_iload_n dX12_breakOf_52 rfl ?_
        refine cv_iadd dX12_breakOf_53 ?_
        refine cv_ialj (110 + c) dX12_breakOf_54 rfl (by omega) (by omega) ?_
        rw [(hR.2.2.2.1 c (by omega)).1]
        have hc8 := hJ.2.1.2.2.2.1 c (by omega)
        have hso := fSo_r S c (sCs S c).toNat
        refine cv_icmp_ne (tgt := 63) dX12_breakOf_55 (by decide) (by omega) (fun h55 => ?_) (fun h55 => ?_)
        · refine cv_iinc dX12_breakOf_63 (by decide) rfl rfl rfl ?_
          refine cv_goto (tgt := 35) dX12_breakOf_66 (by decide) ?_
          refine ih (c + 1) (by omega) (by omega) hn (fun j hj => ?_)
          rcases Nat.lt_succ_iff_lt_or_eq.mp hj with q | q
          · exact hv j q
          · subst q; exact fun z => h55 ((cb_so hc8.1).mp z)
        · refine cv_bipush dX12_breakOf_58 (by decide) ?_
          refine cv_iload_n dX12_breakOf_60 rfl ?_
          refine cv_iadd dX12_breakOf_61 ?_
          refine cv_iret rfl dX12_breakOf_62 ⟨Nat.le_refl _, Nat.le_refl _⟩ ⟨ct_rI (by unfold fBk; rw [ct_first_no (P := fun r => tB T r < fLeast T S r) hn, ct_first_is (P := cbP S) (i := c) ((cb_so hc8.1).mpr (by omega)) hv (by omega)]), rfl⟩
  have loop1 : ∀ (k : Nat) (c : Nat), (tR T < c + k) → (c ≤ tR T) → (∀ j, j < c → ¬ tB T j < fLeast T S j) → CV MX12_breakOf (4, 0, 0) 19 (0, 0) 2 [(0, vR 0), (1, vR 5), (2, vI c)] [] (wM u v T o A tm tr p st) (fun v1 w => v1 = some (vI (fBk T S)) ∧ w = wM u v T o A tm tr p st) := by
    intro k
    induction k with
    | zero => intro c hk hi hv; exact absurd hk (by omega)
    | succ k ih =>
      intro c hk hi hv
      refine cv_iload_n dX12_breakOf_2 rfl ?_
      refine cv_aload_n dX12_breakOf_3 rfl ?_
      refine cv_getf flX12_145 dX12_breakOf_4 rfl rfl ?_
      refine cv_icmp_ge (tgt := 33) dX12_breakOf_7 (by decide) (by omega) (fun h7 => ?_) (fun h7 => ?_)
      · refine cv_iconst dX12_breakOf_33 ?_
        refine cv_istore_n dX12_breakOf_34 (by decide) rfl rfl ?_
        exact loop2 (sC S + 1) 0 (by omega) (by omega) (fun j hj => hv j (by omega)) (fun j hj => absurd hj (Nat.not_lt_zero _))
      · refine cv_aload_n dX12_breakOf_10 rfl ?_
        refine cv_aload_n dX12_breakOf_11 rfl ?_
        refine cv_iload_n dX12_breakOf_12 rfl ?_
        refine cv_sameV (c_X12_leastOf u v T o A tm tr p st S hT hA hR hJ c (by omega)) lkX12_leastOf mlX12_148 dX12_breakOf_13 (by decide) rfl rfl (by decide) rfl (Nat.le_of_ble_eq_true rfl) ⟨Nat.le_refl _, Nat.le_refl _⟩ ?_
        intro v w1 hq
        obtain ⟨rfl, rfl⟩ := hq
        refine cv_aload_n dX12_breakOf_16 rfl ?_
        refine cv_getf flX12_19 dX12_breakOf_17 rfl rfl ?_
        refine cv_iload_n dX12_breakOf_20 rfl ?_
        refine cv_ialj (c) dX12_breakOf_21 rfl (by omega) (by omega) ?_
        rw [hA.2.2 c (by omega)]
        have b0 := hT.2.2.2.2.2.2.2 c (by omega)
        have l0 := fLeast_r hT ho (r := c) (by omega)
        refine cv_icmp_le (tgt := 27) dX12_breakOf_22 (by decide) (by omega) (fun h22 => ?_) (fun h22 => ?_)
        · refine cv_iinc dX12_breakOf_27 (by decide) rfl rfl rfl ?_
          refine cv_goto (tgt := 2) dX12_breakOf_30 (by decide) ?_
          refine ih (c + 1) (by omega) (by omega) (fun j hj => ?_)
          rcases Nat.lt_succ_iff_lt_or_eq.mp hj with q | q
          · exact hv j q
          · subst q; omega
        · refine cv_iload_n dX12_breakOf_25 rfl ?_
          refine cv_iret rfl dX12_breakOf_26 ⟨Nat.le_refl _, Nat.le_refl _⟩ ⟨ct_rI (by unfold fBk; rw [ct_first_is (P := fun r => tB T r < fLeast T S r) (i := c) (by omega) hv (by omega)]), rfl⟩
  refine cv_iconst dX12_breakOf_0 ?_
  refine cv_istore_n dX12_breakOf_1 (by decide) rfl rfl ?_
  exact loop1 (tR T + 1) 0 (by omega) (by omega) (fun j hj => absurd hj (Nat.not_lt_zero _))
set_option maxRecDepth 100000 in
set_option maxHeartbeats 1000000 in
theorem c_X12_tell (u v : Nat) (T : ctT) (o : Nat → Int) (A : Nat → Nat → Int) (tm tr : Int) (p st : Nat → Int) (a b : Int) : CM MX12_tell (0, 0, 0) [vR 0, vI a, vI b] (wM u v T o A tm tr p st) (fun v1 w => v1 = some (vI 1) ∧ w = wM u v T o A a b p st) := by
  refine CM.of (by decide) (Nat.le_of_ble_eq_true rfl) ?_
  show CV MX12_tell (0, 0, 0) 19 (0, 0) 0 [(0, vR 0), (1, vI a), (2, vI b)] [] (wM u v T o A tm tr p st) _
  refine cv_aload_n dX12_tell_0 rfl ?_
  refine cv_iload_n dX12_tell_1 rfl ?_
  refine cv_putf fpX12_154 dX12_tell_2 rfl (Nat.le_of_ble_eq_true rfl) (fun _ => ⟨rfl, rfl⟩) ?_
  refine cv_aload_n dX12_tell_5 rfl ?_
  refine cv_iload_n dX12_tell_6 rfl ?_
  refine cv_putf fpX12_157 dX12_tell_7 rfl (Nat.le_of_ble_eq_true rfl) (fun _ => ⟨rfl, rfl⟩) ?_
  refine cv_iconst dX12_tell_10 ?_
  refine cv_zret rfl dX12_tell_11 ⟨Nat.le_refl _, Nat.le_refl _⟩ (by omega) ⟨rfl, rfl⟩
/-- a row, one mark more -/
def pAp (p : Nat → Int) (n : Nat) (m l q : Int) : Nat → Int := ct_up (ct_up (ct_up (ct_up p (1 + n) m) (37 + n) l) (73 + n) q) 0 ((n : Int) + 1)
theorem Rep_put {S : ctS} {p : Nat → Int} (h : Rep S p) (hZ : sZ S < 36) (hC : sC S ≤ 40) (h8 : ∀ c, c < sC S → sCs S c ≤ 8) (m l q : Int) : Rep (fPut S m l q) (pAp p (sZ S) m l q) := by
  obtain ⟨h1, h2, h3, h4, h5⟩ := h
  have far : ∀ j, 109 ≤ j → pAp p (sZ S) m l q j = p j := fun j hj => by
    unfold pAp
    rw [ct_up_n (by omega), ct_up_n (by omega), ct_up_n (by omega), ct_up_n (by omega)]
  refine ⟨?_, fun i hi => ?_, ?_, fun c hc => ⟨?_, fun k hk => ?_⟩, ?_⟩
  · rw [fPut_Z]; unfold pAp; rw [ct_up_s]; omega
  · rw [fPut_Z] at hi
    rw [fPut_M, fPut_L, fPut_R]
    unfold pAp
    by_cases e : i = sZ S
    · subst e
      rw [ct_up_s, ct_up_s, ct_up_s]
      refine ⟨?_, ?_, ?_⟩
      · rw [ct_up_n (by omega), ct_up_n (by omega), ct_up_n (by omega), ct_up_s]
      · rw [ct_up_n (by omega), ct_up_n (by omega), ct_up_s]
      · rw [ct_up_n (by omega), ct_up_s]
    · rw [ct_up_n e, ct_up_n e, ct_up_n e]
      have := h2 i (by omega)
      refine ⟨?_, ?_, ?_⟩
      · rw [ct_up_n (by omega), ct_up_n (by omega), ct_up_n (by omega), ct_up_n (by omega)]; exact this.1
      · rw [ct_up_n (by omega), ct_up_n (by omega), ct_up_n (by omega), ct_up_n (by omega)]; exact this.2.1
      · rw [ct_up_n (by omega), ct_up_n (by omega), ct_up_n (by omega), ct_up_n (by omega)]; exact this.2.2
  · rw [fPut_C, far _ (by omega)]; exact h3
  · rw [fPut_C] at hc
    rw [fPut_Cs, far _ (by omega)]; exact (h4 c hc).1
  · rw [fPut_C] at hc
    rw [fPut_Cs] at hk
    rw [fPut_Cm, far _ (by omega)]; exact (h4 c hc).2 k hk
  · rw [fPut_H, far _ (by omega)]; exact h5
set_option maxRecDepth 100000 in
set_option maxHeartbeats 1000000 in
theorem c_X12_append (u v : Nat) (T : ctT) (o : Nat → Int) (A : Nat → Nat → Int) (tm tr : Int) (p st : Nat → Int) (n : Nat) (hn : n < 36) (hp : p 0 = n) (m l q : Int) : CM MX12_append (0, 0, 0) [vR 0, vR 5, vI m, vI l, vI q] (wM u v T o A tm tr p st) (fun v1 w => v1 = none ∧ w = wM u v T o A tm tr (pAp p n m l q) st) := by
  refine CM.of (by decide) (Nat.le_of_ble_eq_true rfl) ?_
  show CV MX12_append (0, 0, 0) 19 (0, 0) 0 [(0, vR 0), (1, vR 5), (2, vI m), (3, vI l), (4, vI q)] [] (wM u v T o A tm tr p st) _
  refine cv_aload_n dX12_append_0 rfl ?_
  refine cv_iconst dX12_append_1 ?_
  refine cv_ialj (0) dX12_append_2 rfl (by omega) (by omega) ?_
  rw [hp]
  refine cv_istore dX12_append_3 (by decide) rfl rfl ?_
  refine cv_aload_n dX12_append_5 rfl ?_
  refine cv_iconst dX12_append_6 ?_
  refine cv_iload dX12_append_7 rfl ?_
  refine cv_iadd dX12_append_9 ?_
  refine cv_iload_n dX12_append_10 rfl ?_
  refine cv_iasj (1 + n) dX12_append_11 rfl (by omega) (by omega) ?_
  refine cv_aload_n dX12_append_12 rfl ?_
  refine cv_bipush dX12_append_13 (by decide) ?_
  refine cv_iload dX12_append_15 rfl ?_
  refine cv_iadd dX12_append_17 ?_
  refine cv_iload_n dX12_append_18 rfl ?_
  refine cv_iasj (37 + n) dX12_append_19 rfl (by omega) (by omega) ?_
  refine cv_aload_n dX12_append_20 rfl ?_
  refine cv_bipush dX12_append_21 (by decide) ?_
  refine cv_iload dX12_append_23 rfl ?_
  refine cv_iadd dX12_append_25 ?_
  refine cv_iload dX12_append_26 rfl ?_
  refine cv_iasj (73 + n) dX12_append_28 rfl (by omega) (by omega) ?_
  refine cv_aload_n dX12_append_29 rfl ?_
  refine cv_iconst dX12_append_30 ?_
  refine cv_dup2 dX12_append_31 rfl rfl ?_
  refine cv_ialj (0) dX12_append_32 rfl (by omega) (by omega) ?_
  rw [show ct_up (ct_up (ct_up p (1 + n) m) (37 + n) l) (73 + n) q 0 = (n : Int) by rw [ct_up_n (by omega), ct_up_n (by omega), ct_up_n (by omega)]; exact hp]
  refine cv_iconst dX12_append_33 ?_
  refine cv_iadd dX12_append_34 ?_
  refine cv_iasj (0) dX12_append_35 rfl (by omega) (by omega) ?_
  refine cv_ret rfl dX12_append_36 ⟨Nat.le_refl _, Nat.le_refl _⟩ ⟨rfl, rfl⟩
