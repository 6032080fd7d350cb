set_option maxRecDepth 100000 in
set_option maxHeartbeats 1000000 in
theorem c_X12_tells (u v : Nat) (T : ctT) (o : Nat → Int) (A : Nat → Nat → Int) (tm tr : Int) (p st : Nat → Int) (S : ctS) (hT : okT T) (hA : rT T A) (hR : Rep S p) (hJ : J T S) (hb : fBk T S = -9) : CM MX12_tells (5, 0, 0) [vR 0, vR 5] (wM u v T o A tm tr p st) (fun v1 w => (fTell T S = none → v1 = some (vI 0) ∧ w = wM u v T o A tm tr p st) ∧ (∀ q, fTell T S = some q → v1 = some (vI 1) ∧ w = wM u v T o A q.1 q.2 p st)) := by
  refine CM.of (by decide) (Nat.le_of_ble_eq_true rfl) ?_
  show CV MX12_tells (5, 0, 0) 19 (0, 0) 0 [(0, vR 0), (1, vR 5)] [] (wM u v T o A tm tr p st) _
  have hc40 := hJ.2.1.2.2.1
  have hR6 := hT.2.2.1
  have hbi := (fBk_iff.mp hb).1
  have fin : ∀ (q : Int × Int) (i : Int), fTell T S = some q → (0 ≤ i ∧ i ≤ 100) → CV MX12_tells (5, 0, 0) 19 (0, 0) 31 [(0, vR 0), (1, vR 5), (2, vI 1), (3, vI i)] [] (wM u v T o A q.1 q.2 p st) (fun v1 w => (fTell T S = none → v1 = some (vI 0) ∧ w = wM u v T o A tm tr p st) ∧ (∀ q, fTell T S = some q → v1 = some (vI 1) ∧ w = wM u v T o A q.1 q.2 p st)) := by
    intro q i hq hi
    refine cv_iload_n dX12_tells_31 rfl ?_
    refine cv_aload_n dX12_tells_32 rfl ?_
    refine cv_bipush dX12_tells_33 (by decide) ?_
    refine cv_ialj (109) dX12_tells_35 rfl (by omega) (by omega) ?_
    rw [hR.2.2.1]
    refine cv_icmp_ge (tgt := 56) dX12_tells_36 (by decide) (by omega) (fun h36 => ?_) (fun h36 => ?_)
    · refine cv_iload_n dX12_tells_56 rfl ?_
      refine cv_zret rfl dX12_tells_57 ⟨Nat.le_refl _, Nat.le_refl _⟩ (by omega) ⟨fun z => absurd (hq.symm.trans z) (by intro y; cases y), fun q2 z => by cases Option.some.inj (hq.symm.trans z); exact ⟨rfl, rfl⟩⟩
    · refine cv_iload_n dX12_tells_39 rfl ?_
      refine cv_if_ne (tgt := 56) dX12_tells_40 (by decide) (by omega) (fun h40 => ?_) (fun h40 => ?_)
      · refine cv_iload_n dX12_tells_56 rfl ?_
        refine cv_zret rfl dX12_tells_57 ⟨Nat.le_refl _, Nat.le_refl _⟩ (by omega) ⟨fun z => absurd (hq.symm.trans z) (by intro y; cases y), fun q2 z => by cases Option.some.inj (hq.symm.trans z); exact ⟨rfl, rfl⟩⟩
      · exact absurd h40 (by omega)
  have loop2 : ∀ (k : Nat) (i : Nat), (sC S < i + k) → (i ≤ sC S) → (∀ j, j < tR T → fTr T S j = -9) → (∀ j, j < i → fTc S j = -9) → CV MX12_tells (5, 0, 0) 19 (0, 0) 31 [(0, vR 0), (1, vR 5), (2, vI 0), (3, vI i)] [] (wM u v T o A tm tr p st) (fun v1 w => (fTell T S = none → v1 = some (vI 0) ∧ w = wM u v T o A tm tr p st) ∧ (∀ q, fTell T S = some q → v1 = some (vI 1) ∧ w = wM u v T o A q.1 q.2 p st)) := by
    intro k
    induction k with
    | zero => intro i hk hi hn hv; exact absurd hk (by omega)
    | succ k ih =>
      intro i hk hi hn hv
      have eN : ct_first (fun r => ¬ fTr T S r = -9) (tR T) = none := ct_first_no (fun j hj => fun z => z (hn j hj))
      refine cv_iload_n dX12_tells_31 rfl ?_
      refine cv_aload_n dX12_tells_32 rfl ?_
      refine cv_bipush dX12_tells_33 (by decide) ?_
      refine cv_ialj (109) dX12_tells_35 rfl (by omega) (by omega) ?_
      rw [hR.2.2.1]
      refine cv_icmp_ge (tgt := 56) dX12_tells_36 (by decide) (by omega) (fun h36 => ?_) (fun h36 => ?_)
      · refine cv_iload_n dX12_tells_56 rfl ?_
        refine cv_zret rfl dX12_tells_57 ⟨Nat.le_refl _, Nat.le_refl _⟩ (by omega) ⟨fun _ => ⟨rfl, rfl⟩, fun q z => absurd z (by unfold fTell; rw [eN, ct_first_no (P := fun c => ¬ fTc S c = -9) (fun j hj => fun y => y (hv j (by omega)))]; intro y; cases y)⟩
      · refine cv_iload_n dX12_tells_39 rfl ?_
        refine cv_if_ne (tgt := 56) dX12_tells_40 (by decide) (by omega) (fun h40 => ?_) (fun h40 => ?_)
        · exact absurd rfl h40
        · refine cv_aload_n dX12_tells_43 rfl ?_
          refine cv_aload_n dX12_tells_44 rfl ?_
          refine cv_iload_n dX12_tells_45 rfl ?_
          refine cv_sameV (c_X12_cutTells u v T o A tm tr p st S hT hA hR hJ i (by omega)) lkX12_cutTells mlX12_173 dX12_tells_46 (by decide) rfl rfl (by decide) rfl (Nat.le_of_ble_eq_true rfl) ⟨Nat.le_refl _, Nat.le_refl _⟩ ?_
          intro v w1 hq
          rcases Classical.em (fTc S i = -9) with q | q
          · obtain ⟨rfl, rfl⟩ := hq.1 q
            refine cv_istore_n dX12_tells_49 (by decide) rfl rfl ?_
            refine cv_iinc dX12_tells_50 (by decide) rfl rfl rfl ?_
            refine cv_goto (tgt := 31) dX12_tells_53 (by decide) ?_
            refine cv_loc [0, 1, 2, 3] rfl ?_
            refine ih (i + 1) (by omega) (by omega) hn (fun j hj => ?_)
            rcases Nat.lt_succ_iff_lt_or_eq.mp hj with z | z
            · exact hv j z
            · subst z; exact q
          · obtain ⟨rfl, rfl⟩ := hq.2 q
            refine cv_istore_n dX12_tells_49 (by decide) rfl rfl ?_
            refine cv_iinc dX12_tells_50 (by decide) rfl rfl rfl ?_
            refine cv_goto (tgt := 31) dX12_tells_53 (by decide) ?_
            refine cv_loc [0, 1, 2, 3] rfl ?_
            refine fin (fTc S i, 10 + (i : Int)) ((i : Int) + 1) ?_ (by omega)
            unfold fTell
            rw [eN, ct_first_is (P := fun c => ¬ fTc S c = -9) (i := i) q (fun j hj => fun z => z (hv j hj)) (by omega)]
  have fin1 : ∀ (q : Int × Int) (i : Int), fTell T S = some q → (0 ≤ i ∧ i ≤ 100) → CV MX12_tells (5, 0, 0) 19 (0, 0) 4 [(0, vR 0), (1, vR 5), (2, vI 1), (3, vI i)] [] (wM u v T o A q.1 q.2 p st) (fun v1 w => (fTell T S = none → v1 = some (vI 0) ∧ w = wM u v T o A tm tr p st) ∧ (∀ q, fTell T S = some q → v1 = some (vI 1) ∧ w = wM u v T o A q.1 q.2 p st)) := by
    intro q i hq hi
    refine cv_iload_n dX12_tells_4 rfl ?_
    refine cv_aload_n dX12_tells_5 rfl ?_
    refine cv_getf flX12_145 dX12_tells_6 rfl rfl ?_
    refine cv_icmp_ge (tgt := 29) dX12_tells_9 (by decide) (by omega) (fun h9 => ?_) (fun h9 => ?_)
    · refine cv_iconst dX12_tells_29 ?_
      refine cv_istore_n dX12_tells_30 (by decide) rfl rfl ?_
      exact fin q 0 hq (by omega)
    · refine cv_iload_n dX12_tells_12 rfl ?_
      refine cv_if_ne (tgt := 29) dX12_tells_13 (by decide) (by omega) (fun h13 => ?_) (fun h13 => ?_)
      · refine cv_iconst dX12_tells_29 ?_
        refine cv_istore_n dX12_tells_30 (by decide) rfl rfl ?_
        exact fin q 0 hq (by omega)
      · exact absurd h13 (by omega)
  have loop1 : ∀ (k : Nat) (i : Nat), (tR T < i + k) → (i ≤ tR T) → (∀ j, j < i → fTr T S j = -9) → CV MX12_tells (5, 0, 0) 19 (0, 0) 4 [(0, vR 0), (1, vR 5), (2, vI 0), (3, vI i)] [] (wM u v T o A tm tr p st) (fun v1 w => (fTell T S = none → v1 = some (vI 0) ∧ w = wM u v T o A tm tr p st) ∧ (∀ q, fTell T S = some q → v1 = some (vI 1) ∧ w = wM u v T o A q.1 q.2 p st)) := by
    intro k
    induction k with
    | zero => intro i hk hi hv; exact absurd hk (by omega)
    | succ k ih =>
      intro i hk hi hv
      refine cv_iload_n dX12_tells_4 rfl ?_
      refine cv_aload_n dX12_tells_5 rfl ?_
      refine cv_getf flX12_145 dX12_tells_6 rfl rfl ?_
      refine cv_icmp_ge (tgt := 29) dX12_tells_9 (by decide) (by omega) (fun h9 => ?_) (fun h9 => ?_)
      · refine cv_iconst dX12_tells_29 ?_
        refine cv_istore_n dX12_tells_30 (by decide) rfl rfl ?_
        exact loop2 (sC S + 1) 0 (by omega) (by omega) (fun j hj => hv j (by omega)) (fun j hj => absurd hj (Nat.not_lt_zero _))
      · refine cv_iload_n dX12_tells_12 rfl ?_
        refine cv_if_ne (tgt := 29) dX12_tells_13 (by decide) (by omega) (fun h13 => ?_) (fun h13 => ?_)
        · exact absurd rfl h13
        · have hq0 := hbi i (by omega)
          refine cv_aload_n dX12_tells_16 rfl ?_
          refine cv_aload_n dX12_tells_17 rfl ?_
          refine cv_iload_n dX12_tells_18 rfl ?_
          refine cv_sameV (c_X12_ruleTells u v T o A tm tr p st S hT hA hR hJ i (by omega) (by omega)) lkX12_ruleTells mlX12_170 dX12_tells_19 (by decide) rfl rfl (by decide) rfl (Nat.le_of_ble_eq_true rfl) ⟨Nat.le_refl _, Nat.le_refl _⟩ ?_
          intro v w1 hq
          rcases Classical.em (fTr T S i = -9) with q | q
          · obtain ⟨rfl, rfl⟩ := hq.1 q
            refine cv_istore_n dX12_tells_22 (by decide) rfl rfl ?_
            refine cv_iinc dX12_tells_23 (by decide) rfl rfl rfl ?_
            refine cv_goto (tgt := 4) dX12_tells_26 (by decide) ?_
            refine cv_loc [0, 1, 2, 3] rfl ?_
            refine ih (i + 1) (by omega) (by omega) (fun j hj => ?_)
            rcases Nat.lt_succ_iff_lt_or_eq.mp hj with z | z
            · exact hv j z
            · subst z; exact q
          · obtain ⟨rfl, rfl⟩ := hq.2 q
            refine cv_istore_n dX12_tells_22 (by decide) rfl rfl ?_
            refine cv_iinc dX12_tells_23 (by decide) rfl rfl rfl ?_
            refine cv_goto (tgt := 4) dX12_tells_26 (by decide) ?_
            refine cv_loc [0, 1, 2, 3] rfl ?_
            refine fin1 (fTr T S i, (i : Int)) ((i : Int) + 1) ?_ (by omega)
            unfold fTell
            rw [ct_first_is (P := fun r => ¬ fTr T S r = -9) (i := i) q (fun j hj => fun z => z (hv j hj)) (by omega)]
  refine cv_iconst dX12_tells_0 ?_
  refine cv_istore_n dX12_tells_1 (by decide) rfl rfl ?_
  refine cv_iconst dX12_tells_2 ?_
  refine cv_istore_n dX12_tells_3 (by decide) rfl rfl ?_
  exact loop1 (tR T + 1) 0 (by omega) (by omega) (fun j hj => absurd hj (Nat.not_lt_zero _))
set_option maxRecDepth 100000 in
set_option maxHeartbeats 1000000 in
theorem c_X12_drawIn (u v : Nat) (T : ctT) (o : Nat → Int) (A : Nat → Nat → Int) (tm tr : Int) (p st : Nat → Int) (S : ctS) (hT : okT T) (hA : rT T A) (hR : Rep S p) (hJ : J T S)  : CM MX12_drawIn (6, 0, 0) [vR 0, vR 5] (wM u v T o A tm tr p st) (fun v1 w => ∃ tm1 tr1 p1, v1 = none ∧ w = wM u v T o A tm1 tr1 p1 st ∧ Rep (fDraw T S) p1) := by
  refine CM.of (by decide) (Nat.le_of_ble_eq_true rfl) ?_
  show CV MX12_drawIn (6, 0, 0) 19 (0, 0) 0 [(0, vR 0), (1, vR 5)] [] (wM u v T o A tm tr p st) _
  have loop : ∀ (k : Nat) (S1 : ctS) (tm tr : Int) (p : Nat → Int), (37 ≤ sZ S1 + k) → (Rep S1 p) → (J T S1) → (∃ f, 36 ≤ sZ S1 + f ∧ fDI T f S1 = fDraw T S) → CV MX12_drawIn (6, 0, 0) 19 (0, 0) 0 [(0, vR 0), (1, vR 5)] [] (wM u v T o A tm tr p st) (fun v1 w => ∃ tm1 tr1 p1, v1 = none ∧ w = wM u v T o A tm1 tr1 p1 st ∧ Rep (fDraw T S) p1) := by
    intro k
    induction k with
    | zero =>
      intro S1 tm tr p hk hR hJ he
      exact absurd (J_g hT hJ).1.1 (by omega)
    | succ k ih =>
      intro S1 tm tr p hk hR hJ he
      have hg := J_g hT hJ
      have hbr := fBk_r hT hg.1
      obtain ⟨f, f1, f2⟩ := he
      refine cv_aload_n dX12_drawIn_0 rfl ?_
      refine cv_aload_n dX12_drawIn_1 rfl ?_
      refine cv_sameV (c_X12_breakOf u v T o A tm tr p st S1 hT hA hR hJ) lkX12_breakOf mlX12_176 dX12_drawIn_2 (by decide) rfl rfl (by decide) rfl (Nat.le_of_ble_eq_true rfl) ⟨Nat.le_refl _, Nat.le_refl _⟩ ?_
      intro v w1 hq
      obtain ⟨rfl, rfl⟩ := hq
      refine cv_bipush dX12_drawIn_5 (by decide) ?_
      refine cv_icmp_ne (tgt := 39) dX12_drawIn_7 (by decide) (by omega) (fun h7 => ?_) (fun h7 => ?_)
      · refine cv_ret rfl dX12_drawIn_39 ⟨Nat.le_refl _, Nat.le_refl _⟩ ⟨tm, tr, p, rfl, rfl, by rw [← f2, fDI_b h7]; exact hR⟩
      · refine cv_aload_n dX12_drawIn_10 rfl ?_
        refine cv_aload_n dX12_drawIn_11 rfl ?_
        refine cv_sameV (c_X12_tells u v T o A tm tr p st S1 hT hA hR hJ h7) lkX12_tells mlX12_180 dX12_drawIn_12 (by decide) rfl rfl (by decide) rfl (Nat.le_of_ble_eq_true rfl) ⟨Nat.le_refl _, Nat.le_refl _⟩ ?_
        intro v w1 hq
        cases e : fTell T S1 with
        | none =>
          obtain ⟨rfl, rfl⟩ := hq.1 e
          refine cv_if_eq (tgt := 39) dX12_drawIn_15 (by decide) (by omega) (fun h15 => ?_) (fun h15 => absurd rfl h15)
          exact cv_ret rfl dX12_drawIn_39 ⟨Nat.le_refl _, Nat.le_refl _⟩ ⟨tm, tr, p, rfl, rfl, by rw [← f2, fDI_n e]; exact hR⟩
        | some q =>
          obtain ⟨rfl, rfl⟩ := hq.2 q e
          have nw := fTell_new hT hg.1 e
          have rm := gS_room hT hg nw.1
          have tq := fTell_q hT e
          refine cv_if_eq (tgt := 39) dX12_drawIn_15 (by decide) (by omega) (fun h15 => ?_) (fun h15 => ?_)
          · exact absurd h15 (by omega)
          · refine cv_aload_n dX12_drawIn_18 rfl ?_
            refine cv_aload_n dX12_drawIn_19 rfl ?_
            refine cv_aload_n dX12_drawIn_20 rfl ?_
            refine cv_getf flX12_154 dX12_drawIn_21 rfl rfl ?_
            refine cv_aload_n dX12_drawIn_24 rfl ?_
            refine cv_aload_n dX12_drawIn_25 rfl ?_
            refine cv_sameV (c_X12_levelOf u v T o A q.1 q.2 p st S1 hT hA hR hJ) lkX12_levelOf mlX12_184 dX12_drawIn_26 (by decide) rfl rfl (by decide) rfl (Nat.le_of_ble_eq_true rfl) ⟨Nat.le_refl _, Nat.le_refl _⟩ ?_
            intro v w1 hq
            obtain ⟨rfl, rfl⟩ := hq
            refine cv_aload_n dX12_drawIn_29 rfl ?_
            refine cv_getf flX12_157 dX12_drawIn_30 rfl rfl ?_
            refine cv_sameV (c_X12_append u v T o A q.1 q.2 p st (sZ S1) rm hR.1 q.1 (fLv S1) q.2) lkX12_append mlX12_187 dX12_drawIn_33 (by decide) rfl rfl (by decide) rfl (Nat.le_of_ble_eq_true rfl) ⟨Nat.le_refl _, Nat.le_refl _⟩ ?_
            intro v w1 hq
            obtain ⟨rfl, rfl⟩ := hq
            refine cv_goto (tgt := 0) dX12_drawIn_36 (by decide) ?_
            refine ih (fPut S1 q.1 (fLv S1) q.2) q.1 q.2 _ (by rw [fPut_Z]; omega) (Rep_put hR rm hJ.2.1.2.2.1 (fun c hc => (hJ.2.1.2.2.2.1 c hc).2) _ _ _) (J_put hT hJ nw.1 ⟨Int.le_refl _, by omega⟩ (by omega)) ?_
            obtain ⟨g, rfl⟩ : ∃ g, f = g + 1 := ⟨f - 1, by omega⟩
            refine ⟨g, by rw [fPut_Z]; omega, ?_⟩
            rw [← f2, fDI_s h7 (by rw [e]; intro z; cases z), fD1_s e]
  exact loop 37 S tm tr p (by omega) hR hJ ⟨36, by omega, rfl⟩
