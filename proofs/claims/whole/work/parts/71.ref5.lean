set_option maxRecDepth 100000 in
set_option maxHeartbeats 1000000 in
theorem c_X12_judge (T : ctT) (S : ctS) (n : Nat) (D : Nat → ctS) (y : ctY) (K : ctK) (sd : Int) (o : Nat → Int) (A : Nat → Nat → Int) (tm tr : Int) (p st : Nat → Int) (hT : okT T) (hI : I2 T S) (hst : stR st) (hM : RM T S n D y K sd o A p) (a : Int) (ar : -2147483648 ≤ a ∧ a ≤ 2147483647) (row : Int) (rr : -9223372036854775808 ≤ row ∧ row ≤ 9223372036854775807) (V : ctS) (hV0 : ∀ q, Rep S q → Rep V q) (hIV : I2 T V) : CM MX12_judge (10, 0, 0) [vR 0, vI a, vL row] (wM 5 6 T o A tm tr p st) (fun v1 w => ((1 ≤ a ∧ a ≤ 4 ∧ 0 ≤ row ∧ row < p1k a.toNat) → v1 = some (vI (fJu T (p1k a.toNat) a.toNat 0 row V).1) ∧ QM T S n D y K sd w) ∧ (¬ (1 ≤ a ∧ a ≤ 4 ∧ 0 ≤ row ∧ row < p1k a.toNat) → v1 = some (vI (-2)) ∧ QM T S n D y K sd w)) := by
  refine CM.of (by decide) (Nat.le_of_ble_eq_true rfl) ?_
  show CV MX12_judge (10, 0, 0) 19 (0, 0) 0 [(0, vR 0), (1, vI a), (2, vL row)] [] (wM 5 6 T o A tm tr p st) _
  have hJ := hI.1.1
  have hg := J_g hT hJ
  have hZ := hg.1.1
  have hN := hT.2.1
  have hN1 := hT.1
  have hR6 := hT.2.2.1
  have hC40 := hJ.2.1.2.2.1
  have hA := hM.1
  have hR := hM.2.1
  have loop : ∀ (k i : Nat) (V1 : ctS) (tm tr : Int) (q st : Nat → Int), (1 ≤ a ∧ a ≤ 4 ∧ 0 ≤ row ∧ row < p1k a.toNat) → a = ((i + k : Nat) : Int) → I2 T V1 → Rep V1 q → stR st → fJu T (p1k a.toNat) a.toNat 0 row V = fJu T (p1k a.toNat) k (i : Int) (p1k i * (row % p1k (a.toNat - i))) V1 → CV MX12_judge (10, 0, 0) 19 (0, 0) 43 [(0, vR 0), (1, vI a), (2, vL row), (4, vI (i : Nat))] [] (wM 5 6 T o (upA A 6 q) tm tr p st) (fun v1 w => ((1 ≤ a ∧ a ≤ 4 ∧ 0 ≤ row ∧ row < p1k a.toNat) → v1 = some (vI (fJu T (p1k a.toNat) a.toNat 0 row V).1) ∧ QM T S n D y K sd w) ∧ (¬ (1 ≤ a ∧ a ≤ 4 ∧ 0 ≤ row ∧ row < p1k a.toNat) → v1 = some (vI (-2)) ∧ QM T S n D y K sd w)) := by
    intro k
    induction k with
    | zero =>
      intro i V1 tm tr q st hc ha hI1 hq hs he
      refine cv_iload dX12_judge_43 rfl ?_
      refine cv_iload_n dX12_judge_45 rfl ?_
      refine cv_icmp_ge (tgt := 101) dX12_judge_46 (by decide) (by omega) (fun h46 => ?_) (fun h46 => ?_)
      · refine cv_bipush dX12_judge_101 (by decide) ?_
        refine cv_iret rfl dX12_judge_103 ⟨Nat.le_refl _, Nat.le_refl _⟩ ⟨fun _ => ⟨ct_rI (by rw [he]; rfl), ⟨o, upA A 6 q, tm, tr, p, st, rfl, hs, RM_same hM (fun _ _ => rfl) (fun a _ h6 => upA_n h6)⟩⟩, fun z => absurd hc z⟩
      · exact absurd h46 (by omega)
    | succ k ih =>
      intro i V1 tm tr q st hc ha hI1 hq hs he
      have hp1 := p1k_r (j := a.toNat - 1 - i) (by omega)
      have hR0 : ((row.toNat : Nat) : Int) = row := by omega
      obtain ⟨j1, j2⟩ := jt_step (n := a.toNat) (k := i) (R := row.toNat) (by omega)
      rw [hR0] at j1 j2
      have fr := fCb_r (T := T) (V := V1) (d := row / p1k (a.toNat - 1 - i) % 1000)
      have hd1 : (0 : Int) ≤ row / p1k (a.toNat - 1 - i) := Int.ediv_nonneg (by omega) (by omega)
      have hd2 : row / p1k (a.toNat - 1 - i) ≤ row := Int.ediv_le_self _ (by omega)
      have he2 : fJu T (p1k a.toNat) (k + 1) (i : Int) (p1k i * (row % p1k (a.toNat - i))) V1 = if (fCb T V1 (row / p1k (a.toNat - 1 - i) % 1000)).1 = 0 then ((i : Int), (fCb T V1 (row / p1k (a.toNat - 1 - i) % 1000)).2) else fJu T (p1k a.toNat) k ((i : Int) + 1) (p1k (i + 1) * (row % p1k (a.toNat - (i + 1)))) (fCb T V1 (row / p1k (a.toNat - 1 - i) % 1000)).2 := by
        show (if (fCb T V1 (p1k i * (row % p1k (a.toNat - i)) * 1000 / p1k a.toNat)).1 = 0 then _ else _) = _
        rw [j1, j2]
      rw [he2] at he
      have hd0 : 0 ≤ row / p1k (a.toNat - 1 - i) % 1000 ∧ row / p1k (a.toNat - 1 - i) % 1000 ≤ 999 := by omega
      have hcI := fCb_I (I2_good hT) hI1 hd0
      refine cv_iload dX12_judge_43 rfl ?_
      refine cv_iload_n dX12_judge_45 rfl ?_
      refine cv_icmp_ge (tgt := 101) dX12_judge_46 (by decide) (by omega) (fun h46 => ?_) (fun h46 => ?_)
      · exact absurd h46 (by omega)
      · refine cv_lload_n dX12_judge_49 rfl ?_
        refine cv_iload_n dX12_judge_50 rfl ?_
        refine cv_iconst dX12_judge_51 ?_
        refine cv_isub dX12_judge_52 ?_
        refine cv_iload dX12_judge_53 rfl ?_
        refine cv_isub dX12_judge_55 ?_
        refine cv_topi ((a.toNat - 1 - i : Nat) : Int) (by omega) ?_
        refine cv_sameS (c_X12_thousands (wM 5 6 T o (upA A 6 q) tm tr p st) (a.toNat - 1 - i) (by omega)) lkX12_thousands mlX12_303 dX12_judge_56 (by decide) rfl rfl (Nat.le_of_ble_eq_true rfl) ⟨Nat.le_refl _, Nat.le_refl _⟩ ?_
        intro v w1 hq
        obtain ⟨rfl, rfl⟩ := hq
        refine cv_ldiv dX12_judge_59 (by omega) ?_
        refine cv_ldc2 dX12_judge_60 kcX12_301 ?_
        refine cv_lrem dX12_judge_63 (by omega) ?_
        refine cv_l2i dX12_judge_64 ?_
        refine cv_istore dX12_judge_65 (by decide) rfl rfl ?_
        refine cv_aload_n dX12_judge_67 rfl ?_
        refine cv_iload dX12_judge_68 rfl ?_
        refine cv_bipush dX12_judge_70 (by decide) ?_
        refine cv_idiv dX12_judge_72 (by omega) ?_
        refine cv_iload dX12_judge_73 rfl ?_
        refine cv_bipush dX12_judge_75 (by decide) ?_
        refine cv_idiv dX12_judge_77 (by omega) ?_
        refine cv_bipush dX12_judge_78 (by decide) ?_
        refine cv_irem dX12_judge_80 (by omega) ?_
        refine cv_iload dX12_judge_81 rfl ?_
        refine cv_bipush dX12_judge_83 (by decide) ?_
        refine cv_irem dX12_judge_85 (by omega) ?_
        refine cv_sameV (c_X12_judged T o A tm tr p q st V1 hT hA hq hI1 hs (row / p1k (a.toNat - 1 - i) % 1000) hd0) lkX12_judged mlX12_311 dX12_judge_86 (by decide) rfl rfl (by decide) rfl (Nat.le_of_ble_eq_true rfl) ⟨Nat.le_refl _, Nat.le_refl _⟩ ?_
        intro v w1 hq2
        obtain ⟨q1, tm1, tr1, st1, rfl, rfl, hq1, hs1⟩ := hq2
        refine cv_if_ne (tgt := 95) dX12_judge_89 (by decide) (by omega) (fun h89 => ?_) (fun h89 => ?_)
        · refine cv_iinc dX12_judge_95 (by decide) rfl rfl rfl ?_
          refine cv_goto (tgt := 43) dX12_judge_98 (by decide) ?_
          refine cv_loc [0, 1, 2, 3] rfl ?_
          rw [if_neg h89] at he
          exact ih (i + 1) _ tm1 tr1 q1 st1 hc (by omega) hcI hq1 hs1 he
        · refine cv_iload dX12_judge_92 rfl ?_
          refine cv_iret rfl dX12_judge_94 ⟨Nat.le_refl _, Nat.le_refl _⟩ ⟨fun _ => ⟨ct_rI (by rw [he, if_pos h89]), ⟨o, upA A 6 q1, tm1, tr1, p, st1, rfl, hs1, RM_same hM (fun _ _ => rfl) (fun a _ h6 => upA_n h6)⟩⟩, fun z => absurd hc z⟩
  refine cv_iload_n dX12_judge_0 rfl ?_
  refine cv_i2l dX12_judge_1 (by omega) ?_
  refine cv_lconst (v := 1) dX12_judge_2 (by decide) ?_
  refine cv_ldc2 dX12_judge_3 kcX12_81 ?_
  refine cv_sameS (c_X12_in (wM 5 6 T o A tm tr p st) a 1 4 (by omega) (by omega) (by omega)) lkX12_in mlX12_69 dX12_judge_6 (by decide) rfl rfl (Nat.le_of_ble_eq_true rfl) ⟨Nat.le_refl _, Nat.le_refl _⟩ ?_
  intro v w1 hq
  obtain ⟨rfl, rfl⟩ := hq
  have i6 := ct_i_r (1 ≤ a ∧ a ≤ 4)
  refine cv_if_eq (tgt := 26) dX12_judge_9 (by decide) (by omega) (fun h9 => ?_) (fun h9 => ?_)
  · have ca : ¬ (1 ≤ a ∧ a ≤ 4) := ct_i_0.mp (by omega)
    refine cv_bipush dX12_judge_26 (by decide) ?_
    refine cv_iret rfl dX12_judge_28 ⟨Nat.le_refl _, Nat.le_refl _⟩ ⟨fun z => absurd z (by omega), fun _ => ⟨rfl, ⟨o, A, tm, tr, p, st, rfl, hst, hM⟩⟩⟩
  · have ca : 1 ≤ a ∧ a ≤ 4 := ct_i_1.mp (by omega)
    have hp4 := p1k_r (j := a.toNat) (by omega)
    refine cv_lload_n dX12_judge_12 rfl ?_
    refine cv_lconst (v := 0) dX12_judge_13 (by decide) ?_
    refine cv_iload_n dX12_judge_14 rfl ?_
    refine cv_topi ((a.toNat : Nat) : Int) (by omega) ?_
    refine cv_sameS (c_X12_thousands (wM 5 6 T o A tm tr p st) a.toNat (by omega)) lkX12_thousands mlX12_303 dX12_judge_15 (by decide) rfl rfl (Nat.le_of_ble_eq_true rfl) ⟨Nat.le_refl _, Nat.le_refl _⟩ ?_
    intro v w1 hq
    obtain ⟨rfl, rfl⟩ := hq
    refine cv_lconst (v := 1) dX12_judge_18 (by decide) ?_
    refine cv_lsub dX12_judge_19 ?_
    refine cv_sameS (c_X12_in (wM 5 6 T o A tm tr p st) row 0 (p1k a.toNat - 1) (by omega) (by omega) (by omega)) lkX12_in mlX12_69 dX12_judge_20 (by decide) rfl rfl (Nat.le_of_ble_eq_true rfl) ⟨Nat.le_refl _, Nat.le_refl _⟩ ?_
    intro v w1 hq
    obtain ⟨rfl, rfl⟩ := hq
    have i20 := ct_i_r (0 ≤ row ∧ row ≤ (p1k a.toNat - 1))
    refine cv_if_ne (tgt := 29) dX12_judge_23 (by decide) (by omega) (fun h23 => ?_) (fun h23 => ?_)
    · have cr : 0 ≤ row ∧ row ≤ (p1k a.toNat - 1) := ct_i_1.mp (by omega)
      refine cv_aload_n dX12_judge_29 rfl ?_
      refine cv_getf flX12_22 dX12_judge_30 rfl rfl ?_
      refine cv_aload_n dX12_judge_33 rfl ?_
      refine cv_getf flX12_25 dX12_judge_34 rfl rfl ?_
      refine cv_sameS (c_X12_copy T o A tm tr p st) lkX12_copy mlX12_307 dX12_judge_37 (by decide) rfl rfl (Nat.le_of_ble_eq_true rfl) ⟨Nat.le_refl _, Nat.le_refl _⟩ ?_
      intro v w1 hq
      obtain ⟨rfl, rfl⟩ := hq
      refine cv_iconst dX12_judge_40 ?_
      refine cv_istore dX12_judge_41 (by decide) rfl rfl ?_
      refine loop a.toNat 0 V tm tr (cpR (A 6) p 0 471) st (by omega) (by omega) hIV (hV0 _ (Rep_ext hT hJ hR (fun j hj => by unfold cpR; rw [if_pos (by omega), Nat.sub_zero]))) hst ?_
      rw [show p1k 0 * (row % p1k (a.toNat - 0)) = row by rw [Nat.sub_zero, Int.emod_eq_of_lt (by omega) (by omega), show p1k 0 = 1 from rfl, Int.one_mul]]
      rfl
    · have cr : ¬ (0 ≤ row ∧ row ≤ (p1k a.toNat - 1)) := ct_i_0.mp (by omega)
      refine cv_bipush dX12_judge_26 (by decide) ?_
      refine cv_iret rfl dX12_judge_28 ⟨Nat.le_refl _, Nat.le_refl _⟩ ⟨fun z => absurd z (by omega), fun _ => ⟨rfl, ⟨o, A, tm, tr, p, st, rfl, hst, hM⟩⟩⟩
theorem RM_seed {T : ctT} {S : ctS} {n : Nat} {D : Nat → ctS} {y : ctY} {K : ctK} {sd : Int} {o : Nat → Int} {A : Nat → Nat → Int} {p : Nat → Int} (h : RM T S n D y K sd o A p) (s : Int) : RM T S n D y K s (upA o 4 s) A p := ⟨h.1, h.2.1, h.2.2.1, h.2.2.2.1, h.2.2.2.2.1, h.2.2.2.2.2.1, rfl⟩
set_option maxRecDepth 100000 in
set_option maxHeartbeats 1000000 in
theorem c_X12_drawn (T : ctT) (S : ctS) (n : Nat) (D : Nat → ctS) (y : ctY) (K : ctK) (sd : Int) (o : Nat → Int) (A : Nat → Nat → Int) (tm tr : Int) (p st : Nat → Int) (hT : okT T) (hI : I2 T S) (hst : stR st) (hM : RM T S n D y K sd o A p) (a : Int) (ar : -2147483648 ≤ a ∧ a ≤ 2147483647) (V : ctS) (hV0 : ∀ q, Rep S q → Rep V q) (hIV : I2 T V) : CM MX12_drawn (9, 0, 0) [vR 0, vI a] (wM 5 6 T o A tm tr p st) (fun v1 w => ((1 ≤ a ∧ a ≤ 10) → v1 = some (vI (fDn T a.toNat 0 sd V).1) ∧ QM T S n D y K (fDn T a.toNat 0 sd V).2.1 w) ∧ (a < 1 ∨ 10 < a → v1 = some (vI (-2)) ∧ QM T S n D y K sd w)) := by
  refine CM.of (by decide) (Nat.le_of_ble_eq_true rfl) ?_
  show CV MX12_drawn (9, 0, 0) 19 (0, 0) 0 [(0, vR 0), (1, vI a)] [] (wM 5 6 T o A tm tr p st) _
  have hJ := hI.1.1
  have hg := J_g hT hJ
  have hZ := hg.1.1
  have hN := hT.2.1
  have hN1 := hT.1
  have hR6 := hT.2.2.1
  have hC40 := hJ.2.1.2.2.1
  have hA := hM.1
  have hR := hM.2.1
  have h4 := hM.2.2.2.2.2.2
  have loop : ∀ (k i : Nat) (V1 : ctS) (u s tm tr : Int) (q st : Nat → Int), (1 ≤ a ∧ a ≤ 10) → a = ((i + k : Nat) : Int) → I2 T V1 → Rep V1 q → stR st → (fDn T a.toNat 0 sd V) = fDn T k u s V1 → CV MX12_drawn (9, 0, 0) 19 (0, 0) 30 [(0, vR 0), (1, vI a), (2, vI u), (3, vI (i : Nat))] [] (wM 5 6 T (upA o 4 s) (upA A 6 q) tm tr p st) (fun v1 w => ((1 ≤ a ∧ a ≤ 10) → v1 = some (vI (fDn T a.toNat 0 sd V).1) ∧ QM T S n D y K (fDn T a.toNat 0 sd V).2.1 w) ∧ (a < 1 ∨ 10 < a → v1 = some (vI (-2)) ∧ QM T S n D y K sd w)) := by
    intro k
    induction k with
    | zero =>
      intro i V1 u s tm tr q st hc ha hI1 hq hs he
      refine cv_iload_n dX12_drawn_30 rfl ?_
      refine cv_iload_n dX12_drawn_31 rfl ?_
      refine cv_icmp_ge (tgt := 78) dX12_drawn_32 (by decide) (by omega) (fun h32 => ?_) (fun h32 => ?_)
      · refine cv_iload_n dX12_drawn_78 rfl ?_
        refine cv_iret rfl dX12_drawn_79 ⟨Nat.le_refl _, Nat.le_refl _⟩ ⟨fun _ => ⟨ct_rI (by rw [he]; rfl), upA o 4 s, upA A 6 q, tm, tr, p, st, rfl, hs, by rw [he]; exact RM_seed (RM_same hM (fun _ _ => rfl) (fun a _ h6 => upA_n h6)) s⟩, fun z => absurd z (by omega)⟩
      · exact absurd h32 (by omega)
    | succ k ih =>
      intro i V1 u s tm tr q st hc ha hI1 hq hs he
      have lr := lcv_r (lcg s)
      have he2 : fDn T (k + 1) u s V1 = fDn T k (u + (sZ (fDt T V1 (lcv (lcg s))) : Int)) (lcg s) (fDt T V1 (lcv (lcg s))) := rfl
      rw [he2] at he
      refine cv_iload_n dX12_drawn_30 rfl ?_
      refine cv_iload_n dX12_drawn_31 rfl ?_
      refine cv_icmp_ge (tgt := 78) dX12_drawn_32 (by decide) (by omega) (fun h32 => ?_) (fun h32 => ?_)
      · exact absurd h32 (by omega)
      · refine cv_aload_n dX12_drawn_35 rfl ?_
        refine cv_aload_n dX12_drawn_36 rfl ?_
        refine cv_getf flX12_334 dX12_drawn_37 rfl rfl ?_
        refine cv_ldc2 dX12_drawn_40 kcX12_338 ?_
        refine cv_lmul dX12_drawn_43 ?_
        refine cv_ldc2 dX12_drawn_44 kcX12_340 ?_
        refine cv_ladd dX12_drawn_47 ?_
        refine cv_putf fpX12_334 dX12_drawn_48 rfl (Nat.le_of_ble_eq_true rfl) (fun _ => ⟨rfl, rfl⟩) ?_
        refine cv_aload_n dX12_drawn_51 rfl ?_
        refine cv_aload_n dX12_drawn_52 rfl ?_
        refine cv_getf flX12_334 dX12_drawn_53 rfl rfl ?_
        refine cv_bipush dX12_drawn_56 (by decide) ?_
        refine cv_lushr dX12_drawn_58 (by omega) ?_
        refine cv_l2i dX12_drawn_59 ?_
        refine cv_topi (lcv (lcg s)) rfl ?_
        refine cv_sameV (c_X12_drawOne T (upA o 4 (lcg s)) A tm tr p q st V1 hT hA hq hI1 hs (lcv (lcg s)) lr) lkX12_drawOne mlX12_342 dX12_drawn_60 (by decide) rfl rfl (by decide) rfl (Nat.le_of_ble_eq_true rfl) ⟨Nat.le_refl _, Nat.le_refl _⟩ ?_
        intro v w1 hq2
        obtain ⟨q1, tm1, tr1, st1, rfl, rfl, hq1, hs1⟩ := hq2
        refine cv_iload_n dX12_drawn_63 rfl ?_
        refine cv_aload_n dX12_drawn_64 rfl ?_
        refine cv_getf flX12_25 dX12_drawn_65 rfl rfl ?_
        refine cv_iconst dX12_drawn_68 ?_
        refine cv_ialj (0) dX12_drawn_69 rfl (by omega) (by omega) ?_
        refine cv_topi ((sZ (fDt T V1 (lcv (lcg s))) : Nat) : Int) hq1.1 ?_
        refine cv_iadd dX12_drawn_70 ?_
        refine cv_istore_n dX12_drawn_71 (by decide) rfl rfl ?_
        refine cv_iinc dX12_drawn_72 (by decide) rfl rfl rfl ?_
        refine cv_goto (tgt := 30) dX12_drawn_75 (by decide) ?_
        exact ih (i + 1) _ _ (lcg s) tm1 tr1 q1 st1 hc (by omega) (fDt_I (I2_good hT) hI1) hq1 hs1 he
  refine cv_iload_n dX12_drawn_0 rfl ?_
  refine cv_i2l dX12_drawn_1 (by omega) ?_
  refine cv_lconst (v := 1) dX12_drawn_2 (by decide) ?_
  refine cv_ldc2 dX12_drawn_3 kcX12_329 ?_
  refine cv_sameS (c_X12_in (wM 5 6 T o A tm tr p st) a 1 10 (by omega) (by omega) (by omega)) lkX12_in mlX12_69 dX12_drawn_6 (by decide) rfl rfl (Nat.le_of_ble_eq_true rfl) ⟨Nat.le_refl _, Nat.le_refl _⟩ ?_
  intro v w1 hq
  obtain ⟨rfl, rfl⟩ := hq
  have i6 := ct_i_r (1 ≤ a ∧ a ≤ 10)
  refine cv_if_ne (tgt := 15) dX12_drawn_9 (by decide) (by omega) (fun h9 => ?_) (fun h9 => ?_)
  · have ca : 1 ≤ a ∧ a ≤ 10 := ct_i_1.mp (by omega)
    refine cv_aload_n dX12_drawn_15 rfl ?_
    refine cv_getf flX12_22 dX12_drawn_16 rfl rfl ?_
    refine cv_aload_n dX12_drawn_19 rfl ?_
    refine cv_getf flX12_25 dX12_drawn_20 rfl rfl ?_
    refine cv_sameS (c_X12_copy T o A tm tr p st) lkX12_copy mlX12_307 dX12_drawn_23 (by decide) rfl rfl (Nat.le_of_ble_eq_true rfl) ⟨Nat.le_refl _, Nat.le_refl _⟩ ?_
    intro v w1 hq
    obtain ⟨rfl, rfl⟩ := hq
    refine cv_iconst dX12_drawn_26 ?_
    refine cv_istore_n dX12_drawn_27 (by decide) rfl rfl ?_
    refine cv_iconst dX12_drawn_28 ?_
    refine cv_istore_n dX12_drawn_29 (by decide) rfl rfl ?_
    have := loop a.toNat 0 V 0 (o 4) tm tr (cpR (A 6) p 0 471) st ca (by omega) hIV (hV0 _ (Rep_ext hT hJ hR (fun j hj => by unfold cpR; rw [if_pos (by omega), Nat.sub_zero]))) hst (by rw [h4])
    exact this
  · have ca : ¬ (1 ≤ a ∧ a ≤ 10) := ct_i_0.mp (by omega)
    refine cv_bipush dX12_drawn_12 (by decide) ?_
    refine cv_iret rfl dX12_drawn_14 ⟨Nat.le_refl _, Nat.le_refl _⟩ ⟨fun z => absurd z ca, fun _ => ⟨rfl, ⟨o, A, tm, tr, p, st, rfl, hst, hM⟩⟩⟩
