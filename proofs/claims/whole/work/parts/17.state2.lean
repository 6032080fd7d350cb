set_option maxRecDepth 100000 in
set_option maxHeartbeats 1000000 in
theorem c_X5_toldByRule (T : ctT) (S : ctS) (hT : okT T) (hS : okS T S) (r : Nat) (hr : r < 6) : CM MX5_toldByRule (1, 0, 0) [vR 0, vI r] (wS T S) (fun v w => v = some (vI (fTr T S r)) ∧ w = wS T S) := by
  refine CM.of (by decide) (Nat.le_of_ble_eq_true rfl) ?_
  show CV MX5_toldByRule (1, 0, 0) 20 (0, 0) 0 [(0, vR 0), (1, vI r)] [] (wS T S) _
  have hN := hT.2.1
  obtain ⟨b1, b2⟩ := hT.2.2.2.2.2.2.2 r hr
  obtain ⟨b3, b4⟩ := fLeast_r hT hS hr
  have fin : ∀ q, q = tB T r - fLeast T S r → 0 ≤ q → ∀ x, x < tN T → trP T S r q x → (∀ j, j < x → ¬ trP T S r q j) → fTr T S r = trV T S r q x := by
    intro q h1 h2 x h3 h4 h5
    subst h1
    unfold fTr
    rw [if_neg (by omega), ct_first_is h4 h5 h3]
  have loop : ∀ (k : Nat) (x : Nat) (q : Int), (tN T < x + k) → (q = tB T r - fLeast T S r) → (0 ≤ q) → (x ≤ tN T) → (∀ j, j < x → ¬ trP T S r q j) → CV MX5_toldByRule (1, 0, 0) 20 (0, 0) 25 [(0, vR 0), (1, vI r), (2, vI q), (3, vI x)] [] (wS T S) (fun v w => v = some (vI (fTr T S r)) ∧ w = wS T S) := by
    intro k
    induction k with
    | zero => intro x q hk hq hq0 hi hv; exact absurd hk (by omega)
    | succ k ih =>
      intro x q hk hq hq0 hi hv
      refine cv_iload_n dX5_toldByRule_25 rfl ?_
      refine cv_aload_n dX5_toldByRule_26 rfl ?_
      refine cv_getf flX5_22 dX5_toldByRule_27 rfl rfl ?_
      refine cv_getf flX5_59 dX5_toldByRule_30 rfl rfl ?_
      refine cv_icmp_ge (tgt := 145) dX5_toldByRule_33 (by decide) (by omega) (fun h33 => ?_) (fun h33 => ?_)
      · refine cv_bipush dX5_toldByRule_145 (by decide) ?_
        refine cv_iret rfl dX5_toldByRule_147 ⟨Nat.le_refl _, Nat.le_refl _⟩ ⟨ct_rI (by unfold fTr; rw [if_neg (by omega), ← hq, ct_first_no (fun j hj => hv j (by omega))]), rfl⟩
      · obtain ⟨w1, w2⟩ := hT.2.2.2.2.2.1 r x hr (by omega)
        obtain ⟨l1, l2, l3, l4⟩ := hS.2.2.2.2.1 x (by omega)
        refine cv_aload_n dX5_toldByRule_36 rfl ?_
        refine cv_getf flX5_22 dX5_toldByRule_37 rfl rfl ?_
        refine cv_getf flX5_53 dX5_toldByRule_40 rfl rfl ?_
        refine cv_iload_n dX5_toldByRule_43 rfl ?_
        refine cv_aalj (r) (Or.inr rfl) dX5_toldByRule_44 rfl (by omega) (by constructor; exact hr; decide) (wS_ref r hr) ?_
        refine cv_iload_n dX5_toldByRule_45 rfl ?_
        refine cv_ialj (x) dX5_toldByRule_46 (wS_row T S r hr) (by omega) (by omega) ?_
        refine cv_istore dX5_toldByRule_47 (by decide) rfl rfl ?_
        refine cv_iload dX5_toldByRule_49 rfl ?_
        refine cv_if_le (tgt := 95) dX5_toldByRule_51 (by decide) (by omega) (fun h51 => ?_) (fun h51 => ?_)
        · refine cv_iload dX5_toldByRule_95 rfl ?_
          refine cv_if_ge (tgt := 139) dX5_toldByRule_97 (by decide) (by omega) (fun h97 => ?_) (fun h97 => ?_)
          · refine cv_iinc dX5_toldByRule_139 (by decide) rfl rfl rfl ?_
            refine cv_goto (tgt := 25) dX5_toldByRule_142 (by decide) ?_
            refine cv_loc [0, 1, 2, 3] rfl ?_
            exact ih (x + 1) q (by omega) hq hq0 (by omega) (fun j hj => by
              rcases Nat.lt_succ_iff_lt_or_eq.mp hj with q | q
              · exact hv j q
              · subst q
                unfold trP
                omega)
          · refine cv_aload_n dX5_toldByRule_100 rfl ?_
            refine cv_getf flX5_31 dX5_toldByRule_101 rfl rfl ?_
            refine cv_getf flX5_66 dX5_toldByRule_104 rfl rfl ?_
            refine cv_iload_n dX5_toldByRule_107 rfl ?_
            refine cv_ialj (x) dX5_toldByRule_108 rfl (by omega) (by omega) ?_
            refine cv_iload_n dX5_toldByRule_109 rfl ?_
            refine cv_iload dX5_toldByRule_110 rfl ?_
            refine cv_ineg dX5_toldByRule_112 ?_
            refine cv_idiv dX5_toldByRule_113 (by omega) ?_
            refine cv_isub dX5_toldByRule_114 ?_
            refine cv_istore dX5_toldByRule_115 (by decide) rfl rfl ?_
            obtain ⟨d1, d2⟩ := ediv_r hq0 (show 0 < -tW T r x by omega)
            refine cv_iload dX5_toldByRule_117 rfl ?_
            refine cv_aload_n dX5_toldByRule_119 rfl ?_
            refine cv_getf flX5_31 dX5_toldByRule_120 rfl rfl ?_
            refine cv_getf flX5_62 dX5_toldByRule_123 rfl rfl ?_
            refine cv_iload_n dX5_toldByRule_126 rfl ?_
            refine cv_ialj (x) dX5_toldByRule_127 rfl (by omega) (by omega) ?_
            refine cv_icmp_le (tgt := 139) dX5_toldByRule_128 (by decide) (by omega) (fun h128 => ?_) (fun h128 => ?_)
            · refine cv_iinc dX5_toldByRule_139 (by decide) rfl rfl rfl ?_
              refine cv_goto (tgt := 25) dX5_toldByRule_142 (by decide) ?_
              refine cv_loc [0, 1, 2, 3] rfl ?_
              exact ih (x + 1) q (by omega) hq hq0 (by omega) (fun j hj => by
                rcases Nat.lt_succ_iff_lt_or_eq.mp hj with q | q
                · exact hv j q
                · subst q
                  unfold trP
                  omega)
            · refine cv_iload_n dX5_toldByRule_131 rfl ?_
              refine cv_iconst dX5_toldByRule_132 ?_
              refine cv_iload dX5_toldByRule_133 rfl ?_
              refine cv_sameSN (c_X11_markOf (wS T S) x 0 (sHi S x - q / -tW T r x)) lkX11_markOf mnX5_114 dX5_toldByRule_135 (by decide) rfl rfl (Nat.le_of_ble_eq_true rfl) ⟨Nat.le_refl _, Nat.le_refl _⟩ ?_
              intro v w1 hq9
              obtain ⟨rfl, rfl⟩ := hq9
              refine cv_iret rfl dX5_toldByRule_138 ⟨Nat.le_refl _, Nat.le_refl _⟩ ⟨ct_rI (by rw [fin q hq hq0 x (by omega) (Or.inr ⟨by omega, by omega⟩) hv]; unfold trV; rw [if_neg (by omega)]), rfl⟩
        · refine cv_aload_n dX5_toldByRule_54 rfl ?_
          refine cv_getf flX5_31 dX5_toldByRule_55 rfl rfl ?_
          refine cv_getf flX5_62 dX5_toldByRule_58 rfl rfl ?_
          refine cv_iload_n dX5_toldByRule_61 rfl ?_
          refine cv_ialj (x) dX5_toldByRule_62 rfl (by omega) (by omega) ?_
          refine cv_iload_n dX5_toldByRule_63 rfl ?_
          refine cv_iload dX5_toldByRule_64 rfl ?_
          refine cv_idiv dX5_toldByRule_66 (by omega) ?_
          refine cv_iadd dX5_toldByRule_67 ?_
          refine cv_istore dX5_toldByRule_68 (by decide) rfl rfl ?_
          obtain ⟨d1, d2⟩ := ediv_r hq0 (show 0 < tW T r x by omega)
          refine cv_iload dX5_toldByRule_70 rfl ?_
          refine cv_aload_n dX5_toldByRule_72 rfl ?_
          refine cv_getf flX5_31 dX5_toldByRule_73 rfl rfl ?_
          refine cv_getf flX5_66 dX5_toldByRule_76 rfl rfl ?_
          refine cv_iload_n dX5_toldByRule_79 rfl ?_
          refine cv_ialj (x) dX5_toldByRule_80 rfl (by omega) (by omega) ?_
          refine cv_icmp_ge (tgt := 92) dX5_toldByRule_81 (by decide) (by omega) (fun h81 => ?_) (fun h81 => ?_)
          · refine cv_goto (tgt := 139) dX5_toldByRule_92 (by decide) ?_
            refine cv_iinc dX5_toldByRule_139 (by decide) rfl rfl rfl ?_
            refine cv_goto (tgt := 25) dX5_toldByRule_142 (by decide) ?_
            refine cv_loc [0, 1, 2, 3] rfl ?_
            exact ih (x + 1) q (by omega) hq hq0 (by omega) (fun j hj => by
              rcases Nat.lt_succ_iff_lt_or_eq.mp hj with q | q
              · exact hv j q
              · subst q
                unfold trP
                omega)
          · refine cv_iload_n dX5_toldByRule_84 rfl ?_
            refine cv_iconst dX5_toldByRule_85 ?_
            refine cv_iload dX5_toldByRule_86 rfl ?_
            refine cv_sameSN (c_X11_markOf (wS T S) x 1 (sLo S x + q / tW T r x)) lkX11_markOf mnX5_114 dX5_toldByRule_88 (by decide) rfl rfl (Nat.le_of_ble_eq_true rfl) ⟨Nat.le_refl _, Nat.le_refl _⟩ ?_
            intro v w1 hq9
            obtain ⟨rfl, rfl⟩ := hq9
            refine cv_iret rfl dX5_toldByRule_91 ⟨Nat.le_refl _, Nat.le_refl _⟩ ⟨ct_rI (by rw [fin q hq hq0 x (by omega) (Or.inl ⟨by omega, by omega⟩) hv]; unfold trV; rw [if_pos (by omega)]), rfl⟩
  refine cv_aload_n dX5_toldByRule_0 rfl ?_
  refine cv_getf flX5_22 dX5_toldByRule_1 rfl rfl ?_
  refine cv_getf flX5_76 dX5_toldByRule_4 rfl rfl ?_
  refine cv_iload_n dX5_toldByRule_7 rfl ?_
  refine cv_ialj (r) dX5_toldByRule_8 rfl (by omega) (by omega) ?_
  refine cv_aload_n dX5_toldByRule_9 rfl ?_
  refine cv_iload_n dX5_toldByRule_10 rfl ?_
  refine cv_sameV (c_X5_least T S hT hS r hr) lkX5_least mlX5_72 dX5_toldByRule_11 (by decide) rfl rfl (by decide) rfl (Nat.le_of_ble_eq_true rfl) ⟨Nat.le_refl _, Nat.le_refl _⟩ ?_
  intro v w1 hq
  obtain ⟨rfl, rfl⟩ := hq
  refine cv_isub dX5_toldByRule_14 ?_
  refine cv_istore_n dX5_toldByRule_15 (by decide) rfl rfl ?_
  refine cv_iload_n dX5_toldByRule_16 rfl ?_
  refine cv_if_ge (tgt := 23) dX5_toldByRule_17 (by decide) (by omega) (fun h17 => ?_) (fun h17 => ?_)
  · refine cv_iconst dX5_toldByRule_23 ?_
    refine cv_istore_n dX5_toldByRule_24 (by decide) rfl rfl ?_
    exact loop (tN T + 1) 0 _ (by omega) rfl (by omega) (by omega) (fun j hj => absurd hj (Nat.not_lt_zero _))
  · refine cv_bipush dX5_toldByRule_20 (by decide) ?_
    refine cv_iret rfl dX5_toldByRule_22 ⟨Nat.le_refl _, Nat.le_refl _⟩ ⟨ct_rI (by unfold fTr; rw [if_pos (by omega)]), rfl⟩
set_option maxRecDepth 100000 in
set_option maxHeartbeats 1000000 in
theorem c_X5_toldByCut (T : ctT) (S : ctS) (hT : okT T) (hS : okS T S) (c : Nat) (hc : c < sC S) : CM MX5_toldByCut (1, 0, 0) [vR 0, vI c] (wS T S) (fun v w => v = some (vI (fTc S c)) ∧ w = wS T S) := by
  refine CM.of (by decide) (Nat.le_of_ble_eq_true rfl) ?_
  show CV MX5_toldByCut (1, 0, 0) 20 (0, 0) 0 [(0, vR 0), (1, vI c)] [] (wS T S) _
  have hN := hT.2.1
  have hC := hS.2.2.2.2.2.1
  obtain ⟨z1, z2⟩ := hS.2.2.2.2.2.2.1 c hc
  have hM : ∀ i : Nat, (i : Int) < sCs S c → okM T (sCm S (8 * c + i)) := fun i hi => hS.2.2.2.2.2.2.2.1 c i hc hi
  have fin0 : ∀ (i : Int), (∀ j : Nat, (j : Int) < sCs S c → soP S (sCm S (8 * c + j))) → CV MX5_toldByCut (1, 0, 0) 20 (0, 0) 59 [(0, vR 0), (1, vI c), (2, vI (-9)), (3, vI i)] [] (wS T S) (fun v w => v = some (vI (fTc S c)) ∧ w = wS T S) := by
    intro i hv
    refine cv_iload_n dX5_toldByCut_59 rfl ?_
    refine cv_bipush dX5_toldByCut_60 (by decide) ?_
    refine cv_icmp_eq (tgt := 76) dX5_toldByCut_62 (by decide) (by omega) (fun h62 => ?_) (fun h62 => ?_)
    · refine cv_bipush dX5_toldByCut_76 (by decide) ?_
      refine cv_goto (tgt := 85) dX5_toldByCut_78 (by decide) ?_
      refine cv_iret rfl dX5_toldByCut_85 ⟨Nat.le_refl _, Nat.le_refl _⟩ ⟨ct_rI (by unfold fTc; rw [ct_first_no (fun j hj => fun h => h (hv j (by omega)))]), rfl⟩
    · exact absurd rfl h62
  have fin1 : ∀ (i : Int) (k : Nat), ((k : Int) < sCs S c) → (coP S c k) → (∀ j : Nat, (j : Int) < sCs S c → j ≠ k → soP S (sCm S (8 * c + j))) → CV MX5_toldByCut (1, 0, 0) 20 (0, 0) 59 [(0, vR 0), (1, vI c), (2, vI (sCm S (8 * c + k))), (3, vI i)] [] (wS T S) (fun v w => v = some (vI (fTc S c)) ∧ w = wS T S) := by
    intro i k hk ho hv
    obtain ⟨m1, m2, m3⟩ := hM k hk
    have ef : ct_first (coP S c) (sCs S c).toNat = some k := ct_first_is ho (fun j hj h => h (hv j (by omega) (by omega))) (by omega)
    refine cv_iload_n dX5_toldByCut_59 rfl ?_
    refine cv_bipush dX5_toldByCut_60 (by decide) ?_
    refine cv_icmp_eq (tgt := 76) dX5_toldByCut_62 (by decide) (by omega) (fun h62 => ?_) (fun h62 => ?_)
    · exact absurd h62 (by omega)
    · refine cv_aload_n dX5_toldByCut_65 rfl ?_
      refine cv_getf flX5_31 dX5_toldByCut_66 rfl rfl ?_
      refine cv_iload_n dX5_toldByCut_69 rfl ?_
      refine cv_sameV (c_X9_isNotSo T S hT hS (sCm S (8 * c + k)) (hM k hk)) lkX9_isNotSo mlX5_118 dX5_toldByCut_70 (by decide) rfl rfl (by decide) rfl (Nat.le_of_ble_eq_true rfl) ⟨Nat.le_refl _, Nat.le_refl _⟩ ?_
      intro v w1 hq
      obtain ⟨rfl, rfl⟩ := hq
      have hr0 := ct_i_r (nsP S (sCm S (8 * c + k)))
      refine cv_if_eq (tgt := 81) dX5_toldByCut_73 (by decide) (by omega) (fun h73 => ?_) (fun h73 => ?_)
      · refine cv_iload_n dX5_toldByCut_81 rfl ?_
        refine cv_sameSN (c_X11_negated (wS T S) (sCm S (8 * c + k)) (by omega)) lkX11_negated mnX5_121 dX5_toldByCut_82 (by decide) rfl rfl (Nat.le_of_ble_eq_true rfl) ⟨Nat.le_refl _, Nat.le_refl _⟩ ?_
        intro v w1 hq
        obtain ⟨rfl, rfl⟩ := hq
        refine cv_iret rfl dX5_toldByCut_85 ⟨Nat.le_refl _, Nat.le_refl _⟩ ⟨ct_rI (by unfold fTc; rw [ef]; exact (if_neg (fun h => h.elim (fun ⟨j, a1, a2, a3⟩ => a3 (hv j (by omega) (by omega))) (fun h => ct_i_0.mp h73 h))).symm), rfl⟩
      · refine cv_bipush dX5_toldByCut_76 (by decide) ?_
        refine cv_goto (tgt := 85) dX5_toldByCut_78 (by decide) ?_
        refine cv_iret rfl dX5_toldByCut_85 ⟨Nat.le_refl _, Nat.le_refl _⟩ ⟨ct_rI (by unfold fTc; rw [ef]; exact (if_pos (Or.inr (ct_i_1.mp (by omega)))).symm), rfl⟩
  have loop : ∀ (k : Nat) (i : Nat) (o : Int), (8 < i + k) → ((i : Int) ≤ sCs S c) → ((o = -9 ∧ ∀ j : Nat, j < i → soP S (sCm S (8 * c + j))) ∨ ∃ k1 : Nat, k1 < i ∧ o = sCm S (8 * c + k1) ∧ coP S c k1 ∧ ∀ j : Nat, j < i → j ≠ k1 → soP S (sCm S (8 * c + j))) → CV MX5_toldByCut (1, 0, 0) 20 (0, 0) 5 [(0, vR 0), (1, vI c), (2, vI o), (3, vI i)] [] (wS T S) (fun v w => v = some (vI (fTc S c)) ∧ w = wS T S) := by
    intro k
    induction k with
    | zero => intro i o hk hi hv; exact absurd hk (by omega)
    | succ k ih =>
      intro i o hk hi hv
      have ho : -9 ≤ o ∧ o ≤ 1000 := by
        rcases hv with ⟨h1, h2⟩ | ⟨k1, h1, h2, h3⟩
        · omega
        · have := hM k1 (by omega)
          unfold okM at this
          omega
      refine cv_iload_n dX5_toldByCut_5 rfl ?_
      refine cv_aload_n dX5_toldByCut_6 rfl ?_
      refine cv_getf flX5_12 dX5_toldByCut_7 rfl rfl ?_
      refine cv_getf flX5_83 dX5_toldByCut_10 rfl rfl ?_
      refine cv_iload_n dX5_toldByCut_13 rfl ?_
      refine cv_ialj (c) dX5_toldByCut_14 rfl (by omega) (by omega) ?_
      refine cv_icmp_ge (tgt := 59) dX5_toldByCut_15 (by decide) (by omega) (fun h15 => ?_) (fun h15 => ?_)
      · rcases hv with ⟨h1, h2⟩ | ⟨k1, h1, h2, h3, h4⟩
        · subst h1
          exact fin0 i (fun j hj => h2 j (by omega))
        · subst h2
          exact fin1 i k1 (by omega) h3 (fun j hj hne => h4 j (by omega) hne)
      · obtain ⟨m1, m2, m3⟩ := hM i (by omega)
        refine cv_aload_n dX5_toldByCut_18 rfl ?_
        refine cv_getf flX5_12 dX5_toldByCut_19 rfl rfl ?_
        refine cv_iload_n dX5_toldByCut_22 rfl ?_
        refine cv_iload_n dX5_toldByCut_23 rfl ?_
        refine cv_sameV (c_X2_at T S c i (by omega) (by omega)) lkX2_at mlX5_86 dX5_toldByCut_24 (by decide) rfl rfl (by decide) rfl (Nat.le_of_ble_eq_true rfl) ⟨Nat.le_refl _, Nat.le_refl _⟩ ?_
        intro v w1 hq
        obtain ⟨rfl, rfl⟩ := hq
        refine cv_istore dX5_toldByCut_27 (by decide) rfl rfl ?_
        refine cv_aload_n dX5_toldByCut_29 rfl ?_
        refine cv_getf flX5_31 dX5_toldByCut_30 rfl rfl ?_
        refine cv_iload dX5_toldByCut_33 rfl ?_
        refine cv_sameV (c_X9_isSo T S hT hS (sCm S (8 * c + i)) (hM i (by omega))) lkX9_isSo mlX5_90 dX5_toldByCut_35 (by decide) rfl rfl (by decide) rfl (Nat.le_of_ble_eq_true rfl) ⟨Nat.le_refl _, Nat.le_refl _⟩ ?_
        intro v w1 hq
        obtain ⟨rfl, rfl⟩ := hq
        have hr0 := ct_i_r (soP S (sCm S (8 * c + i)))
        refine cv_if_ne (tgt := 53) dX5_toldByCut_38 (by decide) (by omega) (fun h38 => ?_) (fun h38 => ?_)
        · refine cv_iinc dX5_toldByCut_53 (by decide) rfl rfl rfl ?_
          refine cv_goto (tgt := 5) dX5_toldByCut_56 (by decide) ?_
          refine cv_loc [0, 1, 2, 3] rfl ?_
          have hso : soP S (sCm S (8 * c + i)) := ct_i_1.mp (by omega)
          refine ih (i + 1) o (by omega) (by omega) ?_
          rcases hv with ⟨h1, h2⟩ | ⟨k1, h1, h2, h3, h4⟩
          · refine Or.inl ⟨h1, fun j hj => ?_⟩
            rcases Nat.lt_succ_iff_lt_or_eq.mp hj with q | q
            · exact h2 j q
            · subst q; exact hso
          · refine Or.inr ⟨k1, by omega, h2, h3, fun j hj hne => ?_⟩
            rcases Nat.lt_succ_iff_lt_or_eq.mp hj with q | q
            · exact h4 j q hne
            · subst q; exact hso
        · refine cv_iload_n dX5_toldByCut_41 rfl ?_
          refine cv_bipush dX5_toldByCut_42 (by decide) ?_
          refine cv_icmp_eq (tgt := 50) dX5_toldByCut_44 (by decide) (by omega) (fun h44 => ?_) (fun h44 => ?_)
          · refine cv_iload dX5_toldByCut_50 rfl ?_
            refine cv_istore_n dX5_toldByCut_52 (by decide) rfl rfl ?_
            refine cv_iinc dX5_toldByCut_53 (by decide) rfl rfl rfl ?_
            refine cv_goto (tgt := 5) dX5_toldByCut_56 (by decide) ?_
            refine cv_loc [0, 1, 2, 3] rfl ?_
            have hso : coP S c i := ct_i_0.mp h38
            refine ih (i + 1) _ (by omega) (by omega) ?_
            rcases hv with ⟨h1, h2⟩ | ⟨k1, h1, h2, h3, h4⟩
            · exact Or.inr ⟨i, by omega, rfl, hso, fun j hj hne => h2 j (by omega)⟩
            · exfalso
              obtain ⟨a1, a2, a3⟩ := hM k1 (by omega)
              omega
          · refine cv_bipush dX5_toldByCut_47 (by decide) ?_
            refine cv_iret rfl dX5_toldByCut_49 ⟨Nat.le_refl _, Nat.le_refl _⟩ ⟨ct_rI (by
          have hso : coP S c i := ct_i_0.mp h38
          rcases hv with ⟨h1, h2⟩ | ⟨k1, h1, h2, h3, h4⟩
          · exact absurd h1 h44
          · unfold fTc
            rw [ct_first_is (i := k1) h3 (fun j hj h => h (h4 j (by omega) (by omega))) (by omega)]
            exact (if_pos (Or.inl ⟨i, h1, by omega, hso⟩)).symm), rfl⟩
  refine cv_bipush dX5_toldByCut_0 (by decide) ?_
  refine cv_istore_n dX5_toldByCut_2 (by decide) rfl rfl ?_
  refine cv_iconst dX5_toldByCut_3 ?_
  refine cv_istore_n dX5_toldByCut_4 (by decide) rfl rfl ?_
  exact loop 9 0 (-9) (by omega) (by omega) (Or.inl ⟨rfl, fun j hj => absurd hj (Nat.not_lt_zero _)⟩)
