set_option maxRecDepth 100000 in
set_option maxHeartbeats 1000000 in
theorem c_X12_ruleTells (u v : Nat) (T : ctT) (o : Nat → Int) (A : Nat → Nat → Int) (tm tr : Int) (p st : Nat → Int) (S : ctS) (hT : okT T) (hA : rT T A) (hR : Rep S p) (hJ : J T S) (r : Nat) (hr : r < tR T) (hq : 0 ≤ tB T r - fLeast T S r) : CM MX12_ruleTells (3, 0, 0) [vR 0, vR 5, vI r] (wM u v T o A tm tr p st) (fun v1 w => (fTr T S r = -9 → v1 = some (vI 0) ∧ w = wM u v T o A tm tr p st) ∧ (¬ fTr T S r = -9 → v1 = some (vI 1) ∧ w = wM u v T o A (fTr T S r) ((r : Int)) p st)) := by
  refine CM.of (by decide) (Nat.le_of_ble_eq_true rfl) ?_
  show CV MX12_ruleTells (3, 0, 0) 19 (0, 0) 0 [(0, vR 0), (1, vR 5), (2, vI r)] [] (wM u v T o A tm tr p st) _
  have hN := hT.2.1
  have hR6 := hT.2.2.1
  have ho := (J_g hT hJ).1
  have b0 := hT.2.2.2.2.2.2.2 r (by omega)
  have l0 := fLeast_r hT ho (r := r) (by omega)
  have eF : fTr T S r = match ct_first (trP T S r (tB T r - fLeast T S r)) (tN T) with | some x => trV T S r (tB T r - fLeast T S r) x | none => -9 := if_neg (by omega)
  have loop : ∀ (k : Nat) (x : Nat), (tN T < x + k) → (x ≤ tN T) → (∀ j, j < x → ¬ trP T S r (tB T r - fLeast T S r) j) → CV MX12_ruleTells (3, 0, 0) 19 (0, 0) 17 [(0, vR 0), (1, vR 5), (2, vI r), (3, vI (tB T r - fLeast T S r)), (4, vI x)] [] (wM u v T o A tm tr p st) (fun v1 w => (fTr T S r = -9 → v1 = some (vI 0) ∧ w = wM u v T o A tm tr p st) ∧ (¬ fTr T S r = -9 → v1 = some (vI 1) ∧ w = wM u v T o A (fTr T S r) ((r : Int)) p st)) := by
    intro k
    induction k with
    | zero => intro x hk hi hv; exact absurd hk (by omega)
    | succ k ih =>
      intro x hk hi hv
      refine cv_iload dX12_ruleTells_17 rfl ?_
      refine cv_aload_n dX12_ruleTells_19 rfl ?_
      refine cv_getf flX12_65 dX12_ruleTells_20 rfl rfl ?_
      refine cv_icmp_ge (tgt := 133) dX12_ruleTells_23 (by decide) (by omega) (fun h23 => ?_) (fun h23 => ?_)
      · refine cv_iconst dX12_ruleTells_133 ?_
        refine cv_zret rfl dX12_ruleTells_134 ⟨Nat.le_refl _, Nat.le_refl _⟩ (by omega) ⟨fun _ => ⟨rfl, rfl⟩, fun z => absurd (by rw [eF, ct_first_no (fun j hj => hv j (by omega))]) z⟩
      · have w0 := hT.2.2.2.2.2.1 r x (by omega) (by omega)
        have lh := ho.2.2.2.2.1 x (by omega)
        refine cv_aload_n dX12_ruleTells_26 rfl ?_
        refine cv_iload_n dX12_ruleTells_27 rfl ?_
        refine cv_iload dX12_ruleTells_28 rfl ?_
        refine cv_sameV (c_X12_weightOf u v T o A tm tr p st hT hA r x hr (by omega)) lkX12_weightOf mlX12_134 dX12_ruleTells_30 (by decide) rfl rfl (by decide) rfl (Nat.le_of_ble_eq_true rfl) ⟨Nat.le_refl _, Nat.le_refl _⟩ ?_
        intro v w1 hq
        obtain ⟨rfl, rfl⟩ := hq
        refine cv_istore dX12_ruleTells_33 (by decide) rfl rfl ?_
        refine cv_aload_n dX12_ruleTells_35 rfl ?_
        refine cv_aload_n dX12_ruleTells_36 rfl ?_
        refine cv_iload dX12_ruleTells_37 rfl ?_
        refine cv_sameV (c_X12_low u v T o A tm tr p st S hT hA hR hJ x (by omega)) lkX12_low mlX12_123 dX12_ruleTells_39 (by decide) rfl rfl (by decide) rfl (Nat.le_of_ble_eq_true rfl) ⟨Nat.le_refl _, Nat.le_refl _⟩ ?_
        intro v w1 hq
        obtain ⟨rfl, rfl⟩ := hq
        refine cv_istore dX12_ruleTells_42 (by decide) rfl rfl ?_
        refine cv_aload_n dX12_ruleTells_44 rfl ?_
        refine cv_aload_n dX12_ruleTells_45 rfl ?_
        refine cv_iload dX12_ruleTells_46 rfl ?_
        refine cv_sameV (c_X12_high u v T o A tm tr p st S hT hA hR hJ x (by omega)) lkX12_high mlX12_127 dX12_ruleTells_48 (by decide) rfl rfl (by decide) rfl (Nat.le_of_ble_eq_true rfl) ⟨Nat.le_refl _, Nat.le_refl _⟩ ?_
        intro v w1 hq
        obtain ⟨rfl, rfl⟩ := hq
        refine cv_istore dX12_ruleTells_51 (by decide) rfl rfl ?_
        refine cv_iload dX12_ruleTells_53 rfl ?_
        refine cv_if_le (tgt := 89) dX12_ruleTells_55 (by decide) (by omega) (fun h55 => ?_) (fun h55 => ?_)
        · refine cv_iload dX12_ruleTells_89 rfl ?_
          refine cv_if_ge (tgt := 127) dX12_ruleTells_91 (by decide) (by omega) (fun h91 => ?_) (fun h91 => ?_)
          · refine cv_iinc dX12_ruleTells_127 (by decide) rfl rfl rfl ?_
            refine cv_goto (tgt := 17) dX12_ruleTells_130 (by decide) ?_
            refine cv_loc [0, 1, 2, 3, 4] rfl ?_
            refine ih (x + 1) (by omega) (by omega) (fun j hj => ?_)
            rcases Nat.lt_succ_iff_lt_or_eq.mp hj with q | q
            · exact hv j q
            · subst q; unfold trP; omega
          · have hd1 := Int.ediv_nonneg hq (show 0 ≤ -tW T r x by omega)
            have hd2 : (tB T r - fLeast T S r) / -tW T r x ≤ tB T r - fLeast T S r := Int.ediv_le_self _ hq
            refine cv_iload dX12_ruleTells_94 rfl ?_
            refine cv_iload_n dX12_ruleTells_96 rfl ?_
            refine cv_iload dX12_ruleTells_97 rfl ?_
            refine cv_ineg dX12_ruleTells_99 ?_
            refine cv_idiv dX12_ruleTells_100 (by omega) ?_
            refine cv_isub dX12_ruleTells_101 ?_
            refine cv_iload dX12_ruleTells_102 rfl ?_
            refine cv_icmp_le (tgt := 127) dX12_ruleTells_104 (by decide) (by omega) (fun h104 => ?_) (fun h104 => ?_)
            · refine cv_iinc dX12_ruleTells_127 (by decide) rfl rfl rfl ?_
              refine cv_goto (tgt := 17) dX12_ruleTells_130 (by decide) ?_
              refine cv_loc [0, 1, 2, 3, 4] rfl ?_
              refine ih (x + 1) (by omega) (by omega) (fun j hj => ?_)
              rcases Nat.lt_succ_iff_lt_or_eq.mp hj with q | q
              · exact hv j q
              · subst q; unfold trP; omega
            · have hP : trP T S r (tB T r - fLeast T S r) x := Or.inr ⟨by omega, by omega⟩
              have eV := eF
              rw [ct_first_is hP hv (by omega)] at eV
              have eV2 : fTr T S r = 100 * (x : Int) + 10 * 0 + (sHi S x - (tB T r - fLeast T S r) / -tW T r x) := eV.trans (if_neg (by omega))
              have ge := (trV_new hT ho r x (by omega) (by omega) hq hP).2
              have ge2 : 0 ≤ fTr T S r := by rw [eV]; exact ge
              refine cv_aload_n dX12_ruleTells_107 rfl ?_
              refine cv_iload dX12_ruleTells_108 rfl ?_
              refine cv_iconst dX12_ruleTells_110 ?_
              refine cv_iload dX12_ruleTells_111 rfl ?_
              refine cv_iload_n dX12_ruleTells_113 rfl ?_
              refine cv_iload dX12_ruleTells_114 rfl ?_
              refine cv_ineg dX12_ruleTells_116 ?_
              refine cv_idiv dX12_ruleTells_117 (by omega) ?_
              refine cv_isub dX12_ruleTells_118 ?_
              refine cv_sameS (c_X12_codeOf (wM u v T o A tm tr p st) x 0 (sHi S x - (tB T r - fLeast T S r) / -tW T r x)) lkX12_codeOf mlX12_130 dX12_ruleTells_119 (by decide) rfl rfl (Nat.le_of_ble_eq_true rfl) ⟨Nat.le_refl _, Nat.le_refl _⟩ ?_
              intro v w1 hq
              obtain ⟨rfl, rfl⟩ := hq
              refine cv_topi (fTr T S r) eV2.symm ?_
              refine cv_iload_n dX12_ruleTells_122 rfl ?_
              refine cv_sameV (c_X12_tell u v T o A tm tr p st (fTr T S r) r) lkX12_tell mlX12_160 dX12_ruleTells_123 (by decide) rfl rfl (by decide) rfl (Nat.le_of_ble_eq_true rfl) ⟨Nat.le_refl _, Nat.le_refl _⟩ ?_
              intro v w1 hq
              obtain ⟨rfl, rfl⟩ := hq
              refine cv_zret rfl dX12_ruleTells_126 ⟨Nat.le_refl _, Nat.le_refl _⟩ (by omega) ⟨fun z => absurd z (by omega), fun _ => ⟨rfl, rfl⟩⟩
        · have hd1 := Int.ediv_nonneg hq (show 0 ≤ tW T r x by omega)
          have hd2 : (tB T r - fLeast T S r) / tW T r x ≤ tB T r - fLeast T S r := Int.ediv_le_self _ hq
          refine cv_iload dX12_ruleTells_58 rfl ?_
          refine cv_iload_n dX12_ruleTells_60 rfl ?_
          refine cv_iload dX12_ruleTells_61 rfl ?_
          refine cv_idiv dX12_ruleTells_63 (by omega) ?_
          refine cv_iadd dX12_ruleTells_64 ?_
          refine cv_iload dX12_ruleTells_65 rfl ?_
          refine cv_icmp_ge (tgt := 89) dX12_ruleTells_67 (by decide) (by omega) (fun h67 => ?_) (fun h67 => ?_)
          · refine cv_iload dX12_ruleTells_89 rfl ?_
            refine cv_if_ge (tgt := 127) dX12_ruleTells_91 (by decide) (by omega) (fun h91 => ?_) (fun h91 => ?_)
            · refine cv_iinc dX12_ruleTells_127 (by decide) rfl rfl rfl ?_
              refine cv_goto (tgt := 17) dX12_ruleTells_130 (by decide) ?_
              refine cv_loc [0, 1, 2, 3, 4] rfl ?_
              refine ih (x + 1) (by omega) (by omega) (fun j hj => ?_)
              rcases Nat.lt_succ_iff_lt_or_eq.mp hj with q | q
              · exact hv j q
              · subst q; unfold trP; omega
            · have hd1 := Int.ediv_nonneg hq (show 0 ≤ -tW T r x by omega)
              have hd2 : (tB T r - fLeast T S r) / -tW T r x ≤ tB T r - fLeast T S r := Int.ediv_le_self _ hq
              refine cv_iload dX12_ruleTells_94 rfl ?_
              refine cv_iload_n dX12_ruleTells_96 rfl ?_
              refine cv_iload dX12_ruleTells_97 rfl ?_
              refine cv_ineg dX12_ruleTells_99 ?_
              refine cv_idiv dX12_ruleTells_100 (by omega) ?_
              refine cv_isub dX12_ruleTells_101 ?_
              refine cv_iload dX12_ruleTells_102 rfl ?_
              refine cv_icmp_le (tgt := 127) dX12_ruleTells_104 (by decide) (by omega) (fun h104 => ?_) (fun h104 => ?_)
              · refine cv_iinc dX12_ruleTells_127 (by decide) rfl rfl rfl ?_
                refine cv_goto (tgt := 17) dX12_ruleTells_130 (by decide) ?_
                refine cv_loc [0, 1, 2, 3, 4] rfl ?_
                refine ih (x + 1) (by omega) (by omega) (fun j hj => ?_)
                rcases Nat.lt_succ_iff_lt_or_eq.mp hj with q | q
                · exact hv j q
                · subst q; unfold trP; omega
              · have hP : trP T S r (tB T r - fLeast T S r) x := Or.inr ⟨by omega, by omega⟩
                have eV := eF
                rw [ct_first_is hP hv (by omega)] at eV
                have eV2 : fTr T S r = 100 * (x : Int) + 10 * 0 + (sHi S x - (tB T r - fLeast T S r) / -tW T r x) := eV.trans (if_neg (by omega))
                have ge := (trV_new hT ho r x (by omega) (by omega) hq hP).2
                have ge2 : 0 ≤ fTr T S r := by rw [eV]; exact ge
                refine cv_aload_n dX12_ruleTells_107 rfl ?_
                refine cv_iload dX12_ruleTells_108 rfl ?_
                refine cv_iconst dX12_ruleTells_110 ?_
                refine cv_iload dX12_ruleTells_111 rfl ?_
                refine cv_iload_n dX12_ruleTells_113 rfl ?_
                refine cv_iload dX12_ruleTells_114 rfl ?_
                refine cv_ineg dX12_ruleTells_116 ?_
                refine cv_idiv dX12_ruleTells_117 (by omega) ?_
                refine cv_isub dX12_ruleTells_118 ?_
                refine cv_sameS (c_X12_codeOf (wM u v T o A tm tr p st) x 0 (sHi S x - (tB T r - fLeast T S r) / -tW T r x)) lkX12_codeOf mlX12_130 dX12_ruleTells_119 (by decide) rfl rfl (Nat.le_of_ble_eq_true rfl) ⟨Nat.le_refl _, Nat.le_refl _⟩ ?_
                intro v w1 hq
                obtain ⟨rfl, rfl⟩ := hq
                refine cv_topi (fTr T S r) eV2.symm ?_
                refine cv_iload_n dX12_ruleTells_122 rfl ?_
                refine cv_sameV (c_X12_tell u v T o A tm tr p st (fTr T S r) r) lkX12_tell mlX12_160 dX12_ruleTells_123 (by decide) rfl rfl (by decide) rfl (Nat.le_of_ble_eq_true rfl) ⟨Nat.le_refl _, Nat.le_refl _⟩ ?_
                intro v w1 hq
                obtain ⟨rfl, rfl⟩ := hq
                refine cv_zret rfl dX12_ruleTells_126 ⟨Nat.le_refl _, Nat.le_refl _⟩ (by omega) ⟨fun z => absurd z (by omega), fun _ => ⟨rfl, rfl⟩⟩
          · have hP : trP T S r (tB T r - fLeast T S r) x := Or.inl ⟨by omega, by omega⟩
            have eV := eF
            rw [ct_first_is hP hv (by omega)] at eV
            have eV2 : fTr T S r = 100 * (x : Int) + 10 * 1 + (sLo S x + (tB T r - fLeast T S r) / tW T r x) := eV.trans (if_pos (by omega))
            have ge := (trV_new hT ho r x (by omega) (by omega) hq hP).2
            have ge2 : 0 ≤ fTr T S r := by rw [eV]; exact ge
            refine cv_aload_n dX12_ruleTells_70 rfl ?_
            refine cv_iload dX12_ruleTells_71 rfl ?_
            refine cv_iconst dX12_ruleTells_73 ?_
            refine cv_iload dX12_ruleTells_74 rfl ?_
            refine cv_iload_n dX12_ruleTells_76 rfl ?_
            refine cv_iload dX12_ruleTells_77 rfl ?_
            refine cv_idiv dX12_ruleTells_79 (by omega) ?_
            refine cv_iadd dX12_ruleTells_80 ?_
            refine cv_sameS (c_X12_codeOf (wM u v T o A tm tr p st) x 1 (sLo S x + (tB T r - fLeast T S r) / tW T r x)) lkX12_codeOf mlX12_130 dX12_ruleTells_81 (by decide) rfl rfl (Nat.le_of_ble_eq_true rfl) ⟨Nat.le_refl _, Nat.le_refl _⟩ ?_
            intro v w1 hq
            obtain ⟨rfl, rfl⟩ := hq
            refine cv_topi (fTr T S r) eV2.symm ?_
            refine cv_iload_n dX12_ruleTells_84 rfl ?_
            refine cv_sameV (c_X12_tell u v T o A tm tr p st (fTr T S r) r) lkX12_tell mlX12_160 dX12_ruleTells_85 (by decide) rfl rfl (by decide) rfl (Nat.le_of_ble_eq_true rfl) ⟨Nat.le_refl _, Nat.le_refl _⟩ ?_
            intro v w1 hq
            obtain ⟨rfl, rfl⟩ := hq
            refine cv_zret rfl dX12_ruleTells_88 ⟨Nat.le_refl _, Nat.le_refl _⟩ (by omega) ⟨fun z => absurd z (by omega), fun _ => ⟨rfl, rfl⟩⟩
  refine cv_aload_n dX12_ruleTells_0 rfl ?_
  refine cv_getf flX12_19 dX12_ruleTells_1 rfl rfl ?_
  refine cv_iload_n dX12_ruleTells_4 rfl ?_
  refine cv_ialj (r) dX12_ruleTells_5 rfl (by omega) (by omega) ?_
  rw [hA.2.2 r hr]
  refine cv_aload_n dX12_ruleTells_6 rfl ?_
  refine cv_aload_n dX12_ruleTells_7 rfl ?_
  refine cv_iload_n dX12_ruleTells_8 rfl ?_
  refine cv_sameV (c_X12_leastOf u v T o A tm tr p st S hT hA hR hJ r hr) lkX12_leastOf mlX12_148 dX12_ruleTells_9 (by decide) rfl rfl (by decide) rfl (Nat.le_of_ble_eq_true rfl) ⟨Nat.le_refl _, Nat.le_refl _⟩ ?_
  intro v w1 hq
  obtain ⟨rfl, rfl⟩ := hq
  refine cv_isub dX12_ruleTells_12 ?_
  refine cv_istore_n dX12_ruleTells_13 (by decide) rfl rfl ?_
  refine cv_iconst dX12_ruleTells_14 ?_
  refine cv_istore dX12_ruleTells_15 (by decide) rfl rfl ?_
  exact loop (tN T + 1) 0 (by omega) (by omega) (fun j hj => absurd hj (Nat.not_lt_zero _))
theorem fSo_one {S : ctS} {c : Nat} : ∀ n : Nat, fSo S c n = (n : Int) - 1 → ∃ k, k < n ∧ coP S c k ∧ ∀ j, j < n → j ≠ k → ¬ coP S c j
  | 0, h => by
    have : (0 : Int) = ((0 : Nat) : Int) - 1 := h
    omega
  | n + 1, h => by
    have h1 := fSo_r S c n
    have e : fSo S c (n + 1) = fSo S c n + ct_i (soP S (sCm S (8 * c + n))) := rfl
    rw [e] at h
    have h2 := ct_i_r (soP S (sCm S (8 * c + n)))
    rcases Classical.em (soP S (sCm S (8 * c + n))) with q | q
    · rw [ct_i_t q] at h
      obtain ⟨k, k1, k2, k3⟩ := fSo_one (S := S) (c := c) n (by omega)
      refine ⟨k, by omega, k2, fun j hj hjk => ?_⟩
      rcases Nat.lt_succ_iff_lt_or_eq.mp hj with z | z
      · exact k3 j z hjk
      · subst z; exact fun y => y q
    · rw [ct_i_f q] at h
      have all := (fSo_all S c n).mp (by omega)
      refine ⟨n, by omega, q, fun j hj hjk => ?_⟩
      exact fun y => y (all j (by omega))
theorem fSo_two {S : ctS} {c : Nat} : ∀ n : Nat, (∃ k, k < n ∧ coP S c k ∧ ∀ j, j < n → j ≠ k → ¬ coP S c j) → fSo S c n = (n : Int) - 1
  | 0, ⟨k, hk, _⟩ => absurd hk (Nat.not_lt_zero _)
  | n + 1, ⟨k, hk, k2, k3⟩ => by
    have e : fSo S c (n + 1) = fSo S c n + ct_i (soP S (sCm S (8 * c + n))) := rfl
    rw [e]
    by_cases q : k = n
    · subst q
      rw [(fSo_all S c k).mpr (fun j hj => Classical.not_not.mp (k3 j (by omega) (by omega))), ct_i_f k2]
      omega
    · rw [fSo_two n ⟨k, by omega, k2, fun j hj hjk => k3 j (by omega) hjk⟩, ct_i_t (Classical.not_not.mp (k3 n (by omega) (fun z => q z.symm)))]
      omega
theorem fTc_no {S : ctS} {c : Nat} (h0 : 0 ≤ sCs S c) (h : ¬ fSo S c (sCs S c).toNat = sCs S c - 1) : fTc S c = -9 := by
  unfold fTc
  cases e : ct_first (coP S c) (sCs S c).toNat with
  | none => rfl
  | some k =>
    obtain ⟨k1, k2, k3⟩ := ct_first_inv e
    refine if_pos (Or.inl ?_)
    rcases Classical.em (∃ j, k < j ∧ j < (sCs S c).toNat ∧ coP S c j) with q | q
    · exact q
    · refine absurd ?_ h
      have := fSo_two (S := S) (c := c) (sCs S c).toNat ⟨k, k1, k2, fun j hj hjk y => by
        rcases Nat.lt_or_ge j k with z | z
        · exact k3 j z y
        · exact q ⟨j, by omega, hj, y⟩⟩
      omega
set_option maxRecDepth 100000 in
set_option maxHeartbeats 1000000 in
theorem c_X12_cutTells (u v : Nat) (T : ctT) (o : Nat → Int) (A : Nat → Nat → Int) (tm tr : Int) (p st : Nat → Int) (S : ctS) (hT : okT T) (hA : rT T A) (hR : Rep S p) (hJ : J T S) (c : Nat) (hc : c < sC S) : CM MX12_cutTells (4, 0, 0) [vR 0, vR 5, vI c] (wM u v T o A tm tr p st) (fun v1 w => (fTc S c = -9 → v1 = some (vI 0) ∧ w = wM u v T o A tm tr p st) ∧ (¬ fTc S c = -9 → v1 = some (vI 1) ∧ w = wM u v T o A (fTc S c) (10 + (c : Int)) p st)) := by
  refine CM.of (by decide) (Nat.le_of_ble_eq_true rfl) ?_
  show CV MX12_cutTells (4, 0, 0) 19 (0, 0) 0 [(0, vR 0), (1, vR 5), (2, vI c)] [] (wM u v T o A tm tr p st) _
  have hc40 := hJ.2.1.2.2.1
  have hc8 := hJ.2.1.2.2.2.1 c hc
  have ho := (J_g hT hJ).1
  have hso := fSo_r S c (sCs S c).toNat
  have hnw := fTc_new hT ho hc
  have loop : ∀ (k : Nat) (q : Nat), ((sCs S c).toNat < q + k) → ((q : Int) ≤ sCs S c) → (fSo S c (sCs S c).toNat = sCs S c - 1) → (∀ j, j < q → coP S c j → nsP S (sCm S (8 * c + j))) → CV MX12_cutTells (4, 0, 0) 19 (0, 0) 21 [(0, vR 0), (1, vR 5), (2, vI c), (3, vI q)] [] (wM u v T o A tm tr p st) (fun v1 w => (fTc S c = -9 → v1 = some (vI 0) ∧ w = wM u v T o A tm tr p st) ∧ (¬ fTc S c = -9 → v1 = some (vI 1) ∧ w = wM u v T o A (fTc S c) (10 + (c : Int)) p st)) := by
    intro k
    induction k with
    | zero => intro q hk hi h1 hv; exact absurd hk (by omega)
    | succ k ih =>
      intro q hk hi h1 hv
      have i1 := ct_i_r (soP S (sCm S (8 * c + q)))
      have i2 := ct_i_r (nsP S (sCm S (8 * c + q)))
      obtain ⟨k0, k1, k2, k3⟩ := fSo_one (S := S) (c := c) (sCs S c).toNat (by omega)
      refine cv_iload_n dX12_cutTells_21 rfl ?_
      refine cv_aload_n dX12_cutTells_22 rfl ?_
      refine cv_bipush dX12_cutTells_23 (by decide) ?_
      refine cv_iload_n dX12_cutTells_25 rfl ?_
      refine cv_iadd dX12_cutTells_26 ?_
      refine cv_ialj (110 + c) dX12_cutTells_27 rfl (by omega) (by omega) ?_
      rw [(hR.2.2.2.1 c hc).1]
      refine cv_icmp_ge (tgt := 80) dX12_cutTells_28 (by decide) (by omega) (fun h28 => ?_) (fun h28 => ?_)
      · refine cv_iconst dX12_cutTells_80 ?_
        refine cv_zret rfl dX12_cutTells_81 ⟨Nat.le_refl _, Nat.le_refl _⟩ (by omega) (by
      have eT : fTc S c = -9 := by
        unfold fTc
        rw [ct_first_is (P := coP S c) k2 (fun j hj => k3 j (by omega) (by omega)) k1]
        exact if_pos (Or.inr (hv k0 (by omega) k2))
      exact ⟨fun _ => ⟨rfl, rfl⟩, fun z => absurd eT z⟩)
      · have hm := hJ.2.1.2.2.2.2.1 c q hc (by omega)
        refine cv_aload_n dX12_cutTells_31 rfl ?_
        refine cv_aload_n dX12_cutTells_32 rfl ?_
        refine cv_iload_n dX12_cutTells_33 rfl ?_
        refine cv_iload_n dX12_cutTells_34 rfl ?_
        refine cv_sameV (c_X12_cutMark u v T o A tm tr p st S hT hA hR hJ c q hc (by omega)) lkX12_cutMark mlX12_138 dX12_cutTells_35 (by decide) rfl rfl (by decide) rfl (Nat.le_of_ble_eq_true rfl) ⟨Nat.le_refl _, Nat.le_refl _⟩ ?_
        intro v w1 hq
        obtain ⟨rfl, rfl⟩ := hq
        refine cv_istore dX12_cutTells_38 (by decide) rfl rfl ?_
        refine cv_aload_n dX12_cutTells_40 rfl ?_
        refine cv_aload_n dX12_cutTells_41 rfl ?_
        refine cv_iload dX12_cutTells_42 rfl ?_
        refine cv_sameV (c_X12_isSo u v T o A tm tr p st S hT hA hR hJ (sCm S (8 * c + q)) hm) lkX12_isSo mlX12_141 dX12_cutTells_44 (by decide) rfl rfl (by decide) rfl (Nat.le_of_ble_eq_true rfl) ⟨Nat.le_refl _, Nat.le_refl _⟩ ?_
        intro v w1 hq
        obtain ⟨rfl, rfl⟩ := hq
        refine cv_if_ne (tgt := 74) dX12_cutTells_47 (by decide) (by omega) (fun h47 => ?_) (fun h47 => ?_)
        · refine cv_iinc dX12_cutTells_74 (by decide) rfl rfl rfl ?_
          refine cv_goto (tgt := 21) dX12_cutTells_77 (by decide) ?_
          refine cv_loc [0, 1, 2, 3] rfl ?_
          refine ih (q + 1) (by omega) (by omega) h1 (fun j hj => ?_)
          rcases Nat.lt_succ_iff_lt_or_eq.mp hj with z | z
          · exact hv j z
          · subst z; exact fun y => absurd (ct_i_1.mp (by omega)) y
        · refine cv_aload_n dX12_cutTells_50 rfl ?_
          refine cv_aload_n dX12_cutTells_51 rfl ?_
          refine cv_iload dX12_cutTells_52 rfl ?_
          refine cv_sameV (c_X12_isNotSo u v T o A tm tr p st S hT hA hR hJ (sCm S (8 * c + q)) hm) lkX12_isNotSo mlX12_163 dX12_cutTells_54 (by decide) rfl rfl (by decide) rfl (Nat.le_of_ble_eq_true rfl) ⟨Nat.le_refl _, Nat.le_refl _⟩ ?_
          intro v w1 hq
          obtain ⟨rfl, rfl⟩ := hq
          refine cv_if_ne (tgt := 74) dX12_cutTells_57 (by decide) (by omega) (fun h57 => ?_) (fun h57 => ?_)
          · refine cv_iinc dX12_cutTells_74 (by decide) rfl rfl rfl ?_
            refine cv_goto (tgt := 21) dX12_cutTells_77 (by decide) ?_
            refine cv_loc [0, 1, 2, 3] rfl ?_
            refine ih (q + 1) (by omega) (by omega) h1 (fun j hj => ?_)
            rcases Nat.lt_succ_iff_lt_or_eq.mp hj with z | z
            · exact hv j z
            · subst z; exact fun y => ct_i_1.mp (by omega)
          · have q1 : coP S c q := ct_i_0.mp (by omega)
            have q2 := ct_i_0.mp (show ct_i (nsP S (sCm S (8 * c + q))) = 0 by omega)
            have eq : q = k0 := by
              rcases Nat.lt_trichotomy q k0 with z | z | z
              · exact absurd q1 (k3 q (by omega) (by omega))
              · exact z
              · exact absurd q1 (k3 q (by omega) (by omega))
            have eT : fTc S c = fNeg (sCm S (8 * c + q)) := by
              unfold fTc
              rw [ct_first_is (P := coP S c) q1 (fun j hj => k3 j (by omega) (by omega)) (by omega)]
              refine if_neg (fun z => ?_)
              rcases z with ⟨j, j1, j2, j3⟩ | z
              · exact k3 j j2 (by omega) j3
              · exact q2 z
            have hmo := hm
            unfold okM at hmo
            have hN := hT.2.1
            refine cv_aload_n dX12_cutTells_60 rfl ?_
            refine cv_iload dX12_cutTells_61 rfl ?_
            refine cv_sameS (c_X12_negated (wM u v T o A tm tr p st) (sCm S (8 * c + q)) (by omega)) lkX12_negated mlX12_166 dX12_cutTells_63 (by decide) rfl rfl (Nat.le_of_ble_eq_true rfl) ⟨Nat.le_refl _, Nat.le_refl _⟩ ?_
            intro v w1 hq
            obtain ⟨rfl, rfl⟩ := hq
            refine cv_bipush dX12_cutTells_66 (by decide) ?_
            refine cv_iload_n dX12_cutTells_68 rfl ?_
            refine cv_iadd dX12_cutTells_69 ?_
            refine cv_sameV (c_X12_tell u v T o A tm tr p st (fNeg (sCm S (8 * c + q))) (10 + (c : Int))) lkX12_tell mlX12_160 dX12_cutTells_70 (by decide) rfl rfl (by decide) rfl (Nat.le_of_ble_eq_true rfl) ⟨Nat.le_refl _, Nat.le_refl _⟩ ?_
            intro v w1 hq
            obtain ⟨rfl, rfl⟩ := hq
            refine cv_zret rfl dX12_cutTells_73 ⟨Nat.le_refl _, Nat.le_refl _⟩ (by omega) (by
      have ne : ¬ fTc S c = -9 := by
        have := (fNeg_new hT ho (m := sCm S (8 * c + q)) ⟨hm, q1, q2⟩).2
        omega
      exact ⟨fun z => absurd z ne, fun _ => ⟨rfl, by rw [eT]⟩⟩)
  refine cv_aload_n dX12_cutTells_0 rfl ?_
  refine cv_aload_n dX12_cutTells_1 rfl ?_
  refine cv_iload_n dX12_cutTells_2 rfl ?_
  refine cv_sameV (c_X12_areSo u v T o A tm tr p st S hT hA hR hJ c hc) lkX12_areSo mlX12_151 dX12_cutTells_3 (by decide) rfl rfl (by decide) rfl (Nat.le_of_ble_eq_true rfl) ⟨Nat.le_refl _, Nat.le_refl _⟩ ?_
  intro v w1 hq
  obtain ⟨rfl, rfl⟩ := hq
  refine cv_aload_n dX12_cutTells_6 rfl ?_
  refine cv_bipush dX12_cutTells_7 (by decide) ?_
  refine cv_iload_n dX12_cutTells_9 rfl ?_
  refine cv_iadd dX12_cutTells_10 ?_
  refine cv_ialj (110 + c) dX12_cutTells_11 rfl (by omega) (by omega) ?_
  rw [(hR.2.2.2.1 c hc).1]
  refine cv_iconst dX12_cutTells_12 ?_
  refine cv_isub dX12_cutTells_13 ?_
  refine cv_icmp_eq (tgt := 19) dX12_cutTells_14 (by decide) (by omega) (fun h14 => ?_) (fun h14 => ?_)
  · refine cv_iconst dX12_cutTells_19 ?_
    refine cv_istore_n dX12_cutTells_20 (by decide) rfl rfl ?_
    exact loop ((sCs S c).toNat + 1) 0 (by omega) (by omega) (by omega) (fun j hj => absurd hj (Nat.not_lt_zero _))
  · refine cv_iconst dX12_cutTells_17 ?_
    refine cv_zret rfl dX12_cutTells_18 ⟨Nat.le_refl _, Nat.le_refl _⟩ (by omega) ⟨fun _ => ⟨rfl, rfl⟩, fun z => absurd (fTc_no hc8.1 h14) z⟩
