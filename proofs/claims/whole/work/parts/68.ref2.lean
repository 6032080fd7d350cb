theorem op_mk {T : ctT} {S : ctS} {i : Nat} (hT : okT T) (hJ : J T S) (hb : fBk T S = -9) (h : fOp T S = some i) : mkP T S (mkO i 1 (sLo S i)) ∧ okm (mkO i 1 (sLo S i)) := by
  have h1 := ct_first_inv (show ct_first (fun x => sLo S x < sHi S x) (tN T) = some i from h)
  have hN := hT.2.1
  have hg := J_g hT hJ
  have h2 := hg.2.1 i (by omega)
  have h3 := hg.1.2.2.2.2.1 i (by omega)
  have h4 := hT.2.2.2.1 i (by omega)
  have h5 : sLo S i < sHi S i := h1.2.1
  have e1 : mkO i 1 (sLo S i) / 100 = (i : Int) := by unfold mkO; omega
  have e2 : mkO i 1 (sLo S i) / 10 % 10 = 1 := by unfold mkO; omega
  have e3 : mkO i 1 (sLo S i) % 10 = sLo S i := by unfold mkO; omega
  refine ⟨⟨by omega, fun z => ?_, fun z => ?_, hb⟩, by unfold mkO; omega, by unfold mkO; omega, by omega⟩
  · have := z.2 (by omega)
    rw [e1, e3, Int.toNat_natCast] at this
    omega
  · have := z.2 (by omega)
    rw [e1, e3, Int.toNat_natCast] at this
    omega
theorem stp_1 {T : ctT} {S : ctS} (hT : okT T) (hI : I2 T S) (h : sH S = 0) (hs : ¬ (fBk T S = -9 ∧ fOp T S = none)) : (fStp T S).1 = 1 := by
  by_cases hl : lnP T S
  · rw [fStp_l hl]
  · have hb : fBk T S = -9 := Classical.byContradiction (fun z => hl ⟨h, z⟩)
    cases ho : fOp T S with
    | none => exact absurd ⟨hb, ho⟩ hs
    | some i =>
      rw [fStp_s hl ho]
      exact ct_i_t (op_mk hT hI.1.1 hb ho).1
theorem stp_0 {T : ctT} {S : ctS} (hI : I2 T S) (h : ¬ sH S = 0 ∨ (fBk T S = -9 ∧ fOp T S = none)) : fStp T S = (0, S) := by
  have hH := hI.1.1.2.1.2.2.2.2.2
  have hl : ¬ lnP T S := fun z => by
    rcases h with q | q
    · exact q z.1
    · exact z.2 q.1
  cases ho : fOp T S with
  | none => exact fStp_n hl ho
  | some i =>
    rw [fStp_s hl ho]
    have hm : ¬ mkP T S (mkO i 1 (sLo S i)) := fun z => by
      rcases h with q | q
      · exact (hI.1.2.2 (by omega)).2 z.2.2.2
      · rw [ho] at q; exact absurd q.2 (by intro y; cases y)
    rw [ct_i_f hm, fMade_f hm]
theorem RM_note {T : ctT} {S : ctS} {n : Nat} {D D' : Nat → ctS} {y : ctY} {K : ctK} {sd : Int} {o : Nat → Int} {A : Nat → Nat → Int} {p : Nat → Int} (hT : okT T) (hI : I2 T S) (h : RM T S n D y K sd o A p) (hD : ∀ i, i < n → J T (D i)) (h1 : ∀ q, Rep S q → Rep (D' (fAi n)) q) (h2 : ∀ i, i < fAi n → D' i = D (if n < 14 then i else i + 1)) : RM T S (fAi n + 1) D' y K sd (upA (upA o 2 ((o 2 + 1) % 14)) 1 ((fAi n + 1 : Nat) : Int)) (upA A 7 (cpR (A 7) p (471 * (o 2).toNat) 471)) p := by
  obtain ⟨k1, k2, k3, ⟨a1, a2, a3, a4, a5⟩, k5, k6, k7⟩ := h
  have fA : fAi n ≤ 13 ∧ (n < 14 → fAi n = n) ∧ (¬ n < 14 → fAi n = 13) := by unfold fAi; split <;> omega
  refine ⟨k1, k2, k3, ⟨rfl, by omega, ?_, ?_, fun i hi => ?_⟩, k5, k6, k7⟩
  · show 0 ≤ (o 2 + 1) % 14; omega
  · show (o 2 + 1) % 14 < 14; omega
  · show Rep (D' i) (fun j => cpR (A 7) p (471 * (o 2).toNat) 471 (471 * ((((o 2 + 1) % 14).toNat + 14 - (fAi n + 1) + i) % 14) + j))
    by_cases e : i = fAi n
    · subst e
      refine h1 _ (Rep_ext hT hI.1.1 k2 (fun j hj => ?_))
      show cpR (A 7) p (471 * (o 2).toNat) 471 _ = p j
      unfold cpR
      rw [show (((o 2 + 1) % 14).toNat + 14 - (fAi n + 1) + fAi n) % 14 = (o 2).toNat by omega, if_pos (by omega), Nat.add_sub_cancel_left]
    · rw [h2 i (by omega)]
      by_cases c : n < 14
      · have fn := fA.2.1 c
        rw [if_pos c]
        refine Rep_ext hT (hD i (by omega)) (a5 i (by omega)) (fun j hj => ?_)
        show cpR (A 7) p (471 * (o 2).toNat) 471 _ = A 7 _
        rw [show (((o 2 + 1) % 14).toNat + 14 - (fAi n + 1) + i) % 14 = ((o 2).toNat + 14 - n + i) % 14 by omega]
        unfold cpR
        rw [if_neg (by omega)]
      · have fn := fA.2.2 c
        rw [if_neg c]
        refine Rep_ext hT (hD (i + 1) (by omega)) (a5 (i + 1) (by omega)) (fun j hj => ?_)
        show cpR (A 7) p (471 * (o 2).toNat) 471 _ = A 7 _
        rw [show (((o 2 + 1) % 14).toNat + 14 - (fAi n + 1) + i) % 14 = ((o 2).toNat + 14 - n + (i + 1)) % 14 by omega]
        unfold cpR
        rw [if_neg (by omega)]
theorem RM_now {T : ctT} {S S1 : ctS} {n : Nat} {D : Nat → ctS} {y : ctY} {K : ctK} {sd : Int} {o : Nat → Int} {A : Nat → Nat → Int} {p p1 : Nat → Int} (h : RM T S n D y K sd o A p) (h1 : Rep S1 p1) : RM T S1 n D y K sd o A p1 := ⟨h.1, h1, h.2.2⟩
set_option maxRecDepth 100000 in
set_option maxHeartbeats 1000000 in
theorem c_X12_rule (T : ctT) (S : ctS) (n : Nat) (D : Nat → ctS) (y : ctY) (K : ctK) (sd : Int) (o : Nat → Int) (A : Nat → Nat → Int) (tm tr : Int) (p st : Nat → Int) (hT : okT T) (hI : I2 T S) (hst : stR st) (hM : RM T S n D y K sd o A p) (a b : Int) (ar : -2147483648 ≤ a ∧ a ≤ 2147483647) (br : -2147483648 ≤ b ∧ b ≤ 2147483647)  : CM MX12_rule (3, 0, 0) [vR 0, vI a, vI b] (wM 5 6 T o A tm tr p st) (fun v1 w => v1 = some (vI (gRu T S a b)) ∧ QM T S n D y K sd w) := by
  refine CM.of (by decide) (Nat.le_of_ble_eq_true rfl) ?_
  show CV MX12_rule (3, 0, 0) 19 (0, 0) 0 [(0, vR 0), (1, vI a), (2, vI b)] [] (wM 5 6 T o A tm tr p st) _
  have hJ := hI.1.1
  have hg := J_g hT hJ
  have hZ := hg.1.1
  have hN := hT.2.1
  have hN1 := hT.1
  have hR6 := hT.2.2.1
  have hC40 := hJ.2.1.2.2.1
  have hA := hM.1
  have hR := hM.2.1
  refine cv_iload_n dX12_rule_0 rfl ?_
  refine cv_i2l dX12_rule_1 (by omega) ?_
  refine cv_lconst (v := 0) dX12_rule_2 (by decide) ?_
  refine cv_aload_n dX12_rule_3 rfl ?_
  refine cv_getf flX12_145 dX12_rule_4 rfl rfl ?_
  refine cv_iconst dX12_rule_7 ?_
  refine cv_isub dX12_rule_8 ?_
  refine cv_i2l dX12_rule_9 (by omega) ?_
  refine cv_sameS (c_X12_in (wM 5 6 T o A tm tr p st) a 0 ((tR T : Int) - 1) (by omega) (by omega) (by omega)) lkX12_in mlX12_69 dX12_rule_10 (by decide) rfl rfl (Nat.le_of_ble_eq_true rfl) ⟨Nat.le_refl _, Nat.le_refl _⟩ ?_
  intro v w1 hq
  obtain ⟨rfl, rfl⟩ := hq
  have i10 := ct_i_r (0 ≤ a ∧ a ≤ ((tR T : Int) - 1))
  refine cv_if_ne (tgt := 18) dX12_rule_13 (by decide) (by omega) (fun h13 => ?_) (fun h13 => ?_)
  · have ca : 0 ≤ a ∧ a ≤ ((tR T : Int) - 1) := ct_i_1.mp (by omega)
    refine cv_aload_n dX12_rule_18 rfl ?_
    refine cv_iload_n dX12_rule_19 rfl ?_
    refine cv_sameV (c_X12_isNumber 5 6 T o A tm tr p st hT b (by omega)) lkX12_isNumber mlX12_247 dX12_rule_20 (by decide) rfl rfl (by decide) rfl (Nat.le_of_ble_eq_true rfl) ⟨Nat.le_refl _, Nat.le_refl _⟩ ?_
    intro v w1 hq
    obtain ⟨rfl, rfl⟩ := hq
    have i20 := ct_i_r (0 ≤ b ∧ b < (tN T : Int))
    refine cv_if_eq (tgt := 36) dX12_rule_23 (by decide) (by omega) (fun h23 => ?_) (fun h23 => ?_)
    · have cb : ¬ (0 ≤ b ∧ b < (tN T : Int)) := ct_i_0.mp (by omega)
      refine cv_iload_n dX12_rule_36 rfl ?_
      refine cv_iconst dX12_rule_37 ?_
      refine cv_icmp_ne (tgt := 53) dX12_rule_38 (by decide) (by omega) (fun h38 => ?_) (fun h38 => ?_)
      · refine cv_iload_n dX12_rule_53 rfl ?_
        refine cv_iconst dX12_rule_54 ?_
        refine cv_icmp_ne (tgt := 74) dX12_rule_55 (by decide) (by omega) (fun h55 => ?_) (fun h55 => ?_)
        · refine cv_bipush dX12_rule_74 (by decide) ?_
          refine cv_iret rfl dX12_rule_76 ⟨Nat.le_refl _, Nat.le_refl _⟩ ⟨ct_rI (by unfold gRu; rw [if_neg (by omega), if_neg cb, if_neg (by omega), if_neg (by omega)]), ⟨o, A, tm, tr, p, st, rfl, hst, hM⟩⟩
        · refine cv_aload_n dX12_rule_58 rfl ?_
          refine cv_aload_n dX12_rule_59 rfl ?_
          refine cv_getf flX12_22 dX12_rule_60 rfl rfl ?_
          refine cv_iload_n dX12_rule_63 rfl ?_
          refine cv_topi ((a.toNat : Nat) : Int) (by omega) ?_
          refine cv_sameV (c_X12_leastOf 5 6 T o A tm tr p st S hT hM.1 hM.2.1 hI.1.1 a.toNat (by omega)) lkX12_leastOf mlX12_148 dX12_rule_64 (by decide) rfl rfl (by decide) rfl (Nat.le_of_ble_eq_true rfl) ⟨Nat.le_refl _, Nat.le_refl _⟩ ?_
          intro v w1 hq
          obtain ⟨rfl, rfl⟩ := hq
          refine cv_sipush dX12_rule_67 (by decide) ?_
          refine cv_iadd dX12_rule_70 ?_
          refine cv_goto (tgt := 76) dX12_rule_71 (by decide) ?_
          refine cv_iret rfl dX12_rule_76 ⟨Nat.le_refl _, Nat.le_refl _⟩ ⟨ct_rI (by unfold gRu; rw [if_neg (by omega), if_neg cb, if_neg (by omega), if_pos (by omega)]), ⟨o, A, tm, tr, p, st, rfl, hst, hM⟩⟩
      · refine cv_aload_n dX12_rule_41 rfl ?_
        refine cv_getf flX12_19 dX12_rule_42 rfl rfl ?_
        refine cv_iload_n dX12_rule_45 rfl ?_
        refine cv_ialj (a.toNat) dX12_rule_46 rfl (by omega) (by omega) ?_
        rw [hA.2.2 a.toNat (by omega)]
        refine cv_bipush dX12_rule_47 (by decide) ?_
        refine cv_iadd dX12_rule_49 ?_
        refine cv_goto (tgt := 76) dX12_rule_50 (by decide) ?_
        refine cv_iret rfl dX12_rule_76 ⟨Nat.le_refl _, Nat.le_refl _⟩ ⟨ct_rI (by unfold gRu; rw [if_neg (by omega), if_neg cb, if_pos (by omega)]), ⟨o, A, tm, tr, p, st, rfl, hst, hM⟩⟩
    · have cb : 0 ≤ b ∧ b < (tN T : Int) := ct_i_1.mp (by omega)
      refine cv_aload_n dX12_rule_26 rfl ?_
      refine cv_iload_n dX12_rule_27 rfl ?_
      refine cv_topi ((a.toNat : Nat) : Int) (by omega) ?_
      refine cv_iload_n dX12_rule_28 rfl ?_
      refine cv_topi ((b.toNat : Nat) : Int) (by omega) ?_
      refine cv_sameV (c_X12_weightOf 5 6 T o A tm tr p st hT hA a.toNat b.toNat (by omega) (by omega)) lkX12_weightOf mlX12_134 dX12_rule_29 (by decide) rfl rfl (by decide) rfl (Nat.le_of_ble_eq_true rfl) ⟨Nat.le_refl _, Nat.le_refl _⟩ ?_
      intro v w1 hq
      obtain ⟨rfl, rfl⟩ := hq
      refine cv_bipush dX12_rule_32 (by decide) ?_
      refine cv_iadd dX12_rule_34 ?_
      refine cv_iret rfl dX12_rule_35 ⟨Nat.le_refl _, Nat.le_refl _⟩ ⟨ct_rI (by unfold gRu; rw [if_neg (by omega), if_pos cb]), ⟨o, A, tm, tr, p, st, rfl, hst, hM⟩⟩
  · have ca : ¬ (0 ≤ a ∧ a ≤ ((tR T : Int) - 1)) := ct_i_0.mp (by omega)
    refine cv_iconst dX12_rule_16 ?_
    refine cv_iret rfl dX12_rule_17 ⟨Nat.le_refl _, Nat.le_refl _⟩ ⟨ct_rI (by unfold gRu; rw [if_pos (by omega)]), ⟨o, A, tm, tr, p, st, rfl, hst, hM⟩⟩
theorem wyR_0 {T : ctT} {S : ctS} {st : Nat → Int} {r e : Nat} {m : Int} : ∀ x, (wyR T S st r e m 0 x).2 = st
  | 0 => rfl
  | x + 1 => by
    show cmS S (wyR T S st r e m 0 x).2 (if (0 : Int) = 0 then -9 else wyV T S r e m x) = st
    rw [if_pos rfl, wyR_0 x]
    exact if_neg (fun z => z.1 rfl)
theorem wyC_0 {S : ctS} {st : Nat → Int} {c e : Nat} {m : Int} : ∀ x, (wyC S st c e m 0 x).2 = st
  | 0 => rfl
  | x + 1 => by
    show cmS S (wyC S st c e m 0 x).2 (if (0 : Int) = 0 then -9 else wyW S c e m x) = st
    rw [if_pos rfl, wyC_0 x]
    exact if_neg (fun z => z.1 rfl)
set_option maxRecDepth 100000 in
set_option maxHeartbeats 1000000 in
theorem c_X12_mark (T : ctT) (S : ctS) (n : Nat) (D : Nat → ctS) (y : ctY) (K : ctK) (sd : Int) (o : Nat → Int) (A : Nat → Nat → Int) (tm tr : Int) (p st : Nat → Int) (hT : okT T) (hI : I2 T S) (hst : stR st) (hM : RM T S n D y K sd o A p) (a b : Int) (ar : -2147483648 ≤ a ∧ a ≤ 2147483647) (br : -2147483648 ≤ b ∧ b ≤ 2147483647) (G : Nat → Int) : CM MX12_mark (4, 0, 0) [vR 0, vI a, vI b] (wM 5 6 T o A tm tr p st) (fun v1 w => v1 = some (vI (gMk T S G a b)) ∧ QM T S n D y K sd w) := by
  refine CM.of (by decide) (Nat.le_of_ble_eq_true rfl) ?_
  show CV MX12_mark (4, 0, 0) 19 (0, 0) 0 [(0, vR 0), (1, vI a), (2, vI b)] [] (wM 5 6 T o A tm tr p st) _
  have hJ := hI.1.1
  have hg := J_g hT hJ
  have hZ := hg.1.1
  have hN := hT.2.1
  have hN1 := hT.1
  have hR6 := hT.2.2.1
  have hC40 := hJ.2.1.2.2.1
  have hA := hM.1
  have hR := hM.2.1
  refine cv_iload_n dX12_mark_0 rfl ?_
  refine cv_i2l dX12_mark_1 (by omega) ?_
  refine cv_lconst (v := 0) dX12_mark_2 (by decide) ?_
  refine cv_ldc2 dX12_mark_3 kcX12_275 ?_
  refine cv_sameS (c_X12_in (wM 5 6 T o A tm tr p st) b 0 3 (by omega) (by omega) (by omega)) lkX12_in mlX12_69 dX12_mark_6 (by decide) rfl rfl (Nat.le_of_ble_eq_true rfl) ⟨Nat.le_refl _, Nat.le_refl _⟩ ?_
  intro v w1 hq
  obtain ⟨rfl, rfl⟩ := hq
  have i6 := ct_i_r (0 ≤ b ∧ b ≤ 3)
  refine cv_if_ne (tgt := 15) dX12_mark_9 (by decide) (by omega) (fun h9 => ?_) (fun h9 => ?_)
  · have cb : 0 ≤ b ∧ b ≤ 3 := ct_i_1.mp (by omega)
    refine cv_iload_n dX12_mark_15 rfl ?_
    refine cv_i2l dX12_mark_16 (by omega) ?_
    refine cv_lconst (v := 0) dX12_mark_17 (by decide) ?_
    refine cv_aload_n dX12_mark_18 rfl ?_
    refine cv_getf flX12_22 dX12_mark_19 rfl rfl ?_
    refine cv_iconst dX12_mark_22 ?_
    refine cv_ialj (0) dX12_mark_23 rfl (by omega) (by omega) ?_
    rw [hR.1]
    refine cv_iconst dX12_mark_24 ?_
    refine cv_isub dX12_mark_25 ?_
    refine cv_i2l dX12_mark_26 (by omega) ?_
    refine cv_sameS (c_X12_in (wM 5 6 T o A tm tr p st) a 0 ((sZ S : Int) - 1) (by omega) (by omega) (by omega)) lkX12_in mlX12_69 dX12_mark_27 (by decide) rfl rfl (Nat.le_of_ble_eq_true rfl) ⟨Nat.le_refl _, Nat.le_refl _⟩ ?_
    intro v w1 hq
    obtain ⟨rfl, rfl⟩ := hq
    have i27 := ct_i_r (0 ≤ a ∧ a ≤ ((sZ S : Int) - 1))
    refine cv_if_ne (tgt := 36) dX12_mark_30 (by decide) (by omega) (fun h30 => ?_) (fun h30 => ?_)
    · have ca : 0 ≤ a ∧ a ≤ ((sZ S : Int) - 1) := ct_i_1.mp (by omega)
      have rp := hR.2.1 a.toNat (by omega)
      refine cv_iload_n dX12_mark_36 rfl ?_
      have sw37 : b = 0 ∨ b = 1 ∨ b = 2 ∨ (b < 0 ∨ 2 < b) := by omega
      rcases sw37 with sw | sw | sw | sw
      · refine cv_tableIn (tgt := 64) dX12_mark_37 (by omega) (by omega) (by omega) (by rw [sw]; rfl) (by decide) ?_
        refine cv_aload_n dX12_mark_64 rfl ?_
        refine cv_getf flX12_22 dX12_mark_65 rfl rfl ?_
        refine cv_iconst dX12_mark_68 ?_
        refine cv_iload_n dX12_mark_69 rfl ?_
        refine cv_iadd dX12_mark_70 ?_
        refine cv_ialj (1 + a.toNat) dX12_mark_71 rfl (by omega) (by omega) ?_
        rw [rp.1]
        refine cv_iret rfl dX12_mark_72 ⟨Nat.le_refl _, Nat.le_refl _⟩ ⟨ct_rI (by unfold gMk; rw [if_neg (by omega), if_neg (by omega), if_pos sw]), ⟨o, A, tm, tr, p, st, rfl, hst, hM⟩⟩
      · refine cv_tableIn (tgt := 73) dX12_mark_37 (by omega) (by omega) (by omega) (by rw [sw]; rfl) (by decide) ?_
        refine cv_aload_n dX12_mark_73 rfl ?_
        refine cv_getf flX12_22 dX12_mark_74 rfl rfl ?_
        refine cv_bipush dX12_mark_77 (by decide) ?_
        refine cv_iload_n dX12_mark_79 rfl ?_
        refine cv_iadd dX12_mark_80 ?_
        refine cv_ialj (37 + a.toNat) dX12_mark_81 rfl (by omega) (by omega) ?_
        rw [rp.2.1]
        refine cv_iret rfl dX12_mark_82 ⟨Nat.le_refl _, Nat.le_refl _⟩ ⟨ct_rI (by unfold gMk; rw [if_neg (by omega), if_neg (by omega), if_neg (by omega), if_pos sw]), ⟨o, A, tm, tr, p, st, rfl, hst, hM⟩⟩
      · refine cv_tableIn (tgt := 83) dX12_mark_37 (by omega) (by omega) (by omega) (by rw [sw]; rfl) (by decide) ?_
        refine cv_aload_n dX12_mark_83 rfl ?_
        refine cv_getf flX12_22 dX12_mark_84 rfl rfl ?_
        refine cv_bipush dX12_mark_87 (by decide) ?_
        refine cv_iload_n dX12_mark_89 rfl ?_
        refine cv_iadd dX12_mark_90 ?_
        refine cv_ialj (73 + a.toNat) dX12_mark_91 rfl (by omega) (by omega) ?_
        rw [rp.2.2]
        refine cv_iret rfl dX12_mark_92 ⟨Nat.le_refl _, Nat.le_refl _⟩ ⟨ct_rI (by unfold gMk; rw [if_neg (by omega), if_neg (by omega), if_neg (by omega), if_neg (by omega), if_pos sw]), ⟨o, A, tm, tr, p, st, rfl, hst, hM⟩⟩
      · refine cv_tableOut (tgt := 93) dX12_mark_37 (by decide) (by omega) (by omega) ?_
        refine cv_aload_n dX12_mark_93 rfl ?_
        refine cv_aload_n dX12_mark_94 rfl ?_
        refine cv_getf flX12_22 dX12_mark_95 rfl rfl ?_
        refine cv_iload_n dX12_mark_98 rfl ?_
        refine cv_topi ((a.toNat : Nat) : Int) (by omega) ?_
        refine cv_iconst dX12_mark_99 ?_
        refine cv_sameV (c_X12_whyOf 5 6 T o A tm tr p st S hT hM.1 hM.2.1 hI.1.1 hI.2.1 a.toNat (by omega) 0 (Or.inl rfl) hst) lkX12_whyOf mlX12_225 dX12_mark_100 (by decide) rfl rfl (by decide) rfl (Nat.le_of_ble_eq_true rfl) ⟨Nat.le_refl _, Nat.le_refl _⟩ ?_
        intro v w1 hq
        obtain ⟨rfl, rfl⟩ := hq
        have wn := wyO_n (st := st) G (i := a.toNat) (cm := 0) hT hJ hI.2.1 hI.2.2 (by omega)
        have ws : (wyO T S st a.toNat 0).2 = st := by
              unfold wyO
              split
              · rfl
              · split
                · exact wyR_0 _
                · exact wyC_0 _
        refine cv_iret rfl dX12_mark_103 ⟨Nat.le_refl _, Nat.le_refl _⟩ ⟨ct_rI (by unfold gMk; rw [if_neg (by omega), if_neg (by omega), if_neg (by omega), if_neg (by omega), if_neg (by omega)]; exact wn), ⟨o, A, tm, tr, p, st, by rw [ws], hst, hM⟩⟩
    · have ca : ¬ (0 ≤ a ∧ a ≤ ((sZ S : Int) - 1)) := ct_i_0.mp (by omega)
      refine cv_bipush dX12_mark_33 (by decide) ?_
      refine cv_iret rfl dX12_mark_35 ⟨Nat.le_refl _, Nat.le_refl _⟩ ⟨ct_rI (by unfold gMk; rw [if_neg (by omega), if_pos (by omega)]), ⟨o, A, tm, tr, p, st, rfl, hst, hM⟩⟩
  · have cb : ¬ (0 ≤ b ∧ b ≤ 3) := ct_i_0.mp (by omega)
    refine cv_bipush dX12_mark_12 (by decide) ?_
    refine cv_iret rfl dX12_mark_14 ⟨Nat.le_refl _, Nat.le_refl _⟩ ⟨ct_rI (by unfold gMk; rw [if_pos (by omega)]), ⟨o, A, tm, tr, p, st, rfl, hst, hM⟩⟩
set_option maxRecDepth 100000 in
set_option maxHeartbeats 1000000 in
theorem c_X12_cut (T : ctT) (S : ctS) (n : Nat) (D : Nat → ctS) (y : ctY) (K : ctK) (sd : Int) (o : Nat → Int) (A : Nat → Nat → Int) (tm tr : Int) (p st : Nat → Int) (hT : okT T) (hI : I2 T S) (hst : stR st) (hM : RM T S n D y K sd o A p) (a b : Int) (ar : -2147483648 ≤ a ∧ a ≤ 2147483647) (br : -2147483648 ≤ b ∧ b ≤ 2147483647)  : CM MX12_cut (2, 0, 0) [vR 0, vI a, vI b] (wM 5 6 T o A tm tr p st) (fun v1 w => v1 = some (vI (gCt S a b)) ∧ QM T S n D y K sd w) := by
  refine CM.of (by decide) (Nat.le_of_ble_eq_true rfl) ?_
  show CV MX12_cut (2, 0, 0) 19 (0, 0) 0 [(0, vR 0), (1, vI a), (2, vI b)] [] (wM 5 6 T o A tm tr p st) _
  have hJ := hI.1.1
  have hg := J_g hT hJ
  have hZ := hg.1.1
  have hN := hT.2.1
  have hN1 := hT.1
  have hR6 := hT.2.2.1
  have hC40 := hJ.2.1.2.2.1
  have hA := hM.1
  have hR := hM.2.1
  refine cv_aload_n dX12_cut_0 rfl ?_
  refine cv_iload_n dX12_cut_1 rfl ?_
  refine cv_sameV (c_X12_isCut 6 T o A tm tr p st S hR hC40 a (by omega)) lkX12_isCut mlX12_277 dX12_cut_2 (by decide) rfl rfl (by decide) rfl (Nat.le_of_ble_eq_true rfl) ⟨Nat.le_refl _, Nat.le_refl _⟩ ?_
  intro v w1 hq
  obtain ⟨rfl, rfl⟩ := hq
  have i2 := ct_i_r (0 ≤ a ∧ a < (sC S : Int))
  refine cv_if_ne (tgt := 10) dX12_cut_5 (by decide) (by omega) (fun h5 => ?_) (fun h5 => ?_)
  · have ca : 0 ≤ a ∧ a < (sC S : Int) := ct_i_1.mp (by omega)
    have h8 := hJ.2.1.2.2.2.1 a.toNat (by omega)
    have rc := hR.2.2.2.1 a.toNat (by omega)
    refine cv_iload_n dX12_cut_10 rfl ?_
    refine cv_i2l dX12_cut_11 (by omega) ?_
    refine cv_lconst (v := 0) dX12_cut_12 (by decide) ?_
    refine cv_aload_n dX12_cut_13 rfl ?_
    refine cv_getf flX12_22 dX12_cut_14 rfl rfl ?_
    refine cv_bipush dX12_cut_17 (by decide) ?_
    refine cv_iload_n dX12_cut_19 rfl ?_
    refine cv_iadd dX12_cut_20 ?_
    refine cv_ialj (110 + a.toNat) dX12_cut_21 rfl (by omega) (by omega) ?_
    rw [rc.1]
    refine cv_iconst dX12_cut_22 ?_
    refine cv_isub dX12_cut_23 ?_
    refine cv_i2l dX12_cut_24 (by omega) ?_
    refine cv_sameS (c_X12_in (wM 5 6 T o A tm tr p st) b 0 (sCs S a.toNat - 1) (by omega) (by omega) (by omega)) lkX12_in mlX12_69 dX12_cut_25 (by decide) rfl rfl (Nat.le_of_ble_eq_true rfl) ⟨Nat.le_refl _, Nat.le_refl _⟩ ?_
    intro v w1 hq
    obtain ⟨rfl, rfl⟩ := hq
    have i25 := ct_i_r (0 ≤ b ∧ b ≤ (sCs S a.toNat - 1))
    refine cv_if_eq (tgt := 44) dX12_cut_28 (by decide) (by omega) (fun h28 => ?_) (fun h28 => ?_)
    · have cb : ¬ (0 ≤ b ∧ b ≤ (sCs S a.toNat - 1)) := ct_i_0.mp (by omega)
      refine cv_bipush dX12_cut_44 (by decide) ?_
      refine cv_iret rfl dX12_cut_46 ⟨Nat.le_refl _, Nat.le_refl _⟩ ⟨ct_rI (by unfold gCt; rw [if_neg (by omega), if_pos (by omega)]), ⟨o, A, tm, tr, p, st, rfl, hst, hM⟩⟩
    · have cb : 0 ≤ b ∧ b ≤ (sCs S a.toNat - 1) := ct_i_1.mp (by omega)
      refine cv_aload_n dX12_cut_31 rfl ?_
      refine cv_aload_n dX12_cut_32 rfl ?_
      refine cv_getf flX12_22 dX12_cut_33 rfl rfl ?_
      refine cv_iload_n dX12_cut_36 rfl ?_
      refine cv_topi ((a.toNat : Nat) : Int) (by omega) ?_
      refine cv_iload_n dX12_cut_37 rfl ?_
      refine cv_topi ((b.toNat : Nat) : Int) (by omega) ?_
      refine cv_sameV (c_X12_cutMark 5 6 T o A tm tr p st S hT hM.1 hM.2.1 hI.1.1 a.toNat b.toNat (by omega) (by omega)) lkX12_cutMark mlX12_138 dX12_cut_38 (by decide) rfl rfl (by decide) rfl (Nat.le_of_ble_eq_true rfl) ⟨Nat.le_refl _, Nat.le_refl _⟩ ?_
      intro v w1 hq
      obtain ⟨rfl, rfl⟩ := hq
      refine cv_goto (tgt := 46) dX12_cut_41 (by decide) ?_
      refine cv_iret rfl dX12_cut_46 ⟨Nat.le_refl _, Nat.le_refl _⟩ ⟨ct_rI (by unfold gCt; rw [if_neg (by omega), if_neg (by omega)]), ⟨o, A, tm, tr, p, st, rfl, hst, hM⟩⟩
  · have ca : ¬ (0 ≤ a ∧ a < (sC S : Int)) := ct_i_0.mp (by omega)
    refine cv_iconst dX12_cut_8 ?_
    refine cv_iret rfl dX12_cut_9 ⟨Nat.le_refl _, Nat.le_refl _⟩ ⟨ct_rI (by unfold gCt; rw [if_pos ca]), ⟨o, A, tm, tr, p, st, rfl, hst, hM⟩⟩
set_option maxRecDepth 100000 in
set_option maxHeartbeats 1000000 in
theorem c_X12_stepOn (u v : Nat) (T : ctT) (o : Nat → Int) (A : Nat → Nat → Int) (tm tr : Int) (p st : Nat → Int) (S : ctS) (hT : okT T) (hA : rT T A) (hR : Rep S p) (hI : I2 T S) (h0 : sH S = 0) (hs : ¬ (fBk T S = -9 ∧ fOp T S = none)) (hst : stR st) : CM MX12_stepOn (8, 0, 0) [vR 0, vR 5] (wM u v T o A tm tr p st) (fun v1 w => ∃ tm1 tr1 p1 st1, v1 = none ∧ w = wM u v T o A tm1 tr1 p1 st1 ∧ Rep (fStp T S).2 p1 ∧ stR st1) := by
  refine CM.of (by decide) (Nat.le_of_ble_eq_true rfl) ?_
  show CV MX12_stepOn (8, 0, 0) 19 (0, 0) 0 [(0, vR 0), (1, vR 5)] [] (wM u v T o A tm tr p st) _
  have hJ := hI.1.1
  have hbr := fBk_r hT (J_g hT hJ).1
  refine cv_aload_n dX12_stepOn_0 rfl ?_
  refine cv_aload_n dX12_stepOn_1 rfl ?_
  refine cv_sameV (c_X12_breakOf u v T o A tm tr p st S hT hA hR hJ) lkX12_breakOf mlX12_176 dX12_stepOn_2 (by decide) rfl rfl (by decide) rfl (Nat.le_of_ble_eq_true rfl) ⟨Nat.le_refl _, Nat.le_refl _⟩ ?_
  intro v w1 hq
  obtain ⟨rfl, rfl⟩ := hq
  refine cv_bipush dX12_stepOn_5 (by decide) ?_
  refine cv_icmp_eq (tgt := 19) dX12_stepOn_7 (by decide) (by omega) (fun h7 => ?_) (fun h7 => ?_)
  · refine cv_aload_n dX12_stepOn_19 rfl ?_
    refine cv_aload_n dX12_stepOn_20 rfl ?_
    refine cv_sameV (c_X12_openOf u v T o A tm tr p st S hT hA hR hJ) lkX12_openOf mlX12_235 dX12_stepOn_21 (by decide) rfl rfl (by decide) rfl (Nat.le_of_ble_eq_true rfl) ⟨Nat.le_refl _, Nat.le_refl _⟩ ?_
    intro v w1 hq
    obtain ⟨rfl, rfl⟩ := hq
    cases ho : fOp T S with
    | none => exact absurd ⟨h7, ho⟩ hs
    | some x =>
    obtain ⟨k1, k2⟩ := op_mk hT hJ h7 ho
    have hx := fOp_lt ho
    refine cv_topi ((x : Nat) : Int) rfl ?_
    refine cv_istore_n dX12_stepOn_24 (by decide) rfl rfl ?_
    refine cv_aload_n dX12_stepOn_25 rfl ?_
    refine cv_aload_n dX12_stepOn_26 rfl ?_
    refine cv_iload_n dX12_stepOn_27 rfl ?_
    refine cv_iconst dX12_stepOn_28 ?_
    refine cv_aload_n dX12_stepOn_29 rfl ?_
    refine cv_aload_n dX12_stepOn_30 rfl ?_
    refine cv_iload_n dX12_stepOn_31 rfl ?_
    refine cv_sameV (c_X12_low u v T o A tm tr p st S hT hA hR hJ x hx) lkX12_low mlX12_123 dX12_stepOn_32 (by decide) rfl rfl (by decide) rfl (Nat.le_of_ble_eq_true rfl) ⟨Nat.le_refl _, Nat.le_refl _⟩ ?_
    intro v w1 hq
    obtain ⟨rfl, rfl⟩ := hq
    refine cv_sameS (c_X12_codeOf (wM u v T o A tm tr p st) (x : Int) 1 (sLo S x)) lkX12_codeOf mlX12_130 dX12_stepOn_35 (by decide) rfl rfl (Nat.le_of_ble_eq_true rfl) ⟨Nat.le_refl _, Nat.le_refl _⟩ ?_
    intro v w1 hq
    obtain ⟨rfl, rfl⟩ := hq
    refine cv_sameV (c_X12_makeOn u v T o A tm tr p st S hT hA hR hJ (mkO x 1 (sLo S x)) k2 k1) lkX12_makeOn mlX12_241 dX12_stepOn_38 (by decide) rfl rfl (by decide) rfl (Nat.le_of_ble_eq_true rfl) ⟨Nat.le_refl _, Nat.le_refl _⟩ ?_
    intro v w1 hq
    obtain ⟨tm1, tr1, p1, rfl, rfl, hp1⟩ := hq
    refine cv_ret rfl dX12_stepOn_41 ⟨Nat.le_refl _, Nat.le_refl _⟩ ⟨tm1, tr1, p1, st, rfl, rfl, by rw [fStp_s (fun z => z.2 h7) ho]; exact hp1, hst⟩
  · refine cv_aload_n dX12_stepOn_10 rfl ?_
    refine cv_aload_n dX12_stepOn_11 rfl ?_
    refine cv_sameV (c_X12_learnOn u v T o A tm tr p st S hT hA hR hJ hI.2.1 h7) lkX12_learnOn mlX12_238 dX12_stepOn_12 (by decide) rfl rfl (by decide) rfl (Nat.le_of_ble_eq_true rfl) ⟨Nat.le_refl _, Nat.le_refl _⟩ ?_
    intro v w1 hq
    obtain ⟨tm1, tr1, p1, st1, rfl, rfl, hp1, hs1⟩ := hq
    refine cv_istore_n dX12_stepOn_15 (by decide) rfl rfl ?_
    refine cv_goto (tgt := 41) dX12_stepOn_16 (by decide) ?_
    refine cv_ret rfl dX12_stepOn_41 ⟨Nat.le_refl _, Nat.le_refl _⟩ ⟨tm1, tr1, p1, st1, rfl, rfl, by rw [fStp_l ⟨h0, h7⟩]; exact hp1, hs1⟩
set_option maxRecDepth 100000 in
set_option maxHeartbeats 1000000 in
theorem c_X12_note (T : ctT) (o : Nat → Int) (A : Nat → Nat → Int) (tm tr : Int) (p st : Nat → Int) (n : Nat) (h1 : o 1 = (n : Int)) (hn : n ≤ 14) (h2 : 0 ≤ o 2 ∧ o 2 < 14) : CM MX12_note (0, 0, 0) [vR 0] (wM 5 6 T o A tm tr p st) (fun v1 w => v1 = none ∧ w = wM 5 6 T (upA (upA o 2 ((o 2 + 1) % 14)) 1 ((fAi n + 1 : Nat) : Int)) (upA A 7 (cpR (A 7) p (471 * (o 2).toNat) 471)) tm tr p st) := by
  refine CM.of (by decide) (Nat.le_of_ble_eq_true rfl) ?_
  show CV MX12_note (0, 0, 0) 19 (0, 0) 0 [(0, vR 0)] [] (wM 5 6 T o A tm tr p st) _
  have loop : ∀ (k : Nat) (i : Nat), (471 < i + k) → (i ≤ 471) → CV MX12_note (0, 0, 0) 19 (0, 0) 2 [(0, vR 0), (1, vI i)] [] (wM 5 6 T o (upA A 7 (cpR (A 7) p (471 * (o 2).toNat) i)) tm tr p st) (fun v1 w => v1 = none ∧ w = wM 5 6 T (upA (upA o 2 ((o 2 + 1) % 14)) 1 ((fAi n + 1 : Nat) : Int)) (upA A 7 (cpR (A 7) p (471 * (o 2).toNat) 471)) tm tr p st) := by
    intro k
    induction k with
    | zero => intro i hk hi; exact absurd hk (by omega)
    | succ k ih =>
      intro i hk hi
      refine cv_iload_n dX12_note_2 rfl ?_
      refine cv_sipush dX12_note_3 (by decide) ?_
      refine cv_icmp_ge (tgt := 36) dX12_note_6 (by decide) (by omega) (fun h6 => ?_) (fun h6 => ?_)
      · rw [show i = 471 by omega]
        refine cv_aload_n dX12_note_36 rfl ?_
        refine cv_aload_n dX12_note_37 rfl ?_
        refine cv_getf flX12_280 dX12_note_38 rfl rfl ?_
        refine cv_iconst dX12_note_41 ?_
        refine cv_iadd dX12_note_42 ?_
        refine cv_bipush dX12_note_43 (by decide) ?_
        refine cv_irem dX12_note_45 (by show 0 ≤ o 2 + 1 ∧ o 2 + 1 ≤ 2147483647 ∧ _; omega) ?_
        refine cv_putf fpX12_280 dX12_note_46 rfl (Nat.le_of_ble_eq_true rfl) (fun _ => ⟨rfl, rfl⟩) ?_
        refine cv_aload_n dX12_note_49 rfl ?_
        refine cv_aload_n dX12_note_50 rfl ?_
        refine cv_getf flX12_195 dX12_note_51 rfl rfl ?_
        refine cv_bipush dX12_note_54 (by decide) ?_
        refine cv_icmp_ge (tgt := 68) dX12_note_56 (by decide) (by show -2147483648 ≤ o 1 ∧ o 1 ≤ 2147483647 ∧ _; omega) (fun h56 => ?_) (fun h56 => ?_)
        · refine cv_bipush dX12_note_68 (by decide) ?_
          refine cv_putf fpX12_195 dX12_note_70 rfl (Nat.le_of_ble_eq_true rfl) (fun _ => ⟨rfl, rfl⟩) ?_
          refine cv_ret rfl dX12_note_73 ⟨Nat.le_refl _, Nat.le_refl _⟩ ⟨rfl, by
          have e1 : ((fAi n + 1 : Nat) : Int) = 14 := by unfold fAi; split <;> omega
          rw [e1]; rfl⟩
        · refine cv_aload_n dX12_note_59 rfl ?_
          refine cv_getf flX12_195 dX12_note_60 rfl rfl ?_
          refine cv_iconst dX12_note_63 ?_
          refine cv_iadd dX12_note_64 ?_
          refine cv_goto (tgt := 70) dX12_note_65 (by decide) ?_
          refine cv_putf fpX12_195 dX12_note_70 rfl (Nat.le_of_ble_eq_true rfl) (fun _ => ⟨rfl, rfl⟩) ?_
          refine cv_ret rfl dX12_note_73 ⟨Nat.le_refl _, Nat.le_refl _⟩ ⟨rfl, by
          have e1 : ((fAi n + 1 : Nat) : Int) = o 1 + 1 := by unfold fAi; split <;> omega
          rw [e1]; rfl⟩
      · refine cv_aload_n dX12_note_9 rfl ?_
        refine cv_getf flX12_28 dX12_note_10 rfl rfl ?_
        refine cv_sipush dX12_note_13 (by decide) ?_
        refine cv_aload_n dX12_note_16 rfl ?_
        refine cv_getf flX12_280 dX12_note_17 rfl rfl ?_
        refine cv_imul dX12_note_20 ?_
        refine cv_iload_n dX12_note_21 rfl ?_
        refine cv_iadd dX12_note_22 ?_
        refine cv_aload_n dX12_note_23 rfl ?_
        refine cv_getf flX12_22 dX12_note_24 rfl rfl ?_
        refine cv_iload_n dX12_note_27 rfl ?_
        refine cv_ialj (i) dX12_note_28 rfl (by omega) (by omega) ?_
        refine cv_iasj (471 * (o 2).toNat + i) dX12_note_29 rfl (by omega) (by omega) ?_
        refine cv_iinc dX12_note_30 (by decide) rfl rfl rfl ?_
        refine cv_goto (tgt := 2) dX12_note_33 (by decide) ?_
        have := ih (i + 1) (by omega) (by omega)
        rw [← cpR_s] at this
        exact this
  refine cv_iconst dX12_note_0 ?_
  refine cv_istore_n dX12_note_1 (by decide) rfl rfl ?_
  have := loop 472 0 (by omega) (by omega)
  rw [cpR_0] at this
  exact this
