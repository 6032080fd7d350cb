set_option maxRecDepth 100000 in
set_option maxHeartbeats 1000000 in
theorem c_X12_lastInSet (u v : Nat) (T : ctT) (o : Nat → Int) (A : Nat → Nat → Int) (tm tr : Int) (p st : Nat → Int) (hs : ∀ r, r < 8 → -9 ≤ st r ∧ st r ≤ 100) : CM MX12_lastInSet (0, 0, 0) [vR 0] (wM u v T o A tm tr p st) (fun v1 w => v1 = some (vI (lis st 7 : Nat)) ∧ w = wM u v T o A tm tr p st) := by
  refine CM.of (by decide) (Nat.le_of_ble_eq_true rfl) ?_
  show CV MX12_lastInSet (0, 0, 0) 19 (0, 0) 0 [(0, vR 0)] [] (wM u v T o A tm tr p st) _
  have loop : ∀ (k : Nat) (i : Nat), (8 < i + 1 + k) → (i ≤ 7) → CV MX12_lastInSet (0, 0, 0) 19 (0, 0) 4 [(0, vR 0), (1, vI ((lis st i : Nat) : Int)), (2, vI ((i + 1 : Nat) : Int))] [] (wM u v T o A tm tr p st) (fun v1 w => v1 = some (vI (lis st 7 : Nat)) ∧ w = wM u v T o A tm tr p st) := by
    intro k
    induction k with
    | zero => intro i hk hi; exact absurd hk (by omega)
    | succ k ih =>
      intro i hk hi
      have l0 := lis_le st i
      have s0 := hs (lis st i) (by omega)
      refine cv_iload_n dX12_lastInSet_4 rfl ?_
      refine cv_bipush dX12_lastInSet_5 (by decide) ?_
      refine cv_icmp_ge (tgt := 37) dX12_lastInSet_7 (by decide) (by omega) (fun h7 => ?_) (fun h7 => ?_)
      · refine cv_iload_n dX12_lastInSet_37 rfl ?_
        refine cv_iret rfl dX12_lastInSet_38 ⟨Nat.le_refl _, Nat.le_refl _⟩ ⟨ct_rI (by rw [show i = 7 by omega]), rfl⟩
      · have s1 := hs (i + 1) (by omega)
        refine cv_aload_n dX12_lastInSet_10 rfl ?_
        refine cv_getf flX12_44 dX12_lastInSet_11 rfl rfl ?_
        refine cv_iload_n dX12_lastInSet_14 rfl ?_
        refine cv_ialj (i + 1) dX12_lastInSet_15 rfl (by omega) (by omega) ?_
        refine cv_aload_n dX12_lastInSet_16 rfl ?_
        refine cv_getf flX12_44 dX12_lastInSet_17 rfl rfl ?_
        refine cv_iload_n dX12_lastInSet_20 rfl ?_
        refine cv_ialj (lis st i) dX12_lastInSet_21 rfl (by omega) (by omega) ?_
        refine cv_icmp_le (tgt := 29) dX12_lastInSet_22 (by decide) (by omega) (fun h22 => ?_) (fun h22 => ?_)
        · refine cv_iload_n dX12_lastInSet_29 rfl ?_
          refine cv_istore_n dX12_lastInSet_30 (by decide) rfl rfl ?_
          refine cv_iinc dX12_lastInSet_31 (by decide) rfl rfl rfl ?_
          refine cv_goto (tgt := 4) dX12_lastInSet_34 (by decide) ?_
          refine cv_loc [0, 1, 2] rfl ?_
          have := ih (i + 1) (by omega) (by omega)
          rw [show lis st (i + 1) = lis st i from if_neg (by omega)] at this
          exact this
        · refine cv_iload_n dX12_lastInSet_25 rfl ?_
          refine cv_goto (tgt := 30) dX12_lastInSet_26 (by decide) ?_
          refine cv_istore_n dX12_lastInSet_30 (by decide) rfl rfl ?_
          refine cv_iinc dX12_lastInSet_31 (by decide) rfl rfl rfl ?_
          refine cv_goto (tgt := 4) dX12_lastInSet_34 (by decide) ?_
          refine cv_loc [0, 1, 2] rfl ?_
          have := ih (i + 1) (by omega) (by omega)
          rw [show lis st (i + 1) = i + 1 from if_pos (by omega)] at this
          exact this
  refine cv_iconst dX12_lastInSet_0 ?_
  refine cv_istore_n dX12_lastInSet_1 (by decide) rfl rfl ?_
  refine cv_iconst dX12_lastInSet_2 ?_
  refine cv_istore_n dX12_lastInSet_3 (by decide) rfl rfl ?_
  exact loop 8 0 (by omega) (by omega)
set_option maxRecDepth 100000 in
set_option maxHeartbeats 1000000 in
theorem c_X12_greatest (u v : Nat) (T : ctT) (o : Nat → Int) (A : Nat → Nat → Int) (tm tr : Int) (p st : Nat → Int) (S : ctS) (hT : okT T) (hA : rT T A) (hR : Rep S p) (hJ : J T S) (b : Int) (hb : -9 ≤ b ∧ b ≤ 100) (hs : stO S st) : CM MX12_greatest (0, 0, 0) [vR 0, vR 5, vI b] (wM u v T o A tm tr p st) (fun v1 w => v1 = some (vI (grS S st b 8)) ∧ w = wM u v T o A tm tr p st) := by
  refine CM.of (by decide) (Nat.le_of_ble_eq_true rfl) ?_
  show CV MX12_greatest (0, 0, 0) 19 (0, 0) 0 [(0, vR 0), (1, vR 5), (2, vI b)] [] (wM u v T o A tm tr p st) _
  have hg := J_g hT hJ
  have hZ := hg.1.1
  have hN := hT.2.1
  have lv : ∀ i, i < sZ S → 0 ≤ sL S i ∧ sL S i ≤ 100 := fun i hi => by have := hJ.2.1.1 i hi; omega
  have loop : ∀ (k : Nat) (i : Nat), (8 < i + k) → (i ≤ 8) → CV MX12_greatest (0, 0, 0) 19 (0, 0) 5 [(0, vR 0), (1, vR 5), (2, vI b), (3, vI (grS S st b i)), (4, vI i)] [] (wM u v T o A tm tr p st) (fun v1 w => v1 = some (vI (grS S st b 8)) ∧ w = wM u v T o A tm tr p st) := by
    intro k
    induction k with
    | zero => intro i hk hi; exact absurd hk (by omega)
    | succ k ih =>
      intro i hk hi
      have g0 := grS_r (b := b) lv hs i (by omega)
      refine cv_iload dX12_greatest_5 rfl ?_
      refine cv_bipush dX12_greatest_7 (by decide) ?_
      refine cv_icmp_ge (tgt := 72) dX12_greatest_9 (by decide) (by omega) (fun h9 => ?_) (fun h9 => ?_)
      · refine cv_iload_n dX12_greatest_72 rfl ?_
        refine cv_iret rfl dX12_greatest_73 ⟨Nat.le_refl _, Nat.le_refl _⟩ ⟨ct_rI (by rw [show i = 8 by omega]), rfl⟩
      · have s0 := hs i (by omega)
        refine cv_aload_n dX12_greatest_12 rfl ?_
        refine cv_getf flX12_44 dX12_greatest_13 rfl rfl ?_
        refine cv_iload dX12_greatest_16 rfl ?_
        refine cv_ialj (i) dX12_greatest_18 rfl (by omega) (by omega) ?_
        refine cv_if_lt (tgt := 64) dX12_greatest_19 (by decide) (by omega) (fun h19 => ?_) (fun h19 => ?_)
        · refine cv_iload_n dX12_greatest_64 rfl ?_
          refine cv_istore_n dX12_greatest_65 (by decide) rfl rfl ?_
          refine cv_iinc dX12_greatest_66 (by decide) rfl rfl rfl ?_
          refine cv_goto (tgt := 5) dX12_greatest_69 (by decide) ?_
          refine cv_loc [0, 1, 2, 3, 4] rfl ?_
          have := ih (i + 1) (by omega) (by omega)
          rw [show grS S st b (i + 1) = grS S st b i from if_neg (fun z => by have z1 := z.1; have z2 := z.2.1; have z3 := z.2.2; omega)] at this
          exact this
        · refine cv_aload_n dX12_greatest_22 rfl ?_
          refine cv_getf flX12_44 dX12_greatest_23 rfl rfl ?_
          refine cv_iload dX12_greatest_26 rfl ?_
          refine cv_ialj (i) dX12_greatest_28 rfl (by omega) (by omega) ?_
          refine cv_iload_n dX12_greatest_29 rfl ?_
          refine cv_icmp_eq (tgt := 64) dX12_greatest_30 (by decide) (by omega) (fun h30 => ?_) (fun h30 => ?_)
          · refine cv_iload_n dX12_greatest_64 rfl ?_
            refine cv_istore_n dX12_greatest_65 (by decide) rfl rfl ?_
            refine cv_iinc dX12_greatest_66 (by decide) rfl rfl rfl ?_
            refine cv_goto (tgt := 5) dX12_greatest_69 (by decide) ?_
            refine cv_loc [0, 1, 2, 3, 4] rfl ?_
            have := ih (i + 1) (by omega) (by omega)
            rw [show grS S st b (i + 1) = grS S st b i from if_neg (fun z => by have z1 := z.1; have z2 := z.2.1; have z3 := z.2.2; omega)] at this
            exact this
          · have l1 := lv (st i).toNat (by omega)
            have rp := (hR.2.1 (st i).toNat (by omega)).2.1
            refine cv_aload_n dX12_greatest_33 rfl ?_
            refine cv_bipush dX12_greatest_34 (by decide) ?_
            refine cv_aload_n dX12_greatest_36 rfl ?_
            refine cv_getf flX12_44 dX12_greatest_37 rfl rfl ?_
            refine cv_iload dX12_greatest_40 rfl ?_
            refine cv_ialj (i) dX12_greatest_42 rfl (by omega) (by omega) ?_
            refine cv_iadd dX12_greatest_43 ?_
            refine cv_ialj (37 + (st i).toNat) dX12_greatest_44 rfl (by omega) (by omega) ?_
            rw [rp]
            refine cv_iload_n dX12_greatest_45 rfl ?_
            refine cv_icmp_le (tgt := 64) dX12_greatest_46 (by decide) (by omega) (fun h46 => ?_) (fun h46 => ?_)
            · refine cv_iload_n dX12_greatest_64 rfl ?_
              refine cv_istore_n dX12_greatest_65 (by decide) rfl rfl ?_
              refine cv_iinc dX12_greatest_66 (by decide) rfl rfl rfl ?_
              refine cv_goto (tgt := 5) dX12_greatest_69 (by decide) ?_
              refine cv_loc [0, 1, 2, 3, 4] rfl ?_
              have := ih (i + 1) (by omega) (by omega)
              rw [show grS S st b (i + 1) = grS S st b i from if_neg (fun z => by have z1 := z.1; have z2 := z.2.1; have z3 := z.2.2; omega)] at this
              exact this
            · refine cv_aload_n dX12_greatest_49 rfl ?_
              refine cv_bipush dX12_greatest_50 (by decide) ?_
              refine cv_aload_n dX12_greatest_52 rfl ?_
              refine cv_getf flX12_44 dX12_greatest_53 rfl rfl ?_
              refine cv_iload dX12_greatest_56 rfl ?_
              refine cv_ialj (i) dX12_greatest_58 rfl (by omega) (by omega) ?_
              refine cv_iadd dX12_greatest_59 ?_
              refine cv_ialj (37 + (st i).toNat) dX12_greatest_60 rfl (by omega) (by omega) ?_
              rw [rp]
              refine cv_goto (tgt := 65) dX12_greatest_61 (by decide) ?_
              refine cv_istore_n dX12_greatest_65 (by decide) rfl rfl ?_
              refine cv_iinc dX12_greatest_66 (by decide) rfl rfl rfl ?_
              refine cv_goto (tgt := 5) dX12_greatest_69 (by decide) ?_
              refine cv_loc [0, 1, 2, 3, 4] rfl ?_
              have := ih (i + 1) (by omega) (by omega)
              rw [show grS S st b (i + 1) = sL S (st i).toNat from if_pos ⟨by omega, by omega, by omega⟩] at this
              exact this
  refine cv_iconst dX12_greatest_0 ?_
  refine cv_istore_n dX12_greatest_1 (by decide) rfl rfl ?_
  refine cv_iconst dX12_greatest_2 ?_
  refine cv_istore dX12_greatest_3 (by decide) rfl rfl ?_
  exact loop 9 0 (by omega) (by omega)
set_option maxRecDepth 100000 in
set_option maxHeartbeats 1000000 in
theorem c_X12_manyOf (u v : Nat) (T : ctT) (o : Nat → Int) (A : Nat → Nat → Int) (tm tr : Int) (p st : Nat → Int) (S : ctS) (hT : okT T) (hA : rT T A) (hR : Rep S p) (hJ : J T S) (l : Int) (hl : 0 ≤ l ∧ l ≤ 100) (hs : stO S st) : CM MX12_manyOf (0, 0, 0) [vR 0, vR 5, vI l] (wM u v T o A tm tr p st) (fun v1 w => v1 = some (vI (mnS S st l 8)) ∧ w = wM u v T o A tm tr p st) := by
  refine CM.of (by decide) (Nat.le_of_ble_eq_true rfl) ?_
  show CV MX12_manyOf (0, 0, 0) 19 (0, 0) 0 [(0, vR 0), (1, vR 5), (2, vI l)] [] (wM u v T o A tm tr p st) _
  have hg := J_g hT hJ
  have hZ := hg.1.1
  have hN := hT.2.1
  have loop : ∀ (k : Nat) (i : Nat), (8 < i + k) → (i ≤ 8) → CV MX12_manyOf (0, 0, 0) 19 (0, 0) 5 [(0, vR 0), (1, vR 5), (2, vI l), (3, vI (mnS S st l i)), (4, vI i)] [] (wM u v T o A tm tr p st) (fun v1 w => v1 = some (vI (mnS S st l 8)) ∧ w = wM u v T o A tm tr p st) := by
    intro k
    induction k with
    | zero => intro i hk hi; exact absurd hk (by omega)
    | succ k ih =>
      intro i hk hi
      refine cv_iload dX12_manyOf_5 rfl ?_
      refine cv_bipush dX12_manyOf_7 (by decide) ?_
      refine cv_icmp_ge (tgt := 52) dX12_manyOf_9 (by decide) (by omega) (fun h9 => ?_) (fun h9 => ?_)
      · refine cv_iload_n dX12_manyOf_52 rfl ?_
        refine cv_iret rfl dX12_manyOf_53 ⟨Nat.le_refl _, Nat.le_refl _⟩ ⟨ct_rI (by rw [show i = 8 by omega]), rfl⟩
      · have s0 := hs i (by omega)
        refine cv_iload_n dX12_manyOf_12 rfl ?_
        refine cv_aload_n dX12_manyOf_13 rfl ?_
        refine cv_getf flX12_44 dX12_manyOf_14 rfl rfl ?_
        refine cv_iload dX12_manyOf_17 rfl ?_
        refine cv_ialj (i) dX12_manyOf_19 rfl (by omega) (by omega) ?_
        refine cv_if_lt (tgt := 43) dX12_manyOf_20 (by decide) (by omega) (fun h20 => ?_) (fun h20 => ?_)
        · refine cv_iconst dX12_manyOf_43 ?_
          refine cv_iadd dX12_manyOf_44 ?_
          refine cv_istore_n dX12_manyOf_45 (by decide) rfl rfl ?_
          refine cv_iinc dX12_manyOf_46 (by decide) rfl rfl rfl ?_
          refine cv_goto (tgt := 5) dX12_manyOf_49 (by decide) ?_
          refine cv_loc [0, 1, 2, 3, 4] rfl ?_
          have := ih (i + 1) (by omega) (by omega)
          rw [show mnS S st l (i + 1) = mnS S st l i + 0 from congrArg (mnS S st l i + ·) (if_neg (fun z => by have z1 := z.1; have z2 := z.2; omega))] at this
          exact this
        · have l1 := hJ.2.1.1 (st i).toNat (by omega)
          have rp := (hR.2.1 (st i).toNat (by omega)).2.1
          refine cv_aload_n dX12_manyOf_23 rfl ?_
          refine cv_bipush dX12_manyOf_24 (by decide) ?_
          refine cv_aload_n dX12_manyOf_26 rfl ?_
          refine cv_getf flX12_44 dX12_manyOf_27 rfl rfl ?_
          refine cv_iload dX12_manyOf_30 rfl ?_
          refine cv_ialj (i) dX12_manyOf_32 rfl (by omega) (by omega) ?_
          refine cv_iadd dX12_manyOf_33 ?_
          refine cv_ialj (37 + (st i).toNat) dX12_manyOf_34 rfl (by omega) (by omega) ?_
          rw [rp]
          refine cv_iload_n dX12_manyOf_35 rfl ?_
          refine cv_icmp_ne (tgt := 43) dX12_manyOf_36 (by decide) (by omega) (fun h36 => ?_) (fun h36 => ?_)
          · refine cv_iconst dX12_manyOf_43 ?_
            refine cv_iadd dX12_manyOf_44 ?_
            refine cv_istore_n dX12_manyOf_45 (by decide) rfl rfl ?_
            refine cv_iinc dX12_manyOf_46 (by decide) rfl rfl rfl ?_
            refine cv_goto (tgt := 5) dX12_manyOf_49 (by decide) ?_
            refine cv_loc [0, 1, 2, 3, 4] rfl ?_
            have := ih (i + 1) (by omega) (by omega)
            rw [show mnS S st l (i + 1) = mnS S st l i + 0 from congrArg (mnS S st l i + ·) (if_neg (fun z => by have z1 := z.1; have z2 := z.2; omega))] at this
            exact this
          · refine cv_iconst dX12_manyOf_39 ?_
            refine cv_goto (tgt := 44) dX12_manyOf_40 (by decide) ?_
            refine cv_iadd dX12_manyOf_44 ?_
            refine cv_istore_n dX12_manyOf_45 (by decide) rfl rfl ?_
            refine cv_iinc dX12_manyOf_46 (by decide) rfl rfl rfl ?_
            refine cv_goto (tgt := 5) dX12_manyOf_49 (by decide) ?_
            refine cv_loc [0, 1, 2, 3, 4] rfl ?_
            have := ih (i + 1) (by omega) (by omega)
            rw [show mnS S st l (i + 1) = mnS S st l i + 1 from congrArg (mnS S st l i + ·) (if_pos ⟨by omega, by omega⟩)] at this
            exact this
  refine cv_iconst dX12_manyOf_0 ?_
  refine cv_istore_n dX12_manyOf_1 (by decide) rfl rfl ?_
  refine cv_iconst dX12_manyOf_2 ?_
  refine cv_istore dX12_manyOf_3 (by decide) rfl rfl ?_
  exact loop 9 0 (by omega) (by omega)
