theorem ct_last_t {P : Nat → Prop} {n : Nat} (h : P n) : ct_last P (n + 1) = some n := if_pos h
theorem ct_last_f {P : Nat → Prop} {n : Nat} (h : ¬ P n) : ct_last P (n + 1) = ct_last P n := if_neg h
theorem ct_last_o {P : Nat → Prop} {n : Nat} : -9 ≤ ct_o (-9) (ct_last P n) ∧ ct_o (-9) (ct_last P n) < (n : Int) := by
  cases e : ct_last P n with
  | none => simp only [ct_o]; omega
  | some i => have := (ct_last_inv e).1; simp only [ct_o]; omega
/-- the reference's set: -9 where there is none -/
def stR (st : Nat → Int) : Prop := ∀ r, r < 8 → -9 ≤ st r ∧ st r ≤ 100
def stO (S : ctS) (st : Nat → Int) : Prop := ∀ r, r < 8 → st r = -9 ∨ (0 ≤ st r ∧ st r < (sZ S : Int))
noncomputable def cmS (S : ctS) (st : Nat → Int) (v : Int) : Nat → Int := if ¬ v = -9 ∧ 0 < sL S v.toNat then ct_up st (fRow (sM S v.toNat)).toNat (max (st (fRow (sM S v.toNat)).toNat) v) else st
def lis (st : Nat → Int) : Nat → Nat
  | 0 => 0
  | k + 1 => if st (lis st k) < st (k + 1) then k + 1 else lis st k
theorem lis_le (st : Nat → Int) : ∀ k, lis st k ≤ k
  | 0 => Nat.le_refl _
  | k + 1 => by
    have := lis_le st k
    unfold lis
    split <;> omega
def grS (S : ctS) (st : Nat → Int) (b : Int) : Nat → Int
  | 0 => 0
  | k + 1 => if 0 ≤ st k ∧ ¬ st k = b ∧ grS S st b k < sL S (st k).toNat then sL S (st k).toNat else grS S st b k
def mnS (S : ctS) (st : Nat → Int) (l : Int) : Nat → Int
  | 0 => 0
  | k + 1 => mnS S st l k + if 0 ≤ st k ∧ sL S (st k).toNat = l then 1 else 0
theorem mnS_r (S : ctS) (st : Nat → Int) (l : Int) : ∀ k : Nat, 0 ≤ mnS S st l k ∧ mnS S st l k ≤ k
  | 0 => by simp [mnS]
  | k + 1 => by
    have := mnS_r S st l k
    unfold mnS
    split <;> omega
theorem grS_r {S : ctS} {st : Nat → Int} {b : Int} (h : ∀ i, i < sZ S → 0 ≤ sL S i ∧ sL S i ≤ 100) (hs : stO S st) : ∀ k : Nat, k ≤ 8 → 0 ≤ grS S st b k ∧ grS S st b k ≤ 100
  | 0, _ => by simp [grS]
  | k + 1, hk => by
    have h1 := grS_r (b := b) h hs k (by omega)
    unfold grS
    split
    · rcases hs k (by omega) with z | z
      · omega
      · exact h _ (by omega)
    · exact h1
set_option maxRecDepth 100000 in
set_option maxHeartbeats 1000000 in
theorem c_X12_lastOf (u v : Nat) (T : ctT) (o : Nat → Int) (A : Nat → Nat → Int) (tm tr : Int) (p st : Nat → Int) (S : ctS) (hT : okT T) (hA : rT T A) (hR : Rep S p) (hJ : J T S) (x s : Int) (hx : 0 ≤ x ∧ x ≤ 9 ∧ 0 ≤ s ∧ s ≤ 9) (e : Nat) (he : e ≤ sZ S) : CM MX12_lastOf (0, 0, 0) [vR 0, vR 5, vI x, vI s, vI e] (wM u v T o A tm tr p st) (fun v1 w => v1 = some (vI (ct_o (-9) (fLa S e x s))) ∧ w = wM u v T o A tm tr p st) := by
  refine CM.of (by decide) (Nat.le_of_ble_eq_true rfl) ?_
  show CV MX12_lastOf (0, 0, 0) 19 (0, 0) 0 [(0, vR 0), (1, vR 5), (2, vI x), (3, vI s), (4, vI e)] [] (wM u v T o A tm tr p st) _
  have hg := J_g hT hJ
  have hZ := hg.1.1
  have hN := hT.2.1
  have loop : ∀ (k : Nat) (i : Nat), (e < i + k) → (i ≤ e) → CV MX12_lastOf (0, 0, 0) 19 (0, 0) 7 [(0, vR 0), (1, vR 5), (2, vI x), (3, vI s), (4, vI e), (5, vI (ct_o (-9) (ct_last (fun i => sM S i / 10 = 10 * x + s) i))), (6, vI i)] [] (wM u v T o A tm tr p st) (fun v1 w => v1 = some (vI (ct_o (-9) (fLa S e x s))) ∧ w = wM u v T o A tm tr p st) := by
    intro k
    induction k with
    | zero => intro i hk hi; exact absurd hk (by omega)
    | succ k ih =>
      intro i hk hi
      refine cv_iload dX12_lastOf_7 rfl ?_
      refine cv_iload dX12_lastOf_9 rfl ?_
      refine cv_icmp_ge (tgt := 47) dX12_lastOf_11 (by decide) (by omega) (fun h11 => ?_) (fun h11 => ?_)
      · refine cv_iload dX12_lastOf_47 rfl ?_
        refine cv_iret rfl dX12_lastOf_49 ⟨Nat.le_refl _, Nat.le_refl _⟩ ⟨ct_rI (by unfold fLa; rw [show i = e by omega, Nat.min_eq_left he]), rfl⟩
      · have hmo := (hJ.1.1 i (by omega)).1
        unfold okM at hmo
        refine cv_aload_n dX12_lastOf_14 rfl ?_
        refine cv_iconst dX12_lastOf_15 ?_
        refine cv_iload dX12_lastOf_16 rfl ?_
        refine cv_iadd dX12_lastOf_18 ?_
        refine cv_ialj (1 + i) dX12_lastOf_19 rfl (by omega) (by omega) ?_
        rw [(hR.2.1 i (by omega)).1]
        refine cv_bipush dX12_lastOf_20 (by decide) ?_
        refine cv_idiv dX12_lastOf_22 (by omega) ?_
        refine cv_bipush dX12_lastOf_23 (by decide) ?_
        refine cv_iload_n dX12_lastOf_25 rfl ?_
        refine cv_imul dX12_lastOf_26 ?_
        refine cv_iload_n dX12_lastOf_27 rfl ?_
        refine cv_iadd dX12_lastOf_28 ?_
        refine cv_icmp_ne (tgt := 37) dX12_lastOf_29 (by decide) (by omega) (fun h29 => ?_) (fun h29 => ?_)
        · refine cv_iload dX12_lastOf_37 rfl ?_
          refine cv_istore dX12_lastOf_39 (by decide) rfl rfl ?_
          refine cv_iinc dX12_lastOf_41 (by decide) rfl rfl rfl ?_
          refine cv_goto (tgt := 7) dX12_lastOf_44 (by decide) ?_
          have := ih (i + 1) (by omega) (by omega)
          rw [ct_last_f (P := (fun i => sM S i / 10 = 10 * x + s)) h29] at this
          exact this
        · refine cv_iload dX12_lastOf_32 rfl ?_
          refine cv_goto (tgt := 39) dX12_lastOf_34 (by decide) ?_
          refine cv_istore dX12_lastOf_39 (by decide) rfl rfl ?_
          refine cv_iinc dX12_lastOf_41 (by decide) rfl rfl rfl ?_
          refine cv_goto (tgt := 7) dX12_lastOf_44 (by decide) ?_
          have := ih (i + 1) (by omega) (by omega)
          rw [ct_last_t (P := (fun i => sM S i / 10 = 10 * x + s)) (by show sM S i / 10 = 10 * x + s; omega)] at this
          exact this
  refine cv_bipush dX12_lastOf_0 (by decide) ?_
  refine cv_istore dX12_lastOf_2 (by decide) rfl rfl ?_
  refine cv_iconst dX12_lastOf_4 ?_
  refine cv_istore dX12_lastOf_5 (by decide) rfl rfl ?_
  exact loop (e + 1) 0 (by omega) (by omega)
set_option maxRecDepth 100000 in
set_option maxHeartbeats 1000000 in
theorem c_X12_comes (u v : Nat) (T : ctT) (o : Nat → Int) (A : Nat → Nat → Int) (tm tr : Int) (p st : Nat → Int) (S : ctS) (hT : okT T) (hA : rT T A) (hR : Rep S p) (hJ : J T S) (q : Int) (hq : q = -9 ∨ (0 ≤ q ∧ q < (sZ S : Int))) (hs : stR st) : CM MX12_comes (0, 0, 0) [vR 0, vR 5, vI q] (wM u v T o A tm tr p st) (fun v1 w => v1 = none ∧ w = wM u v T o A tm tr p (cmS S st q)) := by
  refine CM.of (by decide) (Nat.le_of_ble_eq_true rfl) ?_
  show CV MX12_comes (0, 0, 0) 19 (0, 0) 0 [(0, vR 0), (1, vR 5), (2, vI q)] [] (wM u v T o A tm tr p st) _
  have hg := J_g hT hJ
  have hZ := hg.1.1
  have hN := hT.2.1
  have lv := hJ.2.1.1 q.toNat
  have mo := J_M hJ q.toNat
  refine cv_iload_n dX12_comes_0 rfl ?_
  refine cv_bipush dX12_comes_1 (by decide) ?_
  refine cv_icmp_eq (tgt := 66) dX12_comes_3 (by decide) (by omega) (fun h3 => ?_) (fun h3 => ?_)
  · refine cv_ret rfl dX12_comes_66 ⟨Nat.le_refl _, Nat.le_refl _⟩ ⟨rfl, by unfold cmS; rw [if_neg (fun z => z.1 h3)]⟩
  · have lv1 := lv (by omega)
    have mo1 := mo (by omega)
    have rr := fRow_r hT mo1
    have so := hs (fRow (sM S q.toNat)).toNat (by omega)
    unfold okM at mo1
    have rp := hR.2.1 q.toNat (by omega)
    refine cv_aload_n dX12_comes_6 rfl ?_
    refine cv_bipush dX12_comes_7 (by decide) ?_
    refine cv_iload_n dX12_comes_9 rfl ?_
    refine cv_iadd dX12_comes_10 ?_
    refine cv_ialj (37 + q.toNat) dX12_comes_11 rfl (by omega) (by omega) ?_
    rw [rp.2.1]
    refine cv_if_le (tgt := 66) dX12_comes_12 (by decide) (by omega) (fun h12 => ?_) (fun h12 => ?_)
    · refine cv_ret rfl dX12_comes_66 ⟨Nat.le_refl _, Nat.le_refl _⟩ ⟨rfl, by unfold cmS; rw [if_neg (fun z => by have := z.2; omega)]⟩
    · refine cv_aload_n dX12_comes_15 rfl ?_
      refine cv_iconst dX12_comes_16 ?_
      refine cv_iload_n dX12_comes_17 rfl ?_
      refine cv_iadd dX12_comes_18 ?_
      refine cv_ialj (1 + q.toNat) dX12_comes_19 rfl (by omega) (by omega) ?_
      rw [rp.1]
      refine cv_istore_n dX12_comes_20 (by decide) rfl rfl ?_
      refine cv_iconst dX12_comes_21 ?_
      refine cv_iload_n dX12_comes_22 rfl ?_
      refine cv_bipush dX12_comes_23 (by decide) ?_
      refine cv_idiv dX12_comes_25 (by omega) ?_
      refine cv_imul dX12_comes_26 ?_
      refine cv_iload_n dX12_comes_27 rfl ?_
      refine cv_bipush dX12_comes_28 (by decide) ?_
      refine cv_idiv dX12_comes_30 (by omega) ?_
      refine cv_bipush dX12_comes_31 (by decide) ?_
      refine cv_irem dX12_comes_33 (by omega) ?_
      refine cv_iadd dX12_comes_34 ?_
      refine cv_topi (((fRow (sM S q.toNat)).toNat : Nat) : Int) (by unfold fRow at rr ⊢; omega) ?_
      refine cv_istore dX12_comes_35 (by decide) rfl rfl ?_
      refine cv_aload_n dX12_comes_37 rfl ?_
      refine cv_getf flX12_44 dX12_comes_38 rfl rfl ?_
      refine cv_iload dX12_comes_41 rfl ?_
      refine cv_iload_n dX12_comes_43 rfl ?_
      refine cv_aload_n dX12_comes_44 rfl ?_
      refine cv_getf flX12_44 dX12_comes_45 rfl rfl ?_
      refine cv_iload dX12_comes_48 rfl ?_
      refine cv_ialj ((fRow (sM S q.toNat)).toNat) dX12_comes_50 rfl (by omega) (by omega) ?_
      refine cv_icmp_le (tgt := 58) dX12_comes_51 (by decide) (by omega) (fun h51 => ?_) (fun h51 => ?_)
      · refine cv_aload_n dX12_comes_58 rfl ?_
        refine cv_getf flX12_44 dX12_comes_59 rfl rfl ?_
        refine cv_iload dX12_comes_62 rfl ?_
        refine cv_ialj ((fRow (sM S q.toNat)).toNat) dX12_comes_64 rfl (by omega) (by omega) ?_
        refine cv_iasj ((fRow (sM S q.toNat)).toNat) dX12_comes_65 rfl (by omega) (by omega) ?_
        refine cv_ret rfl dX12_comes_66 ⟨Nat.le_refl _, Nat.le_refl _⟩ ⟨rfl, by unfold cmS; rw [if_pos ⟨by omega, by omega⟩, show max (st (fRow (sM S q.toNat)).toNat) q = st (fRow (sM S q.toNat)).toNat by omega]; rfl⟩
      · refine cv_iload_n dX12_comes_54 rfl ?_
        refine cv_goto (tgt := 65) dX12_comes_55 (by decide) ?_
        refine cv_iasj ((fRow (sM S q.toNat)).toNat) dX12_comes_65 rfl (by omega) (by omega) ?_
        refine cv_ret rfl dX12_comes_66 ⟨Nat.le_refl _, Nat.le_refl _⟩ ⟨rfl, by unfold cmS; rw [if_pos ⟨by omega, by omega⟩, show max (st (fRow (sM S q.toNat)).toNat) q = q by omega]; rfl⟩
set_option maxRecDepth 100000 in
set_option maxHeartbeats 1000000 in
theorem c_X12_isReason (u v : Nat) (T : ctT) (o : Nat → Int) (A : Nat → Nat → Int) (tm tr : Int) (p st : Nat → Int) (S : ctS) (hT : okT T) (hA : rT T A) (hR : Rep S p) (hJ : J T S) (c : Nat) (hc : c ≤ 60) : CM MX12_isReason (0, 0, 0) [vR 0, vR 5, vI c] (wM u v T o A tm tr p st) (fun v1 w => v1 = some (vI (ct_i (rsP S (10 + (c : Int))))) ∧ w = wM u v T o A tm tr p st) := by
  refine CM.of (by decide) (Nat.le_of_ble_eq_true rfl) ?_
  show CV MX12_isReason (0, 0, 0) 19 (0, 0) 0 [(0, vR 0), (1, vR 5), (2, vI c)] [] (wM u v T o A tm tr p st) _
  have hg := J_g hT hJ
  have hZ := hg.1.1
  have hN := hT.2.1
  have loop : ∀ (k : Nat) (i : Nat) (f : Int), (sZ S < i + k) → (i ≤ sZ S) → ((f = 0 ∧ ∀ j, j < i → ¬ sR S j = 10 + (c : Int)) ∨ (f = 1 ∧ rsP S (10 + (c : Int)))) → CV MX12_isReason (0, 0, 0) 19 (0, 0) 5 [(0, vR 0), (1, vR 5), (2, vI c), (3, vI f), (4, vI i)] [] (wM u v T o A tm tr p st) (fun v1 w => v1 = some (vI (ct_i (rsP S (10 + (c : Int))))) ∧ w = wM u v T o A tm tr p st) := by
    intro k
    induction k with
    | zero => intro i f hk hi hf; exact absurd hk (by omega)
    | succ k ih =>
      intro i f hk hi hf
      refine cv_iload dX12_isReason_5 rfl ?_
      refine cv_aload_n dX12_isReason_7 rfl ?_
      refine cv_iconst dX12_isReason_8 ?_
      refine cv_ialj (0) dX12_isReason_9 rfl (by omega) (by omega) ?_
      rw [hR.1]
      refine cv_icmp_ge (tgt := 43) dX12_isReason_10 (by decide) (by omega) (fun h10 => ?_) (fun h10 => ?_)
      · refine cv_iload_n dX12_isReason_43 rfl ?_
        refine cv_zret rfl dX12_isReason_44 ⟨Nat.le_refl _, Nat.le_refl _⟩ (by rcases hf with z | z <;> omega) (by
      rcases hf with ⟨rfl, z⟩ | ⟨rfl, z⟩
      · exact ⟨ct_rI (ct_i_f (fun ⟨j, j1, j2⟩ => z j (by omega) j2)).symm, rfl⟩
      · exact ⟨ct_rI (ct_i_t z).symm, rfl⟩)
      · refine cv_iload_n dX12_isReason_13 rfl ?_
        refine cv_if_ne (tgt := 31) dX12_isReason_14 (by decide) (by rcases hf with z | z <;> omega) (fun h14 => ?_) (fun h14 => ?_)
        · refine cv_iconst dX12_isReason_31 ?_
          refine cv_goto (tgt := 36) dX12_isReason_32 (by decide) ?_
          refine cv_istore_n dX12_isReason_36 (by decide) rfl rfl ?_
          refine cv_iinc dX12_isReason_37 (by decide) rfl rfl rfl ?_
          refine cv_goto (tgt := 5) dX12_isReason_40 (by decide) ?_
          refine cv_loc [0, 1, 2, 3, 4] rfl ?_
          refine ih (i + 1) _ (by omega) (by omega) ?_
          rcases hf with ⟨z, -⟩ | z
          · exact absurd z h14
          · exact Or.inr ⟨rfl, z.2⟩
        · refine cv_aload_n dX12_isReason_17 rfl ?_
          refine cv_bipush dX12_isReason_18 (by decide) ?_
          refine cv_iload dX12_isReason_20 rfl ?_
          refine cv_iadd dX12_isReason_22 ?_
          refine cv_ialj (73 + i) dX12_isReason_23 rfl (by omega) (by omega) ?_
          rw [(hR.2.1 i (by omega)).2.2]
          have rr := hJ.2.1.2.1 i (by omega)
          have c40 := hJ.2.1.2.2.1
          refine cv_bipush dX12_isReason_24 (by decide) ?_
          refine cv_iload_n dX12_isReason_26 rfl ?_
          refine cv_iadd dX12_isReason_27 ?_
          refine cv_icmp_ne (tgt := 35) dX12_isReason_28 (by decide) (by omega) (fun h28 => ?_) (fun h28 => ?_)
          · refine cv_iconst dX12_isReason_35 ?_
            refine cv_istore_n dX12_isReason_36 (by decide) rfl rfl ?_
            refine cv_iinc dX12_isReason_37 (by decide) rfl rfl rfl ?_
            refine cv_goto (tgt := 5) dX12_isReason_40 (by decide) ?_
            refine cv_loc [0, 1, 2, 3, 4] rfl ?_
            refine ih (i + 1) _ (by omega) (by omega) ?_
            rcases hf with ⟨-, z⟩ | z
            · refine Or.inl ⟨rfl, fun j hj => ?_⟩
              rcases Nat.lt_succ_iff_lt_or_eq.mp hj with y | y
              · exact z j y
              · subst y; exact h28
            · exact absurd (z.1.symm.trans (show f = 0 by omega)) (by decide)
          · refine cv_iconst dX12_isReason_31 ?_
            refine cv_goto (tgt := 36) dX12_isReason_32 (by decide) ?_
            refine cv_istore_n dX12_isReason_36 (by decide) rfl rfl ?_
            refine cv_iinc dX12_isReason_37 (by decide) rfl rfl rfl ?_
            refine cv_goto (tgt := 5) dX12_isReason_40 (by decide) ?_
            refine cv_loc [0, 1, 2, 3, 4] rfl ?_
            refine ih (i + 1) _ (by omega) (by omega) ?_
            exact Or.inr ⟨rfl, i, by omega, by omega⟩
  refine cv_iconst dX12_isReason_0 ?_
  refine cv_istore_n dX12_isReason_1 (by decide) rfl rfl ?_
  refine cv_iconst dX12_isReason_2 ?_
  refine cv_istore dX12_isReason_3 (by decide) rfl rfl ?_
  exact loop (sZ S + 1) 0 0 (by omega) (by omega) (Or.inl ⟨rfl, fun j hj => absurd hj (Nat.not_lt_zero _)⟩)
