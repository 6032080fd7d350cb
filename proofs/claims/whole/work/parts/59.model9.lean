/-- why by a rule: number x's place (-9: none); how many, the set by then, of the first numbers -/
noncomputable def wyV (T : ctT) (S : ctS) (r e : Nat) (m : Int) (x : Nat) : Int := if tW T r x = 0 ∨ (¬ m = -9 ∧ (x : Int) = m / 100) then -9 else ct_o (-9) (fLa S e x (if 0 < tW T r x then 0 else 1))
noncomputable def wyR (T : ctT) (S : ctS) (st : Nat → Int) (r e : Nat) (m cm : Int) : Nat → Int × (Nat → Int)
  | 0 => (0, st)
  | x + 1 => ((wyR T S st r e m cm x).1 + (if wyV T S r e m x = -9 then 0 else 1), cmS S (wyR T S st r e m cm x).2 (if cm = 0 then -9 else wyV T S r e m x))
theorem la_ok {S : ctS} {e : Nat} {x s : Int} (he : e ≤ sZ S) : ct_o (-9) (fLa S e x s) = -9 ∨ (0 ≤ ct_o (-9) (fLa S e x s) ∧ ct_o (-9) (fLa S e x s) < (sZ S : Int)) := by
  cases h : fLa S e x s with
  | none => exact Or.inl rfl
  | some i =>
    have := (ct_last_inv h).1
    exact Or.inr ⟨Int.natCast_nonneg i, by show (i : Int) < _; omega⟩
theorem wyV_ok {T : ctT} {S : ctS} {r e : Nat} {m : Int} {x : Nat} (he : e ≤ sZ S) : wyV T S r e m x = -9 ∨ (0 ≤ wyV T S r e m x ∧ wyV T S r e m x < (sZ S : Int)) := by
  unfold wyV
  split
  · exact Or.inl rfl
  · exact la_ok he
theorem cmS_ok {S : ctS} {st : Nat → Int} {q : Int} (hZ : sZ S ≤ 36) (hs : stR st) (hq : q = -9 ∨ (0 ≤ q ∧ q < (sZ S : Int))) : stR (cmS S st q) := by
  intro r hr
  unfold cmS
  split
  · rename_i z
    by_cases e : r = (fRow (sM S q.toNat)).toNat
    · rw [← e, ct_up_s]
      have := hs r hr
      omega
    · rw [ct_up_n e]; exact hs r hr
  · exact hs r hr
theorem wyR_ok {T : ctT} {S : ctS} {st : Nat → Int} {r e : Nat} {m cm : Int} (hZ : sZ S ≤ 36) (he : e ≤ sZ S) (hs : stR st) : ∀ x : Nat, stR (wyR T S st r e m cm x).2 ∧ 0 ≤ (wyR T S st r e m cm x).1 ∧ (wyR T S st r e m cm x).1 ≤ x
  | 0 => ⟨hs, by simp [wyR]⟩
  | x + 1 => by
    obtain ⟨h1, h2, h3⟩ := wyR_ok (T := T) (r := r) (m := m) (cm := cm) hZ he hs x
    have hv := wyV_ok (T := T) (S := S) (r := r) (e := e) (m := m) (x := x) he
    refine ⟨cmS_ok hZ h1 ?_, ?_⟩
    · split
      · exact Or.inl rfl
      · exact hv
    · show 0 ≤ (wyR T S st r e m cm x).1 + (if wyV T S r e m x = -9 then 0 else 1) ∧ (wyR T S st r e m cm x).1 + (if wyV T S r e m x = -9 then 0 else 1) ≤ ((x + 1 : Nat) : Int)
      split <;> omega
set_option maxRecDepth 100000 in
set_option maxHeartbeats 1000000 in
theorem c_X12_whyByR (u v : Nat) (T : ctT) (o : Nat → Int) (A : Nat → Nat → Int) (tm tr : Int) (p st : Nat → Int) (S : ctS) (hT : okT T) (hA : rT T A) (hR : Rep S p) (hJ : J T S) (r : Nat) (hr : r < tR T) (e : Nat) (he : e ≤ sZ S) (m : Int) (hm : m = -9 ∨ (0 ≤ m ∧ m ≤ 999)) (cm : Int) (hc : cm = 0 ∨ cm = 1) (hs : stR st) : CM MX12_whyBy (1, 0, 0) [vR 0, vR 5, vI r, vI e, vI m, vI cm] (wM u v T o A tm tr p st) (fun v1 w => v1 = some (vI (wyR T S st r e m cm (tN T)).1) ∧ w = wM u v T o A tm tr p (wyR T S st r e m cm (tN T)).2) := by
  refine CM.of (by decide) (Nat.le_of_ble_eq_true rfl) ?_
  show CV MX12_whyBy (1, 0, 0) 19 (0, 0) 0 [(0, vR 0), (1, vR 5), (2, vI r), (3, vI e), (4, vI m), (5, vI cm)] [] (wM u v T o A tm tr p st) _
  have hg := J_g hT hJ
  have hZ := hg.1.1
  have hN := hT.2.1
  have hR6 := hT.2.2.1
  have l75 : ∀ (x : Nat) (y0 : Int), (x < tN T) → (CV MX12_whyBy (1, 0, 0) 19 (0, 0) 12 [(0, vR 0), (1, vR 5), (2, vI r), (3, vI e), (4, vI m), (5, vI cm), (6, vI (wyR T S st r e m cm (x + 1)).1), (7, vI ((x + 1) : Nat))] [] (wM u v T o A tm tr p (wyR T S st r e m cm (x + 1)).2) (fun v1 w => v1 = some (vI (wyR T S st r e m cm (tN T)).1) ∧ w = wM u v T o A tm tr p (wyR T S st r e m cm (tN T)).2)) → CV MX12_whyBy (1, 0, 0) 19 (0, 0) 75 [(0, vR 0), (1, vR 5), (2, vI r), (3, vI e), (4, vI m), (5, vI cm), (6, vI (wyR T S st r e m cm x).1), (7, vI (x : Nat)), (8, vI y0)] [vI (wyV T S r e m x)] (wM u v T o A tm tr p (wyR T S st r e m cm x).2) (fun v1 w => v1 = some (vI (wyR T S st r e m cm (tN T)).1) ∧ w = wM u v T o A tm tr p (wyR T S st r e m cm (tN T)).2) := by
    intro x y0 hx hih
    have w1 := wyR_ok (T := T) (r := r) (m := m) (cm := cm) hZ he hs x
    have v0 := wyV_ok (T := T) (S := S) (r := r) (e := e) (m := m) (x := x) he
    refine cv_istore dX12_whyBy_75 (by decide) rfl rfl ?_
    refine cv_iload dX12_whyBy_77 rfl ?_
    refine cv_iload dX12_whyBy_79 rfl ?_
    refine cv_bipush dX12_whyBy_81 (by decide) ?_
    refine cv_icmp_eq (tgt := 90) dX12_whyBy_83 (by decide) (by omega) (fun h83 => ?_) (fun h83 => ?_)
    · refine cv_iconst dX12_whyBy_90 ?_
      refine cv_iadd dX12_whyBy_91 ?_
      refine cv_istore dX12_whyBy_92 (by decide) rfl rfl ?_
      refine cv_aload_n dX12_whyBy_94 rfl ?_
      refine cv_aload_n dX12_whyBy_95 rfl ?_
      refine cv_iload dX12_whyBy_96 rfl ?_
      refine cv_if_eq (tgt := 106) dX12_whyBy_98 (by decide) (by omega) (fun h98 => ?_) (fun h98 => ?_)
      · refine cv_bipush dX12_whyBy_106 (by decide) ?_
        refine cv_sameV (c_X12_comes u v T o A tm tr p (wyR T S st r e m cm x).2 S hT hA hR hJ (-9) (Or.inl rfl) w1.1) lkX12_comes mlX12_202 dX12_whyBy_108 (by decide) rfl rfl (by decide) rfl (Nat.le_of_ble_eq_true rfl) ⟨Nat.le_refl _, Nat.le_refl _⟩ ?_
        intro v w1 hq
        obtain ⟨rfl, rfl⟩ := hq
        refine cv_iinc dX12_whyBy_111 (by decide) rfl rfl rfl ?_
        refine cv_goto (tgt := 12) dX12_whyBy_114 (by decide) ?_
        refine cv_loc [0, 1, 2, 3, 4, 5, 6, 7] rfl ?_
        have e0 : wyR T S st r e m cm (x + 1) = ((wyR T S st r e m cm x).1 + 0, cmS S (wyR T S st r e m cm x).2 (-9)) := by
          show ((wyR T S st r e m cm x).1 + (if wyV T S r e m x = -9 then 0 else 1), cmS S (wyR T S st r e m cm x).2 (if cm = 0 then -9 else wyV T S r e m x)) = _
          rw [if_pos h83, if_pos h98]
        rw [e0] at hih
        exact hih
      · refine cv_iload dX12_whyBy_101 rfl ?_
        refine cv_goto (tgt := 108) dX12_whyBy_103 (by decide) ?_
        refine cv_sameV (c_X12_comes u v T o A tm tr p (wyR T S st r e m cm x).2 S hT hA hR hJ (wyV T S r e m x) v0 w1.1) lkX12_comes mlX12_202 dX12_whyBy_108 (by decide) rfl rfl (by decide) rfl (Nat.le_of_ble_eq_true rfl) ⟨Nat.le_refl _, Nat.le_refl _⟩ ?_
        intro v w1 hq
        obtain ⟨rfl, rfl⟩ := hq
        refine cv_iinc dX12_whyBy_111 (by decide) rfl rfl rfl ?_
        refine cv_goto (tgt := 12) dX12_whyBy_114 (by decide) ?_
        refine cv_loc [0, 1, 2, 3, 4, 5, 6, 7] rfl ?_
        have e0 : wyR T S st r e m cm (x + 1) = ((wyR T S st r e m cm x).1 + 0, cmS S (wyR T S st r e m cm x).2 (wyV T S r e m x)) := by
          show ((wyR T S st r e m cm x).1 + (if wyV T S r e m x = -9 then 0 else 1), cmS S (wyR T S st r e m cm x).2 (if cm = 0 then -9 else wyV T S r e m x)) = _
          rw [if_pos h83, if_neg h98]
        rw [e0] at hih
        exact hih
    · refine cv_iconst dX12_whyBy_86 ?_
      refine cv_goto (tgt := 91) dX12_whyBy_87 (by decide) ?_
      refine cv_iadd dX12_whyBy_91 ?_
      refine cv_istore dX12_whyBy_92 (by decide) rfl rfl ?_
      refine cv_aload_n dX12_whyBy_94 rfl ?_
      refine cv_aload_n dX12_whyBy_95 rfl ?_
      refine cv_iload dX12_whyBy_96 rfl ?_
      refine cv_if_eq (tgt := 106) dX12_whyBy_98 (by decide) (by omega) (fun h98 => ?_) (fun h98 => ?_)
      · refine cv_bipush dX12_whyBy_106 (by decide) ?_
        refine cv_sameV (c_X12_comes u v T o A tm tr p (wyR T S st r e m cm x).2 S hT hA hR hJ (-9) (Or.inl rfl) w1.1) lkX12_comes mlX12_202 dX12_whyBy_108 (by decide) rfl rfl (by decide) rfl (Nat.le_of_ble_eq_true rfl) ⟨Nat.le_refl _, Nat.le_refl _⟩ ?_
        intro v w1 hq
        obtain ⟨rfl, rfl⟩ := hq
        refine cv_iinc dX12_whyBy_111 (by decide) rfl rfl rfl ?_
        refine cv_goto (tgt := 12) dX12_whyBy_114 (by decide) ?_
        refine cv_loc [0, 1, 2, 3, 4, 5, 6, 7] rfl ?_
        have e0 : wyR T S st r e m cm (x + 1) = ((wyR T S st r e m cm x).1 + 1, cmS S (wyR T S st r e m cm x).2 (-9)) := by
          show ((wyR T S st r e m cm x).1 + (if wyV T S r e m x = -9 then 0 else 1), cmS S (wyR T S st r e m cm x).2 (if cm = 0 then -9 else wyV T S r e m x)) = _
          rw [if_neg h83, if_pos h98]
        rw [e0] at hih
        exact hih
      · refine cv_iload dX12_whyBy_101 rfl ?_
        refine cv_goto (tgt := 108) dX12_whyBy_103 (by decide) ?_
        refine cv_sameV (c_X12_comes u v T o A tm tr p (wyR T S st r e m cm x).2 S hT hA hR hJ (wyV T S r e m x) v0 w1.1) lkX12_comes mlX12_202 dX12_whyBy_108 (by decide) rfl rfl (by decide) rfl (Nat.le_of_ble_eq_true rfl) ⟨Nat.le_refl _, Nat.le_refl _⟩ ?_
        intro v w1 hq
        obtain ⟨rfl, rfl⟩ := hq
        refine cv_iinc dX12_whyBy_111 (by decide) rfl rfl rfl ?_
        refine cv_goto (tgt := 12) dX12_whyBy_114 (by decide) ?_
        refine cv_loc [0, 1, 2, 3, 4, 5, 6, 7] rfl ?_
        have e0 : wyR T S st r e m cm (x + 1) = ((wyR T S st r e m cm x).1 + 1, cmS S (wyR T S st r e m cm x).2 (wyV T S r e m x)) := by
          show ((wyR T S st r e m cm x).1 + (if wyV T S r e m x = -9 then 0 else 1), cmS S (wyR T S st r e m cm x).2 (if cm = 0 then -9 else wyV T S r e m x)) = _
          rw [if_neg h83, if_neg h98]
        rw [e0] at hih
        exact hih
  have loop : ∀ (k : Nat) (x : Nat), (tN T < x + k) → (x ≤ tN T) → CV MX12_whyBy (1, 0, 0) 19 (0, 0) 12 [(0, vR 0), (1, vR 5), (2, vI r), (3, vI e), (4, vI m), (5, vI cm), (6, vI (wyR T S st r e m cm x).1), (7, vI (x : Nat))] [] (wM u v T o A tm tr p (wyR T S st r e m cm x).2) (fun v1 w => v1 = some (vI (wyR T S st r e m cm (tN T)).1) ∧ w = wM u v T o A tm tr p (wyR T S st r e m cm (tN T)).2) := by
    intro k
    induction k with
    | zero => intro x hk hi; exact absurd hk (by omega)
    | succ k ih =>
      intro x hk hi
      refine cv_iload dX12_whyBy_12 rfl ?_
      refine cv_aload_n dX12_whyBy_14 rfl ?_
      refine cv_getf flX12_65 dX12_whyBy_15 rfl rfl ?_
      refine cv_icmp_ge (tgt := 117) dX12_whyBy_18 (by decide) (by omega) (fun h18 => ?_) (fun h18 => ?_)
      · refine cv_iload dX12_whyBy_117 rfl ?_
        refine cv_iret rfl dX12_whyBy_119 ⟨Nat.le_refl _, Nat.le_refl _⟩ ⟨ct_rI (by rw [show x = tN T by omega]), by rw [show x = tN T by omega]⟩
      · refine cv_aload_n dX12_whyBy_21 rfl ?_
        refine cv_iload_n dX12_whyBy_22 rfl ?_
        refine cv_iload dX12_whyBy_23 rfl ?_
        refine cv_sameV (c_X12_weightOf u v T o A tm tr p (wyR T S st r e m cm x).2 hT hA r x hr (by omega)) lkX12_weightOf mlX12_134 dX12_whyBy_25 (by decide) rfl rfl (by decide) rfl (Nat.le_of_ble_eq_true rfl) ⟨Nat.le_refl _, Nat.le_refl _⟩ ?_
        intro v w1 hq
        obtain ⟨rfl, rfl⟩ := hq
        have w0 := hT.2.2.2.2.2.1 r x (by omega) (by omega)
        refine cv_istore dX12_whyBy_28 (by decide) rfl rfl ?_
        refine cv_iload dX12_whyBy_30 rfl ?_
        refine cv_if_eq (tgt := 52) dX12_whyBy_32 (by decide) (by omega) (fun h32 => ?_) (fun h32 => ?_)
        · refine cv_bipush dX12_whyBy_52 (by decide) ?_
          refine cv_topi (wyV T S r e m x) (by unfold wyV; rw [if_pos (by omega)]) ?_
          refine cv_goto (tgt := 75) dX12_whyBy_54 (by decide) ?_
          exact l75 x _ (by omega) (ih (x + 1) (by omega) (by omega))
        · refine cv_iload dX12_whyBy_35 rfl ?_
          refine cv_bipush dX12_whyBy_37 (by decide) ?_
          refine cv_icmp_eq (tgt := 57) dX12_whyBy_39 (by decide) (by omega) (fun h39 => ?_) (fun h39 => ?_)
          · refine cv_aload_n dX12_whyBy_57 rfl ?_
            refine cv_aload_n dX12_whyBy_58 rfl ?_
            refine cv_iload dX12_whyBy_59 rfl ?_
            refine cv_iload dX12_whyBy_61 rfl ?_
            refine cv_if_le (tgt := 70) dX12_whyBy_63 (by decide) (by omega) (fun h63 => ?_) (fun h63 => ?_)
            · refine cv_iconst dX12_whyBy_70 ?_
              refine cv_iload_n dX12_whyBy_71 rfl ?_
              refine cv_sameV (c_X12_lastOf u v T o A tm tr p (wyR T S st r e m cm x).2 S hT hA hR hJ x 1 (by omega) e he) lkX12_lastOf mlX12_198 dX12_whyBy_72 (by decide) rfl rfl (by decide) rfl (Nat.le_of_ble_eq_true rfl) ⟨Nat.le_refl _, Nat.le_refl _⟩ ?_
              intro v w1 hq
              obtain ⟨rfl, rfl⟩ := hq
              refine cv_topi (wyV T S r e m x) (by unfold wyV; rw [if_neg (by omega), if_neg (by omega)]) ?_
              exact l75 x _ (by omega) (ih (x + 1) (by omega) (by omega))
            · refine cv_iconst dX12_whyBy_66 ?_
              refine cv_goto (tgt := 71) dX12_whyBy_67 (by decide) ?_
              refine cv_iload_n dX12_whyBy_71 rfl ?_
              refine cv_sameV (c_X12_lastOf u v T o A tm tr p (wyR T S st r e m cm x).2 S hT hA hR hJ x 0 (by omega) e he) lkX12_lastOf mlX12_198 dX12_whyBy_72 (by decide) rfl rfl (by decide) rfl (Nat.le_of_ble_eq_true rfl) ⟨Nat.le_refl _, Nat.le_refl _⟩ ?_
              intro v w1 hq
              obtain ⟨rfl, rfl⟩ := hq
              refine cv_topi (wyV T S r e m x) (by unfold wyV; rw [if_neg (by omega), if_pos (by omega)]) ?_
              exact l75 x _ (by omega) (ih (x + 1) (by omega) (by omega))
          · refine cv_iload dX12_whyBy_42 rfl ?_
            refine cv_iload dX12_whyBy_44 rfl ?_
            refine cv_bipush dX12_whyBy_46 (by decide) ?_
            refine cv_idiv dX12_whyBy_48 (by omega) ?_
            refine cv_icmp_ne (tgt := 57) dX12_whyBy_49 (by decide) (by omega) (fun h49 => ?_) (fun h49 => ?_)
            · refine cv_aload_n dX12_whyBy_57 rfl ?_
              refine cv_aload_n dX12_whyBy_58 rfl ?_
              refine cv_iload dX12_whyBy_59 rfl ?_
              refine cv_iload dX12_whyBy_61 rfl ?_
              refine cv_if_le (tgt := 70) dX12_whyBy_63 (by decide) (by omega) (fun h63 => ?_) (fun h63 => ?_)
              · refine cv_iconst dX12_whyBy_70 ?_
                refine cv_iload_n dX12_whyBy_71 rfl ?_
                refine cv_sameV (c_X12_lastOf u v T o A tm tr p (wyR T S st r e m cm x).2 S hT hA hR hJ x 1 (by omega) e he) lkX12_lastOf mlX12_198 dX12_whyBy_72 (by decide) rfl rfl (by decide) rfl (Nat.le_of_ble_eq_true rfl) ⟨Nat.le_refl _, Nat.le_refl _⟩ ?_
                intro v w1 hq
                obtain ⟨rfl, rfl⟩ := hq
                refine cv_topi (wyV T S r e m x) (by unfold wyV; rw [if_neg (by omega), if_neg (by omega)]) ?_
                exact l75 x _ (by omega) (ih (x + 1) (by omega) (by omega))
              · refine cv_iconst dX12_whyBy_66 ?_
                refine cv_goto (tgt := 71) dX12_whyBy_67 (by decide) ?_
                refine cv_iload_n dX12_whyBy_71 rfl ?_
                refine cv_sameV (c_X12_lastOf u v T o A tm tr p (wyR T S st r e m cm x).2 S hT hA hR hJ x 0 (by omega) e he) lkX12_lastOf mlX12_198 dX12_whyBy_72 (by decide) rfl rfl (by decide) rfl (Nat.le_of_ble_eq_true rfl) ⟨Nat.le_refl _, Nat.le_refl _⟩ ?_
                intro v w1 hq
                obtain ⟨rfl, rfl⟩ := hq
                refine cv_topi (wyV T S r e m x) (by unfold wyV; rw [if_neg (by omega), if_pos (by omega)]) ?_
                exact l75 x _ (by omega) (ih (x + 1) (by omega) (by omega))
            · refine cv_bipush dX12_whyBy_52 (by decide) ?_
              refine cv_topi (wyV T S r e m x) (by unfold wyV; rw [if_pos (by omega)]) ?_
              refine cv_goto (tgt := 75) dX12_whyBy_54 (by decide) ?_
              exact l75 x _ (by omega) (ih (x + 1) (by omega) (by omega))
  refine cv_iconst dX12_whyBy_0 ?_
  refine cv_istore dX12_whyBy_1 (by decide) rfl rfl ?_
  refine cv_iload_n dX12_whyBy_3 rfl ?_
  refine cv_bipush dX12_whyBy_4 (by decide) ?_
  refine cv_icmp_ge (tgt := 120) dX12_whyBy_6 (by decide) (by omega) (fun h6 => ?_) (fun h6 => ?_)
  · exact absurd h6 (by omega)
  · refine cv_iconst dX12_whyBy_9 ?_
    refine cv_istore dX12_whyBy_10 (by decide) rfl rfl ?_
    exact loop (tN T + 1) 0 (by omega) (by omega)
