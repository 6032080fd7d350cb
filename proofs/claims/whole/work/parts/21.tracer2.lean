theorem fRow_r {T : ctT} {m : Int} (hT : okT T) (h : okM T m) : 0 ≤ fRow m ∧ fRow m < 8 := by
  have := hT.2.1
  obtain ⟨h1, h2, h3⟩ := h
  unfold fRow
  omega
set_option maxRecDepth 100000 in
set_option maxHeartbeats 1000000 in
theorem c_X8_lookUpByCut (T : ctT) (S : ctS) (F G : Nat → Int) (hT : okT T) (hS : okS T S) (c : Nat) (hc : c < sC S) (e : Nat) (he : e ≤ 36) (m : Int) (hm : m = -9 ∨ (0 ≤ m ∧ m ≤ 999)) : CM MX8_lookUpByCut (2, 0, 0) [vR 20, vR 0, vI c, vI e, vI m] (wR T S F G) (fun v w => v = none ∧ w = wR T S F (fWc S G c e m (sCs S c).toNat)) := by
  refine CM.of (by decide) (Nat.le_of_ble_eq_true rfl) ?_
  show CV MX8_lookUpByCut (2, 0, 0) 23 (0, 0) 0 [(0, vR 20), (1, vR 0), (2, vI c), (3, vI e), (4, vI m)] [] (wR T S F G) _
  have hN := hT.2.1
  have hC := hS.2.2.2.2.2.1
  obtain ⟨z1, z2⟩ := hS.2.2.2.2.2.2.1 c hc
  have loop : ∀ (k : Nat) (i : Nat), (8 < i + k) → ((i : Int) ≤ sCs S c) → CV MX8_lookUpByCut (2, 0, 0) 23 (0, 0) 3 [(0, vR 20), (1, vR 0), (2, vI c), (3, vI e), (4, vI m), (5, vI i)] [] (wR T S F (fWc S G c e m i)) (fun v w => v = none ∧ w = wR T S F (fWc S G c e m (sCs S c).toNat)) := by
    intro k
    induction k with
    | zero => intro i hk hi; exact absurd hk (by omega)
    | succ k ih =>
      intro i hk hi
      refine cv_iload dX8_lookUpByCut_3 rfl ?_
      refine cv_aload_n dX8_lookUpByCut_5 rfl ?_
      refine cv_getf flX8_96 dX8_lookUpByCut_6 rfl rfl ?_
      refine cv_getf flX8_119 dX8_lookUpByCut_9 rfl rfl ?_
      refine cv_iload_n dX8_lookUpByCut_12 rfl ?_
      refine cv_ialj (c) dX8_lookUpByCut_13 rfl (by omega) (by omega) ?_
      refine cv_icmp_ge (tgt := 83) dX8_lookUpByCut_14 (by decide) (by omega) (fun h14 => ?_) (fun h14 => ?_)
      · refine cv_ret rfl dX8_lookUpByCut_83 ⟨Nat.le_refl _, Nat.le_refl _⟩ ⟨rfl, by rw [show (sCs S c).toNat = i by omega]⟩
      · have hok := hS.2.2.2.2.2.2.2.1 c i hc (by omega)
        have hrw := fRow_r hT hok
        obtain ⟨m1, m2, m3⟩ := hok
        have hng : -9 ≤ fNeg (sCm S (8 * c + i)) ∧ fNeg (sCm S (8 * c + i)) ≤ 1009 := by unfold fNeg; split <;> omega
        refine cv_aload_n dX8_lookUpByCut_17 rfl ?_
        refine cv_getf flX8_96 dX8_lookUpByCut_18 rfl rfl ?_
        refine cv_iload_n dX8_lookUpByCut_21 rfl ?_
        refine cv_iload dX8_lookUpByCut_22 rfl ?_
        refine cv_preV (c_X2_at T S c i (by omega) (by omega)) lkX2_at mlX8_122 dX8_lookUpByCut_24 (by decide) rfl rfl (by decide) rfl (Nat.le_of_ble_eq_true rfl) ⟨Nat.le_refl _, Nat.le_refl _⟩ (fun v w1 h => (congrArg List.length h.2).trans (wS_ll _ _ _)) ?_
        intro v w1 hq
        obtain ⟨rfl, rfl⟩ := hq
        refine cv_istore dX8_lookUpByCut_27 (by decide) rfl rfl ?_
        refine cv_iload dX8_lookUpByCut_29 rfl ?_
        refine cv_bipush dX8_lookUpByCut_31 (by decide) ?_
        refine cv_icmp_eq (tgt := 46) dX8_lookUpByCut_33 (by decide) (by omega) (fun h33 => ?_) (fun h33 => ?_)
        · refine cv_aload_n dX8_lookUpByCut_46 rfl ?_
          refine cv_getf flX8_15 dX8_lookUpByCut_47 rfl rfl ?_
          refine cv_iload dX8_lookUpByCut_50 rfl ?_
          refine cv_sameSN (c_X11_sideRow (wR T S F (fWc S G c e m i)) (sCm S (8 * c + i)) (by omega)) lkX11_sideRow mnX8_74 dX8_lookUpByCut_52 (by decide) rfl rfl (Nat.le_of_ble_eq_true rfl) ⟨Nat.le_refl _, Nat.le_refl _⟩ ?_
          intro v w1 hq
          obtain ⟨rfl, rfl⟩ := hq
          refine cv_aload_n dX8_lookUpByCut_55 rfl ?_
          refine cv_getf flX8_18 dX8_lookUpByCut_56 rfl rfl ?_
          refine cv_iload_n dX8_lookUpByCut_59 rfl ?_
          refine cv_iload dX8_lookUpByCut_60 rfl ?_
          refine cv_bipush dX8_lookUpByCut_62 (by decide) ?_
          refine cv_idiv dX8_lookUpByCut_64 (by omega) ?_
          refine cv_iload dX8_lookUpByCut_65 rfl ?_
          refine cv_bipush dX8_lookUpByCut_67 (by decide) ?_
          refine cv_idiv dX8_lookUpByCut_69 (by omega) ?_
          refine cv_bipush dX8_lookUpByCut_70 (by decide) ?_
          refine cv_irem dX8_lookUpByCut_72 (by omega) ?_
          refine cv_preV (c_X9_lastAhead T S hT hS e he (sCm S (8 * c + i) / 100) (sCm S (8 * c + i) / 10 % 10) (by omega)) lkX9_lastAhead mlX8_115 dX8_lookUpByCut_73 (by decide) rfl rfl (by decide) rfl (Nat.le_of_ble_eq_true rfl) ⟨Nat.le_refl _, Nat.le_refl _⟩ (fun v w1 h => (congrArg List.length h.2).trans (wS_ll _ _ _)) ?_
          intro v w1 hq
          obtain ⟨rfl, rfl⟩ := hq
          refine cv_iasj ((fRow (sCm S (8 * c + i))).toNat) dX8_lookUpByCut_76 rfl (by omega) (by omega) ?_
          refine cv_iinc dX8_lookUpByCut_77 (by decide) rfl rfl rfl ?_
          refine cv_goto (tgt := 3) dX8_lookUpByCut_80 (by decide) ?_
          refine cv_loc [0, 1, 2, 3, 4, 5] rfl ?_
          have e0 : fWc S G c e m (i + 1) = ct_up (fWc S G c e m i) (fRow (sCm S (8 * c + i))).toNat (ct_o (-1) (fLa S e (sCm S (8 * c + i) / 100) (sCm S (8 * c + i) / 10 % 10))) := if_pos (Or.inl h33)
          have := ih (i + 1) (by omega) (by omega)
          rw [e0] at this
          exact this
        · refine cv_iload dX8_lookUpByCut_36 rfl ?_
          refine cv_sameSN (c_X11_negated (wR T S F (fWc S G c e m i)) (sCm S (8 * c + i)) (by omega)) lkX11_negated mnX8_125 dX8_lookUpByCut_38 (by decide) rfl rfl (Nat.le_of_ble_eq_true rfl) ⟨Nat.le_refl _, Nat.le_refl _⟩ ?_
          intro v w1 hq
          obtain ⟨rfl, rfl⟩ := hq
          refine cv_iload dX8_lookUpByCut_41 rfl ?_
          refine cv_icmp_eq (tgt := 77) dX8_lookUpByCut_43 (by decide) (by omega) (fun h43 => ?_) (fun h43 => ?_)
          · refine cv_iinc dX8_lookUpByCut_77 (by decide) rfl rfl rfl ?_
            refine cv_goto (tgt := 3) dX8_lookUpByCut_80 (by decide) ?_
            refine cv_loc [0, 1, 2, 3, 4, 5] rfl ?_
            have e0 : fWc S G c e m (i + 1) = fWc S G c e m i := if_neg (fun h => h.elim h33 (fun h => h h43))
            have := ih (i + 1) (by omega) (by omega)
            rw [e0] at this
            exact this
          · refine cv_aload_n dX8_lookUpByCut_46 rfl ?_
            refine cv_getf flX8_15 dX8_lookUpByCut_47 rfl rfl ?_
            refine cv_iload dX8_lookUpByCut_50 rfl ?_
            refine cv_sameSN (c_X11_sideRow (wR T S F (fWc S G c e m i)) (sCm S (8 * c + i)) (by omega)) lkX11_sideRow mnX8_74 dX8_lookUpByCut_52 (by decide) rfl rfl (Nat.le_of_ble_eq_true rfl) ⟨Nat.le_refl _, Nat.le_refl _⟩ ?_
            intro v w1 hq
            obtain ⟨rfl, rfl⟩ := hq
            refine cv_aload_n dX8_lookUpByCut_55 rfl ?_
            refine cv_getf flX8_18 dX8_lookUpByCut_56 rfl rfl ?_
            refine cv_iload_n dX8_lookUpByCut_59 rfl ?_
            refine cv_iload dX8_lookUpByCut_60 rfl ?_
            refine cv_bipush dX8_lookUpByCut_62 (by decide) ?_
            refine cv_idiv dX8_lookUpByCut_64 (by omega) ?_
            refine cv_iload dX8_lookUpByCut_65 rfl ?_
            refine cv_bipush dX8_lookUpByCut_67 (by decide) ?_
            refine cv_idiv dX8_lookUpByCut_69 (by omega) ?_
            refine cv_bipush dX8_lookUpByCut_70 (by decide) ?_
            refine cv_irem dX8_lookUpByCut_72 (by omega) ?_
            refine cv_preV (c_X9_lastAhead T S hT hS e he (sCm S (8 * c + i) / 100) (sCm S (8 * c + i) / 10 % 10) (by omega)) lkX9_lastAhead mlX8_115 dX8_lookUpByCut_73 (by decide) rfl rfl (by decide) rfl (Nat.le_of_ble_eq_true rfl) ⟨Nat.le_refl _, Nat.le_refl _⟩ (fun v w1 h => (congrArg List.length h.2).trans (wS_ll _ _ _)) ?_
            intro v w1 hq
            obtain ⟨rfl, rfl⟩ := hq
            refine cv_iasj ((fRow (sCm S (8 * c + i))).toNat) dX8_lookUpByCut_76 rfl (by omega) (by omega) ?_
            refine cv_iinc dX8_lookUpByCut_77 (by decide) rfl rfl rfl ?_
            refine cv_goto (tgt := 3) dX8_lookUpByCut_80 (by decide) ?_
            refine cv_loc [0, 1, 2, 3, 4, 5] rfl ?_
            have e0 : fWc S G c e m (i + 1) = ct_up (fWc S G c e m i) (fRow (sCm S (8 * c + i))).toNat (ct_o (-1) (fLa S e (sCm S (8 * c + i) / 100) (sCm S (8 * c + i) / 10 % 10))) := if_pos (Or.inr h43)
            have := ih (i + 1) (by omega) (by omega)
            rw [e0] at this
            exact this
  refine cv_iconst dX8_lookUpByCut_0 ?_
  refine cv_istore dX8_lookUpByCut_1 (by decide) rfl rfl ?_
  exact loop 9 0 (by omega) (by omega)
/-- the first i rows emptied -/
def fI (G : Nat → Int) : Nat → (Nat → Int)
  | 0 => G
  | i + 1 => ct_up (fI G i) i (-1)
theorem fI_at (G : Nat → Int) : ∀ (i j : Nat), fI G i j = if j < i then -1 else G j
  | 0, j => by rw [if_neg (by omega)]; rfl
  | i + 1, j => by
    show ct_up (fI G i) i (-1) j = _
    by_cases h : j = i
    · subst h; rw [ct_up_s, if_pos (by omega)]
    · rw [ct_up_n h, fI_at G i j]
      by_cases h2 : j < i
      · rw [if_pos h2, if_pos (by omega)]
      · rw [if_neg h2, if_neg (by omega)]
/-- the why of what a reason told, ahead of place e -/
noncomputable def fWhy (T : ctT) (S : ctS) (G : Nat → Int) (q : Int) (e : Nat) (m : Int) : Nat → Int :=
  if 0 ≤ q ∧ q < (tR T : Int) then fWr T S (fI G 8) q.toNat e (fOwn m) (tN T) else if 0 ≤ q - 10 ∧ q - 10 < (sC S : Int) then fWc S (fI G 8) (q - 10).toNat e m (sCs S (q - 10).toNat).toNat else fI G 8
set_option maxRecDepth 100000 in
set_option maxHeartbeats 1000000 in
theorem c_X8_lookUpWhy (T : ctT) (S : ctS) (F G : Nat → Int) (hT : okT T) (hS : okS T S) (q : Int) (hq : -9 ≤ q ∧ q ≤ 1000) (e : Nat) (he : e ≤ 36) (m : Int) (hm : m = -9 ∨ (0 ≤ m ∧ m ≤ 999)) : CM MX8_lookUpWhy (3, 0, 0) [vR 20, vR 0, vI q, vI e, vI m] (wR T S F G) (fun v w => v = none ∧ w = wR T S F (fWhy T S G q e m)) := by
  refine CM.of (by decide) (Nat.le_of_ble_eq_true rfl) ?_
  show CV MX8_lookUpWhy (3, 0, 0) 23 (0, 0) 0 [(0, vR 20), (1, vR 0), (2, vI q), (3, vI e), (4, vI m)] [] (wR T S F G) _
  have hR := hT.2.2.1
  have r1 := ct_i_r (0 ≤ q ∧ q < (tR T : Int))
  have r2 := ct_i_r (0 ≤ q - 10 ∧ q - 10 < (sC S : Int))
  have fin : ∀ (i : Int), CV MX8_lookUpWhy (3, 0, 0) 23 (0, 0) 24 [(0, vR 20), (1, vR 0), (2, vI q), (3, vI e), (4, vI m), (5, vI i)] [] (wR T S F (fI G 8)) (fun v w => v = none ∧ w = wR T S F (fWhy T S G q e m)) := by
    intro i 
    refine cv_aload_n dX8_lookUpWhy_24 rfl ?_
    refine cv_getf flX8_83 dX8_lookUpWhy_25 rfl rfl ?_
    refine cv_iload_n dX8_lookUpWhy_28 rfl ?_
    refine cv_preV (c_X6_hasRule T S hT q (by omega)) lkX6_hasRule mlX8_87 dX8_lookUpWhy_29 (by decide) rfl rfl (by decide) rfl (Nat.le_of_ble_eq_true rfl) ⟨Nat.le_refl _, Nat.le_refl _⟩ (fun v w1 h => (congrArg List.length h.2).trans (wS_ll _ _ _)) ?_
    intro v w1 hq
    obtain ⟨rfl, rfl⟩ := hq
    refine cv_if_eq (tgt := 47) dX8_lookUpWhy_32 (by decide) (by omega) (fun h32 => ?_) (fun h32 => ?_)
    · refine cv_aload_n dX8_lookUpWhy_47 rfl ?_
      refine cv_getf flX8_96 dX8_lookUpWhy_48 rfl rfl ?_
      refine cv_iload_n dX8_lookUpWhy_51 rfl ?_
      refine cv_bipush dX8_lookUpWhy_52 (by decide) ?_
      refine cv_isub dX8_lookUpWhy_54 ?_
      refine cv_preV (c_X2_has T S hS (q - 10) (by omega)) lkX2_has mlX8_100 dX8_lookUpWhy_55 (by decide) rfl rfl (by decide) rfl (Nat.le_of_ble_eq_true rfl) ⟨Nat.le_refl _, Nat.le_refl _⟩ (fun v w1 h => (congrArg List.length h.2).trans (wS_ll _ _ _)) ?_
      intro v w1 hq
      obtain ⟨rfl, rfl⟩ := hq
      refine cv_if_eq (tgt := 73) dX8_lookUpWhy_58 (by decide) (by omega) (fun h58 => ?_) (fun h58 => ?_)
      · refine cv_ret rfl dX8_lookUpWhy_73 ⟨Nat.le_refl _, Nat.le_refl _⟩ ⟨rfl, by unfold fWhy; rw [if_neg (ct_i_0.mp h32), if_neg (ct_i_0.mp h58)]⟩
      · have hy := ct_i_1.mp (show ct_i (0 ≤ q - 10 ∧ q - 10 < (sC S : Int)) = 1 by omega)
        have eq : vI (q - 10) = vI (((q - 10).toNat : Nat) : Int) := by rw [show (((q - 10).toNat : Nat) : Int) = q - 10 by omega]
        refine cv_aload_n dX8_lookUpWhy_61 rfl ?_
        refine cv_aload_n dX8_lookUpWhy_62 rfl ?_
        refine cv_iload_n dX8_lookUpWhy_63 rfl ?_
        refine cv_bipush dX8_lookUpWhy_64 (by decide) ?_
        refine cv_isub dX8_lookUpWhy_66 ?_
        refine cv_iload_n dX8_lookUpWhy_67 rfl ?_
        refine cv_iload dX8_lookUpWhy_68 rfl ?_
        rw [eq]
        refine cv_sameV (c_X8_lookUpByCut T S F (fI G 8) hT hS (q - 10).toNat (by omega) e he m hm) lkX8_lookUpByCut mlX8_105 dX8_lookUpWhy_70 (by decide) rfl rfl (by decide) rfl (Nat.le_of_ble_eq_true rfl) ⟨Nat.le_refl _, Nat.le_refl _⟩ ?_
        intro v w1 hq
        obtain ⟨rfl, rfl⟩ := hq
        refine cv_ret rfl dX8_lookUpWhy_73 ⟨Nat.le_refl _, Nat.le_refl _⟩ ⟨rfl, by unfold fWhy; rw [if_neg (ct_i_0.mp h32), if_pos hy]⟩
    · have hy := ct_i_1.mp (show ct_i (0 ≤ q ∧ q < (tR T : Int)) = 1 by omega)
      have eq : vI q = vI ((q.toNat : Nat) : Int) := by rw [show ((q.toNat : Nat) : Int) = q by omega]
      refine cv_aload_n dX8_lookUpWhy_35 rfl ?_
      refine cv_aload_n dX8_lookUpWhy_36 rfl ?_
      refine cv_iload_n dX8_lookUpWhy_37 rfl ?_
      refine cv_iload_n dX8_lookUpWhy_38 rfl ?_
      refine cv_iload dX8_lookUpWhy_39 rfl ?_
      rw [eq]
      refine cv_sameV (c_X8_lookUpByRule T S F (fI G 8) hT hS q.toNat (by omega) e he m hm) lkX8_lookUpByRule mlX8_93 dX8_lookUpWhy_41 (by decide) rfl rfl (by decide) rfl (Nat.le_of_ble_eq_true rfl) ⟨Nat.le_refl _, Nat.le_refl _⟩ ?_
      intro v w1 hq
      obtain ⟨rfl, rfl⟩ := hq
      refine cv_goto (tgt := 73) dX8_lookUpWhy_44 (by decide) ?_
      refine cv_ret rfl dX8_lookUpWhy_73 ⟨Nat.le_refl _, Nat.le_refl _⟩ ⟨rfl, by unfold fWhy; rw [if_pos hy]⟩
  have loop : ∀ (k : Nat) (i : Nat), (8 < i + k) → (i ≤ 8) → CV MX8_lookUpWhy (3, 0, 0) 23 (0, 0) 3 [(0, vR 20), (1, vR 0), (2, vI q), (3, vI e), (4, vI m), (5, vI i)] [] (wR T S F (fI G i)) (fun v w => v = none ∧ w = wR T S F (fWhy T S G q e m)) := by
    intro k
    induction k with
    | zero => intro i hk hi; exact absurd hk (by omega)
    | succ k ih =>
      intro i hk hi
      refine cv_iload dX8_lookUpWhy_3 rfl ?_
      refine cv_bipush dX8_lookUpWhy_5 (by decide) ?_
      refine cv_icmp_ge (tgt := 24) dX8_lookUpWhy_7 (by decide) (by omega) (fun h7 => ?_) (fun h7 => ?_)
      · have e8 : i = 8 := by omega
        subst e8
        exact fin _
      · refine cv_aload_n dX8_lookUpWhy_10 rfl ?_
        refine cv_getf flX8_15 dX8_lookUpWhy_11 rfl rfl ?_
        refine cv_iload dX8_lookUpWhy_14 rfl ?_
        refine cv_iconst dX8_lookUpWhy_16 ?_
        refine cv_iasj (i) dX8_lookUpWhy_17 rfl (by omega) (by omega) ?_
        refine cv_iinc dX8_lookUpWhy_18 (by decide) rfl rfl rfl ?_
        refine cv_goto (tgt := 3) dX8_lookUpWhy_21 (by decide) ?_
        exact ih (i + 1) (by omega) (by omega)
  refine cv_iconst dX8_lookUpWhy_0 ?_
  refine cv_istore dX8_lookUpWhy_1 (by decide) rfl rfl ?_
  exact loop 9 0 (by omega) (by omega)
/-- how many rows are not empty -/
def fCnt (G : Nat → Int) : Nat → Nat
  | 0 => 0
  | i + 1 => if G i = -1 then fCnt G i else fCnt G i + 1
theorem fCnt_le (G : Nat → Int) : ∀ i, fCnt G i ≤ i
  | 0 => Nat.le_refl _
  | i + 1 => by
    have := fCnt_le G i
    unfold fCnt
    split <;> omega
/-- each row is empty or a place ahead -/
theorem fLa_r {S : ctS} {e : Nat} {x s : Int} : -1 ≤ ct_o (-1) (fLa S e x s) ∧ ct_o (-1) (fLa S e x s) < (min e (sZ S) : Nat) := by
  cases h : fLa S e x s with
  | none => simp only [ct_o]; omega
  | some i =>
    have := (ct_last_inv (show ct_last _ _ = _ from h)).1
    simp only [ct_o]
    omega
theorem pl8_up {n : Nat} {G : Nat → Int} {k : Nat} {v : Int} (h : pl8 n G) (hv : -1 ≤ v ∧ v < (n : Int)) : pl8 n (ct_up G k v) := by
  intro r hr
  by_cases e : r = k
  · subst e; rw [ct_up_s]; exact hv
  · rw [ct_up_n e]; exact h r hr
theorem fWr_pl {T : ctT} {S : ctS} {r e n : Nat} {o : Int} {G : Nat → Int} (hG : pl8 n G) (hn : min e (sZ S) ≤ n) : ∀ x, pl8 n (fWr T S G r e o x)
  | 0 => hG
  | x + 1 => by
    have h := fLa_r (S := S) (e := e) (x := x) (s := if 0 < tW T r x then 0 else 1)
    unfold fWr
    split
    · exact pl8_up (fWr_pl hG hn x) (by omega)
    · exact fWr_pl hG hn x
theorem fWc_pl {S : ctS} {c e n : Nat} {m : Int} {G : Nat → Int} (hG : pl8 n G) (hn : min e (sZ S) ≤ n) : ∀ k, pl8 n (fWc S G c e m k)
  | 0 => hG
  | k + 1 => by
    have h := fLa_r (S := S) (e := e) (x := sCm S (8 * c + k) / 100) (s := sCm S (8 * c + k) / 10 % 10)
    unfold fWc
    split
    · exact pl8_up (fWc_pl hG hn k) (by omega)
    · exact fWc_pl hG hn k
theorem fI_pl (G : Nat → Int) (n : Nat) : pl8 n (fI G 8) := by
  intro r hr
  rw [fI_at, if_pos hr]
  omega
theorem fWhy_pl {T : ctT} {S : ctS} {e n : Nat} {q m : Int} (G : Nat → Int) (hn : min e (sZ S) ≤ n) : pl8 n (fWhy T S G q e m) := by
  unfold fWhy
  split
  · exact fWr_pl (fI_pl G n) hn _
  · split
    · exact fWc_pl (fI_pl G n) hn _
    · exact fI_pl G n
set_option maxRecDepth 100000 in
set_option maxHeartbeats 1000000 in
theorem c_X8_countWhy (T : ctT) (S : ctS) (F G : Nat → Int) (hT : okT T) (hS : okS T S) (i : Nat) (hi : i < sZ S) : CM MX8_countWhy (4, 0, 0) [vR 20, vR 0, vI i] (wR T S F G) (fun v w => v = some (vI (fCnt (fWhy T S G (sR S i) i (sM S i)) 8)) ∧ w = wR T S F (fWhy T S G (sR S i) i (sM S i))) := by
  refine CM.of (by decide) (Nat.le_of_ble_eq_true rfl) ?_
  show CV MX8_countWhy (4, 0, 0) 23 (0, 0) 0 [(0, vR 20), (1, vR 0), (2, vI i)] [] (wR T S F G) _
  have hZ := hS.1
  have hN := hT.2.1
  obtain ⟨q1, q2⟩ := hS.2.2.2.1 i hi
  obtain ⟨m1, m2, m3⟩ := hS.2.1 i hi
  have hp := fWhy_pl (T := T) (S := S) (e := i) (n := 36) (q := sR S i) (m := sM S i) G (by omega)
  have loop : ∀ (k : Nat) (j : Nat) (GG : Nat → Int), (8 < j + k) → (j ≤ 8) → (pl8 36 GG) → CV MX8_countWhy (4, 0, 0) 23 (0, 0) 29 [(0, vR 20), (1, vR 0), (2, vI i), (3, vI (fCnt GG j)), (4, vI j)] [] (wR T S F GG) (fun v w => v = some (vI (fCnt GG 8)) ∧ w = wR T S F GG) := by
    intro k
    induction k with
    | zero => intro j GG hk hj hg; exact absurd hk (by omega)
    | succ k ih =>
      intro j GG hk hj hg
      have hle := fCnt_le GG j
      refine cv_iload dX8_countWhy_29 rfl ?_
      refine cv_bipush dX8_countWhy_31 (by decide) ?_
      refine cv_icmp_ge (tgt := 56) dX8_countWhy_33 (by decide) (by omega) (fun h33 => ?_) (fun h33 => ?_)
      · refine cv_iload_n dX8_countWhy_56 rfl ?_
        refine cv_iret rfl dX8_countWhy_57 ⟨Nat.le_refl _, Nat.le_refl _⟩ ⟨ct_rI (by rw [show j = 8 by omega]), rfl⟩
      · have h0 := hg j (by omega)
        refine cv_aload_n dX8_countWhy_36 rfl ?_
        refine cv_getf flX8_15 dX8_countWhy_37 rfl rfl ?_
        refine cv_iload dX8_countWhy_40 rfl ?_
        refine cv_ialj (j) dX8_countWhy_42 rfl (by omega) (by omega) ?_
        refine cv_iconst dX8_countWhy_43 ?_
        refine cv_icmp_eq (tgt := 50) dX8_countWhy_44 (by decide) (by omega) (fun h44 => ?_) (fun h44 => ?_)
        · refine cv_iinc dX8_countWhy_50 (by decide) rfl rfl rfl ?_
          refine cv_goto (tgt := 29) dX8_countWhy_53 (by decide) ?_
          have e0 : fCnt GG (j + 1) = fCnt GG j := if_pos h44
          have := ih (j + 1) GG (by omega) (by omega) hg
          rw [e0] at this
          exact this
        · refine cv_iinc dX8_countWhy_47 (by decide) rfl rfl rfl ?_
          refine cv_iinc dX8_countWhy_50 (by decide) rfl rfl rfl ?_
          refine cv_goto (tgt := 29) dX8_countWhy_53 (by decide) ?_
          have e0 : fCnt GG (j + 1) = fCnt GG j + 1 := if_neg h44
          have := ih (j + 1) GG (by omega) (by omega) hg
          rw [e0] at this
          exact this
  refine cv_aload_n dX8_countWhy_0 rfl ?_
  refine cv_aload_n dX8_countWhy_1 rfl ?_
  refine cv_aload_n dX8_countWhy_2 rfl ?_
  refine cv_getf flX8_18 dX8_countWhy_3 rfl rfl ?_
  refine cv_getf flX8_24 dX8_countWhy_6 rfl rfl ?_
  refine cv_iload_n dX8_countWhy_9 rfl ?_
  refine cv_ialj (i) dX8_countWhy_10 rfl (by omega) (by omega) ?_
  refine cv_iload_n dX8_countWhy_11 rfl ?_
  refine cv_aload_n dX8_countWhy_12 rfl ?_
  refine cv_getf flX8_18 dX8_countWhy_13 rfl rfl ?_
  refine cv_getf flX8_29 dX8_countWhy_16 rfl rfl ?_
  refine cv_iload_n dX8_countWhy_19 rfl ?_
  refine cv_ialj (i) dX8_countWhy_20 rfl (by omega) (by omega) ?_
  refine cv_sameV (c_X8_lookUpWhy T S F G hT hS (sR S i) (by omega) i (by omega) (sM S i) (Or.inr (by omega))) lkX8_lookUpWhy mlX8_32 dX8_countWhy_21 (by decide) rfl rfl (by decide) rfl (Nat.le_of_ble_eq_true rfl) ⟨Nat.le_refl _, Nat.le_refl _⟩ ?_
  intro v w1 hq
  obtain ⟨rfl, rfl⟩ := hq
  refine cv_iconst dX8_countWhy_24 ?_
  refine cv_istore_n dX8_countWhy_25 (by decide) rfl rfl ?_
  refine cv_iconst dX8_countWhy_26 ?_
  refine cv_istore dX8_countWhy_27 (by decide) rfl rfl ?_
  exact loop 9 0 _ (by omega) (by omega) hp
