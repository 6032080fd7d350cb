set_option maxRecDepth 100000 in
set_option maxHeartbeats 1000000 in
theorem c_X10_countInBox (T : ctT) (S : ctS) (f t : Nat → Int) (hT : okT T) (hB : okB f t) : CM MX10_countInBox (2, 0, 0) [vR 20] (wW T S f t) (fun v w => v = some (vI (fBox T f t)) ∧ w = wW T S f t) := by
  refine CM.of (by decide) (Nat.le_of_ble_eq_true rfl) ?_
  show CV MX10_countInBox (2, 0, 0) 23 (0, 0) 0 [(0, vR 20)] [] (wW T S f t) _
  obtain ⟨A1, A2, A3, A4⟩ := hB 0 (by omega)
  obtain ⟨B1, B2, B3, B4⟩ := hB 1 (by omega)
  obtain ⟨C1, C2, C3, C4⟩ := hB 2 (by omega)
  have k0 : (fK f t 0 : Int) = max 0 (t 0 - f 0 + 1) := by unfold fK; omega
  have k1 : (fK f t 1 : Int) = max 0 (t 1 - f 1 + 1) := by unfold fK; omega
  have k2 : (fK f t 2 : Int) = max 0 (t 2 - f 2 + 1) := by unfold fK; omega
  have inner : ∀ (k : Nat) (i : Nat) (s a b : Int), (fK f t 2 < i + k) → (i ≤ fK f t 2) → (0 ≤ a ∧ a ≤ 9 ∧ 0 ≤ b ∧ b ≤ 9) → (∀ z : Int, CV MX10_countInBox (2, 0, 0) 23 (0, 0) 72 [(0, vR 20), (1, vI (s + fC2 T f t a b)), (2, vI a), (3, vI b), (4, vI z)] [] (wW T S f t) (fun v w => v = some (vI (fBox T f t)) ∧ w = wW T S f t)) → CV MX10_countInBox (2, 0, 0) 23 (0, 0) 44 [(0, vR 20), (1, vI (s + sN (fun c => fC3 T f t a b c) (f 2) i)), (2, vI a), (3, vI b), (4, vI (f 2 + i))] [] (wW T S f t) (fun v w => v = some (vI (fBox T f t)) ∧ w = wW T S f t) := by
    intro k
    induction k with
    | zero => intro i s a b hk hi hv hx; exact absurd hk (by omega)
    | succ k ih =>
      intro i s a b hk hi hv hx
      refine cv_iload dX10_countInBox_44 rfl ?_
      refine cv_aload_n dX10_countInBox_46 rfl ?_
      refine cv_getf flX10_15 dX10_countInBox_47 rfl rfl ?_
      refine cv_iconst dX10_countInBox_50 ?_
      refine cv_ialj (2) dX10_countInBox_51 rfl (by omega) (by omega) ?_
      refine cv_icmp_gt (tgt := 72) dX10_countInBox_52 (by decide) (by omega) (fun h52 => ?_) (fun h52 => ?_)
      · have e1 : i = fK f t 2 := by omega
        subst e1
        exact hx _
      · refine cv_iload_n dX10_countInBox_55 rfl ?_
        refine cv_aload_n dX10_countInBox_56 rfl ?_
        refine cv_iload_n dX10_countInBox_57 rfl ?_
        refine cv_iload_n dX10_countInBox_58 rfl ?_
        refine cv_iload dX10_countInBox_59 rfl ?_
        refine cv_sameV (c_X10_countOfLast T S f t hT hB a b (f 2 + i) (by omega)) lkX10_countOfLast mlX10_80 dX10_countInBox_61 (by decide) rfl rfl (by decide) rfl (Nat.le_of_ble_eq_true rfl) ⟨Nat.le_refl _, Nat.le_refl _⟩ ?_
        intro v w1 hq
        obtain ⟨rfl, rfl⟩ := hq
        refine cv_iadd dX10_countInBox_64 ?_
        refine cv_istore_n dX10_countInBox_65 (by decide) rfl rfl ?_
        refine cv_iinc dX10_countInBox_66 (by decide) rfl rfl rfl ?_
        refine cv_goto (tgt := 44) dX10_countInBox_69 (by decide) ?_
        have e0 : sN (fun c => fC3 T f t a b c) (f 2) (i + 1) = sN (fun c => fC3 T f t a b c) (f 2) i + fC3 T f t a b (f 2 + i) := rfl
        have := ih (i + 1) s a b (by omega) (by omega) hv hx
        rw [e0, ← Int.add_assoc, show f 2 + ((i + 1 : Nat) : Int) = f 2 + (i : Int) + 1 by omega] at this
        exact this
  have mid : ∀ (k : Nat) (i : Nat) (s a : Int), (fK f t 1 < i + k) → (i ≤ fK f t 1) → (0 ≤ a ∧ a ≤ 9) → (∀ z : Int, CV MX10_countInBox (2, 0, 0) 23 (0, 0) 78 [(0, vR 20), (1, vI (s + fC1 T f t a)), (2, vI a), (3, vI z)] [] (wW T S f t) (fun v w => v = some (vI (fBox T f t)) ∧ w = wW T S f t)) → CV MX10_countInBox (2, 0, 0) 23 (0, 0) 26 [(0, vR 20), (1, vI (s + sN (fun b => fC2 T f t a b) (f 1) i)), (2, vI a), (3, vI (f 1 + i))] [] (wW T S f t) (fun v w => v = some (vI (fBox T f t)) ∧ w = wW T S f t) := by
    intro k
    induction k with
    | zero => intro i s a hk hi hv hx; exact absurd hk (by omega)
    | succ k ih =>
      intro i s a hk hi hv hx
      refine cv_iload_n dX10_countInBox_26 rfl ?_
      refine cv_aload_n dX10_countInBox_27 rfl ?_
      refine cv_getf flX10_15 dX10_countInBox_28 rfl rfl ?_
      refine cv_iconst dX10_countInBox_31 ?_
      refine cv_ialj (1) dX10_countInBox_32 rfl (by omega) (by omega) ?_
      refine cv_icmp_gt (tgt := 78) dX10_countInBox_33 (by decide) (by omega) (fun h33 => ?_) (fun h33 => ?_)
      · have e1 : i = fK f t 1 := by omega
        subst e1
        exact hx _
      · refine cv_aload_n dX10_countInBox_36 rfl ?_
        refine cv_getf flX10_9 dX10_countInBox_37 rfl rfl ?_
        refine cv_iconst dX10_countInBox_40 ?_
        refine cv_ialj (2) dX10_countInBox_41 rfl (by omega) (by omega) ?_
        refine cv_istore dX10_countInBox_42 (by decide) rfl rfl ?_
        have e2 : s + sN (fun b => fC2 T f t a b) (f 1) i = s + sN (fun b => fC2 T f t a b) (f 1) i + sN (fun c => fC3 T f t a (f 1 + i) c) (f 2) 0 := by show _ = _ + 0; omega
        have h0 := inner (fK f t 2 + 1) 0 (s + sN (fun b => fC2 T f t a b) (f 1) i) a (f 1 + i) (by omega) (by omega) (by omega) (fun z => ?_)
        · rw [← e2, show f 2 + ((0 : Nat) : Int) = f 2 by omega] at h0
          exact h0
        · refine cv_iinc dX10_countInBox_72 (by decide) rfl rfl rfl ?_
          refine cv_goto (tgt := 26) dX10_countInBox_75 (by decide) ?_
          refine cv_loc [0, 1, 2, 3] rfl ?_
          have e0 : sN (fun b => fC2 T f t a b) (f 1) (i + 1) = sN (fun b => fC2 T f t a b) (f 1) i + fC2 T f t a (f 1 + i) := rfl
          have := ih (i + 1) s a (by omega) (by omega) hv hx
          rw [e0, ← Int.add_assoc, show f 1 + ((i + 1 : Nat) : Int) = f 1 + (i : Int) + 1 by omega] at this
          exact this
  have outer : ∀ (k : Nat) (i : Nat), (fK f t 0 < i + k) → (i ≤ fK f t 0) → CV MX10_countInBox (2, 0, 0) 23 (0, 0) 9 [(0, vR 20), (1, vI (sN (fun a => fC1 T f t a) (f 0) i)), (2, vI (f 0 + i))] [] (wW T S f t) (fun v w => v = some (vI (fBox T f t)) ∧ w = wW T S f t) := by
    intro k
    induction k with
    | zero => intro i hk hi; exact absurd hk (by omega)
    | succ k ih =>
      intro i hk hi
      refine cv_iload_n dX10_countInBox_9 rfl ?_
      refine cv_aload_n dX10_countInBox_10 rfl ?_
      refine cv_getf flX10_15 dX10_countInBox_11 rfl rfl ?_
      refine cv_iconst dX10_countInBox_14 ?_
      refine cv_ialj (0) dX10_countInBox_15 rfl (by omega) (by omega) ?_
      refine cv_icmp_gt (tgt := 84) dX10_countInBox_16 (by decide) (by omega) (fun h16 => ?_) (fun h16 => ?_)
      · refine cv_iload_n dX10_countInBox_84 rfl ?_
        refine cv_iret rfl dX10_countInBox_85 ⟨Nat.le_refl _, Nat.le_refl _⟩ ⟨ct_rI (by rw [show i = fK f t 0 by omega]; rfl), rfl⟩
      · refine cv_aload_n dX10_countInBox_19 rfl ?_
        refine cv_getf flX10_9 dX10_countInBox_20 rfl rfl ?_
        refine cv_iconst dX10_countInBox_23 ?_
        refine cv_ialj (1) dX10_countInBox_24 rfl (by omega) (by omega) ?_
        refine cv_istore_n dX10_countInBox_25 (by decide) rfl rfl ?_
        have e2 : sN (fun a => fC1 T f t a) (f 0) i = sN (fun a => fC1 T f t a) (f 0) i + sN (fun b => fC2 T f t (f 0 + i) b) (f 1) 0 := by show _ = _ + 0; omega
        have h0 := mid (fK f t 1 + 1) 0 (sN (fun a => fC1 T f t a) (f 0) i) (f 0 + i) (by omega) (by omega) (by omega) (fun z => ?_)
        · rw [← e2, show f 1 + ((0 : Nat) : Int) = f 1 by omega] at h0
          exact h0
        · refine cv_iinc dX10_countInBox_78 (by decide) rfl rfl rfl ?_
          refine cv_goto (tgt := 9) dX10_countInBox_81 (by decide) ?_
          refine cv_loc [0, 1, 2] rfl ?_
          have e0 : sN (fun a => fC1 T f t a) (f 0) (i + 1) = sN (fun a => fC1 T f t a) (f 0) i + fC1 T f t (f 0 + i) := rfl
          have := ih (i + 1) (by omega) (by omega)
          rw [e0, show f 0 + ((i + 1 : Nat) : Int) = f 0 + (i : Int) + 1 by omega] at this
          exact this
  refine cv_iconst dX10_countInBox_0 ?_
  refine cv_istore_n dX10_countInBox_1 (by decide) rfl rfl ?_
  refine cv_aload_n dX10_countInBox_2 rfl ?_
  refine cv_getf flX10_9 dX10_countInBox_3 rfl rfl ?_
  refine cv_iconst dX10_countInBox_6 ?_
  refine cv_ialj (0) dX10_countInBox_7 rfl (by omega) (by omega) ?_
  refine cv_istore_n dX10_countInBox_8 (by decide) rfl rfl ?_
  have h0 := outer (fK f t 0 + 1) 0 (by omega) (by omega)
  rw [show f 0 + ((0 : Nat) : Int) = f 0 by omega] at h0
  exact h0
/-- the box of all values -/
def fO0 (f : Nat → Int) : Nat → (Nat → Int)
  | 0 => f
  | i + 1 => ct_up (fO0 f i) i 0
def fO1 (g t : Nat → Int) : Nat → (Nat → Int)
  | 0 => t
  | i + 1 => ct_up (fO1 g t i) i (g i)
theorem fO0_at (f : Nat → Int) : ∀ (i j : Nat), fO0 f i j = if j < i then 0 else f j
  | 0, j => by rw [if_neg (by omega)]; rfl
  | i + 1, j => by
    show ct_up (fO0 f i) i 0 j = _
    by_cases h : j = i
    · subst h; rw [ct_up_s, if_pos (by omega)]
    · rw [ct_up_n h, fO0_at f i j]
      by_cases h2 : j < i
      · rw [if_pos h2, if_pos (by omega)]
      · rw [if_neg h2, if_neg (by omega)]
theorem fO1_at (g t : Nat → Int) : ∀ (i j : Nat), fO1 g t i j = if j < i then g j else t j
  | 0, j => by rw [if_neg (by omega)]; rfl
  | i + 1, j => by
    show ct_up (fO1 g t i) i (g i) j = _
    by_cases h : j = i
    · subst h; rw [ct_up_s, if_pos (by omega)]
    · rw [ct_up_n h, fO1_at g t i j]
      by_cases h2 : j < i
      · rw [if_pos h2, if_pos (by omega)]
      · rw [if_neg h2, if_neg (by omega)]
theorem okB_open {T : ctT} (hT : okT T) (f t : Nat → Int) : okB (fO0 f 4) (fO1 (tT T) t 4) := by
  intro x hx
  rw [fO0_at, fO1_at, if_pos hx, if_pos hx]
  have := hT.2.2.2.1 x hx
  omega
set_option maxRecDepth 100000 in
set_option maxHeartbeats 1000000 in
theorem c_X10_openBox (T : ctT) (S : ctS) (f t : Nat → Int) (hT : okT T) : CM MX10_openBox (0, 0, 0) [vR 20] (wW T S f t) (fun v w => v = none ∧ w = wW T S (fO0 f 4) (fO1 (tT T) t 4)) := by
  refine CM.of (by decide) (Nat.le_of_ble_eq_true rfl) ?_
  show CV MX10_openBox (0, 0, 0) 23 (0, 0) 0 [(0, vR 20)] [] (wW T S f t) _
  have loop : ∀ (k : Nat) (i : Nat), (4 < i + k) → (i ≤ 4) → CV MX10_openBox (0, 0, 0) 23 (0, 0) 2 [(0, vR 20), (1, vI i)] [] (wW T S (fO0 f i) (fO1 (tT T) t i)) (fun v w => v = none ∧ w = wW T S (fO0 f 4) (fO1 (tT T) t 4)) := by
    intro k
    induction k with
    | zero => intro i hk hi; exact absurd hk (by omega)
    | succ k ih =>
      intro i hk hi
      refine cv_iload_n dX10_openBox_2 rfl ?_
      refine cv_iconst dX10_openBox_3 ?_
      refine cv_icmp_ge (tgt := 35) dX10_openBox_4 (by decide) (by omega) (fun h4 => ?_) (fun h4 => ?_)
      · refine cv_ret rfl dX10_openBox_35 ⟨Nat.le_refl _, Nat.le_refl _⟩ ⟨rfl, by rw [show i = 4 by omega]⟩
      · refine cv_aload_n dX10_openBox_7 rfl ?_
        refine cv_getf flX10_9 dX10_openBox_8 rfl rfl ?_
        refine cv_iload_n dX10_openBox_11 rfl ?_
        refine cv_iconst dX10_openBox_12 ?_
        refine cv_iasj (i) dX10_openBox_13 rfl (by omega) (by omega) ?_
        refine cv_aload_n dX10_openBox_14 rfl ?_
        refine cv_getf flX10_15 dX10_openBox_15 rfl rfl ?_
        refine cv_iload_n dX10_openBox_18 rfl ?_
        refine cv_aload_n dX10_openBox_19 rfl ?_
        refine cv_getf flX10_18 dX10_openBox_20 rfl rfl ?_
        refine cv_getf flX10_69 dX10_openBox_23 rfl rfl ?_
        refine cv_iload_n dX10_openBox_26 rfl ?_
        refine cv_ialj (i) dX10_openBox_27 rfl (by omega) (by omega) ?_
        refine cv_iasj (i) dX10_openBox_28 rfl (by omega) (by omega) ?_
        refine cv_iinc dX10_openBox_29 (by decide) rfl rfl rfl ?_
        refine cv_goto (tgt := 2) dX10_openBox_32 (by decide) ?_
        exact ih (i + 1) (by omega) (by omega)
  refine cv_iconst dX10_openBox_0 ?_
  refine cv_istore_n dX10_openBox_1 (by decide) rfl rfl ?_
  exact loop 5 0 (by omega) (by omega)
/-- a mark is held: so (1), or not (0) -/
def fH0 (f : Nat → Int) (m s : Int) : Nat → Int := if m / 10 % 10 = 0 ∧ ¬ s = 0 then ct_up f (m / 100).toNat (max (f (m / 100).toNat) (m % 10)) else if ¬ m / 10 % 10 = 0 ∧ s = 0 then ct_up f (m / 100).toNat (max (f (m / 100).toNat) (m % 10 + 1)) else f
def fH1 (t : Nat → Int) (m s : Int) : Nat → Int := if m / 10 % 10 = 0 ∧ s = 0 then ct_up t (m / 100).toNat (min (t (m / 100).toNat) (m % 10 - 1)) else if ¬ m / 10 % 10 = 0 ∧ ¬ s = 0 then ct_up t (m / 100).toNat (min (t (m / 100).toNat) (m % 10)) else t
theorem okB_hold {f t : Nat → Int} {m s : Int} (h : okB f t) (hm : 0 ≤ m) : okB (fH0 f m s) (fH1 t m s) := by
  intro x hx
  have h0 := h x hx
  have a1 : 0 ≤ fH0 f m s x ∧ fH0 f m s x ≤ 10 := by
    unfold fH0
    split
    · by_cases e : x = (m / 100).toNat
      · subst e; rw [ct_up_s]; omega
      · rw [ct_up_n e]; omega
    · split
      · by_cases e : x = (m / 100).toNat
        · subst e; rw [ct_up_s]; omega
        · rw [ct_up_n e]; omega
      · omega
  have a2 : -1 ≤ fH1 t m s x ∧ fH1 t m s x ≤ 9 := by
    unfold fH1
    split
    · by_cases e : x = (m / 100).toNat
      · subst e; rw [ct_up_s]; omega
      · rw [ct_up_n e]; omega
    · split
      · by_cases e : x = (m / 100).toNat
        · subst e; rw [ct_up_s]; omega
        · rw [ct_up_n e]; omega
      · omega
  omega
set_option maxRecDepth 100000 in
set_option maxHeartbeats 1000000 in
theorem c_X10_hold (T : ctT) (S : ctS) (f t : Nat → Int) (hT : okT T) (hB : okB f t) (m s : Int) (hm : okM T m) (hs : s = 0 ∨ s = 1) : CM MX10_hold (1, 0, 0) [vR 20, vI m, vI s] (wW T S f t) (fun v w => v = none ∧ w = wW T S (fH0 f m s) (fH1 t m s)) := by
  refine CM.of (by decide) (Nat.le_of_ble_eq_true rfl) ?_
  show CV MX10_hold (1, 0, 0) 23 (0, 0) 0 [(0, vR 20), (1, vI m), (2, vI s)] [] (wW T S f t) _
  have hN := hT.2.1
  obtain ⟨m1, m2, m3⟩ := hm
  have hb := hB (m / 100).toNat (by omega)
  refine cv_iload_n dX10_hold_0 rfl ?_
  refine cv_bipush dX10_hold_1 (by decide) ?_
  refine cv_idiv dX10_hold_3 (by omega) ?_
  refine cv_istore_n dX10_hold_4 (by decide) rfl rfl ?_
  refine cv_iload_n dX10_hold_5 rfl ?_
  refine cv_bipush dX10_hold_6 (by decide) ?_
  refine cv_irem dX10_hold_8 (by omega) ?_
  refine cv_istore dX10_hold_9 (by decide) rfl rfl ?_
  refine cv_iload_n dX10_hold_11 rfl ?_
  refine cv_bipush dX10_hold_12 (by decide) ?_
  refine cv_idiv dX10_hold_14 (by omega) ?_
  refine cv_bipush dX10_hold_15 (by decide) ?_
  refine cv_irem dX10_hold_17 (by omega) ?_
  refine cv_if_ne (tgt := 25) dX10_hold_18 (by decide) (by omega) (fun h18 => ?_) (fun h18 => ?_)
  · refine cv_iconst dX10_hold_25 ?_
    refine cv_istore dX10_hold_26 (by decide) rfl rfl ?_
    refine cv_iload dX10_hold_28 rfl ?_
    refine cv_if_eq (tgt := 57) dX10_hold_30 (by decide) (by omega) (fun h30 => ?_) (fun h30 => ?_)
    · refine cv_iload dX10_hold_57 rfl ?_
      refine cv_if_eq (tgt := 84) dX10_hold_59 (by decide) (by omega) (fun h59 => ?_) (fun h59 => ?_)
      · refine cv_iload_n dX10_hold_84 rfl ?_
        refine cv_if_eq (tgt := 108) dX10_hold_85 (by decide) (by omega) (fun h85 => ?_) (fun h85 => ?_)
        · refine cv_aload_n dX10_hold_108 rfl ?_
          refine cv_getf flX10_9 dX10_hold_109 rfl rfl ?_
          refine cv_iload_n dX10_hold_112 rfl ?_
          refine cv_aload_n dX10_hold_113 rfl ?_
          refine cv_getf flX10_9 dX10_hold_114 rfl rfl ?_
          refine cv_iload_n dX10_hold_117 rfl ?_
          refine cv_ialj ((m / 100).toNat) dX10_hold_118 rfl (by omega) (by omega) ?_
          refine cv_iload dX10_hold_119 rfl ?_
          refine cv_iconst dX10_hold_121 ?_
          refine cv_iadd dX10_hold_122 ?_
          refine cv_max mlX10_72 dX10_hold_123 (by decide) (Nat.le_of_ble_eq_true rfl) ⟨Nat.le_refl _, Nat.le_refl _⟩ (by omega) ?_
          refine cv_iasj ((m / 100).toNat) dX10_hold_126 rfl (by omega) (by omega) ?_
          refine cv_ret rfl dX10_hold_127 ⟨Nat.le_refl _, Nat.le_refl _⟩ ⟨rfl, by unfold fH0 fH1; rw [if_neg (by omega), if_pos (by omega), if_neg (by omega), if_neg (by omega)]; rfl⟩
        · refine cv_aload_n dX10_hold_88 rfl ?_
          refine cv_getf flX10_15 dX10_hold_89 rfl rfl ?_
          refine cv_iload_n dX10_hold_92 rfl ?_
          refine cv_aload_n dX10_hold_93 rfl ?_
          refine cv_getf flX10_15 dX10_hold_94 rfl rfl ?_
          refine cv_iload_n dX10_hold_97 rfl ?_
          refine cv_ialj ((m / 100).toNat) dX10_hold_98 rfl (by omega) (by omega) ?_
          refine cv_iload dX10_hold_99 rfl ?_
          refine cv_min mlX10_77 dX10_hold_101 (by decide) (Nat.le_of_ble_eq_true rfl) ⟨Nat.le_refl _, Nat.le_refl _⟩ (by omega) ?_
          refine cv_iasj ((m / 100).toNat) dX10_hold_104 rfl (by omega) (by omega) ?_
          refine cv_goto (tgt := 127) dX10_hold_105 (by decide) ?_
          refine cv_ret rfl dX10_hold_127 ⟨Nat.le_refl _, Nat.le_refl _⟩ ⟨rfl, by unfold fH0 fH1; rw [if_neg (by omega), if_neg (by omega), if_neg (by omega), if_pos (by omega)]; rfl⟩
      · exact absurd rfl h59
    · exact absurd rfl h30
  · refine cv_iconst dX10_hold_21 ?_
    refine cv_goto (tgt := 26) dX10_hold_22 (by decide) ?_
    refine cv_istore dX10_hold_26 (by decide) rfl rfl ?_
    refine cv_iload dX10_hold_28 rfl ?_
    refine cv_if_eq (tgt := 57) dX10_hold_30 (by decide) (by omega) (fun h30 => ?_) (fun h30 => ?_)
    · exact absurd h30 (by omega)
    · refine cv_iload_n dX10_hold_33 rfl ?_
      refine cv_if_eq (tgt := 57) dX10_hold_34 (by decide) (by omega) (fun h34 => ?_) (fun h34 => ?_)
      · refine cv_iload dX10_hold_57 rfl ?_
        refine cv_if_eq (tgt := 84) dX10_hold_59 (by decide) (by omega) (fun h59 => ?_) (fun h59 => ?_)
        · exact absurd h59 (by omega)
        · refine cv_aload_n dX10_hold_62 rfl ?_
          refine cv_getf flX10_15 dX10_hold_63 rfl rfl ?_
          refine cv_iload_n dX10_hold_66 rfl ?_
          refine cv_aload_n dX10_hold_67 rfl ?_
          refine cv_getf flX10_15 dX10_hold_68 rfl rfl ?_
          refine cv_iload_n dX10_hold_71 rfl ?_
          refine cv_ialj ((m / 100).toNat) dX10_hold_72 rfl (by omega) (by omega) ?_
          refine cv_iload dX10_hold_73 rfl ?_
          refine cv_iconst dX10_hold_75 ?_
          refine cv_isub dX10_hold_76 ?_
          refine cv_min mlX10_77 dX10_hold_77 (by decide) (Nat.le_of_ble_eq_true rfl) ⟨Nat.le_refl _, Nat.le_refl _⟩ (by omega) ?_
          refine cv_iasj ((m / 100).toNat) dX10_hold_80 rfl (by omega) (by omega) ?_
          refine cv_goto (tgt := 127) dX10_hold_81 (by decide) ?_
          refine cv_ret rfl dX10_hold_127 ⟨Nat.le_refl _, Nat.le_refl _⟩ ⟨rfl, by unfold fH0 fH1; rw [if_neg (by omega), if_neg (by omega), if_pos (by omega)]; rfl⟩
      · refine cv_aload_n dX10_hold_37 rfl ?_
        refine cv_getf flX10_9 dX10_hold_38 rfl rfl ?_
        refine cv_iload_n dX10_hold_41 rfl ?_
        refine cv_aload_n dX10_hold_42 rfl ?_
        refine cv_getf flX10_9 dX10_hold_43 rfl rfl ?_
        refine cv_iload_n dX10_hold_46 rfl ?_
        refine cv_ialj ((m / 100).toNat) dX10_hold_47 rfl (by omega) (by omega) ?_
        refine cv_iload dX10_hold_48 rfl ?_
        refine cv_max mlX10_72 dX10_hold_50 (by decide) (Nat.le_of_ble_eq_true rfl) ⟨Nat.le_refl _, Nat.le_refl _⟩ (by omega) ?_
        refine cv_iasj ((m / 100).toNat) dX10_hold_53 rfl (by omega) (by omega) ?_
        refine cv_goto (tgt := 127) dX10_hold_54 (by decide) ?_
        refine cv_ret rfl dX10_hold_127 ⟨Nat.le_refl _, Nat.le_refl _⟩ ⟨rfl, by unfold fH0 fH1; rw [if_pos (by omega), if_neg (by omega), if_neg (by omega)]; rfl⟩
