/-- a state, its task, a text (20) with its letters (21) -/
abbrev wTT (T : ctT) (S : ctS) (n : Nat) (f : Nat → Int) : List ct_C := wS T S ++ wTx 20 n f
def uN (T : ctT) (n : Nat) : ctT := (n, T.2)
def uRl (T : ctT) (n : Nat) : ctT := (T.1, n, T.2.2)
def uTp (T : ctT) (f : Nat → Int) : ctT := (T.1, T.2.1, f, T.2.2.2)
def uW (T : ctT) (r : Nat) (f : Nat → Int) : ctT := (T.1, T.2.1, T.2.2.1, fun j => if j = r then f else T.2.2.2.1 j, T.2.2.2.2)
def uB (T : ctT) (f : Nat → Int) : ctT := (T.1, T.2.1, T.2.2.1, T.2.2.2.1, f)
theorem uW_set (T : ctT) (S : ctS) (n : Nat) (f g : Nat → Int) : ∀ r, r < 6 → (wTT T S n f).set (14 + r) (cA 0 4 g) = wTT (uW T r g) S n f := by
  intro r hr
  match r, hr with
  | 0, _ => rfl
  | 1, _ => rfl
  | 2, _ => rfl
  | 3, _ => rfl
  | 4, _ => rfl
  | 5, _ => rfl
theorem uW_W (T : ctT) (r : Nat) (g : Nat → Int) : tW (uW T r g) r = g := by
  show (if r = r then g else _) = g
  rw [if_pos rfl]
theorem uW_ne (T : ctT) (r j : Nat) (g : Nat → Int) (h : j ≠ r) : tW (uW T r g) j = tW T j := by
  show (if j = r then g else _) = _
  rw [if_neg h]
  rfl
theorem uW_uW (T : ctT) (r : Nat) (g h : Nat → Int) : uW (uW T r g) r h = uW T r h := by
  unfold uW
  congr 4
  funext j
  by_cases e : j = r
  · rw [if_pos e, if_pos e]
  · simp only [if_neg e]
theorem wTT_row (T : ctT) (S : ctS) (n : Nat) (f : Nat → Int) : ∀ r, r < 6 → (wTT T S n f)[14 + r]? = some (cA 0 4 (tW T r)) := fun r hr => ct_ap (wS_row T S r hr)
/-- a weight's letter -/
noncomputable def fWt (x : Int) : Int := @ite _ (figP x) (Classical.propDecidable _) (x - 48) (96 - x)
set_option maxRecDepth 100000 in
set_option maxHeartbeats 1000000 in
theorem c_X7_weightOf (w : List ct_C) (x : Int) (hx : 0 ≤ x ∧ x ≤ 255) : CM MX7_weightOf (1, 0, 0) [vI x] (w) (fun v w1 => v = some (vI (fWt x)) ∧ w1 = w) := by
  refine CM.of (by decide) (Nat.le_of_ble_eq_true rfl) ?_
  show CV MX7_weightOf (1, 0, 0) w.length (0, 0) 0 [(0, vI x)] [] (w) _
  have r1 := ct_i_r (figP x)
  refine cv_iload_n dX7_weightOf_0 rfl ?_
  refine cv_sameS (c_X7_isFigure w x (by omega)) lkX7_isFigure mlX7_31 dX7_weightOf_1 (by decide) rfl rfl (Nat.le_of_ble_eq_true rfl) ⟨Nat.le_refl _, Nat.le_refl _⟩ ?_
  intro v w1 hq
  obtain ⟨rfl, rfl⟩ := hq
  refine cv_if_eq (tgt := 14) dX7_weightOf_4 (by decide) (by omega) (fun h4 => ?_) (fun h4 => ?_)
  · refine cv_bipush dX7_weightOf_14 (by decide) ?_
    refine cv_iload_n dX7_weightOf_16 rfl ?_
    refine cv_isub dX7_weightOf_17 ?_
    refine cv_iret rfl dX7_weightOf_18 ⟨Nat.le_refl _, Nat.le_refl _⟩ ⟨ct_rI (if_neg (ct_i_0.mp h4)).symm, rfl⟩
  · refine cv_iload_n dX7_weightOf_7 rfl ?_
    refine cv_bipush dX7_weightOf_8 (by decide) ?_
    refine cv_isub dX7_weightOf_10 ?_
    refine cv_goto (tgt := 18) dX7_weightOf_11 (by decide) ?_
    refine cv_iret rfl dX7_weightOf_18 ⟨Nat.le_refl _, Nat.le_refl _⟩ ⟨ct_rI (if_pos (ct_i_1.mp (by omega))).symm, rfl⟩
/-- a rule's weights out of letters from s on, of the first x numbers; its bound -/
noncomputable def fTw (g f : Nat → Int) (s N : Nat) : Nat → (Nat → Int)
  | 0 => g
  | x + 1 => ct_up (fTw g f s N x) x (if x < N then fWt (f (s + 1 + x)) else 0)
def fBd (f : Nat → Int) (s N : Nat) : Int := if f (s + N + 1) = 45 then -(10 * (f (s + N + 2) - 48) + f (s + N + 3) - 48) else 10 * (f (s + N + 2) - 48) + f (s + N + 3) - 48
noncomputable def fTRl (T : ctT) (f : Nat → Int) (r s : Nat) : ctT := uB (uW T r (fTw (tW T r) f s (tN T) 4)) (ct_up (tB T) r (fBd f s (tN T)))
set_option maxRecDepth 100000 in
set_option maxHeartbeats 1000000 in
theorem c_X7_tellRule (T : ctT) (S : ctS) (n : Nat) (f : Nat → Int) (hf : okL f) (hN : 1 ≤ tN T ∧ tN T ≤ 4) (r : Nat) (hr : r < 6) (s : Nat) (hs : s + tN T + 3 < 60) : CM MX7_tellRule (2, 0, 0) [vR 20, vR 10, vI r, vI s] (wTT T S n f) (fun v w => v = none ∧ w = wTT (fTRl T f r s) S n f) := by
  refine CM.of (by decide) (Nat.le_of_ble_eq_true rfl) ?_
  show CV MX7_tellRule (2, 0, 0) 22 (0, 0) 0 [(0, vR 20), (1, vR 10), (2, vI r), (3, vI s)] [] (wTT T S n f) _
  have e00 : wTT T S n f = (wTT T S n f).set (14 + r) (cA 0 4 (fTw (tW T r) f s (tN T) 0)) := by
    rw [uW_set _ _ _ _ _ r hr]
    have e1 : uW T r (fTw (tW T r) f s (tN T) 0) = T := by
      show (T.1, T.2.1, T.2.2.1, (fun j => if j = r then T.2.2.2.1 r else T.2.2.2.1 j), T.2.2.2.2) = T
      have e2 : (fun j => if j = r then T.2.2.2.1 r else T.2.2.2.1 j) = T.2.2.2.1 := by
        funext j
        by_cases e : j = r
        · rw [if_pos e, e]
        · rw [if_neg e]
      rw [e2]
    rw [e1]
  have l1 := hf (s + tN T + 1) (by omega)
  have l2 := hf (s + tN T + 2) (by omega)
  have l3 := hf (s + tN T + 3) (by omega)
  have loop : ∀ (k : Nat) (x : Nat), (4 < x + k) → (x ≤ 4) → CV MX7_tellRule (2, 0, 0) 22 (0, 0) 9 [(0, vR 20), (1, vR 10), (2, vI r), (3, vI s), (4, vI (tN T)), (5, vI x)] [] (wTT (uW T r (fTw (tW T r) f s (tN T) x)) S n f) (fun v w => v = none ∧ w = wTT (fTRl T f r s) S n f) := by
    intro k
    induction k with
    | zero => intro x hk hi; exact absurd hk (by omega)
    | succ k ih =>
      intro x hk hi
      have hrow := wTT_row (uW T r (fTw (tW T r) f s (tN T) x)) S n f r hr
      rw [uW_W] at hrow
      have hnext : (wTT (uW T r (fTw (tW T r) f s (tN T) x)) S n f).set (14 + r) (cA 0 4 (fTw (tW T r) f s (tN T) (x + 1))) = wTT (uW T r (fTw (tW T r) f s (tN T) (x + 1))) S n f := by rw [uW_set _ _ _ _ _ r hr, uW_uW]
      refine cv_iload dX7_tellRule_9 rfl ?_
      refine cv_iconst dX7_tellRule_11 ?_
      refine cv_icmp_ge (tgt := 55) dX7_tellRule_12 (by decide) (by omega) (fun h12 => ?_) (fun h12 => ?_)
      · refine cv_bipush dX7_tellRule_55 (by decide) ?_
        refine cv_aload_n dX7_tellRule_57 rfl ?_
        refine cv_getf flX7_9 dX7_tellRule_58 rfl rfl ?_
        refine cv_iload_n dX7_tellRule_61 rfl ?_
        refine cv_iload dX7_tellRule_62 rfl ?_
        refine cv_iadd dX7_tellRule_64 ?_
        refine cv_iconst dX7_tellRule_65 ?_
        refine cv_iadd dX7_tellRule_66 ?_
        refine cv_ialj (s + tN T + 2) dX7_tellRule_67 rfl (by omega) (by omega) ?_
        refine cv_bipush dX7_tellRule_68 (by decide) ?_
        refine cv_isub dX7_tellRule_70 ?_
        refine cv_imul dX7_tellRule_71 ?_
        refine cv_aload_n dX7_tellRule_72 rfl ?_
        refine cv_getf flX7_9 dX7_tellRule_73 rfl rfl ?_
        refine cv_iload_n dX7_tellRule_76 rfl ?_
        refine cv_iload dX7_tellRule_77 rfl ?_
        refine cv_iadd dX7_tellRule_79 ?_
        refine cv_iconst dX7_tellRule_80 ?_
        refine cv_iadd dX7_tellRule_81 ?_
        refine cv_ialj (s + tN T + 3) dX7_tellRule_82 rfl (by omega) (by omega) ?_
        refine cv_iadd dX7_tellRule_83 ?_
        refine cv_bipush dX7_tellRule_84 (by decide) ?_
        refine cv_isub dX7_tellRule_86 ?_
        refine cv_istore dX7_tellRule_87 (by decide) rfl rfl ?_
        refine cv_aload_n dX7_tellRule_89 rfl ?_
        refine cv_getf flX7_70 dX7_tellRule_90 rfl rfl ?_
        refine cv_iload_n dX7_tellRule_93 rfl ?_
        refine cv_aload_n dX7_tellRule_94 rfl ?_
        refine cv_getf flX7_9 dX7_tellRule_95 rfl rfl ?_
        refine cv_iload_n dX7_tellRule_98 rfl ?_
        refine cv_iload dX7_tellRule_99 rfl ?_
        refine cv_iadd dX7_tellRule_101 ?_
        refine cv_iconst dX7_tellRule_102 ?_
        refine cv_iadd dX7_tellRule_103 ?_
        refine cv_ialj (s + tN T + 1) dX7_tellRule_104 rfl (by omega) (by omega) ?_
        refine cv_bipush dX7_tellRule_105 (by decide) ?_
        refine cv_icmp_ne (tgt := 116) dX7_tellRule_107 (by decide) (by omega) (fun h107 => ?_) (fun h107 => ?_)
        · refine cv_iload dX7_tellRule_116 rfl ?_
          refine cv_iasj (r) dX7_tellRule_118 rfl (by omega) (by omega) ?_
          refine cv_ret rfl dX7_tellRule_119 ⟨Nat.le_refl _, Nat.le_refl _⟩ ⟨rfl, by
            unfold fTRl fBd
            rw [if_neg h107, show x = 4 by omega]
            rfl⟩
        · refine cv_iload dX7_tellRule_110 rfl ?_
          refine cv_ineg dX7_tellRule_112 ?_
          refine cv_goto (tgt := 118) dX7_tellRule_113 (by decide) ?_
          refine cv_iasj (r) dX7_tellRule_118 rfl (by omega) (by omega) ?_
          refine cv_ret rfl dX7_tellRule_119 ⟨Nat.le_refl _, Nat.le_refl _⟩ ⟨rfl, by
            unfold fTRl fBd
            rw [if_pos h107, show x = 4 by omega]
            rfl⟩
      · refine cv_aload_n dX7_tellRule_15 rfl ?_
        refine cv_getf flX7_62 dX7_tellRule_16 rfl rfl ?_
        refine cv_iload_n dX7_tellRule_19 rfl ?_
        refine cv_aalj (r) (Or.inr rfl) dX7_tellRule_20 rfl (by omega) (by constructor; exact hr; decide) (wS_ref r hr) ?_
        refine cv_iload dX7_tellRule_21 rfl ?_
        refine cv_iload dX7_tellRule_23 rfl ?_
        refine cv_iload dX7_tellRule_25 rfl ?_
        refine cv_icmp_ge (tgt := 47) dX7_tellRule_27 (by decide) (by omega) (fun h27 => ?_) (fun h27 => ?_)
        · refine cv_iconst dX7_tellRule_47 ?_
          refine cv_iasj (x) dX7_tellRule_48 hrow (by omega) (by omega) ?_
          refine cv_iinc dX7_tellRule_49 (by decide) rfl rfl rfl ?_
          refine cv_goto (tgt := 9) dX7_tellRule_52 (by decide) ?_
          have e0 : fTw (tW T r) f s (tN T) (x + 1) = ct_up (fTw (tW T r) f s (tN T) x) x 0 := by
            show ct_up _ _ (if x < tN T then fWt (f (s + 1 + x)) else 0) = _
            rw [if_neg (by omega)]
          rw [← e0, hnext]
          exact ih (x + 1) (by omega) (by omega)
        · have l4 := hf (s + 1 + x) (by omega)
          refine cv_aload_n dX7_tellRule_30 rfl ?_
          refine cv_getf flX7_9 dX7_tellRule_31 rfl rfl ?_
          refine cv_iload_n dX7_tellRule_34 rfl ?_
          refine cv_iconst dX7_tellRule_35 ?_
          refine cv_iadd dX7_tellRule_36 ?_
          refine cv_iload dX7_tellRule_37 rfl ?_
          refine cv_iadd dX7_tellRule_39 ?_
          refine cv_ialj (s + 1 + x) dX7_tellRule_40 rfl (by omega) (by omega) ?_
          refine cv_sameS (c_X7_weightOf (wTT (uW T r (fTw (tW T r) f s (tN T) x)) S n f) (f (s + 1 + x)) l4) lkX7_weightOf mlX7_66 dX7_tellRule_41 (by decide) rfl rfl (Nat.le_of_ble_eq_true rfl) ⟨Nat.le_refl _, Nat.le_refl _⟩ ?_
          intro v w1 hq
          obtain ⟨rfl, rfl⟩ := hq
          refine cv_goto (tgt := 48) dX7_tellRule_44 (by decide) ?_
          refine cv_iasj (x) dX7_tellRule_48 hrow (by omega) (by omega) ?_
          refine cv_iinc dX7_tellRule_49 (by decide) rfl rfl rfl ?_
          refine cv_goto (tgt := 9) dX7_tellRule_52 (by decide) ?_
          have e0 : fTw (tW T r) f s (tN T) (x + 1) = ct_up (fTw (tW T r) f s (tN T) x) x (fWt (f (s + 1 + x))) := by
            show ct_up _ _ (if x < tN T then fWt (f (s + 1 + x)) else 0) = _
            rw [if_pos (by omega)]
          rw [← e0, hnext]
          exact ih (x + 1) (by omega) (by omega)
  refine cv_aload_n dX7_tellRule_0 rfl ?_
  refine cv_getf flX7_47 dX7_tellRule_1 rfl rfl ?_
  refine cv_istore dX7_tellRule_4 (by decide) rfl rfl ?_
  refine cv_iconst dX7_tellRule_6 ?_
  refine cv_istore dX7_tellRule_7 (by decide) rfl rfl ?_
  rw [show wTT T S n f = wTT (uW T r (fTw (tW T r) f s (tN T) 0)) S n f by rw [← uW_set _ _ _ _ _ r hr]; exact e00]
  exact loop 5 0 (by omega) (by omega)
/-- tops out of the letters, of the first x numbers -/
def fTt (g f : Nat → Int) (N : Nat) : Nat → (Nat → Int)
  | 0 => g
  | x + 1 => ct_up (fTt g f N x) x (if x < N then f (2 + x) - 48 else 0)
def fNr (n : Nat) (f : Nat → Int) : Nat := (min 6 (((n : Int) - 2 - fTn f) / (fTn f + 4))).toNat
/-- the first i rules are told -/
noncomputable def fTs (T : ctT) (f : Nat → Int) : Nat → ctT
  | 0 => T
  | i + 1 => fTRl (fTs T f i) f i (2 + tN T + i * (tN T + 4))
noncomputable def fTask (T : ctT) (n : Nat) (f : Nat → Int) : ctT := fTs (uRl (uTp (uN T (fTn f).toNat) (fTt (tT T) f (fTn f).toNat 4)) (fNr n f)) f (fNr n f)
theorem fTs_N (T : ctT) (f : Nat → Int) : ∀ i, tN (fTs T f i) = tN T ∧ tR (fTs T f i) = tR T
  | 0 => ⟨rfl, rfl⟩
  | i + 1 => fTs_N T f i
set_option maxRecDepth 100000 in
set_option maxHeartbeats 1000000 in
theorem c_X7_tellTo (T : ctT) (S : ctS) (n : Nat) (f : Nat → Int) (hf : okL f) (hn : n ≤ 60) (hw : 2 + fTn f ≤ (n : Int)) : CM MX7_tellTo (3, 0, 0) [vR 20, vR 10] (wTT T S n f) (fun v w => v = none ∧ w = wTT (fTask T n f) S n f) := by
  refine CM.of (by decide) (Nat.le_of_ble_eq_true rfl) ?_
  show CV MX7_tellTo (3, 0, 0) 22 (0, 0) 0 [(0, vR 20), (1, vR 10)] [] (wTT T S n f) _
  have hN := fTn_r f
  obtain ⟨N, eN⟩ : ∃ N : Nat, fTn f = N := ⟨(fTn f).toNat, by omega⟩
  have eN2 : (fTn f).toNat = N := by omega
  have d1 := ediv_r (q := (n : Int) - 2 - fTn f) (w := fTn f + 4) (by omega) (by omega)
  have d2 := Int.mul_ediv_self_le (x := (n : Int) - 2 - fTn f) (k := fTn f + 4) (by omega)
  have eR : ((fNr n f : Nat) : Int) = min 6 (((n : Int) - 2 - fTn f) / (fTn f + 4)) := by unfold fNr; omega
  have loop2 : ∀ (k : Nat) (i : Nat), (fNr n f < i + k) → (i ≤ fNr n f) → CV MX7_tellTo (3, 0, 0) 22 (0, 0) 72 [(0, vR 20), (1, vR 10), (2, vI (fTn f)), (3, vI i)] [] (wTT (fTs (uRl (uTp (uN T N) (fTt (tT T) f N 4)) (fNr n f)) f i) S n f) (fun v w => v = none ∧ w = wTT (fTask T n f) S n f) := by
    intro k
    induction k with
    | zero => intro i hk hi; exact absurd hk (by omega)
    | succ k ih =>
      intro i hk hi
      obtain ⟨b1, b2⟩ := fTs_N (uRl (uTp (uN T N) (fTt (tT T) f N 4)) (fNr n f)) f i
      have b3 : tN (fTs (uRl (uTp (uN T N) (fTt (tT T) f N 4)) (fNr n f)) f i) = N := b1
      have b4 : tR (fTs (uRl (uTp (uN T N) (fTt (tT T) f N 4)) (fNr n f)) f i) = fNr n f := b2
      have b5 : tN (uRl (uTp (uN T N) (fTt (tT T) f N 4)) (fNr n f)) = N := rfl
      refine cv_iload_n dX7_tellTo_72 rfl ?_
      refine cv_aload_n dX7_tellTo_73 rfl ?_
      refine cv_getf flX7_55 dX7_tellTo_74 rfl rfl ?_
      refine cv_icmp_ge (tgt := 101) dX7_tellTo_77 (by decide) (by omega) (fun h77 => ?_) (fun h77 => ?_)
      · refine cv_ret rfl dX7_tellTo_101 ⟨Nat.le_refl _, Nat.le_refl _⟩ ⟨rfl, by rw [show i = fNr n f by omega]; unfold fTask; rw [eN2]⟩
      · have hq : (i : Int) + 1 ≤ ((n : Int) - 2 - fTn f) / (fTn f + 4) := by omega
        have hm : ((i : Int) + 1) * (fTn f + 4) ≤ (n : Int) - 2 - fTn f := Int.le_trans (Int.mul_le_mul_of_nonneg_right hq (by omega)) (by rw [Int.mul_comm]; exact d2)
        rw [eN] at hm
        have hm2 : (i + 1) * (N + 4) ≤ n - 2 - N := by
          have : (((i + 1) * (N + 4) : Nat) : Int) = ((i : Int) + 1) * ((N : Int) + 4) := by rw [Int.natCast_mul]; rfl
          omega
        have hm3 : (i + 1) * (N + 4) = i * (N + 4) + (N + 4) := Nat.succ_mul _ _
        refine cv_aload_n dX7_tellTo_80 rfl ?_
        refine cv_aload_n dX7_tellTo_81 rfl ?_
        refine cv_iload_n dX7_tellTo_82 rfl ?_
        refine cv_iconst dX7_tellTo_83 ?_
        refine cv_iload_n dX7_tellTo_84 rfl ?_
        refine cv_iadd dX7_tellTo_85 ?_
        refine cv_iload_n dX7_tellTo_86 rfl ?_
        refine cv_iload_n dX7_tellTo_87 rfl ?_
        refine cv_iconst dX7_tellTo_88 ?_
        refine cv_iadd dX7_tellTo_89 ?_
        refine cv_imul dX7_tellTo_90 ?_
        refine cv_iadd dX7_tellTo_91 ?_
        rw [show (2 + fTn f + (i : Int) * (fTn f + 4)) = ((2 + N + i * (N + 4) : Nat) : Int) by rw [eN]; push_cast; rfl]
        refine cv_sameV (c_X7_tellRule (fTs (uRl (uTp (uN T N) (fTt (tT T) f N 4)) (fNr n f)) f i) S n f hf (by rw [b3]; omega) i (by omega) (2 + N + i * (N + 4)) (by rw [b3]; omega)) lkX7_tellRule mlX7_58 dX7_tellTo_92 (by decide) rfl rfl (by decide) rfl (Nat.le_of_ble_eq_true rfl) ⟨Nat.le_refl _, Nat.le_refl _⟩ ?_
        intro v w1 hq
        obtain ⟨rfl, rfl⟩ := hq
        refine cv_iinc dX7_tellTo_95 (by decide) rfl rfl rfl ?_
        refine cv_goto (tgt := 72) dX7_tellTo_98 (by decide) ?_
        exact ih (i + 1) (by omega) (by omega)
  have loop1 : ∀ (k : Nat) (x : Nat), (4 < x + k) → (x ≤ 4) → CV MX7_tellTo (3, 0, 0) 22 (0, 0) 12 [(0, vR 20), (1, vR 10), (2, vI (fTn f)), (3, vI x)] [] (wTT (uTp (uN T N) (fTt (tT T) f N x)) S n f) (fun v w => v = none ∧ w = wTT (fTask T n f) S n f) := by
    intro k
    induction k with
    | zero => intro x hk hi; exact absurd hk (by omega)
    | succ k ih =>
      intro x hk hi
      refine cv_iload_n dX7_tellTo_12 rfl ?_
      refine cv_iconst dX7_tellTo_13 ?_
      refine cv_icmp_ge (tgt := 49) dX7_tellTo_14 (by decide) (by omega) (fun h14 => ?_) (fun h14 => ?_)
      · refine cv_aload_n dX7_tellTo_49 rfl ?_
        refine cv_bipush dX7_tellTo_50 (by decide) ?_
        refine cv_aload_n dX7_tellTo_52 rfl ?_
        refine cv_getf flX7_15 dX7_tellTo_53 rfl rfl ?_
        refine cv_iconst dX7_tellTo_56 ?_
        refine cv_isub dX7_tellTo_57 ?_
        refine cv_iload_n dX7_tellTo_58 rfl ?_
        refine cv_isub dX7_tellTo_59 ?_
        refine cv_iload_n dX7_tellTo_60 rfl ?_
        refine cv_iconst dX7_tellTo_61 ?_
        refine cv_iadd dX7_tellTo_62 ?_
        refine cv_idiv dX7_tellTo_63 (by omega) ?_
        refine cv_min mlX7_38 dX7_tellTo_64 (by decide) (Nat.le_of_ble_eq_true rfl) ⟨Nat.le_refl _, Nat.le_refl _⟩ (by omega) ?_
        rw [← eR]
        refine cv_putf fpX7_55 dX7_tellTo_67 rfl (Nat.le_of_ble_eq_true rfl) (fun _ => ⟨rfl, rfl⟩) ?_
        refine cv_iconst dX7_tellTo_70 ?_
        refine cv_istore_n dX7_tellTo_71 (by decide) rfl rfl ?_
        have e4 : x = 4 := by omega
        subst e4
        exact loop2 (fNr n f + 1) 0 (by omega) (by omega)
      · refine cv_aload_n dX7_tellTo_17 rfl ?_
        refine cv_getf flX7_52 dX7_tellTo_18 rfl rfl ?_
        refine cv_iload_n dX7_tellTo_21 rfl ?_
        refine cv_iload_n dX7_tellTo_22 rfl ?_
        refine cv_iload_n dX7_tellTo_23 rfl ?_
        refine cv_icmp_ge (tgt := 41) dX7_tellTo_24 (by decide) (by omega) (fun h24 => ?_) (fun h24 => ?_)
        · refine cv_iconst dX7_tellTo_41 ?_
          refine cv_iasj (x) dX7_tellTo_42 rfl (by omega) (by omega) ?_
          refine cv_iinc dX7_tellTo_43 (by decide) rfl rfl rfl ?_
          refine cv_goto (tgt := 12) dX7_tellTo_46 (by decide) ?_
          have e0 : fTt (tT T) f N (x + 1) = ct_up (fTt (tT T) f N x) x 0 := by
            show ct_up _ _ (if x < N then f (2 + x) - 48 else 0) = _
            rw [if_neg (by omega)]
          have := ih (x + 1) (by omega) (by omega)
          rw [e0] at this
          exact this
        · have l4 := hf (2 + x) (by omega)
          refine cv_aload_n dX7_tellTo_27 rfl ?_
          refine cv_getf flX7_9 dX7_tellTo_28 rfl rfl ?_
          refine cv_iconst dX7_tellTo_31 ?_
          refine cv_iload_n dX7_tellTo_32 rfl ?_
          refine cv_iadd dX7_tellTo_33 ?_
          refine cv_ialj (2 + x) dX7_tellTo_34 rfl (by omega) (by omega) ?_
          refine cv_bipush dX7_tellTo_35 (by decide) ?_
          refine cv_isub dX7_tellTo_37 ?_
          refine cv_goto (tgt := 42) dX7_tellTo_38 (by decide) ?_
          refine cv_iasj (x) dX7_tellTo_42 rfl (by omega) (by omega) ?_
          refine cv_iinc dX7_tellTo_43 (by decide) rfl rfl rfl ?_
          refine cv_goto (tgt := 12) dX7_tellTo_46 (by decide) ?_
          have e0 : fTt (tT T) f N (x + 1) = ct_up (fTt (tT T) f N x) x (f (2 + x) - 48) := by
            show ct_up _ _ (if x < N then f (2 + x) - 48 else 0) = _
            rw [if_pos (by omega)]
          have := ih (x + 1) (by omega) (by omega)
          rw [e0] at this
          exact this
  refine cv_aload_n dX7_tellTo_0 rfl ?_
  refine cv_sameV (c_X7_numbersTold (wTT T S n f) 20 21 n f rfl rfl hf) lkX7_numbersTold mlX7_27 dX7_tellTo_1 (by decide) rfl rfl (by decide) rfl (Nat.le_of_ble_eq_true rfl) ⟨Nat.le_refl _, Nat.le_refl _⟩ ?_
  intro v w1 hq
  obtain ⟨rfl, rfl⟩ := hq
  refine cv_istore_n dX7_tellTo_4 (by decide) rfl rfl ?_
  refine cv_aload_n dX7_tellTo_5 rfl ?_
  refine cv_iload_n dX7_tellTo_6 rfl ?_
  refine cv_putf fpX7_47 dX7_tellTo_7 rfl (Nat.le_of_ble_eq_true rfl) (fun _ => ⟨rfl, rfl⟩) ?_
  refine cv_iconst dX7_tellTo_10 ?_
  refine cv_istore_n dX7_tellTo_11 (by decide) rfl rfl ?_
  rw [show (vI (fTn f) : ct_V) = vI (fTn f) from rfl]
  have e1 : ([vI (tN T : Int), vI (tR T), vR (10 + 1), vR (10 + 2), vR (10 + 3)] : List ct_V).set 0 (vI (fTn f)) = [vI (N : Int), vI (tR T), vR (10 + 1), vR (10 + 2), vR (10 + 3)] := by rw [eN]; rfl
  rw [e1]
  exact loop1 5 0 (by omega) (by omega)
