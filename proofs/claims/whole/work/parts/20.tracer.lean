/-- a state, its task, a tracer (20) with its set (21: F) and the why looked up last (22: G) -/
abbrev wR (T : ctT) (S : ctS) (F G : Nat → Int) : List ct_C := wS T S ++ [cO 8 [vR 21, vR 22], cA 0 8 F, cA 0 8 G]
theorem wR_row (T : ctT) (S : ctS) (F G : Nat → Int) : ∀ r, r < 6 → (wR T S F G)[14 + r]? = some (cA 0 4 (tW T r)) := fun r hr => ct_ap (wS_row T S r hr)
/-- places of the set, of a why: -1: none -/
def pl8 (n : Nat) (F : Nat → Int) : Prop := ∀ r, r < 8 → -1 ≤ F r ∧ F r < (n : Int)
def gB (F : Nat → Int) (e : Int) : Nat → Int
  | 0 => -1
  | i + 1 => if F i < e ∧ gB F e i < F i then F i else gB F e i
def fGB (F : Nat → Int) (e : Int) : Int := gB F e 8
theorem gB_r {F : Nat → Int} {n : Nat} (h : pl8 n F) (e : Int) : ∀ i, i ≤ 8 → -1 ≤ gB F e i ∧ (gB F e i < n ∨ gB F e i = -1)
  | 0, _ => ⟨by simp [gB], Or.inr rfl⟩
  | i + 1, hi => by
    have h0 := gB_r h e i (by omega)
    have h1 := h i (by omega)
    unfold gB
    split
    · exact ⟨h1.1, Or.inl h1.2⟩
    · exact h0
set_option maxRecDepth 100000 in
set_option maxHeartbeats 1000000 in
theorem c_X8_greatestBelow (T : ctT) (S : ctS) (F G : Nat → Int) (n : Nat) (hn : n ≤ 36) (hF : pl8 n F) (e : Int) (he : -1 ≤ e ∧ e ≤ 36) : CM MX8_greatestBelow (0, 0, 0) [vR 20, vI e] (wR T S F G) (fun v w => v = some (vI (fGB F e)) ∧ w = wR T S F G) := by
  refine CM.of (by decide) (Nat.le_of_ble_eq_true rfl) ?_
  show CV MX8_greatestBelow (0, 0, 0) 23 (0, 0) 0 [(0, vR 20), (1, vI e)] [] (wR T S F G) _
  have loop : ∀ (k : Nat) (i : Nat), (8 < i + k) → (i ≤ 8) → CV MX8_greatestBelow (0, 0, 0) 23 (0, 0) 4 [(0, vR 20), (1, vI e), (2, vI (gB F e i)), (3, vI i)] [] (wR T S F G) (fun v w => v = some (vI (fGB F e)) ∧ w = wR T S F G) := by
    intro k
    induction k with
    | zero => intro i hk hi; exact absurd hk (by omega)
    | succ k ih =>
      intro i hk hi
      have hb := gB_r hF e i hi
      refine cv_iload_n dX8_greatestBelow_4 rfl ?_
      refine cv_bipush dX8_greatestBelow_5 (by decide) ?_
      refine cv_icmp_ge (tgt := 43) dX8_greatestBelow_7 (by decide) (by omega) (fun h7 => ?_) (fun h7 => ?_)
      · refine cv_iload_n dX8_greatestBelow_43 rfl ?_
        refine cv_iret rfl dX8_greatestBelow_44 ⟨Nat.le_refl _, Nat.le_refl _⟩ ⟨ct_rI (by rw [show i = 8 by omega]; rfl), rfl⟩
      · have h0 := hF i (by omega)
        refine cv_aload_n dX8_greatestBelow_10 rfl ?_
        refine cv_getf flX8_9 dX8_greatestBelow_11 rfl rfl ?_
        refine cv_iload_n dX8_greatestBelow_14 rfl ?_
        refine cv_ialj (i) dX8_greatestBelow_15 rfl (by omega) (by omega) ?_
        refine cv_iload_n dX8_greatestBelow_16 rfl ?_
        refine cv_icmp_ge (tgt := 37) dX8_greatestBelow_17 (by decide) (by omega) (fun h17 => ?_) (fun h17 => ?_)
        · refine cv_iinc dX8_greatestBelow_37 (by decide) rfl rfl rfl ?_
          refine cv_goto (tgt := 4) dX8_greatestBelow_40 (by decide) ?_
          have e0 : gB F e (i + 1) = gB F e i := if_neg (by omega)
          have := ih (i + 1) (by omega) (by omega)
          rw [e0] at this
          exact this
        · refine cv_aload_n dX8_greatestBelow_20 rfl ?_
          refine cv_getf flX8_9 dX8_greatestBelow_21 rfl rfl ?_
          refine cv_iload_n dX8_greatestBelow_24 rfl ?_
          refine cv_ialj (i) dX8_greatestBelow_25 rfl (by omega) (by omega) ?_
          refine cv_iload_n dX8_greatestBelow_26 rfl ?_
          refine cv_icmp_le (tgt := 37) dX8_greatestBelow_27 (by decide) (by omega) (fun h27 => ?_) (fun h27 => ?_)
          · refine cv_iinc dX8_greatestBelow_37 (by decide) rfl rfl rfl ?_
            refine cv_goto (tgt := 4) dX8_greatestBelow_40 (by decide) ?_
            have e0 : gB F e (i + 1) = gB F e i := if_neg (by omega)
            have := ih (i + 1) (by omega) (by omega)
            rw [e0] at this
            exact this
          · refine cv_aload_n dX8_greatestBelow_30 rfl ?_
            refine cv_getf flX8_9 dX8_greatestBelow_31 rfl rfl ?_
            refine cv_iload_n dX8_greatestBelow_34 rfl ?_
            refine cv_ialj (i) dX8_greatestBelow_35 rfl (by omega) (by omega) ?_
            refine cv_istore_n dX8_greatestBelow_36 (by decide) rfl rfl ?_
            refine cv_iinc dX8_greatestBelow_37 (by decide) rfl rfl rfl ?_
            refine cv_goto (tgt := 4) dX8_greatestBelow_40 (by decide) ?_
            have e0 : gB F e (i + 1) = F i := if_pos (by omega)
            have := ih (i + 1) (by omega) (by omega)
            rw [e0] at this
            exact this
  refine cv_iconst dX8_greatestBelow_0 ?_
  refine cv_istore_n dX8_greatestBelow_1 (by decide) rfl rfl ?_
  refine cv_iconst dX8_greatestBelow_2 ?_
  refine cv_istore_n dX8_greatestBelow_3 (by decide) rfl rfl ?_
  exact loop 9 0 (by omega) (by omega)
/-- a why comes to the set: the first i rows -/
def fTk (S : ctS) (F G : Nat → Int) : Nat → (Nat → Int)
  | 0 => F
  | i + 1 => if ¬ G i = -1 ∧ 0 < sL S (G i).toNat then ct_up (fTk S F G i) i (max (fTk S F G i i) (G i)) else fTk S F G i
theorem fTk_s (S : ctS) (F G : Nat → Int) (i : Nat) : fTk S F G (i + 1) = if ¬ G i = -1 ∧ 0 < sL S (G i).toNat then ct_up (fTk S F G i) i (max (fTk S F G i i) (G i)) else fTk S F G i := rfl
theorem fTk_at (S : ctS) (F G : Nat → Int) : ∀ (i j : Nat), fTk S F G i j = if j < i ∧ ¬ G j = -1 ∧ 0 < sL S (G j).toNat then max (F j) (G j) else F j
  | 0, j => by rw [if_neg (by omega)]; rfl
  | i + 1, j => by
    have h1 := fTk_at S F G i j
    have h2 := fTk_at S F G i i
    rw [if_neg (by omega)] at h2
    rw [fTk_s]
    by_cases hq : ¬ G i = -1 ∧ 0 < sL S (G i).toNat
    · rw [if_pos hq]
      by_cases hj : j = i
      · subst hj
        rw [ct_up_s, h2, if_pos ⟨by omega, hq⟩]
      · rw [ct_up_n hj, h1]
        by_cases h3 : j < i ∧ ¬ G j = -1 ∧ 0 < sL S (G j).toNat
        · rw [if_pos h3, if_pos ⟨by omega, h3.2⟩]
        · rw [if_neg h3, if_neg (fun h4 => h3 ⟨by omega, h4.2⟩)]
    · rw [if_neg hq, h1]
      by_cases h3 : j < i ∧ ¬ G j = -1 ∧ 0 < sL S (G j).toNat
      · rw [if_pos h3, if_pos ⟨by omega, h3.2⟩]
      · rw [if_neg h3, if_neg (fun h4 => by
          by_cases hj : j = i
          · subst hj; exact hq h4.2
          · exact h3 ⟨by omega, h4.2⟩)]
theorem fTk_pl {S : ctS} {F G : Nat → Int} {n : Nat} (hF : pl8 n F) (hG : pl8 n G) (i : Nat) : pl8 n (fTk S F G i) := by
  intro r hr
  have h1 := hF r hr
  have h2 := hG r hr
  rw [fTk_at]
  split
  · omega
  · exact h1
set_option maxRecDepth 100000 in
set_option maxHeartbeats 1000000 in
theorem c_X8_takeWhyIn (T : ctT) (S : ctS) (F G : Nat → Int) (n : Nat) (hn : n ≤ sZ S) (hS : okS T S) (hF : pl8 n F) (hG : pl8 n G) : CM MX8_takeWhyIn (1, 0, 0) [vR 20, vR 1] (wR T S F G) (fun v w => v = none ∧ w = wR T S (fTk S F G 8) G) := by
  refine CM.of (by decide) (Nat.le_of_ble_eq_true rfl) ?_
  show CV MX8_takeWhyIn (1, 0, 0) 23 (0, 0) 0 [(0, vR 20), (1, vR 1)] [] (wR T S F G) _
  have hZ := hS.1
  have loop : ∀ (k : Nat) (i : Nat), (8 < i + k) → (i ≤ 8) → CV MX8_takeWhyIn (1, 0, 0) 23 (0, 0) 2 [(0, vR 20), (1, vR 1), (2, vI i)] [] (wR T S (fTk S F G i) G) (fun v w => v = none ∧ w = wR T S (fTk S F G 8) G) := by
    intro k
    induction k with
    | zero => intro i hk hi; exact absurd hk (by omega)
    | succ k ih =>
      intro i hk hi
      have hp := fTk_pl (S := S) hF hG i
      refine cv_iload_n dX8_takeWhyIn_2 rfl ?_
      refine cv_bipush dX8_takeWhyIn_3 (by decide) ?_
      refine cv_icmp_ge (tgt := 51) dX8_takeWhyIn_5 (by decide) (by omega) (fun h5 => ?_) (fun h5 => ?_)
      · refine cv_ret rfl dX8_takeWhyIn_51 ⟨Nat.le_refl _, Nat.le_refl _⟩ ⟨rfl, by rw [show i = 8 by omega]⟩
      · have h0 := hG i (by omega)
        have h1 := hp i (by omega)
        refine cv_aload_n dX8_takeWhyIn_8 rfl ?_
        refine cv_getf flX8_15 dX8_takeWhyIn_9 rfl rfl ?_
        refine cv_iload_n dX8_takeWhyIn_12 rfl ?_
        refine cv_ialj (i) dX8_takeWhyIn_13 rfl (by omega) (by omega) ?_
        refine cv_istore_n dX8_takeWhyIn_14 (by decide) rfl rfl ?_
        refine cv_iload_n dX8_takeWhyIn_15 rfl ?_
        refine cv_iconst dX8_takeWhyIn_16 ?_
        refine cv_icmp_eq (tgt := 45) dX8_takeWhyIn_17 (by decide) (by omega) (fun h17 => ?_) (fun h17 => ?_)
        · refine cv_iinc dX8_takeWhyIn_45 (by decide) rfl rfl rfl ?_
          refine cv_goto (tgt := 2) dX8_takeWhyIn_48 (by decide) ?_
          refine cv_loc [0, 1, 2] rfl ?_
          have e0 : fTk S F G (i + 1) = fTk S F G i := if_neg (by omega)
          have := ih (i + 1) (by omega) (by omega)
          rw [e0] at this
          exact this
        · have h2 := hS.2.2.1 (G i).toNat (by omega)
          refine cv_aload_n dX8_takeWhyIn_20 rfl ?_
          refine cv_getf flX8_60 dX8_takeWhyIn_21 rfl rfl ?_
          refine cv_iload_n dX8_takeWhyIn_24 rfl ?_
          refine cv_ialj ((G i).toNat) dX8_takeWhyIn_25 rfl (by omega) (by omega) ?_
          refine cv_if_le (tgt := 45) dX8_takeWhyIn_26 (by decide) (by omega) (fun h26 => ?_) (fun h26 => ?_)
          · refine cv_iinc dX8_takeWhyIn_45 (by decide) rfl rfl rfl ?_
            refine cv_goto (tgt := 2) dX8_takeWhyIn_48 (by decide) ?_
            refine cv_loc [0, 1, 2] rfl ?_
            have e0 : fTk S F G (i + 1) = fTk S F G i := if_neg (by omega)
            have := ih (i + 1) (by omega) (by omega)
            rw [e0] at this
            exact this
          · refine cv_aload_n dX8_takeWhyIn_29 rfl ?_
            refine cv_getf flX8_9 dX8_takeWhyIn_30 rfl rfl ?_
            refine cv_iload_n dX8_takeWhyIn_33 rfl ?_
            refine cv_aload_n dX8_takeWhyIn_34 rfl ?_
            refine cv_getf flX8_9 dX8_takeWhyIn_35 rfl rfl ?_
            refine cv_iload_n dX8_takeWhyIn_38 rfl ?_
            refine cv_ialj (i) dX8_takeWhyIn_39 rfl (by omega) (by omega) ?_
            refine cv_iload_n dX8_takeWhyIn_40 rfl ?_
            refine cv_max mlX8_77 dX8_takeWhyIn_41 (by decide) (Nat.le_of_ble_eq_true rfl) ⟨Nat.le_refl _, Nat.le_refl _⟩ (by omega) ?_
            refine cv_iasj (i) dX8_takeWhyIn_44 rfl (by omega) (by omega) ?_
            refine cv_iinc dX8_takeWhyIn_45 (by decide) rfl rfl rfl ?_
            refine cv_goto (tgt := 2) dX8_takeWhyIn_48 (by decide) ?_
            refine cv_loc [0, 1, 2] rfl ?_
            have e0 : fTk S F G (i + 1) = ct_up (fTk S F G i) i (max (fTk S F G i i) (G i)) := if_pos (by omega)
            have := ih (i + 1) (by omega) (by omega)
            rw [e0] at this
            exact this
  refine cv_iconst dX8_takeWhyIn_0 ?_
  refine cv_istore_n dX8_takeWhyIn_1 (by decide) rfl rfl ?_
  exact loop 9 0 (by omega) (by omega)
/-- the why by a rule, of the first x numbers; by a cut, of the first k marks; own: the number that was told (-9: none) -/
noncomputable def fWr (T : ctT) (S : ctS) (G : Nat → Int) (r e : Nat) (own : Int) : Nat → (Nat → Int)
  | 0 => G
  | x + 1 => if ¬ tW T r x = 0 ∧ ¬ (x : Int) = own then ct_up (fWr T S G r e own x) (2 * x + if 0 < tW T r x then 0 else 1) (ct_o (-1) (fLa S e x (if 0 < tW T r x then 0 else 1))) else fWr T S G r e own x
noncomputable def fWc (S : ctS) (G : Nat → Int) (c e : Nat) (m : Int) : Nat → (Nat → Int)
  | 0 => G
  | k + 1 => if m = -9 ∨ ¬ fNeg (sCm S (8 * c + k)) = m then ct_up (fWc S G c e m k) (fRow (sCm S (8 * c + k))).toNat (ct_o (-1) (fLa S e (sCm S (8 * c + k) / 100) (sCm S (8 * c + k) / 10 % 10))) else fWc S G c e m k
def fOwn (m : Int) : Int := if m = -9 then -9 else m / 100
set_option maxRecDepth 100000 in
set_option maxHeartbeats 1000000 in
theorem c_X8_lookUpByRule (T : ctT) (S : ctS) (F G : Nat → Int) (hT : okT T) (hS : okS T S) (r : Nat) (hr : r < 6) (e : Nat) (he : e ≤ 36) (m : Int) (hm : m = -9 ∨ (0 ≤ m ∧ m ≤ 999)) : CM MX8_lookUpByRule (2, 0, 0) [vR 20, vR 0, vI r, vI e, vI m] (wR T S F G) (fun v w => v = none ∧ w = wR T S F (fWr T S G r e (fOwn m) (tN T))) := by
  refine CM.of (by decide) (Nat.le_of_ble_eq_true rfl) ?_
  show CV MX8_lookUpByRule (2, 0, 0) 23 (0, 0) 0 [(0, vR 20), (1, vR 0), (2, vI r), (3, vI e), (4, vI m)] [] (wR T S F G) _
  have hN := hT.2.1
  have loop : ∀ (k : Nat) (x : Nat) (o : Int), (tN T < x + k) → (x ≤ tN T) → (o = fOwn m) → (-9 ≤ o ∧ o ≤ 9) → CV MX8_lookUpByRule (2, 0, 0) 23 (0, 0) 22 [(0, vR 20), (1, vR 0), (2, vI r), (3, vI e), (4, vI m), (5, vI o), (6, vI x)] [] (wR T S F (fWr T S G r e (fOwn m) x)) (fun v w => v = none ∧ w = wR T S F (fWr T S G r e (fOwn m) (tN T))) := by
    intro k
    induction k with
    | zero => intro x o hk hi ho ho2; exact absurd hk (by omega)
    | succ k ih =>
      intro x o hk hi ho ho2
      have step : ¬ tW T r x = 0 → ¬ (x : Int) = o → x < tN T → CV MX8_lookUpByRule (2, 0, 0) 23 (0, 0) 72 [(0, vR 20), (1, vR 0), (2, vI r), (3, vI e), (4, vI m), (5, vI o), (6, vI x), (7, vI (tW T r x)), (8, vI (if 0 < tW T r x then 0 else 1))] [] (wR T S F (fWr T S G r e (fOwn m) x)) (fun v w => v = none ∧ w = wR T S F (fWr T S G r e (fOwn m) (tN T))) := by
        intro a1 a2 a3
        refine cv_aload_n dX8_lookUpByRule_72 rfl ?_
        refine cv_getf flX8_15 dX8_lookUpByRule_73 rfl rfl ?_
        refine cv_iload dX8_lookUpByRule_76 rfl ?_
        refine cv_iconst dX8_lookUpByRule_78 ?_
        refine cv_imul dX8_lookUpByRule_79 ?_
        refine cv_iload dX8_lookUpByRule_80 rfl ?_
        refine cv_iadd dX8_lookUpByRule_82 ?_
        refine cv_aload_n dX8_lookUpByRule_83 rfl ?_
        refine cv_getf flX8_18 dX8_lookUpByRule_84 rfl rfl ?_
        refine cv_iload_n dX8_lookUpByRule_87 rfl ?_
        refine cv_iload dX8_lookUpByRule_88 rfl ?_
        refine cv_iload dX8_lookUpByRule_90 rfl ?_
        refine cv_preV (c_X9_lastAhead T S hT hS e he x (if 0 < tW T r x then 0 else 1) (by constructor; omega; refine ⟨by omega, ?_⟩; split <;> omega)) lkX9_lastAhead mlX8_115 dX8_lookUpByRule_92 (by decide) rfl rfl (by decide) rfl (Nat.le_of_ble_eq_true rfl) ⟨Nat.le_refl _, Nat.le_refl _⟩ (fun v w1 h => (congrArg List.length h.2).trans (wS_ll _ _ _)) ?_
        intro v w1 hq
        obtain ⟨rfl, rfl⟩ := hq
        refine cv_iasj (2 * x + if 0 < tW T r x then 0 else 1) dX8_lookUpByRule_95 rfl (by split <;> omega) (by constructor; split <;> omega; decide) ?_
        refine cv_iinc dX8_lookUpByRule_96 (by decide) rfl rfl rfl ?_
        refine cv_goto (tgt := 22) dX8_lookUpByRule_99 (by decide) ?_
        refine cv_loc [0, 1, 2, 3, 4, 5, 6] rfl ?_
        have e0 : fWr T S G r e (fOwn m) (x + 1) = ct_up (fWr T S G r e (fOwn m) x) (2 * x + if 0 < tW T r x then 0 else 1) (ct_o (-1) (fLa S e x (if 0 < tW T r x then 0 else 1))) := if_pos ⟨a1, by omega⟩
        have := ih (x + 1) o (by omega) (by omega) ho ho2
        rw [e0] at this
        exact this
      refine cv_iload dX8_lookUpByRule_22 rfl ?_
      refine cv_aload_n dX8_lookUpByRule_24 rfl ?_
      refine cv_getf flX8_83 dX8_lookUpByRule_25 rfl rfl ?_
      refine cv_getf flX8_108 dX8_lookUpByRule_28 rfl rfl ?_
      refine cv_icmp_ge (tgt := 102) dX8_lookUpByRule_31 (by decide) (by omega) (fun h31 => ?_) (fun h31 => ?_)
      · refine cv_ret rfl dX8_lookUpByRule_102 ⟨Nat.le_refl _, Nat.le_refl _⟩ ⟨rfl, by rw [show x = tN T by omega]⟩
      · obtain ⟨w1, w2⟩ := hT.2.2.2.2.2.1 r x hr (by omega)
        have hes : (if 0 < tW T r x then (0 : Int) else 1) = ((if 0 < tW T r x then 0 else 1 : Nat) : Int) := by split <;> rfl
        refine cv_aload_n dX8_lookUpByRule_34 rfl ?_
        refine cv_getf flX8_83 dX8_lookUpByRule_35 rfl rfl ?_
        refine cv_getf flX8_111 dX8_lookUpByRule_38 rfl rfl ?_
        refine cv_iload_n dX8_lookUpByRule_41 rfl ?_
        refine cv_aalj (r) (Or.inr rfl) dX8_lookUpByRule_42 rfl (by omega) (by constructor; exact hr; decide) (wS_ref r hr) ?_
        refine cv_iload dX8_lookUpByRule_43 rfl ?_
        refine cv_ialj (x) dX8_lookUpByRule_45 (wR_row T S F _ r hr) (by omega) (by omega) ?_
        refine cv_istore dX8_lookUpByRule_46 (by decide) rfl rfl ?_
        refine cv_iload dX8_lookUpByRule_48 rfl ?_
        refine cv_if_eq (tgt := 96) dX8_lookUpByRule_50 (by decide) (by omega) (fun h50 => ?_) (fun h50 => ?_)
        · refine cv_iinc dX8_lookUpByRule_96 (by decide) rfl rfl rfl ?_
          refine cv_goto (tgt := 22) dX8_lookUpByRule_99 (by decide) ?_
          refine cv_loc [0, 1, 2, 3, 4, 5, 6] rfl ?_
          have e0 : fWr T S G r e (fOwn m) (x + 1) = fWr T S G r e (fOwn m) x := if_neg (by omega)
          have := ih (x + 1) o (by omega) (by omega) ho ho2
          rw [e0] at this
          exact this
        · refine cv_iload dX8_lookUpByRule_53 rfl ?_
          refine cv_iload dX8_lookUpByRule_55 rfl ?_
          refine cv_icmp_eq (tgt := 96) dX8_lookUpByRule_57 (by decide) (by omega) (fun h57 => ?_) (fun h57 => ?_)
          · refine cv_iinc dX8_lookUpByRule_96 (by decide) rfl rfl rfl ?_
            refine cv_goto (tgt := 22) dX8_lookUpByRule_99 (by decide) ?_
            refine cv_loc [0, 1, 2, 3, 4, 5, 6] rfl ?_
            have e0 : fWr T S G r e (fOwn m) (x + 1) = fWr T S G r e (fOwn m) x := if_neg (by omega)
            have := ih (x + 1) o (by omega) (by omega) ho ho2
            rw [e0] at this
            exact this
          · refine cv_iload dX8_lookUpByRule_60 rfl ?_
            refine cv_if_le (tgt := 69) dX8_lookUpByRule_62 (by decide) (by omega) (fun h62 => ?_) (fun h62 => ?_)
            · refine cv_iconst dX8_lookUpByRule_69 ?_
              refine cv_istore dX8_lookUpByRule_70 (by decide) rfl rfl ?_
              refine cv_eq (ls' := [(0, vR 20), (1, vR 0), (2, vI r), (3, vI e), (4, vI m), (5, vI o), (6, vI x), (7, vI (tW T r x)), (8, vI (if 0 < tW T r x then 0 else 1))]) (by rw [if_neg (by omega)]; rfl) rfl rfl ?_
              exact step h50 h57 (by omega)
            · refine cv_iconst dX8_lookUpByRule_65 ?_
              refine cv_goto (tgt := 70) dX8_lookUpByRule_66 (by decide) ?_
              refine cv_istore dX8_lookUpByRule_70 (by decide) rfl rfl ?_
              refine cv_eq (ls' := [(0, vR 20), (1, vR 0), (2, vI r), (3, vI e), (4, vI m), (5, vI o), (6, vI x), (7, vI (tW T r x)), (8, vI (if 0 < tW T r x then 0 else 1))]) (by rw [if_pos (by omega)]; rfl) rfl rfl ?_
              exact step h50 h57 (by omega)
  refine cv_iload dX8_lookUpByRule_0 rfl ?_
  refine cv_bipush dX8_lookUpByRule_2 (by decide) ?_
  refine cv_icmp_ne (tgt := 12) dX8_lookUpByRule_4 (by decide) (by omega) (fun h4 => ?_) (fun h4 => ?_)
  · refine cv_iload dX8_lookUpByRule_12 rfl ?_
    refine cv_bipush dX8_lookUpByRule_14 (by decide) ?_
    refine cv_idiv dX8_lookUpByRule_16 (by omega) ?_
    refine cv_topi (fOwn m) (by unfold fOwn; rw [if_neg h4]) ?_
    have hov : -9 ≤ fOwn m ∧ fOwn m ≤ 9 := by unfold fOwn; split <;> omega
    refine cv_istore dX8_lookUpByRule_17 (by decide) rfl rfl ?_
    refine cv_iconst dX8_lookUpByRule_19 ?_
    refine cv_istore dX8_lookUpByRule_20 (by decide) rfl rfl ?_
    exact loop (tN T + 1) 0 _ (by omega) (by omega) rfl hov
  · refine cv_bipush dX8_lookUpByRule_7 (by decide) ?_
    refine cv_goto (tgt := 17) dX8_lookUpByRule_9 (by decide) ?_
    refine cv_topi (fOwn m) (by unfold fOwn; rw [if_pos h4]) ?_
    have hov : -9 ≤ fOwn m ∧ fOwn m ≤ 9 := by unfold fOwn; split <;> omega
    refine cv_istore dX8_lookUpByRule_17 (by decide) rfl rfl ?_
    refine cv_iconst dX8_lookUpByRule_19 ?_
    refine cv_istore dX8_lookUpByRule_20 (by decide) rfl rfl ?_
    exact loop (tN T + 1) 0 _ (by omega) (by omega) rfl hov
