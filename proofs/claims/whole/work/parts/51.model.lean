/-! THE REFERENCE: its object (0), its rows (1 .. 18); the row it works on at 5, the other one at 6 -/
def mF (u v : Nat) (T : ctT) (o : Nat → Int) (tm tr : Int) : List ct_V := [vR 1, vI (o 0), vI (tN T), vR 2, vI (tR T), vR 3, vR 4, vR u, vR v, vR 7, vI (o 1), vI (o 2), vR 8, vR 9, vR 10, vR 11, vI (o 3), vL (o 4), vI tm, vI tr, vR 12, vR 13, vR 14, vR 15, vI (o 5), vR 16, vI (o 6), vR 17, vR 18, vI (o 7), vI (o 8)]
def wM (u v : Nat) (T : ctT) (o : Nat → Int) (A : Nat → Nat → Int) (tm tr : Int) (p st : Nat → Int) : List ct_C := [cO 12 (mF u v T o tm tr), cA 0 60 (A 1), cA 0 4 (A 2), cA 0 24 (A 3), cA 0 6 (A 4), cA 0 471 p, cA 0 471 (A 6), cA 0 6594 (A 7), cA 0 942 (A 8), cA 1 2 (A 9), cA 0 6 (A 10), cA 0 6 (A 11), cA 0 8 st, cA 0 4 (A 13), cA 0 64 (A 14), cA 0 64 (A 15), cA 0 4 (A 16), cA 0 24 (A 17), cA 0 6 (A 18)]
/-- its task's rows -/
def rT (T : ctT) (A : Nat → Nat → Int) : Prop := (∀ x, x < tN T → A 2 x = tT T x) ∧ (∀ r x, r < tR T → x < 4 → A 3 (4 * r + x) = tW T r x) ∧ (∀ r, r < tR T → A 4 r = tB T r)
/-- a row that holds a state -/
def Rep (S : ctS) (p : Nat → Int) : Prop := p 0 = sZ S ∧ (∀ i, i < sZ S → p (1 + i) = sM S i ∧ p (37 + i) = sL S i ∧ p (73 + i) = sR S i) ∧ p 109 = sC S ∧ (∀ c, c < sC S → p (110 + c) = sCs S c ∧ ∀ k : Nat, (k : Int) < sCs S c → p (150 + 8 * c + k) = sCm S (8 * c + k)) ∧ p 470 = sH S
theorem bx_lo1 {T : ctT} {M : Nat → Int} {i x : Nat} (h : okM T (M i)) : (bx T M (i + 1)).1 x = if M i / 10 = 10 * (x : Int) then M i % 10 else (bx T M i).1 x := by
  unfold okM at h
  rw [bx_s]
  unfold drw
  by_cases q : M i / 10 = 10 * (x : Int)
  · rw [if_pos q, if_pos (by omega), show (M i / 100).toNat = x by omega]
    exact ct_up_s
  · rw [if_neg q]
    split
    · exact ct_up_n (by omega)
    · rfl
theorem bx_hi1 {T : ctT} {M : Nat → Int} {i x : Nat} (h : okM T (M i)) : (bx T M (i + 1)).2 x = if M i / 10 = 10 * (x : Int) + 1 then M i % 10 else (bx T M i).2 x := by
  unfold okM at h
  rw [bx_s]
  unfold drw
  by_cases q : M i / 10 = 10 * (x : Int) + 1
  · rw [if_pos q, if_neg (by omega), show (M i / 100).toNat = x by omega]
    exact ct_up_s
  · rw [if_neg q]
    split
    · rfl
    · exact ct_up_n (by omega)
set_option maxRecDepth 100000 in
set_option maxHeartbeats 1000000 in
theorem c_X12_in (w : List ct_C) (a b c : Int) (ha : -9223372036854775808 ≤ a ∧ a ≤ 9223372036854775807) (hb : -9223372036854775808 ≤ b ∧ b ≤ 9223372036854775807) (hc : -9223372036854775808 ≤ c ∧ c ≤ 9223372036854775807) : CM MX12_in (0, 0, 0) [vL a, vL b, vL c] (w) (fun v w1 => v = some (vI (ct_i (b ≤ a ∧ a ≤ c))) ∧ w1 = w) := by
  refine CM.of (by decide) (Nat.le_of_ble_eq_true rfl) ?_
  show CV MX12_in (0, 0, 0) w.length (0, 0) 0 [(0, vL a), (2, vL b), (4, vL c)] [] (w) _
  have c1 := ct_cmp_l (x := a) (y := b)
  have c2 := ct_cmp_l (x := a) (y := c)
  have c3 := ct_cmp_le (x := a) (y := c)
  refine cv_lload_n dX12_in_0 rfl ?_
  refine cv_lload_n dX12_in_1 rfl ?_
  refine cv_lcmp dX12_in_2 (by omega) ?_
  refine cv_if_lt (tgt := 17) dX12_in_3 (by decide) (by omega) (fun h3 => ?_) (fun h3 => ?_)
  · refine cv_iconst dX12_in_17 ?_
    refine cv_zret rfl dX12_in_18 ⟨Nat.le_refl _, Nat.le_refl _⟩ (by omega) ⟨ct_rI (by first | exact (ct_i_t (by omega)).symm | exact (ct_i_f (by omega)).symm), rfl⟩
  · refine cv_lload_n dX12_in_6 rfl ?_
    refine cv_lload dX12_in_7 rfl ?_
    refine cv_lcmp dX12_in_9 (by omega) ?_
    refine cv_if_gt (tgt := 17) dX12_in_10 (by decide) (by omega) (fun h10 => ?_) (fun h10 => ?_)
    · refine cv_iconst dX12_in_17 ?_
      refine cv_zret rfl dX12_in_18 ⟨Nat.le_refl _, Nat.le_refl _⟩ (by omega) ⟨ct_rI (by first | exact (ct_i_t (by omega)).symm | exact (ct_i_f (by omega)).symm), rfl⟩
    · refine cv_iconst dX12_in_13 ?_
      refine cv_goto (tgt := 18) dX12_in_14 (by decide) ?_
      refine cv_zret rfl dX12_in_18 ⟨Nat.le_refl _, Nat.le_refl _⟩ (by omega) ⟨ct_rI (by first | exact (ct_i_t (by omega)).symm | exact (ct_i_f (by omega)).symm), rfl⟩
set_option maxRecDepth 100000 in
set_option maxHeartbeats 1000000 in
theorem c_X12_codeOf (w : List ct_C) (x s k : Int) : CM MX12_codeOf (0, 0, 0) [vI x, vI s, vI k] (w) (fun v w1 => v = some (vI (100 * x + 10 * s + k)) ∧ w1 = w) := by
  refine CM.of (by decide) (Nat.le_of_ble_eq_true rfl) ?_
  show CV MX12_codeOf (0, 0, 0) w.length (0, 0) 0 [(0, vI x), (1, vI s), (2, vI k)] [] (w) _
  refine cv_bipush dX12_codeOf_0 (by decide) ?_
  refine cv_iload_n dX12_codeOf_2 rfl ?_
  refine cv_imul dX12_codeOf_3 ?_
  refine cv_bipush dX12_codeOf_4 (by decide) ?_
  refine cv_iload_n dX12_codeOf_6 rfl ?_
  refine cv_imul dX12_codeOf_7 ?_
  refine cv_iadd dX12_codeOf_8 ?_
  refine cv_iload_n dX12_codeOf_9 rfl ?_
  refine cv_iadd dX12_codeOf_10 ?_
  refine cv_iret rfl dX12_codeOf_11 ⟨Nat.le_refl _, Nat.le_refl _⟩ ⟨rfl, rfl⟩
set_option maxRecDepth 100000 in
set_option maxHeartbeats 1000000 in
theorem c_X12_lowAt (u v : Nat) (T : ctT) (o : Nat → Int) (A : Nat → Nat → Int) (tm tr : Int) (p st : Nat → Int) (S : ctS) (hT : okT T) (hA : rT T A) (hR : Rep S p) (hJ : J T S) (x e : Nat) (hx : x < tN T) (he : e ≤ sZ S) : CM MX12_lowAt (0, 0, 0) [vR 0, vR 5, vI x, vI e] (wM u v T o A tm tr p st) (fun v1 w => v1 = some (vI ((bx T (sM S) e).1 x)) ∧ w = wM u v T o A tm tr p st) := by
  refine CM.of (by decide) (Nat.le_of_ble_eq_true rfl) ?_
  show CV MX12_lowAt (0, 0, 0) 19 (0, 0) 0 [(0, vR 0), (1, vR 5), (2, vI x), (3, vI e)] [] (wM u v T o A tm tr p st) _
  have hg := J_g hT hJ
  have hZ := hg.1.1
  have hN := hT.2.1
  have loop : ∀ (k : Nat) (i : Nat), (e < i + k) → (i ≤ e) → CV MX12_lowAt (0, 0, 0) 19 (0, 0) 6 [(0, vR 0), (1, vR 5), (2, vI x), (3, vI e), (4, vI ((bx T (sM S) i).1 x)), (5, vI i)] [] (wM u v T o A tm tr p st) (fun v1 w => v1 = some (vI ((bx T (sM S) e).1 x)) ∧ w = wM u v T o A tm tr p st) := by
    intro k
    induction k with
    | zero => intro i hk hi; exact absurd hk (by omega)
    | succ k ih =>
      intro i hk hi
      have hbx := bx_ok hT hJ.1.1 i (by omega)
      have hb4 := hbx.1 x (by omega)
      have ht9 := hT.2.2.2.1 x (by omega)
      refine cv_iload dX12_lowAt_6 rfl ?_
      refine cv_iload_n dX12_lowAt_8 rfl ?_
      refine cv_icmp_ge (tgt := 60) dX12_lowAt_9 (by decide) (by omega) (fun h9 => ?_) (fun h9 => ?_)
      · refine cv_iload dX12_lowAt_60 rfl ?_
        refine cv_iret rfl dX12_lowAt_62 ⟨Nat.le_refl _, Nat.le_refl _⟩ ⟨ct_rI (by rw [show i = e by omega]), rfl⟩
      · have him := hJ.1.1 i (by omega)
        have hmo := him.1
        unfold okM at hmo
        have hpi := (hR.2.1 i (by omega)).1
        have hst := bx_lo1 (T := T) (x := x) him.1
        refine cv_aload_n dX12_lowAt_12 rfl ?_
        refine cv_iconst dX12_lowAt_13 ?_
        refine cv_iload dX12_lowAt_14 rfl ?_
        refine cv_iadd dX12_lowAt_16 ?_
        refine cv_ialj (1 + i) dX12_lowAt_17 rfl (by omega) (by omega) ?_
        rw [hpi]
        refine cv_istore dX12_lowAt_18 (by decide) rfl rfl ?_
        refine cv_iload dX12_lowAt_20 rfl ?_
        refine cv_bipush dX12_lowAt_22 (by decide) ?_
        refine cv_idiv dX12_lowAt_24 (by omega) ?_
        refine cv_bipush dX12_lowAt_25 (by decide) ?_
        refine cv_iload_n dX12_lowAt_27 rfl ?_
        refine cv_imul dX12_lowAt_28 ?_
        refine cv_icmp_ne (tgt := 50) dX12_lowAt_29 (by decide) (by omega) (fun h29 => ?_) (fun h29 => ?_)
        · refine cv_iload dX12_lowAt_50 rfl ?_
          refine cv_istore dX12_lowAt_52 (by decide) rfl rfl ?_
          refine cv_iinc dX12_lowAt_54 (by decide) rfl rfl rfl ?_
          refine cv_goto (tgt := 6) dX12_lowAt_57 (by decide) ?_
          refine cv_loc [0, 1, 2, 3, 4, 5] rfl ?_
          have := ih (i + 1) (by omega) (by omega)
          rw [hst, if_neg h29] at this
          exact this
        · refine cv_iload dX12_lowAt_32 rfl ?_
          refine cv_bipush dX12_lowAt_34 (by decide) ?_
          refine cv_irem dX12_lowAt_36 (by omega) ?_
          refine cv_iload dX12_lowAt_37 rfl ?_
          refine cv_icmp_le (tgt := 50) dX12_lowAt_39 (by decide) (by omega) (fun h39 => ?_) (fun h39 => ?_)
          · exact absurd h39 (by have := him.2.1; rw [show (sM S i / 100).toNat = x by omega] at this; have := this (by omega); omega)
          · refine cv_iload dX12_lowAt_42 rfl ?_
            refine cv_bipush dX12_lowAt_44 (by decide) ?_
            refine cv_irem dX12_lowAt_46 (by omega) ?_
            refine cv_goto (tgt := 52) dX12_lowAt_47 (by decide) ?_
            refine cv_istore dX12_lowAt_52 (by decide) rfl rfl ?_
            refine cv_iinc dX12_lowAt_54 (by decide) rfl rfl rfl ?_
            refine cv_goto (tgt := 6) dX12_lowAt_57 (by decide) ?_
            refine cv_loc [0, 1, 2, 3, 4, 5] rfl ?_
            have := ih (i + 1) (by omega) (by omega)
            rw [hst, if_pos (by omega)] at this
            exact this
  refine cv_iconst dX12_lowAt_0 ?_
  refine cv_istore dX12_lowAt_1 (by decide) rfl rfl ?_
  refine cv_iconst dX12_lowAt_3 ?_
  refine cv_istore dX12_lowAt_4 (by decide) rfl rfl ?_
  exact loop (e + 1) 0 (by omega) (by omega)
set_option maxRecDepth 100000 in
set_option maxHeartbeats 1000000 in
theorem c_X12_highAt (u v : Nat) (T : ctT) (o : Nat → Int) (A : Nat → Nat → Int) (tm tr : Int) (p st : Nat → Int) (S : ctS) (hT : okT T) (hA : rT T A) (hR : Rep S p) (hJ : J T S) (x e : Nat) (hx : x < tN T) (he : e ≤ sZ S) : CM MX12_highAt (0, 0, 0) [vR 0, vR 5, vI x, vI e] (wM u v T o A tm tr p st) (fun v1 w => v1 = some (vI ((bx T (sM S) e).2 x)) ∧ w = wM u v T o A tm tr p st) := by
  refine CM.of (by decide) (Nat.le_of_ble_eq_true rfl) ?_
  show CV MX12_highAt (0, 0, 0) 19 (0, 0) 0 [(0, vR 0), (1, vR 5), (2, vI x), (3, vI e)] [] (wM u v T o A tm tr p st) _
  have hg := J_g hT hJ
  have hZ := hg.1.1
  have hN := hT.2.1
  have loop : ∀ (k : Nat) (i : Nat), (e < i + k) → (i ≤ e) → CV MX12_highAt (0, 0, 0) 19 (0, 0) 11 [(0, vR 0), (1, vR 5), (2, vI x), (3, vI e), (4, vI ((bx T (sM S) i).2 x)), (5, vI i)] [] (wM u v T o A tm tr p st) (fun v1 w => v1 = some (vI ((bx T (sM S) e).2 x)) ∧ w = wM u v T o A tm tr p st) := by
    intro k
    induction k with
    | zero => intro i hk hi; exact absurd hk (by omega)
    | succ k ih =>
      intro i hk hi
      have hbx := bx_ok hT hJ.1.1 i (by omega)
      have hb4 := hbx.1 x (by omega)
      have ht9 := hT.2.2.2.1 x (by omega)
      refine cv_iload dX12_highAt_11 rfl ?_
      refine cv_iload_n dX12_highAt_13 rfl ?_
      refine cv_icmp_ge (tgt := 67) dX12_highAt_14 (by decide) (by omega) (fun h14 => ?_) (fun h14 => ?_)
      · refine cv_iload dX12_highAt_67 rfl ?_
        refine cv_iret rfl dX12_highAt_69 ⟨Nat.le_refl _, Nat.le_refl _⟩ ⟨ct_rI (by rw [show i = e by omega]), rfl⟩
      · have him := hJ.1.1 i (by omega)
        have hmo := him.1
        unfold okM at hmo
        have hpi := (hR.2.1 i (by omega)).1
        have hst := bx_hi1 (T := T) (x := x) him.1
        refine cv_aload_n dX12_highAt_17 rfl ?_
        refine cv_iconst dX12_highAt_18 ?_
        refine cv_iload dX12_highAt_19 rfl ?_
        refine cv_iadd dX12_highAt_21 ?_
        refine cv_ialj (1 + i) dX12_highAt_22 rfl (by omega) (by omega) ?_
        rw [hpi]
        refine cv_istore dX12_highAt_23 (by decide) rfl rfl ?_
        refine cv_iload dX12_highAt_25 rfl ?_
        refine cv_bipush dX12_highAt_27 (by decide) ?_
        refine cv_idiv dX12_highAt_29 (by omega) ?_
        refine cv_bipush dX12_highAt_30 (by decide) ?_
        refine cv_iload_n dX12_highAt_32 rfl ?_
        refine cv_imul dX12_highAt_33 ?_
        refine cv_iconst dX12_highAt_34 ?_
        refine cv_iadd dX12_highAt_35 ?_
        refine cv_icmp_ne (tgt := 57) dX12_highAt_36 (by decide) (by omega) (fun h36 => ?_) (fun h36 => ?_)
        · refine cv_iload dX12_highAt_57 rfl ?_
          refine cv_istore dX12_highAt_59 (by decide) rfl rfl ?_
          refine cv_iinc dX12_highAt_61 (by decide) rfl rfl rfl ?_
          refine cv_goto (tgt := 11) dX12_highAt_64 (by decide) ?_
          refine cv_loc [0, 1, 2, 3, 4, 5] rfl ?_
          have := ih (i + 1) (by omega) (by omega)
          rw [hst, if_neg h36] at this
          exact this
        · refine cv_iload dX12_highAt_39 rfl ?_
          refine cv_bipush dX12_highAt_41 (by decide) ?_
          refine cv_irem dX12_highAt_43 (by omega) ?_
          refine cv_iload dX12_highAt_44 rfl ?_
          refine cv_icmp_ge (tgt := 57) dX12_highAt_46 (by decide) (by omega) (fun h46 => ?_) (fun h46 => ?_)
          · exact absurd h46 (by have := him.2.2; rw [show (sM S i / 100).toNat = x by omega] at this; have := this (by omega); omega)
          · refine cv_iload dX12_highAt_49 rfl ?_
            refine cv_bipush dX12_highAt_51 (by decide) ?_
            refine cv_irem dX12_highAt_53 (by omega) ?_
            refine cv_goto (tgt := 59) dX12_highAt_54 (by decide) ?_
            refine cv_istore dX12_highAt_59 (by decide) rfl rfl ?_
            refine cv_iinc dX12_highAt_61 (by decide) rfl rfl rfl ?_
            refine cv_goto (tgt := 11) dX12_highAt_64 (by decide) ?_
            refine cv_loc [0, 1, 2, 3, 4, 5] rfl ?_
            have := ih (i + 1) (by omega) (by omega)
            rw [hst, if_pos (by omega)] at this
            exact this
  refine cv_aload_n dX12_highAt_0 rfl ?_
  refine cv_getf flX12_13 dX12_highAt_1 rfl rfl ?_
  refine cv_iload_n dX12_highAt_4 rfl ?_
  refine cv_ialj (x) dX12_highAt_5 rfl (by omega) (by omega) ?_
  rw [hA.1 x hx]
  refine cv_istore dX12_highAt_6 (by decide) rfl rfl ?_
  refine cv_iconst dX12_highAt_8 ?_
  refine cv_istore dX12_highAt_9 (by decide) rfl rfl ?_
  exact loop (e + 1) 0 (by omega) (by omega)
set_option maxRecDepth 100000 in
set_option maxHeartbeats 1000000 in
theorem c_X12_low (u v : Nat) (T : ctT) (o : Nat → Int) (A : Nat → Nat → Int) (tm tr : Int) (p st : Nat → Int) (S : ctS) (hT : okT T) (hA : rT T A) (hR : Rep S p) (hJ : J T S) (x : Nat) (hx : x < tN T) : CM MX12_low (1, 0, 0) [vR 0, vR 5, vI x] (wM u v T o A tm tr p st) (fun v1 w => v1 = some (vI (sLo S x)) ∧ w = wM u v T o A tm tr p st) := by
  refine CM.of (by decide) (Nat.le_of_ble_eq_true rfl) ?_
  show CV MX12_low (1, 0, 0) 19 (0, 0) 0 [(0, vR 0), (1, vR 5), (2, vI x)] [] (wM u v T o A tm tr p st) _
  have hN := hT.2.1
  refine cv_aload_n dX12_low_0 rfl ?_
  refine cv_aload_n dX12_low_1 rfl ?_
  refine cv_iload_n dX12_low_2 rfl ?_
  refine cv_aload_n dX12_low_3 rfl ?_
  refine cv_iconst dX12_low_4 ?_
  refine cv_ialj (0) dX12_low_5 rfl (by omega) (by omega) ?_
  rw [hR.1]
  refine cv_sameV (c_X12_lowAt u v T o A tm tr p st S hT hA hR hJ x (sZ S) hx (Nat.le_refl _)) lkX12_lowAt mlX12_116 dX12_low_6 (by decide) rfl rfl (by decide) rfl (Nat.le_of_ble_eq_true rfl) ⟨Nat.le_refl _, Nat.le_refl _⟩ ?_
  intro v w1 hq
  obtain ⟨rfl, rfl⟩ := hq
  refine cv_iret rfl dX12_low_9 ⟨Nat.le_refl _, Nat.le_refl _⟩ ⟨ct_rI (hJ.1.2 x (by omega)).1.symm, rfl⟩
set_option maxRecDepth 100000 in
set_option maxHeartbeats 1000000 in
theorem c_X12_high (u v : Nat) (T : ctT) (o : Nat → Int) (A : Nat → Nat → Int) (tm tr : Int) (p st : Nat → Int) (S : ctS) (hT : okT T) (hA : rT T A) (hR : Rep S p) (hJ : J T S) (x : Nat) (hx : x < tN T) : CM MX12_high (1, 0, 0) [vR 0, vR 5, vI x] (wM u v T o A tm tr p st) (fun v1 w => v1 = some (vI (sHi S x)) ∧ w = wM u v T o A tm tr p st) := by
  refine CM.of (by decide) (Nat.le_of_ble_eq_true rfl) ?_
  show CV MX12_high (1, 0, 0) 19 (0, 0) 0 [(0, vR 0), (1, vR 5), (2, vI x)] [] (wM u v T o A tm tr p st) _
  have hN := hT.2.1
  refine cv_aload_n dX12_high_0 rfl ?_
  refine cv_aload_n dX12_high_1 rfl ?_
  refine cv_iload_n dX12_high_2 rfl ?_
  refine cv_aload_n dX12_high_3 rfl ?_
  refine cv_iconst dX12_high_4 ?_
  refine cv_ialj (0) dX12_high_5 rfl (by omega) (by omega) ?_
  rw [hR.1]
  refine cv_sameV (c_X12_highAt u v T o A tm tr p st S hT hA hR hJ x (sZ S) hx (Nat.le_refl _)) lkX12_highAt mlX12_120 dX12_high_6 (by decide) rfl rfl (by decide) rfl (Nat.le_of_ble_eq_true rfl) ⟨Nat.le_refl _, Nat.le_refl _⟩ ?_
  intro v w1 hq
  obtain ⟨rfl, rfl⟩ := hq
  refine cv_iret rfl dX12_high_9 ⟨Nat.le_refl _, Nat.le_refl _⟩ ⟨ct_rI (hJ.1.2 x (by omega)).2.symm, rfl⟩
set_option maxRecDepth 100000 in
set_option maxHeartbeats 1000000 in
theorem c_X12_isSo (u v : Nat) (T : ctT) (o : Nat → Int) (A : Nat → Nat → Int) (tm tr : Int) (p st : Nat → Int) (S : ctS) (hT : okT T) (hA : rT T A) (hR : Rep S p) (hJ : J T S) (m : Int) (hm : okM T m) : CM MX12_isSo (2, 0, 0) [vR 0, vR 5, vI m] (wM u v T o A tm tr p st) (fun v1 w => v1 = some (vI (ct_i (soP S m))) ∧ w = wM u v T o A tm tr p st) := by
  refine CM.of (by decide) (Nat.le_of_ble_eq_true rfl) ?_
  show CV MX12_isSo (2, 0, 0) 19 (0, 0) 0 [(0, vR 0), (1, vR 5), (2, vI m)] [] (wM u v T o A tm tr p st) _
  have hN := hT.2.1
  have hx4 := okM_x hT hm
  unfold okM at hm
  have hg := J_g hT hJ
  have hb := hg.1.2.2.2.2.1 (m / 100).toNat hx4
  refine cv_iload_n dX12_isSo_0 rfl ?_
  refine cv_bipush dX12_isSo_1 (by decide) ?_
  refine cv_idiv dX12_isSo_3 (by omega) ?_
  refine cv_istore_n dX12_isSo_4 (by decide) rfl rfl ?_
  refine cv_iload_n dX12_isSo_5 rfl ?_
  refine cv_bipush dX12_isSo_6 (by decide) ?_
  refine cv_idiv dX12_isSo_8 (by omega) ?_
  refine cv_bipush dX12_isSo_9 (by decide) ?_
  refine cv_irem dX12_isSo_11 (by omega) ?_
  refine cv_if_ne (tgt := 36) dX12_isSo_12 (by decide) (by omega) (fun h12 => ?_) (fun h12 => ?_)
  · refine cv_iload_n dX12_isSo_36 rfl ?_
    refine cv_bipush dX12_isSo_37 (by decide) ?_
    refine cv_irem dX12_isSo_39 (by omega) ?_
    refine cv_aload_n dX12_isSo_40 rfl ?_
    refine cv_aload_n dX12_isSo_41 rfl ?_
    refine cv_iload_n dX12_isSo_42 rfl ?_
    rw [show (vI (m / 100) : ct_V) = vI (((m / 100).toNat : Nat) : Int) by rw [Int.toNat_of_nonneg (by omega)]]
    refine cv_sameV (c_X12_high u v T o A tm tr p st S hT hA hR hJ (m / 100).toNat (by omega)) lkX12_high mlX12_127 dX12_isSo_43 (by decide) rfl rfl (by decide) rfl (Nat.le_of_ble_eq_true rfl) ⟨Nat.le_refl _, Nat.le_refl _⟩ ?_
    intro v w1 hq
    obtain ⟨rfl, rfl⟩ := hq
    refine cv_icmp_lt (tgt := 53) dX12_isSo_46 (by decide) (by omega) (fun h46 => ?_) (fun h46 => ?_)
    · refine cv_iconst dX12_isSo_53 ?_
      refine cv_zret rfl dX12_isSo_54 ⟨Nat.le_refl _, Nat.le_refl _⟩ (by omega) ⟨ct_rI (by unfold soP; first | exact (ct_i_t (by constructor <;> omega)).symm | exact (ct_i_f (fun z => by have z1 := z.1; have z2 := z.2; omega)).symm), rfl⟩
    · refine cv_iconst dX12_isSo_49 ?_
      refine cv_goto (tgt := 54) dX12_isSo_50 (by decide) ?_
      refine cv_zret rfl dX12_isSo_54 ⟨Nat.le_refl _, Nat.le_refl _⟩ (by omega) ⟨ct_rI (by unfold soP; first | exact (ct_i_t (by constructor <;> omega)).symm | exact (ct_i_f (fun z => by have z1 := z.1; have z2 := z.2; omega)).symm), rfl⟩
  · refine cv_iload_n dX12_isSo_15 rfl ?_
    refine cv_bipush dX12_isSo_16 (by decide) ?_
    refine cv_irem dX12_isSo_18 (by omega) ?_
    refine cv_aload_n dX12_isSo_19 rfl ?_
    refine cv_aload_n dX12_isSo_20 rfl ?_
    refine cv_iload_n dX12_isSo_21 rfl ?_
    rw [show (vI (m / 100) : ct_V) = vI (((m / 100).toNat : Nat) : Int) by rw [Int.toNat_of_nonneg (by omega)]]
    refine cv_sameV (c_X12_low u v T o A tm tr p st S hT hA hR hJ (m / 100).toNat (by omega)) lkX12_low mlX12_123 dX12_isSo_22 (by decide) rfl rfl (by decide) rfl (Nat.le_of_ble_eq_true rfl) ⟨Nat.le_refl _, Nat.le_refl _⟩ ?_
    intro v w1 hq
    obtain ⟨rfl, rfl⟩ := hq
    refine cv_icmp_gt (tgt := 32) dX12_isSo_25 (by decide) (by omega) (fun h25 => ?_) (fun h25 => ?_)
    · refine cv_iconst dX12_isSo_32 ?_
      refine cv_goto (tgt := 54) dX12_isSo_33 (by decide) ?_
      refine cv_zret rfl dX12_isSo_54 ⟨Nat.le_refl _, Nat.le_refl _⟩ (by omega) ⟨ct_rI (by unfold soP; first | exact (ct_i_t (by constructor <;> omega)).symm | exact (ct_i_f (fun z => by have z1 := z.1; have z2 := z.2; omega)).symm), rfl⟩
    · refine cv_iconst dX12_isSo_28 ?_
      refine cv_goto (tgt := 54) dX12_isSo_29 (by decide) ?_
      refine cv_zret rfl dX12_isSo_54 ⟨Nat.le_refl _, Nat.le_refl _⟩ (by omega) ⟨ct_rI (by unfold soP; first | exact (ct_i_t (by constructor <;> omega)).symm | exact (ct_i_f (fun z => by have z1 := z.1; have z2 := z.2; omega)).symm), rfl⟩
set_option maxRecDepth 100000 in
set_option maxHeartbeats 1000000 in
theorem c_X12_isNotSo (u v : Nat) (T : ctT) (o : Nat → Int) (A : Nat → Nat → Int) (tm tr : Int) (p st : Nat → Int) (S : ctS) (hT : okT T) (hA : rT T A) (hR : Rep S p) (hJ : J T S) (m : Int) (hm : okM T m) : CM MX12_isNotSo (2, 0, 0) [vR 0, vR 5, vI m] (wM u v T o A tm tr p st) (fun v1 w => v1 = some (vI (ct_i (nsP S m))) ∧ w = wM u v T o A tm tr p st) := by
  refine CM.of (by decide) (Nat.le_of_ble_eq_true rfl) ?_
  show CV MX12_isNotSo (2, 0, 0) 19 (0, 0) 0 [(0, vR 0), (1, vR 5), (2, vI m)] [] (wM u v T o A tm tr p st) _
  have hN := hT.2.1
  have hx4 := okM_x hT hm
  unfold okM at hm
  have hg := J_g hT hJ
  have hb := hg.1.2.2.2.2.1 (m / 100).toNat hx4
  refine cv_iload_n dX12_isNotSo_0 rfl ?_
  refine cv_bipush dX12_isNotSo_1 (by decide) ?_
  refine cv_idiv dX12_isNotSo_3 (by omega) ?_
  refine cv_istore_n dX12_isNotSo_4 (by decide) rfl rfl ?_
  refine cv_iload_n dX12_isNotSo_5 rfl ?_
  refine cv_bipush dX12_isNotSo_6 (by decide) ?_
  refine cv_idiv dX12_isNotSo_8 (by omega) ?_
  refine cv_bipush dX12_isNotSo_9 (by decide) ?_
  refine cv_irem dX12_isNotSo_11 (by omega) ?_
  refine cv_if_ne (tgt := 36) dX12_isNotSo_12 (by decide) (by omega) (fun h12 => ?_) (fun h12 => ?_)
  · refine cv_iload_n dX12_isNotSo_36 rfl ?_
    refine cv_bipush dX12_isNotSo_37 (by decide) ?_
    refine cv_irem dX12_isNotSo_39 (by omega) ?_
    refine cv_aload_n dX12_isNotSo_40 rfl ?_
    refine cv_aload_n dX12_isNotSo_41 rfl ?_
    refine cv_iload_n dX12_isNotSo_42 rfl ?_
    rw [show (vI (m / 100) : ct_V) = vI (((m / 100).toNat : Nat) : Int) by rw [Int.toNat_of_nonneg (by omega)]]
    refine cv_sameV (c_X12_low u v T o A tm tr p st S hT hA hR hJ (m / 100).toNat (by omega)) lkX12_low mlX12_123 dX12_isNotSo_43 (by decide) rfl rfl (by decide) rfl (Nat.le_of_ble_eq_true rfl) ⟨Nat.le_refl _, Nat.le_refl _⟩ ?_
    intro v w1 hq
    obtain ⟨rfl, rfl⟩ := hq
    refine cv_icmp_ge (tgt := 53) dX12_isNotSo_46 (by decide) (by omega) (fun h46 => ?_) (fun h46 => ?_)
    · refine cv_iconst dX12_isNotSo_53 ?_
      refine cv_zret rfl dX12_isNotSo_54 ⟨Nat.le_refl _, Nat.le_refl _⟩ (by omega) ⟨ct_rI (by unfold nsP; first | exact (ct_i_t (by constructor <;> omega)).symm | exact (ct_i_f (fun z => by have z1 := z.1; have z2 := z.2; omega)).symm), rfl⟩
    · refine cv_iconst dX12_isNotSo_49 ?_
      refine cv_goto (tgt := 54) dX12_isNotSo_50 (by decide) ?_
      refine cv_zret rfl dX12_isNotSo_54 ⟨Nat.le_refl _, Nat.le_refl _⟩ (by omega) ⟨ct_rI (by unfold nsP; first | exact (ct_i_t (by constructor <;> omega)).symm | exact (ct_i_f (fun z => by have z1 := z.1; have z2 := z.2; omega)).symm), rfl⟩
  · refine cv_iload_n dX12_isNotSo_15 rfl ?_
    refine cv_bipush dX12_isNotSo_16 (by decide) ?_
    refine cv_irem dX12_isNotSo_18 (by omega) ?_
    refine cv_aload_n dX12_isNotSo_19 rfl ?_
    refine cv_aload_n dX12_isNotSo_20 rfl ?_
    refine cv_iload_n dX12_isNotSo_21 rfl ?_
    rw [show (vI (m / 100) : ct_V) = vI (((m / 100).toNat : Nat) : Int) by rw [Int.toNat_of_nonneg (by omega)]]
    refine cv_sameV (c_X12_high u v T o A tm tr p st S hT hA hR hJ (m / 100).toNat (by omega)) lkX12_high mlX12_127 dX12_isNotSo_22 (by decide) rfl rfl (by decide) rfl (Nat.le_of_ble_eq_true rfl) ⟨Nat.le_refl _, Nat.le_refl _⟩ ?_
    intro v w1 hq
    obtain ⟨rfl, rfl⟩ := hq
    refine cv_icmp_le (tgt := 32) dX12_isNotSo_25 (by decide) (by omega) (fun h25 => ?_) (fun h25 => ?_)
    · refine cv_iconst dX12_isNotSo_32 ?_
      refine cv_goto (tgt := 54) dX12_isNotSo_33 (by decide) ?_
      refine cv_zret rfl dX12_isNotSo_54 ⟨Nat.le_refl _, Nat.le_refl _⟩ (by omega) ⟨ct_rI (by unfold nsP; first | exact (ct_i_t (by constructor <;> omega)).symm | exact (ct_i_f (fun z => by have z1 := z.1; have z2 := z.2; omega)).symm), rfl⟩
    · refine cv_iconst dX12_isNotSo_28 ?_
      refine cv_goto (tgt := 54) dX12_isNotSo_29 (by decide) ?_
      refine cv_zret rfl dX12_isNotSo_54 ⟨Nat.le_refl _, Nat.le_refl _⟩ (by omega) ⟨ct_rI (by unfold nsP; first | exact (ct_i_t (by constructor <;> omega)).symm | exact (ct_i_f (fun z => by have z1 := z.1; have z2 := z.2; omega)).symm), rfl⟩
set_option maxRecDepth 100000 in
set_option maxHeartbeats 1000000 in
theorem c_X12_negated (w : List ct_C) (m : Int) (hm : 0 ≤ m ∧ m ≤ 999 ∧ m / 10 % 10 ≤ 1) : CM MX12_negated (1, 0, 0) [vI m] (w) (fun v w1 => v = some (vI (fNeg m)) ∧ w1 = w) := by
  refine CM.of (by decide) (Nat.le_of_ble_eq_true rfl) ?_
  show CV MX12_negated (1, 0, 0) w.length (0, 0) 0 [(0, vI m)] [] (w) _
  refine cv_iload_n dX12_negated_0 rfl ?_
  refine cv_bipush dX12_negated_1 (by decide) ?_
  refine cv_idiv dX12_negated_3 (by omega) ?_
  refine cv_istore_n dX12_negated_4 (by decide) rfl rfl ?_
  refine cv_iload_n dX12_negated_5 rfl ?_
  refine cv_bipush dX12_negated_6 (by decide) ?_
  refine cv_idiv dX12_negated_8 (by omega) ?_
  refine cv_bipush dX12_negated_9 (by decide) ?_
  refine cv_irem dX12_negated_11 (by omega) ?_
  refine cv_if_ne (tgt := 29) dX12_negated_12 (by decide) (by omega) (fun h12 => ?_) (fun h12 => ?_)
  · refine cv_iload_n dX12_negated_29 rfl ?_
    refine cv_iconst dX12_negated_30 ?_
    refine cv_iload_n dX12_negated_31 rfl ?_
    refine cv_bipush dX12_negated_32 (by decide) ?_
    refine cv_irem dX12_negated_34 (by omega) ?_
    refine cv_iconst dX12_negated_35 ?_
    refine cv_iadd dX12_negated_36 ?_
    refine cv_sameS (c_X12_codeOf w (m / 100) 0 (m % 10 + 1)) lkX12_codeOf mlX12_130 dX12_negated_37 (by decide) rfl rfl (Nat.le_of_ble_eq_true rfl) ⟨Nat.le_refl _, Nat.le_refl _⟩ ?_
    intro v w1 hq
    obtain ⟨rfl, rfl⟩ := hq
    refine cv_iret rfl dX12_negated_40 ⟨Nat.le_refl _, Nat.le_refl _⟩ ⟨ct_rI (by unfold fNeg; split <;> omega), rfl⟩
  · refine cv_iload_n dX12_negated_15 rfl ?_
    refine cv_iconst dX12_negated_16 ?_
    refine cv_iload_n dX12_negated_17 rfl ?_
    refine cv_bipush dX12_negated_18 (by decide) ?_
    refine cv_irem dX12_negated_20 (by omega) ?_
    refine cv_iconst dX12_negated_21 ?_
    refine cv_isub dX12_negated_22 ?_
    refine cv_sameS (c_X12_codeOf w (m / 100) 1 (m % 10 - 1)) lkX12_codeOf mlX12_130 dX12_negated_23 (by decide) rfl rfl (Nat.le_of_ble_eq_true rfl) ⟨Nat.le_refl _, Nat.le_refl _⟩ ?_
    intro v w1 hq
    obtain ⟨rfl, rfl⟩ := hq
    refine cv_goto (tgt := 40) dX12_negated_26 (by decide) ?_
    refine cv_iret rfl dX12_negated_40 ⟨Nat.le_refl _, Nat.le_refl _⟩ ⟨ct_rI (by unfold fNeg; split <;> omega), rfl⟩
set_option maxRecDepth 100000 in
set_option maxHeartbeats 1000000 in
theorem c_X12_levelOf (u v : Nat) (T : ctT) (o : Nat → Int) (A : Nat → Nat → Int) (tm tr : Int) (p st : Nat → Int) (S : ctS) (hT : okT T) (hA : rT T A) (hR : Rep S p) (hJ : J T S)  : CM MX12_levelOf (0, 0, 0) [vR 0, vR 5] (wM u v T o A tm tr p st) (fun v1 w => v1 = some (vI (fLv S)) ∧ w = wM u v T o A tm tr p st) := by
  refine CM.of (by decide) (Nat.le_of_ble_eq_true rfl) ?_
  show CV MX12_levelOf (0, 0, 0) 19 (0, 0) 0 [(0, vR 0), (1, vR 5)] [] (wM u v T o A tm tr p st) _
  have hg := J_g hT hJ
  have hZ := hg.1.1
  refine cv_aload_n dX12_levelOf_0 rfl ?_
  refine cv_iconst dX12_levelOf_1 ?_
  refine cv_ialj (0) dX12_levelOf_2 rfl (by omega) (by omega) ?_
  rw [hR.1]
  refine cv_if_ne (tgt := 10) dX12_levelOf_3 (by decide) (by omega) (fun h3 => ?_) (fun h3 => ?_)
  · refine cv_aload_n dX12_levelOf_10 rfl ?_
    refine cv_bipush dX12_levelOf_11 (by decide) ?_
    refine cv_aload_n dX12_levelOf_13 rfl ?_
    refine cv_iconst dX12_levelOf_14 ?_
    refine cv_ialj (0) dX12_levelOf_15 rfl (by omega) (by omega) ?_
    rw [hR.1]
    refine cv_iadd dX12_levelOf_16 ?_
    refine cv_iconst dX12_levelOf_17 ?_
    refine cv_isub dX12_levelOf_18 ?_
    refine cv_ialj (37 + (sZ S - 1)) dX12_levelOf_19 rfl (by omega) (by omega) ?_
    refine cv_iret rfl dX12_levelOf_20 ⟨Nat.le_refl _, Nat.le_refl _⟩ ⟨ct_rI (by unfold fLv; rw [if_neg (by omega)]; exact (hR.2.1 (sZ S - 1) (by omega)).2.1), rfl⟩
  · refine cv_iconst dX12_levelOf_6 ?_
    refine cv_goto (tgt := 20) dX12_levelOf_7 (by decide) ?_
    refine cv_iret rfl dX12_levelOf_20 ⟨Nat.le_refl _, Nat.le_refl _⟩ ⟨ct_rI (by unfold fLv; rw [if_pos (by omega)]), rfl⟩
set_option maxRecDepth 100000 in
set_option maxHeartbeats 1000000 in
theorem c_X12_weightOf (u v : Nat) (T : ctT) (o : Nat → Int) (A : Nat → Nat → Int) (tm tr : Int) (p st : Nat → Int) (hT : okT T) (hA : rT T A) (r x : Nat) (hr : r < tR T) (hx : x < 4) : CM MX12_weightOf (0, 0, 0) [vR 0, vI r, vI x] (wM u v T o A tm tr p st) (fun v1 w => v1 = some (vI (tW T r x)) ∧ w = wM u v T o A tm tr p st) := by
  refine CM.of (by decide) (Nat.le_of_ble_eq_true rfl) ?_
  show CV MX12_weightOf (0, 0, 0) 19 (0, 0) 0 [(0, vR 0), (1, vI r), (2, vI x)] [] (wM u v T o A tm tr p st) _
  have hR6 := hT.2.2.1
  refine cv_aload_n dX12_weightOf_0 rfl ?_
  refine cv_getf flX12_16 dX12_weightOf_1 rfl rfl ?_
  refine cv_iconst dX12_weightOf_4 ?_
  refine cv_iload_n dX12_weightOf_5 rfl ?_
  refine cv_imul dX12_weightOf_6 ?_
  refine cv_iload_n dX12_weightOf_7 rfl ?_
  refine cv_iadd dX12_weightOf_8 ?_
  refine cv_ialj (4 * r + x) dX12_weightOf_9 rfl (by omega) (by omega) ?_
  rw [hA.2.1 r x hr hx]
  refine cv_iret rfl dX12_weightOf_10 ⟨Nat.le_refl _, Nat.le_refl _⟩ ⟨rfl, rfl⟩
set_option maxRecDepth 100000 in
set_option maxHeartbeats 1000000 in
theorem c_X12_leastOf (u v : Nat) (T : ctT) (o : Nat → Int) (A : Nat → Nat → Int) (tm tr : Int) (p st : Nat → Int) (S : ctS) (hT : okT T) (hA : rT T A) (hR : Rep S p) (hJ : J T S) (r : Nat) (hr : r < tR T) : CM MX12_leastOf (2, 0, 0) [vR 0, vR 5, vI r] (wM u v T o A tm tr p st) (fun v1 w => v1 = some (vI (fLeast T S r)) ∧ w = wM u v T o A tm tr p st) := by
  refine CM.of (by decide) (Nat.le_of_ble_eq_true rfl) ?_
  show CV MX12_leastOf (2, 0, 0) 19 (0, 0) 0 [(0, vR 0), (1, vR 5), (2, vI r)] [] (wM u v T o A tm tr p st) _
  have hN := hT.2.1
  have hR6 := hT.2.2.1
  have loop : ∀ (k : Nat) (x : Nat), (tN T < x + k) → (x ≤ tN T) → CV MX12_leastOf (2, 0, 0) 19 (0, 0) 5 [(0, vR 0), (1, vR 5), (2, vI r), (3, vI (fLs T S r x)), (4, vI x)] [] (wM u v T o A tm tr p st) (fun v1 w => v1 = some (vI (fLeast T S r)) ∧ w = wM u v T o A tm tr p st) := by
    intro k
    induction k with
    | zero => intro x hk hi; exact absurd hk (by omega)
    | succ k ih =>
      intro x hk hi
      refine cv_iload dX12_leastOf_5 rfl ?_
      refine cv_aload_n dX12_leastOf_7 rfl ?_
      refine cv_getf flX12_65 dX12_leastOf_8 rfl rfl ?_
      refine cv_icmp_ge (tgt := 60) dX12_leastOf_11 (by decide) (by omega) (fun h11 => ?_) (fun h11 => ?_)
      · refine cv_iload_n dX12_leastOf_60 rfl ?_
        refine cv_iret rfl dX12_leastOf_61 ⟨Nat.le_refl _, Nat.le_refl _⟩ ⟨ct_rI (by rw [show x = tN T by omega]; rfl), rfl⟩
      · refine cv_aload_n dX12_leastOf_14 rfl ?_
        refine cv_iload_n dX12_leastOf_15 rfl ?_
        refine cv_iload dX12_leastOf_16 rfl ?_
        refine cv_sameV (c_X12_weightOf u v T o A tm tr p st hT hA r x hr (by omega)) lkX12_weightOf mlX12_134 dX12_leastOf_18 (by decide) rfl rfl (by decide) rfl (Nat.le_of_ble_eq_true rfl) ⟨Nat.le_refl _, Nat.le_refl _⟩ ?_
        intro v w1 hq
        obtain ⟨rfl, rfl⟩ := hq
        have w0 := hT.2.2.2.2.2.1 r x (by omega) (by omega)
        refine cv_istore dX12_leastOf_21 (by decide) rfl rfl ?_
        refine cv_iload_n dX12_leastOf_23 rfl ?_
        refine cv_iload dX12_leastOf_24 rfl ?_
        refine cv_if_le (tgt := 42) dX12_leastOf_26 (by decide) (by omega) (fun h26 => ?_) (fun h26 => ?_)
        · refine cv_iload dX12_leastOf_42 rfl ?_
          refine cv_aload_n dX12_leastOf_44 rfl ?_
          refine cv_aload_n dX12_leastOf_45 rfl ?_
          refine cv_iload dX12_leastOf_46 rfl ?_
          refine cv_sameV (c_X12_high u v T o A tm tr p st S hT hA hR hJ x (by omega)) lkX12_high mlX12_127 dX12_leastOf_48 (by decide) rfl rfl (by decide) rfl (Nat.le_of_ble_eq_true rfl) ⟨Nat.le_refl _, Nat.le_refl _⟩ ?_
          intro v w1 hq
          obtain ⟨rfl, rfl⟩ := hq
          refine cv_imul dX12_leastOf_51 ?_
          refine cv_iadd dX12_leastOf_52 ?_
          refine cv_istore_n dX12_leastOf_53 (by decide) rfl rfl ?_
          refine cv_iinc dX12_leastOf_54 (by decide) rfl rfl rfl ?_
          refine cv_goto (tgt := 5) dX12_leastOf_57 (by decide) ?_
          refine cv_loc [0, 1, 2, 3, 4] rfl ?_
          have e0 : fLs T S r (x + 1) = fLs T S r x + tW T r x * (if 0 < tW T r x then sLo S x else sHi S x) := rfl
          rw [if_neg (by omega)] at e0
          have := ih (x + 1) (by omega) (by omega)
          rw [e0] at this
          exact this
        · refine cv_iload dX12_leastOf_29 rfl ?_
          refine cv_aload_n dX12_leastOf_31 rfl ?_
          refine cv_aload_n dX12_leastOf_32 rfl ?_
          refine cv_iload dX12_leastOf_33 rfl ?_
          refine cv_sameV (c_X12_low u v T o A tm tr p st S hT hA hR hJ x (by omega)) lkX12_low mlX12_123 dX12_leastOf_35 (by decide) rfl rfl (by decide) rfl (Nat.le_of_ble_eq_true rfl) ⟨Nat.le_refl _, Nat.le_refl _⟩ ?_
          intro v w1 hq
          obtain ⟨rfl, rfl⟩ := hq
          refine cv_imul dX12_leastOf_38 ?_
          refine cv_goto (tgt := 52) dX12_leastOf_39 (by decide) ?_
          refine cv_iadd dX12_leastOf_52 ?_
          refine cv_istore_n dX12_leastOf_53 (by decide) rfl rfl ?_
          refine cv_iinc dX12_leastOf_54 (by decide) rfl rfl rfl ?_
          refine cv_goto (tgt := 5) dX12_leastOf_57 (by decide) ?_
          refine cv_loc [0, 1, 2, 3, 4] rfl ?_
          have e0 : fLs T S r (x + 1) = fLs T S r x + tW T r x * (if 0 < tW T r x then sLo S x else sHi S x) := rfl
          rw [if_pos (by omega)] at e0
          have := ih (x + 1) (by omega) (by omega)
          rw [e0] at this
          exact this
  refine cv_iconst dX12_leastOf_0 ?_
  refine cv_istore_n dX12_leastOf_1 (by decide) rfl rfl ?_
  refine cv_iconst dX12_leastOf_2 ?_
  refine cv_istore dX12_leastOf_3 (by decide) rfl rfl ?_
  exact loop (tN T + 1) 0 (by omega) (by omega)
set_option maxRecDepth 100000 in
set_option maxHeartbeats 1000000 in
theorem c_X12_cutMark (u v : Nat) (T : ctT) (o : Nat → Int) (A : Nat → Nat → Int) (tm tr : Int) (p st : Nat → Int) (S : ctS) (hT : okT T) (hA : rT T A) (hR : Rep S p) (hJ : J T S) (c q : Nat) (hc : c < sC S) (hq : (q : Int) < sCs S c) : CM MX12_cutMark (0, 0, 0) [vR 0, vR 5, vI c, vI q] (wM u v T o A tm tr p st) (fun v1 w => v1 = some (vI (sCm S (8 * c + q))) ∧ w = wM u v T o A tm tr p st) := by
  refine CM.of (by decide) (Nat.le_of_ble_eq_true rfl) ?_
  show CV MX12_cutMark (0, 0, 0) 19 (0, 0) 0 [(0, vR 0), (1, vR 5), (2, vI c), (3, vI q)] [] (wM u v T o A tm tr p st) _
  have hc40 := hJ.2.1.2.2.1
  have hc8 := hJ.2.1.2.2.2.1 c hc
  refine cv_aload_n dX12_cutMark_0 rfl ?_
  refine cv_sipush dX12_cutMark_1 (by decide) ?_
  refine cv_bipush dX12_cutMark_4 (by decide) ?_
  refine cv_iload_n dX12_cutMark_6 rfl ?_
  refine cv_imul dX12_cutMark_7 ?_
  refine cv_iadd dX12_cutMark_8 ?_
  refine cv_iload_n dX12_cutMark_9 rfl ?_
  refine cv_iadd dX12_cutMark_10 ?_
  refine cv_ialj (150 + 8 * c + q) dX12_cutMark_11 rfl (by omega) (by omega) ?_
  rw [(hR.2.2.2.1 c hc).2 q hq]
  refine cv_iret rfl dX12_cutMark_12 ⟨Nat.le_refl _, Nat.le_refl _⟩ ⟨rfl, rfl⟩
