set_option maxRecDepth 100000 in
set_option maxHeartbeats 1000000 in
theorem c_X12_ones (w : List ct_C) (s : Nat) (hs : s < 64) : CM MX12_ones (0, 0, 0) [vI s] (w) (fun v1 w1 => v1 = some (vI (pc6 s : Nat)) ∧ w1 = w) := by
  refine CM.of (by decide) (Nat.le_of_ble_eq_true rfl) ?_
  show CV MX12_ones (0, 0, 0) w.length (0, 0) 0 [(0, vI s)] [] (w) _
  have loop : ∀ (k : Nat) (i : Nat), (6 < i + k) → (i ≤ 6) → CV MX12_ones (0, 0, 0) w.length (0, 0) 4 [(0, vI s), (1, vI (bcn s i : Nat)), (2, vI i)] [] (w) (fun v1 w1 => v1 = some (vI (pc6 s : Nat)) ∧ w1 = w) := by
    intro k
    induction k with
    | zero => intro i hk hi; exact absurd hk (by omega)
    | succ k ih =>
      intro i hk hi
      refine cv_iload_n dX12_ones_4 rfl ?_
      refine cv_bipush dX12_ones_5 (by decide) ?_
      refine cv_icmp_ge (tgt := 24) dX12_ones_7 (by decide) (by omega) (fun h7 => ?_) (fun h7 => ?_)
      · refine cv_iload_n dX12_ones_24 rfl ?_
        refine cv_iret rfl dX12_ones_25 ⟨Nat.le_refl _, Nat.le_refl _⟩ ⟨ct_rI (by rw [show i = 6 by omega, bcn_6]), rfl⟩
      · refine cv_iload_n dX12_ones_10 rfl ?_
        refine cv_iload_n dX12_ones_11 rfl ?_
        refine cv_iload_n dX12_ones_12 rfl ?_
        refine cv_ishr dX12_ones_13 (by omega) ?_
        refine cv_iconst dX12_ones_14 ?_
        refine cv_iand dX12_ones_15 (by have := Int.ediv_nonneg (Int.natCast_nonneg s) (Int.natCast_nonneg (2 ^ ((i : Nat) : Int).toNat)); omega) ?_
        refine cv_topi ((s / 2 ^ i % 2 : Nat) : Int) (by rw [ct_bit i (by omega) s hs]) ?_
        refine cv_iadd dX12_ones_16 ?_
        refine cv_istore_n dX12_ones_17 (by decide) rfl rfl ?_
        refine cv_iinc dX12_ones_18 (by decide) rfl rfl rfl ?_
        refine cv_goto (tgt := 4) dX12_ones_21 (by decide) ?_
        exact ih (i + 1) (by omega) (by omega)
  refine cv_iconst dX12_ones_0 ?_
  refine cv_istore_n dX12_ones_1 (by decide) rfl rfl ?_
  refine cv_iconst dX12_ones_2 ?_
  refine cv_istore_n dX12_ones_3 (by decide) rfl rfl ?_
  exact loop 7 0 (by omega) (by omega)
set_option maxRecDepth 100000 in
set_option maxHeartbeats 1000000 in
theorem c_X12_power (w : List ct_C) (x : Int) (n : Nat) (hn : n ≤ 6) : CM MX12_power (0, 0, 0) [vI x, vI n] (w) (fun v1 w1 => v1 = some (vI (pw x n)) ∧ w1 = w) := by
  refine CM.of (by decide) (Nat.le_of_ble_eq_true rfl) ?_
  show CV MX12_power (0, 0, 0) w.length (0, 0) 0 [(0, vI x), (1, vI n)] [] (w) _
  have loop : ∀ (k : Nat) (i : Nat), (n < i + k) → (i ≤ n) → CV MX12_power (0, 0, 0) w.length (0, 0) 4 [(0, vI x), (1, vI n), (2, vI (pw x i)), (3, vI i)] [] (w) (fun v1 w1 => v1 = some (vI (pw x n)) ∧ w1 = w) := by
    intro k
    induction k with
    | zero => intro i hk hi; exact absurd hk (by omega)
    | succ k ih =>
      intro i hk hi
      refine cv_iload_n dX12_power_4 rfl ?_
      refine cv_iload_n dX12_power_5 rfl ?_
      refine cv_icmp_ge (tgt := 19) dX12_power_6 (by decide) (by omega) (fun h6 => ?_) (fun h6 => ?_)
      · refine cv_iload_n dX12_power_19 rfl ?_
        refine cv_iret rfl dX12_power_20 ⟨Nat.le_refl _, Nat.le_refl _⟩ ⟨ct_rI (by rw [show i = n by omega]), rfl⟩
      · refine cv_iload_n dX12_power_9 rfl ?_
        refine cv_iload_n dX12_power_10 rfl ?_
        refine cv_imul dX12_power_11 ?_
        refine cv_istore_n dX12_power_12 (by decide) rfl rfl ?_
        refine cv_iinc dX12_power_13 (by decide) rfl rfl rfl ?_
        refine cv_goto (tgt := 4) dX12_power_16 (by decide) ?_
        exact ih (i + 1) (by omega) (by omega)
  refine cv_iconst dX12_power_0 ?_
  refine cv_istore_n dX12_power_1 (by decide) rfl rfl ?_
  refine cv_iconst dX12_power_2 ?_
  refine cv_istore_n dX12_power_3 (by decide) rfl rfl ?_
  exact loop (n + 1) 0 (by omega) (by omega)
set_option maxRecDepth 100000 in
set_option maxHeartbeats 1000000 in
theorem c_X12_factorial (w : List ct_C) (n : Nat) (hn : n ≤ 6) : CM MX12_factorial (0, 0, 0) [vI n] (w) (fun v1 w1 => v1 = some (vI (dOrd n)) ∧ w1 = w) := by
  refine CM.of (by decide) (Nat.le_of_ble_eq_true rfl) ?_
  show CV MX12_factorial (0, 0, 0) w.length (0, 0) 0 [(0, vI n)] [] (w) _
  have loop : ∀ (k : Nat) (i : Nat), (n + 1 < i + k) → (1 ≤ i) → (i ≤ n ∨ (i = 1 ∧ n = 0)) → CV MX12_factorial (0, 0, 0) w.length (0, 0) 4 [(0, vI n), (1, vI (dOrd i)), (2, vI ((i : Int) + 1))] [] (w) (fun v1 w1 => v1 = some (vI (dOrd n)) ∧ w1 = w) := by
    intro k
    induction k with
    | zero => intro i hk hi hi2; exact absurd hk (by omega)
    | succ k ih =>
      intro i hk hi hi2
      refine cv_iload_n dX12_factorial_4 rfl ?_
      refine cv_iload_n dX12_factorial_5 rfl ?_
      refine cv_icmp_gt (tgt := 19) dX12_factorial_6 (by decide) (by omega) (fun h6 => ?_) (fun h6 => ?_)
      · refine cv_iload_n dX12_factorial_19 rfl ?_
        refine cv_iret rfl dX12_factorial_20 ⟨Nat.le_refl _, Nat.le_refl _⟩ ⟨ct_rI (by
          rcases hi2 with z | z
          · rw [show i = n by omega]
          · rw [z.1, z.2]; rfl), rfl⟩
      · refine cv_iload_n dX12_factorial_9 rfl ?_
        refine cv_iload_n dX12_factorial_10 rfl ?_
        refine cv_imul dX12_factorial_11 ?_
        refine cv_istore_n dX12_factorial_12 (by decide) rfl rfl ?_
        refine cv_iinc dX12_factorial_13 (by decide) rfl rfl rfl ?_
        refine cv_goto (tgt := 4) dX12_factorial_16 (by decide) ?_
        have := ih (i + 1) (by omega) (by omega) (Or.inl (by omega))
        rw [fac_s i (by omega), show ((i + 1 : Nat) : Int) + 1 = (i : Int) + 1 + 1 by omega] at this
        exact this
  refine cv_iconst dX12_factorial_0 ?_
  refine cv_istore_n dX12_factorial_1 (by decide) rfl rfl ?_
  refine cv_iconst dX12_factorial_2 ?_
  refine cv_istore_n dX12_factorial_3 (by decide) rfl rfl ?_
  exact loop (n + 2) 1 (by omega) (by omega) (by omega)
set_option maxRecDepth 100000 in
set_option maxHeartbeats 1000000 in
theorem c_X12_fraction (w : List ct_C) (a b : Nat) (ha : a < 2 ^ 30) (hb : b < 2 ^ 30) (h0 : 0 < b) (u : Int) (hu : u = 0 ∨ u = 1) : CM MX12_fraction (0, 0, 0) [vI a, vI b, vI u] (w) (fun v1 w1 => v1 = some (vI (fFr a b u)) ∧ w1 = w) := by
  refine CM.of (by decide) (Nat.le_of_ble_eq_true rfl) ?_
  show CV MX12_fraction (0, 0, 0) w.length (0, 0) 0 [(0, vI a), (1, vI b), (2, vI u)] [] (w) _
  have hg := Nat.gcd_pos_of_pos_right a h0
  have hl := Nat.gcd_le_right a h0
  have loop : ∀ (k x y : Nat), y < k → Nat.gcd x y = Nat.gcd a b → x < 2 ^ 30 → y < 2 ^ 30 → CV MX12_fraction (0, 0, 0) w.length (0, 0) 14 [(0, vI a), (1, vI b), (2, vI u), (3, vI x), (4, vI y)] [] (w) (fun v1 w1 => v1 = some (vI (fFr a b u)) ∧ w1 = w) := by
    intro k
    induction k with
    | zero => intro x y hk hgc hx hy; exact absurd hk (by omega)
    | succ k ih =>
      intro x y hk hgc hx hy
      refine cv_iload dX12_fraction_14 rfl ?_
      refine cv_if_eq (tgt := 35) dX12_fraction_16 (by decide) (by omega) (fun h16 => ?_) (fun h16 => ?_)
      · have ex : x = Nat.gcd a b := by rw [← hgc, show y = 0 by omega, Nat.gcd_zero_right]
        subst ex
        refine cv_iload_n dX12_fraction_35 rfl ?_
        refine cv_if_eq (tgt := 45) dX12_fraction_36 (by decide) (by omega) (fun h36 => ?_) (fun h36 => ?_)
        · refine cv_iload_n dX12_fraction_45 rfl ?_
          refine cv_iload_n dX12_fraction_46 rfl ?_
          refine cv_idiv dX12_fraction_47 (by omega) ?_
          refine cv_iret rfl dX12_fraction_48 ⟨Nat.le_refl _, Nat.le_refl _⟩ ⟨ct_rI (by unfold fFr; rw [if_pos (by omega), Int.natCast_ediv]), rfl⟩
        · refine cv_iload_n dX12_fraction_39 rfl ?_
          refine cv_iload_n dX12_fraction_40 rfl ?_
          refine cv_idiv dX12_fraction_41 (by omega) ?_
          refine cv_goto (tgt := 48) dX12_fraction_42 (by decide) ?_
          refine cv_iret rfl dX12_fraction_48 ⟨Nat.le_refl _, Nat.le_refl _⟩ ⟨ct_rI (by unfold fFr; rw [if_neg (by omega), Int.natCast_ediv]), rfl⟩
      · have hmod := Nat.mod_lt x (show 0 < y by omega)
        refine cv_iload_n dX12_fraction_19 rfl ?_
        refine cv_iload dX12_fraction_20 rfl ?_
        refine cv_irem dX12_fraction_22 (by omega) ?_
        refine cv_istore dX12_fraction_23 (by decide) rfl rfl ?_
        refine cv_iload dX12_fraction_25 rfl ?_
        refine cv_istore_n dX12_fraction_27 (by decide) rfl rfl ?_
        refine cv_iload dX12_fraction_28 rfl ?_
        refine cv_istore dX12_fraction_30 (by decide) rfl rfl ?_
        refine cv_goto (tgt := 14) dX12_fraction_32 (by decide) ?_
        refine cv_loc [0, 1, 2, 3, 4] rfl ?_
        have := ih y (x % y) (by omega) (by rw [← hgc, Nat.gcd_comm x y]; rw [Nat.gcd_rec y x, Nat.gcd_comm]) hy (by omega)
        rw [Int.natCast_emod] at this
        exact this
  refine cv_iload_n dX12_fraction_0 rfl ?_
  refine cv_if_ge (tgt := 9) dX12_fraction_1 (by decide) (by omega) (fun h1 => ?_) (fun h1 => ?_)
  · refine cv_iload_n dX12_fraction_9 rfl ?_
    refine cv_istore_n dX12_fraction_10 (by decide) rfl rfl ?_
    refine cv_iload_n dX12_fraction_11 rfl ?_
    refine cv_istore dX12_fraction_12 (by decide) rfl rfl ?_
    exact loop (b + 1) a b (by omega) rfl ha hb
  · exact absurd h1 (by omega)
set_option maxRecDepth 100000 in
set_option maxHeartbeats 1000000 in
theorem c_X12_layWorth (u v : Nat) (T : ctT) (o : Nat → Int) (A : Nat → Nat → Int) (tm tr : Int) (p st : Nat → Int) (hT : okT T) (hA : rT T A) : CM MX12_layWorth (2, 0, 0) [vR 0] (wM u v T o A tm tr p st) (fun v1 w => ∃ g h q, v1 = none ∧ w = wM u v T o (upA (upA (upA A 13 g) 14 h) 15 q) tm tr p st ∧ ∀ s, s < 2 ^ tR T → q s = fWl T (2 ^ tR T - 1 - s)) := by
  refine CM.of (by decide) (Nat.le_of_ble_eq_true rfl) ?_
  show CV MX12_layWorth (2, 0, 0) 19 (0, 0) 0 [(0, vR 0)] [] (wM u v T o A tm tr p st) _
  have hR6 := hT.2.2.1
  have h64 := ct_pow6 hR6
  have hnA := nAll_r hT
  have hp := Int.natCast_nonneg (2 ^ tR T)
  have hp2 : ((2 ^ tR T : Nat) : Int) ≤ 64 := by omega
  have l3 : ∀ (k s : Nat) (g h q : Nat → Int), 2 ^ tR T < s + k → s ≤ 2 ^ tR T → (∀ j, j < 2 ^ tR T → h j = wys T (nAll T) j) → (∀ j, j < 2 ^ tR T → q j = if j < s then wrt T j (2 ^ tR T) else 0) → CV MX12_layWorth (2, 0, 0) 19 (0, 0) 65 [(0, vR 0), (1, vI (2 ^ tR T : Nat)), (2, vI (s : Nat))] [] (wM u v T o (upA (upA (upA A 13 g) 14 h) 15 q) tm tr p st) (fun v1 w => ∃ g h q, v1 = none ∧ w = wM u v T o (upA (upA (upA A 13 g) 14 h) 15 q) tm tr p st ∧ ∀ s, s < 2 ^ tR T → q s = fWl T (2 ^ tR T - 1 - s)) := by
    intro k
    induction k with
    | zero => intro s g h q hk hi hh hq; exact absurd hk (by omega)
    | succ k ih0 =>
      intro s g h q hk hi hh hq
      have inner : ∀ (k i : Nat) (q : Nat → Int), 2 ^ tR T < i + k → i ≤ 2 ^ tR T → s < 2 ^ tR T → (∀ j, j < 2 ^ tR T → q j = if j < s then wrt T j (2 ^ tR T) else if j = s then wrt T s i else 0) → CV MX12_layWorth (2, 0, 0) 19 (0, 0) 72 [(0, vR 0), (1, vI (2 ^ tR T : Nat)), (2, vI (s : Nat)), (3, vI (i : Nat))] [] (wM u v T o (upA (upA (upA A 13 g) 14 h) 15 q) tm tr p st) (fun v1 w => ∃ g h q, v1 = none ∧ w = wM u v T o (upA (upA (upA A 13 g) 14 h) 15 q) tm tr p st ∧ ∀ s, s < 2 ^ tR T → q s = fWl T (2 ^ tR T - 1 - s)) := by
        intro k2
        induction k2 with
        | zero => intro i q hk2 hi2 hs hq2; exact absurd hk2 (by omega)
        | succ k2 ih =>
          intro i q hk2 hi2 hs hq2
          have qs := hq2 s hs
          rw [if_neg (by omega), if_pos rfl] at qs
          refine cv_iload_n dX12_layWorth_72 rfl ?_
          refine cv_iload_n dX12_layWorth_73 rfl ?_
          refine cv_icmp_ge (tgt := 108) dX12_layWorth_74 (by decide) (by omega) (fun h74 => ?_) (fun h74 => ?_)
          · refine cv_iinc dX12_layWorth_108 (by decide) rfl rfl rfl ?_
            refine cv_goto (tgt := 65) dX12_layWorth_111 (by decide) ?_
            refine cv_loc [0, 1, 2] rfl ?_
            refine ih0 (s + 1) g h q (by omega) (by omega) hh (fun j hj => ?_)
            rw [hq2 j hj]
            by_cases e : j = s
            · subst e; rw [if_neg (by omega), if_pos rfl, if_pos (by omega), show i = 2 ^ tR T by omega]
            · by_cases e2 : j < s
              · rw [if_pos e2, if_pos (by omega)]
              · rw [if_neg e2, if_neg e, if_neg (by omega)]
          · refine cv_aload_n dX12_layWorth_77 rfl ?_
            refine cv_getf flX12_53 dX12_layWorth_78 rfl rfl ?_
            refine cv_iload_n dX12_layWorth_81 rfl ?_
            refine cv_dup2 dX12_layWorth_82 rfl rfl ?_
            refine cv_ialj (s) dX12_layWorth_83 rfl (by omega) (by omega) ?_
            refine cv_topi (wrt T s i) qs ?_
            refine cv_iload_n dX12_layWorth_84 rfl ?_
            refine cv_iload_n dX12_layWorth_85 rfl ?_
            refine cv_iand dX12_layWorth_86 (by omega) ?_
            have an := Int.natCast_nonneg (i &&& s)
            have al : i &&& s ≤ i := Nat.and_le_left
            refine cv_topi ((i &&& s : Nat) : Int) (by rw [Int.toNat_natCast, Int.toNat_natCast]) ?_
            refine cv_if_ne (tgt := 99) dX12_layWorth_87 (by decide) (by omega) (fun h87 => ?_) (fun h87 => ?_)
            · refine cv_iconst dX12_layWorth_99 ?_
              refine cv_iadd dX12_layWorth_100 ?_
              refine cv_iasj (s) dX12_layWorth_101 rfl (by omega) (by omega) ?_
              refine cv_iinc dX12_layWorth_102 (by decide) rfl rfl rfl ?_
              refine cv_goto (tgt := 72) dX12_layWorth_105 (by decide) ?_
              refine ih (i + 1) (ct_up q s (wrt T s i + 0)) (by omega) (by omega) hs (fun j hj => ?_)
              by_cases e : j = s
              · subst e
                rw [ct_up_s, if_neg (by omega), if_pos rfl, wrt_s, if_neg (by omega)]
              · rw [ct_up_n e, hq2 j hj, if_neg e, if_neg e]
            · refine cv_aload_n dX12_layWorth_90 rfl ?_
              refine cv_getf flX12_50 dX12_layWorth_91 rfl rfl ?_
              refine cv_iload_n dX12_layWorth_94 rfl ?_
              refine cv_ialj (i) dX12_layWorth_95 rfl (by omega) (by omega) ?_
              refine cv_topi (wys T (nAll T) i) (hh i (by omega)) ?_
              refine cv_goto (tgt := 100) dX12_layWorth_96 (by decide) ?_
              refine cv_iadd dX12_layWorth_100 ?_
              refine cv_iasj (s) dX12_layWorth_101 rfl (by omega) (by omega) ?_
              refine cv_iinc dX12_layWorth_102 (by decide) rfl rfl rfl ?_
              refine cv_goto (tgt := 72) dX12_layWorth_105 (by decide) ?_
              refine ih (i + 1) (ct_up q s (wrt T s i + wys T (nAll T) i)) (by omega) (by omega) hs (fun j hj => ?_)
              by_cases e : j = s
              · subst e
                rw [ct_up_s, if_neg (by omega), if_pos rfl, wrt_s, if_pos (by omega)]
              · rw [ct_up_n e, hq2 j hj, if_neg e, if_neg e]
      refine cv_iload_n dX12_layWorth_65 rfl ?_
      refine cv_iload_n dX12_layWorth_66 rfl ?_
      refine cv_icmp_ge (tgt := 114) dX12_layWorth_67 (by decide) (by omega) (fun h67 => ?_) (fun h67 => ?_)
      · refine cv_ret rfl dX12_layWorth_114 ⟨Nat.le_refl _, Nat.le_refl _⟩ ⟨g, h, q, rfl, rfl, fun j hj => by rw [hq j hj, if_pos (by omega)]; exact wrt_F hT hj⟩
      · refine cv_iconst dX12_layWorth_70 ?_
        refine cv_istore_n dX12_layWorth_71 (by decide) rfl rfl ?_
        refine inner (2 ^ tR T + 1) 0 q (by omega) (by omega) (by omega) (fun j hj => ?_)
        rw [hq j hj]
        by_cases e : j < s
        · rw [if_pos e, if_pos e]
        · rw [if_neg e, if_neg e]
          split <;> rfl
  have l2 : ∀ (k m : Nat) (g h q : Nat → Int), nAll T < m + k → m ≤ nAll T → (∀ j, j < 2 ^ tR T → h j = wys T m j) → (∀ j, j < 2 ^ tR T → q j = 0) → CV MX12_layWorth (2, 0, 0) 19 (0, 0) 36 [(0, vR 0), (1, vI (2 ^ tR T : Nat)), (2, vI (m : Nat))] [] (wM u v T o (upA (upA (upA A 13 g) 14 h) 15 q) tm tr p st) (fun v1 w => ∃ g h q, v1 = none ∧ w = wM u v T o (upA (upA (upA A 13 g) 14 h) 15 q) tm tr p st ∧ ∀ s, s < 2 ^ tR T → q s = fWl T (2 ^ tR T - 1 - s)) := by
    intro k
    induction k with
    | zero => intro m g h q hk hi hh hq; exact absurd hk (by omega)
    | succ k ih =>
      intro m g h q hk hi hh hq
      have bb : bB T m < 2 ^ tR T := fBb_r T _ _ _ _ (tR T)
      refine cv_aload_n dX12_layWorth_36 rfl ?_
      refine cv_iload_n dX12_layWorth_37 rfl ?_
      refine cv_sameV (c_X12_layWay u v T o (upA (upA (upA A 13 g) 14 h) 15 q) tm tr p st hT hA m (by omega)) lkX12_layWay mlX12_253 dX12_layWorth_38 (by decide) rfl rfl (by decide) rfl (Nat.le_of_ble_eq_true rfl) ⟨Nat.le_refl _, Nat.le_refl _⟩ ?_
      intro v w1 hq2
      obtain ⟨g1, rfl, rfl, hv⟩ := hq2
      have il := ct_i_r (m < nAll T)
      refine cv_if_eq (tgt := 63) dX12_layWorth_41 (by decide) (by omega) (fun h41 => ?_) (fun h41 => ?_)
      · have cm : ¬ m < nAll T := ct_i_0.mp (by omega)
        refine cv_iconst dX12_layWorth_63 ?_
        refine cv_istore_n dX12_layWorth_64 (by decide) rfl rfl ?_
        refine l3 (2 ^ tR T + 1) 0 g1 h q (by omega) (by omega) (fun j hj => ?_) (fun j hj => ?_)
        · rw [hh j hj, show m = nAll T by omega]
        · rw [hq j hj, if_neg (by omega)]
      · have cm : m < nAll T := ct_i_1.mp (by omega)
        refine cv_aload_n dX12_layWorth_44 rfl ?_
        refine cv_getf flX12_50 dX12_layWorth_45 rfl rfl ?_
        refine cv_aload_n dX12_layWorth_48 rfl ?_
        refine cv_sameV (c_X12_broken u v T o (upA (upA (upA A 13 g1) 14 h) 15 q) tm tr p st hT hA (dV T m) hv) lkX12_broken mlX12_256 dX12_layWorth_49 (by decide) rfl rfl (by decide) rfl (Nat.le_of_ble_eq_true rfl) ⟨Nat.le_refl _, Nat.le_refl _⟩ ?_
        intro v w1 hq
        obtain ⟨rfl, rfl⟩ := hq
        refine cv_topi ((bB T m : Nat) : Int) rfl ?_
        refine cv_dup2 dX12_layWorth_52 rfl rfl ?_
        refine cv_ialj (bB T m) dX12_layWorth_53 rfl (by omega) (by omega) ?_
        refine cv_iconst dX12_layWorth_54 ?_
        refine cv_iadd dX12_layWorth_55 ?_
        refine cv_iasj (bB T m) dX12_layWorth_56 rfl (by omega) (by omega) ?_
        refine cv_iinc dX12_layWorth_57 (by decide) rfl rfl rfl ?_
        refine cv_goto (tgt := 36) dX12_layWorth_60 (by decide) ?_
        refine ih (m + 1) g1 (ct_up h (bB T m) (h (bB T m) + 1)) q (by omega) (by omega) (fun j hj => ?_) hq
        rw [wys_s]
        by_cases e : j = bB T m
        · subst e; rw [ct_up_s, hh _ hj, ct_i_t rfl]
        · rw [ct_up_n e, hh j hj, ct_i_f (fun z => e z.symm), Int.add_zero]
  have l1 : ∀ (k : Nat) (i : Nat) (h q : Nat → Int), (2 ^ tR T < i + k) → (i ≤ 2 ^ tR T) → (∀ j, j < i → h j = 0 ∧ q j = 0) → CV MX12_layWorth (2, 0, 0) 19 (0, 0) 9 [(0, vR 0), (1, vI (2 ^ tR T : Nat)), (2, vI (i : Nat))] [] (wM u v T o (upA (upA (upA A 13 (A 13)) 14 h) 15 q) tm tr p st) (fun v1 w => ∃ g h q, v1 = none ∧ w = wM u v T o (upA (upA (upA A 13 g) 14 h) 15 q) tm tr p st ∧ ∀ s, s < 2 ^ tR T → q s = fWl T (2 ^ tR T - 1 - s)) := by
    intro k
    induction k with
    | zero => intro i h q hk hi hh; exact absurd hk (by omega)
    | succ k ih =>
      intro i h q hk hi hh
      refine cv_iload_n dX12_layWorth_9 rfl ?_
      refine cv_iload_n dX12_layWorth_10 rfl ?_
      refine cv_icmp_ge (tgt := 34) dX12_layWorth_11 (by decide) (by omega) (fun h11 => ?_) (fun h11 => ?_)
      · refine cv_iconst dX12_layWorth_34 ?_
        refine cv_istore_n dX12_layWorth_35 (by decide) rfl rfl ?_
        exact l2 (nAll T + 1) 0 (A 13) h q (by omega) (by omega) (fun j hj => (hh j (by omega)).1) (fun j hj => (hh j (by omega)).2)
      · refine cv_aload_n dX12_layWorth_14 rfl ?_
        refine cv_getf flX12_50 dX12_layWorth_15 rfl rfl ?_
        refine cv_iload_n dX12_layWorth_18 rfl ?_
        refine cv_iconst dX12_layWorth_19 ?_
        refine cv_iasj (i) dX12_layWorth_20 rfl (by omega) (by omega) ?_
        refine cv_aload_n dX12_layWorth_21 rfl ?_
        refine cv_getf flX12_53 dX12_layWorth_22 rfl rfl ?_
        refine cv_iload_n dX12_layWorth_25 rfl ?_
        refine cv_iconst dX12_layWorth_26 ?_
        refine cv_iasj (i) dX12_layWorth_27 rfl (by omega) (by omega) ?_
        refine cv_iinc dX12_layWorth_28 (by decide) rfl rfl rfl ?_
        refine cv_goto (tgt := 9) dX12_layWorth_31 (by decide) ?_
        refine ih (i + 1) (ct_up h i 0) (ct_up q i 0) (by omega) (by omega) (fun j hj => ?_)
        by_cases e : j = i
        · subst e; rw [ct_up_s, ct_up_s]; exact ⟨rfl, rfl⟩
        · rw [ct_up_n e, ct_up_n e]; exact hh j (by omega)
  refine cv_iconst dX12_layWorth_0 ?_
  refine cv_aload_n dX12_layWorth_1 rfl ?_
  refine cv_getf flX12_145 dX12_layWorth_2 rfl rfl ?_
  refine cv_ishl dX12_layWorth_5 (by show 0 ≤ (1 : Int) ∧ 0 ≤ ((tR T : Nat) : Int) ∧ ((tR T : Nat) : Int) < 32; omega) ?_
  rw [ct_p2]
  refine cv_istore_n dX12_layWorth_6 (by decide) rfl rfl ?_
  refine cv_iconst dX12_layWorth_7 ?_
  refine cv_istore_n dX12_layWorth_8 (by decide) rfl rfl ?_
  exact l1 (2 ^ tR T + 1) 0 (A 14) (A 15) (by omega) (by omega) (fun j hj => absurd hj (Nat.not_lt_zero _))
set_option maxRecDepth 100000 in
set_option maxHeartbeats 1000000 in
theorem c_X12_share (T : ctT) (S : ctS) (n : Nat) (D : Nat → ctS) (y : ctY) (K : ctK) (sd : Int) (o : Nat → Int) (A : Nat → Nat → Int) (tm tr : Int) (p st : Nat → Int) (hT : okT T) (hI : I2 T S) (hst : stR st) (hM : RM T S n D y K sd o A p) (a : Int) (ar : -2147483648 ≤ a ∧ a ≤ 2147483647) (u : Int) (hu : u = 0 ∨ u = 1) : CM MX12_share (3, 0, 0) [vR 0, vI a, vI u] (wM 5 6 T o A tm tr p st) (fun v1 w => v1 = some (vI (gSh T a u)) ∧ QM T S n D y K sd w) := by
  refine CM.of (by decide) (Nat.le_of_ble_eq_true rfl) ?_
  show CV MX12_share (3, 0, 0) 19 (0, 0) 0 [(0, vR 0), (1, vI a), (2, vI u)] [] (wM 5 6 T o A tm tr p st) _
  have hJ := hI.1.1
  have hg := J_g hT hJ
  have hZ := hg.1.1
  have hN := hT.2.1
  have hN1 := hT.1
  have hR6 := hT.2.2.1
  have hC40 := hJ.2.1.2.2.1
  have hA := hM.1
  have hR := hM.2.1
  have h64 := ct_pow6 hR6
  have hp := Int.natCast_nonneg (2 ^ tR T)
  have hp2 : ((2 ^ tR T : Nat) : Int) ≤ 64 := by omega
  have loop : ∀ (k s : Nat) (g h q : Nat → Int), (0 ≤ a ∧ a < (tR T : Int)) → (∀ j, j < 2 ^ tR T → q j = fWl T (2 ^ tR T - 1 - j)) → 2 ^ tR T < s + k → s ≤ 2 ^ tR T → CV MX12_share (3, 0, 0) 19 (0, 0) 27 [(0, vR 0), (1, vI a), (2, vI u), (3, vI (shR T a.toNat s)), (4, vI (s : Nat))] [] (wM 5 6 T o (upA (upA (upA A 13 g) 14 h) 15 q) tm tr p st) (fun v1 w => v1 = some (vI (gSh T a u)) ∧ QM T S n D y K sd w) := by
    intro k
    induction k with
    | zero => intro s g h q ca hq hk hi; exact absurd hk (by omega)
    | succ k ih =>
      intro s g h q ca hq hk hi
      have fr := fSh_r hT (r := a.toNat) (by omega) (2 ^ tR T) (Nat.le_refl _)
      have d7 := dOrd_r (tR T) (by omega)
      have pc := fun hs : s < 2 ^ tR T => cm_pc (tR T) (by omega) s (by omega) hs
      have pb := fun hs : s < 2 ^ tR T => cm_bit (tR T) (by omega) a.toNat (by omega) s (by omega) hs
      have pa := Int.natCast_nonneg (2 ^ a.toNat)
      refine cv_iload dX12_share_27 rfl ?_
      refine cv_iconst dX12_share_29 ?_
      refine cv_aload_n dX12_share_30 rfl ?_
      refine cv_getf flX12_145 dX12_share_31 rfl rfl ?_
      refine cv_ishl dX12_share_34 (by show 0 ≤ (1 : Int) ∧ 0 ≤ ((tR T : Nat) : Int) ∧ ((tR T : Nat) : Int) < 32; omega) ?_
      rw [ct_p2]
      refine cv_icmp_ge (tgt := 101) dX12_share_35 (by decide) (by omega) (fun h35 => ?_) (fun h35 => ?_)
      · rw [show s = 2 ^ tR T by omega, shR_F hT (by omega)]
        refine cv_iload_n dX12_share_101 rfl ?_
        refine cv_topi (((fSh T a.toNat (2 ^ tR T)).toNat : Nat) : Int) (by omega) ?_
        refine cv_aload_n dX12_share_102 rfl ?_
        refine cv_getf flX12_145 dX12_share_103 rfl rfl ?_
        refine cv_sameS (c_X12_factorial (wM 5 6 T o (upA (upA (upA A 13 g) 14 h) 15 q) tm tr p st) (tR T) (by omega)) lkX12_factorial mlX12_320 dX12_share_106 (by decide) rfl rfl (Nat.le_of_ble_eq_true rfl) ⟨Nat.le_refl _, Nat.le_refl _⟩ ?_
        intro v w1 hq
        obtain ⟨rfl, rfl⟩ := hq
        refine cv_topi (((dOrd (tR T)).toNat : Nat) : Int) (by omega) ?_
        refine cv_iload_n dX12_share_109 rfl ?_
        refine cv_sameS (c_X12_fraction (wM 5 6 T o (upA (upA (upA A 13 g) 14 h) 15 q) tm tr p st) (fSh T a.toNat (2 ^ tR T)).toNat (dOrd (tR T)).toNat (by omega) (by omega) (by omega) u hu) lkX12_fraction mlX12_323 dX12_share_110 (by decide) rfl rfl (Nat.le_of_ble_eq_true rfl) ⟨Nat.le_refl _, Nat.le_refl _⟩ ?_
        intro v w1 hq
        obtain ⟨rfl, rfl⟩ := hq
        refine cv_iret rfl dX12_share_113 ⟨Nat.le_refl _, Nat.le_refl _⟩ ⟨ct_rI (by unfold gSh; rw [if_pos ca]), ⟨o, upA (upA (upA A 13 g) 14 h) 15 q, tm, tr, p, st, rfl, hst, RM_same hM (fun _ _ => rfl) (fun a h12 _ => by rw [upA_n (by omega), upA_n (by omega), upA_n (by omega)])⟩⟩
      · refine cv_iload dX12_share_38 rfl ?_
        refine cv_iload_n dX12_share_40 rfl ?_
        refine cv_topi ((a.toNat : Nat) : Int) (by omega) ?_
        refine cv_ishr dX12_share_41 (by omega) ?_
        refine cv_iconst dX12_share_42 ?_
        refine cv_iand dX12_share_43 (by have := Int.ediv_nonneg (Int.natCast_nonneg s) (Int.natCast_nonneg (2 ^ ((a.toNat : Nat) : Int).toNat)); omega) ?_
        refine cv_topi ((s / 2 ^ a.toNat % 2 : Nat) : Int) (by rw [ct_bit a.toNat (by omega) s (by omega)]) ?_
        refine cv_if_ne (tgt := 95) dX12_share_44 (by decide) (by omega) (fun h44 => ?_) (fun h44 => ?_)
        · refine cv_iinc dX12_share_95 (by decide) rfl rfl rfl ?_
          refine cv_goto (tgt := 27) dX12_share_98 (by decide) ?_
          refine cv_loc [0, 1, 2, 3, 4] rfl ?_
          have := ih (s + 1) g h q ca hq (by omega) (by omega)
          rw [shR_s, if_neg (by omega)] at this
          rw [Int.add_zero] at this
          exact this
        · refine cv_iload dX12_share_47 rfl ?_
          refine cv_sameS (c_X12_ones (wM 5 6 T o (upA (upA (upA A 13 g) 14 h) 15 q) tm tr p st) s (by omega)) lkX12_ones mlX12_317 dX12_share_49 (by decide) rfl rfl (Nat.le_of_ble_eq_true rfl) ⟨Nat.le_refl _, Nat.le_refl _⟩ ?_
          intro v w1 hq
          obtain ⟨rfl, rfl⟩ := hq
          refine cv_istore dX12_share_52 (by decide) rfl rfl ?_
          refine cv_iload_n dX12_share_54 rfl ?_
          refine cv_iload dX12_share_55 rfl ?_
          refine cv_sameS (c_X12_factorial (wM 5 6 T o (upA (upA (upA A 13 g) 14 h) 15 q) tm tr p st) (pc6 s) (by have := pc (by omega); omega)) lkX12_factorial mlX12_320 dX12_share_57 (by decide) rfl rfl (Nat.le_of_ble_eq_true rfl) ⟨Nat.le_refl _, Nat.le_refl _⟩ ?_
          intro v w1 hq
          obtain ⟨rfl, rfl⟩ := hq
          refine cv_aload_n dX12_share_60 rfl ?_
          refine cv_getf flX12_145 dX12_share_61 rfl rfl ?_
          refine cv_iconst dX12_share_64 ?_
          refine cv_isub dX12_share_65 ?_
          refine cv_iload dX12_share_66 rfl ?_
          refine cv_isub dX12_share_68 ?_
          refine cv_topi ((tR T - 1 - pc6 s : Nat) : Int) (by have := pc (by omega); have := (pb (by omega)).1 (by omega); have := pc6_1 a.toNat (by omega) (2 ^ tR T - 1 - s) (by omega) (by omega); omega) ?_
          refine cv_sameS (c_X12_factorial (wM 5 6 T o (upA (upA (upA A 13 g) 14 h) 15 q) tm tr p st) (tR T - 1 - pc6 s) (by omega)) lkX12_factorial mlX12_320 dX12_share_69 (by decide) rfl rfl (Nat.le_of_ble_eq_true rfl) ⟨Nat.le_refl _, Nat.le_refl _⟩ ?_
          intro v w1 hq
          obtain ⟨rfl, rfl⟩ := hq
          refine cv_imul dX12_share_72 ?_
          refine cv_aload_n dX12_share_73 rfl ?_
          refine cv_getf flX12_53 dX12_share_74 rfl rfl ?_
          refine cv_iload dX12_share_77 rfl ?_
          refine cv_ialj (s) dX12_share_79 rfl (by omega) (by omega) ?_
          refine cv_topi (fWl T (2 ^ tR T - 1 - s)) (hq s (by omega)) ?_
          refine cv_aload_n dX12_share_80 rfl ?_
          refine cv_getf flX12_53 dX12_share_81 rfl rfl ?_
          refine cv_iload dX12_share_84 rfl ?_
          refine cv_iconst dX12_share_86 ?_
          refine cv_iload_n dX12_share_87 rfl ?_
          refine cv_topi ((a.toNat : Nat) : Int) (by omega) ?_
          refine cv_ishl dX12_share_88 (by omega) ?_
          rw [ct_p2]
          refine cv_ior dX12_share_89 (by omega) ?_
          refine cv_topi ((s + 2 ^ a.toNat : Nat) : Int) (by rw [Int.toNat_natCast, Int.toNat_natCast, ((pb (by omega)).1 (by omega)).2.1]) ?_
          refine cv_ialj (s + 2 ^ a.toNat) dX12_share_90 rfl (by omega) (by have := (pb (by omega)).1 (by omega); omega) ?_
          refine cv_topi (fWl T (2 ^ tR T - 1 - (s + 2 ^ a.toNat))) (hq _ (by have := (pb (by omega)).1 (by omega); omega)) ?_
          refine cv_isub dX12_share_91 ?_
          refine cv_imul dX12_share_92 ?_
          refine cv_iadd dX12_share_93 ?_
          refine cv_istore_n dX12_share_94 (by decide) rfl rfl ?_
          refine cv_iinc dX12_share_95 (by decide) rfl rfl rfl ?_
          refine cv_goto (tgt := 27) dX12_share_98 (by decide) ?_
          refine cv_loc [0, 1, 2, 3, 4] rfl ?_
          have := ih (s + 1) g h q ca hq (by omega) (by omega)
          rw [shR_s, if_pos (by omega)] at this
          exact this
  refine cv_iload_n dX12_share_0 rfl ?_
  refine cv_i2l dX12_share_1 (by omega) ?_
  refine cv_lconst (v := 0) dX12_share_2 (by decide) ?_
  refine cv_aload_n dX12_share_3 rfl ?_
  refine cv_getf flX12_145 dX12_share_4 rfl rfl ?_
  refine cv_iconst dX12_share_7 ?_
  refine cv_isub dX12_share_8 ?_
  refine cv_i2l dX12_share_9 (by omega) ?_
  refine cv_sameS (c_X12_in (wM 5 6 T o A tm tr p st) a 0 ((tR T : Int) - 1) (by omega) (by omega) (by omega)) lkX12_in mlX12_69 dX12_share_10 (by decide) rfl rfl (Nat.le_of_ble_eq_true rfl) ⟨Nat.le_refl _, Nat.le_refl _⟩ ?_
  intro v w1 hq
  obtain ⟨rfl, rfl⟩ := hq
  have i10 := ct_i_r (0 ≤ a ∧ a ≤ ((tR T : Int) - 1))
  refine cv_if_ne (tgt := 18) dX12_share_13 (by decide) (by omega) (fun h13 => ?_) (fun h13 => ?_)
  · have ca : 0 ≤ a ∧ a ≤ ((tR T : Int) - 1) := ct_i_1.mp (by omega)
    refine cv_aload_n dX12_share_18 rfl ?_
    refine cv_sameV (c_X12_layWorth 5 6 T o A tm tr p st hT hA) lkX12_layWorth mlX12_314 dX12_share_19 (by decide) rfl rfl (by decide) rfl (Nat.le_of_ble_eq_true rfl) ⟨Nat.le_refl _, Nat.le_refl _⟩ ?_
    intro v w1 hq2
    obtain ⟨g, h, q, rfl, rfl, hq⟩ := hq2
    refine cv_iconst dX12_share_22 ?_
    refine cv_istore_n dX12_share_23 (by decide) rfl rfl ?_
    refine cv_iconst dX12_share_24 ?_
    refine cv_istore dX12_share_25 (by decide) rfl rfl ?_
    exact loop (2 ^ tR T + 1) 0 g h q (by omega) hq (by omega) (by omega)
  · have ca : ¬ (0 ≤ a ∧ a ≤ ((tR T : Int) - 1)) := ct_i_0.mp (by omega)
    refine cv_iconst dX12_share_16 ?_
    refine cv_iret rfl dX12_share_17 ⟨Nat.le_refl _, Nat.le_refl _⟩ ⟨ct_rI (by unfold gSh; rw [if_neg (by omega)]), ⟨o, A, tm, tr, p, st, rfl, hst, hM⟩⟩
set_option maxRecDepth 100000 in
set_option maxHeartbeats 1000000 in
theorem c_X12_chance (T : ctT) (S : ctS) (n : Nat) (D : Nat → ctS) (y : ctY) (K : ctK) (sd : Int) (o : Nat → Int) (A : Nat → Nat → Int) (tm tr : Int) (p st : Nat → Int) (hT : okT T) (hI : I2 T S) (hst : stR st) (hM : RM T S n D y K sd o A p) (v a : Int) (vr : -2147483648 ≤ v ∧ v ≤ 2147483647) (ar : -2147483648 ≤ a ∧ a ≤ 2147483647) (u : Int) (hu : u = 0 ∨ u = 1) : CM MX12_chance (3, 0, 0) [vR 0, vI v, vI a, vI u] (wM 5 6 T o A tm tr p st) (fun v1 w => v1 = some (vI (gCh T v a u)) ∧ QM T S n D y K sd w) := by
  refine CM.of (by decide) (Nat.le_of_ble_eq_true rfl) ?_
  show CV MX12_chance (3, 0, 0) 19 (0, 0) 0 [(0, vR 0), (1, vI v), (2, vI a), (3, vI u)] [] (wM 5 6 T o A tm tr p st) _
  have hJ := hI.1.1
  have hg := J_g hT hJ
  have hZ := hg.1.1
  have hN := hT.2.1
  have hN1 := hT.1
  have hR6 := hT.2.2.1
  have hC40 := hJ.2.1.2.2.1
  have hA := hM.1
  have hR := hM.2.1
  have h64 := ct_pow6 hR6
  have hp := Int.natCast_nonneg (2 ^ tR T)
  have hp2 : ((2 ^ tR T : Nat) : Int) ≤ 64 := by omega
  have loop : ∀ (k s : Nat) (g h q : Nat → Int), (0 ≤ v ∧ v ≤ 9999 ∧ 0 ≤ a ∧ a ≤ 10) → (∀ j, j < 2 ^ tR T → q j = fWl T (2 ^ tR T - 1 - j)) → 2 ^ tR T < s + k → s ≤ 2 ^ tR T → CV MX12_chance (3, 0, 0) 19 (0, 0) 37 [(0, vR 0), (1, vI v), (2, vI a), (3, vI u), (4, vI (chR T v a s)), (5, vI (s : Nat))] [] (wM 5 6 T o (upA (upA (upA A 13 g) 14 h) 15 q) tm tr p st) (fun v1 w => v1 = some (vI (gCh T v a u)) ∧ QM T S n D y K sd w) := by
    intro k
    induction k with
    | zero => intro s g h q ca hq hk hi; exact absurd hk (by omega)
    | succ k ih =>
      intro s g h q ca hq hk hi
      have fr := fCs_r hT (v := v) (x := a) (by omega) (2 ^ tR T)
      have t10 := p10 hR6
      have pc := fun hs : s < 2 ^ tR T => cm_pc (tR T) (by omega) s (by omega) hs
      have fl := fWl_r hT (2 ^ tR T - 1 - s)
      refine cv_iload dX12_chance_37 rfl ?_
      refine cv_iconst dX12_chance_39 ?_
      refine cv_aload_n dX12_chance_40 rfl ?_
      refine cv_getf flX12_145 dX12_chance_41 rfl rfl ?_
      refine cv_ishl dX12_chance_44 (by show 0 ≤ (1 : Int) ∧ 0 ≤ ((tR T : Nat) : Int) ∧ ((tR T : Nat) : Int) < 32; omega) ?_
      rw [ct_p2]
      refine cv_icmp_ge (tgt := 101) dX12_chance_45 (by decide) (by omega) (fun h45 => ?_) (fun h45 => ?_)
      · refine cv_iload dX12_chance_101 rfl ?_
        rw [show s = 2 ^ tR T by omega, chR_F hT]
        refine cv_topi (((fCs T v a (2 ^ tR T)).toNat : Nat) : Int) (by omega) ?_
        refine cv_bipush dX12_chance_103 (by decide) ?_
        refine cv_aload_n dX12_chance_105 rfl ?_
        refine cv_getf flX12_145 dX12_chance_106 rfl rfl ?_
        refine cv_sameS (c_X12_power (wM 5 6 T o (upA (upA (upA A 13 g) 14 h) 15 q) tm tr p st) 10 (tR T) (by omega)) lkX12_power mlX12_331 dX12_chance_109 (by decide) rfl rfl (Nat.le_of_ble_eq_true rfl) ⟨Nat.le_refl _, Nat.le_refl _⟩ ?_
        intro v w1 hq
        obtain ⟨rfl, rfl⟩ := hq
        rw [pw10]
        refine cv_iload_n dX12_chance_112 rfl ?_
        refine cv_sameS (c_X12_fraction (wM 5 6 T o (upA (upA (upA A 13 g) 14 h) 15 q) tm tr p st) (fCs T v a (2 ^ tR T)).toNat (10 ^ tR T) (by omega) (by omega) (by omega) u hu) lkX12_fraction mlX12_323 dX12_chance_113 (by decide) rfl rfl (Nat.le_of_ble_eq_true rfl) ⟨Nat.le_refl _, Nat.le_refl _⟩ ?_
        intro v w1 hq
        obtain ⟨rfl, rfl⟩ := hq
        refine cv_iret rfl dX12_chance_116 ⟨Nat.le_refl _, Nat.le_refl _⟩ ⟨ct_rI (by unfold gCh; rw [if_pos ca]), ⟨o, upA (upA (upA A 13 g) 14 h) 15 q, tm, tr, p, st, rfl, hst, RM_same hM (fun _ _ => rfl) (fun a h12 _ => by rw [upA_n (by omega), upA_n (by omega), upA_n (by omega)])⟩⟩
      · refine cv_iload dX12_chance_48 rfl ?_
        refine cv_aload_n dX12_chance_50 rfl ?_
        refine cv_getf flX12_53 dX12_chance_51 rfl rfl ?_
        refine cv_iload dX12_chance_54 rfl ?_
        refine cv_ialj (s) dX12_chance_56 rfl (by omega) (by omega) ?_
        refine cv_topi (fWl T (2 ^ tR T - 1 - s)) (hq s (by omega)) ?_
        refine cv_iload_n dX12_chance_57 rfl ?_
        refine cv_icmp_lt (tgt := 91) dX12_chance_58 (by decide) (by omega) (fun h58 => ?_) (fun h58 => ?_)
        · refine cv_iconst dX12_chance_91 ?_
          refine cv_iadd dX12_chance_92 ?_
          refine cv_istore dX12_chance_93 (by decide) rfl rfl ?_
          refine cv_iinc dX12_chance_95 (by decide) rfl rfl rfl ?_
          refine cv_goto (tgt := 37) dX12_chance_98 (by decide) ?_
          have := ih (s + 1) g h q ca hq (by omega) (by omega)
          rw [chR_s, if_pos (by omega)] at this
          exact this
        · refine cv_bipush dX12_chance_61 (by decide) ?_
          refine cv_iload_n dX12_chance_63 rfl ?_
          refine cv_isub dX12_chance_64 ?_
          refine cv_iload dX12_chance_65 rfl ?_
          refine cv_sameS (c_X12_ones (wM 5 6 T o (upA (upA (upA A 13 g) 14 h) 15 q) tm tr p st) s (by omega)) lkX12_ones mlX12_317 dX12_chance_67 (by decide) rfl rfl (Nat.le_of_ble_eq_true rfl) ⟨Nat.le_refl _, Nat.le_refl _⟩ ?_
          intro v w1 hq
          obtain ⟨rfl, rfl⟩ := hq
          refine cv_sameS (c_X12_power (wM 5 6 T o (upA (upA (upA A 13 g) 14 h) 15 q) tm tr p st) (10 - a) (pc6 s) (by have := pc (by omega); omega)) lkX12_power mlX12_331 dX12_chance_70 (by decide) rfl rfl (Nat.le_of_ble_eq_true rfl) ⟨Nat.le_refl _, Nat.le_refl _⟩ ?_
          intro v w1 hq
          obtain ⟨rfl, rfl⟩ := hq
          refine cv_iload_n dX12_chance_73 rfl ?_
          refine cv_aload_n dX12_chance_74 rfl ?_
          refine cv_getf flX12_145 dX12_chance_75 rfl rfl ?_
          refine cv_iload dX12_chance_78 rfl ?_
          refine cv_sameS (c_X12_ones (wM 5 6 T o (upA (upA (upA A 13 g) 14 h) 15 q) tm tr p st) s (by omega)) lkX12_ones mlX12_317 dX12_chance_80 (by decide) rfl rfl (Nat.le_of_ble_eq_true rfl) ⟨Nat.le_refl _, Nat.le_refl _⟩ ?_
          intro v w1 hq
          obtain ⟨rfl, rfl⟩ := hq
          refine cv_isub dX12_chance_83 ?_
          refine cv_topi ((tR T - pc6 s : Nat) : Int) (by have := pc (by omega); omega) ?_
          refine cv_sameS (c_X12_power (wM 5 6 T o (upA (upA (upA A 13 g) 14 h) 15 q) tm tr p st) a (tR T - pc6 s) (by omega)) lkX12_power mlX12_331 dX12_chance_84 (by decide) rfl rfl (Nat.le_of_ble_eq_true rfl) ⟨Nat.le_refl _, Nat.le_refl _⟩ ?_
          intro v w1 hq
          obtain ⟨rfl, rfl⟩ := hq
          refine cv_imul dX12_chance_87 ?_
          refine cv_goto (tgt := 92) dX12_chance_88 (by decide) ?_
          refine cv_iadd dX12_chance_92 ?_
          refine cv_istore dX12_chance_93 (by decide) rfl rfl ?_
          refine cv_iinc dX12_chance_95 (by decide) rfl rfl rfl ?_
          refine cv_goto (tgt := 37) dX12_chance_98 (by decide) ?_
          have := ih (s + 1) g h q ca hq (by omega) (by omega)
          rw [chR_s, if_neg (by omega)] at this
          exact this
  refine cv_iload_n dX12_chance_0 rfl ?_
  refine cv_i2l dX12_chance_1 (by omega) ?_
  refine cv_lconst (v := 0) dX12_chance_2 (by decide) ?_
  refine cv_ldc2 dX12_chance_3 kcX12_327 ?_
  refine cv_sameS (c_X12_in (wM 5 6 T o A tm tr p st) v 0 9999 (by omega) (by omega) (by omega)) lkX12_in mlX12_69 dX12_chance_6 (by decide) rfl rfl (Nat.le_of_ble_eq_true rfl) ⟨Nat.le_refl _, Nat.le_refl _⟩ ?_
  intro v w1 hq
  obtain ⟨rfl, rfl⟩ := hq
  have i6 := ct_i_r (0 ≤ v ∧ v ≤ 9999)
  refine cv_if_eq (tgt := 24) dX12_chance_9 (by decide) (by omega) (fun h9 => ?_) (fun h9 => ?_)
  · have cv : ¬ (0 ≤ v ∧ v ≤ 9999) := ct_i_0.mp (by omega)
    refine cv_bipush dX12_chance_24 (by decide) ?_
    refine cv_iret rfl dX12_chance_26 ⟨Nat.le_refl _, Nat.le_refl _⟩ ⟨ct_rI (by unfold gCh; rw [if_neg (by omega)]), ⟨o, A, tm, tr, p, st, rfl, hst, hM⟩⟩
  · have cv : 0 ≤ v ∧ v ≤ 9999 := ct_i_1.mp (by omega)
    refine cv_iload_n dX12_chance_12 rfl ?_
    refine cv_i2l dX12_chance_13 (by omega) ?_
    refine cv_lconst (v := 0) dX12_chance_14 (by decide) ?_
    refine cv_ldc2 dX12_chance_15 kcX12_329 ?_
    refine cv_sameS (c_X12_in (wM 5 6 T o A tm tr p st) a 0 10 (by omega) (by omega) (by omega)) lkX12_in mlX12_69 dX12_chance_18 (by decide) rfl rfl (Nat.le_of_ble_eq_true rfl) ⟨Nat.le_refl _, Nat.le_refl _⟩ ?_
    intro v w1 hq
    obtain ⟨rfl, rfl⟩ := hq
    have i18 := ct_i_r (0 ≤ a ∧ a ≤ 10)
    refine cv_if_ne (tgt := 27) dX12_chance_21 (by decide) (by omega) (fun h21 => ?_) (fun h21 => ?_)
    · have ca : 0 ≤ a ∧ a ≤ 10 := ct_i_1.mp (by omega)
      refine cv_aload_n dX12_chance_27 rfl ?_
      refine cv_sameV (c_X12_layWorth 5 6 T o A tm tr p st hT hA) lkX12_layWorth mlX12_314 dX12_chance_28 (by decide) rfl rfl (by decide) rfl (Nat.le_of_ble_eq_true rfl) ⟨Nat.le_refl _, Nat.le_refl _⟩ ?_
      intro v w1 hq2
      obtain ⟨g, h, q, rfl, rfl, hq⟩ := hq2
      refine cv_iconst dX12_chance_31 ?_
      refine cv_istore dX12_chance_32 (by decide) rfl rfl ?_
      refine cv_iconst dX12_chance_34 ?_
      refine cv_istore dX12_chance_35 (by decide) rfl rfl ?_
      exact loop (2 ^ tR T + 1) 0 g h q (by omega) hq (by omega) (by omega)
    · have ca : ¬ (0 ≤ a ∧ a ≤ 10) := ct_i_0.mp (by omega)
      refine cv_bipush dX12_chance_24 (by decide) ?_
      refine cv_iret rfl dX12_chance_26 ⟨Nat.le_refl _, Nat.le_refl _⟩ ⟨ct_rI (by unfold gCh; rw [if_neg (by omega)]), ⟨o, A, tm, tr, p, st, rfl, hst, hM⟩⟩
