/-- the row is counted, or to be counted -/
def okW (T : ctT) (n : Int) (f : Nat → Int) : Prop := n = 0 ∨ (n = 1 ∧ ∀ s, s < 64 → f s = fWl T s)
def fZ (f : Nat → Int) : Nat → (Nat → Int)
  | 0 => f
  | i + 1 => ct_up (fZ f i) i 0
theorem fZ_at (f : Nat → Int) : ∀ (i j : Nat), fZ f i j = if j < i then 0 else f j
  | 0, j => by rw [if_neg (by omega)]; rfl
  | i + 1, j => by
    show ct_up (fZ f i) i 0 j = _
    by_cases h : j = i
    · subst h; rw [ct_up_s, if_pos (by omega)]
    · rw [ct_up_n h, fZ_at f i j]
      by_cases h2 : j < i
      · rw [if_pos h2, if_pos (by omega)]
      · rw [if_neg h2, if_neg (by omega)]
noncomputable def gI (T : ctT) (s : Nat) (a b c d : Int) : Int := ct_i (sbR 0 (fBb T a b c d (tR T)) s)
theorem sb0 {k s : Nat} : sbR 0 k s ↔ k = s := by
  unfold sbR
  rw [Nat.pow_zero, Nat.mod_one, Nat.mod_one, Nat.div_one, Nat.div_one]
  exact ⟨fun h => h.2, fun h => ⟨rfl, h⟩⟩
theorem sN_s (g : Int → Int) (k : Nat) : sN g 0 (k + 1) = sN g 0 k + g k := by
  show sN g 0 k + g (0 + k) = _
  rw [Int.zero_add]
set_option maxRecDepth 100000 in
set_option maxHeartbeats 1000000 in
theorem c_X1_countAll (T : ctT) (S : ctS) (n : Int) (f : Nat → Int) (hT : okT T) (hW : okW T n f) : CM MX1_countAll (1, 0, 0) [vR 20] (wCh T S n f) (fun v w => ∃ f1, v = none ∧ w = wCh T S 1 f1 ∧ ∀ s, s < 64 → f1 s = fWl T s) := by
  refine CM.of (by decide) (Nat.le_of_ble_eq_true rfl) ?_
  show CV MX1_countAll (1, 0, 0) 22 (0, 0) 0 [(0, vR 20)] [] (wCh T S n f) _
  have t0 := hT.2.2.2.1 0 (by omega)
  have t1 := hT.2.2.2.1 1 (by omega)
  have t2 := hT.2.2.2.1 2 (by omega)
  have t3 := hT.2.2.2.1 3 (by omega)
  have l3 : ∀ (k : Nat) (i a b c : Nat) (base g : Nat → Int), (nV T 3 < i + k) → (i ≤ nV T 3) → (a ≤ 9 ∧ b ≤ 9 ∧ c ≤ 9) → (∀ s, s < 64 → g s = base s + sN (gI T s a b c) 0 i) → (∀ (z : Int) (g : Nat → Int), (∀ s, s < 64 → g s = base s + S1 T (gI T s a b c)) → CV MX1_countAll (1, 0, 0) 22 (0, 0) 115 [(0, vR 20), (1, vI a), (2, vI b), (3, vI c), (4, vI z)] [] (wCh T S n g) (fun v w => ∃ f1, v = none ∧ w = wCh T S 1 f1 ∧ ∀ s, s < 64 → f1 s = fWl T s)) → CV MX1_countAll (1, 0, 0) 22 (0, 0) 77 [(0, vR 20), (1, vI a), (2, vI b), (3, vI c), (4, vI i)] [] (wCh T S n g) (fun v w => ∃ f1, v = none ∧ w = wCh T S 1 f1 ∧ ∀ s, s < 64 → f1 s = fWl T s) := by
    intro k
    induction k with
    | zero => intro i a b c base g hk hi hv hg hx; exact absurd hk (by omega)
    | succ k ih =>
      intro i a b c base g hk hi hv hg hx
      have hn3 : nV T 3 = (tT T 3).toNat + 1 := rfl
      have hbk := fBb_64 hT (a : Int) (b : Int) (c : Int) (i : Int)
      refine cv_iload dX1_countAll_77 rfl ?_
      refine cv_aload_n dX1_countAll_79 rfl ?_
      refine cv_getf flX1_19 dX1_countAll_80 rfl rfl ?_
      refine cv_getf flX1_49 dX1_countAll_83 rfl rfl ?_
      refine cv_iconst dX1_countAll_86 ?_
      refine cv_ialj (3) dX1_countAll_87 rfl (by omega) (by omega) ?_
      refine cv_icmp_gt (tgt := 115) dX1_countAll_88 (by decide) (by omega) (fun h88 => ?_) (fun h88 => ?_)
      · refine hx _ g (fun s hs => ?_)
        rw [hg s hs, show i = nV T 3 by omega]
        rfl
      · refine cv_aload_n dX1_countAll_91 rfl ?_
        refine cv_getf flX1_9 dX1_countAll_92 rfl rfl ?_
        refine cv_aload_n dX1_countAll_95 rfl ?_
        refine cv_iload_n dX1_countAll_96 rfl ?_
        refine cv_iload_n dX1_countAll_97 rfl ?_
        refine cv_iload_n dX1_countAll_98 rfl ?_
        refine cv_iload dX1_countAll_99 rfl ?_
        refine cv_sameV (c_X1_brokenBy T S n g hT a b c i (by omega)) lkX1_brokenBy mlX1_52 dX1_countAll_101 (by decide) rfl rfl (by decide) rfl (Nat.le_of_ble_eq_true rfl) ⟨Nat.le_refl _, Nat.le_refl _⟩ ?_
        intro v w1 hq
        obtain ⟨rfl, rfl⟩ := hq
        refine cv_dup2 dX1_countAll_104 rfl rfl ?_
        refine cv_ialj (fBb T a b c i (tR T)) dX1_countAll_105 rfl (by omega) (by omega) ?_
        refine cv_iconst dX1_countAll_106 ?_
        refine cv_iadd dX1_countAll_107 ?_
        refine cv_iasj (fBb T a b c i (tR T)) dX1_countAll_108 rfl (by omega) (by omega) ?_
        refine cv_iinc dX1_countAll_109 (by decide) rfl rfl rfl ?_
        refine cv_goto (tgt := 77) dX1_countAll_112 (by decide) ?_
        refine ih (i + 1) a b c base _ (by omega) (by omega) hv (fun s hs => ?_) hx
        rw [sN_s, ← Int.add_assoc, ← hg s hs]
        by_cases e : s = fBb T a b c i (tR T)
        · subst e
          rw [ct_up_s, show gI T _ (a : Int) b c i = 1 from ct_i_t (sb0.mpr rfl)]
        · rw [ct_up_n e, show gI T s (a : Int) b c i = 0 from ct_i_f (fun q => e (sb0.mp q).symm)]
          omega
  have l2 : ∀ (k : Nat) (i a b : Nat) (base g : Nat → Int), (nV T 2 < i + k) → (i ≤ nV T 2) → (a ≤ 9 ∧ b ≤ 9) → (∀ s, s < 64 → g s = base s + sN (fun c => S1 T (gI T s a b c)) 0 i) → (∀ (z : Int) (g : Nat → Int), (∀ s, s < 64 → g s = base s + S2 T (gI T s a b)) → CV MX1_countAll (1, 0, 0) 22 (0, 0) 121 [(0, vR 20), (1, vI a), (2, vI b), (3, vI z)] [] (wCh T S n g) (fun v w => ∃ f1, v = none ∧ w = wCh T S 1 f1 ∧ ∀ s, s < 64 → f1 s = fWl T s)) → CV MX1_countAll (1, 0, 0) 22 (0, 0) 61 [(0, vR 20), (1, vI a), (2, vI b), (3, vI i)] [] (wCh T S n g) (fun v w => ∃ f1, v = none ∧ w = wCh T S 1 f1 ∧ ∀ s, s < 64 → f1 s = fWl T s) := by
    intro k
    induction k with
    | zero => intro i a b base g hk hi hv hg hx; exact absurd hk (by omega)
    | succ k ih =>
      intro i a b base g hk hi hv hg hx
      have hn : nV T 2 = (tT T 2).toNat + 1 := rfl
      refine cv_iload_n dX1_countAll_61 rfl ?_
      refine cv_aload_n dX1_countAll_62 rfl ?_
      refine cv_getf flX1_19 dX1_countAll_63 rfl rfl ?_
      refine cv_getf flX1_49 dX1_countAll_66 rfl rfl ?_
      refine cv_iconst dX1_countAll_69 ?_
      refine cv_ialj (2) dX1_countAll_70 rfl (by omega) (by omega) ?_
      refine cv_icmp_gt (tgt := 121) dX1_countAll_71 (by decide) (by omega) (fun h71 => ?_) (fun h71 => ?_)
      · refine hx _ g (fun s hs => ?_)
        rw [hg s hs, show i = nV T 2 by omega]
        rfl
      · refine cv_iconst dX1_countAll_74 ?_
        refine cv_istore dX1_countAll_75 (by decide) rfl rfl ?_
        refine l3 (nV T 3 + 1) 0 a b i g g (by omega) (by omega) (by omega) (fun s hs => by show g s = g s + 0; omega) (fun z g1 h1 => ?_)
        refine cv_iinc dX1_countAll_115 (by decide) rfl rfl rfl ?_
        refine cv_goto (tgt := 61) dX1_countAll_118 (by decide) ?_
        refine cv_loc [0, 1, 2, 3] rfl ?_
        exact ih (i + 1) a b base g1 (by omega) (by omega) hv (fun s hs => by rw [h1 s hs, hg s hs, sN_s]; omega) hx
  have l1 : ∀ (k : Nat) (i a : Nat) (base g : Nat → Int), (nV T 1 < i + k) → (i ≤ nV T 1) → (a ≤ 9) → (∀ s, s < 64 → g s = base s + sN (fun b => S2 T (gI T s a b)) 0 i) → (∀ (z : Int) (g : Nat → Int), (∀ s, s < 64 → g s = base s + S3 T (gI T s a)) → CV MX1_countAll (1, 0, 0) 22 (0, 0) 127 [(0, vR 20), (1, vI a), (2, vI z)] [] (wCh T S n g) (fun v w => ∃ f1, v = none ∧ w = wCh T S 1 f1 ∧ ∀ s, s < 64 → f1 s = fWl T s)) → CV MX1_countAll (1, 0, 0) 22 (0, 0) 46 [(0, vR 20), (1, vI a), (2, vI i)] [] (wCh T S n g) (fun v w => ∃ f1, v = none ∧ w = wCh T S 1 f1 ∧ ∀ s, s < 64 → f1 s = fWl T s) := by
    intro k
    induction k with
    | zero => intro i a base g hk hi hv hg hx; exact absurd hk (by omega)
    | succ k ih =>
      intro i a base g hk hi hv hg hx
      have hn : nV T 1 = (tT T 1).toNat + 1 := rfl
      refine cv_iload_n dX1_countAll_46 rfl ?_
      refine cv_aload_n dX1_countAll_47 rfl ?_
      refine cv_getf flX1_19 dX1_countAll_48 rfl rfl ?_
      refine cv_getf flX1_49 dX1_countAll_51 rfl rfl ?_
      refine cv_iconst dX1_countAll_54 ?_
      refine cv_ialj (1) dX1_countAll_55 rfl (by omega) (by omega) ?_
      refine cv_icmp_gt (tgt := 127) dX1_countAll_56 (by decide) (by omega) (fun h56 => ?_) (fun h56 => ?_)
      · refine hx _ g (fun s hs => ?_)
        rw [hg s hs, show i = nV T 1 by omega]
        rfl
      · refine cv_iconst dX1_countAll_59 ?_
        refine cv_istore_n dX1_countAll_60 (by decide) rfl rfl ?_
        refine l2 (nV T 2 + 1) 0 a i g g (by omega) (by omega) (by omega) (fun s hs => by show g s = g s + 0; omega) (fun z g1 h1 => ?_)
        refine cv_iinc dX1_countAll_121 (by decide) rfl rfl rfl ?_
        refine cv_goto (tgt := 46) dX1_countAll_124 (by decide) ?_
        refine cv_loc [0, 1, 2] rfl ?_
        exact ih (i + 1) a base g1 (by omega) (by omega) hv (fun s hs => by rw [h1 s hs, hg s hs, sN_s]; omega) hx
  have l0 : ∀ (k : Nat) (i : Nat) (g : Nat → Int), (nV T 0 < i + k) → (i ≤ nV T 0) → (∀ s, s < 64 → g s = sN (fun a => S3 T (gI T s a)) 0 i) → CV MX1_countAll (1, 0, 0) 22 (0, 0) 31 [(0, vR 20), (1, vI i)] [] (wCh T S n g) (fun v w => ∃ f1, v = none ∧ w = wCh T S 1 f1 ∧ ∀ s, s < 64 → f1 s = fWl T s) := by
    intro k
    induction k with
    | zero => intro i g hk hi hg; exact absurd hk (by omega)
    | succ k ih =>
      intro i g hk hi hg
      have hn : nV T 0 = (tT T 0).toNat + 1 := rfl
      refine cv_iload_n dX1_countAll_31 rfl ?_
      refine cv_aload_n dX1_countAll_32 rfl ?_
      refine cv_getf flX1_19 dX1_countAll_33 rfl rfl ?_
      refine cv_getf flX1_49 dX1_countAll_36 rfl rfl ?_
      refine cv_iconst dX1_countAll_39 ?_
      refine cv_ialj (0) dX1_countAll_40 rfl (by omega) (by omega) ?_
      refine cv_icmp_gt (tgt := 133) dX1_countAll_41 (by decide) (by omega) (fun h41 => ?_) (fun h41 => ?_)
      · refine cv_aload_n dX1_countAll_133 rfl ?_
        refine cv_sameV (c_X1_addSmallerSets T S n g hT) lkX1_addSmallerSets mlX1_56 dX1_countAll_134 (by decide) rfl rfl (by decide) rfl (Nat.le_of_ble_eq_true rfl) ⟨Nat.le_refl _, Nat.le_refl _⟩ ?_
        intro v w1 hq
        obtain ⟨rfl, rfl⟩ := hq
        refine cv_aload_n dX1_countAll_137 rfl ?_
        refine cv_iconst dX1_countAll_138 ?_
        refine cv_putf fpX1_15 dX1_countAll_139 rfl (Nat.le_of_ble_eq_true rfl) (fun _ => ⟨rfl, rfl⟩) ?_
        refine cv_ret rfl dX1_countAll_142 ⟨Nat.le_refl _, Nat.le_refl _⟩ ⟨fSos g 6, rfl, rfl, fun s hs => fSos_cnt hT (fun s hs => by rw [hg s hs, show i = nV T 0 by omega]; rfl) 6 (Nat.le_refl _) s hs⟩
      · refine cv_iconst dX1_countAll_44 ?_
        refine cv_istore_n dX1_countAll_45 (by decide) rfl rfl ?_
        refine l1 (nV T 1 + 1) 0 i g g (by omega) (by omega) (by omega) (fun s hs => by show g s = g s + 0; omega) (fun z g1 h1 => ?_)
        refine cv_iinc dX1_countAll_127 (by decide) rfl rfl rfl ?_
        refine cv_goto (tgt := 31) dX1_countAll_130 (by decide) ?_
        refine cv_loc [0, 1] rfl ?_
        exact ih (i + 1) g1 (by omega) (by omega) (fun s hs => by rw [h1 s hs, hg s hs, sN_s])
  have lz : ∀ (k : Nat) (i : Nat), (64 < i + k) → (i ≤ 64) → CV MX1_countAll (1, 0, 0) 22 (0, 0) 10 [(0, vR 20), (1, vI i)] [] (wCh T S n (fZ f i)) (fun v w => ∃ f1, v = none ∧ w = wCh T S 1 f1 ∧ ∀ s, s < 64 → f1 s = fWl T s) := by
    intro k
    induction k with
    | zero => intro i hk hi; exact absurd hk (by omega)
    | succ k ih =>
      intro i hk hi
      refine cv_iload_n dX1_countAll_10 rfl ?_
      refine cv_bipush dX1_countAll_11 (by decide) ?_
      refine cv_icmp_ge (tgt := 29) dX1_countAll_13 (by decide) (by omega) (fun h13 => ?_) (fun h13 => ?_)
      · refine cv_iconst dX1_countAll_29 ?_
        refine cv_istore_n dX1_countAll_30 (by decide) rfl rfl ?_
        have e1 : i = 64 := by omega
        subst e1
        exact l0 (nV T 0 + 1) 0 (fZ f 64) (by omega) (by omega) (fun s hs => by rw [fZ_at, if_pos hs]; rfl)
      · refine cv_aload_n dX1_countAll_16 rfl ?_
        refine cv_getf flX1_9 dX1_countAll_17 rfl rfl ?_
        refine cv_iload_n dX1_countAll_20 rfl ?_
        refine cv_iconst dX1_countAll_21 ?_
        refine cv_iasj (i) dX1_countAll_22 rfl (by omega) (by omega) ?_
        refine cv_iinc dX1_countAll_23 (by decide) rfl rfl rfl ?_
        refine cv_goto (tgt := 10) dX1_countAll_26 (by decide) ?_
        exact ih (i + 1) (by omega) (by omega)
  refine cv_aload_n dX1_countAll_0 rfl ?_
  refine cv_getf flX1_15 dX1_countAll_1 rfl rfl ?_
  refine cv_if_eq (tgt := 8) dX1_countAll_4 (by decide) (by rcases hW with h | h <;> omega) (fun h4 => ?_) (fun h4 => ?_)
  · refine cv_iconst dX1_countAll_8 ?_
    refine cv_istore_n dX1_countAll_9 (by decide) rfl rfl ?_
    exact lz 65 0 (by omega) (by omega)
  · refine cv_ret rfl dX1_countAll_7 ⟨Nat.le_refl _, Nat.le_refl _⟩ (by
      rcases hW with h | h
      · exact absurd h h4
      · exact ⟨f, rfl, by rw [h.1], h.2⟩)
noncomputable def fCs (T : ctT) (v x : Int) : Nat → Int
  | 0 => 0
  | l + 1 => fCs T v x l + @ite _ (fWl T l < v) (Classical.propDecidable _) 0 (fWg x l (tR T))
theorem fCs_s (T : ctT) (v x : Int) (l : Nat) : fCs T v x (l + 1) = fCs T v x l + @ite _ (fWl T l < v) (Classical.propDecidable _) 0 (fWg x l (tR T)) := rfl
theorem p10 {r : Nat} (h : r ≤ 6) : 10 ^ r ≤ 1000000 ∧ 1 ≤ 10 ^ r := ⟨Nat.pow_le_pow_right (n := 10) (by decide) h, Nat.pow_pos (by decide)⟩
theorem fCs_r {T : ctT} (hT : okT T) {v x : Int} (hx : 0 ≤ x ∧ x ≤ 10) : ∀ l : Nat, 0 ≤ fCs T v x l ∧ fCs T v x l ≤ 1000000 * (l : Int)
  | 0 => by simp [fCs]
  | l + 1 => by
    have h0 := fCs_r hT (v := v) hx l
    have h1 := fWg_r hx l (tR T)
    have h2 := (p10 hT.2.2.1).1
    have h3 : ((10 ^ tR T : Nat) : Int) ≤ ((1000000 : Nat) : Int) := Int.ofNat_le.mpr h2
    rw [fCs_s]
    split <;> omega
set_option maxRecDepth 100000 in
set_option maxHeartbeats 1000000 in
theorem c_X1_chanceOf (T : ctT) (S : ctS) (n : Int) (f : Nat → Int) (hT : okT T) (hW : okW T n f) (v x u : Int) (hv : 0 ≤ v ∧ v ≤ 9999 ∧ 0 ≤ x ∧ x ≤ 10) (hu : u = 0 ∨ u = 1) : CM MX1_chanceOf (2, 0, 0) [vR 20, vI v, vI x, vI u] (wCh T S n f) (fun r w => ∃ f1, r = some (vI (fFr (fCs T v x (2 ^ tR T)).toNat (10 ^ tR T) u)) ∧ w = wCh T S 1 f1 ∧ ∀ s, s < 64 → f1 s = fWl T s) := by
  refine CM.of (by decide) (Nat.le_of_ble_eq_true rfl) ?_
  show CV MX1_chanceOf (2, 0, 0) 22 (0, 0) 0 [(0, vR 20), (1, vI v), (2, vI x), (3, vI u)] [] (wCh T S n f) _
  have hR := hT.2.2.1
  have h2 := ct_pow6 hR
  have hp := p10 hR
  have hcr := fCs_r hT (v := v) (x := x) (by omega) (2 ^ tR T)
  have loop2 : ∀ (k : Nat) (l : Nat) (g : Nat → Int), (2 ^ tR T < l + k) → (l ≤ 2 ^ tR T) → (∀ s, s < 64 → g s = fWl T s) → CV MX1_chanceOf (2, 0, 0) 22 (0, 0) 41 [(0, vR 20), (1, vI v), (2, vI x), (3, vI u), (4, vI (fCs T v x l)), (5, vI ((10 ^ tR T : Nat) : Int)), (6, vI l)] [] (wCh T S 1 g) (fun r w => ∃ f1, r = some (vI (fFr (fCs T v x (2 ^ tR T)).toNat (10 ^ tR T) u)) ∧ w = wCh T S 1 f1 ∧ ∀ s, s < 64 → f1 s = fWl T s) := by
    intro k
    induction k with
    | zero => intro l g hk hi hg; exact absurd hk (by omega)
    | succ k ih =>
      intro l g hk hi hg
      have hcl := fCs_r hT (v := v) (x := x) (by omega) l
      have hwl := fWl_r hT l
      refine cv_iload dX1_chanceOf_41 rfl ?_
      refine cv_iconst dX1_chanceOf_43 ?_
      refine cv_aload_n dX1_chanceOf_44 rfl ?_
      refine cv_getf flX1_19 dX1_chanceOf_45 rfl rfl ?_
      refine cv_getf flX1_26 dX1_chanceOf_48 rfl rfl ?_
      refine cv_ishl dX1_chanceOf_51 (by omega) ?_
      refine cv_topi ((2 ^ tR T : Nat) : Int) (ct_p2 _) ?_
      have hp9 : (0 : Int) ≤ ((2 ^ tR T : Nat) : Int) := Int.natCast_nonneg _
      have hp8 : ((2 ^ tR T : Nat) : Int) ≤ ((64 : Nat) : Int) := Int.ofNat_le.mpr h2
      refine cv_icmp_ge (tgt := 84) dX1_chanceOf_52 (by decide) (by omega) (fun h52 => ?_) (fun h52 => ?_)
      · have hl7 : l = 2 ^ tR T := by
          have : 2 ^ tR T ≤ l := Int.ofNat_le.mp h52
          omega
        subst hl7
        skip
        refine cv_iload dX1_chanceOf_84 rfl ?_
        refine cv_iload dX1_chanceOf_86 rfl ?_
        refine cv_iload_n dX1_chanceOf_88 rfl ?_
        rw [show (vI (fCs T v x (2 ^ tR T)) : ct_V) = vI (((fCs T v x (2 ^ tR T)).toNat : Nat) : Int) by rw [Int.toNat_of_nonneg hcr.1]]
        refine cv_sameS (c_X1_toldOf (wCh T S 1 g) (fCs T v x (2 ^ tR T)).toNat (10 ^ tR T) (by omega) (by omega) (by omega) u hu) lkX1_toldOf mlX1_41 dX1_chanceOf_89 (by decide) rfl rfl (Nat.le_of_ble_eq_true rfl) ⟨Nat.le_refl _, Nat.le_refl _⟩ ?_
        intro v w1 hq
        obtain ⟨rfl, rfl⟩ := hq
        refine cv_iret rfl dX1_chanceOf_92 ⟨Nat.le_refl _, Nat.le_refl _⟩ ⟨g, rfl, rfl, hg⟩
      · have hl6 : l < 2 ^ tR T := by
          rcases Nat.lt_or_ge l (2 ^ tR T) with q | q
          · exact q
          · exact absurd (Int.ofNat_le.mpr q) h52
        refine cv_aload_n dX1_chanceOf_55 rfl ?_
        refine cv_getf flX1_9 dX1_chanceOf_56 rfl rfl ?_
        refine cv_iload dX1_chanceOf_59 rfl ?_
        refine cv_ialj (l) dX1_chanceOf_61 rfl (by omega) (by omega) ?_
        rw [hg l (by omega)]
        refine cv_iload_n dX1_chanceOf_62 rfl ?_
        refine cv_icmp_lt (tgt := 78) dX1_chanceOf_63 (by decide) (by omega) (fun h63 => ?_) (fun h63 => ?_)
        · refine cv_iinc dX1_chanceOf_78 (by decide) rfl rfl rfl ?_
          refine cv_goto (tgt := 41) dX1_chanceOf_81 (by decide) ?_
          have e0 : fCs T v x (l + 1) = fCs T v x l + 0 := by
            rw [fCs_s]
            congr 1
            exact if_pos h63
          have := ih (l + 1) g (by omega) (by omega) hg
          rw [e0, Int.add_zero] at this
          exact this
        · refine cv_iload dX1_chanceOf_66 rfl ?_
          refine cv_aload_n dX1_chanceOf_68 rfl ?_
          refine cv_iload dX1_chanceOf_69 rfl ?_
          refine cv_iload_n dX1_chanceOf_71 rfl ?_
          refine cv_sameV (c_X1_weightOf T S 1 g hT l (by omega) x (by omega)) lkX1_weightOf mlX1_45 dX1_chanceOf_72 (by decide) rfl rfl (by decide) rfl (Nat.le_of_ble_eq_true rfl) ⟨Nat.le_refl _, Nat.le_refl _⟩ ?_
          intro v w1 hq
          obtain ⟨rfl, rfl⟩ := hq
          refine cv_iadd dX1_chanceOf_75 ?_
          refine cv_istore dX1_chanceOf_76 (by decide) rfl rfl ?_
          refine cv_iinc dX1_chanceOf_78 (by decide) rfl rfl rfl ?_
          refine cv_goto (tgt := 41) dX1_chanceOf_81 (by decide) ?_
          have e0 : fCs T v x (l + 1) = fCs T v x l + fWg x l (tR T) := by
            rw [fCs_s]
            congr 1
            exact if_neg h63
          have := ih (l + 1) g (by omega) (by omega) hg
          rw [e0] at this
          exact this
  have loop1 : ∀ (k : Nat) (r : Nat) (g : Nat → Int), (tR T < r + k) → (r ≤ tR T) → (∀ s, s < 64 → g s = fWl T s) → CV MX1_chanceOf (2, 0, 0) 22 (0, 0) 13 [(0, vR 20), (1, vI v), (2, vI x), (3, vI u), (4, vI 0), (5, vI ((10 ^ r : Nat) : Int)), (6, vI r)] [] (wCh T S 1 g) (fun r w => ∃ f1, r = some (vI (fFr (fCs T v x (2 ^ tR T)).toNat (10 ^ tR T) u)) ∧ w = wCh T S 1 f1 ∧ ∀ s, s < 64 → f1 s = fWl T s) := by
    intro k
    induction k with
    | zero => intro r g hk hi hg; exact absurd hk (by omega)
    | succ k ih =>
      intro r g hk hi hg
      refine cv_iload dX1_chanceOf_13 rfl ?_
      refine cv_aload_n dX1_chanceOf_15 rfl ?_
      refine cv_getf flX1_19 dX1_chanceOf_16 rfl rfl ?_
      refine cv_getf flX1_26 dX1_chanceOf_19 rfl rfl ?_
      refine cv_icmp_ge (tgt := 38) dX1_chanceOf_22 (by decide) (by omega) (fun h22 => ?_) (fun h22 => ?_)
      · refine cv_iconst dX1_chanceOf_38 ?_
        refine cv_istore dX1_chanceOf_39 (by decide) rfl rfl ?_
        have e1 : r = tR T := by omega
        subst e1
        exact loop2 (2 ^ tR T + 1) 0 g (by omega) (by omega) hg
      · refine cv_iload dX1_chanceOf_25 rfl ?_
        refine cv_bipush dX1_chanceOf_27 (by decide) ?_
        refine cv_imul dX1_chanceOf_29 ?_
        refine cv_istore dX1_chanceOf_30 (by decide) rfl rfl ?_
        refine cv_iinc dX1_chanceOf_32 (by decide) rfl rfl rfl ?_
        refine cv_goto (tgt := 13) dX1_chanceOf_35 (by decide) ?_
        have e0 : ((10 ^ (r + 1) : Nat) : Int) = ((10 ^ r : Nat) : Int) * 10 := by rw [Nat.pow_succ, Int.natCast_mul]; rfl
        have := ih (r + 1) g (by omega) (by omega) hg
        rw [e0] at this
        exact this
  refine cv_aload_n dX1_chanceOf_0 rfl ?_
  refine cv_sameV (c_X1_countAll T S n f hT hW) lkX1_countAll mlX1_23 dX1_chanceOf_1 (by decide) rfl rfl (by decide) rfl (Nat.le_of_ble_eq_true rfl) ⟨Nat.le_refl _, Nat.le_refl _⟩ ?_
  intro v1 w1 hq
  obtain ⟨g, rfl, rfl, hg⟩ := hq
  refine cv_iconst dX1_chanceOf_4 ?_
  refine cv_istore dX1_chanceOf_5 (by decide) rfl rfl ?_
  refine cv_iconst dX1_chanceOf_7 ?_
  refine cv_istore dX1_chanceOf_8 (by decide) rfl rfl ?_
  refine cv_iconst dX1_chanceOf_10 ?_
  refine cv_istore dX1_chanceOf_11 (by decide) rfl rfl ?_
  exact loop1 (tR T + 1) 0 g (by omega) (by omega) hg
