/-- forgetting: the counts from a to b moved by one, the marks from c to d by eight -/
def pG (p : Nat → Int) (a b c d : Nat) : Nat → Int := fun i => if a ≤ i ∧ i < b then p (i + 1) else if c ≤ i ∧ i < d then p (i + 8) else p i
theorem pG_b {p : Nat → Int} {a b c d : Nat} (h1 : a ≤ b) (h2 : b + 1 < c) : ct_up (pG p a b c d) b (pG p a b c d (b + 1)) = pG p a (b + 1) c d := by
  funext i
  by_cases e : i = b
  · subst e
    rw [ct_up_s]
    unfold pG
    rw [if_neg (by omega), if_neg (by omega), if_pos (by omega)]
  · rw [ct_up_n e]
    unfold pG
    by_cases q : a ≤ i ∧ i < b
    · rw [if_pos q, if_pos (by omega)]
    · rw [if_neg q, if_neg (show ¬ (a ≤ i ∧ i < b + 1) by omega)]
theorem pG_d {p : Nat → Int} {a b c d : Nat} (h1 : c ≤ d) (h2 : b ≤ d) : ct_up (pG p a b c d) d (pG p a b c d (d + 8)) = pG p a b c (d + 1) := by
  funext i
  by_cases e : i = d
  · subst e
    rw [ct_up_s]
    unfold pG
    rw [if_neg (by omega), if_neg (by omega), if_neg (by omega), if_pos (by omega)]
  · rw [ct_up_n e]
    unfold pG
    by_cases q : a ≤ i ∧ i < b
    · rw [if_pos q, if_pos q]
    · rw [if_neg q, if_neg q]
      by_cases z : c ≤ i ∧ i < d
      · rw [if_pos z, if_pos (by omega)]
      · rw [if_neg z, if_neg (show ¬ (c ≤ i ∧ i < d + 1) by omega)]
theorem pG_0 (p : Nat → Int) (a c : Nat) : pG p a a c c = p := by
  funext i
  unfold pG
  rw [if_neg (by omega), if_neg (by omega)]
def pQ (p : Nat → Int) (g : Int) (z : Nat) : Nat → Int := fun i => if 73 ≤ i ∧ i < 73 + z ∧ g < p i then p i - 1 else p i
theorem pQ_s {p : Nat → Int} {g : Int} {z : Nat} : pQ p g (z + 1) = ct_up (pQ p g z) (73 + z) (p (73 + z) - if g < p (73 + z) then 1 else 0) := by
  funext i
  by_cases e : i = 73 + z
  · subst e
    rw [ct_up_s]
    unfold pQ
    split
    · rw [if_pos (by omega)]
    · rw [if_neg (by omega)]; omega
  · rw [ct_up_n e]
    unfold pQ
    by_cases q : 73 ≤ i ∧ i < 73 + z ∧ g < p i
    · rw [if_pos q, if_pos ⟨q.1, by omega, q.2.2⟩]
    · rw [if_neg q, if_neg (fun y => q ⟨y.1, by omega, y.2.2⟩)]
theorem pQ_0 (p : Nat → Int) (g : Int) : pQ p g 0 = p := by
  funext i
  unfold pQ
  rw [if_neg (by omega)]
/-- a row, a cut forgotten -/
def pFg (p : Nat → Int) (g n z : Nat) : Nat → Int := pQ (pG (ct_up p 109 ((n : Int) - 1)) (110 + g) (110 + (n - 1)) (150 + 8 * g) (150 + 8 * (n - 1))) (10 + (g : Int)) z
theorem Rep_fg {T : ctT} {S : ctS} {p : Nat → Int} {g : Nat} (h : Rep S p) (hJ : J T S) (hZ : sZ S ≤ 36) (hg : g < sC S) : Rep (uR (fFg S g) (fLR (fFg S g) (10 + (g : Int)) (sZ (fFg S g)))) (pFg p g (sC S) (sZ S)) := by
  obtain ⟨h1, h2, h3, h4, h5⟩ := h
  have hC40 := hJ.2.1.2.2.1
  have far : ∀ j, (j < 73 ∨ 73 + sZ S ≤ j) → pFg p g (sC S) (sZ S) j = pG (ct_up p 109 ((sC S : Int) - 1)) (110 + g) (110 + (sC S - 1)) (150 + 8 * g) (150 + 8 * (sC S - 1)) j := fun j hj => by
    unfold pFg pQ
    rw [if_neg (by omega)]
  have low : ∀ j, j < 109 → pG (ct_up p 109 ((sC S : Int) - 1)) (110 + g) (110 + (sC S - 1)) (150 + 8 * g) (150 + 8 * (sC S - 1)) j = p j := fun j hj => by
    unfold pG
    rw [if_neg (by omega), if_neg (by omega), ct_up_n (by omega)]
  have e2 : ∀ d, sCs (uR (fFg S g) (fLR (fFg S g) (10 + (g : Int)) (sZ (fFg S g)))) d = if g ≤ d ∧ d < g + (sC S - g - 1) then sCs S (g + 1 + (d - g)) else sCs S d := fun _ => rfl
  have e3 : ∀ d, sCm (uR (fFg S g) (fLR (fFg S g) (10 + (g : Int)) (sZ (fFg S g)))) d = if 8 * g ≤ d ∧ d < 8 * g + 8 * (sC S - g - 1) then sCm S (8 * g + 8 + (d - 8 * g)) else sCm S d := fun _ => rfl
  refine ⟨?_, fun i hi => ⟨?_, ?_, ?_⟩, ?_, fun c hc => ⟨?_, fun k hk => ?_⟩, ?_⟩
  · rw [far 0 (by omega), low 0 (by omega)]; exact h1
  · have hi' : i < sZ S := hi
    rw [far _ (by omega), low _ (by omega)]; exact (h2 i hi').1
  · have hi' : i < sZ S := hi
    rw [far _ (by omega), low _ (by omega)]; exact (h2 i hi').2.1
  · have hi' : i < sZ S := hi
    have h0 := (h2 i hi').2.2
    show pFg p g (sC S) (sZ S) (73 + i) = fLR (fFg S g) (10 + (g : Int)) (sZ (fFg S g)) i
    rw [fLR_at]
    show _ = if i < sZ S ∧ 10 + (g : Int) < sR S i then sR S i - 1 else sR S i
    unfold pFg pQ
    rw [low _ (by omega), h0]
    by_cases q : 10 + (g : Int) < sR S i
    · rw [if_pos ⟨by omega, by omega, q⟩, if_pos ⟨hi', q⟩]
    · rw [if_neg (fun z => q z.2.2), if_neg (fun z => q z.2)]
  · rw [far _ (by omega)]
    unfold pG
    rw [if_neg (by omega), if_neg (by omega), ct_up_s]
    show (sC S : Int) - 1 = ((sC S - 1 : Nat) : Int)
    omega
  · have hc' : c < sC S - 1 := hc
    rw [far _ (by omega), e2]
    unfold pG
    by_cases q : g ≤ c
    · rw [if_pos (by omega), if_pos (by omega), ct_up_n (by omega), show 110 + c + 1 = 110 + (g + 1 + (c - g)) by omega]
      exact (h4 _ (by omega)).1
    · rw [if_neg (by omega), if_neg (by omega), if_neg (by omega), ct_up_n (by omega)]
      exact (h4 _ (by omega)).1
  · have hc' : c < sC S - 1 := hc
    rw [e2] at hk
    rw [far _ (by omega), e3]
    unfold pG
    by_cases q : g ≤ c
    · rw [if_pos (by omega)] at hk
      have h8 := hJ.2.1.2.2.2.1 (g + 1 + (c - g)) (by omega)
      rw [if_neg (by omega), if_pos (by omega), if_pos (by omega), ct_up_n (by omega), show 150 + 8 * c + k + 8 = 150 + 8 * (g + 1 + (c - g)) + k by omega, show 8 * g + 8 + (8 * c + k - 8 * g) = 8 * (g + 1 + (c - g)) + k by omega]
      exact (h4 _ (by omega)).2 k hk
    · rw [if_neg (by omega)] at hk
      have h8 := hJ.2.1.2.2.2.1 c (by omega)
      rw [if_neg (by omega), if_neg (by omega), if_neg (by omega), ct_up_n (by omega)]
      exact (h4 _ (by omega)).2 k hk
  · rw [far _ (by omega)]
    unfold pG
    rw [if_neg (by omega), if_neg (by omega), ct_up_n (by omega)]
    exact h5
set_option maxRecDepth 100000 in
set_option maxHeartbeats 1000000 in
theorem c_X12_forget (u v : Nat) (T : ctT) (o : Nat → Int) (A : Nat → Nat → Int) (tm tr : Int) (p st : Nat → Int) (S : ctS) (hT : okT T) (hA : rT T A) (hR : Rep S p) (hJ : J T S) (g : Nat) (hg0 : g < sC S) : CM MX12_forget (0, 0, 0) [vR 0, vR 5, vI g] (wM u v T o A tm tr p st) (fun v1 w => ∃ p1, v1 = none ∧ w = wM u v T o A tm tr p1 st ∧ Rep (uR (fFg S g) (fLR (fFg S g) (10 + (g : Int)) (sZ (fFg S g)))) p1) := by
  refine CM.of (by decide) (Nat.le_of_ble_eq_true rfl) ?_
  show CV MX12_forget (0, 0, 0) 19 (0, 0) 0 [(0, vR 0), (1, vR 5), (2, vI g)] [] (wM u v T o A tm tr p st) _
  have hg := J_g hT hJ
  have hZ := hg.1.1
  have hC40 := hJ.2.1.2.2.1
  have hn1 : (((sC S - 1 : Nat)) : Int) = (sC S : Int) - 1 := by omega
  have g0 : ∀ b d : Nat, 110 + g ≤ b → 150 + 8 * g ≤ d → (pG (ct_up p 109 ((sC S : Int) - 1)) (110 + g) b (150 + 8 * g) d) 109 = (sC S : Int) - 1 := fun b d h1 h2 => by
    unfold pG
    rw [if_neg (by omega), if_neg (by omega), ct_up_s]
  have gz : (pG (ct_up p 109 ((sC S : Int) - 1)) (110 + g) (110 + (sC S - 1)) (150 + 8 * g) (150 + 8 * (sC S - 1))) 0 = (sZ S : Int) := by
    unfold pG
    rw [if_neg (by omega), if_neg (by omega), ct_up_n (by omega)]; exact hR.1
  have gr : ∀ i, i < sZ S → (pG (ct_up p 109 ((sC S : Int) - 1)) (110 + g) (110 + (sC S - 1)) (150 + 8 * g) (150 + 8 * (sC S - 1))) (73 + i) = sR S i := fun i hi => by
    unfold pG
    rw [if_neg (by omega), if_neg (by omega), ct_up_n (by omega)]; exact (hR.2.1 i hi).2.2
  have hrr := hJ.2.1.2.1
  have loop3 : ∀ (k : Nat) (i : Nat), (sZ S < i + k) → (i ≤ sZ S) → CV MX12_forget (0, 0, 0) 19 (0, 0) 84 [(0, vR 0), (1, vR 5), (2, vI g), (3, vI i)] [] (wM u v T o A tm tr (pQ (pG (ct_up p 109 ((sC S : Int) - 1)) (110 + g) (110 + (sC S - 1)) (150 + 8 * g) (150 + 8 * (sC S - 1))) (10 + (g : Int)) i) st) (fun v1 w => ∃ p1, v1 = none ∧ w = wM u v T o A tm tr p1 st ∧ Rep (uR (fFg S g) (fLR (fFg S g) (10 + (g : Int)) (sZ (fFg S g)))) p1) := by
    intro k
    induction k with
    | zero => intro i hk hi; exact absurd hk (by omega)
    | succ k ih =>
      intro i hk hi
      have q0 : pQ (pG (ct_up p 109 ((sC S : Int) - 1)) (110 + g) (110 + (sC S - 1)) (150 + 8 * g) (150 + 8 * (sC S - 1))) (10 + (g : Int)) i 0 = (sZ S : Int) := by
        show (if 73 ≤ 0 ∧ 0 < 73 + i ∧ _ then _ else _) = _
        rw [if_neg (by omega)]; exact gz
      refine cv_iload_n dX12_forget_84 rfl ?_
      refine cv_aload_n dX12_forget_85 rfl ?_
      refine cv_iconst dX12_forget_86 ?_
      refine cv_ialj (0) dX12_forget_87 rfl (by omega) (by omega) ?_
      rw [q0]
      refine cv_icmp_ge (tgt := 124) dX12_forget_88 (by decide) (by omega) (fun h88 => ?_) (fun h88 => ?_)
      · refine cv_ret rfl dX12_forget_124 ⟨Nat.le_refl _, Nat.le_refl _⟩ ⟨_, rfl, rfl, by rw [show i = sZ S by omega]; exact Rep_fg hR hJ hZ hg0⟩
      · refine cv_aload_n dX12_forget_91 rfl ?_
        refine cv_bipush dX12_forget_92 (by decide) ?_
        refine cv_iload_n dX12_forget_94 rfl ?_
        refine cv_iadd dX12_forget_95 ?_
        refine cv_dup2 dX12_forget_96 rfl rfl ?_
        refine cv_ialj (73 + i) dX12_forget_97 rfl (by omega) (by omega) ?_
        have q1 : pQ (pG (ct_up p 109 ((sC S : Int) - 1)) (110 + g) (110 + (sC S - 1)) (150 + 8 * g) (150 + 8 * (sC S - 1))) (10 + (g : Int)) i (73 + i) = sR S i := by
            show (if 73 ≤ 73 + i ∧ 73 + i < 73 + i ∧ _ then _ else _) = _
            rw [if_neg (by omega)]; exact gr i (by omega)
        rw [q1]
        have rr := hrr i (by omega)
        refine cv_aload_n dX12_forget_98 rfl ?_
        refine cv_bipush dX12_forget_99 (by decide) ?_
        refine cv_iload_n dX12_forget_101 rfl ?_
        refine cv_iadd dX12_forget_102 ?_
        refine cv_ialj (73 + i) dX12_forget_103 rfl (by omega) (by omega) ?_
        rw [q1]
        refine cv_bipush dX12_forget_104 (by decide) ?_
        refine cv_iload_n dX12_forget_106 rfl ?_
        refine cv_iadd dX12_forget_107 ?_
        refine cv_icmp_le (tgt := 115) dX12_forget_108 (by decide) (by omega) (fun h108 => ?_) (fun h108 => ?_)
        · refine cv_iconst dX12_forget_115 ?_
          refine cv_isub dX12_forget_116 ?_
          refine cv_iasj (73 + i) dX12_forget_117 rfl (by omega) (by omega) ?_
          refine cv_iinc dX12_forget_118 (by decide) rfl rfl rfl ?_
          refine cv_goto (tgt := 84) dX12_forget_121 (by decide) ?_
          have e0 := pQ_s (p := (pG (ct_up p 109 ((sC S : Int) - 1)) (110 + g) (110 + (sC S - 1)) (150 + 8 * g) (150 + 8 * (sC S - 1)))) (g := 10 + (g : Int)) (z := i)
          rw [gr i (by omega), if_neg (by omega)] at e0
          have := ih (i + 1) (by omega) (by omega)
          rw [e0] at this
          exact this
        · refine cv_iconst dX12_forget_111 ?_
          refine cv_goto (tgt := 116) dX12_forget_112 (by decide) ?_
          refine cv_isub dX12_forget_116 ?_
          refine cv_iasj (73 + i) dX12_forget_117 rfl (by omega) (by omega) ?_
          refine cv_iinc dX12_forget_118 (by decide) rfl rfl rfl ?_
          refine cv_goto (tgt := 84) dX12_forget_121 (by decide) ?_
          have e0 := pQ_s (p := (pG (ct_up p 109 ((sC S : Int) - 1)) (110 + g) (110 + (sC S - 1)) (150 + 8 * g) (150 + 8 * (sC S - 1)))) (g := 10 + (g : Int)) (z := i)
          rw [gr i (by omega), if_pos (by omega)] at e0
          have := ih (i + 1) (by omega) (by omega)
          rw [e0] at this
          exact this
  have loop1 : ∀ (k : Nat) (c : Nat), sC S ≤ c + k → g ≤ c → c ≤ sC S - 1 → CV MX12_forget (0, 0, 0) 19 (0, 0) 10 [(0, vR 0), (1, vR 5), (2, vI g), (3, vI c)] [] (wM u v T o A tm tr (pG (ct_up p 109 ((sC S : Int) - 1)) (110 + g) (110 + c) (150 + 8 * g) (150 + 8 * c)) st) (fun v1 w => ∃ p1, v1 = none ∧ w = wM u v T o A tm tr p1 st ∧ Rep (uR (fFg S g) (fLR (fFg S g) (10 + (g : Int)) (sZ (fFg S g)))) p1) := by
    intro k
    induction k with
    | zero => intro c hk h1 h2; exact absurd hk (by omega)
    | succ k ih0 =>
      intro c hk h1 h2
      have loop2 : ∀ (k : Nat) (q : Nat), (8 < q + k) → (q ≤ 8) → (c < sC S - 1) → CV MX12_forget (0, 0, 0) 19 (0, 0) 35 [(0, vR 0), (1, vR 5), (2, vI g), (3, vI c), (4, vI q)] [] (wM u v T o A tm tr (pG (ct_up p 109 ((sC S : Int) - 1)) (110 + g) (110 + c + 1) (150 + 8 * g) (150 + 8 * c + q)) st) (fun v1 w => ∃ p1, v1 = none ∧ w = wM u v T o A tm tr p1 st ∧ Rep (uR (fFg S g) (fLR (fFg S g) (10 + (g : Int)) (sZ (fFg S g)))) p1) := by
        intro k
        induction k with
        | zero => intro q hq hi hc; exact absurd hq (by omega)
        | succ k ih =>
          intro q hq hi hc
          refine cv_iload dX12_forget_35 rfl ?_
          refine cv_bipush dX12_forget_37 (by decide) ?_
          refine cv_icmp_ge (tgt := 76) dX12_forget_39 (by decide) (by omega) (fun h39 => ?_) (fun h39 => ?_)
          · refine cv_iinc dX12_forget_76 (by decide) rfl rfl rfl ?_
            refine cv_goto (tgt := 10) dX12_forget_79 (by decide) ?_
            refine cv_loc [0, 1, 2, 3] rfl ?_
            rw [show q = 8 by omega]
            exact ih0 (c + 1) (by omega) (by omega) (by omega)
          · refine cv_aload_n dX12_forget_42 rfl ?_
            refine cv_sipush dX12_forget_43 (by decide) ?_
            refine cv_bipush dX12_forget_46 (by decide) ?_
            refine cv_iload_n dX12_forget_48 rfl ?_
            refine cv_imul dX12_forget_49 ?_
            refine cv_iadd dX12_forget_50 ?_
            refine cv_iload dX12_forget_51 rfl ?_
            refine cv_iadd dX12_forget_53 ?_
            refine cv_aload_n dX12_forget_54 rfl ?_
            refine cv_sipush dX12_forget_55 (by decide) ?_
            refine cv_bipush dX12_forget_58 (by decide) ?_
            refine cv_iload_n dX12_forget_60 rfl ?_
            refine cv_iconst dX12_forget_61 ?_
            refine cv_iadd dX12_forget_62 ?_
            refine cv_imul dX12_forget_63 ?_
            refine cv_iadd dX12_forget_64 ?_
            refine cv_iload dX12_forget_65 rfl ?_
            refine cv_iadd dX12_forget_67 ?_
            refine cv_ialj (150 + 8 * c + q + 8) dX12_forget_68 rfl (by omega) (by omega) ?_
            refine cv_iasj (150 + 8 * c + q) dX12_forget_69 rfl (by omega) (by omega) ?_
            rw [pG_d (by omega) (by omega)]
            refine cv_iinc dX12_forget_70 (by decide) rfl rfl rfl ?_
            refine cv_goto (tgt := 35) dX12_forget_73 (by decide) ?_
            exact ih (q + 1) (by omega) (by omega) hc
      refine cv_iload_n dX12_forget_10 rfl ?_
      refine cv_aload_n dX12_forget_11 rfl ?_
      refine cv_bipush dX12_forget_12 (by decide) ?_
      refine cv_ialj (109) dX12_forget_14 rfl (by omega) (by omega) ?_
      rw [g0 _ _ (by omega) (by omega)]
      refine cv_icmp_ge (tgt := 82) dX12_forget_15 (by decide) (by omega) (fun h15 => ?_) (fun h15 => ?_)
      · refine cv_iconst dX12_forget_82 ?_
        refine cv_istore_n dX12_forget_83 (by decide) rfl rfl ?_
        rw [show c = sC S - 1 by omega]
        have := loop3 (sZ S + 1) 0 (by omega) (by omega)
        rw [pQ_0] at this
        exact this
      · refine cv_aload_n dX12_forget_18 rfl ?_
        refine cv_bipush dX12_forget_19 (by decide) ?_
        refine cv_iload_n dX12_forget_21 rfl ?_
        refine cv_iadd dX12_forget_22 ?_
        refine cv_aload_n dX12_forget_23 rfl ?_
        refine cv_bipush dX12_forget_24 (by decide) ?_
        refine cv_iload_n dX12_forget_26 rfl ?_
        refine cv_iadd dX12_forget_27 ?_
        refine cv_iconst dX12_forget_28 ?_
        refine cv_iadd dX12_forget_29 ?_
        refine cv_ialj (110 + c + 1) dX12_forget_30 rfl (by omega) (by omega) ?_
        refine cv_iasj (110 + c) dX12_forget_31 rfl (by omega) (by omega) ?_
        rw [pG_b (by omega) (by omega)]
        refine cv_iconst dX12_forget_32 ?_
        refine cv_istore dX12_forget_33 (by decide) rfl rfl ?_
        exact loop2 9 0 (by omega) (by omega) (by omega)
  refine cv_aload_n dX12_forget_0 rfl ?_
  refine cv_bipush dX12_forget_1 (by decide) ?_
  refine cv_dup2 dX12_forget_3 rfl rfl ?_
  refine cv_ialj (109) dX12_forget_4 rfl (by omega) (by omega) ?_
  rw [hR.2.2.1]
  refine cv_iconst dX12_forget_5 ?_
  refine cv_isub dX12_forget_6 ?_
  refine cv_iasj (109) dX12_forget_7 rfl (by omega) (by omega) ?_
  have e0 := pG_0 (ct_up p 109 ((sC S : Int) - 1)) (110 + g) (150 + 8 * g)
  refine cv_iload_n dX12_forget_8 rfl ?_
  refine cv_istore_n dX12_forget_9 (by decide) rfl rfl ?_
  have := loop1 (sC S + 1) g (by omega) (by omega) (by omega)
  rw [e0] at this
  exact this
