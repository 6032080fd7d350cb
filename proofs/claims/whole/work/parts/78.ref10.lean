theorem ft_first {n k : Nat} {f : Nat → Int} (h : ∀ j, j < k → csP f j) (hk : ¬ csP f k) (hn : k < n) : fFt n f = (k : Int) := by
  unfold fFt
  rw [ct_first_is (P := fun p => ¬ csP f p) (i := k) hk (fun j hj z => z (h j hj)) hn]
theorem ft_none {n : Nat} {f : Nat → Int} (h : ∀ j, j < n → csP f j) : fFt n f = @ite _ (iwP n f) (Classical.propDecidable _) (-9) (n : Int) := by
  unfold fFt
  rw [ct_first_no (P := fun p => ¬ csP f p) (fun j hj z => z (h j hj))]
theorem cs_rule {f : Nat → Int} {N r t k : Nat} (hN : (fTn f).toNat = N) (hk : k = pS N r + t) (ht : t < N + 4) : csP f k ↔ (r < 6 ∧ crP f k t N) := by
  have hk' : k = 2 + N + r * (N + 4) + t := hk
  have key : ((k : Int) - 2 - fTn f) / (fTn f + 4) = (r : Int) ∧ ((k : Int) - 2 - fTn f) % (fTn f + 4) = (t : Int) ∧ 2 + fTn f ≤ (k : Int) ∧ 3 ≤ k ∧ fTn f = (N : Int) := by
    rcases tx_N f with ⟨e1, e2⟩ | ⟨e1, e2⟩ | ⟨e1, e2⟩ | ⟨e1, e2⟩ <;> (rw [e2] at hN; subst hN; rw [e1]; omega)
  obtain ⟨k1, k2, k3, k4, k5⟩ := key
  constructor
  · intro z
    have := z.2.2.2 k3
    rw [k1, k2, k5] at this
    exact ⟨by omega, this.2⟩
  · intro z
    refine ⟨fun h => absurd h (by omega), fun h => absurd h (by omega), fun _ h => absurd h (by omega), fun _ => ?_⟩
    rw [k1, k2, k5]
    exact ⟨by omega, z.2⟩
theorem iw_rule {f : Nat → Int} {N r t n : Nat} (hN : (fTn f).toNat = N) (hk : n = pS N r + t) (ht : t < N + 4) : (iwP n f ↔ t = 0) ∧ (r ≤ 6 → fNr n f = r) := by
  have hk' : n = 2 + N + r * (N + 4) + t := hk
  have key : ((n : Int) - 2 - fTn f) / (fTn f + 4) = (r : Int) ∧ ((n : Int) - 2 - fTn f) % (fTn f + 4) = (t : Int) ∧ 2 + fTn f ≤ (n : Int) ∧ 3 ≤ n := by
    rcases tx_N f with ⟨e1, e2⟩ | ⟨e1, e2⟩ | ⟨e1, e2⟩ | ⟨e1, e2⟩ <;> (rw [e2] at hN; subst hN; rw [e1]; omega)
  obtain ⟨k1, k2, k3, k4⟩ := key
  constructor
  · unfold iwP
    rw [k2]
    omega
  · intro hr
    unfold fNr
    rw [k1]
    omega
set_option maxRecDepth 100000 in
set_option maxHeartbeats 1000000 in
theorem c_X12_readText (u v : Nat) (T : ctT) (o : Nat → Int) (A : Nat → Nat → Int) (tm tr : Int) (p st : Nat → Int) (n : Nat) (f : Nat → Int) (hn : n ≤ 60) (h0 : o 0 = (n : Int)) (hx : ∀ i, i < n → A 1 i = f i) (hf : okL f) : CM MX12_readText (2, 0, 0) [vR 0] (wM u v T o A tm tr p st) (fun v1 w => ∃ o1 A1, v1 = some (vI (fFt n f)) ∧ w = wM u v T o1 A1 tm tr p st ∧ FR o A o1 A1 ∧ (fFt n f = -9 → RI (fTn f).toNat f (fNr n f) 0 o1 A1)) := by
  refine CM.of (by decide) (Nat.le_of_ble_eq_true rfl) ?_
  show CV MX12_readText (2, 0, 0) 19 (0, 0) 0 [(0, vR 0)] [] (wM u v T o A tm tr p st) _
  obtain ⟨N, hN⟩ : ∃ N, (fTn f).toNat = N := ⟨_, rfl⟩
  have hNr := tx_N f
  have hN4 : 1 ≤ N ∧ N ≤ 4 ∧ fTn f = (N : Int) := by omega
  have loopR : ∀ (kk r t k : Nat) (o1 : Nat → Int) (A1 : Nat → Nat → Int), n < k + kk → k = pS N r + t → k ≤ n → r ≤ 6 → (¬ t = 0 → r < 6) → t < N + 4 → (∀ j, j < k → csP f j) → FR o A o1 A1 → RI N f r t o1 A1 → CV MX12_readText (2, 0, 0) 19 (0, 0) 37 [(0, vR 0), (1, vI (k : Nat))] [] (wM u v T o1 A1 tm tr p st) (fun v1 w => ∃ o1 A1, v1 = some (vI (fFt n f)) ∧ w = wM u v T o1 A1 tm tr p st ∧ FR o A o1 A1 ∧ (fFt n f = -9 → RI (fTn f).toNat f (fNr n f) 0 o1 A1)) := by
    intro kk
    induction kk with
    | zero => intro r t k o1 A1 h1 h2 h3 h4 h5 h6 h7 h8 h9; exact absurd h1 (by omega)
    | succ kk ih =>
      intro r t k o1 A1 h1 h2 h3 h4 h5 h6 h7 h8 h9
      have l0 : o1 0 = (n : Int) := (h8.1 0 (by omega)).trans h0
      have l1 : ∀ i, i < n → A1 1 i = f i := fun i hi => by rw [h8.2 1 (by omega)]; exact hx i hi
      obtain ⟨q5, q6, q7, -, -, -, -, -⟩ := id h9
      have hcs := cs_rule hN h2 h6
      have hk3 : 2 + N ≤ k := by rw [h2]; unfold pS; omega
      have nx : t = N + 3 → pS N (r + 1) = k + 1 := fun z => by rw [h2, z]; unfold pS; rw [Nat.succ_mul]; omega
      refine cv_iload_n dX12_readText_37 rfl ?_
      refine cv_aload_n dX12_readText_38 rfl ?_
      refine cv_getf flX12_75 dX12_readText_39 rfl rfl ?_
      refine cv_icmp_ge (tgt := 111) dX12_readText_42 (by decide) (by omega) (fun h42 => ?_) (fun h42 => ?_)
      · refine cv_aload_n dX12_readText_111 rfl ?_
        refine cv_getf flX12_75 dX12_readText_112 rfl rfl ?_
        refine cv_iconst dX12_readText_115 ?_
        refine cv_aload_n dX12_readText_116 rfl ?_
        refine cv_getf flX12_78 dX12_readText_117 rfl rfl ?_
        refine cv_iadd dX12_readText_120 ?_
        refine cv_icmp_lt (tgt := 144) dX12_readText_121 (by decide) (by omega) (fun h121 => ?_) (fun h121 => ?_)
        · exact absurd h121 (by omega)
        · refine cv_aload_n dX12_readText_124 rfl ?_
          refine cv_getf flX12_75 dX12_readText_125 rfl rfl ?_
          refine cv_iconst dX12_readText_128 ?_
          refine cv_icmp_le (tgt := 144) dX12_readText_129 (by decide) (by omega) (fun h129 => ?_) (fun h129 => ?_)
          · exact absurd h129 (by omega)
          · refine cv_aload_n dX12_readText_132 rfl ?_
            refine cv_getf flX12_85 dX12_readText_133 rfl rfl ?_
            refine cv_if_ne (tgt := 144) dX12_readText_136 (by decide) (by omega) (fun h136 => ?_) (fun h136 => ?_)
            · refine cv_aload_n dX12_readText_144 rfl ?_
              refine cv_getf flX12_75 dX12_readText_145 rfl rfl ?_
              refine cv_iret rfl dX12_readText_148 ⟨Nat.le_refl _, Nat.le_refl _⟩ (by
          have ek : k = n := by omega
          subst ek
          have e0 : fFt k f = (k : Int) := by rw [ft_none h7, if_neg (fun z => absurd ((iw_rule hN h2 h6).1.mp z) (by omega))]
          exact ⟨o1, A1, ct_rI (by rw [e0]; omega), rfl, h8, fun z => absurd z (by rw [e0]; omega)⟩)
            · refine cv_bipush dX12_readText_139 (by decide) ?_
              refine cv_goto (tgt := 148) dX12_readText_141 (by decide) ?_
              refine cv_iret rfl dX12_readText_148 ⟨Nat.le_refl _, Nat.le_refl _⟩ (by
          have ek : k = n := by omega
          subst ek
          have e0 : fFt k f = -9 := by rw [ft_none h7, if_pos ((iw_rule hN h2 h6).1.mpr (by omega))]
          have t0 : t = 0 := by omega
          subst t0
          exact ⟨o1, A1, ct_rI e0.symm, rfl, h8, fun _ => by rw [hN, (iw_rule hN h2 h6).2 h4]; exact h9⟩)
      · refine cv_iload_n dX12_readText_45 rfl ?_
        refine cv_iconst dX12_readText_46 ?_
        refine cv_icmp_eq (tgt := 60) dX12_readText_47 (by decide) (by omega) (fun h47 => ?_) (fun h47 => ?_)
        · exact absurd h47 (by omega)
        · refine cv_iload_n dX12_readText_50 rfl ?_
          refine cv_iconst dX12_readText_51 ?_
          refine cv_aload_n dX12_readText_52 rfl ?_
          refine cv_getf flX12_78 dX12_readText_53 rfl rfl ?_
          refine cv_iadd dX12_readText_56 ?_
          refine cv_icmp_ge (tgt := 64) dX12_readText_57 (by decide) (by show -2147483648 ≤ (k : Int) ∧ (k : Int) ≤ 2147483647 ∧ -2147483648 ≤ 2 + o1 5 ∧ 2 + o1 5 ≤ 2147483647; omega) (fun h57 => ?_) (fun h57 => ?_)
          · refine cv_iconst dX12_readText_64 ?_
            refine cv_istore_n dX12_readText_65 (by decide) rfl rfl ?_
            refine cv_iload_n dX12_readText_66 rfl ?_
            refine cv_if_eq (tgt := 90) dX12_readText_67 (by decide) (by omega) (fun h67 => ?_) (fun h67 => ?_)
            · refine cv_aload_n dX12_readText_90 rfl ?_
              refine cv_aload_n dX12_readText_91 rfl ?_
              refine cv_getf flX12_7 dX12_readText_92 rfl rfl ?_
              refine cv_iload_n dX12_readText_95 rfl ?_
              refine cv_ialj (k) dX12_readText_96 rfl (by omega) (by omega) ?_
              refine cv_topi (f k) (l1 k (by omega)) ?_
              refine cv_sameV (c_X12_takeOfRule u v T o1 A1 tm tr p st N r t k f (by omega) h4 h5 h6 h2 (hf k (by omega)) (hf (k - 1) (by omega)) h9) lkX12_takeOfRule mlX12_108 dX12_readText_97 (by decide) rfl rfl (by decide) rfl (Nat.le_of_ble_eq_true rfl) ⟨Nat.le_refl _, Nat.le_refl _⟩ ?_
              intro v w1 hq
              obtain ⟨o2, A2, rfl, rfl, hf2, hr2⟩ := hq
              have ic := ct_i_r (r < 6 ∧ crP f k t N)
              refine cv_if_ne (tgt := 105) dX12_readText_100 (by decide) (by omega) (fun h100 => ?_) (fun h100 => ?_)
              · have cc : r < 6 ∧ crP f k t N := ct_i_1.mp (by omega)
                have hr2 := hr2 cc
                refine cv_iinc dX12_readText_105 (by decide) rfl rfl rfl ?_
                refine cv_goto (tgt := 37) dX12_readText_108 (by decide) ?_
                refine cv_loc [0, 1] rfl ?_
                have hall : ∀ j, j < k + 1 → csP f j := fun j hj => by
                  rcases Nat.lt_succ_iff_lt_or_eq.mp hj with q | q
                  · exact h7 j q
                  · subst q; exact hcs.mpr cc
                by_cases t3 : t = N + 3
                · rw [if_pos t3, if_pos t3] at hr2
                  exact ih (r + 1) 0 (k + 1) o2 A2 (by omega) (nx t3).symm (by omega) (by omega) (fun z => absurd rfl z) (by omega) hall (FR_t h8 hf2) hr2
                · rw [if_neg t3, if_neg t3] at hr2
                  exact ih r (t + 1) (k + 1) o2 A2 (by omega) (by omega) (by omega) h4 (fun _ => cc.1) (by omega) hall (FR_t h8 hf2) hr2
              · have cc : ¬ (r < 6 ∧ crP f k t N) := ct_i_0.mp (by omega)
                refine cv_iload_n dX12_readText_103 rfl ?_
                refine cv_iret rfl dX12_readText_104 ⟨Nat.le_refl _, Nat.le_refl _⟩ ⟨o2, A2, ct_rI (ft_first h7 (fun z => cc (hcs.mp z)) (by omega)).symm, rfl, FR_t h8 hf2, fun z => absurd z (by rw [ft_first h7 (fun z => cc (hcs.mp z)) (show k < n by omega)]; omega)⟩
            · exact absurd rfl h67
          · exact absurd h57 (by omega)
  have loopH : ∀ (kk k : Nat) (o1 : Nat → Int) (A1 : Nat → Nat → Int), k + kk = 2 + N → 2 ≤ k → k ≤ n → (∀ j, j < k → csP f j) → FR o A o1 A1 → o1 5 = (N : Int) → o1 6 = 0 → o1 7 = 0 → (∀ x, x + 2 < k → A1 16 x = f (2 + x) - 48) → CV MX12_readText (2, 0, 0) 19 (0, 0) 37 [(0, vR 0), (1, vI (k : Nat))] [] (wM u v T o1 A1 tm tr p st) (fun v1 w => ∃ o1 A1, v1 = some (vI (fFt n f)) ∧ w = wM u v T o1 A1 tm tr p st ∧ FR o A o1 A1 ∧ (fFt n f = -9 → RI (fTn f).toNat f (fNr n f) 0 o1 A1)) := by
    intro kk
    induction kk with
    | zero =>
      intro k o1 A1 h1 h2 h3 h7 h8 q5 q6 q7 q16
      exact loopR (n + 1) 0 0 k o1 A1 (by omega) (by unfold pS; omega) h3 (by omega) (fun z => absurd rfl z) (by omega) h7 h8 ⟨q5, q6, q7, fun x hx => q16 x (by omega), fun r' hr => absurd hr (Nat.not_lt_zero _), fun x _ hx => absurd hx (by omega), fun hx => absurd hx (by omega), fun hx => absurd hx (by omega)⟩
    | succ kk ih =>
      intro k o1 A1 h1 h2 h3 h7 h8 q5 q6 q7 q16
      have l0 : o1 0 = (n : Int) := (h8.1 0 (by omega)).trans h0
      have l1 : ∀ i, i < n → A1 1 i = f i := fun i hi => by rw [h8.2 1 (by omega)]; exact hx i hi
      have hcs : csP f k ↔ (0 ≤ f k - 48 ∧ f k - 48 ≤ 9) := by
        constructor
        · intro z
          have := z.2.2.1 h2 (by omega)
          unfold figP at this
          omega
        · intro z
          exact ⟨fun h => absurd h (by omega), fun h => absurd h (by omega), fun _ _ => by unfold figP; omega, fun h => absurd h (by omega)⟩
      refine cv_iload_n dX12_readText_37 rfl ?_
      refine cv_aload_n dX12_readText_38 rfl ?_
      refine cv_getf flX12_75 dX12_readText_39 rfl rfl ?_
      refine cv_icmp_ge (tgt := 111) dX12_readText_42 (by decide) (by omega) (fun h42 => ?_) (fun h42 => ?_)
      · refine cv_aload_n dX12_readText_111 rfl ?_
        refine cv_getf flX12_75 dX12_readText_112 rfl rfl ?_
        refine cv_iconst dX12_readText_115 ?_
        refine cv_aload_n dX12_readText_116 rfl ?_
        refine cv_getf flX12_78 dX12_readText_117 rfl rfl ?_
        refine cv_iadd dX12_readText_120 ?_
        refine cv_icmp_lt (tgt := 144) dX12_readText_121 (by decide) (by omega) (fun h121 => ?_) (fun h121 => ?_)
        · refine cv_aload_n dX12_readText_144 rfl ?_
          refine cv_getf flX12_75 dX12_readText_145 rfl rfl ?_
          refine cv_iret rfl dX12_readText_148 ⟨Nat.le_refl _, Nat.le_refl _⟩ (by
          have ek : k = n := by omega
          subst ek
          have e0 : fFt k f = (k : Int) := by rw [ft_none h7, if_neg (fun z => by have := z.2.1; omega)]
          exact ⟨o1, A1, ct_rI (by rw [e0]; omega), rfl, h8, fun z => absurd z (by rw [e0]; omega)⟩)
        · exact absurd h121 (by omega)
      · refine cv_iload_n dX12_readText_45 rfl ?_
        refine cv_iconst dX12_readText_46 ?_
        refine cv_icmp_eq (tgt := 60) dX12_readText_47 (by decide) (by omega) (fun h47 => ?_) (fun h47 => ?_)
        · exact absurd h47 (by omega)
        · refine cv_iload_n dX12_readText_50 rfl ?_
          refine cv_iconst dX12_readText_51 ?_
          refine cv_aload_n dX12_readText_52 rfl ?_
          refine cv_getf flX12_78 dX12_readText_53 rfl rfl ?_
          refine cv_iadd dX12_readText_56 ?_
          refine cv_icmp_ge (tgt := 64) dX12_readText_57 (by decide) (by show -2147483648 ≤ (k : Int) ∧ (k : Int) ≤ 2147483647 ∧ -2147483648 ≤ 2 + o1 5 ∧ 2 + o1 5 ≤ 2147483647; omega) (fun h57 => ?_) (fun h57 => ?_)
          · exact absurd h57 (by omega)
          · refine cv_iconst dX12_readText_60 ?_
            refine cv_goto (tgt := 65) dX12_readText_61 (by decide) ?_
            refine cv_istore_n dX12_readText_65 (by decide) rfl rfl ?_
            refine cv_iload_n dX12_readText_66 rfl ?_
            refine cv_if_eq (tgt := 90) dX12_readText_67 (by decide) (by omega) (fun h67 => ?_) (fun h67 => ?_)
            · exact absurd h67 (by omega)
            · refine cv_aload_n dX12_readText_70 rfl ?_
              refine cv_iload_n dX12_readText_71 rfl ?_
              refine cv_aload_n dX12_readText_72 rfl ?_
              refine cv_getf flX12_7 dX12_readText_73 rfl rfl ?_
              refine cv_iload_n dX12_readText_76 rfl ?_
              refine cv_ialj (k) dX12_readText_77 rfl (by omega) (by omega) ?_
              refine cv_topi (f k) (l1 k (by omega)) ?_
              have fk := hf k (by omega)
              refine cv_bipush dX12_readText_78 (by decide) ?_
              refine cv_isub dX12_readText_80 ?_
              refine cv_sameV (c_X12_takeHead2 u v T o1 A1 tm tr p st k (by omega) (f k - 48) (by omega)) lkX12_takeHead mlX12_104 dX12_readText_81 (by decide) rfl rfl (by decide) rfl (Nat.le_of_ble_eq_true rfl) ⟨Nat.le_refl _, Nat.le_refl _⟩ ?_
              intro v w1 hq
              obtain ⟨rfl, rfl⟩ := hq
              have ic := ct_i_r (0 ≤ f k - 48 ∧ f k - 48 ≤ 9)
              refine cv_if_eq (tgt := 103) dX12_readText_84 (by decide) (by omega) (fun h84 => ?_) (fun h84 => ?_)
              · have cc : ¬ (0 ≤ f k - 48 ∧ f k - 48 ≤ 9) := ct_i_0.mp (by omega)
                refine cv_iload_n dX12_readText_103 rfl ?_
                refine cv_iret rfl dX12_readText_104 ⟨Nat.le_refl _, Nat.le_refl _⟩ ⟨o1, (upA A1 16 (ct_up (A1 16) (k - 2) (f k - 48))), ct_rI (ft_first h7 (fun z => cc (hcs.mp z)) (by omega)).symm, rfl, FR_A h8 (by omega) _, fun z => absurd z (by rw [ft_first h7 (fun z => cc (hcs.mp z)) (show k < n by omega)]; omega)⟩
              · have cc : 0 ≤ f k - 48 ∧ f k - 48 ≤ 9 := ct_i_1.mp (by omega)
                refine cv_goto (tgt := 105) dX12_readText_87 (by decide) ?_
                refine cv_iinc dX12_readText_105 (by decide) rfl rfl rfl ?_
                refine cv_goto (tgt := 37) dX12_readText_108 (by decide) ?_
                refine cv_loc [0, 1] rfl ?_
                refine ih (k + 1) o1 (upA A1 16 (ct_up (A1 16) (k - 2) (f k - 48))) (by omega) (by omega) (by omega) (fun j hj => ?_) (FR_A h8 (by omega) _) q5 q6 q7 (fun x hx2 => ?_)
                · rcases Nat.lt_succ_iff_lt_or_eq.mp hj with q | q
                  · exact h7 j q
                  · subst q; exact hcs.mpr cc
                · show ct_up (A1 16) (k - 2) (f k - 48) x = _
                  by_cases e : x = k - 2
                  · rw [e, ct_up_s, show 2 + (k - 2) = k by omega]
                  · rw [ct_up_n e]; exact q16 x (by omega)
  have one : ∀ (o1 : Nat → Int), FR o A o1 A → o1 5 = 1 → o1 6 = 0 → o1 7 = 0 → 1 ≤ n → csP f 0 → CV MX12_readText (2, 0, 0) 19 (0, 0) 37 [(0, vR 0), (1, vI 1)] [] (wM u v T o1 A tm tr p st) (fun v1 w => ∃ o1 A1, v1 = some (vI (fFt n f)) ∧ w = wM u v T o1 A1 tm tr p st ∧ FR o A o1 A1 ∧ (fFt n f = -9 → RI (fTn f).toNat f (fNr n f) 0 o1 A1)) := by
    intro o1 h8 q5 q6 q7 hn1 hc0
    have l0 : o1 0 = (n : Int) := (h8.1 0 (by omega)).trans h0
    have hall : ∀ j, j < 1 → csP f j := fun j hj => by rw [show j = 0 by omega]; exact hc0
    have hcs : csP f 1 ↔ (1 ≤ f 1 - 48 ∧ f 1 - 48 ≤ 4) := by
      constructor
      · intro z
        have := z.2.1 rfl
        omega
      · intro z
        exact ⟨fun h => absurd h (by omega), fun _ => by omega, fun h => absurd h (by omega), fun h => absurd h (by omega)⟩
    refine cv_iload_n dX12_readText_37 rfl ?_
    refine cv_aload_n dX12_readText_38 rfl ?_
    refine cv_getf flX12_75 dX12_readText_39 rfl rfl ?_
    refine cv_icmp_ge (tgt := 111) dX12_readText_42 (by decide) (by omega) (fun h42 => ?_) (fun h42 => ?_)
    · refine cv_aload_n dX12_readText_111 rfl ?_
      refine cv_getf flX12_75 dX12_readText_112 rfl rfl ?_
      refine cv_iconst dX12_readText_115 ?_
      refine cv_aload_n dX12_readText_116 rfl ?_
      refine cv_getf flX12_78 dX12_readText_117 rfl rfl ?_
      refine cv_iadd dX12_readText_120 ?_
      refine cv_icmp_lt (tgt := 144) dX12_readText_121 (by decide) (by omega) (fun h121 => ?_) (fun h121 => ?_)
      · refine cv_aload_n dX12_readText_144 rfl ?_
        refine cv_getf flX12_75 dX12_readText_145 rfl rfl ?_
        refine cv_iret rfl dX12_readText_148 ⟨Nat.le_refl _, Nat.le_refl _⟩ (by
          have en : n = 1 := by omega
          subst en
          have e0 : fFt 1 f = ((1 : Nat) : Int) := by rw [ft_none hall, if_neg (fun z => by have := z.1; omega)]
          exact ⟨o1, A, ct_rI (by rw [e0]; omega), rfl, h8, fun z => absurd z (by rw [e0]; omega)⟩)
      · exact absurd h121 (by omega)
    · refine cv_iload_n dX12_readText_45 rfl ?_
      refine cv_iconst dX12_readText_46 ?_
      refine cv_icmp_eq (tgt := 60) dX12_readText_47 (by decide) (by omega) (fun h47 => ?_) (fun h47 => ?_)
      · refine cv_iconst dX12_readText_60 ?_
        refine cv_goto (tgt := 65) dX12_readText_61 (by decide) ?_
        refine cv_istore_n dX12_readText_65 (by decide) rfl rfl ?_
        refine cv_iload_n dX12_readText_66 rfl ?_
        refine cv_if_eq (tgt := 90) dX12_readText_67 (by decide) (by omega) (fun h67 => ?_) (fun h67 => ?_)
        · exact absurd h67 (by omega)
        · refine cv_aload_n dX12_readText_70 rfl ?_
          refine cv_iload_n dX12_readText_71 rfl ?_
          refine cv_aload_n dX12_readText_72 rfl ?_
          refine cv_getf flX12_7 dX12_readText_73 rfl rfl ?_
          refine cv_iload_n dX12_readText_76 rfl ?_
          refine cv_ialj (1) dX12_readText_77 rfl (by omega) (by omega) ?_
          refine cv_topi (f 1) (hx 1 (by omega)) ?_
          have fk := hf 1 (by omega)
          refine cv_bipush dX12_readText_78 (by decide) ?_
          refine cv_isub dX12_readText_80 ?_
          refine cv_sameV (c_X12_takeHead1 u v T o1 A tm tr p st (f 1 - 48) (by omega)) lkX12_takeHead mlX12_104 dX12_readText_81 (by decide) rfl rfl (by decide) rfl (Nat.le_of_ble_eq_true rfl) ⟨Nat.le_refl _, Nat.le_refl _⟩ ?_
          intro v w1 hq
          obtain ⟨rfl, rfl⟩ := hq
          have ic := ct_i_r (1 ≤ f 1 - 48 ∧ f 1 - 48 ≤ 4)
          refine cv_if_eq (tgt := 103) dX12_readText_84 (by decide) (by omega) (fun h84 => ?_) (fun h84 => ?_)
          · have cc : ¬ (1 ≤ f 1 - 48 ∧ f 1 - 48 ≤ 4) := ct_i_0.mp (by omega)
            refine cv_iload_n dX12_readText_103 rfl ?_
            refine cv_iret rfl dX12_readText_104 ⟨Nat.le_refl _, Nat.le_refl _⟩ (by
          have e0 : fFt n f = ((1 : Nat) : Int) := ft_first hall (fun z => cc (hcs.mp z)) (by omega)
          exact ⟨upA o1 5 (f 1 - 48), A, ct_rI (by rw [e0]; rfl), rfl, FR_o h8 (by omega) _, fun z => absurd z (by rw [e0]; omega)⟩)
          · have cc : 1 ≤ f 1 - 48 ∧ f 1 - 48 ≤ 4 := ct_i_1.mp (by omega)
            have eN : f 1 - 48 = (N : Int) := by have q : fTn f = max 1 (min 4 (f 1 - 48)) := rfl; omega
            refine cv_goto (tgt := 105) dX12_readText_87 (by decide) ?_
            refine cv_iinc dX12_readText_105 (by decide) rfl rfl rfl ?_
            refine cv_goto (tgt := 37) dX12_readText_108 (by decide) ?_
            refine cv_loc [0, 1] rfl ?_
            refine loopH N 2 (upA o1 5 (f 1 - 48)) A (by omega) (by omega) (by omega) (fun j hj => ?_) (FR_o h8 (by omega) _) eN q6 q7 (fun x hx2 => absurd hx2 (by omega))
            rcases (show j = 0 ∨ j = 1 by omega) with rfl | rfl
            · exact hc0
            · exact hcs.mpr cc
      · exact absurd rfl h47
  refine cv_aload_n dX12_readText_0 rfl ?_
  refine cv_iconst dX12_readText_1 ?_
  refine cv_putf fpX12_88 dX12_readText_2 rfl (Nat.le_of_ble_eq_true rfl) (fun _ => ⟨rfl, rfl⟩) ?_
  refine cv_aload_n dX12_readText_5 rfl ?_
  refine cv_iconst dX12_readText_6 ?_
  refine cv_putf fpX12_78 dX12_readText_7 rfl (Nat.le_of_ble_eq_true rfl) (fun _ => ⟨rfl, rfl⟩) ?_
  refine cv_aload_n dX12_readText_10 rfl ?_
  refine cv_iconst dX12_readText_11 ?_
  refine cv_putf fpX12_85 dX12_readText_12 rfl (Nat.le_of_ble_eq_true rfl) (fun _ => ⟨rfl, rfl⟩) ?_
  refine cv_aload_n dX12_readText_15 rfl ?_
  refine cv_getf flX12_75 dX12_readText_16 rfl rfl ?_
  refine cv_if_eq (tgt := 33) dX12_readText_19 (by decide) (by show -2147483648 ≤ o 0 ∧ o 0 ≤ 2147483647; omega) (fun h19 => ?_) (fun h19 => ?_)
  · refine cv_iconst dX12_readText_33 ?_
    refine cv_iret rfl dX12_readText_34 ⟨Nat.le_refl _, Nat.le_refl _⟩ (by
      have en : n = 0 := by have h19b : o 0 = 0 := h19; omega
      subst en
      have e0 : fFt 0 f = ((0 : Nat) : Int) := by rw [ft_none (fun j hj => absurd hj (Nat.not_lt_zero _)), if_neg (fun z => by have := z.1; omega)]
      exact ⟨(upA (upA (upA o 6 0) 5 1) 7 0), A, ct_rI (by rw [e0]; rfl), rfl, (FR_o (FR_o (FR_o (FR_r o A) (by omega) _) (by omega) _) (by omega) _), fun z => absurd z (by rw [e0]; omega)⟩)
  · refine cv_aload_n dX12_readText_22 rfl ?_
    refine cv_getf flX12_7 dX12_readText_23 rfl rfl ?_
    refine cv_iconst dX12_readText_26 ?_
    refine cv_ialj (0) dX12_readText_27 rfl (by omega) (by omega) ?_
    have h19b : ¬ o 0 = 0 := h19
    refine cv_topi (f 0) (hx 0 (by omega)) ?_
    have fk := hf 0 (by omega)
    refine cv_bipush dX12_readText_28 (by decide) ?_
    refine cv_icmp_eq (tgt := 35) dX12_readText_30 (by decide) (by omega) (fun h30 => ?_) (fun h30 => ?_)
    · refine cv_iconst dX12_readText_35 ?_
      refine cv_istore_n dX12_readText_36 (by decide) rfl rfl ?_
      exact one (upA (upA (upA o 6 0) 5 1) 7 0) (FR_o (FR_o (FR_o (FR_r o A) (by omega) _) (by omega) _) (by omega) _) rfl rfl rfl (by omega) ⟨fun _ => h30, fun h => absurd h (by omega), fun h => absurd h (by omega), fun h => absurd h (by omega)⟩
    · refine cv_iconst dX12_readText_33 ?_
      refine cv_iret rfl dX12_readText_34 ⟨Nat.le_refl _, Nat.le_refl _⟩ (by
        have e0 : fFt n f = ((0 : Nat) : Int) := ft_first (fun j hj => absurd hj (Nat.not_lt_zero _)) (fun z => h30 (z.1 rfl)) (by omega)
        exact ⟨(upA (upA (upA o 6 0) 5 1) 7 0), A, ct_rI (by rw [e0]; rfl), rfl, (FR_o (FR_o (FR_o (FR_r o A) (by omega) _) (by omega) _) (by omega) _), fun z => absurd z (by rw [e0]; omega)⟩)
