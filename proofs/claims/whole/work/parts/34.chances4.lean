/-- in how many orders so many rules may stand -/
def dOrd (i : Nat) : Int := match i with | 0 => 1 | 1 => 1 | 2 => 2 | 3 => 6 | 4 => 24 | 5 => 120 | _ => 720
theorem dOrd_e : ∀ i : Nat, i < 7 → ct_ord i = .int (Int32.ofInt (dOrd i)) := by
  intro i hi
  match i, hi with
  | 0, _ | 1, _ | 2, _ | 3, _ | 4, _ | 5, _ | 6, _ => rfl
theorem cv_ordL {M : ct_M} {r : Nat × Nat × Nat} {n0 : Nat} {z : Nat × Nat} {pc : Nat} {ls : List (Nat × ct_V)} {st : List ct_V} {w : List ct_C} {Q : Option ct_V → List ct_C → Prop} {idx k : Nat} {host : String} {i : Nat} (hd : decode M.2.1 pc = .ok (.getstatic idx, 3)) (hn : Cond.fieldLinkNest M.1.cls idx "CutTrail" "ORDERS" "[I" host ∈ ct_nst) (hi : i < 7)
    (hd1 : decode M.2.1 (pc + 3) = .ok (.iload k, 2)) (hg : ct_get ls k = some (vI i)) (hd2 : decode M.2.1 (pc + 5) = .ok (.iaload, 1)) (kk : CV M r n0 z (pc + 6) ls (vI (dOrd i) :: st) w Q) : CV M r n0 z pc ls st w Q := by
  refine cv_ord (i := (i : Int)) (v := dOrd i) (pc1 := pc + 5) hd hn (by omega) (by rw [Int.toNat_natCast]; exact dOrd_e i hi) ?_ hd2 kk
  intro p l e s m args below meth c D kA as A H locs la x QQ hc hP hD hl hW
  exact lv_iload hc.1 hc.2.1 hd1 (ct_la hl hg) hW
theorem cv_ordG {M : ct_M} {r : Nat × Nat × Nat} {n0 : Nat} {z : Nat × Nat} {pc : Nat} {ls : List (Nat × ct_V)} {st : List ct_V} {w : List ct_C} {Q : Option ct_V → List ct_C → Prop} {idx : Nat} {j : Fin 4} {host : String} {i : Nat} {i1 c1 k1 q1 i2 c2 k2 q2 : Nat} {f1 f2 : List ct_V} (hd : decode M.2.1 pc = .ok (.getstatic idx, 3)) (hn : Cond.fieldLinkNest M.1.cls idx "CutTrail" "ORDERS" "[I" host ∈ ct_nst) (hi : i < 7)
    (hd1 : decode M.2.1 (pc + 3) = .ok (.aload_n j, 1)) (hg : ct_get ls (j : Nat) = some (vR q1)) (hd2 : decode M.2.1 (pc + 4) = .ok (.getfield i1, 3)) (hf1 : ct_fl M.1.cls i1 c1 k1) (hw1 : w[q1]? = some (cO c1 f1)) (hv1 : f1[k1]? = some (vR q2))
    (hd3 : decode M.2.1 (pc + 7) = .ok (.getfield i2, 3)) (hf2 : ct_fl M.1.cls i2 c2 k2) (hw2 : w[q2]? = some (cO c2 f2)) (hv2 : f2[k2]? = some (vI i)) (hd4 : decode M.2.1 (pc + 10) = .ok (.iaload, 1)) (kk : CV M r n0 z (pc + 11) ls (vI (dOrd i) :: st) w Q) : CV M r n0 z pc ls st w Q := by
  refine cv_ord (i := (i : Int)) (v := dOrd i) (pc1 := pc + 10) hd hn (by omega) (by rw [Int.toNat_natCast]; exact dOrd_e i hi) ?_ hd4 kk
  intro p l e s m args below meth c D kA as A H locs la x QQ hc hP hD hl hW
  refine lv_aload_n hc.1 hc.2.1 hd1 rfl (ct_la hl hg) ?_
  obtain ⟨C, T, N, ty, ⟨h1, h2, h3, h4⟩, h5, h6⟩ := hf1
  have hts := hc.2.2.2.2.2.1
  refine va_get hc.1 hc.2.1 hts h2 hc.2.2.2.2.1 hc.2.2.2.2.2.2.2.1 hP q1 (ct_wd_at hw1) h1 k1 h5 (hts _ h6) (fun _ h => h) (by rw [List.getElem?_map, hv1]; rfl) hd2 ?_
  obtain ⟨C, T, N, ty, ⟨h1, h2, h3, h4⟩, h5, h6⟩ := hf2
  exact va_get hc.1 hc.2.1 hts h2 hc.2.2.2.2.1 hc.2.2.2.2.2.2.2.1 hP q2 (ct_wd_at hw2) h1 k2 h5 (hts _ h6) (fun _ h => h) (by rw [List.getElem?_map, hv2]; rfl) hd3 hW
theorem dOrd_m : ∀ a : Nat, a < 6 → ∀ b : Nat, b < 6 → a + b ≤ 5 → 0 ≤ dOrd a * dOrd b ∧ dOrd a * dOrd b ≤ 120 := by decide +kernel
theorem dOrd_r : ∀ a : Nat, a < 7 → 1 ≤ dOrd a ∧ dOrd a ≤ 720 := by decide +kernel
theorem ct_and6 : ∀ r : Nat, r < 6 → ∀ s : Nat, s < 64 → (s &&& 2 ^ r = 0 ↔ ¬ s / 2 ^ r % 2 = 1) := by decide +kernel
theorem pc6_lt : ∀ R : Nat, R < 7 → ∀ s : Nat, s < 64 → s < 2 ^ R → pc6 s ≤ R := by decide +kernel
theorem pc6_1 : ∀ r : Nat, r < 6 → ∀ s : Nat, s < 64 → s / 2 ^ r % 2 = 1 → 1 ≤ pc6 s := by decide +kernel
/-- what a rule is worth, over all the orders, from the sets below l on -/
noncomputable def fSh (T : ctT) (r : Nat) : Nat → Int
  | 0 => 0
  | l + 1 => fSh T r l + if l / 2 ^ r % 2 = 1 then dOrd (tR T - pc6 l) * dOrd (pc6 l - 1) * (fWl T l - fWl T (l - 2 ^ r)) else 0
theorem fSh_s (T : ctT) (r l : Nat) : fSh T r (l + 1) = fSh T r l + if l / 2 ^ r % 2 = 1 then dOrd (tR T - pc6 l) * dOrd (pc6 l - 1) * (fWl T l - fWl T (l - 2 ^ r)) else 0 := rfl
theorem fSh_r {T : ctT} (hT : okT T) {r : Nat} (hr : r < tR T) : ∀ l : Nat, l ≤ 2 ^ tR T → 0 ≤ fSh T r l ∧ fSh T r l ≤ 1200000 * (l : Int)
  | 0, _ => by simp [fSh]
  | l + 1, hl => by
    have hR := hT.2.2.1
    have h6 := ct_pow6 hR
    have h0 := fSh_r hT hr l (by omega)
    rw [fSh_s]
    split
    · rename_i hb
      have h1 := fWl_fewer hT (r := r) (s := l) (by omega) (by omega) hb
      have h2 := pc6_lt (tR T) (by omega) l (by omega) (by omega)
      have h3 := pc6_1 r (by omega) l (by omega) hb
      have h4 := dOrd_m (tR T - pc6 l) (by omega) (pc6 l - 1) (by omega) (by omega)
      have h5 := Int.mul_nonneg h4.1 h1.1
      have h7 := Int.mul_le_mul h4.2 h1.2 h1.1 (by decide)
      omega
    · omega
set_option maxRecDepth 100000 in
set_option maxHeartbeats 1000000 in
theorem c_X1_shareOf (T : ctT) (S : ctS) (n : Int) (f : Nat → Int) (hT : okT T) (hW : okW T n f) (r : Nat) (hr : r < tR T) (u : Int) (hu : u = 0 ∨ u = 1) : CM MX1_shareOf (2, 0, 0) [vR 20, vI r, vI u] (wCh T S n f) (fun v w => ∃ f1, v = some (vI (fFr (fSh T r (2 ^ tR T)).toNat (dOrd (tR T)).toNat u)) ∧ w = wCh T S 1 f1 ∧ ∀ s, s < 64 → f1 s = fWl T s) := by
  refine CM.of (by decide) (Nat.le_of_ble_eq_true rfl) ?_
  show CV MX1_shareOf (2, 0, 0) 22 (0, 0) 0 [(0, vR 20), (1, vI r), (2, vI u)] [] (wCh T S n f) _
  have hR := hT.2.2.1
  have h2 := ct_pow6 hR
  have hcr := fSh_r hT hr (2 ^ tR T) (Nat.le_refl _)
  have hp9 : (0 : Int) ≤ ((2 ^ tR T : Nat) : Int) := Int.natCast_nonneg _
  have hp8 : ((2 ^ tR T : Nat) : Int) ≤ ((64 : Nat) : Int) := Int.ofNat_le.mpr h2
  have hp7 : (0 : Int) ≤ ((2 ^ r : Nat) : Int) := Int.natCast_nonneg _
  have hp6 : 2 ^ r ≤ 2 ^ tR T := Nat.pow_le_pow_right (by decide) (by omega)
  have hp5 := Int.ofNat_le.mpr hp6
  have hd0 := dOrd_r (tR T) (by omega)
  have loop : ∀ (k : Nat) (l : Nat) (g : Nat → Int), (2 ^ tR T < l + k) → (l ≤ 2 ^ tR T) → (∀ s, s < 64 → g s = fWl T s) → CV MX1_shareOf (2, 0, 0) 22 (0, 0) 14 [(0, vR 20), (1, vI r), (2, vI u), (3, vI ((2 ^ r : Nat) : Int)), (4, vI (fSh T r l)), (5, vI l)] [] (wCh T S 1 g) (fun v w => ∃ f1, v = some (vI (fFr (fSh T r (2 ^ tR T)).toNat (dOrd (tR T)).toNat u)) ∧ w = wCh T S 1 f1 ∧ ∀ s, s < 64 → f1 s = fWl T s) := by
    intro k
    induction k with
    | zero => intro l g hk hi hg; exact absurd hk (by omega)
    | succ k ih =>
      intro l g hk hi hg
      refine cv_iload dX1_shareOf_14 rfl ?_
      refine cv_iconst dX1_shareOf_16 ?_
      refine cv_aload_n dX1_shareOf_17 rfl ?_
      refine cv_getf flX1_19 dX1_shareOf_18 rfl rfl ?_
      refine cv_getf flX1_26 dX1_shareOf_21 rfl rfl ?_
      refine cv_ishl dX1_shareOf_24 (by omega) ?_
      refine cv_topi ((2 ^ tR T : Nat) : Int) (ct_p2 _) ?_
      refine cv_icmp_ge (tgt := 104) dX1_shareOf_25 (by decide) (by omega) (fun h25 => ?_) (fun h25 => ?_)
      · refine cv_iload dX1_shareOf_104 rfl ?_
        have hl7 : l = 2 ^ tR T := by
          have : 2 ^ tR T ≤ l := Int.ofNat_le.mp h25
          omega
        subst hl7
        refine cv_ordG (i := tR T) dX1_shareOf_106 fnX1_38 (by omega) dX1_shareOf_109 rfl dX1_shareOf_110 flX1_19 rfl rfl dX1_shareOf_113 flX1_26 rfl rfl dX1_shareOf_116 ?_
        refine cv_iload_n dX1_shareOf_117 rfl ?_
        rw [show (vI (fSh T r (2 ^ tR T)) : ct_V) = vI (((fSh T r (2 ^ tR T)).toNat : Nat) : Int) by rw [Int.toNat_of_nonneg hcr.1], show (vI (dOrd (tR T)) : ct_V) = vI (((dOrd (tR T)).toNat : Nat) : Int) by rw [Int.toNat_of_nonneg (by omega)]]
        refine cv_sameS (c_X1_toldOf (wCh T S 1 g) (fSh T r (2 ^ tR T)).toNat (dOrd (tR T)).toNat (by omega) (by omega) (by omega) u hu) lkX1_toldOf mlX1_41 dX1_shareOf_118 (by decide) rfl rfl (Nat.le_of_ble_eq_true rfl) ⟨Nat.le_refl _, Nat.le_refl _⟩ ?_
        intro v w1 hq
        obtain ⟨rfl, rfl⟩ := hq
        exact cv_iret rfl dX1_shareOf_121 ⟨Nat.le_refl _, Nat.le_refl _⟩ ⟨g, rfl, rfl, hg⟩
      · have hl6 : l < 2 ^ tR T := by
          rcases Nat.lt_or_ge l (2 ^ tR T) with q | q
          · exact q
          · exact absurd (Int.ofNat_le.mpr q) h25
        refine cv_iload dX1_shareOf_28 rfl ?_
        refine cv_iload_n dX1_shareOf_30 rfl ?_
        refine cv_iand dX1_shareOf_31 (by omega) ?_
        refine cv_topi ((l &&& 2 ^ r : Nat) : Int) (by rw [Int.toNat_natCast, Int.toNat_natCast]) ?_
        have ha6 : l &&& 2 ^ r ≤ l := Nat.and_le_left
        have hb6 := ct_and6 r (by omega) l (by omega)
        refine cv_if_eq (tgt := 98) dX1_shareOf_32 (by decide) (by omega) (fun h32 => ?_) (fun h32 => ?_)
        · refine cv_iinc dX1_shareOf_98 (by decide) rfl rfl rfl ?_
          refine cv_goto (tgt := 14) dX1_shareOf_101 (by decide) ?_
          have e0 := fSh_s T r l
          rw [if_neg (hb6.mp (Int.ofNat.inj h32)), Int.add_zero] at e0
          have := ih (l + 1) g (by omega) (by omega) hg
          rw [e0] at this
          exact this
        · have hb : l / 2 ^ r % 2 = 1 := by
            rcases Decidable.em (l / 2 ^ r % 2 = 1) with q | q
            · exact q
            · exact absurd (congrArg Int.ofNat (hb6.mpr q)) h32
          have h3 := pc6_lt (tR T) (by omega) l (by omega) (by omega)
          have h4 := pc6_1 r (by omega) l (by omega) hb
          have h5 := ct_xor6 r (by omega) l (by omega) hb
          refine cv_iload dX1_shareOf_35 rfl ?_
          refine cv_sameS (c_bitCount (wCh T S 1 g) l (by omega)) lkJ6_bitCount_0f7a4 mlX1_32 dX1_shareOf_37 (by decide) rfl rfl (Nat.le_of_ble_eq_true rfl) ⟨Nat.le_refl _, Nat.le_refl _⟩ ?_
          intro v w1 hq
          obtain ⟨rfl, rfl⟩ := hq
          refine cv_iconst dX1_shareOf_40 ?_
          refine cv_isub dX1_shareOf_41 ?_
          refine cv_topi ((pc6 l - 1 : Nat) : Int) (by omega) ?_
          refine cv_istore dX1_shareOf_42 (by decide) rfl rfl ?_
          refine cv_aload_n dX1_shareOf_44 rfl ?_
          refine cv_getf flX1_19 dX1_shareOf_45 rfl rfl ?_
          refine cv_getf flX1_26 dX1_shareOf_48 rfl rfl ?_
          refine cv_iconst dX1_shareOf_51 ?_
          refine cv_isub dX1_shareOf_52 ?_
          refine cv_iload dX1_shareOf_53 rfl ?_
          refine cv_isub dX1_shareOf_55 ?_
          refine cv_topi ((tR T - pc6 l : Nat) : Int) (by omega) ?_
          refine cv_istore dX1_shareOf_56 (by decide) rfl rfl ?_
          refine cv_aload_n dX1_shareOf_58 rfl ?_
          refine cv_getf flX1_9 dX1_shareOf_59 rfl rfl ?_
          refine cv_iload dX1_shareOf_62 rfl ?_
          refine cv_ialj (l) dX1_shareOf_64 rfl (by omega) (by omega) ?_
          rw [hg l (by omega)]
          refine cv_aload_n dX1_shareOf_65 rfl ?_
          refine cv_getf flX1_9 dX1_shareOf_66 rfl rfl ?_
          refine cv_iload dX1_shareOf_69 rfl ?_
          refine cv_iload_n dX1_shareOf_71 rfl ?_
          refine cv_ixor dX1_shareOf_72 (by omega) ?_
          refine cv_topi ((l - 2 ^ r : Nat) : Int) (by rw [Int.toNat_natCast, Int.toNat_natCast, h5.1]) ?_
          refine cv_ialj (l - 2 ^ r) dX1_shareOf_73 rfl (by omega) (by omega) ?_
          rw [hg (l - 2 ^ r) (by omega)]
          refine cv_isub dX1_shareOf_74 ?_
          refine cv_istore dX1_shareOf_75 (by decide) rfl rfl ?_
          refine cv_iload dX1_shareOf_77 rfl ?_
          refine cv_ordL (i := tR T - pc6 l) dX1_shareOf_79 fnX1_38 (by omega) dX1_shareOf_82 rfl dX1_shareOf_84 ?_
          refine cv_ordL (i := pc6 l - 1) dX1_shareOf_85 fnX1_38 (by omega) dX1_shareOf_88 rfl dX1_shareOf_90 ?_
          refine cv_imul dX1_shareOf_91 ?_
          refine cv_iload dX1_shareOf_92 rfl ?_
          refine cv_imul dX1_shareOf_94 ?_
          refine cv_iadd dX1_shareOf_95 ?_
          refine cv_istore dX1_shareOf_96 (by decide) rfl rfl ?_
          refine cv_iinc dX1_shareOf_98 (by decide) rfl rfl rfl ?_
          refine cv_goto (tgt := 14) dX1_shareOf_101 (by decide) ?_
          refine cv_loc [0, 1, 2, 3, 4, 5] rfl ?_
          have e0 := fSh_s T r l
          rw [if_pos hb] at e0
          have := ih (l + 1) g (by omega) (by omega) hg
          rw [e0] at this
          exact this
  refine cv_aload_n dX1_shareOf_0 rfl ?_
  refine cv_sameV (c_X1_countAll T S n f hT hW) lkX1_countAll mlX1_23 dX1_shareOf_1 (by decide) rfl rfl (by decide) rfl (Nat.le_of_ble_eq_true rfl) ⟨Nat.le_refl _, Nat.le_refl _⟩ ?_
  intro v1 w1 hq
  obtain ⟨g, rfl, rfl, hg⟩ := hq
  refine cv_iconst dX1_shareOf_4 ?_
  refine cv_iload_n dX1_shareOf_5 rfl ?_
  refine cv_ishl dX1_shareOf_6 (by omega) ?_
  refine cv_topi ((2 ^ r : Nat) : Int) (ct_p2 _) ?_
  refine cv_istore_n dX1_shareOf_7 (by decide) rfl rfl ?_
  refine cv_iconst dX1_shareOf_8 ?_
  refine cv_istore dX1_shareOf_9 (by decide) rfl rfl ?_
  refine cv_iconst dX1_shareOf_11 ?_
  refine cv_istore dX1_shareOf_12 (by decide) rfl rfl ?_
  exact loop (2 ^ tR T + 1) 0 g (by omega) (by omega) hg
