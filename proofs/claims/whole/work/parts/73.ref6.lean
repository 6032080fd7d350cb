/-- the row of values holds v -/
def vl (T : ctT) (g v : Nat → Int) : Prop := (∀ x, x < tN T → g x = v x) ∧ (∀ x, x < 4 → 0 ≤ v x ∧ v x ≤ tT T x)
theorem vl_0 {T : ctT} {g v : Nat → Int} (hT : okT T) (h : vl T g v) {x : Nat} (h1 : tN T ≤ x) (h2 : x < 4) : v x = 0 := by
  have a := h.2 x h2
  have b := hT.2.2.2.2.1 x h1 h2
  omega
def lS (T : ctT) (r : Nat) (v : Nat → Int) : Nat → Int
  | 0 => 0
  | x + 1 => lS T r v x + tW T r x * v x
theorem lS_N {T : ctT} {g v : Nat → Int} (hT : okT T) (h : vl T g v) (r : Nat) : lS T r v (tN T) = fLin T r (v 0) (v 1) (v 2) (v 3) := by
  have e : ∀ d, tN T + d ≤ 4 → lS T r v (tN T + d) = lS T r v (tN T) := by
    intro d
    induction d with
    | zero => intro _; rfl
    | succ d ih =>
      intro hd
      show lS T r v (tN T + d) + tW T r (tN T + d) * v (tN T + d) = _
      rw [ih (by omega), vl_0 hT h (by omega) (by omega), Int.mul_zero, Int.add_zero]
  have h4 := e (4 - tN T) (by have := hT.2.1; omega)
  rw [show tN T + (4 - tN T) = 4 by have := hT.2.1; omega] at h4
  rw [← h4]
  show 0 + tW T r 0 * v 0 + tW T r 1 * v 1 + tW T r 2 * v 2 + tW T r 3 * v 3 = _
  rw [Int.zero_add]
  rfl
theorem lS_r {T : ctT} {g v : Nat → Int} (hT : okT T) (h : vl T g v) {r : Nat} (hr : r < 6) : ∀ x : Nat, x ≤ 4 → -(27 * (x : Int)) ≤ lS T r v x ∧ lS T r v x ≤ 27 * (x : Int)
  | 0, _ => by simp [lS]
  | x + 1, hx => by
    have ih := lS_r hT h hr x (by omega)
    have a := h.2 x (by omega)
    have b := hT.2.2.2.1 x (by omega)
    have c := hT.2.2.2.2.2.1 r x hr (by omega)
    have m1 : -27 ≤ tW T r x * v x ∧ tW T r x * v x ≤ 27 := by
      have q1 := Int.mul_le_mul_of_nonneg_right c.2 a.1
      have q2 := Int.mul_le_mul_of_nonneg_right c.1 a.1
      omega
    show _ ≤ lS T r v x + tW T r x * v x ∧ lS T r v x + tW T r x * v x ≤ _
    omega
theorem dV_vl {T : ctT} (hT : okT T) {g : Nat → Int} {m : Nat} (h : ∀ x, x < tN T → g x = dV T m x) : vl T g (dV T m) := ⟨h, fun _ hx => dV_r hT m hx⟩
set_option maxRecDepth 100000 in
set_option maxHeartbeats 1000000 in
theorem c_X12_layWay (u v : Nat) (T : ctT) (o : Nat → Int) (A : Nat → Nat → Int) (tm tr : Int) (p st : Nat → Int) (hT : okT T) (hA : rT T A) (m : Nat) (hm : m ≤ 10000) : CM MX12_layWay (0, 0, 0) [vR 0, vI m] (wM u v T o A tm tr p st) (fun v1 w => ∃ g, v1 = some (vI (ct_i (m < nAll T))) ∧ w = wM u v T o (upA A 13 g) tm tr p st ∧ vl T g (dV T m)) := by
  refine CM.of (by decide) (Nat.le_of_ble_eq_true rfl) ?_
  show CV MX12_layWay (0, 0, 0) 19 (0, 0) 0 [(0, vR 0), (1, vI m)] [] (wM u v T o A tm tr p st) _
  have hN := hT.2.1
  have hN1 := hT.1
  have loop : ∀ (j : Nat) (g : Nat → Int), j ≤ tN T → (∀ x, j ≤ x → x < tN T → g x = dV T m x) → CV MX12_layWay (0, 0, 0) 19 (0, 0) 9 [(0, vR 0), (1, vI m), (2, vI (dP T m (4 - j) : Nat)), (3, vI ((j : Int) - 1))] [] (wM u v T o (upA A 13 g) tm tr p st) (fun v1 w => ∃ g, v1 = some (vI (ct_i (m < nAll T))) ∧ w = wM u v T o (upA A 13 g) tm tr p st ∧ vl T g (dV T m)) := by
    intro j
    induction j with
    | zero =>
      intro g hj hg
      have d4 : dP T m (4 - 0) = 0 ↔ m < nAll T := dP_4 (T := T) (m := m)
      have dl := dP_le T m (4 - 0)
      have vv := dV_vl hT (g := g) (m := m) (fun x hx => hg x (by omega) hx)
      refine cv_iload_n dX12_layWay_9 rfl ?_
      refine cv_if_lt (tgt := 46) dX12_layWay_10 (by decide) (by omega) (fun h10 => ?_) (fun h10 => ?_)
      · refine cv_iload_n dX12_layWay_46 rfl ?_
        refine cv_if_ne (tgt := 54) dX12_layWay_47 (by decide) (by omega) (fun h47 => ?_) (fun h47 => ?_)
        · refine cv_iconst dX12_layWay_54 ?_
          refine cv_zret rfl dX12_layWay_55 ⟨Nat.le_refl _, Nat.le_refl _⟩ (by omega) ⟨g, ct_rI (ct_i_f (by omega)).symm, rfl, vv⟩
        · refine cv_iconst dX12_layWay_50 ?_
          refine cv_goto (tgt := 55) dX12_layWay_51 (by decide) ?_
          refine cv_zret rfl dX12_layWay_55 ⟨Nat.le_refl _, Nat.le_refl _⟩ (by omega) ⟨g, ct_rI (ct_i_t (by omega)).symm, rfl, vv⟩
      · exact absurd h10 (by omega)
    | succ j ih =>
      intro g hj hg
      have tt := hT.2.2.2.1 j (by omega)
      have ta := hA.1 j (by omega)
      have dl := dP_le T m (4 - (j + 1))
      have e1 : dP T m (4 - j) = dP T m (4 - (j + 1)) / nV T j := by
        rw [show 4 - j = 4 - (j + 1) + 1 by omega]
        show dP T m (4 - (j + 1)) / nV T (3 - (4 - (j + 1))) = _
        rw [show 3 - (4 - (j + 1)) = j by omega]
      have e2 : dV T m j = ((dP T m (4 - (j + 1)) % nV T j : Nat) : Int) := by
        unfold dV
        rw [show 3 - j = 4 - (j + 1) by omega]
      have en : tT T j + 1 = ((nV T j : Nat) : Int) := by unfold nV; omega
      refine cv_iload_n dX12_layWay_9 rfl ?_
      refine cv_if_lt (tgt := 46) dX12_layWay_10 (by decide) (by omega) (fun h10 => ?_) (fun h10 => ?_)
      · exact absurd h10 (by omega)
      · refine cv_aload_n dX12_layWay_13 rfl ?_
        refine cv_getf flX12_47 dX12_layWay_14 rfl rfl ?_
        refine cv_iload_n dX12_layWay_17 rfl ?_
        refine cv_iload_n dX12_layWay_18 rfl ?_
        refine cv_aload_n dX12_layWay_19 rfl ?_
        refine cv_getf flX12_13 dX12_layWay_20 rfl rfl ?_
        refine cv_iload_n dX12_layWay_23 rfl ?_
        refine cv_ialj (j) dX12_layWay_24 rfl (by omega) (by omega) ?_
        refine cv_topi (tT T j) ta ?_
        refine cv_iconst dX12_layWay_25 ?_
        refine cv_iadd dX12_layWay_26 ?_
        refine cv_topi ((nV T j : Nat) : Int) en ?_
        refine cv_irem dX12_layWay_27 (by omega) ?_
        refine cv_topi (dV T m j) (by rw [e2, Int.natCast_emod]) ?_
        refine cv_iasj (j) dX12_layWay_28 rfl (by omega) (by omega) ?_
        refine cv_iload_n dX12_layWay_29 rfl ?_
        refine cv_aload_n dX12_layWay_30 rfl ?_
        refine cv_getf flX12_13 dX12_layWay_31 rfl rfl ?_
        refine cv_iload_n dX12_layWay_34 rfl ?_
        refine cv_ialj (j) dX12_layWay_35 rfl (by omega) (by omega) ?_
        refine cv_topi (tT T j) ta ?_
        refine cv_iconst dX12_layWay_36 ?_
        refine cv_iadd dX12_layWay_37 ?_
        refine cv_topi ((nV T j : Nat) : Int) en ?_
        refine cv_idiv dX12_layWay_38 (by omega) ?_
        refine cv_topi ((dP T m (4 - j) : Nat) : Int) (by rw [e1, Int.natCast_ediv]) ?_
        refine cv_istore_n dX12_layWay_39 (by decide) rfl rfl ?_
        refine cv_iinc dX12_layWay_40 (by decide) rfl rfl rfl ?_
        refine cv_goto (tgt := 9) dX12_layWay_43 (by decide) ?_
        have := ih (ct_up g j (dV T m j)) (by omega) (fun x h1 h2 => by
        by_cases e : x = j
        · subst e; rw [ct_up_s]
        · rw [ct_up_n e]; exact hg x (by omega) h2)
        rw [show (j : Int) - 1 = ((j + 1 : Nat) : Int) - 1 - 1 by omega] at this
        exact this
  refine cv_iload_n dX12_layWay_0 rfl ?_
  refine cv_istore_n dX12_layWay_1 (by decide) rfl rfl ?_
  refine cv_aload_n dX12_layWay_2 rfl ?_
  refine cv_getf flX12_65 dX12_layWay_3 rfl rfl ?_
  refine cv_iconst dX12_layWay_6 ?_
  refine cv_isub dX12_layWay_7 ?_
  refine cv_istore_n dX12_layWay_8 (by decide) rfl rfl ?_
  have := loop (tN T) (A 13) (Nat.le_refl _) (fun x h1 h2 => absurd h1 (by omega))
  rw [dP_N hT m (4 - tN T) (by omega)] at this
  exact this
set_option maxRecDepth 100000 in
set_option maxHeartbeats 1000000 in
theorem c_X12_broken (u v : Nat) (T : ctT) (o : Nat → Int) (A : Nat → Nat → Int) (tm tr : Int) (p st : Nat → Int) (hT : okT T) (hA : rT T A) (vv : Nat → Int) (hv : vl T (A 13) vv) : CM MX12_broken (1, 0, 0) [vR 0] (wM u v T o A tm tr p st) (fun v1 w => v1 = some (vI ((fBb T (vv 0) (vv 1) (vv 2) (vv 3) (tR T)) : Nat)) ∧ w = wM u v T o A tm tr p st) := by
  refine CM.of (by decide) (Nat.le_of_ble_eq_true rfl) ?_
  show CV MX12_broken (1, 0, 0) 19 (0, 0) 0 [(0, vR 0)] [] (wM u v T o A tm tr p st) _
  have hN := hT.2.1
  have hR6 := hT.2.2.1
  have loop : ∀ (k r : Nat), tR T < r + k → r ≤ tR T → CV MX12_broken (1, 0, 0) 19 (0, 0) 4 [(0, vR 0), (1, vI ((fBb T (vv 0) (vv 1) (vv 2) (vv 3) r) : Nat)), (2, vI (r : Nat))] [] (wM u v T o A tm tr p st) (fun v1 w => v1 = some (vI ((fBb T (vv 0) (vv 1) (vv 2) (vv 3) (tR T)) : Nat)) ∧ w = wM u v T o A tm tr p st) := by
    intro k
    induction k with
    | zero => intro r hk hi; exact absurd hk (by omega)
    | succ k ih0 =>
      intro r hk hi
      have hb := fBb_r T (vv 0) (vv 1) (vv 2) (vv 3) r
      have hp := ct_pow6 (r := r) (by omega)
      have inner : ∀ (k : Nat) (x : Nat), (tN T < x + k) → (x ≤ tN T) → (r < tR T) → CV MX12_broken (1, 0, 0) 19 (0, 0) 17 [(0, vR 0), (1, vI ((fBb T (vv 0) (vv 1) (vv 2) (vv 3) r) : Nat)), (2, vI (r : Nat)), (3, vI (lS T r vv x)), (4, vI (x : Nat))] [] (wM u v T o A tm tr p st) (fun v1 w => v1 = some (vI ((fBb T (vv 0) (vv 1) (vv 2) (vv 3) (tR T)) : Nat)) ∧ w = wM u v T o A tm tr p st) := by
        intro k
        induction k with
        | zero => intro x hx hi2 hr; exact absurd hx (by omega)
        | succ k ih =>
          intro x hx hi2 hr
          have lr := lS_r hT hv (r := r) (by omega) x (by omega)
          have bd := hT.2.2.2.2.2.2.2 r (by omega)
          refine cv_iload dX12_broken_17 rfl ?_
          refine cv_aload_n dX12_broken_19 rfl ?_
          refine cv_getf flX12_65 dX12_broken_20 rfl rfl ?_
          refine cv_icmp_ge (tgt := 50) dX12_broken_23 (by decide) (by omega) (fun h23 => ?_) (fun h23 => ?_)
          · refine cv_iload_n dX12_broken_50 rfl ?_
            refine cv_iload_n dX12_broken_51 rfl ?_
            refine cv_aload_n dX12_broken_52 rfl ?_
            refine cv_getf flX12_19 dX12_broken_53 rfl rfl ?_
            refine cv_iload_n dX12_broken_56 rfl ?_
            refine cv_ialj (r) dX12_broken_57 rfl (by omega) (by omega) ?_
            rw [hA.2.2 r hr]
            have eL := lS_N hT hv r
            rw [show x = tN T by omega, eL]
            rw [show x = tN T by omega, eL] at lr
            refine cv_icmp_le (tgt := 67) dX12_broken_58 (by decide) (by omega) (fun h58 => ?_) (fun h58 => ?_)
            · refine cv_iconst dX12_broken_67 ?_
              refine cv_ior dX12_broken_68 (by have := Int.natCast_nonneg (fBb T (vv 0) (vv 1) (vv 2) (vv 3) r); have := Int.natCast_nonneg (2 ^ r); omega) ?_
              refine cv_istore_n dX12_broken_69 (by decide) rfl rfl ?_
              refine cv_iinc dX12_broken_70 (by decide) rfl rfl rfl ?_
              refine cv_goto (tgt := 4) dX12_broken_73 (by decide) ?_
              refine cv_loc [0, 1, 2] rfl ?_
              have e0 : fBb T (vv 0) (vv 1) (vv 2) (vv 3) (r + 1) = fBb T (vv 0) (vv 1) (vv 2) (vv 3) r := if_neg (by omega)
              have := ih0 (r + 1) (by omega) (by omega)
              rw [e0] at this
              rw [Int.toNat_natCast, show ((0 : Int)).toNat = 0 from rfl, Nat.or_zero]
              exact this
            · refine cv_iconst dX12_broken_61 ?_
              refine cv_iload_n dX12_broken_62 rfl ?_
              refine cv_ishl dX12_broken_63 (by omega) ?_
              rw [ct_p2]
              refine cv_goto (tgt := 68) dX12_broken_64 (by decide) ?_
              refine cv_ior dX12_broken_68 (by have := Int.natCast_nonneg (fBb T (vv 0) (vv 1) (vv 2) (vv 3) r); have := Int.natCast_nonneg (2 ^ r); omega) ?_
              refine cv_istore_n dX12_broken_69 (by decide) rfl rfl ?_
              refine cv_iinc dX12_broken_70 (by decide) rfl rfl rfl ?_
              refine cv_goto (tgt := 4) dX12_broken_73 (by decide) ?_
              refine cv_loc [0, 1, 2] rfl ?_
              have e0 : fBb T (vv 0) (vv 1) (vv 2) (vv 3) (r + 1) = fBb T (vv 0) (vv 1) (vv 2) (vv 3) r + 2 ^ r := if_pos (by omega)
              have := ih0 (r + 1) (by omega) (by omega)
              rw [e0] at this
              rw [Int.toNat_natCast, Int.toNat_natCast, ct_or hb]
              exact this
          · refine cv_iload_n dX12_broken_26 rfl ?_
            refine cv_aload_n dX12_broken_27 rfl ?_
            refine cv_iload_n dX12_broken_28 rfl ?_
            refine cv_iload dX12_broken_29 rfl ?_
            refine cv_sameV (c_X12_weightOf u v T o A tm tr p st hT hA r x hr (by omega)) lkX12_weightOf mlX12_134 dX12_broken_31 (by decide) rfl rfl (by decide) rfl (Nat.le_of_ble_eq_true rfl) ⟨Nat.le_refl _, Nat.le_refl _⟩ ?_
            intro v w1 hq
            obtain ⟨rfl, rfl⟩ := hq
            refine cv_aload_n dX12_broken_34 rfl ?_
            refine cv_getf flX12_47 dX12_broken_35 rfl rfl ?_
            refine cv_iload dX12_broken_38 rfl ?_
            refine cv_ialj (x) dX12_broken_40 rfl (by omega) (by omega) ?_
            rw [hv.1 x (by omega)]
            refine cv_imul dX12_broken_41 ?_
            refine cv_iadd dX12_broken_42 ?_
            refine cv_istore_n dX12_broken_43 (by decide) rfl rfl ?_
            refine cv_iinc dX12_broken_44 (by decide) rfl rfl rfl ?_
            refine cv_goto (tgt := 17) dX12_broken_47 (by decide) ?_
            exact ih (x + 1) (by omega) (by omega) hr
      refine cv_iload_n dX12_broken_4 rfl ?_
      refine cv_aload_n dX12_broken_5 rfl ?_
      refine cv_getf flX12_145 dX12_broken_6 rfl rfl ?_
      refine cv_icmp_ge (tgt := 76) dX12_broken_9 (by decide) (by omega) (fun h9 => ?_) (fun h9 => ?_)
      · refine cv_iload_n dX12_broken_76 rfl ?_
        refine cv_iret rfl dX12_broken_77 ⟨Nat.le_refl _, Nat.le_refl _⟩ ⟨ct_rI (by rw [show r = tR T by omega]), rfl⟩
      · refine cv_iconst dX12_broken_12 ?_
        refine cv_istore_n dX12_broken_13 (by decide) rfl rfl ?_
        refine cv_iconst dX12_broken_14 ?_
        refine cv_istore dX12_broken_15 (by decide) rfl rfl ?_
        exact inner (tN T + 1) 0 (by omega) (by omega) (by omega)
  refine cv_iconst dX12_broken_0 ?_
  refine cv_istore_n dX12_broken_1 (by decide) rfl rfl ?_
  refine cv_iconst dX12_broken_2 ?_
  refine cv_istore_n dX12_broken_3 (by decide) rfl rfl ?_
  exact loop (tR T + 1) 0 (by omega) (by omega)
set_option maxRecDepth 100000 in
set_option maxHeartbeats 1000000 in
theorem c_X12_fits (u v : Nat) (T : ctT) (o : Nat → Int) (A : Nat → Nat → Int) (tm tr : Int) (p st : Nat → Int) (hT : okT T) (vv : Nat → Int) (hv : vl T (A 13) vv) (m : Int) (hm : 0 ≤ m ∧ m < 100 * (tN T : Int) ∧ m / 10 % 10 ≤ 1) : CM MX12_fits (0, 0, 0) [vR 0, vI m] (wM u v T o A tm tr p st) (fun v1 w => v1 = some (vI (ct_i (ftP m vv))) ∧ w = wM u v T o A tm tr p st) := by
  refine CM.of (by decide) (Nat.le_of_ble_eq_true rfl) ?_
  show CV MX12_fits (0, 0, 0) 19 (0, 0) 0 [(0, vR 0), (1, vI m)] [] (wM u v T o A tm tr p st) _
  have hN := hT.2.1
  have h0 := hv.1 (m / 100).toNat (by omega)
  have h1 := hv.2 (m / 100).toNat (by omega)
  have h2 := hT.2.2.2.1 (m / 100).toNat (by omega)
  refine cv_aload_n dX12_fits_0 rfl ?_
  refine cv_getf flX12_47 dX12_fits_1 rfl rfl ?_
  refine cv_iload_n dX12_fits_4 rfl ?_
  refine cv_bipush dX12_fits_5 (by decide) ?_
  refine cv_idiv dX12_fits_7 (by omega) ?_
  refine cv_ialj ((m / 100).toNat) dX12_fits_8 rfl (by omega) (by omega) ?_
  rw [h0]
  refine cv_istore_n dX12_fits_9 (by decide) rfl rfl ?_
  refine cv_iload_n dX12_fits_10 rfl ?_
  refine cv_bipush dX12_fits_11 (by decide) ?_
  refine cv_idiv dX12_fits_13 (by omega) ?_
  refine cv_bipush dX12_fits_14 (by decide) ?_
  refine cv_irem dX12_fits_16 (by omega) ?_
  refine cv_if_ne (tgt := 36) dX12_fits_17 (by decide) (by omega) (fun h17 => ?_) (fun h17 => ?_)
  · refine cv_iload_n dX12_fits_36 rfl ?_
    refine cv_iload_n dX12_fits_37 rfl ?_
    refine cv_bipush dX12_fits_38 (by decide) ?_
    refine cv_irem dX12_fits_40 (by omega) ?_
    refine cv_icmp_gt (tgt := 48) dX12_fits_41 (by decide) (by omega) (fun h41 => ?_) (fun h41 => ?_)
    · refine cv_iconst dX12_fits_48 ?_
      refine cv_zret rfl dX12_fits_49 ⟨Nat.le_refl _, Nat.le_refl _⟩ (by omega) ⟨ct_rI (by first | exact (ct_i_t (by unfold ftP; omega)).symm | exact (ct_i_f (by unfold ftP; omega)).symm), rfl⟩
    · refine cv_iconst dX12_fits_44 ?_
      refine cv_goto (tgt := 49) dX12_fits_45 (by decide) ?_
      refine cv_zret rfl dX12_fits_49 ⟨Nat.le_refl _, Nat.le_refl _⟩ (by omega) ⟨ct_rI (by first | exact (ct_i_t (by unfold ftP; omega)).symm | exact (ct_i_f (by unfold ftP; omega)).symm), rfl⟩
  · refine cv_iload_n dX12_fits_20 rfl ?_
    refine cv_iload_n dX12_fits_21 rfl ?_
    refine cv_bipush dX12_fits_22 (by decide) ?_
    refine cv_irem dX12_fits_24 (by omega) ?_
    refine cv_icmp_lt (tgt := 32) dX12_fits_25 (by decide) (by omega) (fun h25 => ?_) (fun h25 => ?_)
    · refine cv_iconst dX12_fits_32 ?_
      refine cv_goto (tgt := 49) dX12_fits_33 (by decide) ?_
      refine cv_zret rfl dX12_fits_49 ⟨Nat.le_refl _, Nat.le_refl _⟩ (by omega) ⟨ct_rI (by first | exact (ct_i_t (by unfold ftP; omega)).symm | exact (ct_i_f (by unfold ftP; omega)).symm), rfl⟩
    · refine cv_iconst dX12_fits_28 ?_
      refine cv_goto (tgt := 49) dX12_fits_29 (by decide) ?_
      refine cv_zret rfl dX12_fits_49 ⟨Nat.le_refl _, Nat.le_refl _⟩ (by omega) ⟨ct_rI (by first | exact (ct_i_t (by unfold ftP; omega)).symm | exact (ct_i_f (by unfold ftP; omega)).symm), rfl⟩
set_option maxRecDepth 100000 in
set_option maxHeartbeats 1000000 in
theorem c_X12_isOpen (v : Nat) (T : ctT) (o : Nat → Int) (A : Nat → Nat → Int) (tm tr : Int) (p st : Nat → Int) (S : ctS) (hT : okT T) (hA : rT T A) (hR : Rep S p) (hJ : J T S) (vv : Nat → Int) (hv : vl T (A 13) vv) : CM MX12_isOpen (2, 0, 0) [vR 0] (wM 5 v T o A tm tr p st) (fun v1 w => v1 = some (vI (ct_i (∀ x, x < tN T → sLo S x ≤ vv x ∧ vv x ≤ sHi S x))) ∧ w = wM 5 v T o A tm tr p st) := by
  refine CM.of (by decide) (Nat.le_of_ble_eq_true rfl) ?_
  show CV MX12_isOpen (2, 0, 0) 19 (0, 0) 0 [(0, vR 0)] [] (wM 5 v T o A tm tr p st) _
  have hN := hT.2.1
  have hg := J_g hT hJ
  have no : ∀ (k x : Nat), tN T < x + k → x ≤ tN T → ¬ (∀ x, x < tN T → sLo S x ≤ vv x ∧ vv x ≤ sHi S x) → CV MX12_isOpen (2, 0, 0) 19 (0, 0) 4 [(0, vR 0), (1, vI 0), (2, vI (x : Nat))] [] (wM 5 v T o A tm tr p st) (fun v1 w => v1 = some (vI (ct_i (∀ x, x < tN T → sLo S x ≤ vv x ∧ vv x ≤ sHi S x))) ∧ w = wM 5 v T o A tm tr p st) := by
    intro k
    induction k with
    | zero => intro x hk hi hn; exact absurd hk (by omega)
    | succ k ih =>
      intro x hk hi hn
      refine cv_iload_n dX12_isOpen_4 rfl ?_
      refine cv_aload_n dX12_isOpen_5 rfl ?_
      refine cv_getf flX12_65 dX12_isOpen_6 rfl rfl ?_
      refine cv_icmp_ge (tgt := 61) dX12_isOpen_9 (by decide) (by omega) (fun h9 => ?_) (fun h9 => ?_)
      · refine cv_iload_n dX12_isOpen_61 rfl ?_
        refine cv_zret rfl dX12_isOpen_62 ⟨Nat.le_refl _, Nat.le_refl _⟩ (by omega) ⟨ct_rI (ct_i_f hn).symm, rfl⟩
      · refine cv_iload_n dX12_isOpen_12 rfl ?_
        refine cv_if_eq (tgt := 53) dX12_isOpen_13 (by decide) (by omega) (fun h13 => ?_) (fun h13 => ?_)
        · refine cv_iconst dX12_isOpen_53 ?_
          refine cv_istore_n dX12_isOpen_54 (by decide) rfl rfl ?_
          refine cv_iinc dX12_isOpen_55 (by decide) rfl rfl rfl ?_
          refine cv_goto (tgt := 4) dX12_isOpen_58 (by decide) ?_
          exact ih (x + 1) (by omega) (by omega) hn
        · exact absurd rfl h13
  have loop : ∀ (k : Nat) (x : Nat), (tN T < x + k) → (x ≤ tN T) → (∀ j, j < x → sLo S j ≤ vv j ∧ vv j ≤ sHi S j) → CV MX12_isOpen (2, 0, 0) 19 (0, 0) 4 [(0, vR 0), (1, vI 1), (2, vI (x : Nat))] [] (wM 5 v T o A tm tr p st) (fun v1 w => v1 = some (vI (ct_i (∀ x, x < tN T → sLo S x ≤ vv x ∧ vv x ≤ sHi S x))) ∧ w = wM 5 v T o A tm tr p st) := by
    intro k
    induction k with
    | zero => intro x hk hi hy; exact absurd hk (by omega)
    | succ k ih =>
      intro x hk hi hy
      refine cv_iload_n dX12_isOpen_4 rfl ?_
      refine cv_aload_n dX12_isOpen_5 rfl ?_
      refine cv_getf flX12_65 dX12_isOpen_6 rfl rfl ?_
      refine cv_icmp_ge (tgt := 61) dX12_isOpen_9 (by decide) (by omega) (fun h9 => ?_) (fun h9 => ?_)
      · refine cv_iload_n dX12_isOpen_61 rfl ?_
        refine cv_zret rfl dX12_isOpen_62 ⟨Nat.le_refl _, Nat.le_refl _⟩ (by omega) ⟨ct_rI (ct_i_t (fun j hj => hy j (by omega))).symm, rfl⟩
      · refine cv_iload_n dX12_isOpen_12 rfl ?_
        refine cv_if_eq (tgt := 53) dX12_isOpen_13 (by decide) (by omega) (fun h13 => ?_) (fun h13 => ?_)
        · exact absurd h13 (by omega)
        · have b1 := hg.1.2.2.2.2.1 x (by omega)
          have b2 := hg.2.1 x (by omega)
          have b3 := hv.2 x (by omega)
          have b4 := hT.2.2.2.1 x (by omega)
          refine cv_aload_n dX12_isOpen_16 rfl ?_
          refine cv_getf flX12_47 dX12_isOpen_17 rfl rfl ?_
          refine cv_iload_n dX12_isOpen_20 rfl ?_
          refine cv_ialj (x) dX12_isOpen_21 rfl (by omega) (by omega) ?_
          rw [hv.1 x (by omega)]
          refine cv_i2l dX12_isOpen_22 (by omega) ?_
          refine cv_aload_n dX12_isOpen_23 rfl ?_
          refine cv_aload_n dX12_isOpen_24 rfl ?_
          refine cv_getf flX12_22 dX12_isOpen_25 rfl rfl ?_
          refine cv_iload_n dX12_isOpen_28 rfl ?_
          refine cv_sameV (c_X12_low 5 v T o A tm tr p st S hT hA hR hJ x (by omega)) lkX12_low mlX12_123 dX12_isOpen_29 (by decide) rfl rfl (by decide) rfl (Nat.le_of_ble_eq_true rfl) ⟨Nat.le_refl _, Nat.le_refl _⟩ ?_
          intro v w1 hq
          obtain ⟨rfl, rfl⟩ := hq
          refine cv_i2l dX12_isOpen_32 (by omega) ?_
          refine cv_aload_n dX12_isOpen_33 rfl ?_
          refine cv_aload_n dX12_isOpen_34 rfl ?_
          refine cv_getf flX12_22 dX12_isOpen_35 rfl rfl ?_
          refine cv_iload_n dX12_isOpen_38 rfl ?_
          refine cv_sameV (c_X12_high 5 v T o A tm tr p st S hT hA hR hJ x (by omega)) lkX12_high mlX12_127 dX12_isOpen_39 (by decide) rfl rfl (by decide) rfl (Nat.le_of_ble_eq_true rfl) ⟨Nat.le_refl _, Nat.le_refl _⟩ ?_
          intro v w1 hq
          obtain ⟨rfl, rfl⟩ := hq
          refine cv_i2l dX12_isOpen_42 (by omega) ?_
          refine cv_sameS (c_X12_in (wM 5 v T o A tm tr p st) (vv x) (sLo S x) (sHi S x) (by omega) (by omega) (by omega)) lkX12_in mlX12_69 dX12_isOpen_43 (by decide) rfl rfl (Nat.le_of_ble_eq_true rfl) ⟨Nat.le_refl _, Nat.le_refl _⟩ ?_
          intro v w1 hq
          obtain ⟨rfl, rfl⟩ := hq
          have ii := ct_i_r (sLo S x ≤ vv x ∧ vv x ≤ sHi S x)
          refine cv_if_eq (tgt := 53) dX12_isOpen_46 (by decide) (by omega) (fun h46 => ?_) (fun h46 => ?_)
          · have ci : ¬ (sLo S x ≤ vv x ∧ vv x ≤ sHi S x) := ct_i_0.mp (by omega)
            refine cv_iconst dX12_isOpen_53 ?_
            refine cv_istore_n dX12_isOpen_54 (by decide) rfl rfl ?_
            refine cv_iinc dX12_isOpen_55 (by decide) rfl rfl rfl ?_
            refine cv_goto (tgt := 4) dX12_isOpen_58 (by decide) ?_
            exact no k (x + 1) (by omega) (by omega) (fun z => ci (z x (by omega)))
          · have ci : sLo S x ≤ vv x ∧ vv x ≤ sHi S x := ct_i_1.mp (by omega)
            refine cv_iconst dX12_isOpen_49 ?_
            refine cv_goto (tgt := 54) dX12_isOpen_50 (by decide) ?_
            refine cv_istore_n dX12_isOpen_54 (by decide) rfl rfl ?_
            refine cv_iinc dX12_isOpen_55 (by decide) rfl rfl rfl ?_
            refine cv_goto (tgt := 4) dX12_isOpen_58 (by decide) ?_
            refine ih (x + 1) (by omega) (by omega) (fun j hj => ?_)
            rcases Nat.lt_succ_iff_lt_or_eq.mp hj with q | q
            · exact hy j q
            · subst q; exact ci
  refine cv_iconst dX12_isOpen_0 ?_
  refine cv_istore_n dX12_isOpen_1 (by decide) rfl rfl ?_
  refine cv_iconst dX12_isOpen_2 ?_
  refine cv_istore_n dX12_isOpen_3 (by decide) rfl rfl ?_
  exact loop (tN T + 1) 0 (by omega) (by omega) (fun j hj => absurd hj (Nat.not_lt_zero _))
set_option maxRecDepth 100000 in
set_option maxHeartbeats 1000000 in
theorem c_X12_isSeen (u v : Nat) (T : ctT) (o : Nat → Int) (A : Nat → Nat → Int) (tm tr : Int) (p st : Nat → Int) (hT : okT T) (n : Nat) (a b : Nat → Int) (hn : n ≤ 6) (h3 : o 3 = (n : Int)) (ha : ∀ j, j < n → A 10 j = a j ∧ A 11 j = b j ∧ 0 ≤ a j ∧ a j ≤ 999 ∧ a j / 10 % 10 ≤ 1 ∧ (b j = 0 ∨ b j = 1)) (vv : Nat → Int) (hv : vl T (A 13) vv) : CM MX12_isSeen (2, 0, 0) [vR 0] (wM u v T o A tm tr p st) (fun v1 w => v1 = some (vI (ct_i (∀ j, j < n → a j / 100 < (tN T : Int) → (if b j = 0 then ¬ ftP (a j) vv else ftP (a j) vv)))) ∧ w = wM u v T o A tm tr p st) := by
  refine CM.of (by decide) (Nat.le_of_ble_eq_true rfl) ?_
  show CV MX12_isSeen (2, 0, 0) 19 (0, 0) 0 [(0, vR 0)] [] (wM u v T o A tm tr p st) _
  have hN := hT.2.1
  have no : ∀ (k x : Nat), n < x + k → x ≤ n → ¬ (∀ j, j < n → a j / 100 < (tN T : Int) → (if b j = 0 then ¬ ftP (a j) vv else ftP (a j) vv)) → CV MX12_isSeen (2, 0, 0) 19 (0, 0) 4 [(0, vR 0), (1, vI 0), (2, vI (x : Nat))] [] (wM u v T o A tm tr p st) (fun v1 w => v1 = some (vI (ct_i (∀ j, j < n → a j / 100 < (tN T : Int) → (if b j = 0 then ¬ ftP (a j) vv else ftP (a j) vv)))) ∧ w = wM u v T o A tm tr p st) := by
    intro k
    induction k with
    | zero => intro x hk hi hno; exact absurd hk (by omega)
    | succ k ih =>
      intro x hk hi hno
      refine cv_iload_n dX12_isSeen_4 rfl ?_
      refine cv_aload_n dX12_isSeen_5 rfl ?_
      refine cv_getf flX12_244 dX12_isSeen_6 rfl rfl ?_
      refine cv_icmp_ge (tgt := 72) dX12_isSeen_9 (by decide) (by omega) (fun h9 => ?_) (fun h9 => ?_)
      · refine cv_iload_n dX12_isSeen_72 rfl ?_
        refine cv_zret rfl dX12_isSeen_73 ⟨Nat.le_refl _, Nat.le_refl _⟩ (by omega) ⟨ct_rI (ct_i_f hno).symm, rfl⟩
      · refine cv_iload_n dX12_isSeen_12 rfl ?_
        refine cv_if_eq (tgt := 64) dX12_isSeen_13 (by decide) (by omega) (fun h13 => ?_) (fun h13 => ?_)
        · refine cv_iconst dX12_isSeen_64 ?_
          refine cv_istore_n dX12_isSeen_65 (by decide) rfl rfl ?_
          refine cv_iinc dX12_isSeen_66 (by decide) rfl rfl rfl ?_
          refine cv_goto (tgt := 4) dX12_isSeen_69 (by decide) ?_
          exact ih (x + 1) (by omega) (by omega) hno
        · exact absurd rfl h13
  have loop : ∀ (k : Nat) (x : Nat), (n < x + k) → (x ≤ n) → (∀ j, j < x → a j / 100 < (tN T : Int) → (if b j = 0 then ¬ ftP (a j) vv else ftP (a j) vv)) → CV MX12_isSeen (2, 0, 0) 19 (0, 0) 4 [(0, vR 0), (1, vI 1), (2, vI (x : Nat))] [] (wM u v T o A tm tr p st) (fun v1 w => v1 = some (vI (ct_i (∀ j, j < n → a j / 100 < (tN T : Int) → (if b j = 0 then ¬ ftP (a j) vv else ftP (a j) vv)))) ∧ w = wM u v T o A tm tr p st) := by
    intro k
    induction k with
    | zero => intro x hk hi hy; exact absurd hk (by omega)
    | succ k ih =>
      intro x hk hi hy
      refine cv_iload_n dX12_isSeen_4 rfl ?_
      refine cv_aload_n dX12_isSeen_5 rfl ?_
      refine cv_getf flX12_244 dX12_isSeen_6 rfl rfl ?_
      refine cv_icmp_ge (tgt := 72) dX12_isSeen_9 (by decide) (by omega) (fun h9 => ?_) (fun h9 => ?_)
      · refine cv_iload_n dX12_isSeen_72 rfl ?_
        refine cv_zret rfl dX12_isSeen_73 ⟨Nat.le_refl _, Nat.le_refl _⟩ (by omega) ⟨ct_rI (ct_i_t (fun j hj => hy j (by omega))).symm, rfl⟩
      · refine cv_iload_n dX12_isSeen_12 rfl ?_
        refine cv_if_eq (tgt := 64) dX12_isSeen_13 (by decide) (by omega) (fun h13 => ?_) (fun h13 => ?_)
        · exact absurd h13 (by omega)
        · have a0 := ha x (by omega)
          refine cv_aload_n dX12_isSeen_16 rfl ?_
          refine cv_aload_n dX12_isSeen_17 rfl ?_
          refine cv_getf flX12_38 dX12_isSeen_18 rfl rfl ?_
          refine cv_iload_n dX12_isSeen_21 rfl ?_
          refine cv_ialj (x) dX12_isSeen_22 rfl (by omega) (by omega) ?_
          rw [a0.1]
          refine cv_bipush dX12_isSeen_23 (by decide) ?_
          refine cv_idiv dX12_isSeen_25 (by omega) ?_
          refine cv_sameV (c_X12_isNumber u v T o A tm tr p st hT (a x / 100) (by omega)) lkX12_isNumber mlX12_247 dX12_isSeen_26 (by decide) rfl rfl (by decide) rfl (Nat.le_of_ble_eq_true rfl) ⟨Nat.le_refl _, Nat.le_refl _⟩ ?_
          intro v w1 hq
          obtain ⟨rfl, rfl⟩ := hq
          have in0 := ct_i_r (0 ≤ a x / 100 ∧ a x / 100 < (tN T : Int))
          refine cv_if_eq (tgt := 60) dX12_isSeen_29 (by decide) (by omega) (fun h29 => ?_) (fun h29 => ?_)
          · have ci : ¬ (0 ≤ a x / 100 ∧ a x / 100 < (tN T : Int)) := ct_i_0.mp (by omega)
            refine cv_iconst dX12_isSeen_60 ?_
            refine cv_goto (tgt := 65) dX12_isSeen_61 (by decide) ?_
            refine cv_istore_n dX12_isSeen_65 (by decide) rfl rfl ?_
            refine cv_iinc dX12_isSeen_66 (by decide) rfl rfl rfl ?_
            refine cv_goto (tgt := 4) dX12_isSeen_69 (by decide) ?_
            refine ih (x + 1) (by omega) (by omega) (fun j hj => ?_)
            rcases Nat.lt_succ_iff_lt_or_eq.mp hj with q | q
            · exact hy j q
            · subst q; exact fun hc => absurd hc (by omega)
          · have ci : 0 ≤ a x / 100 ∧ a x / 100 < (tN T : Int) := ct_i_1.mp (by omega)
            refine cv_aload_n dX12_isSeen_32 rfl ?_
            refine cv_aload_n dX12_isSeen_33 rfl ?_
            refine cv_getf flX12_38 dX12_isSeen_34 rfl rfl ?_
            refine cv_iload_n dX12_isSeen_37 rfl ?_
            refine cv_ialj (x) dX12_isSeen_38 rfl (by omega) (by omega) ?_
            rw [a0.1]
            refine cv_sameV (c_X12_fits u v T o A tm tr p st hT vv hv (a x) (by omega)) lkX12_fits mlX12_250 dX12_isSeen_39 (by decide) rfl rfl (by decide) rfl (Nat.le_of_ble_eq_true rfl) ⟨Nat.le_refl _, Nat.le_refl _⟩ ?_
            intro v w1 hq
            obtain ⟨rfl, rfl⟩ := hq
            have fi := ct_i_r (ftP (a x) vv)
            refine cv_aload_n dX12_isSeen_42 rfl ?_
            refine cv_getf flX12_41 dX12_isSeen_43 rfl rfl ?_
            refine cv_iload_n dX12_isSeen_46 rfl ?_
            refine cv_ialj (x) dX12_isSeen_47 rfl (by omega) (by omega) ?_
            rw [a0.2.1]
            refine cv_iconst dX12_isSeen_48 ?_
            refine cv_icmp_ne (tgt := 56) dX12_isSeen_49 (by decide) (by omega) (fun h49 => ?_) (fun h49 => ?_)
            · refine cv_iconst dX12_isSeen_56 ?_
              refine cv_icmp_ne (tgt := 64) dX12_isSeen_57 (by decide) (by omega) (fun h57 => ?_) (fun h57 => ?_)
              · refine cv_iconst dX12_isSeen_64 ?_
                refine cv_istore_n dX12_isSeen_65 (by decide) rfl rfl ?_
                refine cv_iinc dX12_isSeen_66 (by decide) rfl rfl rfl ?_
                refine cv_goto (tgt := 4) dX12_isSeen_69 (by decide) ?_
                refine no k (x + 1) (by omega) (by omega) (fun z => ?_)
                have z1 := z x (by omega) (by omega)
                first | (rw [if_pos (by omega)] at z1; exact z1 (ct_i_1.mp (by omega))) | (rw [if_neg (by omega)] at z1; exact absurd z1 (ct_i_0.mp (by omega)))
              · refine cv_iconst dX12_isSeen_60 ?_
                refine cv_goto (tgt := 65) dX12_isSeen_61 (by decide) ?_
                refine cv_istore_n dX12_isSeen_65 (by decide) rfl rfl ?_
                refine cv_iinc dX12_isSeen_66 (by decide) rfl rfl rfl ?_
                refine cv_goto (tgt := 4) dX12_isSeen_69 (by decide) ?_
                refine ih (x + 1) (by omega) (by omega) (fun j hj => ?_)
                rcases Nat.lt_succ_iff_lt_or_eq.mp hj with q | q
                · exact hy j q
                · subst q; exact fun hc => by first | (rw [if_pos (by omega)]; exact ct_i_0.mp (by omega)) | (rw [if_neg (by omega)]; exact ct_i_1.mp (by omega))
            · refine cv_iconst dX12_isSeen_52 ?_
              refine cv_goto (tgt := 57) dX12_isSeen_53 (by decide) ?_
              refine cv_icmp_ne (tgt := 64) dX12_isSeen_57 (by decide) (by omega) (fun h57 => ?_) (fun h57 => ?_)
              · refine cv_iconst dX12_isSeen_64 ?_
                refine cv_istore_n dX12_isSeen_65 (by decide) rfl rfl ?_
                refine cv_iinc dX12_isSeen_66 (by decide) rfl rfl rfl ?_
                refine cv_goto (tgt := 4) dX12_isSeen_69 (by decide) ?_
                refine no k (x + 1) (by omega) (by omega) (fun z => ?_)
                have z1 := z x (by omega) (by omega)
                first | (rw [if_pos (by omega)] at z1; exact z1 (ct_i_1.mp (by omega))) | (rw [if_neg (by omega)] at z1; exact absurd z1 (ct_i_0.mp (by omega)))
              · refine cv_iconst dX12_isSeen_60 ?_
                refine cv_goto (tgt := 65) dX12_isSeen_61 (by decide) ?_
                refine cv_istore_n dX12_isSeen_65 (by decide) rfl rfl ?_
                refine cv_iinc dX12_isSeen_66 (by decide) rfl rfl rfl ?_
                refine cv_goto (tgt := 4) dX12_isSeen_69 (by decide) ?_
                refine ih (x + 1) (by omega) (by omega) (fun j hj => ?_)
                rcases Nat.lt_succ_iff_lt_or_eq.mp hj with q | q
                · exact hy j q
                · subst q; exact fun hc => by first | (rw [if_pos (by omega)]; exact ct_i_0.mp (by omega)) | (rw [if_neg (by omega)]; exact ct_i_1.mp (by omega))
  refine cv_iconst dX12_isSeen_0 ?_
  refine cv_istore_n dX12_isSeen_1 (by decide) rfl rfl ?_
  refine cv_iconst dX12_isSeen_2 ?_
  refine cv_istore_n dX12_isSeen_3 (by decide) rfl rfl ?_
  exact loop (n + 1) 0 (by omega) (by omega) (fun j hj => absurd hj (Nat.not_lt_zero _))
