def kdP (T : ctT) (S : ctS) (y : ctY) (kd : Int) (v : Nat → Int) : Prop := (kd = 1 → ∀ x, x < tN T → sLo S x ≤ v x ∧ v x ≤ sHi S x) ∧ (kd = 2 → (∀ j, j < y.2.2.1 → y.2.2.2.1 j / 100 < (tN T : Int) → (if y.2.2.2.2 j = 0 then ¬ ftP (y.2.2.2.1 j) v else ftP (y.2.2.2.1 j) v)))
def okY (y : ctY) : Prop := y.1 ≤ 60 ∧ y.2.2.1 ≤ 6 ∧ ∀ i, i < y.2.2.1 → 0 ≤ y.2.2.2.1 i ∧ y.2.2.2.1 i ≤ 999 ∧ y.2.2.2.1 i / 10 % 10 ≤ 1 ∧ (y.2.2.2.2 i = 0 ∨ y.2.2.2.2 i = 1)
noncomputable def cnK (T : ctT) (S : ctS) (y : ctY) (kd : Int) (n : Nat) : Int := sU (fun m => ct_i (kpV T (dV T m) ∧ kdP T S y kd (dV T m))) n
theorem cnK_r (T : ctT) (S : ctS) (y : ctY) (kd : Int) (n : Nat) : 0 ≤ cnK T S y kd n ∧ cnK T S y kd n ≤ (n : Int) := sU_r (fun _ _ => ct_i_r _)
theorem cn_0 {T : ctT} {S : ctS} {y : ctY} (hT : okT T) : cnK T S y 0 (nAll T) = fAll T := by
  rw [all_U hT]
  exact sU_c (fun m _ => ct_i_c ⟨fun z => z.1, fun z => ⟨z, fun q => absurd q (by decide), fun q => absurd q (by decide)⟩⟩)
theorem cn_1 {T : ctT} {S : ctS} {y : ctY} (hT : okT T) (hJ : J T S) : cnK T S y 1 (nAll T) = fBox T (sLo S) (sHi S) := by
  rw [along_U hT hJ]
  exact sU_c (fun m _ => ct_i_c ⟨fun z => ⟨z.1, z.2.1 rfl⟩, fun z => ⟨z.1, fun _ => z.2, fun q => absurd q (by decide)⟩⟩)
theorem cn_2 {T : ctT} {S : ctS} {y : ctY} (hT : okT T) (hy : okY y) : cnK T S y 2 (nAll T) = fWs T y.2.2.1 y.2.2.2.1 y.2.2.2.2 := by
  rw [ws_U hT (fun k hk => (hy.2.2 k hk).1)]
  exact sU_c (fun m _ => ct_i_c ⟨fun z => ⟨z.1, z.2.2 rfl⟩, fun z => ⟨z.1, fun q => absurd q (by decide), fun _ => z.2⟩⟩)
noncomputable def lst (T : ctT) (x : Nat) : Nat → Int
  | 0 => -9
  | m + 1 => @ite _ (kpV T (dV T m) ∧ (lst T x m = -9 ∨ dV T m x < lst T x m)) (Classical.propDecidable _) (dV T m x) (lst T x m)
theorem lst_sp {T : ctT} (hT : okT T) {x : Nat} (hx : x < 4) : ∀ n, (lst T x n = -9 ∧ ∀ m, m < n → ¬ kpV T (dV T m)) ∨ (0 ≤ lst T x n ∧ lst T x n ≤ tT T x ∧ (∃ m, m < n ∧ kpV T (dV T m) ∧ dV T m x = lst T x n) ∧ ∀ m, m < n → kpV T (dV T m) → lst T x n ≤ dV T m x)
  | 0 => Or.inl ⟨rfl, fun m hm => absurd hm (Nat.not_lt_zero _)⟩
  | n + 1 => by
    have ih := lst_sp hT hx n
    have dv := dV_r hT n hx
    by_cases k : kpV T (dV T n)
    · by_cases l : lst T x n = -9 ∨ dV T n x < lst T x n
      · have e : lst T x (n + 1) = dV T n x := if_pos ⟨k, l⟩
        rw [e]
        refine Or.inr ⟨dv.1, dv.2, ⟨n, by omega, k, rfl⟩, fun m hm hk => ?_⟩
        rcases Nat.lt_succ_iff_lt_or_eq.mp hm with q | q
        · rcases ih with ih | ih
          · exact absurd hk (ih.2 m q)
          · have := ih.2.2.2 m q hk
            omega
        · subst q; exact Int.le_refl _
      · have e : lst T x (n + 1) = lst T x n := if_neg (fun z => l z.2)
        rw [e]
        rcases ih with ih | ih
        · exact absurd (Or.inl ih.1) l
        · obtain ⟨m0, a, b⟩ := ih.2.2.1
          refine Or.inr ⟨ih.1, ih.2.1, ⟨m0, by omega, b⟩, fun m hm hk => ?_⟩
          rcases Nat.lt_succ_iff_lt_or_eq.mp hm with q | q
          · exact ih.2.2.2 m q hk
          · subst q; omega
    · have e : lst T x (n + 1) = lst T x n := if_neg (fun z => k z.1)
      rw [e]
      rcases ih with ih | ih
      · refine Or.inl ⟨ih.1, fun m hm => ?_⟩
        rcases Nat.lt_succ_iff_lt_or_eq.mp hm with q | q
        · exact ih.2 m q
        · subst q; exact k
      · obtain ⟨m0, a, b⟩ := ih.2.2.1
        refine Or.inr ⟨ih.1, ih.2.1, ⟨m0, by omega, b⟩, fun m hm hk => ?_⟩
        rcases Nat.lt_succ_iff_lt_or_eq.mp hm with q | q
        · exact ih.2.2.2 m q hk
        · subst q; exact absurd hk k
theorem lst_le {T : ctT} (hT : okT T) {x : Nat} (hx : x < 4) : lst T x (nAll T) = ct_o (-9) (fLe T x) := by
  have tt := hT.2.2.2.1 x hx
  unfold fLe
  rcases lst_sp hT hx (nAll T) with h | h
  · rw [ct_first_no (P := fun k => 0 < fBox T (ct_up (fun _ => 0) x k) (ct_up (tT T) x k)) (fun j hj z => by
      obtain ⟨m, m1, m2, m3⟩ := (le_U hT hx (by omega)).mp z
      exact h.2 m m1 m2)]
    exact h.1
  · obtain ⟨m, m1, m2, m3⟩ := h.2.2.1
    rw [ct_first_is (P := fun k => 0 < fBox T (ct_up (fun _ => 0) x k) (ct_up (tT T) x k)) (i := (lst T x (nAll T)).toNat) ((le_U hT hx (by omega)).mpr ⟨m, m1, m2, by omega⟩) (fun j hj z => by
      obtain ⟨m', n1, n2, n3⟩ := (le_U hT hx (by omega)).mp z
      have := h.2.2.2 m' n1 n2
      omega) (by omega)]
    show lst T x (nAll T) = (((lst T x (nAll T)).toNat : Nat) : Int)
    omega
set_option maxRecDepth 100000 in
set_option maxHeartbeats 1000000 in
theorem c_X12_count (T : ctT) (S : ctS) (n : Nat) (D : Nat → ctS) (y : ctY) (K : ctK) (sd : Int) (o : Nat → Int) (A : Nat → Nat → Int) (tm tr : Int) (p st : Nat → Int) (hT : okT T) (hI : I2 T S) (hst : stR st) (hM : RM T S n D y K sd o A p)   (kd : Int) (hkd : kd = 0 ∨ kd = 1 ∨ kd = 2) (hy : okY y) : CM MX12_count (3, 0, 0) [vR 0, vI kd] (wM 5 6 T o A tm tr p st) (fun v1 w => v1 = some (vI (cnK T S y kd (nAll T))) ∧ QM T S n D y K sd w) := by
  refine CM.of (by decide) (Nat.le_of_ble_eq_true rfl) ?_
  show CV MX12_count (3, 0, 0) 19 (0, 0) 0 [(0, vR 0), (1, vI kd)] [] (wM 5 6 T o A tm tr p st) _
  have hJ := hI.1.1
  have hg := J_g hT hJ
  have hZ := hg.1.1
  have hN := hT.2.1
  have hN1 := hT.1
  have hR6 := hT.2.2.1
  have hC40 := hJ.2.1.2.2.1
  have hA := hM.1
  have hR := hM.2.1
  have hnA := nAll_r hT
  have loop : ∀ (k m : Nat) (g : Nat → Int), nAll T < m + k → m ≤ nAll T → CV MX12_count (3, 0, 0) 19 (0, 0) 4 [(0, vR 0), (1, vI kd), (2, vI (cnK T S y kd m)), (3, vI (m : Nat))] [] (wM 5 6 T o (upA A 13 g) tm tr p st) (fun v1 w => v1 = some (vI (cnK T S y kd (nAll T))) ∧ QM T S n D y K sd w) := by
    intro k
    induction k with
    | zero => intro m g hk hi; exact absurd hk (by omega)
    | succ k ih =>
      intro m g hk hi
      have cr := cnK_r T S y kd m
      have l50 : ∀ (g1 : Nat → Int) (b : Int), (b = ct_i (kpV T (dV T m) ∧ kdP T S y kd (dV T m))) → (m < nAll T) → CV MX12_count (3, 0, 0) 19 (0, 0) 50 [(0, vR 0), (1, vI kd), (2, vI (cnK T S y kd m)), (3, vI (m : Nat))] [vI b] (wM 5 6 T o (upA A 13 g1) tm tr p st) (fun v1 w => v1 = some (vI (cnK T S y kd (nAll T))) ∧ QM T S n D y K sd w) := by
        intro g1 b hb hm
        have ib := ct_i_r (kpV T (dV T m) ∧ kdP T S y kd (dV T m))
        have e0 : cnK T S y kd (m + 1) = cnK T S y kd m + ct_i (kpV T (dV T m) ∧ kdP T S y kd (dV T m)) := rfl
        refine cv_istore dX12_count_50 (by decide) rfl rfl ?_
        refine cv_iload_n dX12_count_52 rfl ?_
        refine cv_iload dX12_count_53 rfl ?_
        refine cv_if_eq (tgt := 62) dX12_count_55 (by decide) (by omega) (fun h55 => ?_) (fun h55 => ?_)
        · refine cv_iconst dX12_count_62 ?_
          refine cv_iadd dX12_count_63 ?_
          refine cv_istore_n dX12_count_64 (by decide) rfl rfl ?_
          refine cv_iinc dX12_count_65 (by decide) rfl rfl rfl ?_
          refine cv_goto (tgt := 4) dX12_count_68 (by decide) ?_
          refine cv_loc [0, 1, 2, 3] rfl ?_
          have := ih (m + 1) g1 (by omega) (by omega)
          rw [e0, show ct_i (kpV T (dV T m) ∧ kdP T S y kd (dV T m)) = 0 by omega] at this
          exact this
        · refine cv_iconst dX12_count_58 ?_
          refine cv_goto (tgt := 63) dX12_count_59 (by decide) ?_
          refine cv_iadd dX12_count_63 ?_
          refine cv_istore_n dX12_count_64 (by decide) rfl rfl ?_
          refine cv_iinc dX12_count_65 (by decide) rfl rfl rfl ?_
          refine cv_goto (tgt := 4) dX12_count_68 (by decide) ?_
          refine cv_loc [0, 1, 2, 3] rfl ?_
          have := ih (m + 1) g1 (by omega) (by omega)
          rw [e0, show ct_i (kpV T (dV T m) ∧ kdP T S y kd (dV T m)) = 1 by omega] at this
          exact this
      refine cv_aload_n dX12_count_4 rfl ?_
      refine cv_iload_n dX12_count_5 rfl ?_
      refine cv_sameV (c_X12_layWay 5 6 T o (upA A 13 g) tm tr p st hT hA m (by omega)) lkX12_layWay mlX12_253 dX12_count_6 (by decide) rfl rfl (by decide) rfl (Nat.le_of_ble_eq_true rfl) ⟨Nat.le_refl _, Nat.le_refl _⟩ ?_
      intro v w1 hq
      obtain ⟨g1, rfl, rfl, hv⟩ := hq
      have il := ct_i_r (m < nAll T)
      refine cv_if_eq (tgt := 71) dX12_count_9 (by decide) (by omega) (fun h9 => ?_) (fun h9 => ?_)
      · have cm : ¬ m < nAll T := ct_i_0.mp (by omega)
        refine cv_iload_n dX12_count_71 rfl ?_
        refine cv_iret rfl dX12_count_72 ⟨Nat.le_refl _, Nat.le_refl _⟩ ⟨ct_rI (by rw [show m = nAll T by omega]), ⟨o, upA A 13 g1, tm, tr, p, st, rfl, hst, RM_same hM (fun _ _ => rfl) (fun a h12 _ => upA_n (by omega))⟩⟩
      · have cm : m < nAll T := ct_i_1.mp (by omega)
        refine cv_aload_n dX12_count_12 rfl ?_
        refine cv_sameV (c_X12_broken 5 6 T o (upA A 13 g1) tm tr p st hT hA (dV T m) hv) lkX12_broken mlX12_256 dX12_count_13 (by decide) rfl rfl (by decide) rfl (Nat.le_of_ble_eq_true rfl) ⟨Nat.le_refl _, Nat.le_refl _⟩ ?_
        intro v w1 hq
        obtain ⟨rfl, rfl⟩ := hq
        have f0 : fBb T (dV T m 0) (dV T m 1) (dV T m 2) (dV T m 3) (tR T) = 0 ↔ kpV T (dV T m) := fBb_0 (tR T)
        have f1 := fBb_64 hT (dV T m 0) (dV T m 1) (dV T m 2) (dV T m 3)
        refine cv_if_ne (tgt := 49) dX12_count_16 (by decide) (by omega) (fun h16 => ?_) (fun h16 => ?_)
        · refine cv_iconst dX12_count_49 ?_
          exact l50 g1 0 (ct_i_f (fun z => h16 (by rw [f0.mpr z.1]; rfl))).symm (by omega)
        · refine cv_iload_n dX12_count_19 rfl ?_
          refine cv_if_eq (tgt := 45) dX12_count_20 (by decide) (by omega) (fun h20 => ?_) (fun h20 => ?_)
          · refine cv_iconst dX12_count_45 ?_
            refine cv_goto (tgt := 50) dX12_count_46 (by decide) ?_
            exact l50 g1 1 (ct_i_t ⟨(f0.mp (by omega)), fun q => absurd q (by omega), fun q => absurd q (by omega)⟩).symm (by omega)
          · refine cv_iload_n dX12_count_23 rfl ?_
            refine cv_iconst dX12_count_24 ?_
            refine cv_icmp_ne (tgt := 38) dX12_count_25 (by decide) (by omega) (fun h25 => ?_) (fun h25 => ?_)
            · refine cv_aload_n dX12_count_38 rfl ?_
              refine cv_sameV (c_X12_isSeen 5 6 T o (upA A 13 g1) tm tr p st hT y.2.2.1 y.2.2.2.1 y.2.2.2.2 hy.2.1 hM.2.2.2.2.2.1.1 (fun j hj => ⟨(hM.2.2.2.2.2.1.2 j hj).1, (hM.2.2.2.2.2.1.2 j hj).2, hy.2.2 j hj⟩) (dV T m) hv) lkX12_isSeen mlX12_263 dX12_count_39 (by decide) rfl rfl (by decide) rfl (Nat.le_of_ble_eq_true rfl) ⟨Nat.le_refl _, Nat.le_refl _⟩ ?_
              intro v w1 hq
              obtain ⟨rfl, rfl⟩ := hq
              have is := ct_i_r (∀ j, j < y.2.2.1 → y.2.2.2.1 j / 100 < (tN T : Int) → (if y.2.2.2.2 j = 0 then ¬ ftP (y.2.2.2.1 j) (dV T m) else ftP (y.2.2.2.1 j) (dV T m)))
              refine cv_if_eq (tgt := 49) dX12_count_42 (by decide) (by omega) (fun h42 => ?_) (fun h42 => ?_)
              · refine cv_iconst dX12_count_49 ?_
                exact l50 g1 0 (ct_i_f (fun z => absurd (z.2.2 (by omega)) (ct_i_0.mp (by omega)))).symm (by omega)
              · refine cv_iconst dX12_count_45 ?_
                refine cv_goto (tgt := 50) dX12_count_46 (by decide) ?_
                exact l50 g1 1 (ct_i_t ⟨(f0.mp (by omega)), fun q => absurd q (by omega), fun _ => ct_i_1.mp (by omega)⟩).symm (by omega)
            · refine cv_aload_n dX12_count_28 rfl ?_
              refine cv_sameV (c_X12_isOpen 6 T o (upA A 13 g1) tm tr p st S hT hA hR hJ (dV T m) hv) lkX12_isOpen mlX12_259 dX12_count_29 (by decide) rfl rfl (by decide) rfl (Nat.le_of_ble_eq_true rfl) ⟨Nat.le_refl _, Nat.le_refl _⟩ ?_
              intro v w1 hq
              obtain ⟨rfl, rfl⟩ := hq
              have io := ct_i_r (∀ x, x < tN T → sLo S x ≤ dV T m x ∧ dV T m x ≤ sHi S x)
              refine cv_if_eq (tgt := 49) dX12_count_32 (by decide) (by omega) (fun h32 => ?_) (fun h32 => ?_)
              · refine cv_iconst dX12_count_49 ?_
                exact l50 g1 0 (ct_i_f (fun z => absurd (z.2.1 (by omega)) (ct_i_0.mp (by omega)))).symm (by omega)
              · refine cv_goto (tgt := 45) dX12_count_35 (by decide) ?_
                refine cv_iconst dX12_count_45 ?_
                refine cv_goto (tgt := 50) dX12_count_46 (by decide) ?_
                exact l50 g1 1 (ct_i_t ⟨(f0.mp (by omega)), fun _ => ct_i_1.mp (by omega), fun q => absurd q (by omega)⟩).symm (by omega)
  refine cv_iconst dX12_count_0 ?_
  refine cv_istore_n dX12_count_1 (by decide) rfl rfl ?_
  refine cv_iconst dX12_count_2 ?_
  refine cv_istore_n dX12_count_3 (by decide) rfl rfl ?_
  exact loop (nAll T + 1) 0 (A 13) (by omega) (by omega)
set_option maxRecDepth 100000 in
set_option maxHeartbeats 1000000 in
theorem c_X12_leastOfAll (T : ctT) (S : ctS) (n : Nat) (D : Nat → ctS) (y : ctY) (K : ctK) (sd : Int) (o : Nat → Int) (A : Nat → Nat → Int) (tm tr : Int) (p st : Nat → Int) (hT : okT T) (hI : I2 T S) (hst : stR st) (hM : RM T S n D y K sd o A p)   (x : Nat) (hx : x < tN T) : CM MX12_leastOfAll (3, 0, 0) [vR 0, vI x] (wM 5 6 T o A tm tr p st) (fun v1 w => v1 = some (vI (ct_o (-9) (fLe T x))) ∧ QM T S n D y K sd w) := by
  refine CM.of (by decide) (Nat.le_of_ble_eq_true rfl) ?_
  show CV MX12_leastOfAll (3, 0, 0) 19 (0, 0) 0 [(0, vR 0), (1, vI x)] [] (wM 5 6 T o A tm tr p st) _
  have hJ := hI.1.1
  have hg := J_g hT hJ
  have hZ := hg.1.1
  have hN := hT.2.1
  have hN1 := hT.1
  have hR6 := hT.2.2.1
  have hC40 := hJ.2.1.2.2.1
  have hA := hM.1
  have hR := hM.2.1
  have hnA := nAll_r hT
  have loop : ∀ (k m : Nat) (g : Nat → Int), nAll T < m + k → m ≤ nAll T → CV MX12_leastOfAll (3, 0, 0) 19 (0, 0) 5 [(0, vR 0), (1, vI (x : Nat)), (2, vI (lst T x m)), (3, vI (m : Nat))] [] (wM 5 6 T o (upA A 13 g) tm tr p st) (fun v1 w => v1 = some (vI (ct_o (-9) (fLe T x))) ∧ QM T S n D y K sd w) := by
    intro k
    induction k with
    | zero => intro m g hk hi; exact absurd hk (by omega)
    | succ k ih =>
      intro m g hk hi
      have ls := lst_sp hT (show x < 4 by omega) m
      have tt := hT.2.2.2.1 x (by omega)
      have dv := dV_r hT m (show x < 4 by omega)
      have lr : -9 ≤ lst T x m ∧ lst T x m ≤ 9 := by rcases ls with z | z <;> omega
      refine cv_aload_n dX12_leastOfAll_5 rfl ?_
      refine cv_iload_n dX12_leastOfAll_6 rfl ?_
      refine cv_sameV (c_X12_layWay 5 6 T o (upA A 13 g) tm tr p st hT hA m (by omega)) lkX12_layWay mlX12_253 dX12_leastOfAll_7 (by decide) rfl rfl (by decide) rfl (Nat.le_of_ble_eq_true rfl) ⟨Nat.le_refl _, Nat.le_refl _⟩ ?_
      intro v w1 hq
      obtain ⟨g1, rfl, rfl, hv⟩ := hq
      have il := ct_i_r (m < nAll T)
      refine cv_if_eq (tgt := 53) dX12_leastOfAll_10 (by decide) (by omega) (fun h10 => ?_) (fun h10 => ?_)
      · have cm : ¬ m < nAll T := ct_i_0.mp (by omega)
        refine cv_iload_n dX12_leastOfAll_53 rfl ?_
        refine cv_iret rfl dX12_leastOfAll_54 ⟨Nat.le_refl _, Nat.le_refl _⟩ ⟨ct_rI (by rw [show m = nAll T by omega]; exact lst_le hT (by omega)), ⟨o, upA A 13 g1, tm, tr, p, st, rfl, hst, RM_same hM (fun _ _ => rfl) (fun a h12 _ => upA_n (by omega))⟩⟩
      · have cm : m < nAll T := ct_i_1.mp (by omega)
        refine cv_aload_n dX12_leastOfAll_13 rfl ?_
        refine cv_sameV (c_X12_broken 5 6 T o (upA A 13 g1) tm tr p st hT hA (dV T m) hv) lkX12_broken mlX12_256 dX12_leastOfAll_14 (by decide) rfl rfl (by decide) rfl (Nat.le_of_ble_eq_true rfl) ⟨Nat.le_refl _, Nat.le_refl _⟩ ?_
        intro v w1 hq
        obtain ⟨rfl, rfl⟩ := hq
        have f0 : fBb T (dV T m 0) (dV T m 1) (dV T m 2) (dV T m 3) (tR T) = 0 ↔ kpV T (dV T m) := fBb_0 (tR T)
        have f1 := fBb_64 hT (dV T m 0) (dV T m 1) (dV T m 2) (dV T m 3)
        refine cv_if_ne (tgt := 45) dX12_leastOfAll_17 (by decide) (by omega) (fun h17 => ?_) (fun h17 => ?_)
        · refine cv_iload_n dX12_leastOfAll_45 rfl ?_
          refine cv_istore_n dX12_leastOfAll_46 (by decide) rfl rfl ?_
          refine cv_iinc dX12_leastOfAll_47 (by decide) rfl rfl rfl ?_
          refine cv_goto (tgt := 5) dX12_leastOfAll_50 (by decide) ?_
          have e0 : lst T x (m + 1) = lst T x m := if_neg (fun z => h17 (by rw [f0.mpr z.1]; rfl))
          have := ih (m + 1) g1 (by omega) (by omega)
          rw [e0] at this
          exact this
        · refine cv_iload_n dX12_leastOfAll_20 rfl ?_
          refine cv_bipush dX12_leastOfAll_21 (by decide) ?_
          refine cv_icmp_eq (tgt := 36) dX12_leastOfAll_23 (by decide) (by omega) (fun h23 => ?_) (fun h23 => ?_)
          · refine cv_aload_n dX12_leastOfAll_36 rfl ?_
            refine cv_getf flX12_47 dX12_leastOfAll_37 rfl rfl ?_
            refine cv_iload_n dX12_leastOfAll_40 rfl ?_
            refine cv_ialj (x) dX12_leastOfAll_41 rfl (by omega) (by omega) ?_
            refine cv_topi (dV T m x) (hv.1 x hx) ?_
            refine cv_goto (tgt := 46) dX12_leastOfAll_42 (by decide) ?_
            refine cv_istore_n dX12_leastOfAll_46 (by decide) rfl rfl ?_
            refine cv_iinc dX12_leastOfAll_47 (by decide) rfl rfl rfl ?_
            refine cv_goto (tgt := 5) dX12_leastOfAll_50 (by decide) ?_
            have e0 : lst T x (m + 1) = dV T m x := if_pos ⟨f0.mp (by omega), by omega⟩
            have := ih (m + 1) g1 (by omega) (by omega)
            rw [e0] at this
            exact this
          · refine cv_aload_n dX12_leastOfAll_26 rfl ?_
            refine cv_getf flX12_47 dX12_leastOfAll_27 rfl rfl ?_
            refine cv_iload_n dX12_leastOfAll_30 rfl ?_
            refine cv_ialj (x) dX12_leastOfAll_31 rfl (by omega) (by omega) ?_
            refine cv_topi (dV T m x) (hv.1 x hx) ?_
            refine cv_iload_n dX12_leastOfAll_32 rfl ?_
            refine cv_icmp_ge (tgt := 45) dX12_leastOfAll_33 (by decide) (by omega) (fun h33 => ?_) (fun h33 => ?_)
            · refine cv_iload_n dX12_leastOfAll_45 rfl ?_
              refine cv_istore_n dX12_leastOfAll_46 (by decide) rfl rfl ?_
              refine cv_iinc dX12_leastOfAll_47 (by decide) rfl rfl rfl ?_
              refine cv_goto (tgt := 5) dX12_leastOfAll_50 (by decide) ?_
              have e0 : lst T x (m + 1) = lst T x m := if_neg (fun z => by have := z.2; omega)
              have := ih (m + 1) g1 (by omega) (by omega)
              rw [e0] at this
              exact this
            · refine cv_aload_n dX12_leastOfAll_36 rfl ?_
              refine cv_getf flX12_47 dX12_leastOfAll_37 rfl rfl ?_
              refine cv_iload_n dX12_leastOfAll_40 rfl ?_
              refine cv_ialj (x) dX12_leastOfAll_41 rfl (by omega) (by omega) ?_
              refine cv_topi (dV T m x) (hv.1 x hx) ?_
              refine cv_goto (tgt := 46) dX12_leastOfAll_42 (by decide) ?_
              refine cv_istore_n dX12_leastOfAll_46 (by decide) rfl rfl ?_
              refine cv_iinc dX12_leastOfAll_47 (by decide) rfl rfl rfl ?_
              refine cv_goto (tgt := 5) dX12_leastOfAll_50 (by decide) ?_
              have e0 : lst T x (m + 1) = dV T m x := if_pos ⟨f0.mp (by omega), by omega⟩
              have := ih (m + 1) g1 (by omega) (by omega)
              rw [e0] at this
              exact this
  refine cv_bipush dX12_leastOfAll_0 (by decide) ?_
  refine cv_istore_n dX12_leastOfAll_2 (by decide) rfl rfl ?_
  refine cv_iconst dX12_leastOfAll_3 ?_
  refine cv_istore_n dX12_leastOfAll_4 (by decide) rfl rfl ?_
  exact loop (nAll T + 1) 0 (A 13) (by omega) (by omega)
set_option maxRecDepth 100000 in
set_option maxHeartbeats 1000000 in
theorem c_X12_follows (T : ctT) (S : ctS) (n : Nat) (D : Nat → ctS) (y : ctY) (K : ctK) (sd : Int) (o : Nat → Int) (A : Nat → Nat → Int) (tm tr : Int) (p st : Nat → Int) (hT : okT T) (hI : I2 T S) (hst : stR st) (hM : RM T S n D y K sd o A p) (a : Int) (ar : -2147483648 ≤ a ∧ a ≤ 2147483647)  : CM MX12_follows (3, 0, 0) [vR 0, vI a] (wM 5 6 T o A tm tr p st) (fun v1 w => v1 = some (vI (gFo T S a)) ∧ QM T S n D y K sd w) := by
  refine CM.of (by decide) (Nat.le_of_ble_eq_true rfl) ?_
  show CV MX12_follows (3, 0, 0) 19 (0, 0) 0 [(0, vR 0), (1, vI a)] [] (wM 5 6 T o A tm tr p st) _
  have hJ := hI.1.1
  have hg := J_g hT hJ
  have hZ := hg.1.1
  have hN := hT.2.1
  have hN1 := hT.1
  have hR6 := hT.2.2.1
  have hC40 := hJ.2.1.2.2.1
  have hA := hM.1
  have hR := hM.2.1
  have hnA := nAll_r hT
  have fin : (0 ≤ a ∧ a < (sC S : Int)) → (∀ m, m < nAll T → ¬ (kpV T (dV T m) ∧ (∀ j, j < (sCs S a.toNat).toNat → ftP (sCm S (8 * a.toNat + j)) (dV T m)))) → gFo T S a = 1 := fun ca z => by
    unfold gFo
    rw [if_neg (by omega), if_pos (by rw [wi_U hT hJ (by omega)]; exact sU_i0.mpr z)]
  have fin0 : (0 ≤ a ∧ a < (sC S : Int)) → ∀ m, m < nAll T → (kpV T (dV T m) ∧ (∀ j, j < (sCs S a.toNat).toNat → ftP (sCm S (8 * a.toNat + j)) (dV T m))) → gFo T S a = 0 := fun ca m hm z => by
    unfold gFo
    rw [if_neg (by omega), if_neg (fun q => by rw [wi_U hT hJ (by omega)] at q; exact sU_i0.mp q m hm z)]
  have loop : ∀ (k m : Nat) (g : Nat → Int), nAll T < m + k → m ≤ nAll T → (0 ≤ a ∧ a < (sC S : Int)) → (∀ m1, m1 < m → ¬ (kpV T (dV T m1) ∧ (∀ j, j < (sCs S a.toNat).toNat → ftP (sCm S (8 * a.toNat + j)) (dV T m1)))) → CV MX12_follows (3, 0, 0) 19 (0, 0) 12 [(0, vR 0), (1, vI a), (2, vI (m : Nat))] [] (wM 5 6 T o (upA A 13 g) tm tr p st) (fun v1 w => v1 = some (vI (gFo T S a)) ∧ QM T S n D y K sd w) := by
    intro k
    induction k with
    | zero => intro m g hk hi ca hn; exact absurd hk (by omega)
    | succ k ih =>
      intro m g hk hi ca hn
      have h8 := hJ.2.1.2.2.2.1 a.toNat (by omega)
      have rc := hR.2.2.2.1 a.toNat (by omega)
      have no : ∀ (k j : Nat) (g1 : Nat → Int), (sCs S a.toNat).toNat < j + k → j ≤ (sCs S a.toNat).toNat → m < nAll T → ¬ (kpV T (dV T m) ∧ (∀ j, j < (sCs S a.toNat).toNat → ftP (sCm S (8 * a.toNat + j)) (dV T m))) → CV MX12_follows (3, 0, 0) 19 (0, 0) 36 [(0, vR 0), (1, vI a), (2, vI (m : Nat)), (3, vI 0), (4, vI (j : Nat))] [] (wM 5 6 T o (upA A 13 g1) tm tr p st) (fun v1 w => v1 = some (vI (gFo T S a)) ∧ QM T S n D y K sd w) := by
        intro k2
        induction k2 with
        | zero => intro j g1 hk2 hj hm hno; exact absurd hk2 (by omega)
        | succ k2 ih2 =>
          intro j g1 hk2 hj hm hno
          refine cv_iload dX12_follows_36 rfl ?_
          refine cv_aload_n dX12_follows_38 rfl ?_
          refine cv_getf flX12_22 dX12_follows_39 rfl rfl ?_
          refine cv_bipush dX12_follows_42 (by decide) ?_
          refine cv_iload_n dX12_follows_44 rfl ?_
          refine cv_iadd dX12_follows_45 ?_
          refine cv_ialj (110 + a.toNat) dX12_follows_46 rfl (by omega) (by omega) ?_
          rw [rc.1]
          refine cv_icmp_ge (tgt := 84) dX12_follows_47 (by decide) (by omega) (fun h47 => ?_) (fun h47 => ?_)
          · refine cv_iload_n dX12_follows_84 rfl ?_
            refine cv_if_eq (tgt := 90) dX12_follows_85 (by decide) (by omega) (fun h85 => ?_) (fun h85 => ?_)
            · refine cv_iinc dX12_follows_90 (by decide) rfl rfl rfl ?_
              refine cv_goto (tgt := 12) dX12_follows_93 (by decide) ?_
              refine cv_loc [0, 1, 2] rfl ?_
              refine ih (m + 1) g1 (by omega) (by omega) ca (fun m1 h1 => ?_)
              rcases Nat.lt_succ_iff_lt_or_eq.mp h1 with q1 | q1
              · exact hn m1 q1
              · subst q1; exact hno
            · exact absurd rfl h85
          · refine cv_iload_n dX12_follows_50 rfl ?_
            refine cv_if_eq (tgt := 76) dX12_follows_51 (by decide) (by omega) (fun h51 => ?_) (fun h51 => ?_)
            · refine cv_iconst dX12_follows_76 ?_
              refine cv_istore_n dX12_follows_77 (by decide) rfl rfl ?_
              refine cv_iinc dX12_follows_78 (by decide) rfl rfl rfl ?_
              refine cv_goto (tgt := 36) dX12_follows_81 (by decide) ?_
              exact ih2 (j + 1) g1 (by omega) (by omega) hm hno
            · exact absurd rfl h51
      have yes : ∀ (k j : Nat) (g1 : Nat → Int), vl T g1 (dV T m) → (sCs S a.toNat).toNat < j + k → j ≤ (sCs S a.toNat).toNat → m < nAll T → kpV T (dV T m) → (∀ i, i < j → ftP (sCm S (8 * a.toNat + i)) (dV T m)) → CV MX12_follows (3, 0, 0) 19 (0, 0) 36 [(0, vR 0), (1, vI a), (2, vI (m : Nat)), (3, vI 1), (4, vI (j : Nat))] [] (wM 5 6 T o (upA A 13 g1) tm tr p st) (fun v1 w => v1 = some (vI (gFo T S a)) ∧ QM T S n D y K sd w) := by
        intro k2
        induction k2 with
        | zero => intro j g1 hv hk2 hj hm hkp hy; exact absurd hk2 (by omega)
        | succ k2 ih2 =>
          intro j g1 hv hk2 hj hm hkp hy
          refine cv_iload dX12_follows_36 rfl ?_
          refine cv_aload_n dX12_follows_38 rfl ?_
          refine cv_getf flX12_22 dX12_follows_39 rfl rfl ?_
          refine cv_bipush dX12_follows_42 (by decide) ?_
          refine cv_iload_n dX12_follows_44 rfl ?_
          refine cv_iadd dX12_follows_45 ?_
          refine cv_ialj (110 + a.toNat) dX12_follows_46 rfl (by omega) (by omega) ?_
          rw [rc.1]
          refine cv_icmp_ge (tgt := 84) dX12_follows_47 (by decide) (by omega) (fun h47 => ?_) (fun h47 => ?_)
          · refine cv_iload_n dX12_follows_84 rfl ?_
            refine cv_if_eq (tgt := 90) dX12_follows_85 (by decide) (by omega) (fun h85 => ?_) (fun h85 => ?_)
            · exact absurd h85 (by omega)
            · refine cv_iconst dX12_follows_88 ?_
              refine cv_iret rfl dX12_follows_89 ⟨Nat.le_refl _, Nat.le_refl _⟩ ⟨ct_rI (fin0 ca m hm ⟨hkp, fun i hi2 => hy i (by omega)⟩).symm, ⟨o, upA A 13 g1, tm, tr, p, st, rfl, hst, RM_same hM (fun _ _ => rfl) (fun a h12 _ => upA_n (by omega))⟩⟩
          · refine cv_iload_n dX12_follows_50 rfl ?_
            refine cv_if_eq (tgt := 76) dX12_follows_51 (by decide) (by omega) (fun h51 => ?_) (fun h51 => ?_)
            · exact absurd h51 (by omega)
            · have okm0 := J_C hJ a.toNat j (by omega) (by omega)
              refine cv_aload_n dX12_follows_54 rfl ?_
              refine cv_aload_n dX12_follows_55 rfl ?_
              refine cv_aload_n dX12_follows_56 rfl ?_
              refine cv_getf flX12_22 dX12_follows_57 rfl rfl ?_
              refine cv_iload_n dX12_follows_60 rfl ?_
              refine cv_topi ((a.toNat : Nat) : Int) (by omega) ?_
              refine cv_iload dX12_follows_61 rfl ?_
              refine cv_sameV (c_X12_cutMark 5 6 T o (upA A 13 g1) tm tr p st S hT hA hR hJ a.toNat j (by omega) (by omega)) lkX12_cutMark mlX12_138 dX12_follows_63 (by decide) rfl rfl (by decide) rfl (Nat.le_of_ble_eq_true rfl) ⟨Nat.le_refl _, Nat.le_refl _⟩ ?_
              intro v w1 hq
              obtain ⟨rfl, rfl⟩ := hq
              refine cv_sameV (c_X12_fits 5 6 T o (upA A 13 g1) tm tr p st hT (dV T m) hv (sCm S (8 * a.toNat + j)) okm0) lkX12_fits mlX12_250 dX12_follows_66 (by decide) rfl rfl (by decide) rfl (Nat.le_of_ble_eq_true rfl) ⟨Nat.le_refl _, Nat.le_refl _⟩ ?_
              intro v w1 hq
              obtain ⟨rfl, rfl⟩ := hq
              have if0 := ct_i_r (ftP (sCm S (8 * a.toNat + j)) (dV T m))
              refine cv_if_eq (tgt := 76) dX12_follows_69 (by decide) (by omega) (fun h69 => ?_) (fun h69 => ?_)
              · refine cv_iconst dX12_follows_76 ?_
                refine cv_istore_n dX12_follows_77 (by decide) rfl rfl ?_
                refine cv_iinc dX12_follows_78 (by decide) rfl rfl rfl ?_
                refine cv_goto (tgt := 36) dX12_follows_81 (by decide) ?_
                refine no k2 (j + 1) g1 (by omega) (by omega) hm (fun z => ?_)
                exact absurd (z.2 j (by omega)) (ct_i_0.mp (by omega))
              · refine cv_iconst dX12_follows_72 ?_
                refine cv_goto (tgt := 77) dX12_follows_73 (by decide) ?_
                refine cv_istore_n dX12_follows_77 (by decide) rfl rfl ?_
                refine cv_iinc dX12_follows_78 (by decide) rfl rfl rfl ?_
                refine cv_goto (tgt := 36) dX12_follows_81 (by decide) ?_
                refine ih2 (j + 1) g1 hv (by omega) (by omega) hm hkp (fun i hi2 => ?_)
                rcases Nat.lt_succ_iff_lt_or_eq.mp hi2 with q1 | q1
                · exact hy i q1
                · subst q1; exact ct_i_1.mp (by omega)
      refine cv_aload_n dX12_follows_12 rfl ?_
      refine cv_iload_n dX12_follows_13 rfl ?_
      refine cv_sameV (c_X12_layWay 5 6 T o (upA A 13 g) tm tr p st hT hA m (by omega)) lkX12_layWay mlX12_253 dX12_follows_14 (by decide) rfl rfl (by decide) rfl (Nat.le_of_ble_eq_true rfl) ⟨Nat.le_refl _, Nat.le_refl _⟩ ?_
      intro v w1 hq
      obtain ⟨g1, rfl, rfl, hv⟩ := hq
      have il := ct_i_r (m < nAll T)
      refine cv_if_eq (tgt := 96) dX12_follows_17 (by decide) (by omega) (fun h17 => ?_) (fun h17 => ?_)
      · have cm : ¬ m < nAll T := ct_i_0.mp (by omega)
        refine cv_iconst dX12_follows_96 ?_
        refine cv_iret rfl dX12_follows_97 ⟨Nat.le_refl _, Nat.le_refl _⟩ ⟨ct_rI (fin ca (fun m1 h1 => hn m1 (by omega))).symm, ⟨o, upA A 13 g1, tm, tr, p, st, rfl, hst, RM_same hM (fun _ _ => rfl) (fun a h12 _ => upA_n (by omega))⟩⟩
      · have cm : m < nAll T := ct_i_1.mp (by omega)
        refine cv_aload_n dX12_follows_20 rfl ?_
        refine cv_sameV (c_X12_broken 5 6 T o (upA A 13 g1) tm tr p st hT hA (dV T m) hv) lkX12_broken mlX12_256 dX12_follows_21 (by decide) rfl rfl (by decide) rfl (Nat.le_of_ble_eq_true rfl) ⟨Nat.le_refl _, Nat.le_refl _⟩ ?_
        intro v w1 hq
        obtain ⟨rfl, rfl⟩ := hq
        have f0 : fBb T (dV T m 0) (dV T m 1) (dV T m 2) (dV T m 3) (tR T) = 0 ↔ kpV T (dV T m) := fBb_0 (tR T)
        have f1 := fBb_64 hT (dV T m 0) (dV T m 1) (dV T m 2) (dV T m 3)
        refine cv_if_ne (tgt := 31) dX12_follows_24 (by decide) (by omega) (fun h24 => ?_) (fun h24 => ?_)
        · refine cv_iconst dX12_follows_31 ?_
          refine cv_istore_n dX12_follows_32 (by decide) rfl rfl ?_
          refine cv_iconst dX12_follows_33 ?_
          refine cv_istore dX12_follows_34 (by decide) rfl rfl ?_
          exact no ((sCs S a.toNat).toNat + 1) 0 g1 (by omega) (by omega) cm (fun z => h24 (by rw [f0.mpr z.1]; rfl))
        · refine cv_iconst dX12_follows_27 ?_
          refine cv_goto (tgt := 32) dX12_follows_28 (by decide) ?_
          refine cv_istore_n dX12_follows_32 (by decide) rfl rfl ?_
          refine cv_iconst dX12_follows_33 ?_
          refine cv_istore dX12_follows_34 (by decide) rfl rfl ?_
          exact yes ((sCs S a.toNat).toNat + 1) 0 g1 hv (by omega) (by omega) cm (f0.mp (by omega)) (fun i hi2 => absurd hi2 (Nat.not_lt_zero _))
  refine cv_aload_n dX12_follows_0 rfl ?_
  refine cv_iload_n dX12_follows_1 rfl ?_
  refine cv_sameV (c_X12_isCut 6 T o A tm tr p st S hR hC40 a (by omega)) lkX12_isCut mlX12_277 dX12_follows_2 (by decide) rfl rfl (by decide) rfl (Nat.le_of_ble_eq_true rfl) ⟨Nat.le_refl _, Nat.le_refl _⟩ ?_
  intro v w1 hq
  obtain ⟨rfl, rfl⟩ := hq
  have i2 := ct_i_r (0 ≤ a ∧ a < (sC S : Int))
  refine cv_if_ne (tgt := 10) dX12_follows_5 (by decide) (by omega) (fun h5 => ?_) (fun h5 => ?_)
  · have ca : 0 ≤ a ∧ a < (sC S : Int) := ct_i_1.mp (by omega)
    refine cv_iconst dX12_follows_10 ?_
    refine cv_istore_n dX12_follows_11 (by decide) rfl rfl ?_
    exact loop (nAll T + 1) 0 (A 13) (by omega) (by omega) ca (fun m1 h1 => absurd h1 (Nat.not_lt_zero _))
  · have ca : ¬ (0 ≤ a ∧ a < (sC S : Int)) := ct_i_0.mp (by omega)
    refine cv_iconst dX12_follows_8 ?_
    refine cv_iret rfl dX12_follows_9 ⟨Nat.le_refl _, Nat.le_refl _⟩ ⟨ct_rI (by unfold gFo; rw [if_pos ca]), ⟨o, A, tm, tr, p, st, rfl, hst, hM⟩⟩
set_option maxRecDepth 100000 in
set_option maxHeartbeats 1000000 in
theorem c_X12_which (T : ctT) (S : ctS) (n : Nat) (D : Nat → ctS) (y : ctY) (K : ctK) (sd : Int) (o : Nat → Int) (A : Nat → Nat → Int) (tm tr : Int) (p st : Nat → Int) (hT : okT T) (hI : I2 T S) (hst : stR st) (hM : RM T S n D y K sd o A p)   (hy : okY y) : CM MX12_which (4, 0, 0) [vR 0] (wM 5 6 T o A tm tr p st) (fun v1 w => v1 = some (vI (fWs T y.2.2.1 y.2.2.2.1 y.2.2.2.2)) ∧ QM T S n D y K sd w) := by
  refine CM.of (by decide) (Nat.le_of_ble_eq_true rfl) ?_
  show CV MX12_which (4, 0, 0) 19 (0, 0) 0 [(0, vR 0)] [] (wM 5 6 T o A tm tr p st) _
  refine cv_aload_n dX12_which_0 rfl ?_
  refine cv_iconst dX12_which_1 ?_
  refine cv_sameV (c_X12_count T S n D y K sd o A tm tr p st hT hI hst hM 2 (by omega) hy) lkX12_count mlX12_269 dX12_which_2 (by decide) rfl rfl (by decide) rfl (Nat.le_of_ble_eq_true rfl) ⟨Nat.le_refl _, Nat.le_refl _⟩ ?_
  intro v w1 hq
  obtain ⟨rfl, hQ⟩ := hq
  refine cv_iret rfl dX12_which_5 ⟨Nat.le_refl _, Nat.le_refl _⟩ ⟨ct_rI (cn_2 hT hy), hQ⟩
set_option maxRecDepth 100000 in
set_option maxHeartbeats 1000000 in
theorem c_X12_about (T : ctT) (S : ctS) (n : Nat) (D : Nat → ctS) (y : ctY) (K : ctK) (sd : Int) (o : Nat → Int) (A : Nat → Nat → Int) (tm tr : Int) (p st : Nat → Int) (hT : okT T) (hI : I2 T S) (hst : stR st) (hM : RM T S n D y K sd o A p) (a : Int) (ar : -2147483648 ≤ a ∧ a ≤ 2147483647) (hy : okY y) : CM MX12_about (6, 0, 0) [vR 0, vI a] (wM 5 6 T o A tm tr p st) (fun v1 w => v1 = some (vI (gAb T S n y a)) ∧ QM T S n D y K sd w) := by
  refine CM.of (by decide) (Nat.le_of_ble_eq_true rfl) ?_
  show CV MX12_about (6, 0, 0) 19 (0, 0) 0 [(0, vR 0), (1, vI a)] [] (wM 5 6 T o A tm tr p st) _
  have hJ := hI.1.1
  have hg := J_g hT hJ
  have hZ := hg.1.1
  have hN := hT.2.1
  have hN1 := hT.1
  have hR6 := hT.2.2.1
  have hC40 := hJ.2.1.2.2.1
  have hA := hM.1
  have hR := hM.2.1
  refine cv_iload_n dX12_about_0 rfl ?_
  have sw1 : a = 0 ∨ a = 1 ∨ a = 2 ∨ a = 3 ∨ a = 4 ∨ a = 5 ∨ a = 6 ∨ a = 7 ∨ a = 8 ∨ a = 9 ∨ a = 10 ∨ a = 11 ∨ a = 12 ∨ (a < 0 ∨ 12 < a) := by omega
  rcases sw1 with sw | sw | sw | sw | sw | sw | sw | sw | sw | sw | sw | sw | sw | sw
  · refine cv_tableIn (tgt := 68) dX12_about_1 (by omega) (by omega) (by omega) (by rw [sw]; rfl) (by decide) ?_
    refine cv_aload_n dX12_about_68 rfl ?_
    refine cv_getf flX12_65 dX12_about_69 rfl rfl ?_
    refine cv_iret rfl dX12_about_72 ⟨Nat.le_refl _, Nat.le_refl _⟩ ⟨ct_rI (by unfold gAb; rw [if_pos sw]), ⟨o, A, tm, tr, p, st, rfl, hst, hM⟩⟩
  · refine cv_tableIn (tgt := 73) dX12_about_1 (by omega) (by omega) (by omega) (by rw [sw]; rfl) (by decide) ?_
    refine cv_aload_n dX12_about_73 rfl ?_
    refine cv_getf flX12_145 dX12_about_74 rfl rfl ?_
    refine cv_iret rfl dX12_about_77 ⟨Nat.le_refl _, Nat.le_refl _⟩ ⟨ct_rI (by unfold gAb; rw [if_neg (by omega), if_pos sw]), ⟨o, A, tm, tr, p, st, rfl, hst, hM⟩⟩
  · refine cv_tableIn (tgt := 78) dX12_about_1 (by omega) (by omega) (by omega) (by rw [sw]; rfl) (by decide) ?_
    refine cv_aload_n dX12_about_78 rfl ?_
    refine cv_getf flX12_22 dX12_about_79 rfl rfl ?_
    refine cv_iconst dX12_about_82 ?_
    refine cv_ialj (0) dX12_about_83 rfl (by omega) (by omega) ?_
    rw [hR.1]
    refine cv_iret rfl dX12_about_84 ⟨Nat.le_refl _, Nat.le_refl _⟩ ⟨ct_rI (by unfold gAb; rw [if_neg (by omega), if_neg (by omega), if_pos sw]), ⟨o, A, tm, tr, p, st, rfl, hst, hM⟩⟩
  · refine cv_tableIn (tgt := 85) dX12_about_1 (by omega) (by omega) (by omega) (by rw [sw]; rfl) (by decide) ?_
    refine cv_aload_n dX12_about_85 rfl ?_
    refine cv_aload_n dX12_about_86 rfl ?_
    refine cv_getf flX12_22 dX12_about_87 rfl rfl ?_
    refine cv_sameV (c_X12_levelOf 5 6 T o A tm tr p st S hT hM.1 hM.2.1 hI.1.1) lkX12_levelOf mlX12_184 dX12_about_90 (by decide) rfl rfl (by decide) rfl (Nat.le_of_ble_eq_true rfl) ⟨Nat.le_refl _, Nat.le_refl _⟩ ?_
    intro v w1 hq
    obtain ⟨rfl, rfl⟩ := hq
    refine cv_iret rfl dX12_about_93 ⟨Nat.le_refl _, Nat.le_refl _⟩ ⟨ct_rI (by unfold gAb; rw [if_neg (by omega), if_neg (by omega), if_neg (by omega), if_pos sw]), ⟨o, A, tm, tr, p, st, rfl, hst, hM⟩⟩
  · refine cv_tableIn (tgt := 94) dX12_about_1 (by omega) (by omega) (by omega) (by rw [sw]; rfl) (by decide) ?_
    refine cv_aload_n dX12_about_94 rfl ?_
    refine cv_aload_n dX12_about_95 rfl ?_
    refine cv_getf flX12_22 dX12_about_96 rfl rfl ?_
    refine cv_sameV (c_X12_breakOf 5 6 T o A tm tr p st S hT hM.1 hM.2.1 hI.1.1) lkX12_breakOf mlX12_176 dX12_about_99 (by decide) rfl rfl (by decide) rfl (Nat.le_of_ble_eq_true rfl) ⟨Nat.le_refl _, Nat.le_refl _⟩ ?_
    intro v w1 hq
    obtain ⟨rfl, rfl⟩ := hq
    refine cv_iret rfl dX12_about_102 ⟨Nat.le_refl _, Nat.le_refl _⟩ ⟨ct_rI (by unfold gAb; rw [if_neg (by omega), if_neg (by omega), if_neg (by omega), if_neg (by omega), if_pos sw]), ⟨o, A, tm, tr, p, st, rfl, hst, hM⟩⟩
  · refine cv_tableIn (tgt := 103) dX12_about_1 (by omega) (by omega) (by omega) (by rw [sw]; rfl) (by decide) ?_
    refine cv_aload_n dX12_about_103 rfl ?_
    refine cv_getf flX12_22 dX12_about_104 rfl rfl ?_
    refine cv_bipush dX12_about_107 (by decide) ?_
    refine cv_ialj (109) dX12_about_109 rfl (by omega) (by omega) ?_
    rw [hR.2.2.1]
    refine cv_iret rfl dX12_about_110 ⟨Nat.le_refl _, Nat.le_refl _⟩ ⟨ct_rI (by unfold gAb; rw [if_neg (by omega), if_neg (by omega), if_neg (by omega), if_neg (by omega), if_neg (by omega), if_pos sw]), ⟨o, A, tm, tr, p, st, rfl, hst, hM⟩⟩
  · refine cv_tableIn (tgt := 111) dX12_about_1 (by omega) (by omega) (by omega) (by rw [sw]; rfl) (by decide) ?_
    refine cv_aload_n dX12_about_111 rfl ?_
    refine cv_getf flX12_22 dX12_about_112 rfl rfl ?_
    refine cv_sipush dX12_about_115 (by decide) ?_
    refine cv_ialj (470) dX12_about_118 rfl (by omega) (by omega) ?_
    rw [hR.2.2.2.2]
    refine cv_iret rfl dX12_about_119 ⟨Nat.le_refl _, Nat.le_refl _⟩ ⟨ct_rI (by unfold gAb; rw [if_neg (by omega), if_neg (by omega), if_neg (by omega), if_neg (by omega), if_neg (by omega), if_neg (by omega), if_pos sw]), ⟨o, A, tm, tr, p, st, rfl, hst, hM⟩⟩
  · refine cv_tableIn (tgt := 120) dX12_about_1 (by omega) (by omega) (by omega) (by rw [sw]; rfl) (by decide) ?_
    refine cv_aload_n dX12_about_120 rfl ?_
    refine cv_aload_n dX12_about_121 rfl ?_
    refine cv_getf flX12_22 dX12_about_122 rfl rfl ?_
    refine cv_sameV (c_X12_isSolved 5 6 T o A tm tr p st S hT hM.1 hM.2.1 hI.1.1) lkX12_isSolved mlX12_266 dX12_about_125 (by decide) rfl rfl (by decide) rfl (Nat.le_of_ble_eq_true rfl) ⟨Nat.le_refl _, Nat.le_refl _⟩ ?_
    intro v w1 hq
    obtain ⟨rfl, rfl⟩ := hq
    have is := ct_i_r (fBk T S = -9 ∧ fOp T S = none)
    refine cv_if_eq (tgt := 135) dX12_about_128 (by decide) (by omega) (fun h128 => ?_) (fun h128 => ?_)
    · refine cv_iconst dX12_about_135 ?_
      refine cv_iret rfl dX12_about_136 ⟨Nat.le_refl _, Nat.le_refl _⟩ ⟨ct_rI (by unfold gAb; rw [if_neg (by omega), if_neg (by omega), if_neg (by omega), if_neg (by omega), if_neg (by omega), if_neg (by omega), if_neg (by omega), if_pos sw]; omega), ⟨o, A, tm, tr, p, st, rfl, hst, hM⟩⟩
    · refine cv_iconst dX12_about_131 ?_
      refine cv_goto (tgt := 136) dX12_about_132 (by decide) ?_
      refine cv_iret rfl dX12_about_136 ⟨Nat.le_refl _, Nat.le_refl _⟩ ⟨ct_rI (by unfold gAb; rw [if_neg (by omega), if_neg (by omega), if_neg (by omega), if_neg (by omega), if_neg (by omega), if_neg (by omega), if_neg (by omega), if_pos sw]; omega), ⟨o, A, tm, tr, p, st, rfl, hst, hM⟩⟩
  · refine cv_tableIn (tgt := 137) dX12_about_1 (by omega) (by omega) (by omega) (by rw [sw]; rfl) (by decide) ?_
    refine cv_aload_n dX12_about_137 rfl ?_
    refine cv_iconst dX12_about_138 ?_
    refine cv_sameV (c_X12_count T S n D y K sd o A tm tr p st hT hI hst hM 0 (by omega) hy) lkX12_count mlX12_269 dX12_about_139 (by decide) rfl rfl (by decide) rfl (Nat.le_of_ble_eq_true rfl) ⟨Nat.le_refl _, Nat.le_refl _⟩ ?_
    intro v w1 hq
    obtain ⟨rfl, hQ⟩ := hq
    refine cv_iret rfl dX12_about_142 ⟨Nat.le_refl _, Nat.le_refl _⟩ ⟨ct_rI (by unfold gAb; rw [if_neg (by omega), if_neg (by omega), if_neg (by omega), if_neg (by omega), if_neg (by omega), if_neg (by omega), if_neg (by omega), if_neg (by omega), if_pos sw]; exact cn_0 hT), hQ⟩
  · refine cv_tableIn (tgt := 143) dX12_about_1 (by omega) (by omega) (by omega) (by rw [sw]; rfl) (by decide) ?_
    refine cv_aload_n dX12_about_143 rfl ?_
    refine cv_iconst dX12_about_144 ?_
    refine cv_sameV (c_X12_count T S n D y K sd o A tm tr p st hT hI hst hM 1 (by omega) hy) lkX12_count mlX12_269 dX12_about_145 (by decide) rfl rfl (by decide) rfl (Nat.le_of_ble_eq_true rfl) ⟨Nat.le_refl _, Nat.le_refl _⟩ ?_
    intro v w1 hq
    obtain ⟨rfl, hQ⟩ := hq
    refine cv_iret rfl dX12_about_148 ⟨Nat.le_refl _, Nat.le_refl _⟩ ⟨ct_rI (by unfold gAb; rw [if_neg (by omega), if_neg (by omega), if_neg (by omega), if_neg (by omega), if_neg (by omega), if_neg (by omega), if_neg (by omega), if_neg (by omega), if_neg (by omega), if_pos sw]; exact cn_1 hT hJ), hQ⟩
  · refine cv_tableIn (tgt := 149) dX12_about_1 (by omega) (by omega) (by omega) (by rw [sw]; rfl) (by decide) ?_
    refine cv_aload_n dX12_about_149 rfl ?_
    refine cv_getf flX12_195 dX12_about_150 rfl rfl ?_
    refine cv_iret rfl dX12_about_153 ⟨Nat.le_refl _, Nat.le_refl _⟩ ⟨ct_rI (by unfold gAb; rw [if_neg (by omega), if_neg (by omega), if_neg (by omega), if_neg (by omega), if_neg (by omega), if_neg (by omega), if_neg (by omega), if_neg (by omega), if_neg (by omega), if_neg (by omega), if_pos sw]; exact hM.2.2.2.1.1), ⟨o, A, tm, tr, p, st, rfl, hst, hM⟩⟩
  · refine cv_tableIn (tgt := 154) dX12_about_1 (by omega) (by omega) (by omega) (by rw [sw]; rfl) (by decide) ?_
    refine cv_aload_n dX12_about_154 rfl ?_
    refine cv_getf flX12_244 dX12_about_155 rfl rfl ?_
    refine cv_iret rfl dX12_about_158 ⟨Nat.le_refl _, Nat.le_refl _⟩ ⟨ct_rI (by unfold gAb; rw [if_neg (by omega), if_neg (by omega), if_neg (by omega), if_neg (by omega), if_neg (by omega), if_neg (by omega), if_neg (by omega), if_neg (by omega), if_neg (by omega), if_neg (by omega), if_neg (by omega), if_pos sw]; exact hM.2.2.2.2.2.1.1), ⟨o, A, tm, tr, p, st, rfl, hst, hM⟩⟩
  · refine cv_tableIn (tgt := 159) dX12_about_1 (by omega) (by omega) (by omega) (by rw [sw]; rfl) (by decide) ?_
    refine cv_aload_n dX12_about_159 rfl ?_
    refine cv_getf flX12_75 dX12_about_160 rfl rfl ?_
    refine cv_iret rfl dX12_about_163 ⟨Nat.le_refl _, Nat.le_refl _⟩ ⟨ct_rI (by unfold gAb; rw [if_neg (by omega), if_neg (by omega), if_neg (by omega), if_neg (by omega), if_neg (by omega), if_neg (by omega), if_neg (by omega), if_neg (by omega), if_neg (by omega), if_neg (by omega), if_neg (by omega), if_neg (by omega), if_pos sw]; exact hM.2.2.1.1), ⟨o, A, tm, tr, p, st, rfl, hst, hM⟩⟩
  · refine cv_tableOut (tgt := 164) dX12_about_1 (by decide) (by omega) (by omega) ?_
    refine cv_bipush dX12_about_164 (by decide) ?_
    refine cv_iret rfl dX12_about_166 ⟨Nat.le_refl _, Nat.le_refl _⟩ ⟨ct_rI (by unfold gAb; rw [if_neg (by omega), if_neg (by omega), if_neg (by omega), if_neg (by omega), if_neg (by omega), if_neg (by omega), if_neg (by omega), if_neg (by omega), if_neg (by omega), if_neg (by omega), if_neg (by omega), if_neg (by omega), if_neg (by omega)]), ⟨o, A, tm, tr, p, st, rfl, hst, hM⟩⟩
set_option maxRecDepth 100000 in
set_option maxHeartbeats 1000000 in
theorem c_X12_number (T : ctT) (S : ctS) (n : Nat) (D : Nat → ctS) (y : ctY) (K : ctK) (sd : Int) (o : Nat → Int) (A : Nat → Nat → Int) (tm tr : Int) (p st : Nat → Int) (hT : okT T) (hI : I2 T S) (hst : stR st) (hM : RM T S n D y K sd o A p) (a b : Int) (ar : -2147483648 ≤ a ∧ a ≤ 2147483647) (br : -2147483648 ≤ b ∧ b ≤ 2147483647)  : CM MX12_number (4, 0, 0) [vR 0, vI a, vI b] (wM 5 6 T o A tm tr p st) (fun v1 w => v1 = some (vI (gNu T S a b)) ∧ QM T S n D y K sd w) := by
  refine CM.of (by decide) (Nat.le_of_ble_eq_true rfl) ?_
  show CV MX12_number (4, 0, 0) 19 (0, 0) 0 [(0, vR 0), (1, vI a), (2, vI b)] [] (wM 5 6 T o A tm tr p st) _
  have hJ := hI.1.1
  have hg := J_g hT hJ
  have hZ := hg.1.1
  have hN := hT.2.1
  have hN1 := hT.1
  have hR6 := hT.2.2.1
  have hC40 := hJ.2.1.2.2.1
  have hA := hM.1
  have hR := hM.2.1
  refine cv_aload_n dX12_number_0 rfl ?_
  refine cv_iload_n dX12_number_1 rfl ?_
  refine cv_sameV (c_X12_isNumber 5 6 T o A tm tr p st hT a (by omega)) lkX12_isNumber mlX12_247 dX12_number_2 (by decide) rfl rfl (by decide) rfl (Nat.le_of_ble_eq_true rfl) ⟨Nat.le_refl _, Nat.le_refl _⟩ ?_
  intro v w1 hq
  obtain ⟨rfl, rfl⟩ := hq
  have i2 := ct_i_r (0 ≤ a ∧ a < (tN T : Int))
  refine cv_if_ne (tgt := 10) dX12_number_5 (by decide) (by omega) (fun h5 => ?_) (fun h5 => ?_)
  · have ca : 0 ≤ a ∧ a < (tN T : Int) := ct_i_1.mp (by omega)
    refine cv_iload_n dX12_number_10 rfl ?_
    have sw11 : b = 0 ∨ b = 1 ∨ b = 2 ∨ b = 3 ∨ (b < 0 ∨ 3 < b) := by omega
    rcases sw11 with sw | sw | sw | sw | sw
    · refine cv_tableIn (tgt := 40) dX12_number_11 (by omega) (by omega) (by omega) (by rw [sw]; rfl) (by decide) ?_
      refine cv_aload_n dX12_number_40 rfl ?_
      refine cv_aload_n dX12_number_41 rfl ?_
      refine cv_getf flX12_22 dX12_number_42 rfl rfl ?_
      refine cv_iload_n dX12_number_45 rfl ?_
      refine cv_topi ((a.toNat : Nat) : Int) (by omega) ?_
      refine cv_sameV (c_X12_low 5 6 T o A tm tr p st S hT hM.1 hM.2.1 hI.1.1 a.toNat (by omega)) lkX12_low mlX12_123 dX12_number_46 (by decide) rfl rfl (by decide) rfl (Nat.le_of_ble_eq_true rfl) ⟨Nat.le_refl _, Nat.le_refl _⟩ ?_
      intro v w1 hq
      obtain ⟨rfl, rfl⟩ := hq
      refine cv_iret rfl dX12_number_49 ⟨Nat.le_refl _, Nat.le_refl _⟩ ⟨ct_rI (by unfold gNu; rw [if_neg (by omega), if_pos sw]), ⟨o, A, tm, tr, p, st, rfl, hst, hM⟩⟩
    · refine cv_tableIn (tgt := 50) dX12_number_11 (by omega) (by omega) (by omega) (by rw [sw]; rfl) (by decide) ?_
      refine cv_aload_n dX12_number_50 rfl ?_
      refine cv_aload_n dX12_number_51 rfl ?_
      refine cv_getf flX12_22 dX12_number_52 rfl rfl ?_
      refine cv_iload_n dX12_number_55 rfl ?_
      refine cv_topi ((a.toNat : Nat) : Int) (by omega) ?_
      refine cv_sameV (c_X12_high 5 6 T o A tm tr p st S hT hM.1 hM.2.1 hI.1.1 a.toNat (by omega)) lkX12_high mlX12_127 dX12_number_56 (by decide) rfl rfl (by decide) rfl (Nat.le_of_ble_eq_true rfl) ⟨Nat.le_refl _, Nat.le_refl _⟩ ?_
      intro v w1 hq
      obtain ⟨rfl, rfl⟩ := hq
      refine cv_iret rfl dX12_number_59 ⟨Nat.le_refl _, Nat.le_refl _⟩ ⟨ct_rI (by unfold gNu; rw [if_neg (by omega), if_neg (by omega), if_pos sw]), ⟨o, A, tm, tr, p, st, rfl, hst, hM⟩⟩
    · refine cv_tableIn (tgt := 60) dX12_number_11 (by omega) (by omega) (by omega) (by rw [sw]; rfl) (by decide) ?_
      refine cv_aload_n dX12_number_60 rfl ?_
      refine cv_getf flX12_13 dX12_number_61 rfl rfl ?_
      refine cv_iload_n dX12_number_64 rfl ?_
      refine cv_ialj (a.toNat) dX12_number_65 rfl (by omega) (by omega) ?_
      rw [hA.1 a.toNat (by omega)]
      refine cv_iret rfl dX12_number_66 ⟨Nat.le_refl _, Nat.le_refl _⟩ ⟨ct_rI (by unfold gNu; rw [if_neg (by omega), if_neg (by omega), if_neg (by omega), if_pos sw]), ⟨o, A, tm, tr, p, st, rfl, hst, hM⟩⟩
    · refine cv_tableIn (tgt := 67) dX12_number_11 (by omega) (by omega) (by omega) (by rw [sw]; rfl) (by decide) ?_
      refine cv_aload_n dX12_number_67 rfl ?_
      refine cv_iload_n dX12_number_68 rfl ?_
      refine cv_topi ((a.toNat : Nat) : Int) (by omega) ?_
      refine cv_sameV (c_X12_leastOfAll T S n D y K sd o A tm tr p st hT hI hst hM a.toNat (by omega)) lkX12_leastOfAll mlX12_272 dX12_number_69 (by decide) rfl rfl (by decide) rfl (Nat.le_of_ble_eq_true rfl) ⟨Nat.le_refl _, Nat.le_refl _⟩ ?_
      intro v w1 hq
      obtain ⟨rfl, hQ⟩ := hq
      refine cv_iret rfl dX12_number_72 ⟨Nat.le_refl _, Nat.le_refl _⟩ ⟨ct_rI (by unfold gNu; rw [if_neg (by omega), if_neg (by omega), if_neg (by omega), if_neg (by omega), if_pos sw]), hQ⟩
    · refine cv_tableOut (tgt := 73) dX12_number_11 (by decide) (by omega) (by omega) ?_
      refine cv_bipush dX12_number_73 (by decide) ?_
      refine cv_iret rfl dX12_number_75 ⟨Nat.le_refl _, Nat.le_refl _⟩ ⟨ct_rI (by unfold gNu; rw [if_neg (by omega), if_neg (by omega), if_neg (by omega), if_neg (by omega), if_neg (by omega)]), ⟨o, A, tm, tr, p, st, rfl, hst, hM⟩⟩
  · have ca : ¬ (0 ≤ a ∧ a < (tN T : Int)) := ct_i_0.mp (by omega)
    refine cv_iconst dX12_number_8 ?_
    refine cv_iret rfl dX12_number_9 ⟨Nat.le_refl _, Nat.le_refl _⟩ ⟨ct_rI (by unfold gNu; rw [if_pos ca]), ⟨o, A, tm, tr, p, st, rfl, hst, hM⟩⟩
