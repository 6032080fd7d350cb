/-! THE TRIAL ROW -/
def LM (T : ctT) (o : Nat → Int) (A : Nat → Nat → Int) (tm tr : Int) (p q st : Nat → Int) : List (List ct_C) := [[cO 12 (mF 5 6 T o tm tr), cA 0 60 (A 1), cA 0 4 (A 2), cA 0 24 (A 3), cA 0 6 (A 4)], [cA 0 471 p], [cA 0 471 q], [cA 0 6594 (A 7), cA 0 942 (A 8), cA 1 2 (A 9), cA 0 6 (A 10), cA 0 6 (A 11), cA 0 8 st, cA 0 4 (A 13), cA 0 64 (A 14), cA 0 64 (A 15), cA 0 4 (A 16), cA 0 24 (A 17), cA 0 6 (A 18)]]
theorem LM_e (T : ctT) (o : Nat → Int) (A : Nat → Nat → Int) (tm tr : Int) (p q st : Nat → Int) : (LM T o A tm tr p q st).map List.length = [5, 1, 1, 12] := rfl
set_option maxRecDepth 100000 in
set_option maxHeartbeats 1000000 in
theorem cv_tri {M M' : ct_M} {r : Nat × Nat × Nat} {d n0 : Nat} {z : Nat × Nat} {pc : Nat} {ls : List (Nat × ct_V)} {st' stk avs : List ct_V} {Q Q' : Option ct_V → List ct_C → Prop} {idx nn b : Nat} {T : ctT} {o : Nat → Int} {A : Nat → Nat → Int} {tm tr : Int} {p q st : Nat → Int} (hM : CM M' (d, 0, 0) (vR b :: avs) (wM 6 5 T o (upA A 6 p) tm tr q st) Q') (hk : ct_lk 0 M' nn) (hlk : Cond.methodLink M.1.cls idx M'.1 ∈ ct_tbl) (hd : decode M.2.1 pc = .ok (.invokevirtual idx, 3)) (hr : d + 1 ≤ r.1) (hn : avs.length = nn) {ci : Nat} {fs : List ct_V} (hb : (wM 6 5 T o (upA A 6 p) tm tr q st)[b]? = some (cO ci fs)) (hci : (vwCl[ci]?).map (fun q => q.1) = some M'.1.cls)
    (hst : stk = (avs.map (ct_rv (ct_pl (ct_ps [(0, 0, 5), (2, 6, 1), (1, 5, 1), (3, 7, 12)])))).reverse ++ vR (ct_pl (ct_ps [(0, 0, 5), (2, 6, 1), (1, 5, 1), (3, 7, 12)]) b) :: st') (hsz : ct_sz st' ≤ 8) (hz : z.1 ≤ r.2.1 ∧ z.2 ≤ r.2.2)
    (kk : ∀ (v : Option ct_V) (w1 : List ct_C), Q' v w1 → ∃ (tm1 tr1 : Int) (q1 st1 : Nat → Int), w1 = wM 6 5 T o (upA A 6 p) tm1 tr1 q1 st1 ∧ CV M r n0 z (pc + 3) ls ((v.map (ct_rv (ct_pl (ct_ps [(0, 0, 5), (2, 6, 1), (1, 5, 1), (3, 7, 12)])))).toList ++ st') (wM 5 6 T o (upA A 6 q1) tm1 tr1 p st1) Q) : CV M r n0 z pc ls stk (wM 5 6 T o (upA A 6 q) tm tr p st) Q := by
  show CV M r n0 z pc ls stk (LM T o A tm tr p q st).flatten Q
  refine cv_blkV [(0, 0, 5), (2, 6, 1), (1, 5, 1), (3, 7, 12)] (LM_e T o A tm tr p q st) (by decide) (by decide) hM rfl hk hlk hd hr hn hb hci hst hsz hz (fun v w1 hq => ?_) (fun v w1 hq => ?_)
  · obtain ⟨tm1, tr1, q1, st1, rfl, -⟩ := kk v w1 hq
    rfl
  · obtain ⟨tm1, tr1, q1, st1, rfl, h⟩ := kk v w1 hq
    exact ⟨[[cO 12 (mF 5 6 T o tm1 tr1), cA 0 60 (A 1), cA 0 4 (A 2), cA 0 24 (A 3), cA 0 6 (A 4)], [cA 0 471 q1], [cA 0 471 p], [cA 0 6594 (A 7), cA 0 942 (A 8), cA 1 2 (A 9), cA 0 6 (A 10), cA 0 6 (A 11), cA 0 8 st1, cA 0 4 (A 13), cA 0 64 (A 14), cA 0 64 (A 15), cA 0 4 (A 16), cA 0 24 (A 17), cA 0 6 (A 18)]], rfl, rfl, h⟩
theorem mk_num {T : ctT} {V : ctS} {a s q : Int} (h : 0 ≤ s ∧ s ≤ 1 ∧ 0 ≤ q ∧ q ≤ 9) (ha : ¬ a < (tN T : Int)) : ¬ mkP T V (mkO a s q) := fun z => ha (by have := z.1; unfold mkO at this; omega)
theorem jt_nat (b a R : Nat) (hb : 0 < b) (ha : 0 < a) : b * (R % (a * 1000)) * 1000 / (b * 1000 * a) = R / a % 1000 ∧ b * (R % (a * 1000)) * 1000 % (b * 1000 * a) = b * 1000 * (R % a) := by
  have e : b * (R % (a * 1000)) * 1000 = (b * 1000) * (R % (a * 1000)) := by rw [Nat.mul_assoc, Nat.mul_assoc, Nat.mul_comm 1000]
  rw [e, Nat.mul_div_mul_left _ _ (by omega), Nat.mul_mod_mul_left]
  refine ⟨Nat.mod_mul_right_div_self R a 1000, ?_⟩
  rw [Nat.mod_mod_of_dvd R ⟨1000, rfl⟩]
theorem jt_cast {b R x e y s : Nat} (t : Nat) (h : b * (R % x) * t / e = R / y % t ∧ b * (R % x) * t % e = s * (R % y)) : ((b : Int) * ((R : Int) % (x : Int))) * (t : Int) / (e : Int) = (R : Int) / (y : Int) % (t : Int) ∧ ((b : Int) * ((R : Int) % (x : Int))) * (t : Int) % (e : Int) = (s : Int) * ((R : Int) % (y : Int)) := ⟨by exact_mod_cast h.1, by exact_mod_cast h.2⟩
theorem jt_step {n k R : Nat} (hk : k < n) : (p1k k * ((R : Int) % p1k (n - k))) * 1000 / p1k n = (R : Int) / p1k (n - 1 - k) % 1000 ∧ (p1k k * ((R : Int) % p1k (n - k))) * 1000 % p1k n = p1k (k + 1) * ((R : Int) % p1k (n - (k + 1))) := by
  have h := jt_nat (1000 ^ k) (1000 ^ (n - 1 - k)) R (Nat.pow_pos (by decide)) (Nat.pow_pos (by decide))
  have e1 : (1000 ^ (n - 1 - k)) * 1000 = 1000 ^ (n - k) := by rw [← Nat.pow_succ]; congr 1; omega
  have e2 : 1000 ^ k * 1000 * 1000 ^ (n - 1 - k) = 1000 ^ n := by rw [← Nat.pow_succ, ← Nat.pow_add]; congr 1; omega
  have e3 : 1000 ^ k * 1000 = 1000 ^ (k + 1) := by rw [← Nat.pow_succ]
  rw [e1, e2] at h
  rw [e3, show n - 1 - k = n - (k + 1) by omega] at h
  unfold p1k
  rw [show n - 1 - k = n - (k + 1) by omega]
  exact jt_cast 1000 h
set_option maxRecDepth 100000 in
set_option maxHeartbeats 1000000 in
theorem c_X12_makes (T : ctT) (o : Nat → Int) (A : Nat → Nat → Int) (tm tr : Int) (p q st : Nat → Int) (V : ctS) (hT : okT T) (hA : rT T A) (hV : Rep V q) (hI : I2 T V) (hst : stR st) (a s g : Int) (ha : 0 ≤ a ∧ a ≤ 9 ∧ 0 ≤ s ∧ s ≤ 1 ∧ 0 ≤ g ∧ g ≤ 9) : CM MX12_makes (8, 0, 0) [vR 0, vI a, vI s, vI g] (wM 5 6 T o (upA A 6 q) tm tr p st) (fun v1 w => ∃ q1 tm1 tr1, v1 = some (vI (ct_i (mkP T V (mkO a s g)))) ∧ w = wM 5 6 T o (upA A 6 q1) tm1 tr1 p st ∧ Rep (fMade T V (mkO a s g)) q1) := by
  refine CM.of (by decide) (Nat.le_of_ble_eq_true rfl) ?_
  show CV MX12_makes (8, 0, 0) 19 (0, 0) 0 [(0, vR 0), (1, vI a), (2, vI s), (3, vI g)] [] (wM 5 6 T o (upA A 6 q) tm tr p st) _
  have hN := hT.2.1
  have im := ct_i_r (mkP T V (mkO a s g))
  have hm : okm (mkO a s g) := by unfold okm mkO; omega
  refine cv_aload_n dX12_makes_0 rfl ?_
  refine cv_iload_n dX12_makes_1 rfl ?_
  refine cv_sameV (c_X12_isNumber 5 6 T o (upA A 6 q) tm tr p st hT a (by omega)) lkX12_isNumber mlX12_247 dX12_makes_2 (by decide) rfl rfl (by decide) rfl (Nat.le_of_ble_eq_true rfl) ⟨Nat.le_refl _, Nat.le_refl _⟩ ?_
  intro v w1 hq
  obtain ⟨rfl, rfl⟩ := hq
  have i2 := ct_i_r (0 ≤ a ∧ a < (tN T : Int))
  refine cv_if_eq (tgt := 29) dX12_makes_5 (by decide) (by omega) (fun h5 => ?_) (fun h5 => ?_)
  · have ca : ¬ (0 ≤ a ∧ a < (tN T : Int)) := ct_i_0.mp (by omega)
    have cm : ¬ mkP T V (mkO a s g) := mk_num (by omega) (by omega)
    refine cv_iconst dX12_makes_29 ?_
    refine cv_istore dX12_makes_30 (by decide) rfl rfl ?_
    refine cv_iload dX12_makes_32 rfl ?_
    refine cv_if_eq (tgt := 51) dX12_makes_34 (by decide) (by omega) (fun h34 => ?_) (fun h34 => ?_)
    · refine cv_iload dX12_makes_51 rfl ?_
      refine cv_zret rfl dX12_makes_53 ⟨Nat.le_refl _, Nat.le_refl _⟩ (by omega) ⟨q, tm, tr, ct_rI (ct_i_f cm).symm, rfl, by rw [fMade_f cm]; exact hV⟩
    · exact absurd rfl h34
  · have ca : 0 ≤ a ∧ a < (tN T : Int) := ct_i_1.mp (by omega)
    have ho : okM T (mkO a s g) := by unfold okM mkO; omega
    refine cv_aload_n dX12_makes_8 rfl ?_
    refine cv_aload_n dX12_makes_9 rfl ?_
    refine cv_getf flX12_25 dX12_makes_10 rfl rfl ?_
    refine cv_iload_n dX12_makes_13 rfl ?_
    refine cv_iload_n dX12_makes_14 rfl ?_
    refine cv_iload_n dX12_makes_15 rfl ?_
    refine cv_sameS (c_X12_codeOf (wM 5 6 T o (upA A 6 q) tm tr p st) a s g) lkX12_codeOf mlX12_130 dX12_makes_16 (by decide) rfl rfl (Nat.le_of_ble_eq_true rfl) ⟨Nat.le_refl _, Nat.le_refl _⟩ ?_
    intro v w1 hq
    obtain ⟨rfl, rfl⟩ := hq
    refine cv_tri (c_X12_mayMake 6 5 T o (upA A 6 p) tm tr q st V hT hA hV hI.1.1 (mkO a s g) ho) lkX12_mayMake mlX12_283 dX12_makes_19 (by decide) rfl rfl (by decide) rfl (Nat.le_of_ble_eq_true rfl) ⟨Nat.le_refl _, Nat.le_refl _⟩ ?_
    intro v w1 hq
    obtain ⟨rfl, rfl⟩ := hq
    refine ⟨tm, tr, q, st, rfl, ?_⟩
    refine cv_if_eq (tgt := 29) dX12_makes_22 (by decide) (by omega) (fun h22 => ?_) (fun h22 => ?_)
    · have cm : ¬ mkP T V (mkO a s g) := ct_i_0.mp (by omega)
      refine cv_iconst dX12_makes_29 ?_
      refine cv_istore dX12_makes_30 (by decide) rfl rfl ?_
      refine cv_iload dX12_makes_32 rfl ?_
      refine cv_if_eq (tgt := 51) dX12_makes_34 (by decide) (by omega) (fun h34 => ?_) (fun h34 => ?_)
      · refine cv_iload dX12_makes_51 rfl ?_
        refine cv_zret rfl dX12_makes_53 ⟨Nat.le_refl _, Nat.le_refl _⟩ (by omega) ⟨q, tm, tr, ct_rI (ct_i_f cm).symm, rfl, by rw [fMade_f cm]; exact hV⟩
      · exact absurd rfl h34
    · have cm : mkP T V (mkO a s g) := ct_i_1.mp (by omega)
      refine cv_iconst dX12_makes_25 ?_
      refine cv_goto (tgt := 30) dX12_makes_26 (by decide) ?_
      refine cv_istore dX12_makes_30 (by decide) rfl rfl ?_
      refine cv_iload dX12_makes_32 rfl ?_
      refine cv_if_eq (tgt := 51) dX12_makes_34 (by decide) (by omega) (fun h34 => ?_) (fun h34 => ?_)
      · exact absurd h34 (by omega)
      · refine cv_aload_n dX12_makes_37 rfl ?_
        refine cv_aload_n dX12_makes_38 rfl ?_
        refine cv_getf flX12_25 dX12_makes_39 rfl rfl ?_
        refine cv_iload_n dX12_makes_42 rfl ?_
        refine cv_iload_n dX12_makes_43 rfl ?_
        refine cv_iload_n dX12_makes_44 rfl ?_
        refine cv_sameS (c_X12_codeOf (wM 5 6 T o (upA A 6 q) tm tr p st) a s g) lkX12_codeOf mlX12_130 dX12_makes_45 (by decide) rfl rfl (Nat.le_of_ble_eq_true rfl) ⟨Nat.le_refl _, Nat.le_refl _⟩ ?_
        intro v w1 hq
        obtain ⟨rfl, rfl⟩ := hq
        refine cv_tri (c_X12_makeOn 6 5 T o (upA A 6 p) tm tr q st V hT hA hV hI.1.1 (mkO a s g) hm cm) lkX12_makeOn mlX12_241 dX12_makes_48 (by decide) rfl rfl (by decide) rfl (Nat.le_of_ble_eq_true rfl) ⟨Nat.le_refl _, Nat.le_refl _⟩ ?_
        intro v w1 hq
        obtain ⟨tm1, tr1, q1, rfl, rfl, hq1⟩ := hq
        refine ⟨tm1, tr1, q1, st, rfl, ?_⟩
        refine cv_iload dX12_makes_51 rfl ?_
        refine cv_zret rfl dX12_makes_53 ⟨Nat.le_refl _, Nat.le_refl _⟩ (by omega) ⟨q1, tm1, tr1, ct_rI (ct_i_t cm).symm, rfl, hq1⟩
set_option maxRecDepth 100000 in
set_option maxHeartbeats 1000000 in
theorem c_X12_judged (T : ctT) (o : Nat → Int) (A : Nat → Nat → Int) (tm tr : Int) (p q st : Nat → Int) (V : ctS) (hT : okT T) (hA : rT T A) (hV : Rep V q) (hI : I2 T V) (hst : stR st) (d : Int) (hd : 0 ≤ d ∧ d ≤ 999) : CM MX12_judged (9, 0, 0) [vR 0, vI (d / 100), vI (d / 10 % 10), vI (d % 10)] (wM 5 6 T o (upA A 6 q) tm tr p st) (fun v1 w => ∃ q1 tm1 tr1 st1, v1 = some (vI (fCb T V d).1) ∧ w = wM 5 6 T o (upA A 6 q1) tm1 tr1 p st1 ∧ Rep (fCb T V d).2 q1 ∧ stR st1) := by
  refine CM.of (by decide) (Nat.le_of_ble_eq_true rfl) ?_
  show CV MX12_judged (9, 0, 0) 19 (0, 0) 0 [(0, vR 0), (1, vI (d / 100)), (2, vI (d / 10 % 10)), (3, vI (d % 10))] [] (wM 5 6 T o (upA A 6 q) tm tr p st) _
  have hN := hT.2.1
  have hg := J_g hT hI.1.1
  have hZ := hg.1.1
  have hC := hI.1.1.2.1.2.2.1
  have fr := fCb_r (T := T) (V := V) (d := d)
  refine cv_iload_n dX12_judged_0 rfl ?_
  have sw1 : d / 100 = 1 ∨ d / 100 = 2 ∨ d / 100 = 3 ∨ d / 100 = 4 ∨ d / 100 = 5 ∨ d / 100 = 6 ∨ d / 100 = 7 ∨ (d / 100 < 1 ∨ 7 < d / 100) := by omega
  rcases sw1 with sw | sw | sw | sw | sw | sw | sw | sw
  · refine cv_tableIn (tgt := 44) dX12_judged_1 (by omega) (by omega) (by omega) (by rw [sw]; rfl) (by decide) ?_
    refine cv_aload_n dX12_judged_44 rfl ?_
    refine cv_iload_n dX12_judged_45 rfl ?_
    refine cv_iload_n dX12_judged_46 rfl ?_
    refine cv_iconst dX12_judged_47 ?_
    refine cv_isub dX12_judged_48 ?_
    refine cv_iload_n dX12_judged_49 rfl ?_
    refine cv_sameV (c_X12_makes T o A tm tr p q st V hT hA hV hI hst (d / 10 % 10) (d / 100 - 1) (d % 10) (by omega)) lkX12_makes mlX12_297 dX12_judged_50 (by decide) rfl rfl (by decide) rfl (Nat.le_of_ble_eq_true rfl) ⟨Nat.le_refl _, Nat.le_refl _⟩ ?_
    intro v w1 hq
    obtain ⟨q1, tm1, tr1, rfl, rfl, hq1⟩ := hq
    have im := ct_i_z (mkP T V (mkO (d / 10 % 10) (d / 100 - 1) (d % 10)))
    refine cv_zret rfl dX12_judged_53 ⟨Nat.le_refl _, Nat.le_refl _⟩ (by omega) (by
        have e0 : fCb T V d = (ct_i (mkP T V (mkO (d / 10 % 10) (d / 100 - 1) (d % 10))), fMade T V (mkO (d / 10 % 10) (d / 100 - 1) (d % 10))) := by unfold fCb; rw [if_pos sw, sw]; rfl
        rw [e0]
        exact ⟨q1, tm1, tr1, st, rfl, rfl, hq1, hst⟩)
  · refine cv_tableIn (tgt := 44) dX12_judged_1 (by omega) (by omega) (by omega) (by rw [sw]; rfl) (by decide) ?_
    refine cv_aload_n dX12_judged_44 rfl ?_
    refine cv_iload_n dX12_judged_45 rfl ?_
    refine cv_iload_n dX12_judged_46 rfl ?_
    refine cv_iconst dX12_judged_47 ?_
    refine cv_isub dX12_judged_48 ?_
    refine cv_iload_n dX12_judged_49 rfl ?_
    refine cv_sameV (c_X12_makes T o A tm tr p q st V hT hA hV hI hst (d / 10 % 10) (d / 100 - 1) (d % 10) (by omega)) lkX12_makes mlX12_297 dX12_judged_50 (by decide) rfl rfl (by decide) rfl (Nat.le_of_ble_eq_true rfl) ⟨Nat.le_refl _, Nat.le_refl _⟩ ?_
    intro v w1 hq
    obtain ⟨q1, tm1, tr1, rfl, rfl, hq1⟩ := hq
    have im := ct_i_z (mkP T V (mkO (d / 10 % 10) (d / 100 - 1) (d % 10)))
    refine cv_zret rfl dX12_judged_53 ⟨Nat.le_refl _, Nat.le_refl _⟩ (by omega) (by
        have e0 : fCb T V d = (ct_i (mkP T V (mkO (d / 10 % 10) (d / 100 - 1) (d % 10))), fMade T V (mkO (d / 10 % 10) (d / 100 - 1) (d % 10))) := by unfold fCb; rw [if_neg (by omega), if_pos sw, sw]; rfl
        rw [e0]
        exact ⟨q1, tm1, tr1, st, rfl, rfl, hq1, hst⟩)
  · refine cv_tableIn (tgt := 54) dX12_judged_1 (by omega) (by omega) (by omega) (by rw [sw]; rfl) (by decide) ?_
    refine cv_iload_n dX12_judged_54 rfl ?_
    refine cv_if_ne (tgt := 73) dX12_judged_55 (by decide) (by omega) (fun h55 => ?_) (fun h55 => ?_)
    · refine cv_iconst dX12_judged_73 ?_
      refine cv_zret rfl dX12_judged_74 ⟨Nat.le_refl _, Nat.le_refl _⟩ (by omega) (by
          have e0 : fCb T V d = (0, V) := by unfold fCb; rw [if_neg (by omega), if_neg (by omega), if_pos sw, if_neg (fun z => by have := z.1; omega)]
          rw [e0]
          exact ⟨q, tm, tr, st, rfl, rfl, hV, hst⟩)
    · refine cv_iload_n dX12_judged_58 rfl ?_
      refine cv_if_ne (tgt := 73) dX12_judged_59 (by decide) (by omega) (fun h59 => ?_) (fun h59 => ?_)
      · refine cv_iconst dX12_judged_73 ?_
        refine cv_zret rfl dX12_judged_74 ⟨Nat.le_refl _, Nat.le_refl _⟩ (by omega) (by
          have e0 : fCb T V d = (0, V) := by unfold fCb; rw [if_neg (by omega), if_neg (by omega), if_pos sw, if_neg (fun z => by have := z.1; omega)]
          rw [e0]
          exact ⟨q, tm, tr, st, rfl, rfl, hV, hst⟩)
      · refine cv_aload_n dX12_judged_62 rfl ?_
        refine cv_aload_n dX12_judged_63 rfl ?_
        refine cv_getf flX12_25 dX12_judged_64 rfl rfl ?_
        refine cv_tri (c_X12_mayLearn 6 5 T o (upA A 6 p) tm tr q st V hT hA hV hI.1.1) lkX12_mayLearn mlX12_289 dX12_judged_67 (by decide) rfl rfl (by decide) rfl (Nat.le_of_ble_eq_true rfl) ⟨Nat.le_refl _, Nat.le_refl _⟩ ?_
        intro v w1 hq
        obtain ⟨rfl, rfl⟩ := hq
        refine ⟨tm, tr, q, st, rfl, ?_⟩
        have il := ct_i_r (lnP T V)
        refine cv_if_ne (tgt := 75) dX12_judged_70 (by decide) (by omega) (fun h70 => ?_) (fun h70 => ?_)
        · have cl : lnP T V := ct_i_1.mp (by omega)
          refine cv_aload_n dX12_judged_75 rfl ?_
          refine cv_aload_n dX12_judged_76 rfl ?_
          refine cv_getf flX12_25 dX12_judged_77 rfl rfl ?_
          refine cv_tri (c_X12_learnOn 6 5 T o (upA A 6 p) tm tr q st V hT hA hV hI.1.1 hI.2.1 cl.2) lkX12_learnOn mlX12_238 dX12_judged_80 (by decide) rfl rfl (by decide) rfl (Nat.le_of_ble_eq_true rfl) ⟨Nat.le_refl _, Nat.le_refl _⟩ ?_
          intro v w1 hq
          obtain ⟨tm1, tr1, q1, st1, rfl, rfl, hq1, hs1⟩ := hq
          refine ⟨tm1, tr1, q1, st1, rfl, ?_⟩
          have lz := fLz_r (T := T) hZ
          refine cv_if_lt (tgt := 90) dX12_judged_83 (by decide) (by omega) (fun h83 => ?_) (fun h83 => ?_)
          · exact absurd h83 (by omega)
          · refine cv_iconst dX12_judged_86 ?_
            refine cv_goto (tgt := 91) dX12_judged_87 (by decide) ?_
            refine cv_zret rfl dX12_judged_91 ⟨Nat.le_refl _, Nat.le_refl _⟩ (by omega) (by
          have e0 : fCb T V d = (1, fLn T V) := by unfold fCb; rw [if_neg (by omega), if_neg (by omega), if_pos sw, if_pos ⟨by omega, cl⟩]
          rw [e0]
          exact ⟨q1, tm1, tr1, st1, rfl, rfl, hq1, hs1⟩)
        · have cl : ¬ lnP T V := ct_i_0.mp (by omega)
          refine cv_iconst dX12_judged_73 ?_
          refine cv_zret rfl dX12_judged_74 ⟨Nat.le_refl _, Nat.le_refl _⟩ (by omega) (by
          have e0 : fCb T V d = (0, V) := by unfold fCb; rw [if_neg (by omega), if_neg (by omega), if_pos sw, if_neg (fun z => cl z.2)]
          rw [e0]
          exact ⟨q, tm, tr, st, rfl, rfl, hV, hst⟩)
  · refine cv_tableIn (tgt := 92) dX12_judged_1 (by omega) (by omega) (by omega) (by rw [sw]; rfl) (by decide) ?_
    refine cv_aload_n dX12_judged_92 rfl ?_
    refine cv_getf flX12_25 dX12_judged_93 rfl rfl ?_
    refine cv_iconst dX12_judged_96 ?_
    refine cv_ialj (0) dX12_judged_97 rfl (by omega) (by omega) ?_
    refine cv_topi ((sZ V : Nat) : Int) hV.1 ?_
    refine cv_bipush dX12_judged_98 (by decide) ?_
    refine cv_iload_n dX12_judged_100 rfl ?_
    refine cv_imul dX12_judged_101 ?_
    refine cv_iload_n dX12_judged_102 rfl ?_
    refine cv_iadd dX12_judged_103 ?_
    refine cv_icmp_ne (tgt := 111) dX12_judged_104 (by decide) (by omega) (fun h104 => ?_) (fun h104 => ?_)
    · refine cv_iconst dX12_judged_111 ?_
      refine cv_zret rfl dX12_judged_112 ⟨Nat.le_refl _, Nat.le_refl _⟩ (by omega) ⟨q, tm, tr, st, ct_rI (by unfold fCb; rw [if_neg (by omega), if_neg (by omega), if_neg (by omega), if_pos sw]; first | exact (ct_i_t (by omega)).symm | exact (ct_i_f (by omega)).symm), rfl, by unfold fCb; rw [if_neg (by omega), if_neg (by omega), if_neg (by omega), if_pos sw]; exact hV, hst⟩
    · refine cv_iconst dX12_judged_107 ?_
      refine cv_goto (tgt := 112) dX12_judged_108 (by decide) ?_
      refine cv_zret rfl dX12_judged_112 ⟨Nat.le_refl _, Nat.le_refl _⟩ (by omega) ⟨q, tm, tr, st, ct_rI (by unfold fCb; rw [if_neg (by omega), if_neg (by omega), if_neg (by omega), if_pos sw]; first | exact (ct_i_t (by omega)).symm | exact (ct_i_f (by omega)).symm), rfl, by unfold fCb; rw [if_neg (by omega), if_neg (by omega), if_neg (by omega), if_pos sw]; exact hV, hst⟩
  · refine cv_tableIn (tgt := 113) dX12_judged_1 (by omega) (by omega) (by omega) (by rw [sw]; rfl) (by decide) ?_
    refine cv_aload_n dX12_judged_113 rfl ?_
    refine cv_iload_n dX12_judged_114 rfl ?_
    refine cv_sameV (c_X12_isNumber 5 6 T o (upA A 6 q) tm tr p st hT (d / 10 % 10) (by omega)) lkX12_isNumber mlX12_247 dX12_judged_115 (by decide) rfl rfl (by decide) rfl (Nat.le_of_ble_eq_true rfl) ⟨Nat.le_refl _, Nat.le_refl _⟩ ?_
    intro v w1 hq
    obtain ⟨rfl, rfl⟩ := hq
    have i115 := ct_i_r (0 ≤ d / 10 % 10 ∧ d / 10 % 10 < (tN T : Int))
    refine cv_if_eq (tgt := 138) dX12_judged_118 (by decide) (by omega) (fun h118 => ?_) (fun h118 => ?_)
    · have ca : ¬ (0 ≤ d / 10 % 10 ∧ d / 10 % 10 < (tN T : Int)) := ct_i_0.mp (by omega)
      refine cv_iconst dX12_judged_138 ?_
      refine cv_zret rfl dX12_judged_139 ⟨Nat.le_refl _, Nat.le_refl _⟩ (by omega) ⟨q, tm, tr, st, ct_rI (by unfold fCb; rw [if_neg (by omega), if_neg (by omega), if_neg (by omega), if_neg (by omega), if_pos sw]; first | exact (ct_i_t (by omega)).symm | exact (ct_i_f (by omega)).symm), rfl, by unfold fCb; rw [if_neg (by omega), if_neg (by omega), if_neg (by omega), if_neg (by omega), if_pos sw]; exact hV, hst⟩
    · have ca : 0 ≤ d / 10 % 10 ∧ d / 10 % 10 < (tN T : Int) := ct_i_1.mp (by omega)
      have bb := hg.1.2.2.2.2.1 (d / 10 % 10).toNat (by omega)
      refine cv_aload_n dX12_judged_121 rfl ?_
      refine cv_aload_n dX12_judged_122 rfl ?_
      refine cv_getf flX12_25 dX12_judged_123 rfl rfl ?_
      refine cv_iload_n dX12_judged_126 rfl ?_
      refine cv_topi (((d / 10 % 10).toNat : Nat) : Int) (by omega) ?_
      refine cv_tri (c_X12_low 6 5 T o (upA A 6 p) tm tr q st V hT hA hV hI.1.1 (d / 10 % 10).toNat (by omega)) lkX12_low mlX12_123 dX12_judged_127 (by decide) rfl rfl (by decide) rfl (Nat.le_of_ble_eq_true rfl) ⟨Nat.le_refl _, Nat.le_refl _⟩ ?_
      intro v w1 hq
      obtain ⟨rfl, rfl⟩ := hq
      refine ⟨tm, tr, q, st, rfl, ?_⟩
      refine cv_iload_n dX12_judged_130 rfl ?_
      refine cv_icmp_ne (tgt := 138) dX12_judged_131 (by decide) (by omega) (fun h131 => ?_) (fun h131 => ?_)
      · refine cv_iconst dX12_judged_138 ?_
        refine cv_zret rfl dX12_judged_139 ⟨Nat.le_refl _, Nat.le_refl _⟩ (by omega) ⟨q, tm, tr, st, ct_rI (by unfold fCb; rw [if_neg (by omega), if_neg (by omega), if_neg (by omega), if_neg (by omega), if_pos sw]; first | exact (ct_i_t (by omega)).symm | exact (ct_i_f (by omega)).symm), rfl, by unfold fCb; rw [if_neg (by omega), if_neg (by omega), if_neg (by omega), if_neg (by omega), if_pos sw]; exact hV, hst⟩
      · refine cv_iconst dX12_judged_134 ?_
        refine cv_goto (tgt := 139) dX12_judged_135 (by decide) ?_
        refine cv_zret rfl dX12_judged_139 ⟨Nat.le_refl _, Nat.le_refl _⟩ (by omega) ⟨q, tm, tr, st, ct_rI (by unfold fCb; rw [if_neg (by omega), if_neg (by omega), if_neg (by omega), if_neg (by omega), if_pos sw]; first | exact (ct_i_t (by omega)).symm | exact (ct_i_f (by omega)).symm), rfl, by unfold fCb; rw [if_neg (by omega), if_neg (by omega), if_neg (by omega), if_neg (by omega), if_pos sw]; exact hV, hst⟩
  · refine cv_tableIn (tgt := 140) dX12_judged_1 (by omega) (by omega) (by omega) (by rw [sw]; rfl) (by decide) ?_
    refine cv_aload_n dX12_judged_140 rfl ?_
    refine cv_iload_n dX12_judged_141 rfl ?_
    refine cv_sameV (c_X12_isNumber 5 6 T o (upA A 6 q) tm tr p st hT (d / 10 % 10) (by omega)) lkX12_isNumber mlX12_247 dX12_judged_142 (by decide) rfl rfl (by decide) rfl (Nat.le_of_ble_eq_true rfl) ⟨Nat.le_refl _, Nat.le_refl _⟩ ?_
    intro v w1 hq
    obtain ⟨rfl, rfl⟩ := hq
    have i142 := ct_i_r (0 ≤ d / 10 % 10 ∧ d / 10 % 10 < (tN T : Int))
    refine cv_if_eq (tgt := 165) dX12_judged_145 (by decide) (by omega) (fun h145 => ?_) (fun h145 => ?_)
    · have ca : ¬ (0 ≤ d / 10 % 10 ∧ d / 10 % 10 < (tN T : Int)) := ct_i_0.mp (by omega)
      refine cv_iconst dX12_judged_165 ?_
      refine cv_zret rfl dX12_judged_166 ⟨Nat.le_refl _, Nat.le_refl _⟩ (by omega) ⟨q, tm, tr, st, ct_rI (by unfold fCb; rw [if_neg (by omega), if_neg (by omega), if_neg (by omega), if_neg (by omega), if_neg (by omega), if_pos sw]; first | exact (ct_i_t (by omega)).symm | exact (ct_i_f (by omega)).symm), rfl, by unfold fCb; rw [if_neg (by omega), if_neg (by omega), if_neg (by omega), if_neg (by omega), if_neg (by omega), if_pos sw]; exact hV, hst⟩
    · have ca : 0 ≤ d / 10 % 10 ∧ d / 10 % 10 < (tN T : Int) := ct_i_1.mp (by omega)
      have bb := hg.1.2.2.2.2.1 (d / 10 % 10).toNat (by omega)
      refine cv_aload_n dX12_judged_148 rfl ?_
      refine cv_aload_n dX12_judged_149 rfl ?_
      refine cv_getf flX12_25 dX12_judged_150 rfl rfl ?_
      refine cv_iload_n dX12_judged_153 rfl ?_
      refine cv_topi (((d / 10 % 10).toNat : Nat) : Int) (by omega) ?_
      refine cv_tri (c_X12_high 6 5 T o (upA A 6 p) tm tr q st V hT hA hV hI.1.1 (d / 10 % 10).toNat (by omega)) lkX12_high mlX12_127 dX12_judged_154 (by decide) rfl rfl (by decide) rfl (Nat.le_of_ble_eq_true rfl) ⟨Nat.le_refl _, Nat.le_refl _⟩ ?_
      intro v w1 hq
      obtain ⟨rfl, rfl⟩ := hq
      refine ⟨tm, tr, q, st, rfl, ?_⟩
      refine cv_iload_n dX12_judged_157 rfl ?_
      refine cv_icmp_ne (tgt := 165) dX12_judged_158 (by decide) (by omega) (fun h158 => ?_) (fun h158 => ?_)
      · refine cv_iconst dX12_judged_165 ?_
        refine cv_zret rfl dX12_judged_166 ⟨Nat.le_refl _, Nat.le_refl _⟩ (by omega) ⟨q, tm, tr, st, ct_rI (by unfold fCb; rw [if_neg (by omega), if_neg (by omega), if_neg (by omega), if_neg (by omega), if_neg (by omega), if_pos sw]; first | exact (ct_i_t (by omega)).symm | exact (ct_i_f (by omega)).symm), rfl, by unfold fCb; rw [if_neg (by omega), if_neg (by omega), if_neg (by omega), if_neg (by omega), if_neg (by omega), if_pos sw]; exact hV, hst⟩
      · refine cv_iconst dX12_judged_161 ?_
        refine cv_goto (tgt := 166) dX12_judged_162 (by decide) ?_
        refine cv_zret rfl dX12_judged_166 ⟨Nat.le_refl _, Nat.le_refl _⟩ (by omega) ⟨q, tm, tr, st, ct_rI (by unfold fCb; rw [if_neg (by omega), if_neg (by omega), if_neg (by omega), if_neg (by omega), if_neg (by omega), if_pos sw]; first | exact (ct_i_t (by omega)).symm | exact (ct_i_f (by omega)).symm), rfl, by unfold fCb; rw [if_neg (by omega), if_neg (by omega), if_neg (by omega), if_neg (by omega), if_neg (by omega), if_pos sw]; exact hV, hst⟩
  · refine cv_tableIn (tgt := 167) dX12_judged_1 (by omega) (by omega) (by omega) (by rw [sw]; rfl) (by decide) ?_
    refine cv_aload_n dX12_judged_167 rfl ?_
    refine cv_getf flX12_25 dX12_judged_168 rfl rfl ?_
    refine cv_bipush dX12_judged_171 (by decide) ?_
    refine cv_ialj (109) dX12_judged_173 rfl (by omega) (by omega) ?_
    refine cv_topi ((sC V : Nat) : Int) hV.2.2.1 ?_
    refine cv_bipush dX12_judged_174 (by decide) ?_
    refine cv_iload_n dX12_judged_176 rfl ?_
    refine cv_imul dX12_judged_177 ?_
    refine cv_iload_n dX12_judged_178 rfl ?_
    refine cv_iadd dX12_judged_179 ?_
    refine cv_icmp_ne (tgt := 187) dX12_judged_180 (by decide) (by omega) (fun h180 => ?_) (fun h180 => ?_)
    · refine cv_iconst dX12_judged_187 ?_
      refine cv_zret rfl dX12_judged_188 ⟨Nat.le_refl _, Nat.le_refl _⟩ (by omega) ⟨q, tm, tr, st, ct_rI (by unfold fCb; rw [if_neg (by omega), if_neg (by omega), if_neg (by omega), if_neg (by omega), if_neg (by omega), if_neg (by omega), if_pos sw]; first | exact (ct_i_t (by omega)).symm | exact (ct_i_f (by omega)).symm), rfl, by unfold fCb; rw [if_neg (by omega), if_neg (by omega), if_neg (by omega), if_neg (by omega), if_neg (by omega), if_neg (by omega), if_pos sw]; exact hV, hst⟩
    · refine cv_iconst dX12_judged_183 ?_
      refine cv_goto (tgt := 188) dX12_judged_184 (by decide) ?_
      refine cv_zret rfl dX12_judged_188 ⟨Nat.le_refl _, Nat.le_refl _⟩ (by omega) ⟨q, tm, tr, st, ct_rI (by unfold fCb; rw [if_neg (by omega), if_neg (by omega), if_neg (by omega), if_neg (by omega), if_neg (by omega), if_neg (by omega), if_pos sw]; first | exact (ct_i_t (by omega)).symm | exact (ct_i_f (by omega)).symm), rfl, by unfold fCb; rw [if_neg (by omega), if_neg (by omega), if_neg (by omega), if_neg (by omega), if_neg (by omega), if_neg (by omega), if_pos sw]; exact hV, hst⟩
  · refine cv_tableOut (tgt := 189) dX12_judged_1 (by decide) (by omega) (by omega) ?_
    refine cv_iconst dX12_judged_189 ?_
    refine cv_zret rfl dX12_judged_190 ⟨Nat.le_refl _, Nat.le_refl _⟩ (by omega) ⟨q, tm, tr, st, ct_rI (by unfold fCb; rw [if_neg (by omega), if_neg (by omega), if_neg (by omega), if_neg (by omega), if_neg (by omega), if_neg (by omega), if_neg (by omega)]), rfl, by unfold fCb; rw [if_neg (by omega), if_neg (by omega), if_neg (by omega), if_neg (by omega), if_neg (by omega), if_neg (by omega), if_neg (by omega)]; exact hV, hst⟩
set_option maxRecDepth 100000 in
set_option maxHeartbeats 1000000 in
theorem c_X12_thousands (w : List ct_C) (n : Nat) (hn : n ≤ 4) : CM MX12_thousands (0, 0, 0) [vI n] (w) (fun v1 w1 => v1 = some (vL (p1k n)) ∧ w1 = w) := by
  refine CM.of (by decide) (Nat.le_of_ble_eq_true rfl) ?_
  show CV MX12_thousands (0, 0, 0) w.length (0, 0) 0 [(0, vI n)] [] (w) _
  have loop : ∀ (k : Nat) (i : Nat), (n < i + k) → (i ≤ n) → CV MX12_thousands (0, 0, 0) w.length (0, 0) 4 [(0, vI n), (1, vL (p1k i)), (3, vI i)] [] (w) (fun v1 w1 => v1 = some (vL (p1k n)) ∧ w1 = w) := by
    intro k
    induction k with
    | zero => intro i hk hi; exact absurd hk (by omega)
    | succ k ih =>
      intro i hk hi
      refine cv_iload_n dX12_thousands_4 rfl ?_
      refine cv_iload_n dX12_thousands_5 rfl ?_
      refine cv_icmp_ge (tgt := 21) dX12_thousands_6 (by decide) (by omega) (fun h6 => ?_) (fun h6 => ?_)
      · refine cv_lload_n dX12_thousands_21 rfl ?_
        refine cv_lret rfl dX12_thousands_22 ⟨Nat.le_refl _, Nat.le_refl _⟩ ⟨by rw [show i = n by omega], rfl⟩
      · refine cv_lload_n dX12_thousands_9 rfl ?_
        refine cv_ldc2 dX12_thousands_10 kcX12_301 ?_
        refine cv_lmul dX12_thousands_13 ?_
        refine cv_lstore_n dX12_thousands_14 (by decide) rfl rfl ?_
        refine cv_iinc dX12_thousands_15 (by decide) rfl rfl rfl ?_
        refine cv_goto (tgt := 4) dX12_thousands_18 (by decide) ?_
        have := ih (i + 1) (by omega) (by omega)
        rw [p1k_s] at this
        exact this
  refine cv_lconst (v := 1) dX12_thousands_0 (by decide) ?_
  refine cv_lstore_n dX12_thousands_1 (by decide) rfl rfl ?_
  refine cv_iconst dX12_thousands_2 ?_
  refine cv_istore_n dX12_thousands_3 (by decide) rfl rfl ?_
  exact loop (n + 1) 0 (by omega) (by omega)
set_option maxRecDepth 100000 in
set_option maxHeartbeats 1000000 in
theorem c_X12_drawOne (T : ctT) (o : Nat → Int) (A : Nat → Nat → Int) (tm tr : Int) (p q st : Nat → Int) (V : ctS) (hT : okT T) (hA : rT T A) (hV : Rep V q) (hI : I2 T V) (hst : stR st) (a : Int) (ha : 0 ≤ a ∧ a ≤ 2147483647) : CM MX12_drawOne (8, 0, 0) [vR 0, vI a] (wM 5 6 T o (upA A 6 q) tm tr p st) (fun v1 w => ∃ q1 tm1 tr1 st1, v1 = none ∧ w = wM 5 6 T o (upA A 6 q1) tm1 tr1 p st1 ∧ Rep (fDt T V a) q1 ∧ stR st1) := by
  refine CM.of (by decide) (Nat.le_of_ble_eq_true rfl) ?_
  show CV MX12_drawOne (8, 0, 0) 19 (0, 0) 0 [(0, vR 0), (1, vI a)] [] (wM 5 6 T o (upA A 6 q) tm tr p st) _
  have hN := hT.2.1
  have hN1 := hT.1
  have hbr := fBk_r hT (J_g hT hI.1.1).1
  have il := ct_i_r (lnP T V)
  have m1 := Int.emod_nonneg a (show (tN T : Int) ≠ 0 by omega)
  have m2 := Int.emod_lt_of_pos a (show (0 : Int) < (tN T : Int) by omega)
  have hm : okm (mkO (a % (tN T : Int)) (a / 4 % 2) (a / 8 % 10)) := mkO_ok (by omega) (by omega) (by omega)
  have ho : okM T (mkO (a % (tN T : Int)) (a / 4 % 2) (a / 8 % 10)) := by
    have s1 : 0 ≤ a / 4 % 2 ∧ a / 4 % 2 ≤ 1 := by omega
    have s2 : 0 ≤ a / 8 % 10 ∧ a / 8 % 10 ≤ 9 := by omega
    generalize a % (tN T : Int) = x at m1 m2 ⊢
    generalize a / 4 % 2 = s at s1 ⊢
    generalize a / 8 % 10 = g at s2 ⊢
    unfold okM mkO
    omega
  have im := ct_i_r (mkP T V (mkO (a % (tN T : Int)) (a / 4 % 2) (a / 8 % 10)))
  refine cv_aload_n dX12_drawOne_0 rfl ?_
  refine cv_aload_n dX12_drawOne_1 rfl ?_
  refine cv_getf flX12_25 dX12_drawOne_2 rfl rfl ?_
  refine cv_tri (c_X12_breakOf 6 5 T o (upA A 6 p) tm tr q st V hT hA hV hI.1.1) lkX12_breakOf mlX12_176 dX12_drawOne_5 (by decide) rfl rfl (by decide) rfl (Nat.le_of_ble_eq_true rfl) ⟨Nat.le_refl _, Nat.le_refl _⟩ ?_
  intro v w1 hq
  obtain ⟨rfl, rfl⟩ := hq
  refine ⟨tm, tr, q, st, rfl, ?_⟩
  refine cv_bipush dX12_drawOne_8 (by decide) ?_
  refine cv_icmp_eq (tgt := 40) dX12_drawOne_10 (by decide) (by omega) (fun h10 => ?_) (fun h10 => ?_)
  · refine cv_iload_n dX12_drawOne_40 rfl ?_
    refine cv_aload_n dX12_drawOne_41 rfl ?_
    refine cv_getf flX12_65 dX12_drawOne_42 rfl rfl ?_
    refine cv_irem dX12_drawOne_45 (by omega) ?_
    refine cv_iload_n dX12_drawOne_46 rfl ?_
    refine cv_iconst dX12_drawOne_47 ?_
    refine cv_idiv dX12_drawOne_48 (by omega) ?_
    refine cv_iconst dX12_drawOne_49 ?_
    refine cv_irem dX12_drawOne_50 (by omega) ?_
    refine cv_iload_n dX12_drawOne_51 rfl ?_
    refine cv_bipush dX12_drawOne_52 (by decide) ?_
    refine cv_idiv dX12_drawOne_54 (by omega) ?_
    refine cv_bipush dX12_drawOne_55 (by decide) ?_
    refine cv_irem dX12_drawOne_57 (by omega) ?_
    refine cv_sameS (c_X12_codeOf (wM 5 6 T o (upA A 6 q) tm tr p st) (a % (tN T : Int)) (a / 4 % 2) (a / 8 % 10)) lkX12_codeOf mlX12_130 dX12_drawOne_58 (by decide) rfl rfl (Nat.le_of_ble_eq_true rfl) ⟨Nat.le_refl _, Nat.le_refl _⟩ ?_
    intro v w1 hq
    obtain ⟨rfl, rfl⟩ := hq
    refine cv_istore_n dX12_drawOne_61 (by decide) rfl rfl ?_
    refine cv_aload_n dX12_drawOne_62 rfl ?_
    refine cv_aload_n dX12_drawOne_63 rfl ?_
    refine cv_getf flX12_25 dX12_drawOne_64 rfl rfl ?_
    refine cv_iload_n dX12_drawOne_67 rfl ?_
    refine cv_tri (c_X12_mayMake 6 5 T o (upA A 6 p) tm tr q st V hT hA hV hI.1.1 (mkO (a % (tN T : Int)) (a / 4 % 2) (a / 8 % 10)) ho) lkX12_mayMake mlX12_283 dX12_drawOne_68 (by decide) rfl rfl (by decide) rfl (Nat.le_of_ble_eq_true rfl) ⟨Nat.le_refl _, Nat.le_refl _⟩ ?_
    intro v w1 hq
    obtain ⟨rfl, rfl⟩ := hq
    refine ⟨tm, tr, q, st, rfl, ?_⟩
    refine cv_if_eq (tgt := 83) dX12_drawOne_71 (by decide) (by omega) (fun h71 => ?_) (fun h71 => ?_)
    · have cm : ¬ mkP T V (mkO (a % (tN T : Int)) (a / 4 % 2) (a / 8 % 10)) := ct_i_0.mp (by omega)
      refine cv_ret rfl dX12_drawOne_83 ⟨Nat.le_refl _, Nat.le_refl _⟩ ⟨q, tm, tr, st, rfl, rfl, by unfold fDt; rw [if_neg (fun z => z.2 h10), fMade_f cm]; exact hV, hst⟩
    · have cm : mkP T V (mkO (a % (tN T : Int)) (a / 4 % 2) (a / 8 % 10)) := ct_i_1.mp (by omega)
      refine cv_aload_n dX12_drawOne_74 rfl ?_
      refine cv_aload_n dX12_drawOne_75 rfl ?_
      refine cv_getf flX12_25 dX12_drawOne_76 rfl rfl ?_
      refine cv_iload_n dX12_drawOne_79 rfl ?_
      refine cv_tri (c_X12_makeOn 6 5 T o (upA A 6 p) tm tr q st V hT hA hV hI.1.1 (mkO (a % (tN T : Int)) (a / 4 % 2) (a / 8 % 10)) hm cm) lkX12_makeOn mlX12_241 dX12_drawOne_80 (by decide) rfl rfl (by decide) rfl (Nat.le_of_ble_eq_true rfl) ⟨Nat.le_refl _, Nat.le_refl _⟩ ?_
      intro v w1 hq
      obtain ⟨tm1, tr1, q1, rfl, rfl, hq1⟩ := hq
      refine ⟨tm1, tr1, q1, st, rfl, ?_⟩
      refine cv_ret rfl dX12_drawOne_83 ⟨Nat.le_refl _, Nat.le_refl _⟩ ⟨q1, tm1, tr1, st, rfl, rfl, by unfold fDt; rw [if_neg (fun z => z.2 h10)]; exact hq1, hst⟩
  · refine cv_aload_n dX12_drawOne_13 rfl ?_
    refine cv_aload_n dX12_drawOne_14 rfl ?_
    refine cv_getf flX12_25 dX12_drawOne_15 rfl rfl ?_
    refine cv_tri (c_X12_mayLearn 6 5 T o (upA A 6 p) tm tr q st V hT hA hV hI.1.1) lkX12_mayLearn mlX12_289 dX12_drawOne_18 (by decide) rfl rfl (by decide) rfl (Nat.le_of_ble_eq_true rfl) ⟨Nat.le_refl _, Nat.le_refl _⟩ ?_
    intro v w1 hq
    obtain ⟨rfl, rfl⟩ := hq
    refine ⟨tm, tr, q, st, rfl, ?_⟩
    refine cv_if_eq (tgt := 35) dX12_drawOne_21 (by decide) (by omega) (fun h21 => ?_) (fun h21 => ?_)
    · have cl : ¬ lnP T V := ct_i_0.mp (by omega)
      refine cv_iconst dX12_drawOne_35 ?_
      refine cv_istore_n dX12_drawOne_36 (by decide) rfl rfl ?_
      refine cv_goto (tgt := 83) dX12_drawOne_37 (by decide) ?_
      refine cv_ret rfl dX12_drawOne_83 ⟨Nat.le_refl _, Nat.le_refl _⟩ ⟨q, tm, tr, st, rfl, rfl, by unfold fDt; rw [if_neg cl, fMade_f (fun z => h10 z.2.2.2)]; exact hV, hst⟩
    · have cl : lnP T V := ct_i_1.mp (by omega)
      refine cv_aload_n dX12_drawOne_24 rfl ?_
      refine cv_aload_n dX12_drawOne_25 rfl ?_
      refine cv_getf flX12_25 dX12_drawOne_26 rfl rfl ?_
      refine cv_tri (c_X12_learnOn 6 5 T o (upA A 6 p) tm tr q st V hT hA hV hI.1.1 hI.2.1 cl.2) lkX12_learnOn mlX12_238 dX12_drawOne_29 (by decide) rfl rfl (by decide) rfl (Nat.le_of_ble_eq_true rfl) ⟨Nat.le_refl _, Nat.le_refl _⟩ ?_
      intro v w1 hq
      obtain ⟨tm1, tr1, q1, st1, rfl, rfl, hq1, hs1⟩ := hq
      refine ⟨tm1, tr1, q1, st1, rfl, ?_⟩
      refine cv_goto (tgt := 36) dX12_drawOne_32 (by decide) ?_
      refine cv_istore_n dX12_drawOne_36 (by decide) rfl rfl ?_
      refine cv_goto (tgt := 83) dX12_drawOne_37 (by decide) ?_
      refine cv_ret rfl dX12_drawOne_83 ⟨Nat.le_refl _, Nat.le_refl _⟩ ⟨q1, tm1, tr1, st1, rfl, rfl, by unfold fDt; rw [if_pos cl]; exact hq1, hs1⟩
