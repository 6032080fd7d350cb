set_option maxRecDepth 100000 in
set_option maxHeartbeats 1000000 in
theorem c_X12_fault (T : ctT) (S : ctS) (n : Nat) (D : Nat → ctS) (y : ctY) (K : ctK) (sd : Int) (o : Nat → Int) (A : Nat → Nat → Int) (tm tr : Int) (p st : Nat → Int) (hT : okT T) (hI : I2 T S) (hst : stR st) (hM : RM T S n D y K sd o A p)    (hy : y.1 ≤ 60) (hf : okL y.2.1) : CM MX12_fault (3, 0, 0) [vR 0] (wM 5 6 T o A tm tr p st) (fun v1 w => v1 = some (vI (fFt y.1 y.2.1)) ∧ QM T S n D y K sd w) := by
  refine CM.of (by decide) (Nat.le_of_ble_eq_true rfl) ?_
  show CV MX12_fault (3, 0, 0) 19 (0, 0) 0 [(0, vR 0)] [] (wM 5 6 T o A tm tr p st) _
  refine cv_aload_n dX12_fault_0 rfl ?_
  refine cv_sameV (c_X12_readText 5 6 T o A tm tr p st y.1 y.2.1 hy hM.2.2.1.1 hM.2.2.1.2 hf) lkX12_readText mlX12_112 dX12_fault_1 (by decide) rfl rfl (by decide) rfl (Nat.le_of_ble_eq_true rfl) ⟨Nat.le_refl _, Nat.le_refl _⟩ ?_
  intro v w1 hq
  obtain ⟨o1, A1, rfl, rfl, hfr, hri⟩ := hq
  refine cv_iret rfl dX12_fault_4 ⟨Nat.le_refl _, Nat.le_refl _⟩ ⟨rfl, ⟨o1, A1, tm, tr, p, st, rfl, hst, RM_same hM hfr.1 (fun a ha _ => hfr.2 a ha)⟩⟩
theorem ft_r {n : Nat} {f : Nat → Int} : -9 ≤ fFt n f ∧ fFt n f ≤ (n : Int) := by
  unfold fFt
  cases e : ct_first (fun p => ¬ csP f p) n with
  | some p => have := (ct_first_inv e).1; show -9 ≤ (p : Int) ∧ (p : Int) ≤ _; omega
  | none => show -9 ≤ @ite _ (iwP n f) (Classical.propDecidable _) (-9) (n : Int) ∧ @ite _ (iwP n f) (Classical.propDecidable _) (-9) (n : Int) ≤ _; split <;> omega
/-- what the reference has read is the task that the class tells -/
theorem rd_task {T : ctT} {n : Nat} {f o1 : Nat → Int} {A1 : Nat → Nat → Int} (h : RI (fTn f).toNat f (fNr n f) 0 o1 A1) : tN (fTask T n f) = (fTn f).toNat ∧ tR (fTask T n f) = fNr n f ∧ (∀ x, x < (fTn f).toNat → A1 16 x = tT (fTask T n f) x) ∧ (∀ r, r < fNr n f → (∀ x, x < 4 → (if x < (fTn f).toNat then A1 17 (4 * r + x) else 0) = tW (fTask T n f) r x) ∧ A1 18 r = tB (fTask T n f) r) := by
  have hN := fTn_r f
  obtain ⟨q5, q6, q7, q16, q17, -, -, -⟩ := h
  have e2 : tT (fTask T n f) = fTt (tT T) f (fTn f).toNat 4 := fTs_T _ f _
  have e3 : ∀ r, tW (fTask T n f) r = if r < fNr n f then fTw (tW T r) f (2 + (fTn f).toNat + r * ((fTn f).toNat + 4)) (fTn f).toNat 4 else tW T r := fun r => fTs_W _ f _ r
  have e4 : ∀ r, tB (fTask T n f) r = if r < fNr n f then fBd f (2 + (fTn f).toNat + r * ((fTn f).toNat + 4)) (fTn f).toNat else tB T r := fun r => fTs_B _ f _ r
  refine ⟨(fTs_N _ f _).1, (fTs_N _ f _).2, fun x hx => ?_, fun r hr => ⟨fun x hx => ?_, ?_⟩⟩
  · rw [e2, fTt_at _ _ _ 4 x (by omega), if_pos hx]; exact q16 x hx
  · rw [e3, if_pos hr, fTw_at _ _ _ _ 4 x hx]
    by_cases c : x < (fTn f).toNat
    · rw [if_pos c, if_pos c]; exact (q17 r hr).1 x c
    · rw [if_neg c, if_neg c]
  · rw [e4, if_pos hr]; exact (q17 r hr).2
theorem Rep_0 {T : ctT} {S : ctS} {p : Nat → Int} (h : ∀ j, j < 471 → p j = 0) : Rep (fCut T (uC (uH S 0) 0) 0) p := by
  refine ⟨?_, fun i hi => ?_, ?_, fun c hc => ?_, ?_⟩
  · rw [fCut_sZ]; exact h 0 (by omega)
  · rw [fCut_sZ] at hi; exact absurd hi (Nat.not_lt_zero _)
  · rw [fCut_sC]; exact h 109 (by omega)
  · rw [fCut_sC] at hc; exact absurd hc (Nat.not_lt_zero _)
  · rw [fCut_sH]; exact h 470 (by omega)
set_option maxRecDepth 100000 in
set_option maxHeartbeats 1000000 in
theorem c_X12_task (T : ctT) (S : ctS) (n : Nat) (D : Nat → ctS) (y : ctY) (K : ctK) (sd : Int) (o : Nat → Int) (A : Nat → Nat → Int) (tm tr : Int) (p st : Nat → Int) (hT : okT T) (hI : I2 T S) (hst : stR st) (hM : RM T S n D y K sd o A p)    (hy : y.1 ≤ 60) (hf : okL y.2.1) : CM MX12_task (7, 0, 0) [vR 0] (wM 5 6 T o A tm tr p st) (fun v1 w => (fFt y.1 y.2.1 = -9 → v1 = some (vI (tR (fTask T y.1 y.2.1) : Nat)) ∧ QM (fTask T y.1 y.2.1) (fBg (fTask T y.1 y.2.1) S) 0 D y (K.1, K.2.1, fZ K.2.2 2) sd w) ∧ (¬ fFt y.1 y.2.1 = -9 → v1 = some (vI (-3)) ∧ QM T S n D y K sd w)) := by
  refine CM.of (by decide) (Nat.le_of_ble_eq_true rfl) ?_
  show CV MX12_task (7, 0, 0) 19 (0, 0) 0 [(0, vR 0)] [] (wM 5 6 T o A tm tr p st) _
  have fr := ft_r (n := y.1) (f := y.2.1)
  have body : ∀ (T1 : ctT) (o1 : Nat → Int) (A1 : Nat → Nat → Int), T1 = (fTask T y.1 y.2.1) → okT T1 → fFt y.1 y.2.1 = -9 → FR o A o1 A1 → RI (fTn y.2.1).toNat y.2.1 (fNr y.1 y.2.1) 0 o1 A1 → tN T1 = (fTn y.2.1).toNat → tR T1 = fNr y.1 y.2.1 → (∀ x, x < tN T1 → A1 16 x = tT T1 x) → (∀ r, r < tR T1 → (∀ x, x < 4 → (if x < tN T1 then A1 17 (4 * r + x) else 0) = tW T1 r x) ∧ A1 18 r = tB T1 r) → CV MX12_task (7, 0, 0) 19 (0, 0) 28 [(0, vR 0)] [] (wM 5 6 T1 o1 A1 tm tr p st) (fun v1 w => (fFt y.1 y.2.1 = -9 → v1 = some (vI (tR (fTask T y.1 y.2.1) : Nat)) ∧ QM (fTask T y.1 y.2.1) (fBg (fTask T y.1 y.2.1) S) 0 D y (K.1, K.2.1, fZ K.2.2 2) sd w) ∧ (¬ fFt y.1 y.2.1 = -9 → v1 = some (vI (-3)) ∧ QM T S n D y K sd w)) := by
    intro T1 o1 A1 eT hT1 hft hfr hri eN eR hTop hRul
    have hN4 := hT1.2.1
    have hR6 := hT1.2.2.1
    have lC : ∀ (k i : Nat) (q g2 g3 g4 : Nat → Int), 471 < i + k → i ≤ 471 → (∀ j, j < i → q j = 0) → (∀ x, x < tN T1 → g2 x = tT T1 x) → (∀ r, r < tR T1 → (∀ x, x < 4 → g3 (4 * r + x) = tW T1 r x) ∧ g4 r = tB T1 r) → CV MX12_task (7, 0, 0) 19 (0, 0) 131 [(0, vR 0), (1, vI (i : Nat))] [] (wM 5 6 T1 o1 (upA (upA (upA A1 2 g2) 3 g3) 4 g4) tm tr q st) (fun v1 w => (fFt y.1 y.2.1 = -9 → v1 = some (vI (tR (fTask T y.1 y.2.1) : Nat)) ∧ QM (fTask T y.1 y.2.1) (fBg (fTask T y.1 y.2.1) S) 0 D y (K.1, K.2.1, fZ K.2.2 2) sd w) ∧ (¬ fFt y.1 y.2.1 = -9 → v1 = some (vI (-3)) ∧ QM T S n D y K sd w)) := by
      intro k
      induction k with
      | zero => intro i q g2 g3 g4 hk hi hq h2 h3; exact absurd hk (by omega)
      | succ k ih =>
        intro i q g2 g3 g4 hk hi hq h2 h3
        have hrt : rT T1 (upA (upA (upA A1 2 g2) 3 g3) 4 g4) := ⟨fun x hx => h2 x hx, fun r x hr hx => (h3 r hr).1 x hx, fun r hr => (h3 r hr).2⟩
        refine cv_iload_n dX12_task_131 rfl ?_
        refine cv_sipush dX12_task_132 (by decide) ?_
        refine cv_icmp_ge (tgt := 151) dX12_task_135 (by decide) (by omega) (fun h135 => ?_) (fun h135 => ?_)
        · refine cv_aload_n dX12_task_151 rfl ?_
          refine cv_aload_n dX12_task_152 rfl ?_
          refine cv_getf flX12_22 dX12_task_153 rfl rfl ?_
          refine cv_sameV (c_X12_drawIn 5 6 T1 o1 (upA (upA (upA A1 2 g2) 3 g3) 4 g4) tm tr q st (fCut T1 (uC (uH S 0) 0) 0) hT1 hrt (Rep_0 (fun j hj => hq j (by omega))) (J_begin S)) lkX12_drawIn mlX12_191 dX12_task_156 (by decide) rfl rfl (by decide) rfl (Nat.le_of_ble_eq_true rfl) ⟨Nat.le_refl _, Nat.le_refl _⟩ ?_
          intro v w1 hq2
          obtain ⟨tm1, tr1, p1, rfl, rfl, hp1⟩ := hq2
          refine cv_aload_n dX12_task_159 rfl ?_
          refine cv_iconst dX12_task_160 ?_
          refine cv_putf fpX12_195 dX12_task_161 rfl (Nat.le_of_ble_eq_true rfl) (fun _ => ⟨rfl, rfl⟩) ?_
          refine cv_aload_n dX12_task_164 rfl ?_
          refine cv_getf flX12_34 dX12_task_165 rfl rfl ?_
          refine cv_iconst dX12_task_168 ?_
          refine cv_iconst dX12_task_169 ?_
          refine cv_zasj (0) dX12_task_170 rfl (by omega) (by omega) (by omega) ?_
          refine cv_aload_n dX12_task_171 rfl ?_
          refine cv_getf flX12_34 dX12_task_172 rfl rfl ?_
          refine cv_iconst dX12_task_175 ?_
          refine cv_iconst dX12_task_176 ?_
          refine cv_zasj (1) dX12_task_177 rfl (by omega) (by omega) (by omega) ?_
          refine cv_aload_n dX12_task_178 rfl ?_
          refine cv_getf flX12_145 dX12_task_179 rfl rfl ?_
          refine cv_iret rfl dX12_task_182 ⟨Nat.le_refl _, Nat.le_refl _⟩ (by
            refine ⟨fun _ => ⟨by rw [← eT], ?_⟩, fun z => absurd hft z⟩
            rw [← eT]
            refine ⟨upA o1 1 0, (upA (upA (upA (upA A1 2 g2) 3 g3) 4 g4) 9 (ct_up (ct_up (A1 9) 0 0) 1 0)), tm1, tr1, p1, st, rfl, hst, hrt, hp1, ⟨(hfr.1 0 (by omega)).trans hM.2.2.1.1, fun j hj => ?_⟩, ⟨rfl, by omega, ?_, ?_, fun j hj => absurd hj (Nat.not_lt_zero _)⟩, fun s hs => ?_, ⟨(hfr.1 3 (by omega)).trans hM.2.2.2.2.2.1.1, fun j hj => ?_⟩, (hfr.1 4 (by omega)).trans hM.2.2.2.2.2.2⟩
            · show A1 1 j = _
              rw [hfr.2 1 (by omega)]; exact hM.2.2.1.2 j hj
            · show 0 ≤ o1 2
              rw [hfr.1 2 (by omega)]; exact hM.2.2.2.1.2.2.1
            · show o1 2 < 14
              rw [hfr.1 2 (by omega)]; exact hM.2.2.2.1.2.2.2.1
            · show ct_up (ct_up (A1 9) 0 0) 1 0 s = ct_up (ct_up K.2.2 0 0) 1 0 s ∧ (ct_up (ct_up K.2.2 0 0) 1 0 s = 0 ∨ ct_up (ct_up K.2.2 0 0) 1 0 s = 1) ∧ (ct_up (ct_up K.2.2 0 0) 1 0 s = 1 → _)
              rcases (show s = 0 ∨ s = 1 by omega) with rfl | rfl
              · exact ⟨rfl, Or.inl rfl, fun z => absurd z (by show ¬ (0 : Int) = 1; decide)⟩
              · exact ⟨rfl, Or.inl rfl, fun z => absurd z (by show ¬ (0 : Int) = 1; decide)⟩
            · show A1 10 j = _ ∧ A1 11 j = _
              rw [hfr.2 10 (by omega), hfr.2 11 (by omega)]; exact hM.2.2.2.2.2.1.2 j hj)
        · refine cv_aload_n dX12_task_138 rfl ?_
          refine cv_getf flX12_22 dX12_task_139 rfl rfl ?_
          refine cv_iload_n dX12_task_142 rfl ?_
          refine cv_iconst dX12_task_143 ?_
          refine cv_iasj (i) dX12_task_144 rfl (by omega) (by omega) ?_
          refine cv_iinc dX12_task_145 (by decide) rfl rfl rfl ?_
          refine cv_goto (tgt := 131) dX12_task_148 (by decide) ?_
          refine ih (i + 1) (ct_up q i 0) g2 g3 g4 (by omega) (by omega) (fun j hj => ?_) h2 h3
          by_cases e : j = i
          · subst e; rw [ct_up_s]
          · rw [ct_up_n e]; exact hq j (by omega)
    have lB : ∀ (k r : Nat) (g2 g3 g4 : Nat → Int), tR T1 < r + k → r ≤ tR T1 → (∀ x, x < tN T1 → g2 x = tT T1 x) → (∀ r1, r1 < r → (∀ x, x < 4 → g3 (4 * r1 + x) = tW T1 r1 x) ∧ g4 r1 = tB T1 r1) → CV MX12_task (7, 0, 0) 19 (0, 0) 58 [(0, vR 0), (1, vI (r : Nat))] [] (wM 5 6 T1 o1 (upA (upA (upA A1 2 g2) 3 g3) 4 g4) tm tr p st) (fun v1 w => (fFt y.1 y.2.1 = -9 → v1 = some (vI (tR (fTask T y.1 y.2.1) : Nat)) ∧ QM (fTask T y.1 y.2.1) (fBg (fTask T y.1 y.2.1) S) 0 D y (K.1, K.2.1, fZ K.2.2 2) sd w) ∧ (¬ fFt y.1 y.2.1 = -9 → v1 = some (vI (-3)) ∧ QM T S n D y K sd w)) := by
      intro k
      induction k with
      | zero => intro r g2 g3 g4 hk hi h2 h3; exact absurd hk (by omega)
      | succ k ih0 =>
        intro r g2 g3 g4 hk hi h2 h3
        have inner : ∀ (k i : Nat) (g3 g4 : Nat → Int), 4 < i + k → i ≤ 4 → r < tR T1 → (∀ r1, r1 < r → (∀ x, x < 4 → g3 (4 * r1 + x) = tW T1 r1 x) ∧ g4 r1 = tB T1 r1) → g4 r = tB T1 r → (∀ x, x < i → g3 (4 * r + x) = tW T1 r x) → CV MX12_task (7, 0, 0) 19 (0, 0) 80 [(0, vR 0), (1, vI (r : Nat)), (2, vI (i : Nat))] [] (wM 5 6 T1 o1 (upA (upA (upA A1 2 g2) 3 g3) 4 g4) tm tr p st) (fun v1 w => (fFt y.1 y.2.1 = -9 → v1 = some (vI (tR (fTask T y.1 y.2.1) : Nat)) ∧ QM (fTask T y.1 y.2.1) (fBg (fTask T y.1 y.2.1) S) 0 D y (K.1, K.2.1, fZ K.2.2 2) sd w) ∧ (¬ fFt y.1 y.2.1 = -9 → v1 = some (vI (-3)) ∧ QM T S n D y K sd w)) := by
          intro k2
          induction k2 with
          | zero => intro i g3 g4 hk2 hi2 hr h3 h4 h5; exact absurd hk2 (by omega)
          | succ k2 ih =>
            intro i g3 g4 hk2 hi2 hr h3 h4 h5
            have hw := fun h : i < 4 => (hRul r hr).1 i h
            refine cv_iload_n dX12_task_80 rfl ?_
            refine cv_iconst dX12_task_81 ?_
            refine cv_icmp_ge (tgt := 123) dX12_task_82 (by decide) (by omega) (fun h82 => ?_) (fun h82 => ?_)
            · refine cv_iinc dX12_task_123 (by decide) rfl rfl rfl ?_
              refine cv_goto (tgt := 58) dX12_task_126 (by decide) ?_
              refine cv_loc [0, 1] rfl ?_
              refine ih0 (r + 1) g2 g3 g4 (by omega) (by omega) h2 (fun r1 h1 => ?_)
              rcases Nat.lt_succ_iff_lt_or_eq.mp h1 with q | q
              · exact h3 r1 q
              · subst q; exact ⟨fun x hx => h5 x (by omega), h4⟩
            · refine cv_aload_n dX12_task_85 rfl ?_
              refine cv_getf flX12_16 dX12_task_86 rfl rfl ?_
              refine cv_iconst dX12_task_89 ?_
              refine cv_iload_n dX12_task_90 rfl ?_
              refine cv_imul dX12_task_91 ?_
              refine cv_iload_n dX12_task_92 rfl ?_
              refine cv_iadd dX12_task_93 ?_
              refine cv_iload_n dX12_task_94 rfl ?_
              refine cv_aload_n dX12_task_95 rfl ?_
              refine cv_getf flX12_65 dX12_task_96 rfl rfl ?_
              refine cv_icmp_ge (tgt := 115) dX12_task_99 (by decide) (by omega) (fun h99 => ?_) (fun h99 => ?_)
              · refine cv_iconst dX12_task_115 ?_
                refine cv_iasj (4 * r + i) dX12_task_116 rfl (by omega) (by omega) ?_
                refine cv_iinc dX12_task_117 (by decide) rfl rfl rfl ?_
                refine cv_goto (tgt := 80) dX12_task_120 (by decide) ?_
                refine ih (i + 1) (ct_up g3 (4 * r + i) (0)) g4 (by omega) (by omega) hr (fun r1 h1 => ⟨fun x hx => ?_, (h3 r1 h1).2⟩) h4 (fun x hx => ?_)
                · rw [ct_up_n (by omega)]; exact (h3 r1 h1).1 x hx
                · by_cases e : x = i
                  · subst e
                    rw [ct_up_s, ← hw (by omega), if_neg (by omega)]
                  · rw [ct_up_n (by omega)]; exact h5 x (by omega)
              · refine cv_aload_n dX12_task_102 rfl ?_
                refine cv_getf flX12_59 dX12_task_103 rfl rfl ?_
                refine cv_iconst dX12_task_106 ?_
                refine cv_iload_n dX12_task_107 rfl ?_
                refine cv_imul dX12_task_108 ?_
                refine cv_iload_n dX12_task_109 rfl ?_
                refine cv_iadd dX12_task_110 ?_
                refine cv_ialj (4 * r + i) dX12_task_111 rfl (by omega) (by omega) ?_
                refine cv_goto (tgt := 116) dX12_task_112 (by decide) ?_
                refine cv_iasj (4 * r + i) dX12_task_116 rfl (by omega) (by omega) ?_
                refine cv_iinc dX12_task_117 (by decide) rfl rfl rfl ?_
                refine cv_goto (tgt := 80) dX12_task_120 (by decide) ?_
                refine ih (i + 1) (ct_up g3 (4 * r + i) (A1 17 (4 * r + i))) g4 (by omega) (by omega) hr (fun r1 h1 => ⟨fun x hx => ?_, (h3 r1 h1).2⟩) h4 (fun x hx => ?_)
                · rw [ct_up_n (by omega)]; exact (h3 r1 h1).1 x hx
                · by_cases e : x = i
                  · subst e
                    rw [ct_up_s, ← hw (by omega), if_pos (by omega)]
                  · rw [ct_up_n (by omega)]; exact h5 x (by omega)
        refine cv_iload_n dX12_task_58 rfl ?_
        refine cv_aload_n dX12_task_59 rfl ?_
        refine cv_getf flX12_145 dX12_task_60 rfl rfl ?_
        refine cv_icmp_ge (tgt := 129) dX12_task_63 (by decide) (by omega) (fun h63 => ?_) (fun h63 => ?_)
        · refine cv_iconst dX12_task_129 ?_
          refine cv_istore_n dX12_task_130 (by decide) rfl rfl ?_
          exact lC 472 0 p g2 g3 g4 (by omega) (by omega) (fun j hj => absurd hj (Nat.not_lt_zero _)) h2 (fun r1 h1 => h3 r1 (by omega))
        · refine cv_aload_n dX12_task_66 rfl ?_
          refine cv_getf flX12_19 dX12_task_67 rfl rfl ?_
          refine cv_iload_n dX12_task_70 rfl ?_
          refine cv_aload_n dX12_task_71 rfl ?_
          refine cv_getf flX12_62 dX12_task_72 rfl rfl ?_
          refine cv_iload_n dX12_task_75 rfl ?_
          refine cv_ialj (r) dX12_task_76 rfl (by omega) (by omega) ?_
          refine cv_iasj (r) dX12_task_77 rfl (by omega) (by omega) ?_
          refine cv_iconst dX12_task_78 ?_
          refine cv_istore_n dX12_task_79 (by decide) rfl rfl ?_
          refine inner 5 0 g3 (ct_up g4 r (A1 18 r)) (by omega) (by omega) (by omega) (fun r1 h1 => ⟨(h3 r1 h1).1, by rw [ct_up_n (by omega)]; exact (h3 r1 h1).2⟩) (by rw [ct_up_s]; exact (hRul r (by omega)).2) (fun x hx => absurd hx (Nat.not_lt_zero _))
    have lA : ∀ (k i : Nat) (g2 : Nat → Int), tN T1 < i + k → i ≤ tN T1 → (∀ x, x < i → g2 x = tT T1 x) → CV MX12_task (7, 0, 0) 19 (0, 0) 30 [(0, vR 0), (1, vI (i : Nat))] [] (wM 5 6 T1 o1 (upA (upA (upA A1 2 g2) 3 (A1 3)) 4 (A1 4)) tm tr p st) (fun v1 w => (fFt y.1 y.2.1 = -9 → v1 = some (vI (tR (fTask T y.1 y.2.1) : Nat)) ∧ QM (fTask T y.1 y.2.1) (fBg (fTask T y.1 y.2.1) S) 0 D y (K.1, K.2.1, fZ K.2.2 2) sd w) ∧ (¬ fFt y.1 y.2.1 = -9 → v1 = some (vI (-3)) ∧ QM T S n D y K sd w)) := by
      intro k
      induction k with
      | zero => intro i g2 hk hi h2; exact absurd hk (by omega)
      | succ k ih =>
        intro i g2 hk hi h2
        refine cv_iload_n dX12_task_30 rfl ?_
        refine cv_aload_n dX12_task_31 rfl ?_
        refine cv_getf flX12_65 dX12_task_32 rfl rfl ?_
        refine cv_icmp_ge (tgt := 56) dX12_task_35 (by decide) (by omega) (fun h35 => ?_) (fun h35 => ?_)
        · refine cv_iconst dX12_task_56 ?_
          refine cv_istore_n dX12_task_57 (by decide) rfl rfl ?_
          exact lB (tR T1 + 1) 0 g2 (A1 3) (A1 4) (by omega) (by omega) (fun x hx => h2 x (by omega)) (fun r1 h1 => absurd h1 (Nat.not_lt_zero _))
        · refine cv_aload_n dX12_task_38 rfl ?_
          refine cv_getf flX12_13 dX12_task_39 rfl rfl ?_
          refine cv_iload_n dX12_task_42 rfl ?_
          refine cv_aload_n dX12_task_43 rfl ?_
          refine cv_getf flX12_56 dX12_task_44 rfl rfl ?_
          refine cv_iload_n dX12_task_47 rfl ?_
          refine cv_ialj (i) dX12_task_48 rfl (by omega) (by omega) ?_
          refine cv_iasj (i) dX12_task_49 rfl (by omega) (by omega) ?_
          refine cv_iinc dX12_task_50 (by decide) rfl rfl rfl ?_
          refine cv_goto (tgt := 30) dX12_task_53 (by decide) ?_
          refine ih (i + 1) (ct_up g2 i (A1 16 i)) (by omega) (by omega) (fun x hx => ?_)
          by_cases e : x = i
          · subst e; rw [ct_up_s]; exact hTop x (by omega)
          · rw [ct_up_n e]; exact h2 x (by omega)
    refine cv_iconst dX12_task_28 ?_
    refine cv_istore_n dX12_task_29 (by decide) rfl rfl ?_
    exact lA (tN T1 + 1) 0 (A1 2) (by omega) (by omega) (fun x hx => absurd hx (Nat.not_lt_zero _))
  refine cv_aload_n dX12_task_0 rfl ?_
  refine cv_sameV (c_X12_readText 5 6 T o A tm tr p st y.1 y.2.1 hy hM.2.2.1.1 hM.2.2.1.2 hf) lkX12_readText mlX12_112 dX12_task_1 (by decide) rfl rfl (by decide) rfl (Nat.le_of_ble_eq_true rfl) ⟨Nat.le_refl _, Nat.le_refl _⟩ ?_
  intro v w1 hq
  obtain ⟨o1, A1, rfl, rfl, hfr, hri⟩ := hq
  refine cv_bipush dX12_task_4 (by decide) ?_
  refine cv_icmp_eq (tgt := 12) dX12_task_6 (by decide) (by omega) (fun h6 => ?_) (fun h6 => ?_)
  · have hri := hri h6
    obtain ⟨t1, t2, t3, t4⟩ := rd_task (T := T) hri
    refine cv_aload_n dX12_task_12 rfl ?_
    refine cv_aload_n dX12_task_13 rfl ?_
    refine cv_getf flX12_78 dX12_task_14 rfl rfl ?_
    refine cv_topi ((tN (fTask T y.1 y.2.1) : Nat) : Int) (by rw [t1]; exact hri.1) ?_
    refine cv_putf fpX12_65 dX12_task_17 rfl (Nat.le_of_ble_eq_true rfl) (fun _ => ⟨rfl, rfl⟩) ?_
    refine cv_aload_n dX12_task_20 rfl ?_
    refine cv_aload_n dX12_task_21 rfl ?_
    refine cv_getf flX12_88 dX12_task_22 rfl rfl ?_
    refine cv_topi ((tR (fTask T y.1 y.2.1) : Nat) : Int) (by rw [t2]; exact hri.2.1) ?_
    refine cv_putf fpX12_145 dX12_task_25 rfl (Nat.le_of_ble_eq_true rfl) (fun _ => ⟨rfl, rfl⟩) ?_
    exact body (fTask T y.1 y.2.1) o1 A1 rfl (task_ok hT h6) h6 hfr hri t1 t2 (by rw [t1]; exact t3) (by rw [t1, t2]; exact t4)
  · refine cv_bipush dX12_task_9 (by decide) ?_
    refine cv_iret rfl dX12_task_11 ⟨Nat.le_refl _, Nat.le_refl _⟩ ⟨fun z => absurd z h6, fun _ => ⟨rfl, ⟨o1, A1, tm, tr, p, st, rfl, hst, RM_same hM hfr.1 (fun a ha _ => hfr.2 a ha)⟩⟩⟩
