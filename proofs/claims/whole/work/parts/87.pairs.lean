/-! THE TWO GO TOGETHER: each call, both answers the same, both states as before -/
def CI (T : ctT) (S : ctS) (n : Nat) (P : Nat → Nat) (A : Nat → ctS) (y : ctY) (c : ctW) (k : ctK) : Prop := okT T ∧ I2 T S ∧ n ≤ 14 ∧ (∀ i, i < 14 → P i < 14) ∧ (∀ i j, i < 14 → j < 14 → P i = P j → i = j) ∧ (∀ i, i < 14 → wk (A i)) ∧ (∀ i, i < n → I2 T (A (P i))) ∧ okY y ∧ okL y.2.1 ∧ okW T c.1 c.2 ∧ wk k.1 ∧ wk k.2.1 ∧ (∀ s, s < 2 → k.2.2 s = 0 ∨ k.2.2 s = 1) ∧ (∀ s, s < 2 → k.2.2 s = 1 → I2 T (kS k s))
def JI (wX w2 : List ct_C) : Prop := ∃ (T : ctT) (S : ctS) (n : Nat) (P : Nat → Nat) (A : Nat → ctS) (V : ctS) (x : ctX) (y : ctY) (c : ctW) (k : ctK) (sd : Int), CI T S n P A y c k ∧ wX = wTop T S n P A V x y c k sd ∧ QM T S n (fun i => A (P i)) y k sd w2
theorem mkJ {T : ctT} {S : ctS} {n : Nat} {P : Nat → Nat} {A : Nat → ctS} {V : ctS} {x : ctX} {y : ctY} {c : ctW} {k : ctK} {sd : Int} {w2 : List ct_C} (h : CI T S n P A y c k) (hq : QM T S n (fun i => A (P i)) y k sd w2) : JI (wTop T S n P A V x y c k sd) w2 := ⟨T, S, n, P, A, V, x, y, c, k, sd, h, rfl, hq⟩
set_option maxRecDepth 100000 in
theorem wTop_l (T : ctT) (S : ctS) (n : Nat) (P : Nat → Nat) (A : Nat → ctS) (V : ctS) (x : ctX) (y : ctY) (c : ctW) (k : ctK) (sd : Int) : (wTop T S n P A V x y c k sd).length = 209 := rfl
theorem len_of {w : List ct_C} {T : ctT} {S : ctS} {n : Nat} {P : Nat → Nat} {A : Nat → ctS} {V : ctS} {x : ctX} {y : ctY} {c : ctW} {k : ctK} {sd : Int} (h : w = wTop T S n P A V x y c k sd) : w.length = 209 := by rw [h]; exact wTop_l _ _ _ _ _ _ _ _ _ _ _
theorem QM_l {T : ctT} {S : ctS} {n : Nat} {D : Nat → ctS} {y : ctY} {k : ctK} {sd : Int} {w : List ct_C} (h : QM T S n D y k sd w) : w.length = 19 := by
  obtain ⟨o, A, tm, tr, p, st, rfl, -⟩ := h
  rfl
theorem wM_l (u v : Nat) (T : ctT) (o : Nat → Int) (A : Nat → Nat → Int) (tm tr : Int) (p st : Nat → Int) : (wM u v T o A tm tr p st).length = 19 := rfl
def PR (MX M2 : ct_M) (d dm : Nat) (avs : List ct_V) (wX w2 : List ct_C) (g : Int → ct_V) : Prop := ∃ (QX Q2 : Option ct_V → List ct_C → Prop), CM MX (d, 0, 0) (vR 165 :: avs) wX QX ∧ CM M2 (dm, 0, 0) (vR 0 :: avs) w2 Q2 ∧ (∀ v w1, QX v w1 → w1.length = wX.length ∧ ∃ x : Int, v = some (g x)) ∧ (∀ v w1, Q2 v w1 → w1.length = w2.length) ∧ ∀ v1 w1 v2 w3, QX v1 w1 → Q2 v2 w3 → (∃ x : Int, v1 = some (g x) ∧ v2 = some (g x)) ∧ JI w1 w3
theorem J_wk {T : ctT} {S : ctS} (hT : okT T) (h : J T S) : wk S := ⟨(J_g hT h).1.1, h.2.1.2.2.1, h.2.1.2.2.2.2.2⟩
theorem CI_now {T : ctT} {S S1 : ctS} {n : Nat} {P : Nat → Nat} {A : Nat → ctS} {y : ctY} {c : ctW} {k : ctK} (h : CI T S n P A y c k) (h1 : I2 T S1) : CI T S1 n P A y c k := ⟨h.1, h1, h.2.2⟩
theorem fAp_l {n : Nat} {P : Nat → Nat} (hP : ∀ i, i < 14 → P i < 14) : ∀ i, i < 14 → fAp n P i < 14 := fun i hi => by
  unfold fAp
  split
  · exact hP i hi
  · unfold rot
    split
    · exact hP _ (by omega)
    · exact hP 0 (by omega)
theorem fAp_i {n : Nat} {P : Nat → Nat} (hP : ∀ i j, i < 14 → j < 14 → P i = P j → i = j) : ∀ i j, i < 14 → j < 14 → fAp n P i = fAp n P j → i = j := fun i j hi hj h => by
  unfold fAp at h
  split at h
  · exact hP i j hi hj h
  · unfold rot at h
    by_cases a : i < 13
    · by_cases b : j < 13
      · rw [if_pos a, if_pos b] at h
        have := hP _ _ (by omega) (by omega) h
        omega
      · rw [if_pos a, if_neg b] at h
        have := hP _ _ (by omega) (by omega) h
        omega
    · by_cases b : j < 13
      · rw [if_neg a, if_pos b] at h
        have := hP _ _ (by omega) (by omega) h
        omega
      · omega
theorem fAi_r {n : Nat} (hn : n ≤ 14) : fAi n ≤ 13 ∧ (n < 14 → fAi n = n) ∧ (¬ n < 14 → fAi n = 13) := by unfold fAi; split <;> omega
/-- the acts, one more -/
theorem D_new {S : ctS} {n : Nat} {P : Nat → Nat} {A : Nat → ctS} : gRm S n P A (fAp n P (fAi n)) = fCp (A (fAp n P (fAi n))) S := by
  unfold gRm
  exact upA_s
theorem D_old {S : ctS} {n : Nat} {P : Nat → Nat} {A : Nat → ctS} (hn : n ≤ 14) (hPi : ∀ i j, i < 14 → j < 14 → P i = P j → i = j) (i : Nat) (hi : i < fAi n) : gRm S n P A (fAp n P i) = A (P (if n < 14 then i else i + 1)) := by
  have hr := fAi_r hn
  unfold gRm
  rw [upA_n (fun z => by have := fAp_i hPi i (fAi n) (by omega) (by omega) z; omega)]
  unfold fAp
  split
  · rfl
  · unfold rot
    rw [if_pos (by omega)]
theorem CI_note {T : ctT} {S S1 : ctS} {n : Nat} {P : Nat → Nat} {A : Nat → ctS} {y : ctY} {c : ctW} {k : ctK} (h : CI T S n P A y c k) (h1 : I2 T S1) : CI T S1 (fAi n + 1) (fAp n P) (gRm S n P A) y c k := by
  obtain ⟨hT, hS, hn, hP, hPi, hA, hD, hr⟩ := h
  have hf := fAi_r hn
  have hg := (I2_good hT).2 S hS
  refine ⟨hT, h1, by omega, fAp_l hP, fAp_i hPi, fun i hi => ?_, fun i hi => ?_, hr⟩
  · unfold gRm
    by_cases e : i = fAp n P (fAi n)
    · rw [e, upA_s]
      exact J_wk hT (hg.2.2.2.2 _).1.1
    · rw [upA_n e]; exact hA i hi
  · by_cases e : i = fAi n
    · rw [e, D_new]; exact hg.2.2.2.2 _
    · rw [D_old hn hPi i (by omega)]
      refine hD _ ?_
      split <;> omega
theorem pr_write {wX w2 : List ct_C} (h : JI wX w2) (a : Int) (ar : -2147483648 ≤ a ∧ a ≤ 2147483647)  : PR MX11_write MX12_write 1 1 [vI a] wX w2 vI := by
  obtain ⟨T, S, n, P, A, V, x, y, c, k, sd, hI, rfl, o, A', tm, tr, p, st, rfl, hst, hM⟩ := h
  obtain ⟨hT, hS, hn, hP, hPi, hA, hD, hY, hL, hW, hk0, hk1, hkf, hkI⟩ := id hI
  have hg := (I2_good hT).2 S hS
  refine ⟨_, _, c_X11_write T S n P A V x y c k sd a ar hY.1, c_X12_write T S n (fun i => A (P i)) y k sd o A' tm tr p st hT hS hst hM a ar hY.1, fun v w1 h => ⟨(len_of h.2).trans (wTop_l _ _ _ _ _ _ _ _ _ _ _).symm, _, h.1⟩, fun v w1 h => (QM_l h.2).trans (wM_l _ _ _ _ _ _ _ _ _).symm, fun v1 w1 v2 w3 h1 h2 => ?_⟩
  obtain ⟨rfl, rfl⟩ := h1
  obtain ⟨rfl, hq⟩ := h2
  refine ⟨⟨_, rfl, rfl⟩, mkJ ⟨hT, hS, hn, hP, hPi, hA, hD, ?_, ?_, hW, hk0, hk1, hkf, hkI⟩ hq⟩
  · unfold gWr
    split
    · exact hY
    · split
      · exact hY
      · exact ⟨by show y.1 + 1 ≤ 60; omega, hY.2⟩
  · unfold gWr
    split
    · exact hL
    · split
      · exact hL
      · intro i hi
        show 0 ≤ ct_up y.2.1 y.1 a i ∧ ct_up y.2.1 y.1 a i ≤ 255
        by_cases e : i = y.1
        · subst e; rw [ct_up_s]; omega
        · rw [ct_up_n e]; exact hL i hi
theorem pr_wipe {wX w2 : List ct_C} (h : JI wX w2)   : PR MX11_wipe MX12_wipe 0 0 [] wX w2 vI := by
  obtain ⟨T, S, n, P, A, V, x, y, c, k, sd, hI, rfl, o, A', tm, tr, p, st, rfl, hst, hM⟩ := h
  obtain ⟨hT, hS, hn, hP, hPi, hA, hD, hY, hL, hW, hk0, hk1, hkf, hkI⟩ := id hI
  have hg := (I2_good hT).2 S hS
  refine ⟨_, _, c_X11_wipe T S n P A V x y c k sd , c_X12_wipe T S n (fun i => A (P i)) y k sd o A' tm tr p st hT hS hst hM , fun v w1 h => ⟨(len_of h.2).trans (wTop_l _ _ _ _ _ _ _ _ _ _ _).symm, _, h.1⟩, fun v w1 h => (QM_l h.2).trans (wM_l _ _ _ _ _ _ _ _ _).symm, fun v1 w1 v2 w3 h1 h2 => ?_⟩
  obtain ⟨rfl, rfl⟩ := h1
  obtain ⟨rfl, hq⟩ := h2
  exact ⟨⟨_, rfl, rfl⟩, mkJ ⟨hT, hS, hn, hP, hPi, hA, hD, ⟨by show 0 ≤ 60; omega, hY.2⟩, hL, hW, hk0, hk1, hkf, hkI⟩ hq⟩
theorem pr_fault {wX w2 : List ct_C} (h : JI wX w2)   : PR MX11_fault MX12_fault 4 3 [] wX w2 vI := by
  obtain ⟨T, S, n, P, A, V, x, y, c, k, sd, hI, rfl, o, A', tm, tr, p, st, rfl, hst, hM⟩ := h
  obtain ⟨hT, hS, hn, hP, hPi, hA, hD, hY, hL, hW, hk0, hk1, hkf, hkI⟩ := id hI
  have hg := (I2_good hT).2 S hS
  refine ⟨_, _, c_X11_fault T S n P A V x y c k sd hL hY.1, c_X12_fault T S n (fun i => A (P i)) y k sd o A' tm tr p st hT hS hst hM hY.1 hL, fun v w1 h => ⟨(len_of h.2).trans (wTop_l _ _ _ _ _ _ _ _ _ _ _).symm, _, h.1⟩, fun v w1 h => (QM_l h.2).trans (wM_l _ _ _ _ _ _ _ _ _).symm, fun v1 w1 v2 w3 h1 h2 => ?_⟩
  obtain ⟨rfl, rfl⟩ := h1
  obtain ⟨rfl, hq⟩ := h2
  exact ⟨⟨_, rfl, rfl⟩, mkJ hI hq⟩
theorem pr_task {wX w2 : List ct_C} (h : JI wX w2)   : PR MX11_task MX12_task 5 7 [] wX w2 vI := by
  obtain ⟨T, S, n, P, A, V, x, y, c, k, sd, hI, rfl, o, A', tm, tr, p, st, rfl, hst, hM⟩ := h
  obtain ⟨hT, hS, hn, hP, hPi, hA, hD, hY, hL, hW, hk0, hk1, hkf, hkI⟩ := id hI
  have hg := (I2_good hT).2 S hS
  refine ⟨_, _, c_X11_task T S n P A V x y c k sd hL hY.1 (goodB_ok hT S y), c_X12_task T S n (fun i => A (P i)) y k sd o A' tm tr p st hT hS hst hM hY.1 hL, (fun v w1 h => by
    by_cases z : fFt y.1 y.2.1 = -9
    · have hl := h.1 z; exact ⟨(len_of hl.2).trans (wTop_l _ _ _ _ _ _ _ _ _ _ _).symm, _, hl.1⟩
    · have hl := h.2 z; exact ⟨(len_of hl.2).trans (wTop_l _ _ _ _ _ _ _ _ _ _ _).symm, _, hl.1⟩), (fun v w1 h => by
    by_cases z : fFt y.1 y.2.1 = -9
    · exact (QM_l (h.1 z).2).trans (wM_l _ _ _ _ _ _ _ _ _).symm
    · exact (QM_l (h.2 z).2).trans (wM_l _ _ _ _ _ _ _ _ _).symm), fun v1 w1 v2 w3 h1 h2 => ?_⟩
  by_cases z : fFt y.1 y.2.1 = -9
  · obtain ⟨rfl, rfl⟩ := h1.1 z
    obtain ⟨rfl, hq⟩ := h2.1 z
    have hT1 := task_ok hT z
    refine ⟨⟨_, rfl, rfl⟩, mkJ ⟨hT1, I2_bg hT1 S, by omega, hP, hPi, hA, fun i hi => absurd hi (Nat.not_lt_zero _), hY, hL, Or.inl rfl, hk0, hk1, fun s hs => Or.inl ?_, fun s hs q => ?_⟩ ⟨_, _, _, _, _, _, hq.choose_spec.choose_spec.choose_spec.choose_spec.choose_spec.choose_spec.1, hq.choose_spec.choose_spec.choose_spec.choose_spec.choose_spec.choose_spec.2⟩⟩
    · show fZ k.2.2 2 s = 0
      rw [fZ_at, if_pos hs]
    · exfalso
      have q' : fZ k.2.2 2 s = 1 := q
      rw [fZ_at, if_pos hs] at q'
      omega
  · obtain ⟨rfl, rfl⟩ := h1.2 z
    obtain ⟨rfl, hq⟩ := h2.2 z
    exact ⟨⟨_, rfl, rfl⟩, mkJ hI hq⟩
theorem pr_about {wX w2 : List ct_C} (h : JI wX w2) (a : Int) (ar : -2147483648 ≤ a ∧ a ≤ 2147483647)  : PR MX11_about MX12_about 4 6 [vI a] wX w2 vI := by
  obtain ⟨T, S, n, P, A, V, x, y, c, k, sd, hI, rfl, o, A', tm, tr, p, st, rfl, hst, hM⟩ := h
  obtain ⟨hT, hS, hn, hP, hPi, hA, hD, hY, hL, hW, hk0, hk1, hkf, hkI⟩ := id hI
  have hg := (I2_good hT).2 S hS
  refine ⟨_, _, c_X11_about T S n P A V x y c k sd a ar hT hg.1.1, c_X12_about T S n (fun i => A (P i)) y k sd o A' tm tr p st hT hS hst hM a ar hY, fun v w1 h => by obtain ⟨x1, h1, rfl⟩ := h; exact ⟨(wTop_l _ _ _ _ _ _ _ _ _ _ _).trans (wTop_l _ _ _ _ _ _ _ _ _ _ _).symm, _, h1⟩, fun v w1 h => (QM_l h.2).trans (wM_l _ _ _ _ _ _ _ _ _).symm, fun v1 w1 v2 w3 h1 h2 => ?_⟩
  obtain ⟨x1, rfl, rfl⟩ := h1
  obtain ⟨rfl, hq⟩ := h2
  exact ⟨⟨_, rfl, rfl⟩, mkJ hI hq⟩
theorem pr_number {wX w2 : List ct_C} (h : JI wX w2) (a : Int) (ar : -2147483648 ≤ a ∧ a ≤ 2147483647) (b : Int) (br : -2147483648 ≤ b ∧ b ≤ 2147483647)  : PR MX11_number MX12_number 4 4 [vI a, vI b] wX w2 vI := by
  obtain ⟨T, S, n, P, A, V, x, y, c, k, sd, hI, rfl, o, A', tm, tr, p, st, rfl, hst, hM⟩ := h
  obtain ⟨hT, hS, hn, hP, hPi, hA, hD, hY, hL, hW, hk0, hk1, hkf, hkI⟩ := id hI
  have hg := (I2_good hT).2 S hS
  refine ⟨_, _, c_X11_number T S n P A V x y c k sd a b ar br hT, c_X12_number T S n (fun i => A (P i)) y k sd o A' tm tr p st hT hS hst hM a b ar br, fun v w1 h => by obtain ⟨x1, h1, rfl⟩ := h; exact ⟨(wTop_l _ _ _ _ _ _ _ _ _ _ _).trans (wTop_l _ _ _ _ _ _ _ _ _ _ _).symm, _, h1⟩, fun v w1 h => (QM_l h.2).trans (wM_l _ _ _ _ _ _ _ _ _).symm, fun v1 w1 v2 w3 h1 h2 => ?_⟩
  obtain ⟨x1, rfl, rfl⟩ := h1
  obtain ⟨rfl, hq⟩ := h2
  exact ⟨⟨_, rfl, rfl⟩, mkJ hI hq⟩
theorem pr_rule {wX w2 : List ct_C} (h : JI wX w2) (a : Int) (ar : -2147483648 ≤ a ∧ a ≤ 2147483647) (b : Int) (br : -2147483648 ≤ b ∧ b ≤ 2147483647)  : PR MX11_rule MX12_rule 1 3 [vI a, vI b] wX w2 vI := by
  obtain ⟨T, S, n, P, A, V, x, y, c, k, sd, hI, rfl, o, A', tm, tr, p, st, rfl, hst, hM⟩ := h
  obtain ⟨hT, hS, hn, hP, hPi, hA, hD, hY, hL, hW, hk0, hk1, hkf, hkI⟩ := id hI
  have hg := (I2_good hT).2 S hS
  refine ⟨_, _, c_X11_rule T S n P A V x y c k sd a b ar br hT hg.1.1, c_X12_rule T S n (fun i => A (P i)) y k sd o A' tm tr p st hT hS hst hM a b ar br, fun v w1 h => ⟨(len_of h.2).trans (wTop_l _ _ _ _ _ _ _ _ _ _ _).symm, _, h.1⟩, fun v w1 h => (QM_l h.2).trans (wM_l _ _ _ _ _ _ _ _ _).symm, fun v1 w1 v2 w3 h1 h2 => ?_⟩
  obtain ⟨rfl, rfl⟩ := h1
  obtain ⟨rfl, hq⟩ := h2
  exact ⟨⟨_, rfl, rfl⟩, mkJ hI hq⟩
theorem pr_mark {wX w2 : List ct_C} (h : JI wX w2) (a : Int) (ar : -2147483648 ≤ a ∧ a ≤ 2147483647) (b : Int) (br : -2147483648 ≤ b ∧ b ≤ 2147483647)  : PR MX11_mark MX12_mark 5 4 [vI a, vI b] wX w2 vI := by
  obtain ⟨T, S, n, P, A, V, x, y, c, k, sd, hI, rfl, o, A', tm, tr, p, st, rfl, hst, hM⟩ := h
  obtain ⟨hT, hS, hn, hP, hPi, hA, hD, hY, hL, hW, hk0, hk1, hkf, hkI⟩ := id hI
  have hg := (I2_good hT).2 S hS
  refine ⟨_, _, c_X11_mark T S n P A V x y c k sd a b ar br hT hg.1.1, c_X12_mark T S n (fun i => A (P i)) y k sd o A' tm tr p st hT hS hst hM a b ar br x.2.1, fun v w1 h => by obtain ⟨x1, h1, rfl⟩ := h; exact ⟨(wTop_l _ _ _ _ _ _ _ _ _ _ _).trans (wTop_l _ _ _ _ _ _ _ _ _ _ _).symm, _, h1⟩, fun v w1 h => (QM_l h.2).trans (wM_l _ _ _ _ _ _ _ _ _).symm, fun v1 w1 v2 w3 h1 h2 => ?_⟩
  obtain ⟨x1, rfl, rfl⟩ := h1
  obtain ⟨rfl, hq⟩ := h2
  exact ⟨⟨_, rfl, rfl⟩, mkJ hI hq⟩
theorem pr_cut {wX w2 : List ct_C} (h : JI wX w2) (a : Int) (ar : -2147483648 ≤ a ∧ a ≤ 2147483647) (b : Int) (br : -2147483648 ≤ b ∧ b ≤ 2147483647)  : PR MX11_cut MX12_cut 1 2 [vI a, vI b] wX w2 vI := by
  obtain ⟨T, S, n, P, A, V, x, y, c, k, sd, hI, rfl, o, A', tm, tr, p, st, rfl, hst, hM⟩ := h
  obtain ⟨hT, hS, hn, hP, hPi, hA, hD, hY, hL, hW, hk0, hk1, hkf, hkI⟩ := id hI
  have hg := (I2_good hT).2 S hS
  refine ⟨_, _, c_X11_cut T S n P A V x y c k sd a b ar br hg.1.1, c_X12_cut T S n (fun i => A (P i)) y k sd o A' tm tr p st hT hS hst hM a b ar br, fun v w1 h => ⟨(len_of h.2).trans (wTop_l _ _ _ _ _ _ _ _ _ _ _).symm, _, h.1⟩, fun v w1 h => (QM_l h.2).trans (wM_l _ _ _ _ _ _ _ _ _).symm, fun v1 w1 v2 w3 h1 h2 => ?_⟩
  obtain ⟨rfl, rfl⟩ := h1
  obtain ⟨rfl, hq⟩ := h2
  exact ⟨⟨_, rfl, rfl⟩, mkJ hI hq⟩
theorem pr_follows {wX w2 : List ct_C} (h : JI wX w2) (a : Int) (ar : -2147483648 ≤ a ∧ a ≤ 2147483647)  : PR MX11_follows MX12_follows 4 3 [vI a] wX w2 vI := by
  obtain ⟨T, S, n, P, A, V, x, y, c, k, sd, hI, rfl, o, A', tm, tr, p, st, rfl, hst, hM⟩ := h
  obtain ⟨hT, hS, hn, hP, hPi, hA, hD, hY, hL, hW, hk0, hk1, hkf, hkI⟩ := id hI
  have hg := (I2_good hT).2 S hS
  refine ⟨_, _, c_X11_follows T S n P A V x y c k sd a ar hT hg.1.1, c_X12_follows T S n (fun i => A (P i)) y k sd o A' tm tr p st hT hS hst hM a ar, fun v w1 h => by obtain ⟨x1, h1, rfl⟩ := h; exact ⟨(wTop_l _ _ _ _ _ _ _ _ _ _ _).trans (wTop_l _ _ _ _ _ _ _ _ _ _ _).symm, _, h1⟩, fun v w1 h => (QM_l h.2).trans (wM_l _ _ _ _ _ _ _ _ _).symm, fun v1 w1 v2 w3 h1 h2 => ?_⟩
  obtain ⟨x1, rfl, rfl⟩ := h1
  obtain ⟨rfl, hq⟩ := h2
  exact ⟨⟨_, rfl, rfl⟩, mkJ hI hq⟩
theorem pr_make {wX w2 : List ct_C} (h : JI wX w2) (a : Int) (ar : -2147483648 ≤ a ∧ a ≤ 2147483647) (s : Int) (sr : -2147483648 ≤ s ∧ s ≤ 2147483647) (q : Int) (qr : -2147483648 ≤ q ∧ q ≤ 2147483647)  : PR MX11_make MX12_make 5 8 [vI a, vI s, vI q] wX w2 vI := by
  obtain ⟨T, S, n, P, A, V, x, y, c, k, sd, hI, rfl, o, A', tm, tr, p, st, rfl, hst, hM⟩ := h
  obtain ⟨hT, hS, hn, hP, hPi, hA, hD, hY, hL, hW, hk0, hk1, hkf, hkI⟩ := id hI
  have hg := (I2_good hT).2 S hS
  have hD' : ∀ i, i < n → J T (A (P i)) := fun i hi => (hD i hi).1.1
  have hN1 : ∀ q, Rep S q → Rep (gRm S n P A (fAp n P (fAi n))) q := fun q hq => by rw [D_new]; exact Rep_cp hS.1.1 hq _
  have hN2 : ∀ i, i < fAi n → gRm S n P A (fAp n P i) = A (P (if n < 14 then i else i + 1)) := fun i hi => D_old hn hPi i hi
  refine ⟨_, _, c_X11_make T S n P A V x y c k sd a s q ar sr qr (I2 T) (I2_good hT) hS hn hP, c_X12_make T S n (fun i => A (P i)) y k sd o A' tm tr p st hT hS hst hM a s q ar sr qr hD' (fun i => gRm S n P A (fAp n P i)) hN1 hN2, (fun v w1 h => by
    cases z : gMa T S a s q with
    | some i => exact ⟨(len_of (h.1 i z).2).trans (wTop_l _ _ _ _ _ _ _ _ _ _ _).symm, _, (h.1 i z).1⟩
    | none => exact ⟨(len_of (h.2 z).2).trans (wTop_l _ _ _ _ _ _ _ _ _ _ _).symm, _, (h.2 z).1⟩), (fun v w1 h => by
    cases z : gMa T S a s q with
    | some i => exact (QM_l (h.1 i z).2).trans (wM_l _ _ _ _ _ _ _ _ _).symm
    | none => exact (QM_l (h.2 z).2).trans (wM_l _ _ _ _ _ _ _ _ _).symm), fun v1 w1 v2 w3 h1 h2 => ?_⟩
  cases z : gMa T S a s q with
  | some i =>
    obtain ⟨rfl, rfl⟩ := h1.1 i z
    obtain ⟨rfl, hq⟩ := h2.1 i z
    exact ⟨⟨_, rfl, rfl⟩, mkJ hI hq⟩
  | none =>
    obtain ⟨rfl, rfl⟩ := h1.2 z
    obtain ⟨rfl, hq⟩ := h2.2 z
    have hok : okm (mkO a s q) := by
      unfold gMa at z
      split at z
      · cases z
      · split at z
        · cases z
        · rename_i e1 e2
          have hN4 := hT.2.1
          exact mkO_ok (by omega) (by omega) (by omega)
    exact ⟨⟨_, rfl, rfl⟩, mkJ (CI_note hI (hg.2.2.2.1 _ hok)) hq⟩
theorem pr_learn {wX w2 : List ct_C} (h : JI wX w2)   : PR MX11_learn MX12_learn 6 8 [] wX w2 vI := by
  obtain ⟨T, S, n, P, A, V, x, y, c, k, sd, hI, rfl, o, A', tm, tr, p, st, rfl, hst, hM⟩ := h
  obtain ⟨hT, hS, hn, hP, hPi, hA, hD, hY, hL, hW, hk0, hk1, hkf, hkI⟩ := id hI
  have hg := (I2_good hT).2 S hS
  have hD' : ∀ i, i < n → J T (A (P i)) := fun i hi => (hD i hi).1.1
  have hN1 : ∀ q, Rep S q → Rep (gRm S n P A (fAp n P (fAi n))) q := fun q hq => by rw [D_new]; exact Rep_cp hS.1.1 hq _
  have hN2 : ∀ i, i < fAi n → gRm S n P A (fAp n P i) = A (P (if n < 14 then i else i + 1)) := fun i hi => D_old hn hPi i hi
  refine ⟨_, _, c_X11_learn T S n P A V x y c k sd (I2 T) (I2_good hT) hS hn hP, c_X12_learn T S n (fun i => A (P i)) y k sd o A' tm tr p st hT hS hst hM hD' (fun i => gRm S n P A (fAp n P i)) hN1 hN2, (fun v w1 h => by
    by_cases z : lnP T S
    · obtain ⟨x1, h1, rfl⟩ := h.1 z; exact ⟨(wTop_l _ _ _ _ _ _ _ _ _ _ _).trans (wTop_l _ _ _ _ _ _ _ _ _ _ _).symm, _, h1⟩
    · have hl := h.2 z; exact ⟨(len_of hl.2).trans (wTop_l _ _ _ _ _ _ _ _ _ _ _).symm, _, hl.1⟩), (fun v w1 h => by
    by_cases z : lnP T S
    · exact (QM_l (h.1 z).2).trans (wM_l _ _ _ _ _ _ _ _ _).symm
    · exact (QM_l (h.2 z).2).trans (wM_l _ _ _ _ _ _ _ _ _).symm), fun v1 w1 v2 w3 h1 h2 => ?_⟩
  by_cases z : lnP T S
  · obtain ⟨x1, rfl, rfl⟩ := h1.1 z
    obtain ⟨rfl, hq⟩ := h2.1 z
    exact ⟨⟨_, rfl, rfl⟩, mkJ (CI_note hI (hg.2.2.1 z).2.2.2.2.2) hq⟩
  · obtain ⟨rfl, rfl⟩ := h1.2 z
    obtain ⟨rfl, hq⟩ := h2.2 z
    exact ⟨⟨_, rfl, rfl⟩, mkJ hI hq⟩
theorem pr_leave {wX w2 : List ct_C} (h : JI wX w2)   : PR MX11_leave MX12_leave 5 7 [] wX w2 vI := by
  obtain ⟨T, S, n, P, A, V, x, y, c, k, sd, hI, rfl, o, A', tm, tr, p, st, rfl, hst, hM⟩ := h
  obtain ⟨hT, hS, hn, hP, hPi, hA, hD, hY, hL, hW, hk0, hk1, hkf, hkI⟩ := id hI
  have hg := (I2_good hT).2 S hS
  have hD' : ∀ i, i < n → J T (A (P i)) := fun i hi => (hD i hi).1.1
  have hN1 : ∀ q, Rep S q → Rep (gRm S n P A (fAp n P (fAi n))) q := fun q hq => by rw [D_new]; exact Rep_cp hS.1.1 hq _
  have hN2 : ∀ i, i < fAi n → gRm S n P A (fAp n P i) = A (P (if n < 14 then i else i + 1)) := fun i hi => D_old hn hPi i hi
  refine ⟨_, _, c_X11_leave T S n P A V x y c k sd (I2 T) (I2_good hT) hS hn hP, c_X12_leave T S n (fun i => A (P i)) y k sd o A' tm tr p st hT hS hst hM hD' (fun i => gRm S n P A (fAp n P i)) hN1 hN2, (fun v w1 h => by
    by_cases z : ¬ fLv S = 0
    · have hl := h.1 z; exact ⟨(len_of hl.2).trans (wTop_l _ _ _ _ _ _ _ _ _ _ _).symm, _, hl.1⟩
    · have hl := h.2 (Classical.not_not.mp z); exact ⟨(len_of hl.2).trans (wTop_l _ _ _ _ _ _ _ _ _ _ _).symm, _, hl.1⟩), (fun v w1 h => by
    by_cases z : ¬ fLv S = 0
    · exact (QM_l (h.1 z).2).trans (wM_l _ _ _ _ _ _ _ _ _).symm
    · exact (QM_l (h.2 (Classical.not_not.mp z)).2).trans (wM_l _ _ _ _ _ _ _ _ _).symm), fun v1 w1 v2 w3 h1 h2 => ?_⟩
  by_cases z : ¬ fLv S = 0
  · obtain ⟨rfl, rfl⟩ := h1.1 z
    obtain ⟨rfl, hq⟩ := h2.1 z
    exact ⟨⟨_, rfl, rfl⟩, mkJ (CI_note hI (hg.2.1 z).2) hq⟩
  · obtain ⟨rfl, rfl⟩ := h1.2 (Classical.not_not.mp z)
    obtain ⟨rfl, hq⟩ := h2.2 (Classical.not_not.mp z)
    exact ⟨⟨_, rfl, rfl⟩, mkJ hI hq⟩
theorem pr_run {wX w2 : List ct_C} (h : JI wX w2) (a : Int) (ar : -2147483648 ≤ a ∧ a ≤ 2147483647)  : PR MX11_run MX12_run 7 9 [vI a] wX w2 vI := by
  obtain ⟨T, S, n, P, A, V, x, y, c, k, sd, hI, rfl, o, A', tm, tr, p, st, rfl, hst, hM⟩ := h
  obtain ⟨hT, hS, hn, hP, hPi, hA, hD, hY, hL, hW, hk0, hk1, hkf, hkI⟩ := id hI
  have hg := (I2_good hT).2 S hS
  have hD' : ∀ i, i < n → J T (A (P i)) := fun i hi => (hD i hi).1.1
  have hN1 : ∀ q, Rep S q → Rep (gRm S n P A (fAp n P (fAi n))) q := fun q hq => by rw [D_new]; exact Rep_cp hS.1.1 hq _
  have hN2 : ∀ i, i < fAi n → gRm S n P A (fAp n P i) = A (P (if n < 14 then i else i + 1)) := fun i hi => D_old hn hPi i hi
  refine ⟨_, _, c_X11_run T S n P A V x y c k sd a ar (I2 T) (I2_good hT) hS hn hP, c_X12_run T S n (fun i => A (P i)) y k sd o A' tm tr p st hT hS hst hM a ar hD' (fun i => gRm S n P A (fAp n P i)) hN1 hN2, (fun v w1 h => by
    by_cases z : 1 ≤ a ∧ a ≤ 50
    · obtain ⟨x1, h1, rfl⟩ := h.1 z; exact ⟨(wTop_l _ _ _ _ _ _ _ _ _ _ _).trans (wTop_l _ _ _ _ _ _ _ _ _ _ _).symm, _, h1⟩
    · have hl := h.2 (by omega); exact ⟨(len_of hl.2).trans (wTop_l _ _ _ _ _ _ _ _ _ _ _).symm, _, hl.1⟩), (fun v w1 h => by
    by_cases z : 1 ≤ a ∧ a ≤ 50
    · exact (QM_l (h.1 z).2).trans (wM_l _ _ _ _ _ _ _ _ _).symm
    · exact (QM_l (h.2 (by omega)).2).trans (wM_l _ _ _ _ _ _ _ _ _).symm), fun v1 w1 v2 w3 h1 h2 => ?_⟩
  by_cases z : 1 ≤ a ∧ a ≤ 50
  · obtain ⟨x1, rfl, rfl⟩ := h1.1 z
    obtain ⟨rfl, hq⟩ := h2.1 z
    exact ⟨⟨_, rfl, rfl⟩, mkJ (CI_note hI (fRun_I (I2_good hT) _ hS)) hq⟩
  · obtain ⟨rfl, rfl⟩ := h1.2 (by omega)
    obtain ⟨rfl, hq⟩ := h2.2 (by omega)
    exact ⟨⟨_, rfl, rfl⟩, mkJ hI hq⟩
theorem pr_undo {wX w2 : List ct_C} (h : JI wX w2)   : PR MX11_undo MX12_undo 4 0 [] wX w2 vI := by
  obtain ⟨T, S, n, P, A, V, x, y, c, k, sd, hI, rfl, o, A', tm, tr, p, st, rfl, hst, hM⟩ := h
  obtain ⟨hT, hS, hn, hP, hPi, hA, hD, hY, hL, hW, hk0, hk1, hkf, hkI⟩ := id hI
  have hg := (I2_good hT).2 S hS
  have hD' : ∀ i, i < n → J T (A (P i)) := fun i hi => (hD i hi).1.1
  refine ⟨_, _, c_X11_undo T S n P A V x y c k sd hn hP hA, c_X12_undo T S n (fun i => A (P i)) y k sd o A' tm tr p st hT hS hst hM hD' (fCp S (A (P (n - 1)))) (fun q h0 hq => Rep_cp (hD' (n - 1) (by omega)) hq S), (fun v w1 h => by
    by_cases z : 1 ≤ n
    · have hl := h.1 z; exact ⟨(len_of hl.2).trans (wTop_l _ _ _ _ _ _ _ _ _ _ _).symm, _, hl.1⟩
    · have hl := h.2 (by omega); exact ⟨(len_of hl.2).trans (wTop_l _ _ _ _ _ _ _ _ _ _ _).symm, _, hl.1⟩), (fun v w1 h => by
    by_cases z : 1 ≤ n
    · exact (QM_l (h.1 z).2).trans (wM_l _ _ _ _ _ _ _ _ _).symm
    · exact (QM_l (h.2 (by omega)).2).trans (wM_l _ _ _ _ _ _ _ _ _).symm), fun v1 w1 v2 w3 h1 h2 => ?_⟩
  by_cases z : 1 ≤ n
  · obtain ⟨rfl, rfl⟩ := h1.1 z
    obtain ⟨rfl, hq⟩ := h2.1 z
    exact ⟨⟨_, rfl, rfl⟩, mkJ ⟨hT, ((I2_good hT).2 _ (hD (n - 1) (by omega))).2.2.2.2 S, by omega, hP, hPi, hA, fun i hi => hD i (by omega), hY, hL, hW, hk0, hk1, hkf, hkI⟩ hq⟩
  · obtain ⟨rfl, rfl⟩ := h1.2 (by omega)
    obtain ⟨rfl, hq⟩ := h2.2 (by omega)
    exact ⟨⟨_, rfl, rfl⟩, mkJ hI hq⟩
theorem pr_judge {wX w2 : List ct_C} (h : JI wX w2) (a : Int) (ar : -2147483648 ≤ a ∧ a ≤ 2147483647) (row : Int) (rr : -9223372036854775808 ≤ row ∧ row ≤ 9223372036854775807) : PR MX11_judge MX12_judge 7 10 [vI a, vL row] wX w2 vI := by
  obtain ⟨T, S, n, P, A, V, x, y, c, k, sd, hI, rfl, o, A', tm, tr, p, st, rfl, hst, hM⟩ := h
  obtain ⟨hT, hS, hn, hP, hPi, hA, hD, hY, hL, hW, hk0, hk1, hkf, hkI⟩ := id hI
  have hg := (I2_good hT).2 S hS
  refine ⟨_, _, c_X11_judge T S n P A V x y c k sd a row ar rr (I2 T) (I2_good hT) hS, c_X12_judge T S n (fun i => A (P i)) y k sd o A' tm tr p st hT hS hst hM a ar row rr (fCp V S) (fun q hq => Rep_cp hS.1.1 hq V) (hg.2.2.2.2 V), (fun v w1 h => by
    by_cases z : 1 ≤ a ∧ a ≤ 4 ∧ 0 ≤ row ∧ row < p1k a.toNat
    · obtain ⟨x1, h1, rfl⟩ := h.1 z; exact ⟨(wTop_l _ _ _ _ _ _ _ _ _ _ _).trans (wTop_l _ _ _ _ _ _ _ _ _ _ _).symm, _, h1⟩
    · have hl := h.2 z; exact ⟨(len_of hl.2).trans (wTop_l _ _ _ _ _ _ _ _ _ _ _).symm, _, hl.1⟩), (fun v w1 h => by
    by_cases z : 1 ≤ a ∧ a ≤ 4 ∧ 0 ≤ row ∧ row < p1k a.toNat
    · exact (QM_l (h.1 z).2).trans (wM_l _ _ _ _ _ _ _ _ _).symm
    · exact (QM_l (h.2 z).2).trans (wM_l _ _ _ _ _ _ _ _ _).symm), fun v1 w1 v2 w3 h1 h2 => ?_⟩
  by_cases z : 1 ≤ a ∧ a ≤ 4 ∧ 0 ≤ row ∧ row < p1k a.toNat
  · obtain ⟨x1, rfl, rfl⟩ := h1.1 z
    obtain ⟨rfl, hq⟩ := h2.1 z
    exact ⟨⟨_, rfl, rfl⟩, mkJ hI hq⟩
  · obtain ⟨rfl, rfl⟩ := h1.2 z
    obtain ⟨rfl, hq⟩ := h2.2 z
    exact ⟨⟨_, rfl, rfl⟩, mkJ hI hq⟩
theorem pr_see {wX w2 : List ct_C} (h : JI wX w2) (a : Int) (ar : -2147483648 ≤ a ∧ a ≤ 2147483647) (s : Int) (sr : -2147483648 ≤ s ∧ s ≤ 2147483647) (q : Int) (qr : -2147483648 ≤ q ∧ q ≤ 2147483647) (u : Int) (ur : -2147483648 ≤ u ∧ u ≤ 2147483647)  : PR MX11_see MX12_see 1 2 [vI a, vI s, vI q, vI u] wX w2 vI := by
  obtain ⟨T, S, n, P, A, V, x, y, c, k, sd, hI, rfl, o, A', tm, tr, p, st, rfl, hst, hM⟩ := h
  obtain ⟨hT, hS, hn, hP, hPi, hA, hD, hY, hL, hW, hk0, hk1, hkf, hkI⟩ := id hI
  have hg := (I2_good hT).2 S hS
  refine ⟨_, _, c_X11_see T S n P A V x y c k sd a s q u ar sr qr ur hT hY.2.1, c_X12_see T S n (fun i => A (P i)) y k sd o A' tm tr p st hT hS hst hM a s q u ar sr qr ur hY.2.1, fun v w1 h => ⟨(len_of h.2).trans (wTop_l _ _ _ _ _ _ _ _ _ _ _).symm, _, h.1⟩, fun v w1 h => (QM_l h.2).trans (wM_l _ _ _ _ _ _ _ _ _).symm, fun v1 w1 v2 w3 h1 h2 => ?_⟩
  obtain ⟨rfl, rfl⟩ := h1
  obtain ⟨rfl, hq⟩ := h2
  have e1 : (gSee T a s q u y).2.2.1 = y.2.1 := by
    unfold gSee
    split
    · rfl
    · split
      · rfl
      · split <;> rfl
  refine ⟨⟨_, rfl, rfl⟩, mkJ ⟨hT, hS, hn, hP, hPi, hA, hD, ?_, by rw [e1]; exact hL, hW, hk0, hk1, hkf, hkI⟩ hq⟩
  have hN4 := hT.2.1
  unfold gSee
  split
  · exact hY
  · split
    · exact hY
    · split
      · exact hY
      · rename_i g1 g2 g3
        refine ⟨hY.1, by show y.2.2.1 + 1 ≤ 6; omega, fun i hi => ?_⟩
        have hi' : i < y.2.2.1 + 1 := hi
        show 0 ≤ ct_up y.2.2.2.1 y.2.2.1 (100 * a + 10 * s + q) i ∧ ct_up y.2.2.2.1 y.2.2.1 (100 * a + 10 * s + q) i ≤ 999 ∧ ct_up y.2.2.2.1 y.2.2.1 (100 * a + 10 * s + q) i / 10 % 10 ≤ 1 ∧ (ct_up y.2.2.2.2 y.2.2.1 u i = 0 ∨ ct_up y.2.2.2.2 y.2.2.1 u i = 1)
        by_cases e : i = y.2.2.1
        · subst e; rw [ct_up_s, ct_up_s]; omega
        · rw [ct_up_n e, ct_up_n e]; exact hY.2.2 i (by omega)
theorem pr_unsee {wX w2 : List ct_C} (h : JI wX w2)   : PR MX11_unsee MX12_unsee 0 0 [] wX w2 vI := by
  obtain ⟨T, S, n, P, A, V, x, y, c, k, sd, hI, rfl, o, A', tm, tr, p, st, rfl, hst, hM⟩ := h
  obtain ⟨hT, hS, hn, hP, hPi, hA, hD, hY, hL, hW, hk0, hk1, hkf, hkI⟩ := id hI
  have hg := (I2_good hT).2 S hS
  refine ⟨_, _, c_X11_unsee T S n P A V x y c k sd , c_X12_unsee T S n (fun i => A (P i)) y k sd o A' tm tr p st hT hS hst hM , fun v w1 h => ⟨(len_of h.2).trans (wTop_l _ _ _ _ _ _ _ _ _ _ _).symm, _, h.1⟩, fun v w1 h => (QM_l h.2).trans (wM_l _ _ _ _ _ _ _ _ _).symm, fun v1 w1 v2 w3 h1 h2 => ?_⟩
  obtain ⟨rfl, rfl⟩ := h1
  obtain ⟨rfl, hq⟩ := h2
  exact ⟨⟨_, rfl, rfl⟩, mkJ ⟨hT, hS, hn, hP, hPi, hA, hD, ⟨hY.1, by show 0 ≤ 6; omega, fun i hi => absurd hi (Nat.not_lt_zero _)⟩, hL, hW, hk0, hk1, hkf, hkI⟩ hq⟩
theorem pr_which {wX w2 : List ct_C} (h : JI wX w2)   : PR MX11_which MX12_which 4 4 [] wX w2 vI := by
  obtain ⟨T, S, n, P, A, V, x, y, c, k, sd, hI, rfl, o, A', tm, tr, p, st, rfl, hst, hM⟩ := h
  obtain ⟨hT, hS, hn, hP, hPi, hA, hD, hY, hL, hW, hk0, hk1, hkf, hkI⟩ := id hI
  have hg := (I2_good hT).2 S hS
  refine ⟨_, _, c_X11_which T S n P A V x y c k sd hT hY.2.1 (fun i hi => ⟨(hY.2.2 i hi).1, (hY.2.2 i hi).2.1, (hY.2.2 i hi).2.2.1⟩) (fun i hi => (hY.2.2 i hi).2.2.2), c_X12_which T S n (fun i => A (P i)) y k sd o A' tm tr p st hT hS hst hM hY, fun v w1 h => by obtain ⟨x1, h1, rfl⟩ := h; exact ⟨(wTop_l _ _ _ _ _ _ _ _ _ _ _).trans (wTop_l _ _ _ _ _ _ _ _ _ _ _).symm, _, h1⟩, fun v w1 h => (QM_l h.2).trans (wM_l _ _ _ _ _ _ _ _ _).symm, fun v1 w1 v2 w3 h1 h2 => ?_⟩
  obtain ⟨x1, rfl, rfl⟩ := h1
  obtain ⟨rfl, hq⟩ := h2
  exact ⟨⟨_, rfl, rfl⟩, mkJ hI hq⟩
theorem pr_share {wX w2 : List ct_C} (h : JI wX w2) (a : Int) (ar : -2147483648 ≤ a ∧ a ≤ 2147483647) (u : Int) (hu : u = 0 ∨ u = 1) : PR MX11_share MX12_share 3 3 [vI a, vI u] wX w2 vI := by
  obtain ⟨T, S, n, P, A, V, x, y, c, k, sd, hI, rfl, o, A', tm, tr, p, st, rfl, hst, hM⟩ := h
  obtain ⟨hT, hS, hn, hP, hPi, hA, hD, hY, hL, hW, hk0, hk1, hkf, hkI⟩ := id hI
  have hg := (I2_good hT).2 S hS
  refine ⟨_, _, c_X11_share T S n P A V x y c k sd a u ar hu hT hW, c_X12_share T S n (fun i => A (P i)) y k sd o A' tm tr p st hT hS hst hM a ar u hu, fun v w1 h => by obtain ⟨c1, h1, rfl, -⟩ := h; exact ⟨(wTop_l _ _ _ _ _ _ _ _ _ _ _).trans (wTop_l _ _ _ _ _ _ _ _ _ _ _).symm, _, h1⟩, fun v w1 h => (QM_l h.2).trans (wM_l _ _ _ _ _ _ _ _ _).symm, fun v1 w1 v2 w3 h1 h2 => ?_⟩
  obtain ⟨c1, rfl, rfl, hc1⟩ := h1
  obtain ⟨rfl, hq⟩ := h2
  exact ⟨⟨_, rfl, rfl⟩, mkJ ⟨hT, hS, hn, hP, hPi, hA, hD, hY, hL, hc1, hk0, hk1, hkf, hkI⟩ hq⟩
theorem pr_chance {wX w2 : List ct_C} (h : JI wX w2) (v : Int) (vr : -2147483648 ≤ v ∧ v ≤ 2147483647) (a : Int) (ar : -2147483648 ≤ a ∧ a ≤ 2147483647) (u : Int) (hu : u = 0 ∨ u = 1) : PR MX11_chance MX12_chance 3 3 [vI v, vI a, vI u] wX w2 vI := by
  obtain ⟨T, S, n, P, A, V, x, y, c, k, sd, hI, rfl, o, A', tm, tr, p, st, rfl, hst, hM⟩ := h
  obtain ⟨hT, hS, hn, hP, hPi, hA, hD, hY, hL, hW, hk0, hk1, hkf, hkI⟩ := id hI
  have hg := (I2_good hT).2 S hS
  refine ⟨_, _, c_X11_chance T S n P A V x y c k sd v a u vr ar hu hT hW, c_X12_chance T S n (fun i => A (P i)) y k sd o A' tm tr p st hT hS hst hM v a vr ar u hu, fun v w1 h => by obtain ⟨c1, h1, rfl, -⟩ := h; exact ⟨(wTop_l _ _ _ _ _ _ _ _ _ _ _).trans (wTop_l _ _ _ _ _ _ _ _ _ _ _).symm, _, h1⟩, fun v w1 h => (QM_l h.2).trans (wM_l _ _ _ _ _ _ _ _ _).symm, fun v1 w1 v2 w3 h1 h2 => ?_⟩
  obtain ⟨c1, rfl, rfl, hc1⟩ := h1
  obtain ⟨rfl, hq⟩ := h2
  exact ⟨⟨_, rfl, rfl⟩, mkJ ⟨hT, hS, hn, hP, hPi, hA, hD, hY, hL, hc1, hk0, hk1, hkf, hkI⟩ hq⟩
theorem pr_seed {wX w2 : List ct_C} (h : JI wX w2)  (a : Int) : PR MX11_seed MX12_seed 0 0 [vL a] wX w2 vL := by
  obtain ⟨T, S, n, P, A, V, x, y, c, k, sd, hI, rfl, o, A', tm, tr, p, st, rfl, hst, hM⟩ := h
  obtain ⟨hT, hS, hn, hP, hPi, hA, hD, hY, hL, hW, hk0, hk1, hkf, hkI⟩ := id hI
  have hg := (I2_good hT).2 S hS
  refine ⟨_, _, c_X11_seed T S n P A V x y c k sd a, c_X12_seed T S n (fun i => A (P i)) y k sd o A' tm tr p st hT hS hst hM a, fun v w1 h => ⟨(len_of h.2).trans (wTop_l _ _ _ _ _ _ _ _ _ _ _).symm, _, h.1⟩, fun v w1 h => (QM_l h.2).trans (wM_l _ _ _ _ _ _ _ _ _).symm, fun v1 w1 v2 w3 h1 h2 => ?_⟩
  obtain ⟨rfl, rfl⟩ := h1
  obtain ⟨rfl, hq⟩ := h2
  exact ⟨⟨_, rfl, rfl⟩, mkJ hI hq⟩
theorem pr_drawn {wX w2 : List ct_C} (h : JI wX w2) (a : Int) (ar : -2147483648 ≤ a ∧ a ≤ 2147483647)  : PR MX11_drawn MX12_drawn 7 9 [vI a] wX w2 vI := by
  obtain ⟨T, S, n, P, A, V, x, y, c, k, sd, hI, rfl, o, A', tm, tr, p, st, rfl, hst, hM⟩ := h
  obtain ⟨hT, hS, hn, hP, hPi, hA, hD, hY, hL, hW, hk0, hk1, hkf, hkI⟩ := id hI
  have hg := (I2_good hT).2 S hS
  refine ⟨_, _, c_X11_drawn T S n P A V x y c k sd a ar (I2 T) (I2_good hT) hS, c_X12_drawn T S n (fun i => A (P i)) y k sd o A' tm tr p st hT hS hst hM a ar (fCp V S) (fun q hq => Rep_cp hS.1.1 hq V) (hg.2.2.2.2 V), (fun v w1 h => by
    by_cases z : 1 ≤ a ∧ a ≤ 10
    · obtain ⟨x1, h1, rfl⟩ := h.1 z; exact ⟨(wTop_l _ _ _ _ _ _ _ _ _ _ _).trans (wTop_l _ _ _ _ _ _ _ _ _ _ _).symm, _, h1⟩
    · have hl := h.2 (by omega); exact ⟨(len_of hl.2).trans (wTop_l _ _ _ _ _ _ _ _ _ _ _).symm, _, hl.1⟩), (fun v w1 h => by
    by_cases z : 1 ≤ a ∧ a ≤ 10
    · exact (QM_l (h.1 z).2).trans (wM_l _ _ _ _ _ _ _ _ _).symm
    · exact (QM_l (h.2 (by omega)).2).trans (wM_l _ _ _ _ _ _ _ _ _).symm), fun v1 w1 v2 w3 h1 h2 => ?_⟩
  by_cases z : 1 ≤ a ∧ a ≤ 10
  · obtain ⟨x1, rfl, rfl⟩ := h1.1 z
    obtain ⟨rfl, hq⟩ := h2.1 z
    exact ⟨⟨_, rfl, rfl⟩, mkJ hI hq⟩
  · obtain ⟨rfl, rfl⟩ := h1.2 (by omega)
    obtain ⟨rfl, hq⟩ := h2.2 (by omega)
    exact ⟨⟨_, rfl, rfl⟩, mkJ hI hq⟩
theorem pr_keep {wX w2 : List ct_C} (h : JI wX w2) (a : Int) (ar : -2147483648 ≤ a ∧ a ≤ 2147483647)  : PR MX11_keep MX12_keep 4 1 [vI a] wX w2 vI := by
  obtain ⟨T, S, n, P, A, V, x, y, c, k, sd, hI, rfl, o, A', tm, tr, p, st, rfl, hst, hM⟩ := h
  obtain ⟨hT, hS, hn, hP, hPi, hA, hD, hY, hL, hW, hk0, hk1, hkf, hkI⟩ := id hI
  have hg := (I2_good hT).2 S hS
  refine ⟨_, _, c_X11_keep T S n P A V x y c k sd a ar (J_wk hT hS.1.1), c_X12_keep T S n (fun i => A (P i)) y k sd o A' tm tr p st hT hS hst hM a ar (fun s hs z => (hkI s hs z).1.1), fun v w1 h => ⟨(len_of h.2).trans (wTop_l _ _ _ _ _ _ _ _ _ _ _).symm, _, h.1⟩, fun v w1 h => (QM_l h.2).trans (wM_l _ _ _ _ _ _ _ _ _).symm, fun v1 w1 v2 w3 h1 h2 => ?_⟩
  obtain ⟨rfl, rfl⟩ := h1
  obtain ⟨rfl, hq⟩ := h2
  refine ⟨⟨_, rfl, rfl⟩, mkJ ⟨hT, hS, hn, hP, hPi, hA, hD, hY, hL, hW, ?_⟩ hq⟩
  by_cases a0 : a = 0
  · subst a0
    have e0 : (gKp S 0 k).2 = (fCp k.1 S, k.2.1, ct_up k.2.2 0 1) := rfl
    rw [e0]
    refine ⟨J_wk hT (hg.2.2.2.2 _).1.1, hk1, fun s hs => ?_, fun s hs z => ?_⟩
    · show ct_up k.2.2 0 1 s = 0 ∨ ct_up k.2.2 0 1 s = 1
      by_cases e : s = 0
      · subst e; rw [ct_up_s]; exact Or.inr rfl
      · rw [ct_up_n e]; exact hkf s hs
    · by_cases e : s = 0
      · subst e; exact hg.2.2.2.2 _
      · have es : s = 1 := by omega
        subst es
        have z' : ct_up k.2.2 0 1 1 = 1 := z
        rw [ct_up_n (by omega)] at z'
        exact hkI 1 hs z'
  · by_cases a1 : a = 1
    · subst a1
      have e0 : (gKp S 1 k).2 = (k.1, fCp k.2.1 S, ct_up k.2.2 1 1) := rfl
      rw [e0]
      refine ⟨hk0, J_wk hT (hg.2.2.2.2 _).1.1, fun s hs => ?_, fun s hs z => ?_⟩
      · show ct_up k.2.2 1 1 s = 0 ∨ ct_up k.2.2 1 1 s = 1
        by_cases e : s = 1
        · subst e; rw [ct_up_s]; exact Or.inr rfl
        · rw [ct_up_n e]; exact hkf s hs
      · by_cases e : s = 1
        · subst e; exact hg.2.2.2.2 _
        · have es : s = 0 := by omega
          subst es
          have z' : ct_up k.2.2 1 1 0 = 1 := z
          rw [ct_up_n (by omega)] at z'
          exact hkI 0 hs z'
    · have e0 : (gKp S a k).2 = k := by unfold gKp; rw [if_neg a0, if_neg a1]
      rw [e0]
      exact ⟨hk0, hk1, hkf, hkI⟩
theorem pr_again {wX w2 : List ct_C} (h : JI wX w2) (a : Int) (ar : -2147483648 ≤ a ∧ a ≤ 2147483647)  : PR MX11_again MX12_again 3 1 [vI a] wX w2 vI := by
  obtain ⟨T, S, n, P, A, V, x, y, c, k, sd, hI, rfl, o, A', tm, tr, p, st, rfl, hst, hM⟩ := h
  obtain ⟨hT, hS, hn, hP, hPi, hA, hD, hY, hL, hW, hk0, hk1, hkf, hkI⟩ := id hI
  have hg := (I2_good hT).2 S hS
  refine ⟨_, _, c_X11_again T S n P A V x y c k sd a ar ⟨hk0, hk1, hkf 0 (by omega), hkf 1 (by omega)⟩, c_X12_again T S n (fun i => A (P i)) y k sd o A' tm tr p st hT hS hst hM a ar (fun s hs z => (hkI s hs z).1.1), fun v w1 h => ⟨(len_of h.2).trans (wTop_l _ _ _ _ _ _ _ _ _ _ _).symm, _, h.1⟩, fun v w1 h => (QM_l h.2).trans (wM_l _ _ _ _ _ _ _ _ _).symm, fun v1 w1 v2 w3 h1 h2 => ?_⟩
  obtain ⟨rfl, rfl⟩ := h1
  obtain ⟨rfl, hq⟩ := h2
  have key : I2 T (gAg S n a k).2.1 ∧ (gAg S n a k).2.2 ≤ n := by
    unfold gAg
    split
    · split
      · exact ⟨hS, Nat.le_refl _⟩
      · rename_i e
        exact ⟨((I2_good hT).2 _ (hkI 0 (by omega) (by have := hkf 0 (by omega); omega))).2.2.2.2 S, Nat.zero_le _⟩
    · split
      · split
        · exact ⟨hS, Nat.le_refl _⟩
        · rename_i e
          exact ⟨((I2_good hT).2 _ (hkI 1 (by omega) (by have := hkf 1 (by omega); omega))).2.2.2.2 S, Nat.zero_le _⟩
      · exact ⟨hS, Nat.le_refl _⟩
  exact ⟨⟨_, rfl, rfl⟩, mkJ ⟨hT, key.1, by omega, hP, hPi, hA, fun i hi => hD i (by omega), hY, hL, hW, hk0, hk1, hkf, hkI⟩ hq⟩
