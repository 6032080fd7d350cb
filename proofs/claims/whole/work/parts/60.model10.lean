/-- why by a cut: the place of its mark k (-9: none); how many, the set by then, of the first marks -/
noncomputable def wyW (S : ctS) (c e : Nat) (m : Int) (k : Nat) : Int := if ¬ m = -9 ∧ fNeg (sCm S (8 * c + k)) = m then -9 else ct_o (-9) (fLa S e (sCm S (8 * c + k) / 100) (sCm S (8 * c + k) / 10 % 10))
noncomputable def wyC (S : ctS) (st : Nat → Int) (c e : Nat) (m cm : Int) : Nat → Int × (Nat → Int)
  | 0 => (0, st)
  | x + 1 => ((wyC S st c e m cm x).1 + (if wyW S c e m x = -9 then 0 else 1), cmS S (wyC S st c e m cm x).2 (if cm = 0 then -9 else wyW S c e m x))
theorem wyW_ok {S : ctS} {c e : Nat} {m : Int} {x : Nat} (he : e ≤ sZ S) : wyW S c e m x = -9 ∨ (0 ≤ wyW S c e m x ∧ wyW S c e m x < (sZ S : Int)) := by
  unfold wyW
  split
  · exact Or.inl rfl
  · exact la_ok he
theorem wyC_ok {S : ctS} {st : Nat → Int} {c e : Nat} {m cm : Int} (hZ : sZ S ≤ 36) (he : e ≤ sZ S) (hs : stR st) : ∀ x : Nat, stR (wyC S st c e m cm x).2 ∧ 0 ≤ (wyC S st c e m cm x).1 ∧ (wyC S st c e m cm x).1 ≤ x
  | 0 => ⟨hs, by simp [wyC]⟩
  | x + 1 => by
    obtain ⟨h1, h2, h3⟩ := wyC_ok (c := c) (m := m) (cm := cm) hZ he hs x
    have hv := wyW_ok (S := S) (c := c) (e := e) (m := m) (x := x) he
    refine ⟨cmS_ok hZ h1 ?_, ?_⟩
    · split
      · exact Or.inl rfl
      · exact hv
    · show 0 ≤ (wyC S st c e m cm x).1 + (if wyW S c e m x = -9 then 0 else 1) ∧ (wyC S st c e m cm x).1 + (if wyW S c e m x = -9 then 0 else 1) ≤ ((x + 1 : Nat) : Int)
      split <;> omega
theorem fNeg_r {m : Int} (h : 0 ≤ m ∧ m ≤ 999) : -9 ≤ fNeg m ∧ fNeg m ≤ 1008 := by unfold fNeg; split <;> omega
set_option maxRecDepth 100000 in
set_option maxHeartbeats 1000000 in
theorem c_X12_whyByC (u v : Nat) (T : ctT) (o : Nat → Int) (A : Nat → Nat → Int) (tm tr : Int) (p st : Nat → Int) (S : ctS) (hT : okT T) (hA : rT T A) (hR : Rep S p) (hJ : J T S) (c : Nat) (hc : c < sC S) (e : Nat) (he : e ≤ sZ S) (m : Int) (hm : m = -9 ∨ (0 ≤ m ∧ m ≤ 999)) (cm : Int) (hcm : cm = 0 ∨ cm = 1) (hs : stR st) : CM MX12_whyBy (2, 0, 0) [vR 0, vR 5, vI (10 + (c : Int)), vI e, vI m, vI cm] (wM u v T o A tm tr p st) (fun v1 w => v1 = some (vI (wyC S st c e m cm (sCs S c).toNat).1) ∧ w = wM u v T o A tm tr p (wyC S st c e m cm (sCs S c).toNat).2) := by
  refine CM.of (by decide) (Nat.le_of_ble_eq_true rfl) ?_
  show CV MX12_whyBy (2, 0, 0) 19 (0, 0) 0 [(0, vR 0), (1, vR 5), (2, vI (10 + (c : Int))), (3, vI e), (4, vI m), (5, vI cm)] [] (wM u v T o A tm tr p st) _
  have hg := J_g hT hJ
  have hZ := hg.1.1
  have hN := hT.2.1
  have hR6 := hT.2.2.1
  have c40 := hJ.2.1.2.2.1
  have c8 := hJ.2.1.2.2.2.1 c hc
  have l193 : ∀ (x : Nat) (y0 : Int), (x < (sCs S c).toNat) → (CV MX12_whyBy (2, 0, 0) 19 (0, 0) 129 [(0, vR 0), (1, vR 5), (2, vI (10 + (c : Int))), (3, vI e), (4, vI m), (5, vI cm), (6, vI (wyC S st c e m cm (x + 1)).1), (7, vI c), (8, vI ((x + 1) : Nat))] [] (wM u v T o A tm tr p (wyC S st c e m cm (x + 1)).2) (fun v1 w => v1 = some (vI (wyC S st c e m cm (sCs S c).toNat).1) ∧ w = wM u v T o A tm tr p (wyC S st c e m cm (sCs S c).toNat).2)) → CV MX12_whyBy (2, 0, 0) 19 (0, 0) 193 [(0, vR 0), (1, vR 5), (2, vI (10 + (c : Int))), (3, vI e), (4, vI m), (5, vI cm), (6, vI (wyC S st c e m cm x).1), (7, vI c), (8, vI (x : Nat)), (9, vI y0)] [vI (wyW S c e m x)] (wM u v T o A tm tr p (wyC S st c e m cm x).2) (fun v1 w => v1 = some (vI (wyC S st c e m cm (sCs S c).toNat).1) ∧ w = wM u v T o A tm tr p (wyC S st c e m cm (sCs S c).toNat).2) := by
    intro x y0 hx hih
    have w1 := wyC_ok (c := c) (m := m) (cm := cm) hZ he hs x
    have v0 := wyW_ok (S := S) (c := c) (e := e) (m := m) (x := x) he
    refine cv_istore dX12_whyBy_193 (by decide) rfl rfl ?_
    refine cv_iload dX12_whyBy_195 rfl ?_
    refine cv_iload dX12_whyBy_197 rfl ?_
    refine cv_bipush dX12_whyBy_199 (by decide) ?_
    refine cv_icmp_eq (tgt := 208) dX12_whyBy_201 (by decide) (by omega) (fun h201 => ?_) (fun h201 => ?_)
    · refine cv_iconst dX12_whyBy_208 ?_
      refine cv_iadd dX12_whyBy_209 ?_
      refine cv_istore dX12_whyBy_210 (by decide) rfl rfl ?_
      refine cv_aload_n dX12_whyBy_212 rfl ?_
      refine cv_aload_n dX12_whyBy_213 rfl ?_
      refine cv_iload dX12_whyBy_214 rfl ?_
      refine cv_if_eq (tgt := 224) dX12_whyBy_216 (by decide) (by omega) (fun h216 => ?_) (fun h216 => ?_)
      · refine cv_bipush dX12_whyBy_224 (by decide) ?_
        refine cv_sameV (c_X12_comes u v T o A tm tr p (wyC S st c e m cm x).2 S hT hA hR hJ (-9) (Or.inl rfl) w1.1) lkX12_comes mlX12_202 dX12_whyBy_226 (by decide) rfl rfl (by decide) rfl (Nat.le_of_ble_eq_true rfl) ⟨Nat.le_refl _, Nat.le_refl _⟩ ?_
        intro v w1 hq
        obtain ⟨rfl, rfl⟩ := hq
        refine cv_iinc dX12_whyBy_229 (by decide) rfl rfl rfl ?_
        refine cv_goto (tgt := 129) dX12_whyBy_232 (by decide) ?_
        refine cv_loc [0, 1, 2, 3, 4, 5, 6, 7, 8] rfl ?_
        have e0 : wyC S st c e m cm (x + 1) = ((wyC S st c e m cm x).1 + 0, cmS S (wyC S st c e m cm x).2 (-9)) := by
          show ((wyC S st c e m cm x).1 + (if wyW S c e m x = -9 then 0 else 1), cmS S (wyC S st c e m cm x).2 (if cm = 0 then -9 else wyW S c e m x)) = _
          rw [if_pos h201, if_pos h216]
        rw [e0] at hih
        exact hih
      · refine cv_iload dX12_whyBy_219 rfl ?_
        refine cv_goto (tgt := 226) dX12_whyBy_221 (by decide) ?_
        refine cv_sameV (c_X12_comes u v T o A tm tr p (wyC S st c e m cm x).2 S hT hA hR hJ (wyW S c e m x) v0 w1.1) lkX12_comes mlX12_202 dX12_whyBy_226 (by decide) rfl rfl (by decide) rfl (Nat.le_of_ble_eq_true rfl) ⟨Nat.le_refl _, Nat.le_refl _⟩ ?_
        intro v w1 hq
        obtain ⟨rfl, rfl⟩ := hq
        refine cv_iinc dX12_whyBy_229 (by decide) rfl rfl rfl ?_
        refine cv_goto (tgt := 129) dX12_whyBy_232 (by decide) ?_
        refine cv_loc [0, 1, 2, 3, 4, 5, 6, 7, 8] rfl ?_
        have e0 : wyC S st c e m cm (x + 1) = ((wyC S st c e m cm x).1 + 0, cmS S (wyC S st c e m cm x).2 (wyW S c e m x)) := by
          show ((wyC S st c e m cm x).1 + (if wyW S c e m x = -9 then 0 else 1), cmS S (wyC S st c e m cm x).2 (if cm = 0 then -9 else wyW S c e m x)) = _
          rw [if_pos h201, if_neg h216]
        rw [e0] at hih
        exact hih
    · refine cv_iconst dX12_whyBy_204 ?_
      refine cv_goto (tgt := 209) dX12_whyBy_205 (by decide) ?_
      refine cv_iadd dX12_whyBy_209 ?_
      refine cv_istore dX12_whyBy_210 (by decide) rfl rfl ?_
      refine cv_aload_n dX12_whyBy_212 rfl ?_
      refine cv_aload_n dX12_whyBy_213 rfl ?_
      refine cv_iload dX12_whyBy_214 rfl ?_
      refine cv_if_eq (tgt := 224) dX12_whyBy_216 (by decide) (by omega) (fun h216 => ?_) (fun h216 => ?_)
      · refine cv_bipush dX12_whyBy_224 (by decide) ?_
        refine cv_sameV (c_X12_comes u v T o A tm tr p (wyC S st c e m cm x).2 S hT hA hR hJ (-9) (Or.inl rfl) w1.1) lkX12_comes mlX12_202 dX12_whyBy_226 (by decide) rfl rfl (by decide) rfl (Nat.le_of_ble_eq_true rfl) ⟨Nat.le_refl _, Nat.le_refl _⟩ ?_
        intro v w1 hq
        obtain ⟨rfl, rfl⟩ := hq
        refine cv_iinc dX12_whyBy_229 (by decide) rfl rfl rfl ?_
        refine cv_goto (tgt := 129) dX12_whyBy_232 (by decide) ?_
        refine cv_loc [0, 1, 2, 3, 4, 5, 6, 7, 8] rfl ?_
        have e0 : wyC S st c e m cm (x + 1) = ((wyC S st c e m cm x).1 + 1, cmS S (wyC S st c e m cm x).2 (-9)) := by
          show ((wyC S st c e m cm x).1 + (if wyW S c e m x = -9 then 0 else 1), cmS S (wyC S st c e m cm x).2 (if cm = 0 then -9 else wyW S c e m x)) = _
          rw [if_neg h201, if_pos h216]
        rw [e0] at hih
        exact hih
      · refine cv_iload dX12_whyBy_219 rfl ?_
        refine cv_goto (tgt := 226) dX12_whyBy_221 (by decide) ?_
        refine cv_sameV (c_X12_comes u v T o A tm tr p (wyC S st c e m cm x).2 S hT hA hR hJ (wyW S c e m x) v0 w1.1) lkX12_comes mlX12_202 dX12_whyBy_226 (by decide) rfl rfl (by decide) rfl (Nat.le_of_ble_eq_true rfl) ⟨Nat.le_refl _, Nat.le_refl _⟩ ?_
        intro v w1 hq
        obtain ⟨rfl, rfl⟩ := hq
        refine cv_iinc dX12_whyBy_229 (by decide) rfl rfl rfl ?_
        refine cv_goto (tgt := 129) dX12_whyBy_232 (by decide) ?_
        refine cv_loc [0, 1, 2, 3, 4, 5, 6, 7, 8] rfl ?_
        have e0 : wyC S st c e m cm (x + 1) = ((wyC S st c e m cm x).1 + 1, cmS S (wyC S st c e m cm x).2 (wyW S c e m x)) := by
          show ((wyC S st c e m cm x).1 + (if wyW S c e m x = -9 then 0 else 1), cmS S (wyC S st c e m cm x).2 (if cm = 0 then -9 else wyW S c e m x)) = _
          rw [if_neg h201, if_neg h216]
        rw [e0] at hih
        exact hih
  have loop : ∀ (k : Nat) (x : Nat), ((sCs S c).toNat < x + k) → (x ≤ (sCs S c).toNat) → CV MX12_whyBy (2, 0, 0) 19 (0, 0) 129 [(0, vR 0), (1, vR 5), (2, vI (10 + (c : Int))), (3, vI e), (4, vI m), (5, vI cm), (6, vI (wyC S st c e m cm x).1), (7, vI c), (8, vI (x : Nat))] [] (wM u v T o A tm tr p (wyC S st c e m cm x).2) (fun v1 w => v1 = some (vI (wyC S st c e m cm (sCs S c).toNat).1) ∧ w = wM u v T o A tm tr p (wyC S st c e m cm (sCs S c).toNat).2) := by
    intro k
    induction k with
    | zero => intro x hk hi; exact absurd hk (by omega)
    | succ k ih =>
      intro x hk hi
      refine cv_iload dX12_whyBy_129 rfl ?_
      refine cv_aload_n dX12_whyBy_131 rfl ?_
      refine cv_bipush dX12_whyBy_132 (by decide) ?_
      refine cv_iload dX12_whyBy_134 rfl ?_
      refine cv_iadd dX12_whyBy_136 ?_
      refine cv_ialj (110 + c) dX12_whyBy_137 rfl (by omega) (by omega) ?_
      rw [(hR.2.2.2.1 c hc).1]
      refine cv_icmp_ge (tgt := 235) dX12_whyBy_138 (by decide) (by omega) (fun h138 => ?_) (fun h138 => ?_)
      · refine cv_iload dX12_whyBy_235 rfl ?_
        refine cv_iret rfl dX12_whyBy_237 ⟨Nat.le_refl _, Nat.le_refl _⟩ ⟨ct_rI (by rw [show x = (sCs S c).toNat by omega]), by rw [show x = (sCs S c).toNat by omega]⟩
      · have mo := hJ.2.1.2.2.2.2.1 c x hc (by omega)
        unfold okM at mo
        have ng := fNeg_r (m := sCm S (8 * c + x)) (by omega)
        refine cv_aload_n dX12_whyBy_141 rfl ?_
        refine cv_aload_n dX12_whyBy_142 rfl ?_
        refine cv_iload dX12_whyBy_143 rfl ?_
        refine cv_iload dX12_whyBy_145 rfl ?_
        refine cv_sameV (c_X12_cutMark u v T o A tm tr p (wyC S st c e m cm x).2 S hT hA hR hJ c x hc (by omega)) lkX12_cutMark mlX12_138 dX12_whyBy_147 (by decide) rfl rfl (by decide) rfl (Nat.le_of_ble_eq_true rfl) ⟨Nat.le_refl _, Nat.le_refl _⟩ ?_
        intro v w1 hq
        obtain ⟨rfl, rfl⟩ := hq
        refine cv_istore dX12_whyBy_150 (by decide) rfl rfl ?_
        refine cv_iload dX12_whyBy_152 rfl ?_
        refine cv_bipush dX12_whyBy_154 (by decide) ?_
        refine cv_icmp_eq (tgt := 174) dX12_whyBy_156 (by decide) (by omega) (fun h156 => ?_) (fun h156 => ?_)
        · refine cv_aload_n dX12_whyBy_174 rfl ?_
          refine cv_aload_n dX12_whyBy_175 rfl ?_
          refine cv_iload dX12_whyBy_176 rfl ?_
          refine cv_bipush dX12_whyBy_178 (by decide) ?_
          refine cv_idiv dX12_whyBy_180 (by omega) ?_
          refine cv_iload dX12_whyBy_181 rfl ?_
          refine cv_bipush dX12_whyBy_183 (by decide) ?_
          refine cv_idiv dX12_whyBy_185 (by omega) ?_
          refine cv_bipush dX12_whyBy_186 (by decide) ?_
          refine cv_irem dX12_whyBy_188 (by omega) ?_
          refine cv_iload_n dX12_whyBy_189 rfl ?_
          refine cv_sameV (c_X12_lastOf u v T o A tm tr p (wyC S st c e m cm x).2 S hT hA hR hJ ((sCm S (8 * c + x)) / 100) ((sCm S (8 * c + x)) / 10 % 10) (by omega) e he) lkX12_lastOf mlX12_198 dX12_whyBy_190 (by decide) rfl rfl (by decide) rfl (Nat.le_of_ble_eq_true rfl) ⟨Nat.le_refl _, Nat.le_refl _⟩ ?_
          intro v w1 hq
          obtain ⟨rfl, rfl⟩ := hq
          refine cv_topi (wyW S c e m x) (by unfold wyW; rw [if_neg (by omega)]) ?_
          exact l193 x _ (by omega) (ih (x + 1) (by omega) (by omega))
        · refine cv_iload dX12_whyBy_159 rfl ?_
          refine cv_sameS (c_X12_negated (wM u v T o A tm tr p (wyC S st c e m cm x).2) (sCm S (8 * c + x)) (by omega)) lkX12_negated mlX12_166 dX12_whyBy_161 (by decide) rfl rfl (Nat.le_of_ble_eq_true rfl) ⟨Nat.le_refl _, Nat.le_refl _⟩ ?_
          intro v w1 hq
          obtain ⟨rfl, rfl⟩ := hq
          refine cv_iload dX12_whyBy_164 rfl ?_
          refine cv_icmp_ne (tgt := 174) dX12_whyBy_166 (by decide) (by omega) (fun h166 => ?_) (fun h166 => ?_)
          · refine cv_aload_n dX12_whyBy_174 rfl ?_
            refine cv_aload_n dX12_whyBy_175 rfl ?_
            refine cv_iload dX12_whyBy_176 rfl ?_
            refine cv_bipush dX12_whyBy_178 (by decide) ?_
            refine cv_idiv dX12_whyBy_180 (by omega) ?_
            refine cv_iload dX12_whyBy_181 rfl ?_
            refine cv_bipush dX12_whyBy_183 (by decide) ?_
            refine cv_idiv dX12_whyBy_185 (by omega) ?_
            refine cv_bipush dX12_whyBy_186 (by decide) ?_
            refine cv_irem dX12_whyBy_188 (by omega) ?_
            refine cv_iload_n dX12_whyBy_189 rfl ?_
            refine cv_sameV (c_X12_lastOf u v T o A tm tr p (wyC S st c e m cm x).2 S hT hA hR hJ ((sCm S (8 * c + x)) / 100) ((sCm S (8 * c + x)) / 10 % 10) (by omega) e he) lkX12_lastOf mlX12_198 dX12_whyBy_190 (by decide) rfl rfl (by decide) rfl (Nat.le_of_ble_eq_true rfl) ⟨Nat.le_refl _, Nat.le_refl _⟩ ?_
            intro v w1 hq
            obtain ⟨rfl, rfl⟩ := hq
            refine cv_topi (wyW S c e m x) (by unfold wyW; rw [if_neg (by omega)]) ?_
            exact l193 x _ (by omega) (ih (x + 1) (by omega) (by omega))
          · refine cv_bipush dX12_whyBy_169 (by decide) ?_
            refine cv_topi (wyW S c e m x) (by unfold wyW; rw [if_pos (by omega)]) ?_
            refine cv_goto (tgt := 193) dX12_whyBy_171 (by decide) ?_
            exact l193 x _ (by omega) (ih (x + 1) (by omega) (by omega))
  refine cv_iconst dX12_whyBy_0 ?_
  refine cv_istore dX12_whyBy_1 (by decide) rfl rfl ?_
  refine cv_iload_n dX12_whyBy_3 rfl ?_
  refine cv_bipush dX12_whyBy_4 (by decide) ?_
  refine cv_icmp_ge (tgt := 120) dX12_whyBy_6 (by decide) (by omega) (fun h6 => ?_) (fun h6 => ?_)
  · refine cv_iload_n dX12_whyBy_120 rfl ?_
    refine cv_bipush dX12_whyBy_121 (by decide) ?_
    refine cv_isub dX12_whyBy_123 ?_
    refine cv_topi (c : Int) (by omega) ?_
    refine cv_istore dX12_whyBy_124 (by decide) rfl rfl ?_
    refine cv_iconst dX12_whyBy_126 ?_
    refine cv_istore dX12_whyBy_127 (by decide) rfl rfl ?_
    exact loop ((sCs S c).toNat + 1) 0 (by omega) (by omega)
  · exact absurd h6 (by omega)
