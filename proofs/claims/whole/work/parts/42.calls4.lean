theorem cv_topl {M : ct_M} {r : Nat × Nat × Nat} {n0 : Nat} {z : Nat × Nat} {pc : Nat} {ls : List (Nat × ct_V)} {st : List ct_V} {w : List ct_C} {Q : Option ct_V → List ct_C → Prop} {x : Int} (y : Int) (h : x = y) (k : CV M r n0 z pc ls (vL y :: st) w Q) : CV M r n0 z pc ls (vL x :: st) w Q := h ▸ k
theorem fCn_i (S : ctS) (F : Nat → Int) : ∀ i, fCn S F i ≤ i
  | 0 => Nat.le_refl _
  | i + 1 => by
    have := fCn_i S F i
    unfold fCn
    split <;> omega
theorem fLz_r {T : ctT} {S : ctS} (hZ : sZ S ≤ 36) : 0 ≤ fLz T S ∧ fLz T S ≤ 36 := by
  have := fCn_i (fAE (fF40 S)) (fE T S) (sZ S)
  unfold fLz
  split <;> omega
/-- a doing, on the trial: whether it could be, and the state by then -/
noncomputable def fCb (T : ctT) (V : ctS) (d : Int) : Int × ctS :=
  if d / 100 = 1 then (ct_i (mkP T V (mkO (d / 10 % 10) 0 (d % 10))), fMade T V (mkO (d / 10 % 10) 0 (d % 10)))
  else if d / 100 = 2 then (ct_i (mkP T V (mkO (d / 10 % 10) 1 (d % 10))), fMade T V (mkO (d / 10 % 10) 1 (d % 10)))
  else if d / 100 = 3 then @ite _ (d = 300 ∧ lnP T V) (Classical.propDecidable _) (1, fLn T V) (0, V)
  else if d / 100 = 4 then (ct_i ((sZ V : Int) = d % 100), V)
  else if d / 100 = 5 then (ct_i (d / 10 % 10 < (tN T : Int) ∧ sLo V (d / 10 % 10).toNat = d % 10), V)
  else if d / 100 = 6 then (ct_i (d / 10 % 10 < (tN T : Int) ∧ sHi V (d / 10 % 10).toNat = d % 10), V)
  else if d / 100 = 7 then (ct_i ((sC V : Int) = d % 100), V)
  else (0, V)
theorem fCb_r {T : ctT} {V : ctS} {d : Int} : (fCb T V d).1 = 0 ∨ (fCb T V d).1 = 1 := by
  unfold fCb
  (repeat' split) <;> first | exact ct_i_z _ | exact Or.inl rfl | exact Or.inr rfl
theorem fCb_I {T : ctT} {V : ctS} {I : ctS → Prop} (hI : goodI T I) (hV : I V) {d : Int} (hd : 0 ≤ d ∧ d ≤ 999) : I (fCb T V d).2 := by
  have hm := (hI.2 V hV).2.2.2.1
  unfold fCb
  split
  · exact hm _ (mkO_ok (by omega) (Or.inl rfl) (by omega))
  · split
    · exact hm _ (mkO_ok (by omega) (Or.inr rfl) (by omega))
    · split
      · split
        · rename_i h; exact ((hI.2 V hV).2.2.1 h.2).2.2.2.2.2
        · exact hV
      · (repeat' split) <;> exact hV
set_option maxRecDepth 100000 in
set_option maxHeartbeats 1000000 in
theorem c_X11_canBe (T : ctT) (S : ctS) (n : Nat) (P : Nat → Nat) (A : Nat → ctS) (V : ctS) (x : ctX) (y : ctY) (c : ctW) (k : ctK) (sd : Int) (a : Int) (ar : 0 ≤ a ∧ a ≤ 999) (I : ctS → Prop) (hI : goodI T I) (hS : I V) : CM MX11_canBe (6, 0, 0) [vR 165, vI a] (wTop T S n P A V x y c k sd) (fun v w => ∃ x1, v = some (vI (fCb T V a).1) ∧ w = wTop T S n P A (fCb T V a).2 x1 y c k sd) := by
  refine CM.of (by decide) (Nat.le_of_ble_eq_true rfl) ?_
  show CV MX11_canBe (6, 0, 0) 209 (0, 0) 0 [(0, vR 165), (1, vI a)] [] (wTop T S n P A V x y c k sd) _
  have hT := hI.1
  have hg := (hI.2 V hS).1
  have ho := hg.1
  have hN := hT.2.1
  have i1 := ct_i_r (lnP T V)
  have i2 := ct_i_r (0 ≤ a / 10 % 10 ∧ a / 10 % 10 < (tN T : Int))
  have hz := fLz_r (T := T) ho.1
  have hZ := ho.1
  have hC := ho.2.2.2.2.2.1
  have i3 := ct_i_r (mkP T V (mkO (a / 10 % 10) 0 (a % 10)))
  have i4 := ct_i_r (mkP T V (mkO (a / 10 % 10) 1 (a % 10)))
  refine cv_iload_n dX11_canBe_0 rfl ?_
  refine cv_bipush dX11_canBe_1 (by decide) ?_
  refine cv_idiv dX11_canBe_3 (by omega) ?_
  refine cv_bipush dX11_canBe_4 (by decide) ?_
  refine cv_irem dX11_canBe_6 (by omega) ?_
  refine cv_istore_n dX11_canBe_7 (by decide) rfl rfl ?_
  refine cv_iload_n dX11_canBe_8 rfl ?_
  refine cv_bipush dX11_canBe_9 (by decide) ?_
  refine cv_irem dX11_canBe_11 (by omega) ?_
  refine cv_istore_n dX11_canBe_12 (by decide) rfl rfl ?_
  refine cv_iload_n dX11_canBe_13 rfl ?_
  refine cv_bipush dX11_canBe_14 (by decide) ?_
  refine cv_idiv dX11_canBe_16 (by omega) ?_
  have hq7 : a / 100 ≤ 9 := by omega
  have sw17 : a / 100 = 1 ∨ a / 100 = 2 ∨ a / 100 = 3 ∨ a / 100 = 4 ∨ a / 100 = 5 ∨ a / 100 = 6 ∨ a / 100 = 7 ∨ (a / 100 < 1 ∨ 7 < a / 100) := by omega
  rcases sw17 with sw | sw | sw | sw | sw | sw | sw | sw
  · refine cv_tableIn (tgt := 60) dX11_canBe_17 (by omega) (by omega) (by omega) (by rw [sw]; rfl) (by decide) ?_
    have e0 : fCb T V a = (ct_i (mkP T V (mkO (a / 10 % 10) 0 (a % 10))), fMade T V (mkO (a / 10 % 10) 0 (a % 10))) := by unfold fCb; rw [if_pos sw]
    have hm := mkO_ok (a := a / 10 % 10) (s := 0) (q := a % 10) (by omega) (Or.inl rfl) (by omega)
    refine cv_aload_n dX11_canBe_60 rfl ?_
    refine cv_getf flX11_32 dX11_canBe_61 rfl rfl ?_
    refine cv_iload_n dX11_canBe_64 rfl ?_
    refine cv_iconst dX11_canBe_65 ?_
    refine cv_iload_n dX11_canBe_66 rfl ?_
    refine cv_sameS (c_X11_markOf (wTop T S n P A V x y c k sd) (a / 10 % 10) 0 (a % 10)) lkX11_markOf mlX11_216 dX11_canBe_67 (by decide) rfl rfl (Nat.le_of_ble_eq_true rfl) ⟨Nat.le_refl _, Nat.le_refl _⟩ ?_
    intro v w1 hq
    obtain ⟨rfl, rfl⟩ := hq
    refine cv_topi (mkO (a / 10 % 10) 0 (a % 10)) rfl ?_
    refine cv_topV (c_X5_made T V hT hg (mkO (a / 10 % 10) 0 (a % 10)) hm) lkX5_made mlX11_227 dX11_canBe_70 (by decide) rfl rfl (by decide) rfl (Nat.le_of_ble_eq_true rfl) ⟨Nat.le_refl _, Nat.le_refl _⟩ ?_
    intro v w1 hq
    obtain ⟨rfl, rfl⟩ := hq
    refine ⟨_, _, rfl, ?_⟩
    refine cv_zret rfl dX11_canBe_73 ⟨Nat.le_refl _, Nat.le_refl _⟩ (by omega) (by rw [e0]; exact ⟨x, rfl, rfl⟩)
  · refine cv_tableIn (tgt := 74) dX11_canBe_17 (by omega) (by omega) (by omega) (by rw [sw]; rfl) (by decide) ?_
    have e0 : fCb T V a = (ct_i (mkP T V (mkO (a / 10 % 10) 1 (a % 10))), fMade T V (mkO (a / 10 % 10) 1 (a % 10))) := by unfold fCb; rw [if_neg (by omega), if_pos sw]
    have hm := mkO_ok (a := a / 10 % 10) (s := 1) (q := a % 10) (by omega) (Or.inr rfl) (by omega)
    refine cv_aload_n dX11_canBe_74 rfl ?_
    refine cv_getf flX11_32 dX11_canBe_75 rfl rfl ?_
    refine cv_iload_n dX11_canBe_78 rfl ?_
    refine cv_iconst dX11_canBe_79 ?_
    refine cv_iload_n dX11_canBe_80 rfl ?_
    refine cv_sameS (c_X11_markOf (wTop T S n P A V x y c k sd) (a / 10 % 10) 1 (a % 10)) lkX11_markOf mlX11_216 dX11_canBe_81 (by decide) rfl rfl (Nat.le_of_ble_eq_true rfl) ⟨Nat.le_refl _, Nat.le_refl _⟩ ?_
    intro v w1 hq
    obtain ⟨rfl, rfl⟩ := hq
    refine cv_topi (mkO (a / 10 % 10) 1 (a % 10)) rfl ?_
    refine cv_topV (c_X5_made T V hT hg (mkO (a / 10 % 10) 1 (a % 10)) hm) lkX5_made mlX11_227 dX11_canBe_84 (by decide) rfl rfl (by decide) rfl (Nat.le_of_ble_eq_true rfl) ⟨Nat.le_refl _, Nat.le_refl _⟩ ?_
    intro v w1 hq
    obtain ⟨rfl, rfl⟩ := hq
    refine ⟨_, _, rfl, ?_⟩
    refine cv_zret rfl dX11_canBe_87 ⟨Nat.le_refl _, Nat.le_refl _⟩ (by omega) (by rw [e0]; exact ⟨x, rfl, rfl⟩)
  · refine cv_tableIn (tgt := 88) dX11_canBe_17 (by omega) (by omega) (by omega) (by rw [sw]; rfl) (by decide) ?_
    have e0 : fCb T V a = @ite _ (a = 300 ∧ lnP T V) (Classical.propDecidable _) (1, fLn T V) (0, V) := by unfold fCb; rw [if_neg (by omega), if_neg (by omega), if_pos sw]
    refine cv_iload_n dX11_canBe_88 rfl ?_
    refine cv_sipush dX11_canBe_89 (by decide) ?_
    refine cv_icmp_ne (tgt := 123) dX11_canBe_92 (by decide) (by omega) (fun h92 => ?_) (fun h92 => ?_)
    · refine cv_iconst dX11_canBe_123 ?_
      refine cv_zret rfl dX11_canBe_124 ⟨Nat.le_refl _, Nat.le_refl _⟩ (by omega) (by rw [e0, if_neg (fun z => h92 z.1)]; exact ⟨x, rfl, rfl⟩)
    · refine cv_aload_n dX11_canBe_95 rfl ?_
      refine cv_getf flX11_32 dX11_canBe_96 rfl rfl ?_
      refine cv_topV (c_X5_canLearn T V hT ho) lkX5_canLearn mlX11_230 dX11_canBe_99 (by decide) rfl rfl (by decide) rfl (Nat.le_of_ble_eq_true rfl) ⟨Nat.le_refl _, Nat.le_refl _⟩ ?_
      intro v w1 hq
      obtain ⟨rfl, rfl⟩ := hq
      refine ⟨_, _, rfl, ?_⟩
      refine cv_if_eq (tgt := 123) dX11_canBe_102 (by decide) (by omega) (fun h102 => ?_) (fun h102 => ?_)
      · refine cv_iconst dX11_canBe_123 ?_
        refine cv_zret rfl dX11_canBe_124 ⟨Nat.le_refl _, Nat.le_refl _⟩ (by omega) (by rw [e0, if_neg (fun z => ct_i_0.mp h102 z.2)]; exact ⟨x, rfl, rfl⟩)
      · have hp := ct_i_1.mp (show ct_i (lnP T V) = 1 by omega)
        have hl := (hI.2 V hS).2.2.1 hp
        refine cv_aload_n dX11_canBe_105 rfl ?_
        refine cv_getf flX11_38 dX11_canBe_106 rfl rfl ?_
        refine cv_aload_n dX11_canBe_109 rfl ?_
        refine cv_getf flX11_32 dX11_canBe_110 rfl rfl ?_
        refine cv_topVR (c_X8_learnt T V x.1 x.2.1 hT hg hl.1 hl.2.1 hl.2.2.1 hl.2.2.2.1 hl.2.2.2.2.1) lkX8_learnt mlX11_233 dX11_canBe_113 (by decide) rfl rfl (by decide) rfl (Nat.le_of_ble_eq_true rfl) ⟨Nat.le_refl _, Nat.le_refl _⟩ ?_
        intro v w1 hq
        obtain ⟨F1, G1, rfl, rfl⟩ := hq
        refine ⟨_, _, F1, G1, rfl, ?_⟩
        refine cv_if_lt (tgt := 123) dX11_canBe_116 (by decide) (by omega) (fun h116 => ?_) (fun h116 => ?_)
        · refine cv_iconst dX11_canBe_123 ?_
          refine cv_zret rfl dX11_canBe_124 ⟨Nat.le_refl _, Nat.le_refl _⟩ (by omega) (by exact absurd h116 (by omega))
        · refine cv_iconst dX11_canBe_119 ?_
          refine cv_goto (tgt := 124) dX11_canBe_120 (by decide) ?_
          refine cv_zret rfl dX11_canBe_124 ⟨Nat.le_refl _, Nat.le_refl _⟩ (by omega) (by rw [e0, if_pos ⟨by omega, hp⟩]; exact ⟨_, rfl, rfl⟩)
  · refine cv_tableIn (tgt := 125) dX11_canBe_17 (by omega) (by omega) (by omega) (by rw [sw]; rfl) (by decide) ?_
    have e0 : fCb T V a = (ct_i ((sZ V : Int) = a % 100), V) := by unfold fCb; rw [if_neg (by omega), if_neg (by omega), if_neg (by omega), if_pos sw]
    refine cv_aload_n dX11_canBe_125 rfl ?_
    refine cv_getf flX11_32 dX11_canBe_126 rfl rfl ?_
    refine cv_getf flX11_115 dX11_canBe_129 rfl rfl ?_
    refine cv_getf flX11_119 dX11_canBe_132 rfl rfl ?_
    refine cv_iload_n dX11_canBe_135 rfl ?_
    refine cv_bipush dX11_canBe_136 (by decide) ?_
    refine cv_irem dX11_canBe_138 (by omega) ?_
    refine cv_icmp_ne (tgt := 146) dX11_canBe_139 (by decide) (by omega) (fun h139 => ?_) (fun h139 => ?_)
    · refine cv_iconst dX11_canBe_146 ?_
      refine cv_zret rfl dX11_canBe_147 ⟨Nat.le_refl _, Nat.le_refl _⟩ (by omega) (by rw [e0]; exact ⟨x, ct_rI (by first | exact (ct_i_t (by omega)).symm | exact (ct_i_f (by omega)).symm), rfl⟩)
    · refine cv_iconst dX11_canBe_142 ?_
      refine cv_goto (tgt := 147) dX11_canBe_143 (by decide) ?_
      refine cv_zret rfl dX11_canBe_147 ⟨Nat.le_refl _, Nat.le_refl _⟩ (by omega) (by rw [e0]; exact ⟨x, ct_rI (by first | exact (ct_i_t (by omega)).symm | exact (ct_i_f (by omega)).symm), rfl⟩)
  · refine cv_tableIn (tgt := 148) dX11_canBe_17 (by omega) (by omega) (by omega) (by rw [sw]; rfl) (by decide) ?_
    have e0 : fCb T V a = (ct_i (a / 10 % 10 < (tN T : Int) ∧ sLo V (a / 10 % 10).toNat = a % 10), V) := by unfold fCb; rw [if_neg (by omega), if_neg (by omega), if_neg (by omega), if_neg (by omega), if_pos sw]
    have hb := ho.2.2.2.2.1
    refine cv_aload_n dX11_canBe_148 rfl ?_
    refine cv_getf flX11_12 dX11_canBe_149 rfl rfl ?_
    refine cv_iload_n dX11_canBe_152 rfl ?_
    refine cv_topS (c_X6_hasNumber T S hT (a / 10 % 10) (by omega)) lkX6_hasNumber mlX11_152 dX11_canBe_153 (by decide) rfl rfl (by decide) rfl (Nat.le_of_ble_eq_true rfl) ⟨Nat.le_refl _, Nat.le_refl _⟩ ?_
    intro v w1 hq
    obtain ⟨rfl, rfl⟩ := hq
    refine ⟨_, _, rfl, ?_⟩
    refine cv_if_eq (tgt := 179) dX11_canBe_156 (by decide) (by omega) (fun h156 => ?_) (fun h156 => ?_)
    · have hh := ct_i_0.mp h156
      refine cv_iconst dX11_canBe_179 ?_
      refine cv_zret rfl dX11_canBe_180 ⟨Nat.le_refl _, Nat.le_refl _⟩ (by omega) (by rw [e0]; exact ⟨x, ct_rI (by first | exact (ct_i_t (by omega)).symm | exact (ct_i_f (by omega)).symm), rfl⟩)
    · have hh := ct_i_1.mp (show ct_i (0 ≤ a / 10 % 10 ∧ a / 10 % 10 < (tN T : Int)) = 1 by omega)
      have hb1 := hb (a / 10 % 10).toNat (by omega)
      refine cv_aload_n dX11_canBe_159 rfl ?_
      refine cv_getf flX11_32 dX11_canBe_160 rfl rfl ?_
      refine cv_getf flX11_115 dX11_canBe_163 rfl rfl ?_
      refine cv_getf flX11_156 dX11_canBe_166 rfl rfl ?_
      refine cv_iload_n dX11_canBe_169 rfl ?_
      refine cv_ialj ((a / 10 % 10).toNat) dX11_canBe_170 rfl (by omega) (by omega) ?_
      refine cv_iload_n dX11_canBe_171 rfl ?_
      refine cv_icmp_ne (tgt := 179) dX11_canBe_172 (by decide) (by omega) (fun h172 => ?_) (fun h172 => ?_)
      · refine cv_iconst dX11_canBe_179 ?_
        refine cv_zret rfl dX11_canBe_180 ⟨Nat.le_refl _, Nat.le_refl _⟩ (by omega) (by rw [e0]; exact ⟨x, ct_rI (by first | exact (ct_i_t (by omega)).symm | exact (ct_i_f (by omega)).symm), rfl⟩)
      · refine cv_iconst dX11_canBe_175 ?_
        refine cv_goto (tgt := 180) dX11_canBe_176 (by decide) ?_
        refine cv_zret rfl dX11_canBe_180 ⟨Nat.le_refl _, Nat.le_refl _⟩ (by omega) (by rw [e0]; exact ⟨x, ct_rI (by first | exact (ct_i_t (by omega)).symm | exact (ct_i_f (by omega)).symm), rfl⟩)
  · refine cv_tableIn (tgt := 181) dX11_canBe_17 (by omega) (by omega) (by omega) (by rw [sw]; rfl) (by decide) ?_
    have e0 : fCb T V a = (ct_i (a / 10 % 10 < (tN T : Int) ∧ sHi V (a / 10 % 10).toNat = a % 10), V) := by unfold fCb; rw [if_neg (by omega), if_neg (by omega), if_neg (by omega), if_neg (by omega), if_neg (by omega), if_pos sw]
    have hb := ho.2.2.2.2.1
    refine cv_aload_n dX11_canBe_181 rfl ?_
    refine cv_getf flX11_12 dX11_canBe_182 rfl rfl ?_
    refine cv_iload_n dX11_canBe_185 rfl ?_
    refine cv_topS (c_X6_hasNumber T S hT (a / 10 % 10) (by omega)) lkX6_hasNumber mlX11_152 dX11_canBe_186 (by decide) rfl rfl (by decide) rfl (Nat.le_of_ble_eq_true rfl) ⟨Nat.le_refl _, Nat.le_refl _⟩ ?_
    intro v w1 hq
    obtain ⟨rfl, rfl⟩ := hq
    refine ⟨_, _, rfl, ?_⟩
    refine cv_if_eq (tgt := 212) dX11_canBe_189 (by decide) (by omega) (fun h189 => ?_) (fun h189 => ?_)
    · have hh := ct_i_0.mp h189
      refine cv_iconst dX11_canBe_212 ?_
      refine cv_zret rfl dX11_canBe_213 ⟨Nat.le_refl _, Nat.le_refl _⟩ (by omega) (by rw [e0]; exact ⟨x, ct_rI (by first | exact (ct_i_t (by omega)).symm | exact (ct_i_f (by omega)).symm), rfl⟩)
    · have hh := ct_i_1.mp (show ct_i (0 ≤ a / 10 % 10 ∧ a / 10 % 10 < (tN T : Int)) = 1 by omega)
      have hb1 := hb (a / 10 % 10).toNat (by omega)
      refine cv_aload_n dX11_canBe_192 rfl ?_
      refine cv_getf flX11_32 dX11_canBe_193 rfl rfl ?_
      refine cv_getf flX11_115 dX11_canBe_196 rfl rfl ?_
      refine cv_getf flX11_160 dX11_canBe_199 rfl rfl ?_
      refine cv_iload_n dX11_canBe_202 rfl ?_
      refine cv_ialj ((a / 10 % 10).toNat) dX11_canBe_203 rfl (by omega) (by omega) ?_
      refine cv_iload_n dX11_canBe_204 rfl ?_
      refine cv_icmp_ne (tgt := 212) dX11_canBe_205 (by decide) (by omega) (fun h205 => ?_) (fun h205 => ?_)
      · refine cv_iconst dX11_canBe_212 ?_
        refine cv_zret rfl dX11_canBe_213 ⟨Nat.le_refl _, Nat.le_refl _⟩ (by omega) (by rw [e0]; exact ⟨x, ct_rI (by first | exact (ct_i_t (by omega)).symm | exact (ct_i_f (by omega)).symm), rfl⟩)
      · refine cv_iconst dX11_canBe_208 ?_
        refine cv_goto (tgt := 213) dX11_canBe_209 (by decide) ?_
        refine cv_zret rfl dX11_canBe_213 ⟨Nat.le_refl _, Nat.le_refl _⟩ (by omega) (by rw [e0]; exact ⟨x, ct_rI (by first | exact (ct_i_t (by omega)).symm | exact (ct_i_f (by omega)).symm), rfl⟩)
  · refine cv_tableIn (tgt := 214) dX11_canBe_17 (by omega) (by omega) (by omega) (by rw [sw]; rfl) (by decide) ?_
    have e0 : fCb T V a = (ct_i ((sC V : Int) = a % 100), V) := by unfold fCb; rw [if_neg (by omega), if_neg (by omega), if_neg (by omega), if_neg (by omega), if_neg (by omega), if_neg (by omega), if_pos sw]
    refine cv_aload_n dX11_canBe_214 rfl ?_
    refine cv_getf flX11_32 dX11_canBe_215 rfl rfl ?_
    refine cv_getf flX11_130 dX11_canBe_218 rfl rfl ?_
    refine cv_getf flX11_134 dX11_canBe_221 rfl rfl ?_
    refine cv_iload_n dX11_canBe_224 rfl ?_
    refine cv_bipush dX11_canBe_225 (by decide) ?_
    refine cv_irem dX11_canBe_227 (by omega) ?_
    refine cv_icmp_ne (tgt := 235) dX11_canBe_228 (by decide) (by omega) (fun h228 => ?_) (fun h228 => ?_)
    · refine cv_iconst dX11_canBe_235 ?_
      refine cv_zret rfl dX11_canBe_236 ⟨Nat.le_refl _, Nat.le_refl _⟩ (by omega) (by rw [e0]; exact ⟨x, ct_rI (by first | exact (ct_i_t (by omega)).symm | exact (ct_i_f (by omega)).symm), rfl⟩)
    · refine cv_iconst dX11_canBe_231 ?_
      refine cv_goto (tgt := 236) dX11_canBe_232 (by decide) ?_
      refine cv_zret rfl dX11_canBe_236 ⟨Nat.le_refl _, Nat.le_refl _⟩ (by omega) (by rw [e0]; exact ⟨x, ct_rI (by first | exact (ct_i_t (by omega)).symm | exact (ct_i_f (by omega)).symm), rfl⟩)
  · refine cv_tableOut (tgt := 237) dX11_canBe_17 (by decide) (by omega) (by omega) ?_
    have e0 : fCb T V a = (0, V) := by unfold fCb; rw [if_neg (by omega), if_neg (by omega), if_neg (by omega), if_neg (by omega), if_neg (by omega), if_neg (by omega), if_neg (by omega)]
    refine cv_iconst dX11_canBe_237 ?_
    refine cv_zret rfl dX11_canBe_238 ⟨Nat.le_refl _, Nat.le_refl _⟩ (by omega) (by rw [e0]; exact ⟨x, rfl, rfl⟩)
noncomputable def fDt (T : ctT) (V : ctS) (v : Int) : ctS := @ite _ (lnP T V) (Classical.propDecidable _) (fLn T V) (fMade T V (mkO (v % (tN T : Int)) (v / 4 % 2) (v / 8 % 10)))
theorem fDt_I {T : ctT} {V : ctS} {I : ctS → Prop} (hI : goodI T I) (hV : I V) {v : Int} : I (fDt T V v) := by
  have hN := hI.1.1
  have hN4 := hI.1.2.1
  have h1 := Int.emod_nonneg v (show (tN T : Int) ≠ 0 by omega)
  have h2 := Int.emod_lt_of_pos v (show (0 : Int) < (tN T : Int) by omega)
  unfold fDt
  split
  · rename_i h; exact ((hI.2 V hV).2.2.1 h).2.2.2.2.2
  · exact (hI.2 V hV).2.2.2.1 _ (mkO_ok (by omega) (by omega) (by omega))
set_option maxRecDepth 100000 in
set_option maxHeartbeats 1000000 in
theorem c_X11_drawOnTrial (T : ctT) (S : ctS) (n : Nat) (P : Nat → Nat) (A : Nat → ctS) (V : ctS) (x : ctX) (y : ctY) (c : ctW) (k : ctK) (sd : Int) (a : Int) (ar : 0 ≤ a ∧ a ≤ 2147483647) (I : ctS → Prop) (hI : goodI T I) (hS : I V) : CM MX11_drawOnTrial (6, 0, 0) [vR 165, vI a] (wTop T S n P A V x y c k sd) (fun v w => ∃ x1, v = none ∧ w = wTop T S n P A (fDt T V a) x1 y c k sd) := by
  refine CM.of (by decide) (Nat.le_of_ble_eq_true rfl) ?_
  show CV MX11_drawOnTrial (6, 0, 0) 209 (0, 0) 0 [(0, vR 165), (1, vI a)] [] (wTop T S n P A V x y c k sd) _
  have hT := hI.1
  have hg := (hI.2 V hS).1
  have ho := hg.1
  have hN := hT.2.1
  have hN1 := hT.1
  have i1 := ct_i_r (lnP T V)
  have h1 := Int.emod_nonneg a (show (tN T : Int) ≠ 0 by omega)
  have h2 := Int.emod_lt_of_pos a (show (0 : Int) < (tN T : Int) by omega)
  have hm := mkO_ok (a := a % (tN T : Int)) (s := a / 4 % 2) (q := a / 8 % 10) (by omega) (by omega) (by omega)
  refine cv_aload_n dX11_drawOnTrial_0 rfl ?_
  refine cv_getf flX11_32 dX11_drawOnTrial_1 rfl rfl ?_
  refine cv_topV (c_X5_canLearn T V hT ho) lkX5_canLearn mlX11_230 dX11_drawOnTrial_4 (by decide) rfl rfl (by decide) rfl (Nat.le_of_ble_eq_true rfl) ⟨Nat.le_refl _, Nat.le_refl _⟩ ?_
  intro v w1 hq
  obtain ⟨rfl, rfl⟩ := hq
  refine ⟨_, _, rfl, ?_⟩
  refine cv_if_eq (tgt := 25) dX11_drawOnTrial_7 (by decide) (by omega) (fun h7 => ?_) (fun h7 => ?_)
  · refine cv_aload_n dX11_drawOnTrial_25 rfl ?_
    refine cv_getf flX11_12 dX11_drawOnTrial_26 rfl rfl ?_
    refine cv_getf flX11_112 dX11_drawOnTrial_29 rfl rfl ?_
    refine cv_if_le (tgt := 67) dX11_drawOnTrial_32 (by decide) (by omega) (fun h32 => ?_) (fun h32 => ?_)
    · exact absurd h32 (by omega)
    · refine cv_aload_n dX11_drawOnTrial_35 rfl ?_
      refine cv_getf flX11_32 dX11_drawOnTrial_36 rfl rfl ?_
      refine cv_iload_n dX11_drawOnTrial_39 rfl ?_
      refine cv_aload_n dX11_drawOnTrial_40 rfl ?_
      refine cv_getf flX11_12 dX11_drawOnTrial_41 rfl rfl ?_
      refine cv_getf flX11_112 dX11_drawOnTrial_44 rfl rfl ?_
      refine cv_irem dX11_drawOnTrial_47 (by omega) ?_
      refine cv_iload_n dX11_drawOnTrial_48 rfl ?_
      refine cv_iconst dX11_drawOnTrial_49 ?_
      refine cv_idiv dX11_drawOnTrial_50 (by omega) ?_
      refine cv_iconst dX11_drawOnTrial_51 ?_
      refine cv_irem dX11_drawOnTrial_52 (by omega) ?_
      refine cv_iload_n dX11_drawOnTrial_53 rfl ?_
      refine cv_bipush dX11_drawOnTrial_54 (by decide) ?_
      refine cv_idiv dX11_drawOnTrial_56 (by omega) ?_
      refine cv_bipush dX11_drawOnTrial_57 (by decide) ?_
      refine cv_irem dX11_drawOnTrial_59 (by omega) ?_
      refine cv_sameS (c_X11_markOf (wTop T S n P A V x y c k sd) (a % (tN T : Int)) (a / 4 % 2) (a / 8 % 10)) lkX11_markOf mlX11_216 dX11_drawOnTrial_60 (by decide) rfl rfl (Nat.le_of_ble_eq_true rfl) ⟨Nat.le_refl _, Nat.le_refl _⟩ ?_
      intro v w1 hq
      obtain ⟨rfl, rfl⟩ := hq
      refine cv_topi (mkO (a % (tN T : Int)) (a / 4 % 2) (a / 8 % 10)) rfl ?_
      refine cv_topV (c_X5_made T V hT hg (mkO (a % (tN T : Int)) (a / 4 % 2) (a / 8 % 10)) hm) lkX5_made mlX11_227 dX11_drawOnTrial_63 (by decide) rfl rfl (by decide) rfl (Nat.le_of_ble_eq_true rfl) ⟨Nat.le_refl _, Nat.le_refl _⟩ ?_
      intro v w1 hq
      obtain ⟨rfl, rfl⟩ := hq
      refine ⟨_, _, rfl, ?_⟩
      refine cv_pop dX11_drawOnTrial_66 rfl ?_
      refine cv_ret rfl dX11_drawOnTrial_67 ⟨Nat.le_refl _, Nat.le_refl _⟩ ⟨x, rfl, by unfold fDt; rw [if_neg (ct_i_0.mp (by omega))]⟩
  · have hp := ct_i_1.mp (show ct_i (lnP T V) = 1 by omega)
    have hl := (hI.2 V hS).2.2.1 hp
    refine cv_aload_n dX11_drawOnTrial_10 rfl ?_
    refine cv_getf flX11_38 dX11_drawOnTrial_11 rfl rfl ?_
    refine cv_aload_n dX11_drawOnTrial_14 rfl ?_
    refine cv_getf flX11_32 dX11_drawOnTrial_15 rfl rfl ?_
    refine cv_topVR (c_X8_learnt T V x.1 x.2.1 hT hg hl.1 hl.2.1 hl.2.2.1 hl.2.2.2.1 hl.2.2.2.2.1) lkX8_learnt mlX11_233 dX11_drawOnTrial_18 (by decide) rfl rfl (by decide) rfl (Nat.le_of_ble_eq_true rfl) ⟨Nat.le_refl _, Nat.le_refl _⟩ ?_
    intro v w1 hq
    obtain ⟨F1, G1, rfl, rfl⟩ := hq
    refine ⟨_, _, F1, G1, rfl, ?_⟩
    refine cv_pop dX11_drawOnTrial_21 rfl ?_
    refine cv_goto (tgt := 67) dX11_drawOnTrial_22 (by decide) ?_
    refine cv_ret rfl dX11_drawOnTrial_67 ⟨Nat.le_refl _, Nat.le_refl _⟩ ⟨_, rfl, by unfold fDt; rw [if_pos hp]⟩
def lcg (s : Int) : Int := s * 6364136223846793005 + 1442695040888963407
def lcv (s : Int) : Int := s % 18446744073709551616 / 8589934592
theorem lcv_r (s : Int) : 0 ≤ lcv s ∧ lcv s ≤ 2147483647 := by unfold lcv; omega
/-- so many draws: the sum, the seed, the trial by then -/
noncomputable def fDn (T : ctT) : Nat → Int → Int → ctS → Int × Int × ctS
  | 0, u, s, V => (u, s, V)
  | j + 1, u, s, V => fDn T j (u + (sZ (fDt T V (lcv (lcg s))) : Int)) (lcg s) (fDt T V (lcv (lcg s)))
theorem fDn_I {T : ctT} {I : ctS → Prop} (hI : goodI T I) : ∀ (j : Nat) (u s : Int) {V : ctS}, I V → I (fDn T j u s V).2.2
  | 0, _, _, _, h => h
  | j + 1, u, s, V, h => fDn_I hI j _ _ (fDt_I hI h)
set_option maxRecDepth 100000 in
set_option maxHeartbeats 1000000 in
theorem c_X11_drawn (T : ctT) (S : ctS) (n : Nat) (P : Nat → Nat) (A : Nat → ctS) (V : ctS) (x : ctX) (y : ctY) (c : ctW) (k : ctK) (sd : Int) (a : Int) (ar : -2147483648 ≤ a ∧ a ≤ 2147483647) (I : ctS → Prop) (hI : goodI T I) (hS : I S) : CM MX11_drawn (7, 0, 0) [vR 165, vI a] (wTop T S n P A V x y c k sd) (fun v w => (1 ≤ a ∧ a ≤ 10 → ∃ x1, v = some (vI (fDn T a.toNat 0 sd (fCp V S)).1) ∧ w = wTop T S n P A (fDn T a.toNat 0 sd (fCp V S)).2.2 x1 y c k (fDn T a.toNat 0 sd (fCp V S)).2.1) ∧ (a < 1 ∨ 10 < a → v = some (vI (-2)) ∧ w = wTop T S n P A V x y c k sd)) := by
  refine CM.of (by decide) (Nat.le_of_ble_eq_true rfl) ?_
  show CV MX11_drawn (7, 0, 0) 209 (0, 0) 0 [(0, vR 165), (1, vI a)] [] (wTop T S n P A V x y c k sd) _
  have hw := goodI_w hI hS
  have l11 : (a < 1 ∨ 10 < a) → CV MX11_drawn (7, 0, 0) 209 (0, 0) 11 [(0, vR 165), (1, vI a)] [] (wTop T S n P A V x y c k sd) (fun v w => (1 ≤ a ∧ a ≤ 10 → ∃ x1, v = some (vI (fDn T a.toNat 0 sd (fCp V S)).1) ∧ w = wTop T S n P A (fDn T a.toNat 0 sd (fCp V S)).2.2 x1 y c k (fDn T a.toNat 0 sd (fCp V S)).2.1) ∧ (a < 1 ∨ 10 < a → v = some (vI (-2)) ∧ w = wTop T S n P A V x y c k sd)) := by
    intro  ha
    refine cv_bipush dX11_drawn_11 (by decide) ?_
    refine cv_iret rfl dX11_drawn_13 ⟨Nat.le_refl _, Nat.le_refl _⟩ ⟨fun h => absurd h (by omega), fun _ => ⟨rfl, rfl⟩⟩
  have loop : ∀ (j : Nat) (i : Nat) (u s : Int) (V1 : ctS) (x1 : ctX), (1 ≤ a ∧ a ≤ 10) → ((i + j : Nat) : Int) = a → I V1 → fDn T j u s V1 = fDn T a.toNat 0 sd (fCp V S) → CV MX11_drawn (7, 0, 0) 209 (0, 0) 29 [(0, vR 165), (1, vI a), (2, vI u), (3, vI i)] [] (wTop T S n P A V1 x1 y c k s) (fun v w => (1 ≤ a ∧ a ≤ 10 → ∃ x1, v = some (vI (fDn T a.toNat 0 sd (fCp V S)).1) ∧ w = wTop T S n P A (fDn T a.toNat 0 sd (fCp V S)).2.2 x1 y c k (fDn T a.toNat 0 sd (fCp V S)).2.1) ∧ (a < 1 ∨ 10 < a → v = some (vI (-2)) ∧ w = wTop T S n P A V x y c k sd)) := by
    intro j
    induction j with
    | zero =>
      intro i u s V1 x1 ha hj hS1 hr
      refine cv_iload_n dX11_drawn_29 rfl ?_
      refine cv_iload_n dX11_drawn_30 rfl ?_
      refine cv_icmp_ge (tgt := 81) dX11_drawn_31 (by decide) (by omega) (fun h31 => ?_) (fun h31 => ?_)
      · refine cv_iload_n dX11_drawn_81 rfl ?_
        refine cv_iret rfl dX11_drawn_82 ⟨Nat.le_refl _, Nat.le_refl _⟩ ⟨fun _ => ⟨x1, ct_rI (by rw [← hr]; rfl), by rw [← hr]; rfl⟩, fun h => absurd h (by omega)⟩
      · exact absurd h31 (by omega)
    | succ j ih =>
      intro i u s V1 x1 ha hj hS1 hr
      have hz := lcv_r (lcg s)
      refine cv_iload_n dX11_drawn_29 rfl ?_
      refine cv_iload_n dX11_drawn_30 rfl ?_
      refine cv_icmp_ge (tgt := 81) dX11_drawn_31 (by decide) (by omega) (fun h31 => ?_) (fun h31 => ?_)
      · exact absurd h31 (by omega)
      · refine cv_aload_n dX11_drawn_34 rfl ?_
        refine cv_aload_n dX11_drawn_35 rfl ?_
        refine cv_getf flX11_77 dX11_drawn_36 rfl rfl ?_
        refine cv_ldc2 dX11_drawn_39 kcX11_269 ?_
        refine cv_lmul dX11_drawn_42 ?_
        refine cv_ldc2 dX11_drawn_43 kcX11_271 ?_
        refine cv_ladd dX11_drawn_46 ?_
        refine cv_topl (lcg s) rfl ?_
        refine cv_putf fpX11_77 dX11_drawn_47 rfl (Nat.le_of_ble_eq_true rfl) (fun _ => ⟨rfl, rfl⟩) ?_
        show CV MX11_drawn (7, 0, 0) 209 (0, 0) 50 [(0, vR 165), (1, vI a), (2, vI u), (3, vI i)] [] (wTop T S n P A V1 x1 y c k (lcg s)) _
        refine cv_aload_n dX11_drawn_50 rfl ?_
        refine cv_aload_n dX11_drawn_51 rfl ?_
        refine cv_getf flX11_77 dX11_drawn_52 rfl rfl ?_
        refine cv_bipush dX11_drawn_55 (by decide) ?_
        refine cv_lushr dX11_drawn_57 (by omega) ?_
        refine cv_topl (lcv (lcg s)) rfl ?_
        refine cv_l2i dX11_drawn_58 ?_
        refine cv_sameV (c_X11_drawOnTrial T S n P A V1 x1 y c k (lcg s) (lcv (lcg s)) hz I hI hS1) lkX11_drawOnTrial mlX11_273 dX11_drawn_59 (by decide) rfl rfl (by decide) rfl (Nat.le_of_ble_eq_true rfl) ⟨Nat.le_refl _, Nat.le_refl _⟩ ?_
        intro v w1 hq
        obtain ⟨x2, rfl, rfl⟩ := hq
        refine cv_iload_n dX11_drawn_62 rfl ?_
        refine cv_aload_n dX11_drawn_63 rfl ?_
        refine cv_getf flX11_32 dX11_drawn_64 rfl rfl ?_
        refine cv_getf flX11_115 dX11_drawn_67 rfl rfl ?_
        refine cv_getf flX11_119 dX11_drawn_70 rfl rfl ?_
        refine cv_iadd dX11_drawn_73 ?_
        refine cv_istore_n dX11_drawn_74 (by decide) rfl rfl ?_
        refine cv_iinc dX11_drawn_75 (by decide) rfl rfl rfl ?_
        refine cv_goto (tgt := 29) dX11_drawn_78 (by decide) ?_
        exact ih (i + 1) _ (lcg s) (fDt T V1 (lcv (lcg s))) x2 ha (by omega) (fDt_I hI hS1) hr
  refine cv_iload_n dX11_drawn_0 rfl ?_
  refine cv_iconst dX11_drawn_1 ?_
  refine cv_icmp_lt (tgt := 11) dX11_drawn_2 (by decide) (by omega) (fun h2 => ?_) (fun h2 => ?_)
  · exact l11 (by omega)
  · refine cv_iload_n dX11_drawn_5 rfl ?_
    refine cv_bipush dX11_drawn_6 (by decide) ?_
    refine cv_icmp_le (tgt := 14) dX11_drawn_8 (by decide) (by omega) (fun h8 => ?_) (fun h8 => ?_)
    · refine cv_aload_n dX11_drawn_14 rfl ?_
      refine cv_getf flX11_32 dX11_drawn_15 rfl rfl ?_
      refine cv_aload_n dX11_drawn_18 rfl ?_
      refine cv_getf flX11_28 dX11_drawn_19 rfl rfl ?_
      refine cv_topCp (c_X5_copy T V S hw.1 hw.2.1 hw.2.2) lkX5_copy mlX11_248 dX11_drawn_22 (by decide) rfl rfl (by decide) rfl (Nat.le_of_ble_eq_true rfl) ⟨Nat.le_refl _, Nat.le_refl _⟩ ?_
      intro v w1 hq
      obtain ⟨rfl, rfl⟩ := hq
      refine ⟨_, _, _, rfl, ?_⟩
      refine cv_iconst dX11_drawn_25 ?_
      refine cv_istore_n dX11_drawn_26 (by decide) rfl rfl ?_
      refine cv_iconst dX11_drawn_27 ?_
      refine cv_istore_n dX11_drawn_28 (by decide) rfl rfl ?_
      exact loop a.toNat 0 0 sd (fCp V S) x (by omega) (by omega) ((hI.2 S hS).2.2.2.2 V) rfl
    · exact l11 (by omega)
