/-! THE TEXT, READ BY THE REFERENCE -/
def FR (o : Nat → Int) (A : Nat → Nat → Int) (o1 : Nat → Int) (A1 : Nat → Nat → Int) : Prop := (∀ i, i < 5 → o1 i = o i) ∧ (∀ a, a < 12 → A1 a = A a)
theorem FR_t {o o1 o2 : Nat → Int} {A A1 A2 : Nat → Nat → Int} (h : FR o A o1 A1) (k : FR o1 A1 o2 A2) : FR o A o2 A2 := ⟨fun i hi => (k.1 i hi).trans (h.1 i hi), fun a ha => (k.2 a ha).trans (h.2 a ha)⟩
theorem FR_r (o : Nat → Int) (A : Nat → Nat → Int) : FR o A o A := ⟨fun _ _ => rfl, fun _ _ => rfl⟩
theorem FR_o {o o1 : Nat → Int} {A A1 : Nat → Nat → Int} (h : FR o A o1 A1) {k : Nat} (hk : 5 ≤ k) (x : Int) : FR o A (upA o1 k x) A1 := ⟨fun i hi => by rw [upA_n (by omega)]; exact h.1 i hi, h.2⟩
theorem FR_A {o o1 : Nat → Int} {A A1 : Nat → Nat → Int} (h : FR o A o1 A1) {k : Nat} (hk : 12 ≤ k) (x : Nat → Int) : FR o A o1 (upA A1 k x) := ⟨h.1, fun a ha => by rw [upA_n (by omega)]; exact h.2 a ha⟩
def pS (N r : Nat) : Nat := 2 + N + r * (N + 4)
def RI (N : Nat) (f : Nat → Int) (r t : Nat) (o : Nat → Int) (A : Nat → Nat → Int) : Prop := o 5 = (N : Int) ∧ o 6 = (r : Int) ∧ o 7 = (t : Int) ∧ (∀ x, x < N → A 16 x = f (2 + x) - 48) ∧ (∀ r', r' < r → (∀ x, x < N → A 17 (4 * r' + x) = fWt (f (pS N r' + 1 + x))) ∧ A 18 r' = fBd f (pS N r') N) ∧ (∀ x, x < N → x + 1 < t → A 17 (4 * r + x) = fWt (f (pS N r + 1 + x))) ∧ (N + 1 < t → (f (pS N r + N + 1) = 43 ∧ o 8 = 1) ∨ (f (pS N r + N + 1) = 45 ∧ o 8 = -1)) ∧ (N + 2 < t → A 18 r = f (pS N r + N + 2) - 48)
theorem RI_0 {N r : Nat} {f o : Nat → Int} {A : Nat → Nat → Int} (h : RI N f r 0 o A) : RI N f r 1 (upA o 7 (o 7 + 1)) A := by
  obtain ⟨h1, h2, h3, h4, h5, h6, h7, h8⟩ := h
  exact ⟨h1, h2, by show o 7 + 1 = _; omega, h4, h5, fun x _ hx => absurd hx (by omega), fun hx => absurd hx (by omega), fun hx => absurd hx (by omega)⟩
theorem RI_w {N r t : Nat} {f o : Nat → Int} {A : Nat → Nat → Int} (h : RI N f r t o A) (hN : N ≤ 4) (ht : 1 ≤ t) (h2t : t ≤ N) {w : Int} (hw : w = fWt (f (pS N r + t))) : RI N f r (t + 1) (upA o 7 (o 7 + 1)) (upA A 17 (ct_up (A 17) (4 * r + t - 1) w)) := by
  obtain ⟨h1, h2, h3, h4, h5, h6, h7, h8⟩ := h
  refine ⟨h1, h2, by show o 7 + 1 = ((t + 1 : Nat) : Int); omega, h4, fun r' hr => ⟨fun x hx => ?_, (h5 r' hr).2⟩, fun x hx hxt => ?_, fun hx => absurd hx (by omega), fun hx => absurd hx (by omega)⟩
  · show ct_up (A 17) (4 * r + t - 1) w (4 * r' + x) = _
    rw [ct_up_n (by omega)]
    exact (h5 r' hr).1 x hx
  · show ct_up (A 17) (4 * r + t - 1) w (4 * r + x) = _
    by_cases e : x + 1 = t
    · rw [show 4 * r + x = 4 * r + t - 1 by omega, ct_up_s, hw, show pS N r + 1 + x = pS N r + t by omega]
    · rw [ct_up_n (by omega)]
      exact h6 x hx (by omega)
theorem RI_s {N r : Nat} {f o : Nat → Int} {A : Nat → Nat → Int} (h : RI N f r (N + 1) o A) {g : Int} (hg : (f (pS N r + N + 1) = 43 ∧ g = 1) ∨ (f (pS N r + N + 1) = 45 ∧ g = -1)) : RI N f r (N + 2) (upA (upA o 7 (o 7 + 1)) 8 g) A := by
  obtain ⟨h1, h2, h3, h4, h5, h6, h7, h8⟩ := h
  exact ⟨h1, h2, by show o 7 + 1 = ((N + 2 : Nat) : Int); omega, h4, h5, fun x hx _ => h6 x hx (by omega), fun _ => hg, fun hx => absurd hx (by omega)⟩
theorem RI_b {N r : Nat} {f o : Nat → Int} {A : Nat → Nat → Int} (h : RI N f r (N + 2) o A) {w : Int} (hw : w = f (pS N r + N + 2) - 48) : RI N f r (N + 3) (upA o 7 (o 7 + 1)) (upA A 18 (ct_up (A 18) r w)) := by
  obtain ⟨h1, h2, h3, h4, h5, h6, h7, h8⟩ := h
  refine ⟨h1, h2, by show o 7 + 1 = ((N + 3 : Nat) : Int); omega, h4, fun r' hr => ⟨(h5 r' hr).1, ?_⟩, fun x hx _ => h6 x hx (by omega), fun _ => h7 (by omega), fun _ => ?_⟩
  · show ct_up (A 18) r w r' = _
    rw [ct_up_n (by omega)]
    exact (h5 r' hr).2
  · show ct_up (A 18) r w r = _
    rw [ct_up_s, hw]
theorem RI_e {N r : Nat} {f o : Nat → Int} {A : Nat → Nat → Int} (h : RI N f r (N + 3) o A) {w : Int} (hw : w = o 8 * (10 * A 18 r + f (pS N r + N + 3) - 48)) : RI N f (r + 1) 0 (upA (upA (upA o 7 (o 7 + 1)) 6 (o 6 + 1)) 7 0) (upA A 18 (ct_up (A 18) r w)) := by
  obtain ⟨h1, h2, h3, h4, h5, h6, h7, h8⟩ := h
  have k8 := h8 (by omega)
  have k7 := h7 (by omega)
  refine ⟨h1, by show o 6 + 1 = ((r + 1 : Nat) : Int); omega, rfl, h4, fun r' hr => ⟨fun x hx => ?_, ?_⟩, fun x _ hx => absurd hx (by omega), fun hx => absurd hx (by omega), fun hx => absurd hx (by omega)⟩
  · by_cases e : r' = r
    · subst e; exact h6 x hx (by omega)
    · exact (h5 r' (by omega)).1 x hx
  · show ct_up (A 18) r w r' = _
    by_cases e : r' = r
    · subst e
      rw [ct_up_s, hw, k8]
      unfold fBd
      rcases k7 with z | z
      · rw [if_neg (by omega), z.2]; omega
      · rw [if_pos z.1, z.2]; omega
    · rw [ct_up_n e]; exact (h5 r' (by omega)).2
set_option maxRecDepth 100000 in
set_option maxHeartbeats 1000000 in
theorem c_X12_takeHead1 (u v : Nat) (T : ctT) (o : Nat → Int) (A : Nat → Nat → Int) (tm tr : Int) (p st : Nat → Int) (a : Int) (ha : -100 ≤ a ∧ a ≤ 300) : CM MX12_takeHead (1, 0, 0) [vR 0, vI 1, vI a] (wM u v T o A tm tr p st) (fun v1 w => v1 = some (vI (ct_i (1 ≤ a ∧ a ≤ 4))) ∧ w = wM u v T (upA o 5 a) A tm tr p st) := by
  refine CM.of (by decide) (Nat.le_of_ble_eq_true rfl) ?_
  show CV MX12_takeHead (1, 0, 0) 19 (0, 0) 0 [(0, vR 0), (1, vI 1), (2, vI a)] [] (wM u v T o A tm tr p st) _
  have i0 := ct_i_z (1 ≤ a ∧ a ≤ 4)
  refine cv_iload_n dX12_takeHead_0 rfl ?_
  refine cv_iconst dX12_takeHead_1 ?_
  refine cv_icmp_ne (tgt := 20) dX12_takeHead_2 (by decide) (by omega) (fun h2 => ?_) (fun h2 => ?_)
  · exact absurd rfl h2
  · refine cv_aload_n dX12_takeHead_5 rfl ?_
    refine cv_iload_n dX12_takeHead_6 rfl ?_
    refine cv_putf fpX12_78 dX12_takeHead_7 rfl (Nat.le_of_ble_eq_true rfl) (fun _ => ⟨rfl, rfl⟩) ?_
    refine cv_iload_n dX12_takeHead_10 rfl ?_
    refine cv_i2l dX12_takeHead_11 (by omega) ?_
    refine cv_lconst (v := 1) dX12_takeHead_12 (by decide) ?_
    refine cv_ldc2 dX12_takeHead_13 kcX12_81 ?_
    refine cv_sameS (c_X12_in (wM u v T (upA o 5 a) A tm tr p st) a 1 4 (by omega) (by omega) (by omega)) lkX12_in mlX12_69 dX12_takeHead_16 (by decide) rfl rfl (Nat.le_of_ble_eq_true rfl) ⟨Nat.le_refl _, Nat.le_refl _⟩ ?_
    intro v w1 hq
    obtain ⟨rfl, rfl⟩ := hq
    refine cv_zret rfl dX12_takeHead_19 ⟨Nat.le_refl _, Nat.le_refl _⟩ i0 ⟨rfl, rfl⟩
set_option maxRecDepth 100000 in
set_option maxHeartbeats 1000000 in
theorem c_X12_takeHead2 (u v : Nat) (T : ctT) (o : Nat → Int) (A : Nat → Nat → Int) (tm tr : Int) (p st : Nat → Int) (k : Nat) (hk : 2 ≤ k ∧ k < 6) (a : Int) (ha : -100 ≤ a ∧ a ≤ 300) : CM MX12_takeHead (1, 0, 0) [vR 0, vI k, vI a] (wM u v T o A tm tr p st) (fun v1 w => v1 = some (vI (ct_i (0 ≤ a ∧ a ≤ 9))) ∧ w = wM u v T o (upA A 16 (ct_up (A 16) (k - 2) a)) tm tr p st) := by
  refine CM.of (by decide) (Nat.le_of_ble_eq_true rfl) ?_
  show CV MX12_takeHead (1, 0, 0) 19 (0, 0) 0 [(0, vR 0), (1, vI k), (2, vI a)] [] (wM u v T o A tm tr p st) _
  have i0 := ct_i_z (0 ≤ a ∧ a ≤ 9)
  refine cv_iload_n dX12_takeHead_0 rfl ?_
  refine cv_iconst dX12_takeHead_1 ?_
  refine cv_icmp_ne (tgt := 20) dX12_takeHead_2 (by decide) (by omega) (fun h2 => ?_) (fun h2 => ?_)
  · refine cv_aload_n dX12_takeHead_20 rfl ?_
    refine cv_getf flX12_56 dX12_takeHead_21 rfl rfl ?_
    refine cv_iload_n dX12_takeHead_24 rfl ?_
    refine cv_iconst dX12_takeHead_25 ?_
    refine cv_isub dX12_takeHead_26 ?_
    refine cv_iload_n dX12_takeHead_27 rfl ?_
    refine cv_iasj (k - 2) dX12_takeHead_28 rfl (by omega) (by omega) ?_
    refine cv_iload_n dX12_takeHead_29 rfl ?_
    refine cv_i2l dX12_takeHead_30 (by omega) ?_
    refine cv_lconst (v := 0) dX12_takeHead_31 (by decide) ?_
    refine cv_ldc2 dX12_takeHead_32 kcX12_83 ?_
    refine cv_sameS (c_X12_in (wM u v T o (upA A 16 (ct_up (A 16) (k - 2) a)) tm tr p st) a 0 9 (by omega) (by omega) (by omega)) lkX12_in mlX12_69 dX12_takeHead_35 (by decide) rfl rfl (Nat.le_of_ble_eq_true rfl) ⟨Nat.le_refl _, Nat.le_refl _⟩ ?_
    intro v w1 hq
    obtain ⟨rfl, rfl⟩ := hq
    refine cv_zret rfl dX12_takeHead_38 ⟨Nat.le_refl _, Nat.le_refl _⟩ i0 ⟨rfl, rfl⟩
  · exact absurd h2 (by omega)
set_option maxRecDepth 100000 in
set_option maxHeartbeats 1000000 in
theorem c_X12_takeOfRule (u v : Nat) (T : ctT) (o : Nat → Int) (A : Nat → Nat → Int) (tm tr : Int) (p st : Nat → Int) (N r t k : Nat) (f : Nat → Int) (hN : 1 ≤ N ∧ N ≤ 4) (hr : r ≤ 6) (hrt : ¬ t = 0 → r < 6) (ht : t < N + 4) (hk : k = pS N r + t) (hf : 0 ≤ f k ∧ f k ≤ 255) (hf1 : 0 ≤ f (k - 1) ∧ f (k - 1) ≤ 255) (hR : RI N f r t o A) : CM MX12_takeOfRule (1, 0, 0) [vR 0, vI (f k)] (wM u v T o A tm tr p st) (fun v1 w => ∃ o1 A1, v1 = some (vI (ct_i (r < 6 ∧ crP f k t N))) ∧ w = wM u v T o1 A1 tm tr p st ∧ FR o A o1 A1 ∧ ((r < 6 ∧ crP f k t N) → RI N f (if t = N + 3 then r + 1 else r) (if t = N + 3 then 0 else t + 1) o1 A1)) := by
  refine CM.of (by decide) (Nat.le_of_ble_eq_true rfl) ?_
  show CV MX12_takeOfRule (1, 0, 0) 19 (0, 0) 0 [(0, vR 0), (1, vI (f k))] [] (wM u v T o A tm tr p st) _
  obtain ⟨q5, q6, q7, -, -, -, -, -⟩ := id hR
  refine cv_aload_n dX12_takeOfRule_0 rfl ?_
  refine cv_getf flX12_85 dX12_takeOfRule_1 rfl rfl ?_
  refine cv_istore_n dX12_takeOfRule_4 (by decide) rfl rfl ?_
  refine cv_aload_n dX12_takeOfRule_5 rfl ?_
  refine cv_dup dX12_takeOfRule_6 rfl ?_
  refine cv_getf flX12_85 dX12_takeOfRule_7 rfl rfl ?_
  refine cv_iconst dX12_takeOfRule_10 ?_
  refine cv_iadd dX12_takeOfRule_11 ?_
  refine cv_putf fpX12_85 dX12_takeOfRule_12 rfl (Nat.le_of_ble_eq_true rfl) (fun _ => ⟨rfl, rfl⟩) ?_
  refine cv_iload_n dX12_takeOfRule_15 rfl ?_
  refine cv_if_ne (tgt := 40) dX12_takeOfRule_16 (by decide) (by omega) (fun h16 => ?_) (fun h16 => ?_)
  · refine cv_iload_n dX12_takeOfRule_40 rfl ?_
    refine cv_aload_n dX12_takeOfRule_41 rfl ?_
    refine cv_getf flX12_78 dX12_takeOfRule_42 rfl rfl ?_
    refine cv_icmp_gt (tgt := 114) dX12_takeOfRule_45 (by decide) (by show -2147483648 ≤ o 7 ∧ o 7 ≤ 2147483647 ∧ -2147483648 ≤ o 5 ∧ o 5 ≤ 2147483647; omega) (fun h45 => ?_) (fun h45 => ?_)
    · refine cv_iload_n dX12_takeOfRule_114 rfl ?_
      refine cv_aload_n dX12_takeOfRule_115 rfl ?_
      refine cv_getf flX12_78 dX12_takeOfRule_116 rfl rfl ?_
      refine cv_iconst dX12_takeOfRule_119 ?_
      refine cv_iadd dX12_takeOfRule_120 ?_
      refine cv_icmp_ne (tgt := 157) dX12_takeOfRule_121 (by decide) (by show -2147483648 ≤ o 7 ∧ o 7 ≤ 2147483647 ∧ -2147483648 ≤ o 5 + 1 ∧ o 5 + 1 ≤ 2147483647; omega) (fun h121 => ?_) (fun h121 => ?_)
      · refine cv_iload_n dX12_takeOfRule_157 rfl ?_
        refine cv_aload_n dX12_takeOfRule_158 rfl ?_
        refine cv_getf flX12_78 dX12_takeOfRule_159 rfl rfl ?_
        refine cv_iconst dX12_takeOfRule_162 ?_
        refine cv_iadd dX12_takeOfRule_163 ?_
        refine cv_icmp_ne (tgt := 192) dX12_takeOfRule_164 (by decide) (by show -2147483648 ≤ o 7 ∧ o 7 ≤ 2147483647 ∧ -2147483648 ≤ o 5 + 2 ∧ o 5 + 2 ≤ 2147483647; omega) (fun h164 => ?_) (fun h164 => ?_)
        · refine cv_aload_n dX12_takeOfRule_192 rfl ?_
          refine cv_getf flX12_62 dX12_takeOfRule_193 rfl rfl ?_
          refine cv_aload_n dX12_takeOfRule_196 rfl ?_
          refine cv_getf flX12_88 dX12_takeOfRule_197 rfl rfl ?_
          refine cv_ialj (r) dX12_takeOfRule_200 rfl (by show o 6 = _; omega) (by omega) ?_
          refine cv_istore_n dX12_takeOfRule_201 (by decide) rfl rfl ?_
          have t3 : t = N + 3 := by omega
          subst t3
          have a18 := hR.2.2.2.2.2.2.2 (by omega)
          have ek : pS N r + N + 2 = k - 1 := by omega
          rw [ek] at a18
          refine cv_aload_n dX12_takeOfRule_202 rfl ?_
          refine cv_getf flX12_62 dX12_takeOfRule_203 rfl rfl ?_
          refine cv_aload_n dX12_takeOfRule_206 rfl ?_
          refine cv_getf flX12_88 dX12_takeOfRule_207 rfl rfl ?_
          refine cv_aload_n dX12_takeOfRule_210 rfl ?_
          refine cv_getf flX12_99 dX12_takeOfRule_211 rfl rfl ?_
          refine cv_bipush dX12_takeOfRule_214 (by decide) ?_
          refine cv_iload_n dX12_takeOfRule_216 rfl ?_
          refine cv_imul dX12_takeOfRule_217 ?_
          refine cv_iload_n dX12_takeOfRule_218 rfl ?_
          refine cv_iadd dX12_takeOfRule_219 ?_
          refine cv_bipush dX12_takeOfRule_220 (by decide) ?_
          refine cv_isub dX12_takeOfRule_222 ?_
          refine cv_imul dX12_takeOfRule_223 ?_
          refine cv_iasj (r) dX12_takeOfRule_224 rfl (by show o 6 = _; omega) (by omega) ?_
          refine cv_aload_n dX12_takeOfRule_225 rfl ?_
          refine cv_dup dX12_takeOfRule_226 rfl ?_
          refine cv_getf flX12_88 dX12_takeOfRule_227 rfl rfl ?_
          refine cv_iconst dX12_takeOfRule_230 ?_
          refine cv_iadd dX12_takeOfRule_231 ?_
          refine cv_putf fpX12_88 dX12_takeOfRule_232 rfl (Nat.le_of_ble_eq_true rfl) (fun _ => ⟨rfl, rfl⟩) ?_
          refine cv_aload_n dX12_takeOfRule_235 rfl ?_
          refine cv_iconst dX12_takeOfRule_236 ?_
          refine cv_putf fpX12_85 dX12_takeOfRule_237 rfl (Nat.le_of_ble_eq_true rfl) (fun _ => ⟨rfl, rfl⟩) ?_
          refine cv_iload_n dX12_takeOfRule_240 rfl ?_
          refine cv_i2l dX12_takeOfRule_241 (by omega) ?_
          refine cv_ldc2 dX12_takeOfRule_242 kcX12_91 ?_
          refine cv_iload_n dX12_takeOfRule_245 rfl ?_
          refine cv_iconst dX12_takeOfRule_246 ?_
          refine cv_icmp_ne (tgt := 256) dX12_takeOfRule_247 (by decide) (by show -2147483648 ≤ A 18 r ∧ A 18 r ≤ 2147483647 ∧ _; omega) (fun h247 => ?_) (fun h247 => ?_)
          · refine cv_ldc2 dX12_takeOfRule_256 kcX12_102 ?_
            refine cv_sameS (c_X12_in (wM u v T (upA (upA (upA o 7 (o 7 + 1)) 6 (o 6 + 1)) 7 0) (upA A 18 (ct_up (A 18) r (o 8 * (10 * A 18 r + f k - 48)))) tm tr p st) (f k) 48 57 (by omega) (by omega) (by omega)) lkX12_in mlX12_69 dX12_takeOfRule_259 (by decide) rfl rfl (Nat.le_of_ble_eq_true rfl) ⟨Nat.le_refl _, Nat.le_refl _⟩ ?_
            intro v w1 hq
            obtain ⟨rfl, rfl⟩ := hq
            have i259 := ct_i_z (48 ≤ f k ∧ f k ≤ 48)
            have i259b := ct_i_z (48 ≤ f k ∧ f k ≤ 57)
            refine cv_zret rfl dX12_takeOfRule_262 ⟨Nat.le_refl _, Nat.le_refl _⟩ (by first | exact i259 | exact i259b) ⟨(upA (upA (upA o 7 (o 7 + 1)) 6 (o 6 + 1)) 7 0), (upA A 18 (ct_up (A 18) r (o 8 * (10 * A 18 r + f k - 48)))), ct_rI (ct_i_c ⟨fun z => ⟨by omega, by unfold crP; omega⟩, fun z => by have z2 := z.2.2.2.2.2 (by omega) (by omega) (by omega); omega⟩), rfl, FR_A (FR_o (FR_o (FR_o (FR_r o A) (by omega) _) (by omega) _) (by omega) _) (by omega) _, fun _ => by
      rw [if_pos rfl, if_pos rfl]
      exact RI_e hR (by rw [show pS N r + N + 3 = k by omega])⟩
          · refine cv_ldc2 dX12_takeOfRule_250 kcX12_91 ?_
            refine cv_goto (tgt := 259) dX12_takeOfRule_253 (by decide) ?_
            refine cv_sameS (c_X12_in (wM u v T (upA (upA (upA o 7 (o 7 + 1)) 6 (o 6 + 1)) 7 0) (upA A 18 (ct_up (A 18) r (o 8 * (10 * A 18 r + f k - 48)))) tm tr p st) (f k) 48 48 (by omega) (by omega) (by omega)) lkX12_in mlX12_69 dX12_takeOfRule_259 (by decide) rfl rfl (Nat.le_of_ble_eq_true rfl) ⟨Nat.le_refl _, Nat.le_refl _⟩ ?_
            intro v w1 hq
            obtain ⟨rfl, rfl⟩ := hq
            have i259 := ct_i_z (48 ≤ f k ∧ f k ≤ 48)
            have i259b := ct_i_z (48 ≤ f k ∧ f k ≤ 57)
            refine cv_zret rfl dX12_takeOfRule_262 ⟨Nat.le_refl _, Nat.le_refl _⟩ (by first | exact i259 | exact i259b) ⟨(upA (upA (upA o 7 (o 7 + 1)) 6 (o 6 + 1)) 7 0), (upA A 18 (ct_up (A 18) r (o 8 * (10 * A 18 r + f k - 48)))), ct_rI (ct_i_c ⟨fun z => ⟨by omega, by unfold crP; omega⟩, fun z => by have z2 := z.2.2.2.2.2 (by omega) (by omega) (by omega); omega⟩), rfl, FR_A (FR_o (FR_o (FR_o (FR_r o A) (by omega) _) (by omega) _) (by omega) _) (by omega) _, fun _ => by
      rw [if_pos rfl, if_pos rfl]
      exact RI_e hR (by rw [show pS N r + N + 3 = k by omega])⟩
        · refine cv_aload_n dX12_takeOfRule_167 rfl ?_
          refine cv_getf flX12_62 dX12_takeOfRule_168 rfl rfl ?_
          refine cv_aload_n dX12_takeOfRule_171 rfl ?_
          refine cv_getf flX12_88 dX12_takeOfRule_172 rfl rfl ?_
          refine cv_iload_n dX12_takeOfRule_175 rfl ?_
          refine cv_bipush dX12_takeOfRule_176 (by decide) ?_
          refine cv_isub dX12_takeOfRule_178 ?_
          refine cv_iasj (r) dX12_takeOfRule_179 rfl (by show o 6 = _; omega) (by omega) ?_
          refine cv_iload_n dX12_takeOfRule_180 rfl ?_
          refine cv_i2l dX12_takeOfRule_181 (by omega) ?_
          refine cv_ldc2 dX12_takeOfRule_182 kcX12_91 ?_
          refine cv_ldc2 dX12_takeOfRule_185 kcX12_93 ?_
          refine cv_sameS (c_X12_in (wM u v T (upA o 7 (o 7 + 1)) (upA A 18 (ct_up (A 18) r (f k - 48))) tm tr p st) (f k) 48 51 (by omega) (by omega) (by omega)) lkX12_in mlX12_69 dX12_takeOfRule_188 (by decide) rfl rfl (Nat.le_of_ble_eq_true rfl) ⟨Nat.le_refl _, Nat.le_refl _⟩ ?_
          intro v w1 hq
          obtain ⟨rfl, rfl⟩ := hq
          have i188 := ct_i_z (48 ≤ f k ∧ f k ≤ 51)
          refine cv_zret rfl dX12_takeOfRule_191 ⟨Nat.le_refl _, Nat.le_refl _⟩ (by omega) ⟨(upA o 7 (o 7 + 1)), (upA A 18 (ct_up (A 18) r (f k - 48))), ct_rI (ct_i_c ⟨fun z => ⟨by omega, by unfold crP; omega⟩, fun z => z.2.2.2.2.1 (by omega) (by omega)⟩), rfl, FR_A (FR_o (FR_r o A) (by omega) _) (by omega) _, fun _ => by
      rw [if_neg (by omega), if_neg (by omega)]
      have t2 : t = N + 2 := by omega
      subst t2
      exact RI_b hR (by rw [show pS N r + N + 2 = k by omega])⟩
      · refine cv_aload_n dX12_takeOfRule_124 rfl ?_
        refine cv_iload_n dX12_takeOfRule_125 rfl ?_
        refine cv_bipush dX12_takeOfRule_126 (by decide) ?_
        refine cv_icmp_ne (tgt := 135) dX12_takeOfRule_128 (by decide) (by omega) (fun h128 => ?_) (fun h128 => ?_)
        · refine cv_iconst dX12_takeOfRule_135 ?_
          refine cv_putf fpX12_99 dX12_takeOfRule_136 rfl (Nat.le_of_ble_eq_true rfl) (fun _ => ⟨rfl, rfl⟩) ?_
          refine cv_iload_n dX12_takeOfRule_139 rfl ?_
          refine cv_bipush dX12_takeOfRule_140 (by decide) ?_
          refine cv_icmp_eq (tgt := 151) dX12_takeOfRule_142 (by decide) (by omega) (fun h142 => ?_) (fun h142 => ?_)
          · refine cv_iconst dX12_takeOfRule_151 ?_
            refine cv_goto (tgt := 156) dX12_takeOfRule_152 (by decide) ?_
            refine cv_zret rfl dX12_takeOfRule_156 ⟨Nat.le_refl _, Nat.le_refl _⟩ (by omega) ⟨(upA (upA o 7 (o 7 + 1)) 8 (-1)), A, ct_rI (ct_i_t ⟨by omega, by unfold crP; omega⟩).symm, rfl, FR_o (FR_o (FR_r o A) (by omega) _) (by omega) _, fun _ => by
      rw [if_neg (by omega), if_neg (by omega)]
      have t1 : t = N + 1 := by omega
      subst t1
      exact RI_s hR (by rw [show pS N r + N + 1 = k by omega]; omega)⟩
          · refine cv_iload_n dX12_takeOfRule_145 rfl ?_
            refine cv_bipush dX12_takeOfRule_146 (by decide) ?_
            refine cv_icmp_ne (tgt := 155) dX12_takeOfRule_148 (by decide) (by omega) (fun h148 => ?_) (fun h148 => ?_)
            · refine cv_iconst dX12_takeOfRule_155 ?_
              refine cv_zret rfl dX12_takeOfRule_156 ⟨Nat.le_refl _, Nat.le_refl _⟩ (by omega) ⟨(upA (upA o 7 (o 7 + 1)) 8 (-1)), A, ct_rI (ct_i_f (fun z => by have z2 := z.2.2.2.1 (by omega) (by omega); omega)).symm, rfl, FR_o (FR_o (FR_r o A) (by omega) _) (by omega) _, fun z => by
      have z2 := z.2.2.2.1 (by omega) (by omega)
      omega⟩
            · refine cv_iconst dX12_takeOfRule_151 ?_
              refine cv_goto (tgt := 156) dX12_takeOfRule_152 (by decide) ?_
              refine cv_zret rfl dX12_takeOfRule_156 ⟨Nat.le_refl _, Nat.le_refl _⟩ (by omega) ⟨(upA (upA o 7 (o 7 + 1)) 8 (-1)), A, ct_rI (ct_i_t ⟨by omega, by unfold crP; omega⟩).symm, rfl, FR_o (FR_o (FR_r o A) (by omega) _) (by omega) _, fun _ => by
      rw [if_neg (by omega), if_neg (by omega)]
      have t1 : t = N + 1 := by omega
      subst t1
      exact RI_s hR (by rw [show pS N r + N + 1 = k by omega]; omega)⟩
        · refine cv_iconst dX12_takeOfRule_131 ?_
          refine cv_goto (tgt := 136) dX12_takeOfRule_132 (by decide) ?_
          refine cv_putf fpX12_99 dX12_takeOfRule_136 rfl (Nat.le_of_ble_eq_true rfl) (fun _ => ⟨rfl, rfl⟩) ?_
          refine cv_iload_n dX12_takeOfRule_139 rfl ?_
          refine cv_bipush dX12_takeOfRule_140 (by decide) ?_
          refine cv_icmp_eq (tgt := 151) dX12_takeOfRule_142 (by decide) (by omega) (fun h142 => ?_) (fun h142 => ?_)
          · refine cv_iconst dX12_takeOfRule_151 ?_
            refine cv_goto (tgt := 156) dX12_takeOfRule_152 (by decide) ?_
            refine cv_zret rfl dX12_takeOfRule_156 ⟨Nat.le_refl _, Nat.le_refl _⟩ (by omega) ⟨(upA (upA o 7 (o 7 + 1)) 8 1), A, ct_rI (ct_i_t ⟨by omega, by unfold crP; omega⟩).symm, rfl, FR_o (FR_o (FR_r o A) (by omega) _) (by omega) _, fun _ => by
      rw [if_neg (by omega), if_neg (by omega)]
      have t1 : t = N + 1 := by omega
      subst t1
      exact RI_s hR (by rw [show pS N r + N + 1 = k by omega]; omega)⟩
          · refine cv_iload_n dX12_takeOfRule_145 rfl ?_
            refine cv_bipush dX12_takeOfRule_146 (by decide) ?_
            refine cv_icmp_ne (tgt := 155) dX12_takeOfRule_148 (by decide) (by omega) (fun h148 => ?_) (fun h148 => ?_)
            · refine cv_iconst dX12_takeOfRule_155 ?_
              refine cv_zret rfl dX12_takeOfRule_156 ⟨Nat.le_refl _, Nat.le_refl _⟩ (by omega) ⟨(upA (upA o 7 (o 7 + 1)) 8 1), A, ct_rI (ct_i_f (fun z => by have z2 := z.2.2.2.1 (by omega) (by omega); omega)).symm, rfl, FR_o (FR_o (FR_r o A) (by omega) _) (by omega) _, fun z => by
      have z2 := z.2.2.2.1 (by omega) (by omega)
      omega⟩
            · refine cv_iconst dX12_takeOfRule_151 ?_
              refine cv_goto (tgt := 156) dX12_takeOfRule_152 (by decide) ?_
              refine cv_zret rfl dX12_takeOfRule_156 ⟨Nat.le_refl _, Nat.le_refl _⟩ (by omega) ⟨(upA (upA o 7 (o 7 + 1)) 8 1), A, ct_rI (ct_i_t ⟨by omega, by unfold crP; omega⟩).symm, rfl, FR_o (FR_o (FR_r o A) (by omega) _) (by omega) _, fun _ => by
      rw [if_neg (by omega), if_neg (by omega)]
      have t1 : t = N + 1 := by omega
      subst t1
      exact RI_s hR (by rw [show pS N r + N + 1 = k by omega]; omega)⟩
    · refine cv_iload_n dX12_takeOfRule_48 rfl ?_
      refine cv_i2l dX12_takeOfRule_49 (by omega) ?_
      refine cv_ldc2 dX12_takeOfRule_50 kcX12_91 ?_
      refine cv_ldc2 dX12_takeOfRule_53 kcX12_93 ?_
      refine cv_sameS (c_X12_in (wM u v T (upA o 7 (o 7 + 1)) A tm tr p st) (f k) 48 51 (by omega) (by omega) (by omega)) lkX12_in mlX12_69 dX12_takeOfRule_56 (by decide) rfl rfl (Nat.le_of_ble_eq_true rfl) ⟨Nat.le_refl _, Nat.le_refl _⟩ ?_
      intro v w1 hq
      obtain ⟨rfl, rfl⟩ := hq
      have i56 := ct_i_r (48 ≤ f k ∧ f k ≤ 51)
      refine cv_istore_n dX12_takeOfRule_59 (by decide) rfl rfl ?_
      refine cv_aload_n dX12_takeOfRule_60 rfl ?_
      refine cv_getf flX12_59 dX12_takeOfRule_61 rfl rfl ?_
      refine cv_iconst dX12_takeOfRule_64 ?_
      refine cv_aload_n dX12_takeOfRule_65 rfl ?_
      refine cv_getf flX12_88 dX12_takeOfRule_66 rfl rfl ?_
      refine cv_imul dX12_takeOfRule_69 ?_
      refine cv_iload_n dX12_takeOfRule_70 rfl ?_
      refine cv_iadd dX12_takeOfRule_71 ?_
      refine cv_iconst dX12_takeOfRule_72 ?_
      refine cv_isub dX12_takeOfRule_73 ?_
      refine cv_iload_n dX12_takeOfRule_74 rfl ?_
      refine cv_if_eq (tgt := 85) dX12_takeOfRule_75 (by decide) (by omega) (fun h75 => ?_) (fun h75 => ?_)
      · have c56 : ¬ (48 ≤ f k ∧ f k ≤ 51) := ct_i_0.mp (by omega)
        refine cv_bipush dX12_takeOfRule_85 (by decide) ?_
        refine cv_iload_n dX12_takeOfRule_87 rfl ?_
        refine cv_isub dX12_takeOfRule_88 ?_
        refine cv_iasj (4 * r + t - 1) dX12_takeOfRule_89 rfl (by show 4 * o 6 + o 7 - 1 = _; omega) (by omega) ?_
        refine cv_iload_n dX12_takeOfRule_90 rfl ?_
        refine cv_if_ne (tgt := 108) dX12_takeOfRule_91 (by decide) (by omega) (fun h91 => ?_) (fun h91 => ?_)
        · exact absurd h75 h91
        · refine cv_iload_n dX12_takeOfRule_94 rfl ?_
          refine cv_i2l dX12_takeOfRule_95 (by omega) ?_
          refine cv_ldc2 dX12_takeOfRule_96 kcX12_95 ?_
          refine cv_ldc2 dX12_takeOfRule_99 kcX12_97 ?_
          refine cv_sameS (c_X12_in (wM u v T (upA o 7 (o 7 + 1)) (upA A 17 (ct_up (A 17) (4 * r + t - 1) (96 - f k))) tm tr p st) (f k) 97 99 (by omega) (by omega) (by omega)) lkX12_in mlX12_69 dX12_takeOfRule_102 (by decide) rfl rfl (Nat.le_of_ble_eq_true rfl) ⟨Nat.le_refl _, Nat.le_refl _⟩ ?_
          intro v w1 hq
          obtain ⟨rfl, rfl⟩ := hq
          have i102 := ct_i_r (97 ≤ f k ∧ f k ≤ 99)
          refine cv_if_eq (tgt := 112) dX12_takeOfRule_105 (by decide) (by omega) (fun h105 => ?_) (fun h105 => ?_)
          · have c102 : ¬ (97 ≤ f k ∧ f k ≤ 99) := ct_i_0.mp (by omega)
            refine cv_iconst dX12_takeOfRule_112 ?_
            refine cv_zret rfl dX12_takeOfRule_113 ⟨Nat.le_refl _, Nat.le_refl _⟩ (by omega) ⟨(upA o 7 (o 7 + 1)), (upA A 17 (ct_up (A 17) (4 * r + t - 1) (96 - f k))), ct_rI (ct_i_f (fun z => by have z2 := z.2.2.1 (by omega) (by omega); omega)).symm, rfl, FR_A (FR_o (FR_r o A) (by omega) _) (by omega) _, fun z => by
      have z2 := z.2.2.1 (by omega) (by omega)
      omega⟩
          · have c102 : 97 ≤ f k ∧ f k ≤ 99 := ct_i_1.mp (by omega)
            refine cv_iconst dX12_takeOfRule_108 ?_
            refine cv_goto (tgt := 113) dX12_takeOfRule_109 (by decide) ?_
            refine cv_zret rfl dX12_takeOfRule_113 ⟨Nat.le_refl _, Nat.le_refl _⟩ (by omega) ⟨(upA o 7 (o 7 + 1)), (upA A 17 (ct_up (A 17) (4 * r + t - 1) (96 - f k))), ct_rI (ct_i_t ⟨by omega, by unfold crP; omega⟩).symm, rfl, FR_A (FR_o (FR_r o A) (by omega) _) (by omega) _, fun _ => by
      rw [if_neg (by omega), if_neg (by omega)]
      exact RI_w hR hN.2 (by omega) (by omega) (by rw [← hk]; unfold fWt figP; first | rw [if_pos (by omega)] | rw [if_neg (by omega)])⟩
      · have c56 : 48 ≤ f k ∧ f k ≤ 51 := ct_i_1.mp (by omega)
        refine cv_iload_n dX12_takeOfRule_78 rfl ?_
        refine cv_bipush dX12_takeOfRule_79 (by decide) ?_
        refine cv_isub dX12_takeOfRule_81 ?_
        refine cv_goto (tgt := 89) dX12_takeOfRule_82 (by decide) ?_
        refine cv_iasj (4 * r + t - 1) dX12_takeOfRule_89 rfl (by show 4 * o 6 + o 7 - 1 = _; omega) (by omega) ?_
        refine cv_iload_n dX12_takeOfRule_90 rfl ?_
        refine cv_if_ne (tgt := 108) dX12_takeOfRule_91 (by decide) (by omega) (fun h91 => ?_) (fun h91 => ?_)
        · refine cv_iconst dX12_takeOfRule_108 ?_
          refine cv_goto (tgt := 113) dX12_takeOfRule_109 (by decide) ?_
          refine cv_zret rfl dX12_takeOfRule_113 ⟨Nat.le_refl _, Nat.le_refl _⟩ (by omega) ⟨(upA o 7 (o 7 + 1)), (upA A 17 (ct_up (A 17) (4 * r + t - 1) (f k - 48))), ct_rI (ct_i_t ⟨by omega, by unfold crP; omega⟩).symm, rfl, FR_A (FR_o (FR_r o A) (by omega) _) (by omega) _, fun _ => by
      rw [if_neg (by omega), if_neg (by omega)]
      exact RI_w hR hN.2 (by omega) (by omega) (by rw [← hk]; unfold fWt figP; first | rw [if_pos (by omega)] | rw [if_neg (by omega)])⟩
        · exact absurd h91 h75
  · refine cv_iload_n dX12_takeOfRule_19 rfl ?_
    refine cv_bipush dX12_takeOfRule_20 (by decide) ?_
    refine cv_icmp_ne (tgt := 38) dX12_takeOfRule_22 (by decide) (by omega) (fun h22 => ?_) (fun h22 => ?_)
    · refine cv_iconst dX12_takeOfRule_38 ?_
      refine cv_zret rfl dX12_takeOfRule_39 ⟨Nat.le_refl _, Nat.le_refl _⟩ (by omega) ⟨(upA o 7 (o 7 + 1)), A, ct_rI (ct_i_f (fun z => by have z1 := z.1; have z2 := z.2.1 (by omega); omega)).symm, rfl, (FR_o (FR_r o A) (by omega) _), fun z => by
      have z1 := z.1
      have z2 := z.2.1 (by omega)
      omega⟩
    · refine cv_aload_n dX12_takeOfRule_25 rfl ?_
      refine cv_getf flX12_88 dX12_takeOfRule_26 rfl rfl ?_
      refine cv_bipush dX12_takeOfRule_29 (by decide) ?_
      refine cv_icmp_ge (tgt := 38) dX12_takeOfRule_31 (by decide) (by show -2147483648 ≤ o 6 ∧ o 6 ≤ 2147483647 ∧ _; omega) (fun h31 => ?_) (fun h31 => ?_)
      · refine cv_iconst dX12_takeOfRule_38 ?_
        refine cv_zret rfl dX12_takeOfRule_39 ⟨Nat.le_refl _, Nat.le_refl _⟩ (by omega) ⟨(upA o 7 (o 7 + 1)), A, ct_rI (ct_i_f (fun z => by have z1 := z.1; have z2 := z.2.1 (by omega); omega)).symm, rfl, (FR_o (FR_r o A) (by omega) _), fun z => by
      have z1 := z.1
      have z2 := z.2.1 (by omega)
      omega⟩
      · refine cv_iconst dX12_takeOfRule_34 ?_
        refine cv_goto (tgt := 39) dX12_takeOfRule_35 (by decide) ?_
        refine cv_zret rfl dX12_takeOfRule_39 ⟨Nat.le_refl _, Nat.le_refl _⟩ (by omega) ⟨(upA o 7 (o 7 + 1)), A, ct_rI (ct_i_t ⟨by omega, by unfold crP; omega⟩).symm, rfl, (FR_o (FR_r o A) (by omega) _), fun _ => by
      have t0 : t = 0 := by omega
      subst t0
      rw [if_neg (by omega), if_neg (by omega)]
      exact RI_0 hR⟩
