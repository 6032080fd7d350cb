/-! THE LAW: ITS CASES -/
section LWC
variable {p : Program} {l : Launch} {e : Env} {s : State} {m : MethodId} {below : List Frame} {meth : Method} {c : Code} {b L : Nat} {xs : Nat → Int32} {D : va_G} {kA : Nat → ClassId} {H : Heap} {locs : List Loc} {z1 z2 : Nat} {Z : State → Prop} {la : Array Slot} {as as' : Nat → Nat} {wX w2 : List ct_C} {i : Nat}
theorem lc_write (hC : LX p s m meth c b L xs D kA) (hL : L ≤ 2560) (hi : i + 4 < L) (hz : z1 ≤ 600000 ∧ z2 ≤ 7302250) (hJ : JI wX w2) (h2 : Two D kA s as wX as' w2 H) (hS : va_S (lw_A s) s.heap H locs) (hl : lv_has la 4 [(0, .ref b), (1, .ref (as 165)), (2, .ref (as' 0)), (3, .int (Int32.ofInt (i : Int)))])
    (kk : ∀ (w1 w3 : List ct_C) (H1 : Heap) (locs1 : List Loc), JI w1 w3 → Two D kA s as w1 as' w3 H1 → va_S (lw_A s) s.heap H1 locs1 → W p l e room_1 s m #[Value.ref b] below meth c H1 locs1 z1 z2 Z (F0 m 866 la [])) : W p l e room_1 s m #[Value.ref b] below meth c H locs z1 z2 Z (F0 m 148 la []) := by
  refine lv_aload_n hC.1 hC.2.1 dL_law_148 rfl (lv_at hl 1 rfl) ?_
  refine lw_scr (k' := 1) hC hL hS hl rfl (by omega) dL_law_149 dL_law_150 dL_law_151 dL_law_152 dL_law_153 ?_
  obtain ⟨QX, Q2, hX, hM, lX, lM, fin⟩ := pr_write hJ (xs (i + 1)).toInt (lw_r32 _)
  obtain ⟨⟨fs1, hb1⟩, ⟨fs2, hb2⟩⟩ := jx hJ
  refine lw_call (avs := [vI (xs (i + 1)).toInt]) (rest := []) hC hX lkX11_write mlL_13 dL_law_154 (by decide) rfl hb1 rfl hl.1 (by decide) hz (fun v w1 h => (lX v w1 h).1) h2 hS (fun v w1 H1 locs1 hq h2 hS => ?_)
  obtain ⟨x, rfl⟩ := (lX v w1 hq).2
  show W p l e room_1 s m #[Value.ref b] below meth c H1 locs1 z1 z2 Z (F0 m 157 la [.int (Int32.ofInt x)])
  refine lv_aload_n hC.1 hC.2.1 dL_law_157 rfl (lv_at hl 2 rfl) ?_
  refine lw_scr (k' := 1) hC hL hS hl rfl (by omega) dL_law_158 dL_law_159 dL_law_160 dL_law_161 dL_law_162 ?_
  refine lw_call (avs := [vI (xs (i + 1)).toInt]) (rest := [.int (Int32.ofInt x)]) hC hM lkX12_write mlL_17 dL_law_163 (by decide) rfl hb2 rfl hl.1 (Nat.le_of_ble_eq_true rfl) hz lM h2.sw hS (fun v w3 H2 locs2 hq2 h3 hS => ?_)
  obtain ⟨⟨x', e1, rfl⟩, hJ'⟩ := fin _ _ _ _ hq hq2
  cases e1
  show W p l e room_1 s m #[Value.ref b] below meth c H2 locs2 z1 z2 Z (F0 m 166 la [.int (Int32.ofInt x), .int (Int32.ofInt x)])
  exact lv_icmp_eq (tgt := 866) hC.1 hC.2.1 dL_law_166 (by decide) (fun _ => kk _ _ _ _ hJ' h3.sw hS) (fun q => absurd rfl q)
theorem lc_wipe (hC : LX p s m meth c b L xs D kA) (hL : L ≤ 2560) (hi : i + 4 < L) (hz : z1 ≤ 600000 ∧ z2 ≤ 7302250) (hJ : JI wX w2) (h2 : Two D kA s as wX as' w2 H) (hS : va_S (lw_A s) s.heap H locs) (hl : lv_has la 4 [(0, .ref b), (1, .ref (as 165)), (2, .ref (as' 0)), (3, .int (Int32.ofInt (i : Int)))])
    (kk : ∀ (w1 w3 : List ct_C) (H1 : Heap) (locs1 : List Loc), JI w1 w3 → Two D kA s as w1 as' w3 H1 → va_S (lw_A s) s.heap H1 locs1 → W p l e room_1 s m #[Value.ref b] below meth c H1 locs1 z1 z2 Z (F0 m 866 la [])) : W p l e room_1 s m #[Value.ref b] below meth c H locs z1 z2 Z (F0 m 171 la []) := by
  refine lv_aload_n hC.1 hC.2.1 dL_law_171 rfl (lv_at hl 1 rfl) ?_
  obtain ⟨QX, Q2, hX, hM, lX, lM, fin⟩ := pr_wipe hJ 
  obtain ⟨⟨fs1, hb1⟩, ⟨fs2, hb2⟩⟩ := jx hJ
  refine lw_call (avs := []) (rest := []) hC hX lkX11_wipe mlL_18 dL_law_172 (by decide) rfl hb1 rfl hl.1 (by decide) hz (fun v w1 h => (lX v w1 h).1) h2 hS (fun v w1 H1 locs1 hq h2 hS => ?_)
  obtain ⟨x, rfl⟩ := (lX v w1 hq).2
  show W p l e room_1 s m #[Value.ref b] below meth c H1 locs1 z1 z2 Z (F0 m 175 la [.int (Int32.ofInt x)])
  refine lv_aload_n hC.1 hC.2.1 dL_law_175 rfl (lv_at hl 2 rfl) ?_
  refine lw_call (avs := []) (rest := [.int (Int32.ofInt x)]) hC hM lkX12_wipe mlL_22 dL_law_176 (by decide) rfl hb2 rfl hl.1 (Nat.le_of_ble_eq_true rfl) hz lM h2.sw hS (fun v w3 H2 locs2 hq2 h3 hS => ?_)
  obtain ⟨⟨x', e1, rfl⟩, hJ'⟩ := fin _ _ _ _ hq hq2
  cases e1
  show W p l e room_1 s m #[Value.ref b] below meth c H2 locs2 z1 z2 Z (F0 m 179 la [.int (Int32.ofInt x), .int (Int32.ofInt x)])
  exact lv_icmp_eq (tgt := 866) hC.1 hC.2.1 dL_law_179 (by decide) (fun _ => kk _ _ _ _ hJ' h3.sw hS) (fun q => absurd rfl q)
theorem lc_fault (hC : LX p s m meth c b L xs D kA) (hL : L ≤ 2560) (hi : i + 4 < L) (hz : z1 ≤ 600000 ∧ z2 ≤ 7302250) (hJ : JI wX w2) (h2 : Two D kA s as wX as' w2 H) (hS : va_S (lw_A s) s.heap H locs) (hl : lv_has la 4 [(0, .ref b), (1, .ref (as 165)), (2, .ref (as' 0)), (3, .int (Int32.ofInt (i : Int)))])
    (kk : ∀ (w1 w3 : List ct_C) (H1 : Heap) (locs1 : List Loc), JI w1 w3 → Two D kA s as w1 as' w3 H1 → va_S (lw_A s) s.heap H1 locs1 → W p l e room_1 s m #[Value.ref b] below meth c H1 locs1 z1 z2 Z (F0 m 866 la [])) : W p l e room_1 s m #[Value.ref b] below meth c H locs z1 z2 Z (F0 m 184 la []) := by
  refine lv_aload_n hC.1 hC.2.1 dL_law_184 rfl (lv_at hl 1 rfl) ?_
  obtain ⟨QX, Q2, hX, hM, lX, lM, fin⟩ := pr_fault hJ 
  obtain ⟨⟨fs1, hb1⟩, ⟨fs2, hb2⟩⟩ := jx hJ
  refine lw_call (avs := []) (rest := []) hC hX lkX11_fault mlL_23 dL_law_185 (by decide) rfl hb1 rfl hl.1 (by decide) hz (fun v w1 h => (lX v w1 h).1) h2 hS (fun v w1 H1 locs1 hq h2 hS => ?_)
  obtain ⟨x, rfl⟩ := (lX v w1 hq).2
  show W p l e room_1 s m #[Value.ref b] below meth c H1 locs1 z1 z2 Z (F0 m 188 la [.int (Int32.ofInt x)])
  refine lv_aload_n hC.1 hC.2.1 dL_law_188 rfl (lv_at hl 2 rfl) ?_
  refine lw_call (avs := []) (rest := [.int (Int32.ofInt x)]) hC hM lkX12_fault mlL_26 dL_law_189 (by decide) rfl hb2 rfl hl.1 (Nat.le_of_ble_eq_true rfl) hz lM h2.sw hS (fun v w3 H2 locs2 hq2 h3 hS => ?_)
  obtain ⟨⟨x', e1, rfl⟩, hJ'⟩ := fin _ _ _ _ hq hq2
  cases e1
  show W p l e room_1 s m #[Value.ref b] below meth c H2 locs2 z1 z2 Z (F0 m 192 la [.int (Int32.ofInt x), .int (Int32.ofInt x)])
  exact lv_icmp_eq (tgt := 866) hC.1 hC.2.1 dL_law_192 (by decide) (fun _ => kk _ _ _ _ hJ' h3.sw hS) (fun q => absurd rfl q)
theorem lc_task (hC : LX p s m meth c b L xs D kA) (hL : L ≤ 2560) (hi : i + 4 < L) (hz : z1 ≤ 600000 ∧ z2 ≤ 7302250) (hJ : JI wX w2) (h2 : Two D kA s as wX as' w2 H) (hS : va_S (lw_A s) s.heap H locs) (hl : lv_has la 4 [(0, .ref b), (1, .ref (as 165)), (2, .ref (as' 0)), (3, .int (Int32.ofInt (i : Int)))])
    (kk : ∀ (w1 w3 : List ct_C) (H1 : Heap) (locs1 : List Loc), JI w1 w3 → Two D kA s as w1 as' w3 H1 → va_S (lw_A s) s.heap H1 locs1 → W p l e room_1 s m #[Value.ref b] below meth c H1 locs1 z1 z2 Z (F0 m 866 la [])) : W p l e room_1 s m #[Value.ref b] below meth c H locs z1 z2 Z (F0 m 197 la []) := by
  refine lv_aload_n hC.1 hC.2.1 dL_law_197 rfl (lv_at hl 1 rfl) ?_
  obtain ⟨QX, Q2, hX, hM, lX, lM, fin⟩ := pr_task hJ 
  obtain ⟨⟨fs1, hb1⟩, ⟨fs2, hb2⟩⟩ := jx hJ
  refine lw_call (avs := []) (rest := []) hC hX lkX11_task mlL_27 dL_law_198 (by decide) rfl hb1 rfl hl.1 (by decide) hz (fun v w1 h => (lX v w1 h).1) h2 hS (fun v w1 H1 locs1 hq h2 hS => ?_)
  obtain ⟨x, rfl⟩ := (lX v w1 hq).2
  show W p l e room_1 s m #[Value.ref b] below meth c H1 locs1 z1 z2 Z (F0 m 201 la [.int (Int32.ofInt x)])
  refine lv_aload_n hC.1 hC.2.1 dL_law_201 rfl (lv_at hl 2 rfl) ?_
  refine lw_call (avs := []) (rest := [.int (Int32.ofInt x)]) hC hM lkX12_task mlL_30 dL_law_202 (by decide) rfl hb2 rfl hl.1 (Nat.le_of_ble_eq_true rfl) hz lM h2.sw hS (fun v w3 H2 locs2 hq2 h3 hS => ?_)
  obtain ⟨⟨x', e1, rfl⟩, hJ'⟩ := fin _ _ _ _ hq hq2
  cases e1
  show W p l e room_1 s m #[Value.ref b] below meth c H2 locs2 z1 z2 Z (F0 m 205 la [.int (Int32.ofInt x), .int (Int32.ofInt x)])
  exact lv_icmp_eq (tgt := 866) hC.1 hC.2.1 dL_law_205 (by decide) (fun _ => kk _ _ _ _ hJ' h3.sw hS) (fun q => absurd rfl q)
theorem lc_about (hC : LX p s m meth c b L xs D kA) (hL : L ≤ 2560) (hi : i + 4 < L) (hz : z1 ≤ 600000 ∧ z2 ≤ 7302250) (hJ : JI wX w2) (h2 : Two D kA s as wX as' w2 H) (hS : va_S (lw_A s) s.heap H locs) (hl : lv_has la 4 [(0, .ref b), (1, .ref (as 165)), (2, .ref (as' 0)), (3, .int (Int32.ofInt (i : Int)))])
    (kk : ∀ (w1 w3 : List ct_C) (H1 : Heap) (locs1 : List Loc), JI w1 w3 → Two D kA s as w1 as' w3 H1 → va_S (lw_A s) s.heap H1 locs1 → W p l e room_1 s m #[Value.ref b] below meth c H1 locs1 z1 z2 Z (F0 m 866 la [])) : W p l e room_1 s m #[Value.ref b] below meth c H locs z1 z2 Z (F0 m 210 la []) := by
  refine lv_aload_n hC.1 hC.2.1 dL_law_210 rfl (lv_at hl 1 rfl) ?_
  refine lw_scr (k' := 1) hC hL hS hl rfl (by omega) dL_law_211 dL_law_212 dL_law_213 dL_law_214 dL_law_215 ?_
  obtain ⟨QX, Q2, hX, hM, lX, lM, fin⟩ := pr_about hJ (xs (i + 1)).toInt (lw_r32 _)
  obtain ⟨⟨fs1, hb1⟩, ⟨fs2, hb2⟩⟩ := jx hJ
  refine lw_call (avs := [vI (xs (i + 1)).toInt]) (rest := []) hC hX lkX11_about mlL_31 dL_law_216 (by decide) rfl hb1 rfl hl.1 (by decide) hz (fun v w1 h => (lX v w1 h).1) h2 hS (fun v w1 H1 locs1 hq h2 hS => ?_)
  obtain ⟨x, rfl⟩ := (lX v w1 hq).2
  show W p l e room_1 s m #[Value.ref b] below meth c H1 locs1 z1 z2 Z (F0 m 219 la [.int (Int32.ofInt x)])
  refine lv_aload_n hC.1 hC.2.1 dL_law_219 rfl (lv_at hl 2 rfl) ?_
  refine lw_scr (k' := 1) hC hL hS hl rfl (by omega) dL_law_220 dL_law_221 dL_law_222 dL_law_223 dL_law_224 ?_
  refine lw_call (avs := [vI (xs (i + 1)).toInt]) (rest := [.int (Int32.ofInt x)]) hC hM lkX12_about mlL_34 dL_law_225 (by decide) rfl hb2 rfl hl.1 (Nat.le_of_ble_eq_true rfl) hz lM h2.sw hS (fun v w3 H2 locs2 hq2 h3 hS => ?_)
  obtain ⟨⟨x', e1, rfl⟩, hJ'⟩ := fin _ _ _ _ hq hq2
  cases e1
  show W p l e room_1 s m #[Value.ref b] below meth c H2 locs2 z1 z2 Z (F0 m 228 la [.int (Int32.ofInt x), .int (Int32.ofInt x)])
  exact lv_icmp_eq (tgt := 866) hC.1 hC.2.1 dL_law_228 (by decide) (fun _ => kk _ _ _ _ hJ' h3.sw hS) (fun q => absurd rfl q)
theorem lc_number (hC : LX p s m meth c b L xs D kA) (hL : L ≤ 2560) (hi : i + 4 < L) (hz : z1 ≤ 600000 ∧ z2 ≤ 7302250) (hJ : JI wX w2) (h2 : Two D kA s as wX as' w2 H) (hS : va_S (lw_A s) s.heap H locs) (hl : lv_has la 4 [(0, .ref b), (1, .ref (as 165)), (2, .ref (as' 0)), (3, .int (Int32.ofInt (i : Int)))])
    (kk : ∀ (w1 w3 : List ct_C) (H1 : Heap) (locs1 : List Loc), JI w1 w3 → Two D kA s as w1 as' w3 H1 → va_S (lw_A s) s.heap H1 locs1 → W p l e room_1 s m #[Value.ref b] below meth c H1 locs1 z1 z2 Z (F0 m 866 la [])) : W p l e room_1 s m #[Value.ref b] below meth c H locs z1 z2 Z (F0 m 233 la []) := by
  refine lv_aload_n hC.1 hC.2.1 dL_law_233 rfl (lv_at hl 1 rfl) ?_
  refine lw_scr (k' := 1) hC hL hS hl rfl (by omega) dL_law_234 dL_law_235 dL_law_236 dL_law_237 dL_law_238 ?_
  refine lw_scr (k' := 2) hC hL hS hl rfl (by omega) dL_law_239 dL_law_240 dL_law_241 dL_law_242 dL_law_243 ?_
  obtain ⟨QX, Q2, hX, hM, lX, lM, fin⟩ := pr_number hJ (xs (i + 1)).toInt (lw_r32 _) (xs (i + 2)).toInt (lw_r32 _)
  obtain ⟨⟨fs1, hb1⟩, ⟨fs2, hb2⟩⟩ := jx hJ
  refine lw_call (avs := [vI (xs (i + 1)).toInt, vI (xs (i + 2)).toInt]) (rest := []) hC hX lkX11_number mlL_35 dL_law_244 (by decide) rfl hb1 rfl hl.1 (by decide) hz (fun v w1 h => (lX v w1 h).1) h2 hS (fun v w1 H1 locs1 hq h2 hS => ?_)
  obtain ⟨x, rfl⟩ := (lX v w1 hq).2
  show W p l e room_1 s m #[Value.ref b] below meth c H1 locs1 z1 z2 Z (F0 m 247 la [.int (Int32.ofInt x)])
  refine lv_aload_n hC.1 hC.2.1 dL_law_247 rfl (lv_at hl 2 rfl) ?_
  refine lw_scr (k' := 1) hC hL hS hl rfl (by omega) dL_law_248 dL_law_249 dL_law_250 dL_law_251 dL_law_252 ?_
  refine lw_scr (k' := 2) hC hL hS hl rfl (by omega) dL_law_253 dL_law_254 dL_law_255 dL_law_256 dL_law_257 ?_
  refine lw_call (avs := [vI (xs (i + 1)).toInt, vI (xs (i + 2)).toInt]) (rest := [.int (Int32.ofInt x)]) hC hM lkX12_number mlL_39 dL_law_258 (by decide) rfl hb2 rfl hl.1 (Nat.le_of_ble_eq_true rfl) hz lM h2.sw hS (fun v w3 H2 locs2 hq2 h3 hS => ?_)
  obtain ⟨⟨x', e1, rfl⟩, hJ'⟩ := fin _ _ _ _ hq hq2
  cases e1
  show W p l e room_1 s m #[Value.ref b] below meth c H2 locs2 z1 z2 Z (F0 m 261 la [.int (Int32.ofInt x), .int (Int32.ofInt x)])
  exact lv_icmp_eq (tgt := 866) hC.1 hC.2.1 dL_law_261 (by decide) (fun _ => kk _ _ _ _ hJ' h3.sw hS) (fun q => absurd rfl q)
theorem lc_rule (hC : LX p s m meth c b L xs D kA) (hL : L ≤ 2560) (hi : i + 4 < L) (hz : z1 ≤ 600000 ∧ z2 ≤ 7302250) (hJ : JI wX w2) (h2 : Two D kA s as wX as' w2 H) (hS : va_S (lw_A s) s.heap H locs) (hl : lv_has la 4 [(0, .ref b), (1, .ref (as 165)), (2, .ref (as' 0)), (3, .int (Int32.ofInt (i : Int)))])
    (kk : ∀ (w1 w3 : List ct_C) (H1 : Heap) (locs1 : List Loc), JI w1 w3 → Two D kA s as w1 as' w3 H1 → va_S (lw_A s) s.heap H1 locs1 → W p l e room_1 s m #[Value.ref b] below meth c H1 locs1 z1 z2 Z (F0 m 866 la [])) : W p l e room_1 s m #[Value.ref b] below meth c H locs z1 z2 Z (F0 m 266 la []) := by
  refine lv_aload_n hC.1 hC.2.1 dL_law_266 rfl (lv_at hl 1 rfl) ?_
  refine lw_scr (k' := 1) hC hL hS hl rfl (by omega) dL_law_267 dL_law_268 dL_law_269 dL_law_270 dL_law_271 ?_
  refine lw_scr (k' := 2) hC hL hS hl rfl (by omega) dL_law_272 dL_law_273 dL_law_274 dL_law_275 dL_law_276 ?_
  obtain ⟨QX, Q2, hX, hM, lX, lM, fin⟩ := pr_rule hJ (xs (i + 1)).toInt (lw_r32 _) (xs (i + 2)).toInt (lw_r32 _)
  obtain ⟨⟨fs1, hb1⟩, ⟨fs2, hb2⟩⟩ := jx hJ
  refine lw_call (avs := [vI (xs (i + 1)).toInt, vI (xs (i + 2)).toInt]) (rest := []) hC hX lkX11_rule mlL_40 dL_law_277 (by decide) rfl hb1 rfl hl.1 (by decide) hz (fun v w1 h => (lX v w1 h).1) h2 hS (fun v w1 H1 locs1 hq h2 hS => ?_)
  obtain ⟨x, rfl⟩ := (lX v w1 hq).2
  show W p l e room_1 s m #[Value.ref b] below meth c H1 locs1 z1 z2 Z (F0 m 280 la [.int (Int32.ofInt x)])
  refine lv_aload_n hC.1 hC.2.1 dL_law_280 rfl (lv_at hl 2 rfl) ?_
  refine lw_scr (k' := 1) hC hL hS hl rfl (by omega) dL_law_281 dL_law_282 dL_law_283 dL_law_284 dL_law_285 ?_
  refine lw_scr (k' := 2) hC hL hS hl rfl (by omega) dL_law_286 dL_law_287 dL_law_288 dL_law_289 dL_law_290 ?_
  refine lw_call (avs := [vI (xs (i + 1)).toInt, vI (xs (i + 2)).toInt]) (rest := [.int (Int32.ofInt x)]) hC hM lkX12_rule mlL_43 dL_law_291 (by decide) rfl hb2 rfl hl.1 (Nat.le_of_ble_eq_true rfl) hz lM h2.sw hS (fun v w3 H2 locs2 hq2 h3 hS => ?_)
  obtain ⟨⟨x', e1, rfl⟩, hJ'⟩ := fin _ _ _ _ hq hq2
  cases e1
  show W p l e room_1 s m #[Value.ref b] below meth c H2 locs2 z1 z2 Z (F0 m 294 la [.int (Int32.ofInt x), .int (Int32.ofInt x)])
  exact lv_icmp_eq (tgt := 866) hC.1 hC.2.1 dL_law_294 (by decide) (fun _ => kk _ _ _ _ hJ' h3.sw hS) (fun q => absurd rfl q)
theorem lc_mark (hC : LX p s m meth c b L xs D kA) (hL : L ≤ 2560) (hi : i + 4 < L) (hz : z1 ≤ 600000 ∧ z2 ≤ 7302250) (hJ : JI wX w2) (h2 : Two D kA s as wX as' w2 H) (hS : va_S (lw_A s) s.heap H locs) (hl : lv_has la 4 [(0, .ref b), (1, .ref (as 165)), (2, .ref (as' 0)), (3, .int (Int32.ofInt (i : Int)))])
    (kk : ∀ (w1 w3 : List ct_C) (H1 : Heap) (locs1 : List Loc), JI w1 w3 → Two D kA s as w1 as' w3 H1 → va_S (lw_A s) s.heap H1 locs1 → W p l e room_1 s m #[Value.ref b] below meth c H1 locs1 z1 z2 Z (F0 m 866 la [])) : W p l e room_1 s m #[Value.ref b] below meth c H locs z1 z2 Z (F0 m 299 la []) := by
  refine lv_aload_n hC.1 hC.2.1 dL_law_299 rfl (lv_at hl 1 rfl) ?_
  refine lw_scr (k' := 1) hC hL hS hl rfl (by omega) dL_law_300 dL_law_301 dL_law_302 dL_law_303 dL_law_304 ?_
  refine lw_scr (k' := 2) hC hL hS hl rfl (by omega) dL_law_305 dL_law_306 dL_law_307 dL_law_308 dL_law_309 ?_
  obtain ⟨QX, Q2, hX, hM, lX, lM, fin⟩ := pr_mark hJ (xs (i + 1)).toInt (lw_r32 _) (xs (i + 2)).toInt (lw_r32 _)
  obtain ⟨⟨fs1, hb1⟩, ⟨fs2, hb2⟩⟩ := jx hJ
  refine lw_call (avs := [vI (xs (i + 1)).toInt, vI (xs (i + 2)).toInt]) (rest := []) hC hX lkX11_mark mlL_44 dL_law_310 (by decide) rfl hb1 rfl hl.1 (by decide) hz (fun v w1 h => (lX v w1 h).1) h2 hS (fun v w1 H1 locs1 hq h2 hS => ?_)
  obtain ⟨x, rfl⟩ := (lX v w1 hq).2
  show W p l e room_1 s m #[Value.ref b] below meth c H1 locs1 z1 z2 Z (F0 m 313 la [.int (Int32.ofInt x)])
  refine lv_aload_n hC.1 hC.2.1 dL_law_313 rfl (lv_at hl 2 rfl) ?_
  refine lw_scr (k' := 1) hC hL hS hl rfl (by omega) dL_law_314 dL_law_315 dL_law_316 dL_law_317 dL_law_318 ?_
  refine lw_scr (k' := 2) hC hL hS hl rfl (by omega) dL_law_319 dL_law_320 dL_law_321 dL_law_322 dL_law_323 ?_
  refine lw_call (avs := [vI (xs (i + 1)).toInt, vI (xs (i + 2)).toInt]) (rest := [.int (Int32.ofInt x)]) hC hM lkX12_mark mlL_47 dL_law_324 (by decide) rfl hb2 rfl hl.1 (Nat.le_of_ble_eq_true rfl) hz lM h2.sw hS (fun v w3 H2 locs2 hq2 h3 hS => ?_)
  obtain ⟨⟨x', e1, rfl⟩, hJ'⟩ := fin _ _ _ _ hq hq2
  cases e1
  show W p l e room_1 s m #[Value.ref b] below meth c H2 locs2 z1 z2 Z (F0 m 327 la [.int (Int32.ofInt x), .int (Int32.ofInt x)])
  exact lv_icmp_eq (tgt := 866) hC.1 hC.2.1 dL_law_327 (by decide) (fun _ => kk _ _ _ _ hJ' h3.sw hS) (fun q => absurd rfl q)
theorem lc_cut (hC : LX p s m meth c b L xs D kA) (hL : L ≤ 2560) (hi : i + 4 < L) (hz : z1 ≤ 600000 ∧ z2 ≤ 7302250) (hJ : JI wX w2) (h2 : Two D kA s as wX as' w2 H) (hS : va_S (lw_A s) s.heap H locs) (hl : lv_has la 4 [(0, .ref b), (1, .ref (as 165)), (2, .ref (as' 0)), (3, .int (Int32.ofInt (i : Int)))])
    (kk : ∀ (w1 w3 : List ct_C) (H1 : Heap) (locs1 : List Loc), JI w1 w3 → Two D kA s as w1 as' w3 H1 → va_S (lw_A s) s.heap H1 locs1 → W p l e room_1 s m #[Value.ref b] below meth c H1 locs1 z1 z2 Z (F0 m 866 la [])) : W p l e room_1 s m #[Value.ref b] below meth c H locs z1 z2 Z (F0 m 332 la []) := by
  refine lv_aload_n hC.1 hC.2.1 dL_law_332 rfl (lv_at hl 1 rfl) ?_
  refine lw_scr (k' := 1) hC hL hS hl rfl (by omega) dL_law_333 dL_law_334 dL_law_335 dL_law_336 dL_law_337 ?_
  refine lw_scr (k' := 2) hC hL hS hl rfl (by omega) dL_law_338 dL_law_339 dL_law_340 dL_law_341 dL_law_342 ?_
  obtain ⟨QX, Q2, hX, hM, lX, lM, fin⟩ := pr_cut hJ (xs (i + 1)).toInt (lw_r32 _) (xs (i + 2)).toInt (lw_r32 _)
  obtain ⟨⟨fs1, hb1⟩, ⟨fs2, hb2⟩⟩ := jx hJ
  refine lw_call (avs := [vI (xs (i + 1)).toInt, vI (xs (i + 2)).toInt]) (rest := []) hC hX lkX11_cut mlL_48 dL_law_343 (by decide) rfl hb1 rfl hl.1 (by decide) hz (fun v w1 h => (lX v w1 h).1) h2 hS (fun v w1 H1 locs1 hq h2 hS => ?_)
  obtain ⟨x, rfl⟩ := (lX v w1 hq).2
  show W p l e room_1 s m #[Value.ref b] below meth c H1 locs1 z1 z2 Z (F0 m 346 la [.int (Int32.ofInt x)])
  refine lv_aload_n hC.1 hC.2.1 dL_law_346 rfl (lv_at hl 2 rfl) ?_
  refine lw_scr (k' := 1) hC hL hS hl rfl (by omega) dL_law_347 dL_law_348 dL_law_349 dL_law_350 dL_law_351 ?_
  refine lw_scr (k' := 2) hC hL hS hl rfl (by omega) dL_law_352 dL_law_353 dL_law_354 dL_law_355 dL_law_356 ?_
  refine lw_call (avs := [vI (xs (i + 1)).toInt, vI (xs (i + 2)).toInt]) (rest := [.int (Int32.ofInt x)]) hC hM lkX12_cut mlL_51 dL_law_357 (by decide) rfl hb2 rfl hl.1 (Nat.le_of_ble_eq_true rfl) hz lM h2.sw hS (fun v w3 H2 locs2 hq2 h3 hS => ?_)
  obtain ⟨⟨x', e1, rfl⟩, hJ'⟩ := fin _ _ _ _ hq hq2
  cases e1
  show W p l e room_1 s m #[Value.ref b] below meth c H2 locs2 z1 z2 Z (F0 m 360 la [.int (Int32.ofInt x), .int (Int32.ofInt x)])
  exact lv_icmp_eq (tgt := 866) hC.1 hC.2.1 dL_law_360 (by decide) (fun _ => kk _ _ _ _ hJ' h3.sw hS) (fun q => absurd rfl q)
theorem lc_follows (hC : LX p s m meth c b L xs D kA) (hL : L ≤ 2560) (hi : i + 4 < L) (hz : z1 ≤ 600000 ∧ z2 ≤ 7302250) (hJ : JI wX w2) (h2 : Two D kA s as wX as' w2 H) (hS : va_S (lw_A s) s.heap H locs) (hl : lv_has la 4 [(0, .ref b), (1, .ref (as 165)), (2, .ref (as' 0)), (3, .int (Int32.ofInt (i : Int)))])
    (kk : ∀ (w1 w3 : List ct_C) (H1 : Heap) (locs1 : List Loc), JI w1 w3 → Two D kA s as w1 as' w3 H1 → va_S (lw_A s) s.heap H1 locs1 → W p l e room_1 s m #[Value.ref b] below meth c H1 locs1 z1 z2 Z (F0 m 866 la [])) : W p l e room_1 s m #[Value.ref b] below meth c H locs z1 z2 Z (F0 m 365 la []) := by
  refine lv_aload_n hC.1 hC.2.1 dL_law_365 rfl (lv_at hl 1 rfl) ?_
  refine lw_scr (k' := 1) hC hL hS hl rfl (by omega) dL_law_366 dL_law_367 dL_law_368 dL_law_369 dL_law_370 ?_
  obtain ⟨QX, Q2, hX, hM, lX, lM, fin⟩ := pr_follows hJ (xs (i + 1)).toInt (lw_r32 _)
  obtain ⟨⟨fs1, hb1⟩, ⟨fs2, hb2⟩⟩ := jx hJ
  refine lw_call (avs := [vI (xs (i + 1)).toInt]) (rest := []) hC hX lkX11_follows mlL_52 dL_law_371 (by decide) rfl hb1 rfl hl.1 (by decide) hz (fun v w1 h => (lX v w1 h).1) h2 hS (fun v w1 H1 locs1 hq h2 hS => ?_)
  obtain ⟨x, rfl⟩ := (lX v w1 hq).2
  show W p l e room_1 s m #[Value.ref b] below meth c H1 locs1 z1 z2 Z (F0 m 374 la [.int (Int32.ofInt x)])
  refine lv_aload_n hC.1 hC.2.1 dL_law_374 rfl (lv_at hl 2 rfl) ?_
  refine lw_scr (k' := 1) hC hL hS hl rfl (by omega) dL_law_375 dL_law_376 dL_law_377 dL_law_378 dL_law_379 ?_
  refine lw_call (avs := [vI (xs (i + 1)).toInt]) (rest := [.int (Int32.ofInt x)]) hC hM lkX12_follows mlL_55 dL_law_380 (by decide) rfl hb2 rfl hl.1 (Nat.le_of_ble_eq_true rfl) hz lM h2.sw hS (fun v w3 H2 locs2 hq2 h3 hS => ?_)
  obtain ⟨⟨x', e1, rfl⟩, hJ'⟩ := fin _ _ _ _ hq hq2
  cases e1
  show W p l e room_1 s m #[Value.ref b] below meth c H2 locs2 z1 z2 Z (F0 m 383 la [.int (Int32.ofInt x), .int (Int32.ofInt x)])
  exact lv_icmp_eq (tgt := 866) hC.1 hC.2.1 dL_law_383 (by decide) (fun _ => kk _ _ _ _ hJ' h3.sw hS) (fun q => absurd rfl q)
theorem lc_make (hC : LX p s m meth c b L xs D kA) (hL : L ≤ 2560) (hi : i + 4 < L) (hz : z1 ≤ 600000 ∧ z2 ≤ 7302250) (hJ : JI wX w2) (h2 : Two D kA s as wX as' w2 H) (hS : va_S (lw_A s) s.heap H locs) (hl : lv_has la 4 [(0, .ref b), (1, .ref (as 165)), (2, .ref (as' 0)), (3, .int (Int32.ofInt (i : Int)))])
    (kk : ∀ (w1 w3 : List ct_C) (H1 : Heap) (locs1 : List Loc), JI w1 w3 → Two D kA s as w1 as' w3 H1 → va_S (lw_A s) s.heap H1 locs1 → W p l e room_1 s m #[Value.ref b] below meth c H1 locs1 z1 z2 Z (F0 m 866 la [])) : W p l e room_1 s m #[Value.ref b] below meth c H locs z1 z2 Z (F0 m 388 la []) := by
  refine lv_aload_n hC.1 hC.2.1 dL_law_388 rfl (lv_at hl 1 rfl) ?_
  refine lw_scr (k' := 1) hC hL hS hl rfl (by omega) dL_law_389 dL_law_390 dL_law_391 dL_law_392 dL_law_393 ?_
  refine lw_scr (k' := 2) hC hL hS hl rfl (by omega) dL_law_394 dL_law_395 dL_law_396 dL_law_397 dL_law_398 ?_
  refine lw_scr (k' := 3) hC hL hS hl rfl (by omega) dL_law_399 dL_law_400 dL_law_401 dL_law_402 dL_law_403 ?_
  obtain ⟨QX, Q2, hX, hM, lX, lM, fin⟩ := pr_make hJ (xs (i + 1)).toInt (lw_r32 _) (xs (i + 2)).toInt (lw_r32 _) (xs (i + 3)).toInt (lw_r32 _)
  obtain ⟨⟨fs1, hb1⟩, ⟨fs2, hb2⟩⟩ := jx hJ
  refine lw_call (avs := [vI (xs (i + 1)).toInt, vI (xs (i + 2)).toInt, vI (xs (i + 3)).toInt]) (rest := []) hC hX lkX11_make mlL_56 dL_law_404 (by decide) rfl hb1 rfl hl.1 (by decide) hz (fun v w1 h => (lX v w1 h).1) h2 hS (fun v w1 H1 locs1 hq h2 hS => ?_)
  obtain ⟨x, rfl⟩ := (lX v w1 hq).2
  show W p l e room_1 s m #[Value.ref b] below meth c H1 locs1 z1 z2 Z (F0 m 407 la [.int (Int32.ofInt x)])
  refine lv_aload_n hC.1 hC.2.1 dL_law_407 rfl (lv_at hl 2 rfl) ?_
  refine lw_scr (k' := 1) hC hL hS hl rfl (by omega) dL_law_408 dL_law_409 dL_law_410 dL_law_411 dL_law_412 ?_
  refine lw_scr (k' := 2) hC hL hS hl rfl (by omega) dL_law_413 dL_law_414 dL_law_415 dL_law_416 dL_law_417 ?_
  refine lw_scr (k' := 3) hC hL hS hl rfl (by omega) dL_law_418 dL_law_419 dL_law_420 dL_law_421 dL_law_422 ?_
  refine lw_call (avs := [vI (xs (i + 1)).toInt, vI (xs (i + 2)).toInt, vI (xs (i + 3)).toInt]) (rest := [.int (Int32.ofInt x)]) hC hM lkX12_make mlL_60 dL_law_423 (by decide) rfl hb2 rfl hl.1 (Nat.le_of_ble_eq_true rfl) hz lM h2.sw hS (fun v w3 H2 locs2 hq2 h3 hS => ?_)
  obtain ⟨⟨x', e1, rfl⟩, hJ'⟩ := fin _ _ _ _ hq hq2
  cases e1
  show W p l e room_1 s m #[Value.ref b] below meth c H2 locs2 z1 z2 Z (F0 m 426 la [.int (Int32.ofInt x), .int (Int32.ofInt x)])
  exact lv_icmp_eq (tgt := 866) hC.1 hC.2.1 dL_law_426 (by decide) (fun _ => kk _ _ _ _ hJ' h3.sw hS) (fun q => absurd rfl q)
theorem lc_learn (hC : LX p s m meth c b L xs D kA) (hL : L ≤ 2560) (hi : i + 4 < L) (hz : z1 ≤ 600000 ∧ z2 ≤ 7302250) (hJ : JI wX w2) (h2 : Two D kA s as wX as' w2 H) (hS : va_S (lw_A s) s.heap H locs) (hl : lv_has la 4 [(0, .ref b), (1, .ref (as 165)), (2, .ref (as' 0)), (3, .int (Int32.ofInt (i : Int)))])
    (kk : ∀ (w1 w3 : List ct_C) (H1 : Heap) (locs1 : List Loc), JI w1 w3 → Two D kA s as w1 as' w3 H1 → va_S (lw_A s) s.heap H1 locs1 → W p l e room_1 s m #[Value.ref b] below meth c H1 locs1 z1 z2 Z (F0 m 866 la [])) : W p l e room_1 s m #[Value.ref b] below meth c H locs z1 z2 Z (F0 m 431 la []) := by
  refine lv_aload_n hC.1 hC.2.1 dL_law_431 rfl (lv_at hl 1 rfl) ?_
  obtain ⟨QX, Q2, hX, hM, lX, lM, fin⟩ := pr_learn hJ 
  obtain ⟨⟨fs1, hb1⟩, ⟨fs2, hb2⟩⟩ := jx hJ
  refine lw_call (avs := []) (rest := []) hC hX lkX11_learn mlL_61 dL_law_432 (by decide) rfl hb1 rfl hl.1 (by decide) hz (fun v w1 h => (lX v w1 h).1) h2 hS (fun v w1 H1 locs1 hq h2 hS => ?_)
  obtain ⟨x, rfl⟩ := (lX v w1 hq).2
  show W p l e room_1 s m #[Value.ref b] below meth c H1 locs1 z1 z2 Z (F0 m 435 la [.int (Int32.ofInt x)])
  refine lv_aload_n hC.1 hC.2.1 dL_law_435 rfl (lv_at hl 2 rfl) ?_
  refine lw_call (avs := []) (rest := [.int (Int32.ofInt x)]) hC hM lkX12_learn mlL_64 dL_law_436 (by decide) rfl hb2 rfl hl.1 (Nat.le_of_ble_eq_true rfl) hz lM h2.sw hS (fun v w3 H2 locs2 hq2 h3 hS => ?_)
  obtain ⟨⟨x', e1, rfl⟩, hJ'⟩ := fin _ _ _ _ hq hq2
  cases e1
  show W p l e room_1 s m #[Value.ref b] below meth c H2 locs2 z1 z2 Z (F0 m 439 la [.int (Int32.ofInt x), .int (Int32.ofInt x)])
  exact lv_icmp_eq (tgt := 866) hC.1 hC.2.1 dL_law_439 (by decide) (fun _ => kk _ _ _ _ hJ' h3.sw hS) (fun q => absurd rfl q)
theorem lc_leave (hC : LX p s m meth c b L xs D kA) (hL : L ≤ 2560) (hi : i + 4 < L) (hz : z1 ≤ 600000 ∧ z2 ≤ 7302250) (hJ : JI wX w2) (h2 : Two D kA s as wX as' w2 H) (hS : va_S (lw_A s) s.heap H locs) (hl : lv_has la 4 [(0, .ref b), (1, .ref (as 165)), (2, .ref (as' 0)), (3, .int (Int32.ofInt (i : Int)))])
    (kk : ∀ (w1 w3 : List ct_C) (H1 : Heap) (locs1 : List Loc), JI w1 w3 → Two D kA s as w1 as' w3 H1 → va_S (lw_A s) s.heap H1 locs1 → W p l e room_1 s m #[Value.ref b] below meth c H1 locs1 z1 z2 Z (F0 m 866 la [])) : W p l e room_1 s m #[Value.ref b] below meth c H locs z1 z2 Z (F0 m 444 la []) := by
  refine lv_aload_n hC.1 hC.2.1 dL_law_444 rfl (lv_at hl 1 rfl) ?_
  obtain ⟨QX, Q2, hX, hM, lX, lM, fin⟩ := pr_leave hJ 
  obtain ⟨⟨fs1, hb1⟩, ⟨fs2, hb2⟩⟩ := jx hJ
  refine lw_call (avs := []) (rest := []) hC hX lkX11_leave mlL_65 dL_law_445 (by decide) rfl hb1 rfl hl.1 (by decide) hz (fun v w1 h => (lX v w1 h).1) h2 hS (fun v w1 H1 locs1 hq h2 hS => ?_)
  obtain ⟨x, rfl⟩ := (lX v w1 hq).2
  show W p l e room_1 s m #[Value.ref b] below meth c H1 locs1 z1 z2 Z (F0 m 448 la [.int (Int32.ofInt x)])
  refine lv_aload_n hC.1 hC.2.1 dL_law_448 rfl (lv_at hl 2 rfl) ?_
  refine lw_call (avs := []) (rest := [.int (Int32.ofInt x)]) hC hM lkX12_leave mlL_68 dL_law_449 (by decide) rfl hb2 rfl hl.1 (Nat.le_of_ble_eq_true rfl) hz lM h2.sw hS (fun v w3 H2 locs2 hq2 h3 hS => ?_)
  obtain ⟨⟨x', e1, rfl⟩, hJ'⟩ := fin _ _ _ _ hq hq2
  cases e1
  show W p l e room_1 s m #[Value.ref b] below meth c H2 locs2 z1 z2 Z (F0 m 452 la [.int (Int32.ofInt x), .int (Int32.ofInt x)])
  exact lv_icmp_eq (tgt := 866) hC.1 hC.2.1 dL_law_452 (by decide) (fun _ => kk _ _ _ _ hJ' h3.sw hS) (fun q => absurd rfl q)
theorem lc_run (hC : LX p s m meth c b L xs D kA) (hL : L ≤ 2560) (hi : i + 4 < L) (hz : z1 ≤ 600000 ∧ z2 ≤ 7302250) (hJ : JI wX w2) (h2 : Two D kA s as wX as' w2 H) (hS : va_S (lw_A s) s.heap H locs) (hl : lv_has la 4 [(0, .ref b), (1, .ref (as 165)), (2, .ref (as' 0)), (3, .int (Int32.ofInt (i : Int)))])
    (kk : ∀ (w1 w3 : List ct_C) (H1 : Heap) (locs1 : List Loc), JI w1 w3 → Two D kA s as w1 as' w3 H1 → va_S (lw_A s) s.heap H1 locs1 → W p l e room_1 s m #[Value.ref b] below meth c H1 locs1 z1 z2 Z (F0 m 866 la [])) : W p l e room_1 s m #[Value.ref b] below meth c H locs z1 z2 Z (F0 m 457 la []) := by
  refine lv_aload_n hC.1 hC.2.1 dL_law_457 rfl (lv_at hl 1 rfl) ?_
  refine lw_scr (k' := 1) hC hL hS hl rfl (by omega) dL_law_458 dL_law_459 dL_law_460 dL_law_461 dL_law_462 ?_
  obtain ⟨QX, Q2, hX, hM, lX, lM, fin⟩ := pr_run hJ (xs (i + 1)).toInt (lw_r32 _)
  obtain ⟨⟨fs1, hb1⟩, ⟨fs2, hb2⟩⟩ := jx hJ
  refine lw_call (avs := [vI (xs (i + 1)).toInt]) (rest := []) hC hX lkX11_run mlL_69 dL_law_463 (by decide) rfl hb1 rfl hl.1 (by decide) hz (fun v w1 h => (lX v w1 h).1) h2 hS (fun v w1 H1 locs1 hq h2 hS => ?_)
  obtain ⟨x, rfl⟩ := (lX v w1 hq).2
  show W p l e room_1 s m #[Value.ref b] below meth c H1 locs1 z1 z2 Z (F0 m 466 la [.int (Int32.ofInt x)])
  refine lv_aload_n hC.1 hC.2.1 dL_law_466 rfl (lv_at hl 2 rfl) ?_
  refine lw_scr (k' := 1) hC hL hS hl rfl (by omega) dL_law_467 dL_law_468 dL_law_469 dL_law_470 dL_law_471 ?_
  refine lw_call (avs := [vI (xs (i + 1)).toInt]) (rest := [.int (Int32.ofInt x)]) hC hM lkX12_run mlL_72 dL_law_472 (by decide) rfl hb2 rfl hl.1 (Nat.le_of_ble_eq_true rfl) hz lM h2.sw hS (fun v w3 H2 locs2 hq2 h3 hS => ?_)
  obtain ⟨⟨x', e1, rfl⟩, hJ'⟩ := fin _ _ _ _ hq hq2
  cases e1
  show W p l e room_1 s m #[Value.ref b] below meth c H2 locs2 z1 z2 Z (F0 m 475 la [.int (Int32.ofInt x), .int (Int32.ofInt x)])
  exact lv_icmp_eq (tgt := 866) hC.1 hC.2.1 dL_law_475 (by decide) (fun _ => kk _ _ _ _ hJ' h3.sw hS) (fun q => absurd rfl q)
theorem lc_undo (hC : LX p s m meth c b L xs D kA) (hL : L ≤ 2560) (hi : i + 4 < L) (hz : z1 ≤ 600000 ∧ z2 ≤ 7302250) (hJ : JI wX w2) (h2 : Two D kA s as wX as' w2 H) (hS : va_S (lw_A s) s.heap H locs) (hl : lv_has la 4 [(0, .ref b), (1, .ref (as 165)), (2, .ref (as' 0)), (3, .int (Int32.ofInt (i : Int)))])
    (kk : ∀ (w1 w3 : List ct_C) (H1 : Heap) (locs1 : List Loc), JI w1 w3 → Two D kA s as w1 as' w3 H1 → va_S (lw_A s) s.heap H1 locs1 → W p l e room_1 s m #[Value.ref b] below meth c H1 locs1 z1 z2 Z (F0 m 866 la [])) : W p l e room_1 s m #[Value.ref b] below meth c H locs z1 z2 Z (F0 m 480 la []) := by
  refine lv_aload_n hC.1 hC.2.1 dL_law_480 rfl (lv_at hl 1 rfl) ?_
  obtain ⟨QX, Q2, hX, hM, lX, lM, fin⟩ := pr_undo hJ 
  obtain ⟨⟨fs1, hb1⟩, ⟨fs2, hb2⟩⟩ := jx hJ
  refine lw_call (avs := []) (rest := []) hC hX lkX11_undo mlL_73 dL_law_481 (by decide) rfl hb1 rfl hl.1 (by decide) hz (fun v w1 h => (lX v w1 h).1) h2 hS (fun v w1 H1 locs1 hq h2 hS => ?_)
  obtain ⟨x, rfl⟩ := (lX v w1 hq).2
  show W p l e room_1 s m #[Value.ref b] below meth c H1 locs1 z1 z2 Z (F0 m 484 la [.int (Int32.ofInt x)])
  refine lv_aload_n hC.1 hC.2.1 dL_law_484 rfl (lv_at hl 2 rfl) ?_
  refine lw_call (avs := []) (rest := [.int (Int32.ofInt x)]) hC hM lkX12_undo mlL_76 dL_law_485 (by decide) rfl hb2 rfl hl.1 (Nat.le_of_ble_eq_true rfl) hz lM h2.sw hS (fun v w3 H2 locs2 hq2 h3 hS => ?_)
  obtain ⟨⟨x', e1, rfl⟩, hJ'⟩ := fin _ _ _ _ hq hq2
  cases e1
  show W p l e room_1 s m #[Value.ref b] below meth c H2 locs2 z1 z2 Z (F0 m 488 la [.int (Int32.ofInt x), .int (Int32.ofInt x)])
  exact lv_icmp_eq (tgt := 866) hC.1 hC.2.1 dL_law_488 (by decide) (fun _ => kk _ _ _ _ hJ' h3.sw hS) (fun q => absurd rfl q)
theorem lc_judge (hC : LX p s m meth c b L xs D kA) (hL : L ≤ 2560) (hi : i + 4 < L) (hz : z1 ≤ 600000 ∧ z2 ≤ 7302250) (hJ : JI wX w2) (h2 : Two D kA s as wX as' w2 H) (hS : va_S (lw_A s) s.heap H locs) (hl : lv_has la 4 [(0, .ref b), (1, .ref (as 165)), (2, .ref (as' 0)), (3, .int (Int32.ofInt (i : Int)))])
    (kk : ∀ (w1 w3 : List ct_C) (H1 : Heap) (locs1 : List Loc), JI w1 w3 → Two D kA s as w1 as' w3 H1 → va_S (lw_A s) s.heap H1 locs1 → W p l e room_1 s m #[Value.ref b] below meth c H1 locs1 z1 z2 Z (F0 m 866 la [])) : W p l e room_1 s m #[Value.ref b] below meth c H locs z1 z2 Z (F0 m 493 la []) := by
  refine lv_aload_n hC.1 hC.2.1 dL_law_493 rfl (lv_at hl 1 rfl) ?_
  refine lw_scr (k' := 1) hC hL hS hl rfl (by omega) dL_law_494 dL_law_495 dL_law_496 dL_law_497 dL_law_498 ?_
  refine lw_lng (k' := 2) (j' := 3) hC hL hS hl rfl rfl ⟨by omega, by omega⟩ dL_law_499 dL_law_500 dL_law_501 dL_law_502 dL_law_503 dL_law_504 dL_law_505 dL_law_507 dL_law_508 dL_law_509 dL_law_510 dL_law_511 dL_law_512 dL_law_513 dL_law_514 dL_law_517 dL_law_518 ?_
  obtain ⟨QX, Q2, hX, hM, lX, lM, fin⟩ := pr_judge hJ (xs (i + 1)).toInt (lw_r32 _) (lwE (xs (i + 2)) (xs (i + 3))).toInt (lw_r64 _)
  obtain ⟨⟨fs1, hb1⟩, ⟨fs2, hb2⟩⟩ := jx hJ
  refine lw_call (avs := [vI (xs (i + 1)).toInt, vL (lwE (xs (i + 2)) (xs (i + 3))).toInt]) (rest := []) hC hX lkX11_judge mlL_79 dL_law_519 (by decide) rfl hb1 rfl hl.1 (by decide) hz (fun v w1 h => (lX v w1 h).1) h2 hS (fun v w1 H1 locs1 hq h2 hS => ?_)
  obtain ⟨x, rfl⟩ := (lX v w1 hq).2
  show W p l e room_1 s m #[Value.ref b] below meth c H1 locs1 z1 z2 Z (F0 m 522 la [.int (Int32.ofInt x)])
  refine lv_aload_n hC.1 hC.2.1 dL_law_522 rfl (lv_at hl 2 rfl) ?_
  refine lw_scr (k' := 1) hC hL hS hl rfl (by omega) dL_law_523 dL_law_524 dL_law_525 dL_law_526 dL_law_527 ?_
  refine lw_lng (k' := 2) (j' := 3) hC hL hS hl rfl rfl ⟨by omega, by omega⟩ dL_law_528 dL_law_529 dL_law_530 dL_law_531 dL_law_532 dL_law_533 dL_law_534 dL_law_536 dL_law_537 dL_law_538 dL_law_539 dL_law_540 dL_law_541 dL_law_542 dL_law_543 dL_law_546 dL_law_547 ?_
  refine lw_call (avs := [vI (xs (i + 1)).toInt, vL (lwE (xs (i + 2)) (xs (i + 3))).toInt]) (rest := [.int (Int32.ofInt x)]) hC hM lkX12_judge mlL_83 dL_law_548 (by decide) rfl hb2 rfl hl.1 (Nat.le_of_ble_eq_true rfl) hz lM h2.sw hS (fun v w3 H2 locs2 hq2 h3 hS => ?_)
  obtain ⟨⟨x', e1, rfl⟩, hJ'⟩ := fin _ _ _ _ hq hq2
  cases e1
  show W p l e room_1 s m #[Value.ref b] below meth c H2 locs2 z1 z2 Z (F0 m 551 la [.int (Int32.ofInt x), .int (Int32.ofInt x)])
  exact lv_icmp_eq (tgt := 866) hC.1 hC.2.1 dL_law_551 (by decide) (fun _ => kk _ _ _ _ hJ' h3.sw hS) (fun q => absurd rfl q)
theorem lc_see (hC : LX p s m meth c b L xs D kA) (hL : L ≤ 2560) (hi : i + 4 < L) (hz : z1 ≤ 600000 ∧ z2 ≤ 7302250) (hJ : JI wX w2) (h2 : Two D kA s as wX as' w2 H) (hS : va_S (lw_A s) s.heap H locs) (hl : lv_has la 4 [(0, .ref b), (1, .ref (as 165)), (2, .ref (as' 0)), (3, .int (Int32.ofInt (i : Int)))])
    (kk : ∀ (w1 w3 : List ct_C) (H1 : Heap) (locs1 : List Loc), JI w1 w3 → Two D kA s as w1 as' w3 H1 → va_S (lw_A s) s.heap H1 locs1 → W p l e room_1 s m #[Value.ref b] below meth c H1 locs1 z1 z2 Z (F0 m 866 la [])) : W p l e room_1 s m #[Value.ref b] below meth c H locs z1 z2 Z (F0 m 556 la []) := by
  refine lv_aload_n hC.1 hC.2.1 dL_law_556 rfl (lv_at hl 1 rfl) ?_
  refine lw_scr (k' := 1) hC hL hS hl rfl (by omega) dL_law_557 dL_law_558 dL_law_559 dL_law_560 dL_law_561 ?_
  refine lw_scr (k' := 2) hC hL hS hl rfl (by omega) dL_law_562 dL_law_563 dL_law_564 dL_law_565 dL_law_566 ?_
  refine lw_scr (k' := 3) hC hL hS hl rfl (by omega) dL_law_567 dL_law_568 dL_law_569 dL_law_570 dL_law_571 ?_
  refine lw_scr (k' := 4) hC hL hS hl rfl (by omega) dL_law_572 dL_law_573 dL_law_574 dL_law_575 dL_law_576 ?_
  obtain ⟨QX, Q2, hX, hM, lX, lM, fin⟩ := pr_see hJ (xs (i + 1)).toInt (lw_r32 _) (xs (i + 2)).toInt (lw_r32 _) (xs (i + 3)).toInt (lw_r32 _) (xs (i + 4)).toInt (lw_r32 _)
  obtain ⟨⟨fs1, hb1⟩, ⟨fs2, hb2⟩⟩ := jx hJ
  refine lw_call (avs := [vI (xs (i + 1)).toInt, vI (xs (i + 2)).toInt, vI (xs (i + 3)).toInt, vI (xs (i + 4)).toInt]) (rest := []) hC hX lkX11_see mlL_84 dL_law_577 (by decide) rfl hb1 rfl hl.1 (by decide) hz (fun v w1 h => (lX v w1 h).1) h2 hS (fun v w1 H1 locs1 hq h2 hS => ?_)
  obtain ⟨x, rfl⟩ := (lX v w1 hq).2
  show W p l e room_1 s m #[Value.ref b] below meth c H1 locs1 z1 z2 Z (F0 m 580 la [.int (Int32.ofInt x)])
  refine lv_aload_n hC.1 hC.2.1 dL_law_580 rfl (lv_at hl 2 rfl) ?_
  refine lw_scr (k' := 1) hC hL hS hl rfl (by omega) dL_law_581 dL_law_582 dL_law_583 dL_law_584 dL_law_585 ?_
  refine lw_scr (k' := 2) hC hL hS hl rfl (by omega) dL_law_586 dL_law_587 dL_law_588 dL_law_589 dL_law_590 ?_
  refine lw_scr (k' := 3) hC hL hS hl rfl (by omega) dL_law_591 dL_law_592 dL_law_593 dL_law_594 dL_law_595 ?_
  refine lw_scr (k' := 4) hC hL hS hl rfl (by omega) dL_law_596 dL_law_597 dL_law_598 dL_law_599 dL_law_600 ?_
  refine lw_call (avs := [vI (xs (i + 1)).toInt, vI (xs (i + 2)).toInt, vI (xs (i + 3)).toInt, vI (xs (i + 4)).toInt]) (rest := [.int (Int32.ofInt x)]) hC hM lkX12_see mlL_88 dL_law_601 (by decide) rfl hb2 rfl hl.1 (Nat.le_of_ble_eq_true rfl) hz lM h2.sw hS (fun v w3 H2 locs2 hq2 h3 hS => ?_)
  obtain ⟨⟨x', e1, rfl⟩, hJ'⟩ := fin _ _ _ _ hq hq2
  cases e1
  show W p l e room_1 s m #[Value.ref b] below meth c H2 locs2 z1 z2 Z (F0 m 604 la [.int (Int32.ofInt x), .int (Int32.ofInt x)])
  exact lv_icmp_eq (tgt := 866) hC.1 hC.2.1 dL_law_604 (by decide) (fun _ => kk _ _ _ _ hJ' h3.sw hS) (fun q => absurd rfl q)
theorem lc_unsee (hC : LX p s m meth c b L xs D kA) (hL : L ≤ 2560) (hi : i + 4 < L) (hz : z1 ≤ 600000 ∧ z2 ≤ 7302250) (hJ : JI wX w2) (h2 : Two D kA s as wX as' w2 H) (hS : va_S (lw_A s) s.heap H locs) (hl : lv_has la 4 [(0, .ref b), (1, .ref (as 165)), (2, .ref (as' 0)), (3, .int (Int32.ofInt (i : Int)))])
    (kk : ∀ (w1 w3 : List ct_C) (H1 : Heap) (locs1 : List Loc), JI w1 w3 → Two D kA s as w1 as' w3 H1 → va_S (lw_A s) s.heap H1 locs1 → W p l e room_1 s m #[Value.ref b] below meth c H1 locs1 z1 z2 Z (F0 m 866 la [])) : W p l e room_1 s m #[Value.ref b] below meth c H locs z1 z2 Z (F0 m 609 la []) := by
  refine lv_aload_n hC.1 hC.2.1 dL_law_609 rfl (lv_at hl 1 rfl) ?_
  obtain ⟨QX, Q2, hX, hM, lX, lM, fin⟩ := pr_unsee hJ 
  obtain ⟨⟨fs1, hb1⟩, ⟨fs2, hb2⟩⟩ := jx hJ
  refine lw_call (avs := []) (rest := []) hC hX lkX11_unsee mlL_89 dL_law_610 (by decide) rfl hb1 rfl hl.1 (by decide) hz (fun v w1 h => (lX v w1 h).1) h2 hS (fun v w1 H1 locs1 hq h2 hS => ?_)
  obtain ⟨x, rfl⟩ := (lX v w1 hq).2
  show W p l e room_1 s m #[Value.ref b] below meth c H1 locs1 z1 z2 Z (F0 m 613 la [.int (Int32.ofInt x)])
  refine lv_aload_n hC.1 hC.2.1 dL_law_613 rfl (lv_at hl 2 rfl) ?_
  refine lw_call (avs := []) (rest := [.int (Int32.ofInt x)]) hC hM lkX12_unsee mlL_92 dL_law_614 (by decide) rfl hb2 rfl hl.1 (Nat.le_of_ble_eq_true rfl) hz lM h2.sw hS (fun v w3 H2 locs2 hq2 h3 hS => ?_)
  obtain ⟨⟨x', e1, rfl⟩, hJ'⟩ := fin _ _ _ _ hq hq2
  cases e1
  show W p l e room_1 s m #[Value.ref b] below meth c H2 locs2 z1 z2 Z (F0 m 617 la [.int (Int32.ofInt x), .int (Int32.ofInt x)])
  exact lv_icmp_eq (tgt := 866) hC.1 hC.2.1 dL_law_617 (by decide) (fun _ => kk _ _ _ _ hJ' h3.sw hS) (fun q => absurd rfl q)
theorem lc_which (hC : LX p s m meth c b L xs D kA) (hL : L ≤ 2560) (hi : i + 4 < L) (hz : z1 ≤ 600000 ∧ z2 ≤ 7302250) (hJ : JI wX w2) (h2 : Two D kA s as wX as' w2 H) (hS : va_S (lw_A s) s.heap H locs) (hl : lv_has la 4 [(0, .ref b), (1, .ref (as 165)), (2, .ref (as' 0)), (3, .int (Int32.ofInt (i : Int)))])
    (kk : ∀ (w1 w3 : List ct_C) (H1 : Heap) (locs1 : List Loc), JI w1 w3 → Two D kA s as w1 as' w3 H1 → va_S (lw_A s) s.heap H1 locs1 → W p l e room_1 s m #[Value.ref b] below meth c H1 locs1 z1 z2 Z (F0 m 866 la [])) : W p l e room_1 s m #[Value.ref b] below meth c H locs z1 z2 Z (F0 m 622 la []) := by
  refine lv_aload_n hC.1 hC.2.1 dL_law_622 rfl (lv_at hl 1 rfl) ?_
  obtain ⟨QX, Q2, hX, hM, lX, lM, fin⟩ := pr_which hJ 
  obtain ⟨⟨fs1, hb1⟩, ⟨fs2, hb2⟩⟩ := jx hJ
  refine lw_call (avs := []) (rest := []) hC hX lkX11_which mlL_93 dL_law_623 (by decide) rfl hb1 rfl hl.1 (by decide) hz (fun v w1 h => (lX v w1 h).1) h2 hS (fun v w1 H1 locs1 hq h2 hS => ?_)
  obtain ⟨x, rfl⟩ := (lX v w1 hq).2
  show W p l e room_1 s m #[Value.ref b] below meth c H1 locs1 z1 z2 Z (F0 m 626 la [.int (Int32.ofInt x)])
  refine lv_aload_n hC.1 hC.2.1 dL_law_626 rfl (lv_at hl 2 rfl) ?_
  refine lw_call (avs := []) (rest := [.int (Int32.ofInt x)]) hC hM lkX12_which mlL_96 dL_law_627 (by decide) rfl hb2 rfl hl.1 (Nat.le_of_ble_eq_true rfl) hz lM h2.sw hS (fun v w3 H2 locs2 hq2 h3 hS => ?_)
  obtain ⟨⟨x', e1, rfl⟩, hJ'⟩ := fin _ _ _ _ hq hq2
  cases e1
  show W p l e room_1 s m #[Value.ref b] below meth c H2 locs2 z1 z2 Z (F0 m 630 la [.int (Int32.ofInt x), .int (Int32.ofInt x)])
  exact lv_icmp_eq (tgt := 866) hC.1 hC.2.1 dL_law_630 (by decide) (fun _ => kk _ _ _ _ hJ' h3.sw hS) (fun q => absurd rfl q)
theorem lc_share (hC : LX p s m meth c b L xs D kA) (hL : L ≤ 2560) (hi : i + 4 < L) (hz : z1 ≤ 600000 ∧ z2 ≤ 7302250) (hJ : JI wX w2) (h2 : Two D kA s as wX as' w2 H) (hS : va_S (lw_A s) s.heap H locs) (hl : lv_has la 4 [(0, .ref b), (1, .ref (as 165)), (2, .ref (as' 0)), (3, .int (Int32.ofInt (i : Int)))])
    (kk : ∀ (w1 w3 : List ct_C) (H1 : Heap) (locs1 : List Loc), JI w1 w3 → Two D kA s as w1 as' w3 H1 → va_S (lw_A s) s.heap H1 locs1 → W p l e room_1 s m #[Value.ref b] below meth c H1 locs1 z1 z2 Z (F0 m 866 la [])) : W p l e room_1 s m #[Value.ref b] below meth c H locs z1 z2 Z (F0 m 635 la []) := by
  refine lv_aload_n hC.1 hC.2.1 dL_law_635 rfl (lv_at hl 1 rfl) ?_
  refine lw_scr (k' := 1) hC hL hS hl rfl (by omega) dL_law_636 dL_law_637 dL_law_638 dL_law_639 dL_law_640 ?_
  refine lw_bol (k' := 2) hC hL hS hl rfl (by omega) dL_law_641 dL_law_642 dL_law_643 dL_law_644 dL_law_645 dL_law_646 dL_law_649 dL_law_650 dL_law_653 ?_
  obtain ⟨QX, Q2, hX, hM, lX, lM, fin⟩ := pr_share hJ (xs (i + 1)).toInt (lw_r32 _) (lwB (xs (i + 2)).toInt) (lwB_r _)
  obtain ⟨⟨fs1, hb1⟩, ⟨fs2, hb2⟩⟩ := jx hJ
  refine lw_call (avs := [vI (xs (i + 1)).toInt, vI (lwB (xs (i + 2)).toInt)]) (rest := []) hC hX lkX11_share mlL_97 dL_law_654 (by decide) rfl hb1 rfl hl.1 (by decide) hz (fun v w1 h => (lX v w1 h).1) h2 hS (fun v w1 H1 locs1 hq h2 hS => ?_)
  obtain ⟨x, rfl⟩ := (lX v w1 hq).2
  show W p l e room_1 s m #[Value.ref b] below meth c H1 locs1 z1 z2 Z (F0 m 657 la [.int (Int32.ofInt x)])
  refine lv_aload_n hC.1 hC.2.1 dL_law_657 rfl (lv_at hl 2 rfl) ?_
  refine lw_scr (k' := 1) hC hL hS hl rfl (by omega) dL_law_658 dL_law_659 dL_law_660 dL_law_661 dL_law_662 ?_
  refine lw_bol (k' := 2) hC hL hS hl rfl (by omega) dL_law_663 dL_law_664 dL_law_665 dL_law_666 dL_law_667 dL_law_668 dL_law_671 dL_law_672 dL_law_675 ?_
  refine lw_call (avs := [vI (xs (i + 1)).toInt, vI (lwB (xs (i + 2)).toInt)]) (rest := [.int (Int32.ofInt x)]) hC hM lkX12_share mlL_101 dL_law_676 (by decide) rfl hb2 rfl hl.1 (Nat.le_of_ble_eq_true rfl) hz lM h2.sw hS (fun v w3 H2 locs2 hq2 h3 hS => ?_)
  obtain ⟨⟨x', e1, rfl⟩, hJ'⟩ := fin _ _ _ _ hq hq2
  cases e1
  show W p l e room_1 s m #[Value.ref b] below meth c H2 locs2 z1 z2 Z (F0 m 679 la [.int (Int32.ofInt x), .int (Int32.ofInt x)])
  exact lv_icmp_eq (tgt := 866) hC.1 hC.2.1 dL_law_679 (by decide) (fun _ => kk _ _ _ _ hJ' h3.sw hS) (fun q => absurd rfl q)
theorem lc_chance (hC : LX p s m meth c b L xs D kA) (hL : L ≤ 2560) (hi : i + 4 < L) (hz : z1 ≤ 600000 ∧ z2 ≤ 7302250) (hJ : JI wX w2) (h2 : Two D kA s as wX as' w2 H) (hS : va_S (lw_A s) s.heap H locs) (hl : lv_has la 4 [(0, .ref b), (1, .ref (as 165)), (2, .ref (as' 0)), (3, .int (Int32.ofInt (i : Int)))])
    (kk : ∀ (w1 w3 : List ct_C) (H1 : Heap) (locs1 : List Loc), JI w1 w3 → Two D kA s as w1 as' w3 H1 → va_S (lw_A s) s.heap H1 locs1 → W p l e room_1 s m #[Value.ref b] below meth c H1 locs1 z1 z2 Z (F0 m 866 la [])) : W p l e room_1 s m #[Value.ref b] below meth c H locs z1 z2 Z (F0 m 684 la []) := by
  refine lv_aload_n hC.1 hC.2.1 dL_law_684 rfl (lv_at hl 1 rfl) ?_
  refine lw_scr (k' := 1) hC hL hS hl rfl (by omega) dL_law_685 dL_law_686 dL_law_687 dL_law_688 dL_law_689 ?_
  refine lw_scr (k' := 2) hC hL hS hl rfl (by omega) dL_law_690 dL_law_691 dL_law_692 dL_law_693 dL_law_694 ?_
  refine lw_bol (k' := 3) hC hL hS hl rfl (by omega) dL_law_695 dL_law_696 dL_law_697 dL_law_698 dL_law_699 dL_law_700 dL_law_703 dL_law_704 dL_law_707 ?_
  obtain ⟨QX, Q2, hX, hM, lX, lM, fin⟩ := pr_chance hJ (xs (i + 1)).toInt (lw_r32 _) (xs (i + 2)).toInt (lw_r32 _) (lwB (xs (i + 3)).toInt) (lwB_r _)
  obtain ⟨⟨fs1, hb1⟩, ⟨fs2, hb2⟩⟩ := jx hJ
  refine lw_call (avs := [vI (xs (i + 1)).toInt, vI (xs (i + 2)).toInt, vI (lwB (xs (i + 3)).toInt)]) (rest := []) hC hX lkX11_chance mlL_102 dL_law_708 (by decide) rfl hb1 rfl hl.1 (by decide) hz (fun v w1 h => (lX v w1 h).1) h2 hS (fun v w1 H1 locs1 hq h2 hS => ?_)
  obtain ⟨x, rfl⟩ := (lX v w1 hq).2
  show W p l e room_1 s m #[Value.ref b] below meth c H1 locs1 z1 z2 Z (F0 m 711 la [.int (Int32.ofInt x)])
  refine lv_aload_n hC.1 hC.2.1 dL_law_711 rfl (lv_at hl 2 rfl) ?_
  refine lw_scr (k' := 1) hC hL hS hl rfl (by omega) dL_law_712 dL_law_713 dL_law_714 dL_law_715 dL_law_716 ?_
  refine lw_scr (k' := 2) hC hL hS hl rfl (by omega) dL_law_717 dL_law_718 dL_law_719 dL_law_720 dL_law_721 ?_
  refine lw_bol (k' := 3) hC hL hS hl rfl (by omega) dL_law_722 dL_law_723 dL_law_724 dL_law_725 dL_law_726 dL_law_727 dL_law_730 dL_law_731 dL_law_734 ?_
  refine lw_call (avs := [vI (xs (i + 1)).toInt, vI (xs (i + 2)).toInt, vI (lwB (xs (i + 3)).toInt)]) (rest := [.int (Int32.ofInt x)]) hC hM lkX12_chance mlL_106 dL_law_735 (by decide) rfl hb2 rfl hl.1 (Nat.le_of_ble_eq_true rfl) hz lM h2.sw hS (fun v w3 H2 locs2 hq2 h3 hS => ?_)
  obtain ⟨⟨x', e1, rfl⟩, hJ'⟩ := fin _ _ _ _ hq hq2
  cases e1
  show W p l e room_1 s m #[Value.ref b] below meth c H2 locs2 z1 z2 Z (F0 m 738 la [.int (Int32.ofInt x), .int (Int32.ofInt x)])
  exact lv_icmp_eq (tgt := 866) hC.1 hC.2.1 dL_law_738 (by decide) (fun _ => kk _ _ _ _ hJ' h3.sw hS) (fun q => absurd rfl q)
theorem lc_seed (hC : LX p s m meth c b L xs D kA) (hL : L ≤ 2560) (hi : i + 4 < L) (hz : z1 ≤ 600000 ∧ z2 ≤ 7302250) (hJ : JI wX w2) (h2 : Two D kA s as wX as' w2 H) (hS : va_S (lw_A s) s.heap H locs) (hl : lv_has la 4 [(0, .ref b), (1, .ref (as 165)), (2, .ref (as' 0)), (3, .int (Int32.ofInt (i : Int)))])
    (kk : ∀ (w1 w3 : List ct_C) (H1 : Heap) (locs1 : List Loc), JI w1 w3 → Two D kA s as w1 as' w3 H1 → va_S (lw_A s) s.heap H1 locs1 → W p l e room_1 s m #[Value.ref b] below meth c H1 locs1 z1 z2 Z (F0 m 866 la [])) : W p l e room_1 s m #[Value.ref b] below meth c H locs z1 z2 Z (F0 m 743 la []) := by
  refine lv_aload_n hC.1 hC.2.1 dL_law_743 rfl (lv_at hl 1 rfl) ?_
  refine lw_lng (k' := 1) (j' := 2) hC hL hS hl rfl rfl ⟨by omega, by omega⟩ dL_law_744 dL_law_745 dL_law_746 dL_law_747 dL_law_748 dL_law_749 dL_law_750 dL_law_752 dL_law_753 dL_law_754 dL_law_755 dL_law_756 dL_law_757 dL_law_758 dL_law_759 dL_law_762 dL_law_763 ?_
  obtain ⟨QX, Q2, hX, hM, lX, lM, fin⟩ := pr_seed hJ (lwE (xs (i + 1)) (xs (i + 2))).toInt
  obtain ⟨⟨fs1, hb1⟩, ⟨fs2, hb2⟩⟩ := jx hJ
  refine lw_call (avs := [vL (lwE (xs (i + 1)) (xs (i + 2))).toInt]) (rest := []) hC hX lkX11_seed mlL_107 dL_law_764 (by decide) rfl hb1 rfl hl.1 (by decide) hz (fun v w1 h => (lX v w1 h).1) h2 hS (fun v w1 H1 locs1 hq h2 hS => ?_)
  obtain ⟨x, rfl⟩ := (lX v w1 hq).2
  show W p l e room_1 s m #[Value.ref b] below meth c H1 locs1 z1 z2 Z (F0 m 767 la [.long (Int64.ofInt x)])
  refine lv_aload_n hC.1 hC.2.1 dL_law_767 rfl (lv_at hl 2 rfl) ?_
  refine lw_lng (k' := 1) (j' := 2) hC hL hS hl rfl rfl ⟨by omega, by omega⟩ dL_law_768 dL_law_769 dL_law_770 dL_law_771 dL_law_772 dL_law_773 dL_law_774 dL_law_776 dL_law_777 dL_law_778 dL_law_779 dL_law_780 dL_law_781 dL_law_782 dL_law_783 dL_law_786 dL_law_787 ?_
  refine lw_call (avs := [vL (lwE (xs (i + 1)) (xs (i + 2))).toInt]) (rest := [.long (Int64.ofInt x)]) hC hM lkX12_seed mlL_111 dL_law_788 (by decide) rfl hb2 rfl hl.1 (Nat.le_of_ble_eq_true rfl) hz lM h2.sw hS (fun v w3 H2 locs2 hq2 h3 hS => ?_)
  obtain ⟨⟨x', e1, rfl⟩, hJ'⟩ := fin _ _ _ _ hq hq2
  cases e1
  show W p l e room_1 s m #[Value.ref b] below meth c H2 locs2 z1 z2 Z (F0 m 791 la [.long (Int64.ofInt x), .long (Int64.ofInt x)])
  refine W.lcmp hC.1 hC.2.1 dL_law_791 ?_
  have eE : lg_cmp (Int64.ofInt x) (Int64.ofInt x) = Int32.ofInt 0 := by
    unfold lg_cmp
    rw [if_neg (by rw [gt_iff_lt, Int64.lt_iff_toInt_lt]; omega), if_pos rfl]
    rfl
  rw [eE]
  exact lv_if_eq (tgt := 866) hC.1 hC.2.1 dL_law_792 (by decide) (fun _ => kk _ _ _ _ hJ' h3.sw hS) (fun q => absurd rfl q)
theorem lc_drawn (hC : LX p s m meth c b L xs D kA) (hL : L ≤ 2560) (hi : i + 4 < L) (hz : z1 ≤ 600000 ∧ z2 ≤ 7302250) (hJ : JI wX w2) (h2 : Two D kA s as wX as' w2 H) (hS : va_S (lw_A s) s.heap H locs) (hl : lv_has la 4 [(0, .ref b), (1, .ref (as 165)), (2, .ref (as' 0)), (3, .int (Int32.ofInt (i : Int)))])
    (kk : ∀ (w1 w3 : List ct_C) (H1 : Heap) (locs1 : List Loc), JI w1 w3 → Two D kA s as w1 as' w3 H1 → va_S (lw_A s) s.heap H1 locs1 → W p l e room_1 s m #[Value.ref b] below meth c H1 locs1 z1 z2 Z (F0 m 866 la [])) : W p l e room_1 s m #[Value.ref b] below meth c H locs z1 z2 Z (F0 m 797 la []) := by
  refine lv_aload_n hC.1 hC.2.1 dL_law_797 rfl (lv_at hl 1 rfl) ?_
  refine lw_scr (k' := 1) hC hL hS hl rfl (by omega) dL_law_798 dL_law_799 dL_law_800 dL_law_801 dL_law_802 ?_
  obtain ⟨QX, Q2, hX, hM, lX, lM, fin⟩ := pr_drawn hJ (xs (i + 1)).toInt (lw_r32 _)
  obtain ⟨⟨fs1, hb1⟩, ⟨fs2, hb2⟩⟩ := jx hJ
  refine lw_call (avs := [vI (xs (i + 1)).toInt]) (rest := []) hC hX lkX11_drawn mlL_112 dL_law_803 (by decide) rfl hb1 rfl hl.1 (by decide) hz (fun v w1 h => (lX v w1 h).1) h2 hS (fun v w1 H1 locs1 hq h2 hS => ?_)
  obtain ⟨x, rfl⟩ := (lX v w1 hq).2
  show W p l e room_1 s m #[Value.ref b] below meth c H1 locs1 z1 z2 Z (F0 m 806 la [.int (Int32.ofInt x)])
  refine lv_aload_n hC.1 hC.2.1 dL_law_806 rfl (lv_at hl 2 rfl) ?_
  refine lw_scr (k' := 1) hC hL hS hl rfl (by omega) dL_law_807 dL_law_808 dL_law_809 dL_law_810 dL_law_811 ?_
  refine lw_call (avs := [vI (xs (i + 1)).toInt]) (rest := [.int (Int32.ofInt x)]) hC hM lkX12_drawn mlL_115 dL_law_812 (by decide) rfl hb2 rfl hl.1 (Nat.le_of_ble_eq_true rfl) hz lM h2.sw hS (fun v w3 H2 locs2 hq2 h3 hS => ?_)
  obtain ⟨⟨x', e1, rfl⟩, hJ'⟩ := fin _ _ _ _ hq hq2
  cases e1
  show W p l e room_1 s m #[Value.ref b] below meth c H2 locs2 z1 z2 Z (F0 m 815 la [.int (Int32.ofInt x), .int (Int32.ofInt x)])
  exact lv_icmp_eq (tgt := 866) hC.1 hC.2.1 dL_law_815 (by decide) (fun _ => kk _ _ _ _ hJ' h3.sw hS) (fun q => absurd rfl q)
theorem lc_keep (hC : LX p s m meth c b L xs D kA) (hL : L ≤ 2560) (hi : i + 4 < L) (hz : z1 ≤ 600000 ∧ z2 ≤ 7302250) (hJ : JI wX w2) (h2 : Two D kA s as wX as' w2 H) (hS : va_S (lw_A s) s.heap H locs) (hl : lv_has la 4 [(0, .ref b), (1, .ref (as 165)), (2, .ref (as' 0)), (3, .int (Int32.ofInt (i : Int)))])
    (kk : ∀ (w1 w3 : List ct_C) (H1 : Heap) (locs1 : List Loc), JI w1 w3 → Two D kA s as w1 as' w3 H1 → va_S (lw_A s) s.heap H1 locs1 → W p l e room_1 s m #[Value.ref b] below meth c H1 locs1 z1 z2 Z (F0 m 866 la [])) : W p l e room_1 s m #[Value.ref b] below meth c H locs z1 z2 Z (F0 m 820 la []) := by
  refine lv_aload_n hC.1 hC.2.1 dL_law_820 rfl (lv_at hl 1 rfl) ?_
  refine lw_scr (k' := 1) hC hL hS hl rfl (by omega) dL_law_821 dL_law_822 dL_law_823 dL_law_824 dL_law_825 ?_
  obtain ⟨QX, Q2, hX, hM, lX, lM, fin⟩ := pr_keep hJ (xs (i + 1)).toInt (lw_r32 _)
  obtain ⟨⟨fs1, hb1⟩, ⟨fs2, hb2⟩⟩ := jx hJ
  refine lw_call (avs := [vI (xs (i + 1)).toInt]) (rest := []) hC hX lkX11_keep mlL_116 dL_law_826 (by decide) rfl hb1 rfl hl.1 (by decide) hz (fun v w1 h => (lX v w1 h).1) h2 hS (fun v w1 H1 locs1 hq h2 hS => ?_)
  obtain ⟨x, rfl⟩ := (lX v w1 hq).2
  show W p l e room_1 s m #[Value.ref b] below meth c H1 locs1 z1 z2 Z (F0 m 829 la [.int (Int32.ofInt x)])
  refine lv_aload_n hC.1 hC.2.1 dL_law_829 rfl (lv_at hl 2 rfl) ?_
  refine lw_scr (k' := 1) hC hL hS hl rfl (by omega) dL_law_830 dL_law_831 dL_law_832 dL_law_833 dL_law_834 ?_
  refine lw_call (avs := [vI (xs (i + 1)).toInt]) (rest := [.int (Int32.ofInt x)]) hC hM lkX12_keep mlL_119 dL_law_835 (by decide) rfl hb2 rfl hl.1 (Nat.le_of_ble_eq_true rfl) hz lM h2.sw hS (fun v w3 H2 locs2 hq2 h3 hS => ?_)
  obtain ⟨⟨x', e1, rfl⟩, hJ'⟩ := fin _ _ _ _ hq hq2
  cases e1
  show W p l e room_1 s m #[Value.ref b] below meth c H2 locs2 z1 z2 Z (F0 m 838 la [.int (Int32.ofInt x), .int (Int32.ofInt x)])
  exact lv_icmp_eq (tgt := 866) hC.1 hC.2.1 dL_law_838 (by decide) (fun _ => kk _ _ _ _ hJ' h3.sw hS) (fun q => absurd rfl q)
theorem lc_again (hC : LX p s m meth c b L xs D kA) (hL : L ≤ 2560) (hi : i + 4 < L) (hz : z1 ≤ 600000 ∧ z2 ≤ 7302250) (hJ : JI wX w2) (h2 : Two D kA s as wX as' w2 H) (hS : va_S (lw_A s) s.heap H locs) (hl : lv_has la 4 [(0, .ref b), (1, .ref (as 165)), (2, .ref (as' 0)), (3, .int (Int32.ofInt (i : Int)))])
    (kk : ∀ (w1 w3 : List ct_C) (H1 : Heap) (locs1 : List Loc), JI w1 w3 → Two D kA s as w1 as' w3 H1 → va_S (lw_A s) s.heap H1 locs1 → W p l e room_1 s m #[Value.ref b] below meth c H1 locs1 z1 z2 Z (F0 m 866 la [])) : W p l e room_1 s m #[Value.ref b] below meth c H locs z1 z2 Z (F0 m 843 la []) := by
  refine lv_aload_n hC.1 hC.2.1 dL_law_843 rfl (lv_at hl 1 rfl) ?_
  refine lw_scr (k' := 1) hC hL hS hl rfl (by omega) dL_law_844 dL_law_845 dL_law_846 dL_law_847 dL_law_848 ?_
  obtain ⟨QX, Q2, hX, hM, lX, lM, fin⟩ := pr_again hJ (xs (i + 1)).toInt (lw_r32 _)
  obtain ⟨⟨fs1, hb1⟩, ⟨fs2, hb2⟩⟩ := jx hJ
  refine lw_call (avs := [vI (xs (i + 1)).toInt]) (rest := []) hC hX lkX11_again mlL_120 dL_law_849 (by decide) rfl hb1 rfl hl.1 (by decide) hz (fun v w1 h => (lX v w1 h).1) h2 hS (fun v w1 H1 locs1 hq h2 hS => ?_)
  obtain ⟨x, rfl⟩ := (lX v w1 hq).2
  show W p l e room_1 s m #[Value.ref b] below meth c H1 locs1 z1 z2 Z (F0 m 852 la [.int (Int32.ofInt x)])
  refine lv_aload_n hC.1 hC.2.1 dL_law_852 rfl (lv_at hl 2 rfl) ?_
  refine lw_scr (k' := 1) hC hL hS hl rfl (by omega) dL_law_853 dL_law_854 dL_law_855 dL_law_856 dL_law_857 ?_
  refine lw_call (avs := [vI (xs (i + 1)).toInt]) (rest := [.int (Int32.ofInt x)]) hC hM lkX12_again mlL_123 dL_law_858 (by decide) rfl hb2 rfl hl.1 (Nat.le_of_ble_eq_true rfl) hz lM h2.sw hS (fun v w3 H2 locs2 hq2 h3 hS => ?_)
  obtain ⟨⟨x', e1, rfl⟩, hJ'⟩ := fin _ _ _ _ hq hq2
  cases e1
  show W p l e room_1 s m #[Value.ref b] below meth c H2 locs2 z1 z2 Z (F0 m 861 la [.int (Int32.ofInt x), .int (Int32.ofInt x)])
  exact lv_icmp_eq (tgt := 866) hC.1 hC.2.1 dL_law_861 (by decide) (fun _ => kk _ _ _ _ hJ' h3.sw hS) (fun q => absurd rfl q)
end LWC
