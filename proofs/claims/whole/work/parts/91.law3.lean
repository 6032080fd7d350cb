/-! THE LAW: what it makes, what it loads -/
section LWN
variable {p : Program} {l : Launch} {e : Env} {s : State} {m : MethodId} {below : List Frame} {meth : Method} {c : Code} {b L : Nat} {xs : Nat → Int32} {D : va_G} {kA : Nat → ClassId} {H : Heap} {locs : List Loc} {z1 z2 : Nat} {Z : State → Prop} {la : Array Slot} {rest : List Value} {pc : Nat}
variable {as as' : Nat → Nat} {wd : List ct_C} {M' : ct_M} {d mc ms idx : Nat} {Q' : Option ct_V → List ct_C → Prop}
theorem lw_new {ci N : Nat} {C : String} {T : u_T} {ty : Nat → FieldType} (fs : List ct_V) (hC : LX p s m meth c b L xs D kA) (hcl : ct_cl ci C T N ty) (hck : Cond.classLink RL idx C ∈ ct_tbl) (hik : Cond.instantiable C N ∈ ct_tbl) (hin : Cond.initialized C ∈ ct_tbl) (hd : decode code pc = .ok (.new idx, 3)) (hfs : ∀ (as : Nat → Nat) j, j < N → defaultValue (ty j) = vp_V (fs.map (ct_tv as)) j) (hfb : fs.all (ct_vb 0) = true) (hz : z1 + 1 ≤ 600000 ∧ z2 + N ≤ 7302250) (hP : va_P D vwCl (ct_wd kA as' wd) H) (hD : va_D (lw_A s) (ct_wd kA as' wd)) (hS : va_S (lw_A s) s.heap H locs)
    (kk : ∀ (q : Nat) (H1 : Heap), Two D kA s (fun _ => q) [cO ci fs] as' wd H1 → va_S (lw_A s) s.heap H1 locs → W p l e room_1 s m #[Value.ref b] below meth c H1 locs (z1 + 1) (z2 + N) Z (F0 m (pc + 3) la (.ref q :: rest))) : W p l e room_1 s m #[Value.ref b] below meth c H locs z1 z2 Z (F0 m pc la rest) := by
  have hts := hC.2.2.2.2.2.1
  obtain ⟨h1, h2, h3, h4⟩ := hcl
  refine va_new (ci := ci) (fs := fs.map (ct_tv as')) hC.1 hC.2.1 hts h2 ty h3 hC.2.2.2.2.1 (hts _ hck) (hts _ hik) (hts _ hin) hC.2.2.2.2.2.2.2.1 hP hD hS (fun q h => h) h1 (hfs as') hz.1 hz.2 hd (fun q H1 hP1 hD1 hS1 => kk q H1 ?_ hS1)
  have e1 : ct_wd kA (fun _ => q) [cO ci fs] = [(q, .inr (ci, fs.map (ct_tv as')))] := by
    show [(q, Sum.inr (ci, fs.map (ct_tv (fun _ => q))))] = _
    rw [ct_st_x (n := 0) (as := as') (fun i hi => absurd hi (Nat.not_lt_zero _)) hfb]
  have hat : (ct_wd kA as' wd ++ [(q, Sum.inr (ci, fs.map (ct_tv as')))])[wd.length]? = some (q, Sum.inr (ci, fs.map (ct_tv as'))) := by
    rw [List.getElem?_append_right (by rw [ct_wd_len]; exact Nat.le_refl _), ct_wd_len, Nat.sub_self]
    rfl
  have hold : ∀ (k : Nat) (x : Nat × va_E), (ct_wd kA as' wd)[k]? = some x → (ct_wd kA as' wd ++ [(q, Sum.inr (ci, fs.map (ct_tv as')))])[k]? = some x := fun k x hx => by
    rw [List.getElem?_append_left (List.getElem?_eq_some_iff.mp hx).1]; exact hx
  refine ⟨?_, fun k x hx => hP1 k x (hold k x hx), ?_, hD, fun i j hi hj => ?_⟩
  · rw [e1]
    intro k x hx
    have hk : k < 1 := (List.getElem?_eq_some_iff.mp hx).1
    rw [show k = 0 by omega] at hx
    cases hx
    exact hP1 _ _ hat
  · rw [e1]
    refine ⟨fun i j x y hi hj _ => ?_, fun k x hx => ?_⟩
    · have h5 : i < 1 := (List.getElem?_eq_some_iff.mp hi).1
      have h6 : j < 1 := (List.getElem?_eq_some_iff.mp hj).1
      omega
    · have hk : k < 1 := (List.getElem?_eq_some_iff.mp hx).1
      rw [show k = 0 by omega] at hx
      cases hx
      exact hD1.2 _ _ hat
  · intro e0
    have h7 := hD1.1 wd.length j _ _ hat (hold j _ (ct_wd_at (List.getElem?_eq_getElem hj))) e0
    omega
theorem lw_make {q ci : Nat} {fs : List ct_V} (hC : LX p s m meth c b L xs D kA) (hM : CM M' (d, mc, ms) [vR 0] [cO ci fs] Q') (hk : ct_lk 2 M' 0) (hnm : M'.1.name = "<init>") (hrt : M'.2.2.2 = none) (hlk : Cond.methodLink RL idx M'.1 ∈ ct_tbl) (hd : decode code pc = .ok (.invokespecial idx, 3)) (hr : d ≤ 10) (hla : la.size = 4) (hsz : 2 * 0 + (rest.map fun v => v.category).sum ≤ 8) (hz : z1 + mc ≤ 600000 ∧ z2 + ms ≤ 7302250) (hlen : ∀ v w1, Q' v w1 → v = none ∧ 1 ≤ w1.length) (h2 : Two D kA s (fun _ => q) [cO ci fs] as' wd H) (hS : va_S (lw_A s) s.heap H locs)
    (kk : ∀ (w1 : List ct_C) (as2 : Nat → Nat) (H1 : Heap) (locs1 : List Loc), Q' none w1 → as2 0 = q → Two D kA s as2 w1 as' wd H1 → va_S (lw_A s) s.heap H1 locs1 → W p l e room_1 s m #[Value.ref b] below meth c H1 locs1 (z1 + mc) (z2 + ms) Z (F0 m (pc + 3) la rest)) :
    W p l e room_1 s m #[Value.ref b] below meth c H locs z1 z2 Z (F0 m pc la (Value.ref q :: rest)) := by
  obtain ⟨hP, hP', hD, hD', hap⟩ := h2
  have hts := hC.2.2.2.2.2.1
  have hK := hC.2.2.2.2.2.2.2.1
  have hN := hC.2.2.2.2.2.2.1
  have hA : ∀ q, s.heap.size ≤ q → lw_A s q := fun q h => h
  have hfree := ct_sameA hD hS hA
  have hpre : ∀ U : State, U.heap = H → s.WarmedH U.vm → ct_B D kA (fun _ => q) [cO ci fs] H.size U := by
    intro U hU hW
    refine ⟨by rw [hU], by rw [hU]; exact hP, va_K.moved hW.alike hK, hN.warm hW, ?_, hD.weaken (fun _ _ _ _ => trivial)⟩
    obtain ⟨t, g1, g2⟩ := hC.2.2.2.2.2.2.2.2.2.2.2
    have hkp : ∀ a : Nat, a < s.heap.size → ¬ lw_A s a → U.heap[a]? = s.heap[a]? := fun a g3 g4 => by rw [hU]; exact hS.2.1 a g3 g4
    exact ⟨t, ((g1.kept hkp).moved hW.alike).narrow hfree, ((g2.kept hkp).moved hW.alike).narrow hfree⟩
  have hroom : (ct_rm (d, mc, ms)).frames + 1 ≤ room_1.frames ∧ 8 + (M'.2.2.1 + 11) + (ct_rm (d, mc, ms)).locals ≤ room_1.locals := by
    have h20 := hk.2.2.2.2.1
    refine ⟨by show d + 1 ≤ 13; omega, ?_⟩
    show 8 + (M'.2.2.1 + 11) + 39 * d ≤ 516
    omega
  have hrun := va_runI (p := p) (l := l) (e := e) (R := room_1) (s := s) (m := m) (args := #[Value.ref b]) (below := below) (meth := meth) (c := c) (H := H) (locs := locs) (cells := z1) (slots := z2) (g := F0 m pc la (Value.ref q :: rest)) (As := []) (rest := rest) ⟨hC.1, hC.2.1, hC.2.2.2.1, hC.2.2.2.2.1, hts⟩ (hM l D kA (fun _ => q) H.size) ⟨callB_of (Ts := ct_tbl) 0 hts hk.good (by unfold ct_ws; rw [hrt]) rfl rfl (hts _ hk.1) (hts _ hlk) ⟨hk.2.2.1.1, hk.2.2.1.2, hk.2.2.2.1⟩ hroom, hnm, hts _ (hk.2.2.2.2.2.2.1 (by decide))⟩ ⟨ct_blind, fun U hU hW => ⟨rfl, hpre U hU hW⟩⟩ rfl rfl hla rfl hsz hd ⟨hz.1, hz.2⟩
  intro T hT X
  obtain ⟨v, st₀, t, T', L1, h0, X', hL, e1, e2, ⟨⟨rv, w1, as2, hv, hq, hag, hP1, hD1⟩, hz0, hk0⟩, st⟩ := hrun T hT X
  obtain ⟨rfl, hw1⟩ := hlen _ _ hq
  cases hv
  rw [h0] at hz0 hk0
  have ha0 : as2 0 = q := hag 0 (Or.inr (by show 0 < 1; omega))
  have hM2 : va_P D vwCl (ct_wd kA as' wd) T'.heap := by
    intro k x hkq
    have h4 := hP' k x hkq
    have hl := h4.lt
    refine h4.kept ?_
    rw [e1]
    refine hk0 _ hl (fun hA1 => ?_)
    obtain ⟨c1, h1, rfl⟩ := ct_wd_inv hkq
    rcases hA1 with ⟨j, y, hj⟩ | hj
    · obtain ⟨c2, h5, h6⟩ := ct_wd_inv hj
      exact hap j k (List.getElem?_eq_some_iff.mp h5).1 (List.getElem?_eq_some_iff.mp h1).1 (Prod.mk.inj h6).1.symm
    · exact absurd hl (Nat.not_lt.mpr hj)
  obtain ⟨t2, a1, b1⟩ := kk w1 as2 T'.heap (locs ++ L1) hq ha0 ⟨by rw [e1]; exact hP1, hM2, ⟨hD1.1, fun k x hx => hfree _ (hD1.2 k x hx)⟩, hD', fun i j hi hj e0 => by
      have hlow := (hP' j _ (ct_wd_at (List.getElem?_eq_getElem hj))).lt
      rcases hD1.2 i _ (ct_wd_at (List.getElem?_eq_getElem hi)) with ⟨k, y, hk2⟩ | hk2
      · obtain ⟨c2, h5, h6⟩ := ct_wd_inv hk2
        have h7 : as2 i = q := (Prod.mk.inj h6).1
        exact hap 0 j (by show 0 < 1; omega) hj (h7.symm.trans e0)
      · have h8 : H.size ≤ as2 i := hk2
        have h9 : as' j < H.size := hlow
        omega⟩ ⟨Nat.le_trans hS.1 (by rw [e1]; exact hz0), fun q h1 h3 => by rw [e1, hk0 q (Nat.lt_of_lt_of_le h1 hS.1) (fun z => h3 (hfree q z))]; exact hS.2.1 q h1 h3, fun q hq => by
      rcases List.mem_append.mp hq with h | h
      · exact hS.2.2 q h
      · exact hfree _ (hL q h)⟩ T' rfl X'
  exact ⟨t2, st t2 a1, b1⟩
/-- a long out of two ints of the script -/
def lwE (x y : Int32) : Int64 := (x.toInt64 <<< ((Int32.ofInt 32).toInt64 &&& 63)) ||| (y.toInt64 &&& Int64.ofInt 4294967295)
theorem lw_lng {i : Nat} {k j : Int} {k' j' : Nat} {v1 v2 : Value} (hC : LX p s m meth c b L xs D kA) (hL : L ≤ 2560) (hS : va_S (lw_A s) s.heap H locs) (hl : lv_has la 4 [(0, .ref b), (1, v1), (2, v2), (3, .int (Int32.ofInt (i : Int)))]) (hk : k = (k' : Int)) (hj : j = (j' : Int)) (hi : i + k' < L ∧ i + j' < L) (d0 : decode code pc = .ok (.aload_n 0, 1)) (d1 : decode code (pc + 1) = .ok (.iload_n 3, 1)) (d2 : decode code (pc + 2) = .ok (.iconst k, 1)) (d3 : decode code (pc + 3) = .ok (.iadd, 1)) (d4 : decode code (pc + 4) = .ok (.iaload, 1)) (d5 : decode code (pc + 5) = .ok (.i2l, 1)) (d6 : decode code (pc + 6) = .ok (.bipush 32, 2)) (d8 : decode code (pc + 8) = .ok (.lshl, 1)) (d9 : decode code (pc + 9) = .ok (.aload_n 0, 1)) (d10 : decode code (pc + 10) = .ok (.iload_n 3, 1)) (d11 : decode code (pc + 11) = .ok (.iconst j, 1)) (d12 : decode code (pc + 12) = .ok (.iadd, 1)) (d13 : decode code (pc + 13) = .ok (.iaload, 1)) (d14 : decode code (pc + 14) = .ok (.i2l, 1)) (d15 : decode code (pc + 15) = .ok (.ldc2_w 77, 3)) (d18 : decode code (pc + 18) = .ok (.land, 1)) (d19 : decode code (pc + 19) = .ok (.lor, 1))
    (kk : W p l e room_1 s m #[Value.ref b] below meth c H locs z1 z2 Z (F0 m (pc + 20) la (.long (Int64.ofInt (lwE (xs (i + k')) (xs (i + j'))).toInt) :: rest))) : W p l e room_1 s m #[Value.ref b] below meth c H locs z1 z2 Z (F0 m pc la rest) := by
  refine lw_scr hC hL hS hl hk hi.1 d0 d1 d2 d3 d4 ?_
  refine lv_i2l hC.1 hC.2.1 d5 rfl ?_
  refine lv_bipush (v := Int32.ofInt 32) hC.1 hC.2.1 d6 (by decide) ?_
  refine lv_lshl hC.1 hC.2.1 d8 rfl ?_
  refine lw_scr hC hL hS hl hj hi.2 d9 d10 d11 d12 d13 ?_
  refine lv_i2l hC.1 hC.2.1 d14 rfl ?_
  refine lv_ldc2 hC.1 hC.2.1 hC.2.2.2.2.1 (hC.2.2.2.2.2.1 _ kcL_77) d15 ?_
  refine lv_land hC.1 hC.2.1 d18 ?_
  refine lv_lor hC.1 hC.2.1 d19 ?_
  rw [Int32.ofInt_toInt, Int32.ofInt_toInt]
  rw [Int64.ofInt_toInt] at kk
  exact kk
/-- whether an int of the script is not 0 -/
def lwB (x : Int) : Int := if x = 0 then 0 else 1
theorem lw_bol {i : Nat} {k : Int} {k' : Nat} {v1 v2 : Value} (hC : LX p s m meth c b L xs D kA) (hL : L ≤ 2560) (hS : va_S (lw_A s) s.heap H locs) (hl : lv_has la 4 [(0, .ref b), (1, v1), (2, v2), (3, .int (Int32.ofInt (i : Int)))]) (hk : k = (k' : Int)) (hi : i + k' < L) (d0 : decode code pc = .ok (.aload_n 0, 1)) (d1 : decode code (pc + 1) = .ok (.iload_n 3, 1)) (d2 : decode code (pc + 2) = .ok (.iconst k, 1)) (d3 : decode code (pc + 3) = .ok (.iadd, 1)) (d4 : decode code (pc + 4) = .ok (.iaload, 1)) (d5 : decode code (pc + 5) = .ok (.ifCond .eq 7, 3)) (d8 : decode code (pc + 8) = .ok (.iconst 1, 1)) (d9 : decode code (pc + 9) = .ok (.goto 4, 3)) (d12 : decode code (pc + 12) = .ok (.iconst 0, 1))
    (kk : W p l e room_1 s m #[Value.ref b] below meth c H locs z1 z2 Z (F0 m (pc + 13) la (.int (Int32.ofInt (lwB (xs (i + k')).toInt)) :: rest))) : W p l e room_1 s m #[Value.ref b] below meth c H locs z1 z2 Z (F0 m pc la rest) := by
  have hr := lw_r32 (xs (i + k'))
  refine lw_scr hC hL hS hl hk hi d0 d1 d2 d3 d4 ?_
  refine lv_if_eq (tgt := pc + 12) hC.1 hC.2.1 d5 (by omega) (fun q => ?_) (fun q => ?_)
  · have h0 : (xs (i + k')).toInt = 0 := (ct_eq32 (y := 0) (by omega)).mp q
    refine lv_iconst hC.1 hC.2.1 d12 rfl ?_
    rw [show lwB (xs (i + k')).toInt = 0 from if_pos h0] at kk
    exact kk
  · have h0 : ¬ (xs (i + k')).toInt = 0 := fun h => q ((ct_eq32 (y := 0) (by omega)).mpr h)
    refine lv_iconst hC.1 hC.2.1 d8 rfl ?_
    refine lv_goto (tgt := pc + 13) hC.1 hC.2.1 d9 (by omega) ?_
    rw [show lwB (xs (i + k')).toInt = 1 from if_neg h0] at kk
    exact kk
end LWN
theorem lwB_r (x : Int) : lwB x = 0 ∨ lwB x = 1 := by unfold lwB; split <;> simp
theorem jx {wX w2 : List ct_C} (h : JI wX w2) : (∃ fs, wX[165]? = some (cO 11 fs)) ∧ ∃ fs, w2[0]? = some (cO 12 fs) := by
  obtain ⟨T, S, n, P, A, V, x, y, c, k, sd, hI, rfl, o, A', tm, tr, p, st, rfl, hst, hM⟩ := h
  exact ⟨⟨_, rfl⟩, ⟨_, rfl⟩⟩
