/-! CALLS that make cells (constructors) -/
def ct_gA (ps : List Nat) (n N i : Nat) : Nat := if i < n then ct_pl ps i else N + (i - n)
def ct_bkA (ps : List Nat) (n : Nat) (w w1 : List ct_C) : List ct_C := ct_bk ps ((w1.take n).map (ct_rc (ct_gA ps n w.length))) w ++ (w1.drop n).map (ct_rc (ct_gA ps n w.length))
section CVCA
variable {p : Program} {l : Launch} {e : Env} {R : Room} {s : State} {m : MethodId} {args : Array Value} {below : List Frame} {meth : Method} {c : Code} {H : Heap} {locs : List Loc} {cells slots mc ms : Nat} {QQ : State → Prop}
variable {D : va_G} {kA : Nat → ClassId} {as : Nat → Nat} {A : Nat → Prop} {w wc : List ct_C} {ps : List Nat} {Q' : Option ct_V → List ct_C → Prop}
theorem ct_callWA {pc : Nat} {la : Array Slot} {st0 rest : List Value} {a : Array Value} (hr : va_Run p l e R s m args below meth c H locs cells slots mc ms (F0 m pc la st0) rest (ct_Qc D kA (fun i => as (ct_pl ps i)) mc wc.length (va_A (ct_wd kA (fun i => as (ct_pl ps i)) wc) H.size) Q' a) (va_A (ct_wd kA (fun i => as (ct_pl ps i)) wc) H.size))
    (hP : va_P D vwCl (ct_wd kA as w) H) (hD : va_D A (ct_wd kA as w)) (hS : va_S A s.heap H locs) (hA : ∀ q, s.heap.size ≤ q → A q) (hsub : ps.map (fun i => w[i]?) = (wc.map (ct_rc (ct_pl ps))).map some) (hnd : va_nd ps = true) (hw : w.all (ct_cb w.length) = true) (hlen : ∀ v w1, Q' v w1 → v = none ∧ wc.length ≤ w1.length)
    (kk : ∀ (w1 : List ct_C) (as2 : Nat → Nat) (H1 : Heap) (locs1 : List Loc), Q' none w1 → (∀ i, i < w.length → as2 i = as i) → va_P D vwCl (ct_wd kA as2 (ct_bkA ps wc.length w w1)) H1 → va_D A (ct_wd kA as2 (ct_bkA ps wc.length w w1)) → va_S A s.heap H1 locs1 →
      W p l e R s m args below meth c H1 locs1 (cells + mc) (slots + ms) QQ (F0 m (pc + 3) la rest)) : W p l e R s m args below meth c H locs cells slots QQ (F0 m pc la st0) := by
  intro T hT X
  obtain ⟨v, st₀, t, T', L, h0, X', hL, e1, e2, ⟨⟨rv, w1, as', hv, hq, hag, hP1, hD1⟩, hz, hk⟩, st⟩ := hr T hT X
  obtain ⟨rfl, hwl⟩ := hlen _ _ hq
  cases hv
  rw [h0] at hz hk
  have hfree := ct_subA hsub hD hS hA
  have hpl : ps.length = wc.length := by have := congrArg List.length hsub; simpa using this
  have hin : ∀ i, i < wc.length → ps[i]? = some (ct_pl ps i) ∧ ct_pl ps i < w.length := fun i hi => by
    obtain ⟨a1, a2⟩ := ct_sub hsub i _ (List.getElem?_eq_getElem hi)
    exact ⟨a1, (List.getElem?_eq_some_iff.mp a2).1⟩
  obtain ⟨as2, has2⟩ : ∃ as2 : Nat → Nat, as2 = fun i => if i < w.length then as i else as' (wc.length + (i - w.length)) := ⟨_, rfl⟩
  have ho : ∀ i, i < w.length → as2 i = as i := fun i hi => by rw [has2]; exact if_pos hi
  have hn : ∀ i, as2 (w.length + i) = as' (wc.length + i) := fun i => by
    rw [has2]
    show (if w.length + i < w.length then _ else as' (wc.length + (w.length + i - w.length))) = _
    rw [if_neg (by omega), Nat.add_sub_cancel_left]
  have hg : (fun i => as2 (ct_gA ps wc.length w.length i)) = as' := by
    funext i
    unfold ct_gA
    by_cases hi : i < wc.length
    · rw [if_pos hi, ho _ (hin i hi).2, hag i (Or.inr hi)]
    · rw [if_neg hi, hn, show wc.length + (i - wc.length) = i by omega]
  have hte : ∀ c1 : ct_C, ct_te kA as2 (ct_rc (ct_gA ps wc.length w.length) c1) = ct_te kA as' c1 := fun c1 => by rw [← ct_rc_eq, hg]
  have hbl : (ct_bk ps ((w1.take wc.length).map (ct_rc (ct_gA ps wc.length w.length))) w).length = w.length := ct_bk_len _ _ _
  -- each cell of the new list: an old one that was not the callee's, or one of the callee's
  have key : ∀ (k : Nat) (c1 : ct_C), (ct_bkA ps wc.length w w1)[k]? = some c1 → (k < w.length ∧ k ∉ ps ∧ w[k]? = some c1) ∨ (∃ (i : Nat) (c2 : ct_C), w1[i]? = some c2 ∧ c1 = ct_rc (ct_gA ps wc.length w.length) c2 ∧ as2 k = as' i ∧ ((i < wc.length ∧ k < w.length ∧ ps[i]? = some k) ∨ (wc.length ≤ i ∧ k = w.length + (i - wc.length)))) := by
    intro k c1 h1
    unfold ct_bkA at h1
    by_cases hkl : k < w.length
    · rw [List.getElem?_append_left (by rw [hbl]; exact hkl)] at h1
      by_cases hkp : k ∈ ps
      · obtain ⟨i, hi⟩ := List.getElem?_of_mem hkp
        have hi2 : i < wc.length := by rw [← hpl]; exact (List.getElem?_eq_some_iff.mp hi).1
        have hi1 : i < w1.length := by omega
        have hkk : k = ct_pl ps i := Option.some.inj (hi.symm.trans (hin i hi2).1)
        have h3 := ct_bk_in ps ((w1.take wc.length).map (ct_rc (ct_gA ps wc.length w.length))) w i k (ct_rc (ct_gA ps wc.length w.length) w1[i]) hnd hi (by rw [List.getElem?_map, List.getElem?_take, if_pos hi2, List.getElem?_eq_getElem hi1]; rfl) hkl
        rw [h1] at h3
        exact Or.inr ⟨i, w1[i], List.getElem?_eq_getElem hi1, Option.some.inj h3, by rw [ho k hkl, hkk, hag i (Or.inr hi2)], Or.inl ⟨hi2, hkl, hi⟩⟩
      · rw [ct_bk_out _ _ _ _ hkp] at h1
        exact Or.inl ⟨hkl, hkp, h1⟩
    · rw [List.getElem?_append_right (by rw [hbl]; omega), hbl, List.getElem?_map, List.getElem?_drop] at h1
      cases e3 : w1[wc.length + (k - w.length)]? with
      | none => rw [e3] at h1; cases h1
      | some c2 =>
        rw [e3] at h1
        exact Or.inr ⟨wc.length + (k - w.length), c2, e3, (Option.some.inj h1).symm, by rw [← hn, show w.length + (k - w.length) = k by omega], Or.inr ⟨by omega, by omega⟩⟩
  have hlow : ∀ (k : Nat) (c1 : ct_C), w[k]? = some c1 → as k < H.size := fun k c1 h1 => (hP k _ (ct_wd_at h1)).lt
  have hP2 : va_P D vwCl (ct_wd kA as2 (ct_bkA ps wc.length w w1)) T'.heap := by
    intro k q hkq
    obtain ⟨c1, h1, rfl⟩ := ct_wd_inv hkq
    rcases key k c1 h1 with ⟨kl, kp, k1⟩ | ⟨i, c2, k1, rfl, k3, -⟩
    · have h4 := hP k _ (ct_wd_at k1)
      have hl := h4.lt
      rw [ho k kl, ct_te_x ho (List.all_eq_true.mp hw _ (List.mem_of_getElem? k1))]
      refine h4.kept ?_
      rw [e1]
      refine hk _ hl (fun hA1 => ?_)
      rcases hA1 with ⟨j, x, hj⟩ | hj
      · obtain ⟨c3, h5, h6⟩ := ct_wd_inv hj
        obtain ⟨a1, a2⟩ := ct_sub hsub j c3 h5
        have h7 := hD.1 _ _ _ _ (ct_wd_at k1) (ct_wd_at a2) (Prod.mk.inj h6).1
        exact kp (by rw [h7]; exact List.mem_of_getElem? a1)
      · exact absurd hl (Nat.not_lt.mpr hj)
    · rw [hte, k3, e1]
      exact hP1 i _ (ct_wd_at k1)
  have hD2 : va_D A (ct_wd kA as2 (ct_bkA ps wc.length w w1)) := by
    -- a made cell lies behind all that were there
    have hfar : ∀ (i : Nat) (c2 : ct_C), w1[i]? = some c2 → wc.length ≤ i → H.size ≤ as' i := by
      intro i c2 k1 hi
      rcases hD1.2 _ _ (ct_wd_at k1) with ⟨j, x, hj⟩ | hj
      · obtain ⟨c3, h5, h6⟩ := ct_wd_inv hj
        have hj2 : j < wc.length := (List.getElem?_eq_some_iff.mp h5).1
        have h7 : as' i = as' j := (Prod.mk.inj h6).1.trans (hag j (Or.inr hj2)).symm
        have h8 := hD1.1 i j _ _ (ct_wd_at k1) (ct_wd_at (List.getElem?_eq_getElem (show j < w1.length by omega))) h7
        omega
      · exact hj
    refine ⟨fun i j x y hi hj hxy => ?_, fun k q hkq => ?_⟩
    · obtain ⟨c1, h1, rfl⟩ := ct_wd_inv hi
      obtain ⟨c2, h2, rfl⟩ := ct_wd_inv hj
      have hxy' : as2 i = as2 j := hxy
      rcases key i c1 h1 with ⟨il, ip, i1⟩ | ⟨i', ci', i1, -, i3, i4⟩
      · rcases key j c2 h2 with ⟨jl, jp, j1⟩ | ⟨j', cj', j1, -, j3, j4⟩
        · rw [ho i il, ho j jl] at hxy'
          exact hD.1 _ _ _ _ (ct_wd_at i1) (ct_wd_at j1) hxy'
        · rcases j4 with ⟨j5, j6, j7⟩ | ⟨j5, j6⟩
          · rw [ho i il, ho j j6] at hxy'
            have hjw : w[j]? = some w[j] := List.getElem?_eq_getElem j6
            exact hD.1 _ _ _ _ (ct_wd_at i1) (ct_wd_at hjw) hxy'
          · have h9 := hfar j' cj' j1 j5
            rw [ho i il, j3] at hxy'
            have := hlow i c1 i1
            omega
      · rcases key j c2 h2 with ⟨jl, jp, j1⟩ | ⟨j', cj', j1, -, j3, j4⟩
        · rcases i4 with ⟨i5, i6, i7⟩ | ⟨i5, i6⟩
          · rw [ho i i6, ho j jl] at hxy'
            have hiw : w[i]? = some w[i] := List.getElem?_eq_getElem i6
            exact hD.1 _ _ _ _ (ct_wd_at hiw) (ct_wd_at j1) hxy'
          · have h9 := hfar i' ci' i1 i5
            rw [i3, ho j jl] at hxy'
            have := hlow j c2 j1
            omega
        · rw [i3, j3] at hxy'
          have h9 := hD1.1 i' j' _ _ (ct_wd_at i1) (ct_wd_at j1) hxy'
          subst h9
          rcases i4 with ⟨i5, i6, i7⟩ | ⟨i5, i6⟩
          · rcases j4 with ⟨j5, j6, j7⟩ | ⟨j5, j6⟩
            · exact Option.some.inj (i7.symm.trans j7)
            · omega
          · rcases j4 with ⟨j5, j6, j7⟩ | ⟨j5, j6⟩
            · omega
            · omega
    · obtain ⟨c1, h1, rfl⟩ := ct_wd_inv hkq
      rcases key k c1 h1 with ⟨kl, kp, k1⟩ | ⟨i, c2, k1, -, k3, -⟩
      · show A (as2 k)
        rw [ho k kl]
        exact hD.2 _ _ (ct_wd_at k1)
      · show A (as2 k)
        rw [k3]
        exact hfree _ (hD1.2 _ _ (ct_wd_at k1))
  obtain ⟨t2, a1, b1⟩ := kk w1 as2 T'.heap (locs ++ L) hq ho hP2 hD2 ⟨Nat.le_trans hS.1 (by rw [e1]; exact hz), fun q h1 h2 => by rw [e1, hk q (Nat.lt_of_lt_of_le h1 hS.1) (fun z => h2 (hfree q z))]; exact hS.2.1 q h1 h2, fun q hq => by
      rcases List.mem_append.mp hq with h | h
      · exact hS.2.2 q h
      · exact hfree _ (hL q h)⟩ T' rfl X'
  exact ⟨t2, st t2 a1, b1⟩
end CVCA
section CVDA
variable {M M' : ct_M} {r : Nat × Nat × Nat} {d mc ms n0 : Nat} {z : Nat × Nat} {pc : Nat} {ls : List (Nat × ct_V)} {st stk avs : List ct_V} {w wc : List ct_C} {Q Q' : Option ct_V → List ct_C → Prop} {idx n b : Nat}
theorem ct_backA {ps : List Nat} {p : Program} {l : Launch} {e : Env} {s : State} {m : MethodId} {args : Array Value} {below : List Frame} {meth : Method} {c : Code} {D : va_G} {kA : Nat → ClassId} {as0 as as2 : Nat → Nat} {A : Nat → Prop} {H1 : Heap} {locs1 : List Loc} {la : Array Slot} {w1 : List ct_C}
    (kk : CV M r n0 (z.1 + mc, z.2 + ms) (pc + 3) ls st (ct_bkA ps wc.length w w1) Q) (hb : ct_cls ls st w = true) (hn : n0 ≤ w.length) (hr : ¬ r.2.1 = 0) (hc : ct_cx M D kA A p s m args meth c) (ha : ∀ i, r.2.1 = 0 ∨ i < n0 → as i = as0 i) (hl : lv_has la M.2.2.1 (ct_lm as ls)) (ho : ∀ i, i < w.length → as2 i = as i)
    (hP : va_P D vwCl (ct_wd kA as2 (ct_bkA ps wc.length w w1)) H1) (hD : va_D A (ct_wd kA as2 (ct_bkA ps wc.length w w1))) (hS : va_S A s.heap H1 locs1) :
    W p l e (ct_rm r) s m args below meth c H1 locs1 (z.1 + mc) (z.2 + ms) (MQ below (ct_Qc D kA as0 r.2.1 n0 A Q) args s r.2.1 r.2.2 A) (F0 m (pc + 3) la (st.map (ct_tv as))) := by
  unfold ct_cls at hb
  rw [Bool.and_eq_true, Bool.and_eq_true] at hb
  obtain ⟨⟨b1, b2⟩, b3⟩ := hb
  have h := kk p l e s m args below meth c D kA as0 as2 A H1 locs1 la hc (fun i hi => by
    rcases hi with hi | hi
    · exact absurd hi hr
    · rw [ho i (by omega)]; exact ha i (Or.inr hi)) hP hD hS (by rw [ct_lm_x ho b1]; exact hl)
  rw [ct_st_x ho b2] at h
  exact h
theorem ct_wAll (hb : ct_cls ls st w = true) : w.all (ct_cb w.length) = true := by
  unfold ct_cls at hb
  rw [Bool.and_eq_true] at hb
  exact hb.2
theorem cv_callI (ps : List Nat) (hM : CM M' (d, mc, ms) (vR b :: avs) wc Q') (hk : ct_lk 2 M' n) (hnm : M'.1.name = "<init>") (hrt : M'.2.2.2 = none) (hlk : Cond.methodLink M.1.cls idx M'.1 ∈ ct_tbl) (hd : decode M.2.1 pc = .ok (.invokespecial idx, 3)) (hr : d + 1 ≤ r.1) (hn : avs.length = n) (hsub : ps.map (fun i => w[i]?) = (wc.map (ct_rc (ct_pl ps))).map some) (hnd : va_nd ps = true)
    (hst : stk = (avs.map (ct_rv (ct_pl ps))).reverse ++ vR (ct_pl ps b) :: st) (hsz : ct_sz st ≤ 8) (hz : z.1 + mc ≤ r.2.1 ∧ z.2 + ms ≤ r.2.2) (hr0 : ¬ r.2.1 = 0) (hb : ct_cls ls st w = true) (hn0 : n0 ≤ w.length) (hlen : ∀ v w1, Q' v w1 → v = none ∧ wc.length ≤ w1.length)
    (kk : ∀ (w1 : List ct_C), Q' none w1 → CV M r n0 (z.1 + mc, z.2 + ms) (pc + 3) ls st (ct_bkA ps wc.length w w1) Q) : CV M r n0 z pc ls stk w Q := by
  intro p l e s m args below meth c D kA as0 as A H locs la hc ha hP hD hS hl
  subst hst
  rw [ct_stk]
  have hts := hc.2.2.2.2.2.1
  have hA := hc.2.2.2.2.2.2.2.2.1
  have hK := hc.2.2.2.2.2.2.2.1
  have hpre := ct_pre hsub hnd hP hD hS hA hK hc.2.2.2.2.2.2.1 hc.2.2.2.2.2.2.2.2.2.2.1
  refine ct_callWA (ps := ps) (wc := wc) (Q' := Q') (va_runI (As := avs.map (ct_tv (fun i => as (ct_pl ps i)))) (rest := st.map (ct_tv as)) ⟨hc.1, hc.2.1, hc.2.2.2.1, hc.2.2.2.2.1, hts⟩ (hM l D kA (fun i => as (ct_pl ps i)) H.size) ⟨callB_of (Ts := ct_tbl) n hts hk.good (by unfold ct_ws; rw [hrt]) rfl rfl (hts _ hk.1) (hts _ hlk) ⟨hk.2.2.1.1, hk.2.2.1.2, hk.2.2.2.1⟩ (ct_roomR hr hk.2.2.2.2.1), hnm, hts _ (hk.2.2.2.2.2.2.1 (by decide))⟩ ⟨ct_blind, fun U hU hW => ⟨rfl, hpre U hU hW⟩⟩ rfl (by rw [List.length_map]; exact hn) hl.1 rfl (lv_room (by rw [ct_sz_eq]; exact hsz)) hd ⟨hz.1, hz.2⟩) hP hD hS hA hsub hnd (ct_wAll hb) hlen (fun w1 as2 H1 locs1 hq ho hP1 hD1 hS1 => ?_)
  exact ct_backA (kk w1 hq) hb hn0 hr0 hc ha hl ho hP1 hD1 hS1
theorem cv_callIN (ps : List Nat) {host : String} (hM : CM M' (d, mc, ms) (vR b :: avs) wc Q') (hk : ct_lk 2 M' n) (hnm : M'.1.name = "<init>") (hrt : M'.2.2.2 = none) (hlk : Cond.methodLinkNest M.1.cls idx M'.1 host ∈ ct_nst) (hd : decode M.2.1 pc = .ok (.invokespecial idx, 3)) (hr : d + 1 ≤ r.1) (hn : avs.length = n) (hsub : ps.map (fun i => w[i]?) = (wc.map (ct_rc (ct_pl ps))).map some) (hnd : va_nd ps = true)
    (hst : stk = (avs.map (ct_rv (ct_pl ps))).reverse ++ vR (ct_pl ps b) :: st) (hsz : ct_sz st ≤ 8) (hz : z.1 + mc ≤ r.2.1 ∧ z.2 + ms ≤ r.2.2) (hr0 : ¬ r.2.1 = 0) (hb : ct_cls ls st w = true) (hn0 : n0 ≤ w.length) (hlen : ∀ v w1, Q' v w1 → v = none ∧ wc.length ≤ w1.length)
    (kk : ∀ (w1 : List ct_C), Q' none w1 → CV M r n0 (z.1 + mc, z.2 + ms) (pc + 3) ls st (ct_bkA ps wc.length w w1) Q) : CV M r n0 z pc ls stk w Q := by
  intro p l e s m args below meth c D kA as0 as A H locs la hc ha hP hD hS hl
  subst hst
  rw [ct_stk]
  have hts := hc.2.2.2.2.2.1
  have hA := hc.2.2.2.2.2.2.2.2.1
  have hK := hc.2.2.2.2.2.2.2.1
  have hpre := ct_pre hsub hnd hP hD hS hA hK hc.2.2.2.2.2.2.1 hc.2.2.2.2.2.2.2.2.2.2.1
  refine ct_callWA (ps := ps) (wc := wc) (Q' := Q') (va_runIN (As := avs.map (ct_tv (fun i => as (ct_pl ps i)))) (rest := st.map (ct_tv as)) ⟨hc.1, hc.2.1, hc.2.2.2.1, hc.2.2.2.2.1, hts⟩ (hM l D kA (fun i => as (ct_pl ps i)) H.size) ⟨va_cnB (Ts := ct_tbl) n hts hk.good (by unfold ct_ws; rw [hrt]) rfl rfl (hc.2.2.2.2.2.2.1.1 _ hlk) (hts _ hk.1) ⟨hk.2.2.1.1, hk.2.2.1.2, hk.2.2.2.1⟩ (ct_roomR hr hk.2.2.2.2.1), hnm, hts _ (hk.2.2.2.2.2.2.1 (by decide))⟩ ⟨ct_blind, fun U hU hW => ⟨rfl, hpre U hU hW⟩⟩ rfl (by rw [List.length_map]; exact hn) hl.1 rfl (lv_room (by rw [ct_sz_eq]; exact hsz)) hd ⟨hz.1, hz.2⟩) hP hD hS hA hsub hnd (ct_wAll hb) hlen (fun w1 as2 H1 locs1 hq ho hP1 hD1 hS1 => ?_)
  exact ct_backA (kk w1 hq) hb hn0 hr0 hc ha hl ho hP1 hD1 hS1
end CVDA
