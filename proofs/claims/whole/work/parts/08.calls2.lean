/-! CALLS of methods that make no cells -/
theorem ct_sub {w wc : List ct_C} {ps : List Nat} (hsub : ps.map (fun i => w[i]?) = (wc.map (ct_rc (ct_pl ps))).map some) : ∀ (i : Nat) (c : ct_C), wc[i]? = some c → ps[i]? = some (ct_pl ps i) ∧ w[ct_pl ps i]? = some (ct_rc (ct_pl ps) c) := by
  intro i c hi
  have hl : ps.length = wc.length := by have := congrArg List.length hsub; simpa using this
  have hlt : i < ps.length := by rw [hl]; exact (List.getElem?_eq_some_iff.mp hi).1
  have h1 : ps[i]? = some (ct_pl ps i) := by
    unfold ct_pl
    rw [List.getD_eq_getElem?_getD, List.getElem?_eq_getElem hlt]
    rfl
  have h2 := congrArg (fun l => l[i]?) hsub
  simp only [List.getElem?_map, h1, hi, Option.map_some] at h2
  exact ⟨h1, Option.some.inj h2⟩
section CVC
variable {p : Program} {l : Launch} {e : Env} {R : Room} {s : State} {m : MethodId} {args : Array Value} {below : List Frame} {meth : Method} {c : Code} {H : Heap} {locs : List Loc} {cells slots : Nat} {QQ : State → Prop}
variable {D : va_G} {kA : Nat → ClassId} {as : Nat → Nat} {A : Nat → Prop} {w wc : List ct_C} {ps : List Nat} {Q' : Option ct_V → List ct_C → Prop}
theorem ct_subP (hsub : ps.map (fun i => w[i]?) = (wc.map (ct_rc (ct_pl ps))).map some) (hP : va_P D vwCl (ct_wd kA as w) H) : va_P D vwCl (ct_wd kA (fun i => as (ct_pl ps i)) wc) H := by
  intro k q hk
  obtain ⟨c, h1, rfl⟩ := ct_wd_inv hk
  obtain ⟨-, h2⟩ := ct_sub hsub k c h1
  have := hP _ _ (ct_wd_at h2)
  rw [ct_rc_eq]
  exact this
theorem ct_subD (hsub : ps.map (fun i => w[i]?) = (wc.map (ct_rc (ct_pl ps))).map some) (hnd : va_nd ps = true) (hD : va_D A (ct_wd kA as w)) : va_D A (ct_wd kA (fun i => as (ct_pl ps i)) wc) := by
  refine ⟨fun i j x y hi hj hxy => ?_, fun k q hk => ?_⟩
  · obtain ⟨c1, h1, rfl⟩ := ct_wd_inv hi
    obtain ⟨c2, h2, rfl⟩ := ct_wd_inv hj
    obtain ⟨a1, a2⟩ := ct_sub hsub i c1 h1
    obtain ⟨b1, b2⟩ := ct_sub hsub j c2 h2
    have h3 := hD.1 _ _ _ _ (ct_wd_at a2) (ct_wd_at b2) hxy
    rw [← h3] at b1
    exact va_nd_inj ps hnd i j _ a1 b1
  · obtain ⟨c1, h1, rfl⟩ := ct_wd_inv hk
    have h9 := hD.2 _ _ (ct_wd_at (ct_sub hsub k c1 h1).2)
    exact h9
theorem ct_subA (hsub : ps.map (fun i => w[i]?) = (wc.map (ct_rc (ct_pl ps))).map some) (hD : va_D A (ct_wd kA as w)) (hS : va_S A s.heap H locs) (hA : ∀ q, s.heap.size ≤ q → A q) : ∀ q, va_A (ct_wd kA (fun i => as (ct_pl ps i)) wc) H.size q → A q := by
  intro q h
  rcases h with ⟨k, x, h⟩ | h
  · obtain ⟨c1, h1, h2⟩ := ct_wd_inv h
    have := hD.2 _ _ (ct_wd_at (ct_sub hsub k c1 h1).2)
    rw [(Prod.mk.inj h2).1]
    exact this
  · exact hA q (Nat.le_trans hS.1 h)
/-- what a callee finds -/
theorem ct_pre (hsub : ps.map (fun i => w[i]?) = (wc.map (ct_rc (ct_pl ps))).map some) (hnd : va_nd ps = true) (hP : va_P D vwCl (ct_wd kA as w) H) (hD : va_D A (ct_wd kA as w)) (hS : va_S A s.heap H locs) (hA : ∀ q, s.heap.size ≤ q → A q) (hK : va_K D vwCl (ct_tys kA) s) (hN : ct_nw s) (hT : ct_st A s) :
    ∀ U : State, U.heap = H → s.WarmedH U.vm → ct_B D kA (fun i => as (ct_pl ps i)) wc H.size U := by
  intro U hU hW
  refine ⟨by rw [hU], by rw [hU]; exact ct_subP hsub hP, va_K.moved hW.alike hK, hN.warm hW, ?_, (ct_subD hsub hnd hD).weaken (fun _ _ _ _ => trivial)⟩
  obtain ⟨t, h1, h2⟩ := hT
  have hk : ∀ a : Nat, a < s.heap.size → ¬ A a → U.heap[a]? = s.heap[a]? := fun a g1 g2 => by rw [hU]; exact hS.2.1 a g1 g2
  exact ⟨t, ((h1.kept hk).moved hW.alike).narrow (ct_subA hsub hD hS hA), ((h2.kept hk).moved hW.alike).narrow (ct_subA hsub hD hS hA)⟩
theorem ct_blind {av : List Value} {sz : Nat} : FrameBlind (va_Pc av (ct_B D kA as w sz)) := by
  intro a U g mk h
  obtain ⟨h0, h1, h2, h3, h4, h5, h6⟩ := h
  refine ⟨h0, h1, h2, va_K.moved (u := U) (U := U.calling g mk a) (Vm.Alike.refl U.vm) h3, ct_nw.same (s := U) (U := U.calling g mk a) rfl h4, ?_, h6⟩
  obtain ⟨t, g1, g2⟩ := h5
  exact ⟨t, va_Z.moved (u := U) (U := U.calling g mk a) (Vm.Alike.refl U.vm) g1, va_T.moved (u := U) (U := U.calling g mk a) (Vm.Alike.refl U.vm) g2⟩
theorem ct_callW {pc : Nat} {la : Array Slot} {st0 rest : List Value} {a : Array Value} (hr : va_Run p l e R s m args below meth c H locs cells slots 0 0 (F0 m pc la st0) rest (ct_Qc D kA (fun i => as (ct_pl ps i)) 0 wc.length (va_A (ct_wd kA (fun i => as (ct_pl ps i)) wc) H.size) Q' a) (va_A (ct_wd kA (fun i => as (ct_pl ps i)) wc) H.size))
    (hP : va_P D vwCl (ct_wd kA as w) H) (hD : va_D A (ct_wd kA as w)) (hS : va_S A s.heap H locs) (hA : ∀ q, s.heap.size ≤ q → A q) (hsub : ps.map (fun i => w[i]?) = (wc.map (ct_rc (ct_pl ps))).map some) (hnd : va_nd ps = true) (hlen : ∀ v w1, Q' v w1 → w1.length = wc.length)
    (kk : ∀ (v : Option ct_V) (w1 : List ct_C) (H1 : Heap) (locs1 : List Loc), Q' v w1 → va_P D vwCl (ct_wd kA as (ct_bk ps (w1.map (ct_rc (ct_pl ps))) w)) H1 → va_D A (ct_wd kA as (ct_bk ps (w1.map (ct_rc (ct_pl ps))) w)) → va_S A s.heap H1 locs1 →
      W p l e R s m args below meth c H1 locs1 cells slots QQ (F0 m (pc + 3) la ((v.map (fun v => ct_tv as (ct_rv (ct_pl ps) v))).toList ++ rest))) : W p l e R s m args below meth c H locs cells slots QQ (F0 m pc la st0) := by
  intro T hT X
  obtain ⟨v, st₀, t, T', L, h0, X', hL, e1, e2, ⟨⟨rv, w1, as', hv, hq, hag, hP1, hD1⟩, hz, hk⟩, st⟩ := hr T hT X
  have has : as' = fun i => as (ct_pl ps i) := funext fun i => hag i (Or.inl rfl)
  subst has
  cases hv
  rw [h0] at hz hk
  have hwl := hlen _ _ hq
  have hfree := ct_subA hsub hD hS hA
  have hbl : (ct_bk ps (w1.map (ct_rc (ct_pl ps))) w).length = w.length := ct_bk_len _ _ _
  have hP2 : va_P D vwCl (ct_wd kA as (ct_bk ps (w1.map (ct_rc (ct_pl ps))) w)) T'.heap := by
    intro k q hkq
    obtain ⟨c1, h1, rfl⟩ := ct_wd_inv hkq
    by_cases hin : k ∈ ps
    · obtain ⟨i, hi⟩ := List.getElem?_of_mem hin
      have hpl : ps.length = wc.length := by have := congrArg List.length hsub; simpa using this
      have hi1 : i < w1.length := by rw [hwl, ← hpl]; exact (List.getElem?_eq_some_iff.mp hi).1
      have hi2 : i < wc.length := by rw [← hwl]; exact hi1
      obtain ⟨a1, a2⟩ := ct_sub hsub i _ (List.getElem?_eq_getElem hi2)
      have hkk : k = ct_pl ps i := Option.some.inj (hi.symm.trans a1)
      have hkl : k < w.length := by rw [hkk]; exact (List.getElem?_eq_some_iff.mp a2).1
      have h3 := ct_bk_in ps (w1.map (ct_rc (ct_pl ps))) w i k (ct_rc (ct_pl ps) w1[i]) hnd hi (by rw [List.getElem?_map, List.getElem?_eq_getElem hi1]; rfl) hkl
      rw [h1] at h3
      cases h3
      have h4 := hP1 i _ (ct_wd_at (List.getElem?_eq_getElem hi1))
      rw [ct_rc_eq] at h4
      rw [e1, hkk]
      exact h4
    · rw [ct_bk_out _ _ _ _ hin] at h1
      have h4 := hP k _ (ct_wd_at h1)
      have hl := h4.lt
      refine h4.kept ?_
      rw [e1]
      refine hk _ hl (fun hA1 => ?_)
      rcases hA1 with ⟨j, x, hj⟩ | hj
      · obtain ⟨c2, h5, h6⟩ := ct_wd_inv hj
        obtain ⟨a1, a2⟩ := ct_sub hsub j c2 h5
        have h7 := hD.1 _ _ _ _ (ct_wd_at h1) (ct_wd_at a2) (Prod.mk.inj h6).1
        exact hin (by rw [h7]; exact List.mem_of_getElem? a1)
      · exact absurd hl (Nat.not_lt.mpr hj)
  obtain ⟨t2, a1, b1⟩ := kk rv w1 T'.heap (locs ++ L) hq hP2 (ct_wD hbl hD) ⟨Nat.le_trans hS.1 (by rw [e1]; exact hz), fun q h1 h2 => by rw [e1, hk q (Nat.lt_of_lt_of_le h1 hS.1) (fun z => h2 (hfree q z))]; exact hS.2.1 q h1 h2, fun q hq => by
      rcases List.mem_append.mp hq with h | h
      · exact hS.2.2 q h
      · exact hfree _ (hL q h)⟩ T' rfl X'
  refine ⟨t2, st t2 ?_, b1⟩
  have eE : (Option.map (ct_tv fun i => as (ct_pl ps i)) rv).toList = (rv.map (fun v => ct_tv as (ct_rv (ct_pl ps) v))).toList := by
    cases rv with
    | none => rfl
    | some x => simp only [Option.map_some, Option.toList_some, ct_rv_eq]
  rw [eE]
  exact a1
end CVC
def ct_sz : List ct_V → Nat
  | [] => 0
  | (.inr (.inl _)) :: t => ct_sz t + 2
  | _ :: t => ct_sz t + 1
theorem ct_sz_eq (as : Nat → Nat) : ∀ st : List ct_V, ((st.map (ct_tv as)).map fun v => v.category).sum = ct_sz st
  | [] => rfl
  | .inl x :: t => by simp only [List.map_cons, List.sum_cons, ct_sz_eq as t, ct_cat, ct_sz]; omega
  | .inr (.inl x) :: t => by simp only [List.map_cons, List.sum_cons, ct_sz_eq as t, ct_cat, ct_sz]; omega
  | .inr (.inr x) :: t => by simp only [List.map_cons, List.sum_cons, ct_sz_eq as t, ct_cat, ct_sz]; omega
/-- a callee's words: k = 0 an object's method, 1 a static one, 2 a constructor -/
def ct_lk (k : Nat) (M' : ct_M) (n : Nat) : Prop := Cond.initialized M'.1.cls ∈ ct_tbl ∧ Cond.code M'.1 M'.2.1 M'.2.2.1 M'.2.2.2 ∈ ct_tbl ∧ (M'.1.cls ≠ "java/lang/invoke/MethodHandle" ∧ M'.1.cls ≠ "java/lang/invoke/VarHandle") ∧ (parseMethodDescriptor M'.1.desc).map (fun d => d.parameters.length) = some n ∧ M'.2.2.1 ≤ 20 ∧
  (k = 1 → Cond.static M'.1 ∈ ct_tbl) ∧ (k ≠ 1 → Cond.instanceMethod M'.1 ∈ ct_tbl) ∧ (k = 0 → Cond.selects M'.1.cls M'.1 M'.1 ∈ ct_tbl)
theorem ct_lk.good {k : Nat} {M' : ct_M} {n : Nat} (h : ct_lk k M' n) : GoodIn ct_tbl (ct_ws M') := by
  intro w hw
  rcases List.mem_cons.mp hw with rfl | hw
  · exact ct_good _ h.2.1
  · exact ct_good _ hw
theorem ct_roomR {r r' : Nat × Nat × Nat} {n : Nat} (h : r'.1 + 1 ≤ r.1) (hn : n ≤ 20) : (ct_rm r').frames + 1 ≤ (ct_rm r).frames ∧ 8 + (n + 11) + (ct_rm r').locals ≤ (ct_rm r).locals := by
  refine ⟨h, ?_⟩
  show 8 + (n + 11) + 39 * r'.1 ≤ 39 * r.1
  omega
section CVD
variable {M M' : ct_M} {r : Nat × Nat × Nat} {d n0 : Nat} {z : Nat × Nat} {pc : Nat} {ls : List (Nat × ct_V)} {st stk avs : List ct_V} {w wc : List ct_C} {Q Q' : Option ct_V → List ct_C → Prop} {idx n b : Nat}
theorem ct_stk {as : Nat → Nat} {ps : List Nat} : ((avs.map (ct_rv (ct_pl ps))).reverse ++ vR (ct_pl ps b) :: st).map (ct_tv as) = (avs.map (ct_tv (fun i => as (ct_pl ps i)))).reverse ++ .ref (as (ct_pl ps b)) :: st.map (ct_tv as) := by
  rw [List.map_append, List.map_reverse, List.map_map]
  congr 2
  apply List.map_congr_left
  intro v _
  exact (ct_rv_eq as _ v).symm
theorem ct_stkS {as : Nat → Nat} {ps : List Nat} : ((avs.map (ct_rv (ct_pl ps))).reverse ++ st).map (ct_tv as) = (avs.map (ct_tv (fun i => as (ct_pl ps i)))).reverse ++ st.map (ct_tv as) := by
  rw [List.map_append, List.map_reverse, List.map_map]
  congr 2
  apply List.map_congr_left
  intro v _
  exact (ct_rv_eq as _ v).symm
theorem ct_ret {as : Nat → Nat} {ps : List Nat} {v : Option ct_V} : (v.map (fun v => ct_tv as (ct_rv (ct_pl ps) v))).toList ++ st.map (ct_tv as) = ((v.map (ct_rv (ct_pl ps))).toList ++ st).map (ct_tv as) := by
  cases v <;> rfl
theorem cv_callV (ps : List Nat) (hM : CM M' (d, 0, 0) (vR b :: avs) wc Q') (hk : ct_lk 0 M' n) (hlk : Cond.methodLink M.1.cls idx M'.1 ∈ ct_tbl) (hd : decode M.2.1 pc = .ok (.invokevirtual idx, 3)) (hr : d + 1 ≤ r.1) (hn : avs.length = n) (hsub : ps.map (fun i => w[i]?) = (wc.map (ct_rc (ct_pl ps))).map some) (hnd : va_nd ps = true) {ci : Nat} {fs : List ct_V} (hb : wc[b]? = some (cO ci fs)) (hci : (vwCl[ci]?).map (fun q => q.1) = some M'.1.cls)
    (hst : stk = (avs.map (ct_rv (ct_pl ps))).reverse ++ vR (ct_pl ps b) :: st) (hsz : ct_sz st ≤ 8) (hz : z.1 ≤ r.2.1 ∧ z.2 ≤ r.2.2) (hlen : ∀ v w1, Q' v w1 → w1.length = wc.length)
    (kk : ∀ (v : Option ct_V) (w1 : List ct_C), Q' v w1 → CV M r n0 z (pc + 3) ls ((v.map (ct_rv (ct_pl ps))).toList ++ st) (ct_bk ps (w1.map (ct_rc (ct_pl ps))) w) Q) : CV M r n0 z pc ls stk w Q := by
  intro p l e s m args below meth c D kA as0 as A H locs la hc ha hP hD hS hl
  subst hst
  rw [ct_stk]
  have hts := hc.2.2.2.2.2.1
  have hA := hc.2.2.2.2.2.2.2.2.1
  have hK := hc.2.2.2.2.2.2.2.1
  have hpre := ct_pre hsub hnd hP hD hS hA hK hc.2.2.2.2.2.2.1 hc.2.2.2.2.2.2.2.2.2.2.1
  obtain ⟨q, hq1, hq2⟩ : ∃ q, vwCl[ci]? = some q ∧ q.1 = M'.1.cls := by
    cases h : vwCl[ci]? with
    | none => rw [h] at hci; cases hci
    | some q => rw [h] at hci; exact ⟨q, rfl, Option.some.inj hci⟩
  have hrecv := va_recv hK (ct_subP hsub hP) hq1 (ct_wd_at hb)
  rw [hq2] at hrecv
  refine ct_callW (ps := ps) (wc := wc) (Q' := Q') (va_runV (As := avs.map (ct_tv (fun i => as (ct_pl ps i)))) (rest := st.map (ct_tv as)) ⟨hc.1, hc.2.1, hc.2.2.2.1, hc.2.2.2.2.1, hts⟩ (hM l D kA (fun i => as (ct_pl ps i)) H.size) (cwV n hts ?_ rfl rfl rfl ⟨rfl, hk.2.2.1.1, hk.2.2.1.2, hk.2.2.2.1⟩ (ct_roomR hr hk.2.2.2.2.1)) ⟨ct_blind, hrecv, fun U hU hW => ⟨rfl, hpre U hU hW⟩⟩ rfl (by rw [List.length_map]; exact hn) hl.1 rfl (lv_room (by rw [ct_sz_eq]; exact hsz)) hd ⟨hz.1, hz.2⟩) hP hD hS hA hsub hnd hlen (fun v w1 H1 locs1 hq hP1 hD1 hS1 => ?_)
  · intro x hx
    rcases List.mem_append.mp hx with hx | hx
    · simp only [List.mem_cons, List.not_mem_nil, or_false] at hx
      rcases hx with rfl | rfl | rfl | rfl
      · exact ct_good _ hlk
      · exact ct_good _ (hk.2.2.2.2.2.2.1 (by decide))
      · exact ct_good _ (hk.2.2.2.2.2.2.2 rfl)
      · exact ct_good _ hk.1
    · exact hk.good x hx
  · rw [ct_ret]
    exact kk v w1 hq p l e s m args below meth c D kA as0 as A H1 locs1 la hc ha hP1 hD1 hS1 hl
theorem cv_callS (ps : List Nat) (hM : CM M' (d, 0, 0) avs wc Q') (hk : ct_lk 1 M' n) (hlk : Cond.methodLink M.1.cls idx M'.1 ∈ ct_tbl) (hd : decode M.2.1 pc = .ok (.invokestatic idx, 3)) (hr : d + 1 ≤ r.1) (hn : avs.length = n) (hsub : ps.map (fun i => w[i]?) = (wc.map (ct_rc (ct_pl ps))).map some) (hnd : va_nd ps = true)
    (hst : stk = (avs.map (ct_rv (ct_pl ps))).reverse ++ st) (hsz : ct_sz st ≤ 8) (hz : z.1 ≤ r.2.1 ∧ z.2 ≤ r.2.2) (hlen : ∀ v w1, Q' v w1 → w1.length = wc.length)
    (kk : ∀ (v : Option ct_V) (w1 : List ct_C), Q' v w1 → CV M r n0 z (pc + 3) ls ((v.map (ct_rv (ct_pl ps))).toList ++ st) (ct_bk ps (w1.map (ct_rc (ct_pl ps))) w) Q) : CV M r n0 z pc ls stk w Q := by
  intro p l e s m args below meth c D kA as0 as A H locs la hc ha hP hD hS hl
  subst hst
  rw [ct_stkS]
  have hts := hc.2.2.2.2.2.1
  have hA := hc.2.2.2.2.2.2.2.2.1
  have hK := hc.2.2.2.2.2.2.2.1
  have hpre := ct_pre hsub hnd hP hD hS hA hK hc.2.2.2.2.2.2.1 hc.2.2.2.2.2.2.2.2.2.2.1
  refine ct_callW (ps := ps) (wc := wc) (Q' := Q') (va_runS (As := avs.map (ct_tv (fun i => as (ct_pl ps i)))) (rest := st.map (ct_tv as)) ⟨hc.1, hc.2.1, hc.2.2.2.1, hc.2.2.2.2.1, hts⟩ (hM l D kA (fun i => as (ct_pl ps i)) H.size) ⟨callB_of (Ts := ct_tbl) n hts hk.good rfl rfl rfl (hts _ hk.1) (hts _ hlk) ⟨hk.2.2.1.1, hk.2.2.1.2, hk.2.2.2.1⟩ (ct_roomR hr hk.2.2.2.2.1), hts _ (hk.2.2.2.2.2.1 rfl)⟩ ⟨ct_blind, fun U hU hW => ⟨rfl, hpre U hU hW⟩⟩ rfl (by rw [List.length_map]; exact hn) hl.1 rfl (lv_room (by rw [ct_sz_eq]; exact hsz)) hd ⟨hz.1, hz.2⟩) hP hD hS hA hsub hnd hlen (fun v w1 H1 locs1 hq hP1 hD1 hS1 => ?_)
  rw [ct_ret]
  exact kk v w1 hq p l e s m args below meth c D kA as0 as A H1 locs1 la hc ha hP1 hD1 hS1 hl
theorem cv_callSN (ps : List Nat) {host : String} (hM : CM M' (d, 0, 0) avs wc Q') (hk : ct_lk 1 M' n) (hlk : Cond.methodLinkNest M.1.cls idx M'.1 host ∈ ct_nst) (hd : decode M.2.1 pc = .ok (.invokestatic idx, 3)) (hr : d + 1 ≤ r.1) (hn : avs.length = n) (hsub : ps.map (fun i => w[i]?) = (wc.map (ct_rc (ct_pl ps))).map some) (hnd : va_nd ps = true)
    (hst : stk = (avs.map (ct_rv (ct_pl ps))).reverse ++ st) (hsz : ct_sz st ≤ 8) (hz : z.1 ≤ r.2.1 ∧ z.2 ≤ r.2.2) (hlen : ∀ v w1, Q' v w1 → w1.length = wc.length)
    (kk : ∀ (v : Option ct_V) (w1 : List ct_C), Q' v w1 → CV M r n0 z (pc + 3) ls ((v.map (ct_rv (ct_pl ps))).toList ++ st) (ct_bk ps (w1.map (ct_rc (ct_pl ps))) w) Q) : CV M r n0 z pc ls stk w Q := by
  intro p l e s m args below meth c D kA as0 as A H locs la hc ha hP hD hS hl
  subst hst
  rw [ct_stkS]
  have hts := hc.2.2.2.2.2.1
  have hA := hc.2.2.2.2.2.2.2.2.1
  have hK := hc.2.2.2.2.2.2.2.1
  have hpre := ct_pre hsub hnd hP hD hS hA hK hc.2.2.2.2.2.2.1 hc.2.2.2.2.2.2.2.2.2.2.1
  refine ct_callW (ps := ps) (wc := wc) (Q' := Q') (va_runSN (As := avs.map (ct_tv (fun i => as (ct_pl ps i)))) (rest := st.map (ct_tv as)) ⟨hc.1, hc.2.1, hc.2.2.2.1, hc.2.2.2.2.1, hts⟩ (hM l D kA (fun i => as (ct_pl ps i)) H.size) ⟨va_cnB (Ts := ct_tbl) n hts hk.good rfl rfl rfl (hc.2.2.2.2.2.2.1.1 _ hlk) (hts _ hk.1) ⟨hk.2.2.1.1, hk.2.2.1.2, hk.2.2.2.1⟩ (ct_roomR hr hk.2.2.2.2.1), hts _ (hk.2.2.2.2.2.1 rfl), trivial⟩ ⟨ct_blind, fun U hU hW => ⟨rfl, hpre U hU hW⟩⟩ rfl (by rw [List.length_map]; exact hn) hl.1 rfl (lv_room (by rw [ct_sz_eq]; exact hsz)) hd ⟨hz.1, hz.2⟩) hP hD hS hA hsub hnd hlen (fun v w1 H1 locs1 hq hP1 hD1 hS1 => ?_)
  rw [ct_ret]
  exact kk v w1 hq p l e s m args below meth c D kA as0 as A H1 locs1 la hc ha hP1 hD1 hS1 hl
end CVD
