/-! CALLS of methods over the same cells -/
section CVE
variable {p : Program} {l : Launch} {e : Env} {R : Room} {s : State} {m : MethodId} {args : Array Value} {below : List Frame} {meth : Method} {c : Code} {H : Heap} {locs : List Loc} {cells slots : Nat} {QQ : State → Prop}
variable {D : va_G} {kA : Nat → ClassId} {as : Nat → Nat} {A : Nat → Prop} {w : List ct_C} {Q' : Option ct_V → List ct_C → Prop}
theorem ct_sameA (hD : va_D A (ct_wd kA as w)) (hS : va_S A s.heap H locs) (hA : ∀ q, s.heap.size ≤ q → A q) : ∀ q, va_A (ct_wd kA as w) H.size q → A q := by
  intro q h
  rcases h with ⟨k, x, h⟩ | h
  · exact hD.2 _ _ h
  · exact hA q (Nat.le_trans hS.1 h)
theorem ct_preE (hP : va_P D vwCl (ct_wd kA as w) H) (hD : va_D A (ct_wd kA as w)) (hS : va_S A s.heap H locs) (hA : ∀ q, s.heap.size ≤ q → A q) (hK : va_K D vwCl (ct_tys kA) s) (hN : ct_nw s) (hT : ct_st A s) :
    ∀ U : State, U.heap = H → s.WarmedH U.vm → ct_B D kA as w H.size U := by
  intro U hU hW
  refine ⟨by rw [hU], by rw [hU]; exact hP, va_K.moved hW.alike hK, hN.warm hW, ?_, hD.weaken (fun _ _ _ _ => trivial)⟩
  obtain ⟨t, h1, h2⟩ := hT
  have hk : ∀ a : Nat, a < s.heap.size → ¬ A a → U.heap[a]? = s.heap[a]? := fun a g1 g2 => by rw [hU]; exact hS.2.1 a g1 g2
  exact ⟨t, ((h1.kept hk).moved hW.alike).narrow (ct_sameA hD hS hA), ((h2.kept hk).moved hW.alike).narrow (ct_sameA hD hS hA)⟩
theorem ct_callE {pc : Nat} {la : Array Slot} {st0 rest : List Value} {a : Array Value} (hr : va_Run p l e R s m args below meth c H locs cells slots 0 0 (F0 m pc la st0) rest (ct_Qc D kA as 0 w.length (va_A (ct_wd kA as w) H.size) Q' a) (va_A (ct_wd kA as w) H.size))
    (hD : va_D A (ct_wd kA as w)) (hS : va_S A s.heap H locs) (hA : ∀ q, s.heap.size ≤ q → A q)
    (kk : ∀ (v : Option ct_V) (w1 : List ct_C) (H1 : Heap) (locs1 : List Loc), Q' v w1 → va_P D vwCl (ct_wd kA as w1) H1 → va_D A (ct_wd kA as w1) → va_S A s.heap H1 locs1 →
      W p l e R s m args below meth c H1 locs1 cells slots QQ (F0 m (pc + 3) la ((v.map (ct_tv as)).toList ++ rest))) : W p l e R s m args below meth c H locs cells slots QQ (F0 m pc la st0) := by
  intro T hT X
  obtain ⟨v, st₀, t, T', L, h0, X', hL, e1, e2, ⟨⟨rv, w1, as', hv, hq, hag, hP1, hD1⟩, hz, hk⟩, st⟩ := hr T hT X
  have has : as' = as := funext fun i => hag i (Or.inl rfl)
  subst has
  cases hv
  rw [h0] at hz hk
  have hfree := ct_sameA hD hS hA
  obtain ⟨t2, a1, b1⟩ := kk rv w1 T'.heap (locs ++ L) hq (by rw [e1]; exact hP1) (hD1.weaken (fun _ _ _ h => hfree _ h)) ⟨Nat.le_trans hS.1 (by rw [e1]; exact hz), fun q h1 h2 => by rw [e1, hk q (Nat.lt_of_lt_of_le h1 hS.1) (fun z => h2 (hfree q z))]; exact hS.2.1 q h1 h2, fun q hq => by
      rcases List.mem_append.mp hq with h | h
      · exact hS.2.2 q h
      · exact hfree _ (hL q h)⟩ T' rfl X'
  exact ⟨t2, st t2 a1, b1⟩
end CVE
section CVG
variable {M M' : ct_M} {r : Nat × Nat × Nat} {d n0 : Nat} {z : Nat × Nat} {pc : Nat} {ls : List (Nat × ct_V)} {st stk avs : List ct_V} {w : List ct_C} {Q Q' : Option ct_V → List ct_C → Prop} {idx n b : Nat}
theorem ct_retE {as : Nat → Nat} {v : Option ct_V} : (v.map (ct_tv as)).toList ++ st.map (ct_tv as) = (v.toList ++ st).map (ct_tv as) := by
  cases v <;> rfl
theorem cv_sameV (hM : CM M' (d, 0, 0) (vR b :: avs) w Q') (hk : ct_lk 0 M' n) (hlk : Cond.methodLink M.1.cls idx M'.1 ∈ ct_tbl) (hd : decode M.2.1 pc = .ok (.invokevirtual idx, 3)) (hr : d + 1 ≤ r.1) (hn : avs.length = n) {ci : Nat} {fs : List ct_V} (hb : w[b]? = some (cO ci fs)) (hci : (vwCl[ci]?).map (fun q => q.1) = some M'.1.cls)
    (hst : stk = avs.reverse ++ vR b :: st) (hsz : ct_sz st ≤ 8) (hz : z.1 ≤ r.2.1 ∧ z.2 ≤ r.2.2)
    (kk : ∀ (v : Option ct_V) (w1 : List ct_C), Q' v w1 → CV M r n0 z (pc + 3) ls (v.toList ++ st) w1 Q) : CV M r n0 z pc ls stk w Q := by
  intro p l e s m args below meth c D kA as0 as A H locs la hc ha hP hD hS hl
  subst hst
  have e0 : (avs.reverse ++ vR b :: st).map (ct_tv as) = (avs.map (ct_tv as)).reverse ++ .ref (as b) :: st.map (ct_tv as) := by
    rw [List.map_append, List.map_reverse]
    rfl
  rw [e0]
  have hts := hc.2.2.2.2.2.1
  have hA := hc.2.2.2.2.2.2.2.2.1
  have hK := hc.2.2.2.2.2.2.2.1
  have hpre := ct_preE hP hD hS hA hK hc.2.2.2.2.2.2.1 hc.2.2.2.2.2.2.2.2.2.2.1
  obtain ⟨q, hq1, hq2⟩ : ∃ q, vwCl[ci]? = some q ∧ q.1 = M'.1.cls := by
    cases h : vwCl[ci]? with
    | none => rw [h] at hci; cases hci
    | some q => rw [h] at hci; exact ⟨q, rfl, Option.some.inj hci⟩
  have hrecv := va_recv hK hP hq1 (ct_wd_at hb)
  rw [hq2] at hrecv
  refine ct_callE (Q' := Q') (va_runV (As := avs.map (ct_tv as)) (rest := st.map (ct_tv as)) ⟨hc.1, hc.2.1, hc.2.2.2.1, hc.2.2.2.2.1, hts⟩ (hM l D kA as H.size) (cwV n hts ?_ rfl rfl rfl ⟨rfl, hk.2.2.1.1, hk.2.2.1.2, hk.2.2.2.1⟩ (ct_roomR hr hk.2.2.2.2.1)) ⟨ct_blind, hrecv, fun U hU hW => ⟨rfl, hpre U hU hW⟩⟩ rfl (by rw [List.length_map]; exact hn) hl.1 rfl (lv_room (by rw [ct_sz_eq]; exact hsz)) hd ⟨hz.1, hz.2⟩) hD hS hA (fun v w1 H1 locs1 hq hP1 hD1 hS1 => ?_)
  · intro x hx
    rcases List.mem_append.mp hx with hx | hx
    · simp only [List.mem_cons, List.not_mem_nil, or_false] at hx
      rcases hx with rfl | rfl | rfl | rfl
      · exact ct_good _ hlk
      · exact ct_good _ (hk.2.2.2.2.2.2.1 (by decide))
      · exact ct_good _ (hk.2.2.2.2.2.2.2 rfl)
      · exact ct_good _ hk.1
    · exact hk.good x hx
  · rw [ct_retE]
    exact kk v w1 hq p l e s m args below meth c D kA as0 as A H1 locs1 la hc ha hP1 hD1 hS1 hl
theorem cv_sameS (hM : CM M' (d, 0, 0) avs w Q') (hk : ct_lk 1 M' n) (hlk : Cond.methodLink M.1.cls idx M'.1 ∈ ct_tbl) (hd : decode M.2.1 pc = .ok (.invokestatic idx, 3)) (hr : d + 1 ≤ r.1) (hn : avs.length = n)
    (hst : stk = avs.reverse ++ st) (hsz : ct_sz st ≤ 8) (hz : z.1 ≤ r.2.1 ∧ z.2 ≤ r.2.2)
    (kk : ∀ (v : Option ct_V) (w1 : List ct_C), Q' v w1 → CV M r n0 z (pc + 3) ls (v.toList ++ st) w1 Q) : CV M r n0 z pc ls stk w Q := by
  intro p l e s m args below meth c D kA as0 as A H locs la hc ha hP hD hS hl
  subst hst
  have e0 : (avs.reverse ++ st).map (ct_tv as) = (avs.map (ct_tv as)).reverse ++ st.map (ct_tv as) := by
    rw [List.map_append, List.map_reverse]
  rw [e0]
  have hts := hc.2.2.2.2.2.1
  have hA := hc.2.2.2.2.2.2.2.2.1
  have hK := hc.2.2.2.2.2.2.2.1
  have hpre := ct_preE hP hD hS hA hK hc.2.2.2.2.2.2.1 hc.2.2.2.2.2.2.2.2.2.2.1
  refine ct_callE (Q' := Q') (va_runS (As := avs.map (ct_tv as)) (rest := st.map (ct_tv as)) ⟨hc.1, hc.2.1, hc.2.2.2.1, hc.2.2.2.2.1, hts⟩ (hM l D kA as H.size) ⟨callB_of (Ts := ct_tbl) n hts hk.good rfl rfl rfl (hts _ hk.1) (hts _ hlk) ⟨hk.2.2.1.1, hk.2.2.1.2, hk.2.2.2.1⟩ (ct_roomR hr hk.2.2.2.2.1), hts _ (hk.2.2.2.2.2.1 rfl)⟩ ⟨ct_blind, fun U hU hW => ⟨rfl, hpre U hU hW⟩⟩ rfl (by rw [List.length_map]; exact hn) hl.1 rfl (lv_room (by rw [ct_sz_eq]; exact hsz)) hd ⟨hz.1, hz.2⟩) hD hS hA (fun v w1 H1 locs1 hq hP1 hD1 hS1 => ?_)
  rw [ct_retE]
  exact kk v w1 hq p l e s m args below meth c D kA as0 as A H1 locs1 la hc ha hP1 hD1 hS1 hl
theorem cv_sameSN {host : String} (hM : CM M' (d, 0, 0) avs w Q') (hk : ct_lk 1 M' n) (hlk : Cond.methodLinkNest M.1.cls idx M'.1 host ∈ ct_nst) (hd : decode M.2.1 pc = .ok (.invokestatic idx, 3)) (hr : d + 1 ≤ r.1) (hn : avs.length = n)
    (hst : stk = avs.reverse ++ st) (hsz : ct_sz st ≤ 8) (hz : z.1 ≤ r.2.1 ∧ z.2 ≤ r.2.2)
    (kk : ∀ (v : Option ct_V) (w1 : List ct_C), Q' v w1 → CV M r n0 z (pc + 3) ls (v.toList ++ st) w1 Q) : CV M r n0 z pc ls stk w Q := by
  intro p l e s m args below meth c D kA as0 as A H locs la hc ha hP hD hS hl
  subst hst
  have e0 : (avs.reverse ++ st).map (ct_tv as) = (avs.map (ct_tv as)).reverse ++ st.map (ct_tv as) := by
    rw [List.map_append, List.map_reverse]
  rw [e0]
  have hts := hc.2.2.2.2.2.1
  have hA := hc.2.2.2.2.2.2.2.2.1
  have hK := hc.2.2.2.2.2.2.2.1
  have hpre := ct_preE hP hD hS hA hK hc.2.2.2.2.2.2.1 hc.2.2.2.2.2.2.2.2.2.2.1
  refine ct_callE (Q' := Q') (va_runSN (As := avs.map (ct_tv as)) (rest := st.map (ct_tv as)) ⟨hc.1, hc.2.1, hc.2.2.2.1, hc.2.2.2.2.1, hts⟩ (hM l D kA as H.size) ⟨va_cnB (Ts := ct_tbl) n hts hk.good rfl rfl rfl (hc.2.2.2.2.2.2.1.1 _ hlk) (hts _ hk.1) ⟨hk.2.2.1.1, hk.2.2.1.2, hk.2.2.2.1⟩ (ct_roomR hr hk.2.2.2.2.1), hts _ (hk.2.2.2.2.2.1 rfl), trivial⟩ ⟨ct_blind, fun U hU hW => ⟨rfl, hpre U hU hW⟩⟩ rfl (by rw [List.length_map]; exact hn) hl.1 rfl (lv_room (by rw [ct_sz_eq]; exact hsz)) hd ⟨hz.1, hz.2⟩) hD hS hA (fun v w1 H1 locs1 hq hP1 hD1 hS1 => ?_)
  rw [ct_retE]
  exact kk v w1 hq p l e s m args below meth c D kA as0 as A H1 locs1 la hc ha hP1 hD1 hS1 hl
end CVG
