/-! CALLS over the first cells of the caller's -/
theorem ct_ap {wc wr : List ct_C} {i : Nat} {c : ct_C} (h : wc[i]? = some c) : (wc ++ wr)[i]? = some c := by
  rw [List.getElem?_append_left (List.getElem?_eq_some_iff.mp h).1]
  exact h
section CVH
variable {p : Program} {l : Launch} {e : Env} {R : Room} {s : State} {m : MethodId} {args : Array Value} {below : List Frame} {meth : Method} {c : Code} {H : Heap} {locs : List Loc} {cells slots : Nat} {QQ : State → Prop}
variable {D : va_G} {kA : Nat → ClassId} {as : Nat → Nat} {A : Nat → Prop} {wc wr : List ct_C} {Q' : Option ct_V → List ct_C → Prop}
theorem ct_apP (hP : va_P D vwCl (ct_wd kA as (wc ++ wr)) H) : va_P D vwCl (ct_wd kA as wc) H := by
  intro k q hk
  obtain ⟨c, h1, rfl⟩ := ct_wd_inv hk
  exact hP _ _ (ct_wd_at (ct_ap h1))
theorem ct_apD (hD : va_D A (ct_wd kA as (wc ++ wr))) : va_D A (ct_wd kA as wc) := by
  refine ⟨fun i j x y hi hj hxy => ?_, fun k q hk => ?_⟩
  · obtain ⟨c1, h1, rfl⟩ := ct_wd_inv hi
    obtain ⟨c2, h2, rfl⟩ := ct_wd_inv hj
    exact hD.1 i j _ _ (ct_wd_at (ct_ap h1)) (ct_wd_at (ct_ap h2)) hxy
  · obtain ⟨c1, h1, rfl⟩ := ct_wd_inv hk
    exact hD.2 k _ (ct_wd_at (ct_ap h1))
theorem ct_callP {pc : Nat} {la : Array Slot} {st0 rest : List Value} {a : Array Value} (hr : va_Run p l e R s m args below meth c H locs cells slots 0 0 (F0 m pc la st0) rest (ct_Qc D kA as 0 wc.length (va_A (ct_wd kA as wc) H.size) Q' a) (va_A (ct_wd kA as wc) H.size))
    (hP : va_P D vwCl (ct_wd kA as (wc ++ wr)) H) (hD : va_D A (ct_wd kA as (wc ++ wr))) (hS : va_S A s.heap H locs) (hA : ∀ q, s.heap.size ≤ q → A q) (hlen : ∀ v w1, Q' v w1 → w1.length = wc.length)
    (kk : ∀ (v : Option ct_V) (w1 : List ct_C) (H1 : Heap) (locs1 : List Loc), Q' v w1 → va_P D vwCl (ct_wd kA as (w1 ++ wr)) H1 → va_D A (ct_wd kA as (w1 ++ wr)) → va_S A s.heap H1 locs1 →
      W p l e R s m args below meth c H1 locs1 cells slots QQ (F0 m (pc + 3) la ((v.map (ct_tv as)).toList ++ rest))) : W p l e R s m args below meth c H locs cells slots QQ (F0 m pc la st0) := by
  intro T hT X
  obtain ⟨v, st₀, t, T', L, h0, X', hL, e1, e2, ⟨⟨rv, w1, as', hv, hq, hag, hP1, hD1⟩, hz, hk⟩, st⟩ := hr T hT X
  have has : as' = as := funext fun i => hag i (Or.inl rfl)
  subst has
  cases hv
  rw [h0] at hz hk
  have hwl := hlen _ _ hq
  have hfree := ct_sameA (ct_apD hD) hS hA
  have hP2 : va_P D vwCl (ct_wd kA as' (w1 ++ wr)) T'.heap := by
    intro k q hkq
    obtain ⟨c1, h1, rfl⟩ := ct_wd_inv hkq
    by_cases hin : k < w1.length
    · rw [List.getElem?_append_left hin] at h1
      rw [e1]
      exact hP1 k _ (ct_wd_at h1)
    · rw [List.getElem?_append_right (by omega), hwl] at h1
      have h2 : (wc ++ wr)[k]? = some c1 := by rw [List.getElem?_append_right (by omega)]; exact h1
      have h4 := hP k _ (ct_wd_at h2)
      have hl := h4.lt
      refine h4.kept ?_
      rw [e1]
      refine hk _ hl (fun hA1 => ?_)
      rcases hA1 with ⟨j, x, hj⟩ | hj
      · obtain ⟨c2, h5, h6⟩ := ct_wd_inv hj
        have h7 := hD.1 _ _ _ _ (ct_wd_at h2) (ct_wd_at (ct_ap h5)) (Prod.mk.inj h6).1
        have h8 := (List.getElem?_eq_some_iff.mp h5).1
        omega
      · exact absurd hl (Nat.not_lt.mpr hj)
  obtain ⟨t2, a1, b1⟩ := kk rv w1 T'.heap (locs ++ L) hq hP2 (ct_wD (by rw [List.length_append, List.length_append, hwl]) hD) ⟨Nat.le_trans hS.1 (by rw [e1]; exact hz), fun q h1 h2 => by rw [e1, hk q (Nat.lt_of_lt_of_le h1 hS.1) (fun z => h2 (hfree q z))]; exact hS.2.1 q h1 h2, fun q hq => by
      rcases List.mem_append.mp hq with h | h
      · exact hS.2.2 q h
      · exact hfree _ (hL q h)⟩ T' rfl X'
  exact ⟨t2, st t2 a1, b1⟩
end CVH
section CVI
variable {M M' : ct_M} {r : Nat × Nat × Nat} {d n0 : Nat} {z : Nat × Nat} {pc : Nat} {ls : List (Nat × ct_V)} {st stk avs : List ct_V} {wc wr : List ct_C} {Q Q' : Option ct_V → List ct_C → Prop} {idx n b : Nat}
theorem cv_preV (hM : CM M' (d, 0, 0) (vR b :: avs) wc Q') (hk : ct_lk 0 M' n) (hlk : Cond.methodLink M.1.cls idx M'.1 ∈ ct_tbl) (hd : decode M.2.1 pc = .ok (.invokevirtual idx, 3)) (hr : d + 1 ≤ r.1) (hn : avs.length = n) {ci : Nat} {fs : List ct_V} (hb : wc[b]? = some (cO ci fs)) (hci : (vwCl[ci]?).map (fun q => q.1) = some M'.1.cls)
    (hst : stk = avs.reverse ++ vR b :: st) (hsz : ct_sz st ≤ 8) (hz : z.1 ≤ r.2.1 ∧ z.2 ≤ r.2.2) (hlen : ∀ v w1, Q' v w1 → w1.length = wc.length)
    (kk : ∀ (v : Option ct_V) (w1 : List ct_C), Q' v w1 → CV M r n0 z (pc + 3) ls (v.toList ++ st) (w1 ++ wr) Q) : CV M r n0 z pc ls stk (wc ++ wr) Q := by
  intro p l e s m args below meth c D kA as0 as A H locs la hc ha hP hD hS hl
  subst hst
  have e0 : (avs.reverse ++ vR b :: st).map (ct_tv as) = (avs.map (ct_tv as)).reverse ++ .ref (as b) :: st.map (ct_tv as) := by
    rw [List.map_append, List.map_reverse]
    rfl
  rw [e0]
  have hts := hc.2.2.2.2.2.1
  have hA := hc.2.2.2.2.2.2.2.2.1
  have hK := hc.2.2.2.2.2.2.2.1
  have hpre := ct_preE (ct_apP hP) (ct_apD hD) hS hA hK hc.2.2.2.2.2.2.1 hc.2.2.2.2.2.2.2.2.2.2.1
  obtain ⟨q, hq1, hq2⟩ : ∃ q, vwCl[ci]? = some q ∧ q.1 = M'.1.cls := by
    cases h : vwCl[ci]? with
    | none => rw [h] at hci; cases hci
    | some q => rw [h] at hci; exact ⟨q, rfl, Option.some.inj hci⟩
  have hrecv := va_recv hK (ct_apP hP) hq1 (ct_wd_at hb)
  rw [hq2] at hrecv
  refine ct_callP (Q' := Q') (va_runV (As := avs.map (ct_tv as)) (rest := st.map (ct_tv as)) ⟨hc.1, hc.2.1, hc.2.2.2.1, hc.2.2.2.2.1, hts⟩ (hM l D kA as H.size) (cwV n hts ?_ rfl rfl rfl ⟨rfl, hk.2.2.1.1, hk.2.2.1.2, hk.2.2.2.1⟩ (ct_roomR hr hk.2.2.2.2.1)) ⟨ct_blind, hrecv, fun U hU hW => ⟨rfl, hpre U hU hW⟩⟩ rfl (by rw [List.length_map]; exact hn) hl.1 rfl (lv_room (by rw [ct_sz_eq]; exact hsz)) hd ⟨hz.1, hz.2⟩) hP hD hS hA hlen (fun v w1 H1 locs1 hq hP1 hD1 hS1 => ?_)
  · intro x hx
    rcases List.mem_append.mp hx with hx | hx
    · simp only [List.mem_cons, List.not_mem_nil, or_false] at hx
      rcases hx with rfl | rfl | rfl | rfl
      · exact ct_good _ hlk
      · exact ct_good _ (hk.2.2.2.2.2.2.1 (by decide))
      · exact ct_good _ (hk.2.2.2.2.2.2.2 rfl)
      · exact ct_good _ hk.1
    · exact hk.good x hx
  · rw [ct_retE]
    exact kk v w1 hq p l e s m args below meth c D kA as0 as A H1 locs1 la hc ha hP1 hD1 hS1 hl
end CVI
theorem wS_ll (T : ctT) (S S' : ctS) : (wS T S).length = (wS T S').length := rfl
