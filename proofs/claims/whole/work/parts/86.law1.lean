/-! THE LAW: two worlds apart, the class's and the reference's -/
def lw_A (s : State) : Nat → Prop := fun q => s.heap.size ≤ q
def Two (D : va_G) (kA : Nat → ClassId) (s : State) (as : Nat → Nat) (w : List ct_C) (as' : Nat → Nat) (w' : List ct_C) (H : Heap) : Prop := va_P D vwCl (ct_wd kA as w) H ∧ va_P D vwCl (ct_wd kA as' w') H ∧ va_D (lw_A s) (ct_wd kA as w) ∧ va_D (lw_A s) (ct_wd kA as' w') ∧ ∀ i j, i < w.length → j < w'.length → as i ≠ as' j
theorem Two.sw {D : va_G} {kA : Nat → ClassId} {s : State} {as as' : Nat → Nat} {w w' : List ct_C} {H : Heap} (h : Two D kA s as w as' w' H) : Two D kA s as' w' as w H := ⟨h.2.1, h.1, h.2.2.2.1, h.2.2.1, fun i j hi hj e => h.2.2.2.2 j i hj hi e.symm⟩
/-- what stands throughout the law -/
def LX (p : Program) (s : State) (m : MethodId) (meth : Method) (c : Code) (b L : Nat) (xs : Nat → Int32) (D : va_G) (kA : Nat → ClassId) : Prop := p.tables.exec = Jvm.exec ∧ c.code = code ∧ meth.sig.returnType = ret ∧ c.maxLocals = 4 ∧ s.vm.findClass RL = some m.cls ∧ (∀ w ∈ ct_tbl, w.before #[Value.ref b] s = true) ∧ ct_nw s ∧ va_K D vwCl (ct_tys kA) s ∧ va_X b L xs s s.heap ∧ b < s.heap.size ∧ meth.locks = false ∧ ct_st (lw_A s) s
section LW
variable {p : Program} {l : Launch} {e : Env} {s : State} {m : MethodId} {below : List Frame} {meth : Method} {c : Code} {b L : Nat} {xs : Nat → Int32} {D : va_G} {kA : Nat → ClassId} {H : Heap} {locs : List Loc} {z1 z2 : Nat} {Z : State → Prop}
variable {as as' : Nat → Nat} {wc wd : List ct_C} {M' : ct_M} {d n idx b0 pc : Nat} {avs : List ct_V} {Q' : Option ct_V → List ct_C → Prop} {la : Array Slot} {rest : List Value}
theorem lw_call (hC : LX p s m meth c b L xs D kA) (hM : CM M' (d, 0, 0) (vR b0 :: avs) wc Q') (hk : ct_lk 0 M' n) (hlk : Cond.methodLink RL idx M'.1 ∈ ct_tbl) (hd : decode code pc = .ok (.invokevirtual idx, 3)) (hr : d ≤ 10) (hn : avs.length = n) {ci : Nat} {fs : List ct_V} (hb : wc[b0]? = some (cO ci fs)) (hci : (vwCl[ci]?).map (fun q => q.1) = some M'.1.cls)
    (hla : la.size = 4) (hsz : 2 * 0 + (rest.map fun v => v.category).sum ≤ 8) (hz : z1 ≤ 600000 ∧ z2 ≤ 7302250) (hlen : ∀ v w1, Q' v w1 → w1.length = wc.length) (h2 : Two D kA s as wc as' wd H) (hS : va_S (lw_A s) s.heap H locs)
    (kk : ∀ (v : Option ct_V) (w1 : List ct_C) (H1 : Heap) (locs1 : List Loc), Q' v w1 → Two D kA s as w1 as' wd H1 → va_S (lw_A s) s.heap H1 locs1 → W p l e room_1 s m #[Value.ref b] below meth c H1 locs1 z1 z2 Z (F0 m (pc + 3) la ((v.map (ct_tv as)).toList ++ rest))) :
    W p l e room_1 s m #[Value.ref b] below meth c H locs z1 z2 Z (F0 m pc la ((avs.map (ct_tv as)).reverse ++ Value.ref (as b0) :: rest)) := by
  obtain ⟨hP, hP', hD, hD', hap⟩ := h2
  have hts := hC.2.2.2.2.2.1
  have hK := hC.2.2.2.2.2.2.2.1
  have hN := hC.2.2.2.2.2.2.1
  have hA : ∀ q, s.heap.size ≤ q → lw_A s q := fun q h => h
  have hfree := ct_sameA hD hS hA
  have hpre : ∀ U : State, U.heap = H → s.WarmedH U.vm → ct_B D kA as wc H.size U := by
    intro U hU hW
    refine ⟨by rw [hU], by rw [hU]; exact hP, va_K.moved hW.alike hK, hN.warm hW, ?_, hD.weaken (fun _ _ _ _ => trivial)⟩
    obtain ⟨t, g1, g2⟩ := hC.2.2.2.2.2.2.2.2.2.2.2
    have hkp : ∀ a : Nat, a < s.heap.size → ¬ lw_A s a → U.heap[a]? = s.heap[a]? := fun a g3 g4 => by rw [hU]; exact hS.2.1 a g3 g4
    exact ⟨t, ((g1.kept hkp).moved hW.alike).narrow hfree, ((g2.kept hkp).moved hW.alike).narrow hfree⟩
  obtain ⟨q, hq1, hq2⟩ : ∃ q, vwCl[ci]? = some q ∧ q.1 = M'.1.cls := by
    cases h : vwCl[ci]? with
    | none => rw [h] at hci; cases hci
    | some q => rw [h] at hci; exact ⟨q, rfl, Option.some.inj hci⟩
  have hrecv := va_recv hK hP hq1 (ct_wd_at hb)
  rw [hq2] at hrecv
  have hroom : (ct_rm (d, 0, 0)).frames + 1 ≤ room_1.frames ∧ 8 + (M'.2.2.1 + 11) + (ct_rm (d, 0, 0)).locals ≤ room_1.locals := by
    have h20 := hk.2.2.2.2.1
    refine ⟨by show d + 1 ≤ 13; omega, ?_⟩
    show 8 + (M'.2.2.1 + 11) + 39 * d ≤ 516
    omega
  have hrun := va_runV (p := p) (l := l) (e := e) (R := room_1) (s := s) (m := m) (args := #[Value.ref b]) (below := below) (meth := meth) (c := c) (H := H) (locs := locs) (cells := z1) (slots := z2) (g := F0 m pc la ((avs.map (ct_tv as)).reverse ++ Value.ref (as b0) :: rest)) (As := avs.map (ct_tv as)) (rest := rest) ⟨hC.1, hC.2.1, hC.2.2.2.1, hC.2.2.2.2.1, hts⟩ (hM l D kA as H.size) (cwV n hts (by
      intro x hx
      rcases List.mem_append.mp hx with hx | hx
      · simp only [List.mem_cons, List.not_mem_nil, or_false] at hx
        rcases hx with rfl | rfl | rfl | rfl
        · exact ct_good _ hlk
        · exact ct_good _ (hk.2.2.2.2.2.2.1 (by decide))
        · exact ct_good _ (hk.2.2.2.2.2.2.2 rfl)
        · exact ct_good _ hk.1
      · exact hk.good x hx) rfl rfl rfl ⟨rfl, hk.2.2.1.1, hk.2.2.1.2, hk.2.2.2.1⟩ hroom) ⟨ct_blind, hrecv, fun U hU hW => ⟨rfl, hpre U hU hW⟩⟩ rfl (by rw [List.length_map]; exact hn) hla rfl hsz hd ⟨hz.1, hz.2⟩
  intro T hT X
  obtain ⟨v, st₀, t, T', L1, h0, X', hL, e1, e2, ⟨⟨rv, w1, as2, hv, hq, hag, hP1, hD1⟩, hz0, hk0⟩, st⟩ := hrun T hT X
  have has : as2 = as := funext fun i => hag i (Or.inl rfl)
  subst has
  cases hv
  rw [h0] at hz0 hk0
  have hwl := hlen _ _ hq
  have hM2 : va_P D vwCl (ct_wd kA as' wd) T'.heap := by
    intro k q hkq
    have h4 := hP' k q hkq
    have hl := h4.lt
    refine h4.kept ?_
    rw [e1]
    refine hk0 _ hl (fun hA1 => ?_)
    obtain ⟨c1, h1, rfl⟩ := ct_wd_inv hkq
    rcases hA1 with ⟨j, x, hj⟩ | hj
    · obtain ⟨c2, h5, h6⟩ := ct_wd_inv hj
      exact hap j k (List.getElem?_eq_some_iff.mp h5).1 (List.getElem?_eq_some_iff.mp h1).1 (Prod.mk.inj h6).1.symm
    · exact absurd hl (Nat.not_lt.mpr hj)
  obtain ⟨t2, a1, b1⟩ := kk rv w1 T'.heap (locs ++ L1) hq ⟨by rw [e1]; exact hP1, hM2, ct_wD hwl hD, hD', fun i j hi hj => hap i j (by omega) hj⟩ ⟨Nat.le_trans hS.1 (by rw [e1]; exact hz0), fun q h1 h3 => by rw [e1, hk0 q (Nat.lt_of_lt_of_le h1 hS.1) (fun z => h3 (hfree q z))]; exact hS.2.1 q h1 h3, fun q hq => by
      rcases List.mem_append.mp hq with h | h
      · exact hS.2.2 q h
      · exact hfree _ (hL q h)⟩ T' rfl X'
  exact ⟨t2, st t2 a1, b1⟩
end LW
