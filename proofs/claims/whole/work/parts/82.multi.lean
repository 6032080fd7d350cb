/-! A ROW OF ROWS -/
theorem ct_outer {cA : ClassId} {h0 : Nat} {f : Nat → Option Nat} (hf : ∀ j, j < 6 → f j = some (h0 + 1 + j)) : Jvm.Free.Multi.outerC cA 6 h0 6 = arrV cA 6 (fun j => va_rf (f j)) := by
  obtain ⟨o1, o2, o3⟩ := Jvm.Free.Multi.outerC_facts cA 6 h0 6
  have os := fun (j : Nat) (hj : j < 6) => Jvm.Free.Multi.outerC_slot cA 6 h0 6 j hj
  have e : (Jvm.Free.Multi.outerC cA 6 h0 6).slots = (arrV cA 6 (fun j => va_rf (f j))).slots := by
    apply Array.ext_getElem?
    intro j
    by_cases hj : j < 6
    · rw [os j hj, if_pos hj]
      have : (arrV cA 6 (fun j => va_rf (f j))).slots[j]? = some (va_rf (f j)) := by simp [arrV, hj]
      rw [this, hf j hj]
      rfl
    · rw [Array.getElem?_eq_none (by rw [o3]; omega), Array.getElem?_eq_none (by simp [arrV]; omega)]
  have hm : (Jvm.Free.Multi.outerC cA 6 h0 6).monitor = (arrV cA 6 (fun j => va_rf (f j))).monitor := rfl
  have hh : (Jvm.Free.Multi.outerC cA 6 h0 6).hash = (arrV cA 6 (fun j => va_rf (f j))).hash := rfl
  have hv : (Jvm.Free.Multi.outerC cA 6 h0 6).vm = (arrV cA 6 (fun j => va_rf (f j))).vm := rfl
  have hc : (Jvm.Free.Multi.outerC cA 6 h0 6).cls = (arrV cA 6 (fun j => va_rf (f j))).cls := rfl
  revert e hm hh hv hc
  generalize Jvm.Free.Multi.outerC cA 6 h0 6 = x
  generalize arrV cA 6 (fun j => va_rf (f j)) = y
  intro e hm hh hv hc
  cases x
  cases y
  simp only at e hm hh hv hc
  subst e; subst hm; subst hh; subst hv; subst hc
  rfl
section CVMu
variable {M : ct_M} {r : Nat × Nat × Nat} {n0 : Nat} {z : Nat × Nat} {pc : Nat} {ls : List (Nat × ct_V)} {st : List ct_V} {w : List ct_C} {Q : Option ct_V → List ct_C → Prop}
def ct_rows (n : Nat) : List ct_C := [cQ 3 [some (n + 1), some (n + 2), some (n + 3), some (n + 4), some (n + 5), some (n + 6)], cA 0 4 (fun _ => 0), cA 0 4 (fun _ => 0), cA 0 4 (fun _ => 0), cA 0 4 (fun _ => 0), cA 0 4 (fun _ => 0), cA 0 4 (fun _ => 0)]
theorem cv_multi {idx : Nat} (hck : Cond.classLink M.1.cls idx "[[I" ∈ ct_tbl) (hd : decode M.2.1 pc = .ok (.multianewarray idx 2, 4)) (hb : ct_cls ls st w = true) (hn : n0 ≤ w.length) (hz : z.1 + 7 ≤ r.2.1 ∧ z.2 + 30 ≤ r.2.2)
    (kk : CV M r n0 (z.1 + 7, z.2 + 30) (pc + 4) ls (vR w.length :: st) (w ++ ct_rows w.length) Q) : CV M r n0 z pc ls (vI 4 :: vI 6 :: st) w Q := by
  intro p l e s m args below meth c D kA as0 as A H locs la hc ha hP hD hS hl T hT X
  have hts := hc.2.2.2.2.2.1
  have hK := hc.2.2.2.2.2.2.2.1
  have hA := hc.2.2.2.2.2.2.2.2.1
  unfold ct_cls at hb
  rw [Bool.and_eq_true, Bool.and_eq_true] at hb
  obtain ⟨⟨b1, b2⟩, b3⟩ := hb
  have n6 : (Int32.ofInt 6).toNatClampNeg = 6 := by decide
  have k4 : (Int32.ofInt 4).toNatClampNeg = 4 := by decide
  obtain ⟨vm₁, cA, comp, hW, hfA, hfC, hO, hI, X1, step⟩ := X.multianewarray2F hc.1 (own := M.1.cls) (index := idx) (ty := .int) hc.2.2.2.2.1 (hts _ hck) hc.2.2.2.2.2.2.1.2.2 (hts _ kw_acI) (g := F0 m pc la ((vI 4 :: vI 6 :: st).map (ct_tv as))) rfl (by rw [hc.2.1]; exact hd) (n := Int32.ofInt 6) (k := Int32.ofInt 4) (rest := st.map (ct_tv as)) rfl (by decide) (by decide) (by rw [n6]; decide) (by rw [k4]; decide) (by rw [k4]; decide) rfl rfl (by rw [n6]; show z.1 + (1 + 6) ≤ r.2.1; omega) (by rw [n6, k4]; show z.2 + (6 + 6 * 4) ≤ r.2.2; omega)
  rw [n6, k4] at X1 step
  have e3 : cA = kA 3 := Option.some.inj (hfA.symm.trans (hK.2 3 (kA 3, .array .int) rfl).2)
  have e0 : comp = kA 0 := Option.some.inj (hfC.symm.trans (hK.2 0 (kA 0, .int) rfl).2)
  subst e3; subst e0
  subst hT
  obtain ⟨f1, f2, f3, f4⟩ := Jvm.Free.Multi.fill_facts (T.setVm vm₁) (kA 3) (kA 0) 6 4 (defaultValue .int) 6
  have fo := fun (a : Addr) (ha : a < T.heap.size) => Jvm.Free.Multi.fill_old (T.setVm vm₁) (kA 3) (kA 0) 6 4 (defaultValue .int) (a := a) ha 6
  have fi := fun (j : Nat) (hj : j < 6) => Jvm.Free.Multi.fill_inner (T.setVm vm₁) (kA 3) (kA 0) 6 4 (defaultValue .int) 6 j hj
  have eh : (T.setVm vm₁).heap = T.heap := rfl
  rw [eh] at f1 f2
  generalize hF : Jvm.Free.Multi.fill (T.setVm vm₁) (kA 3) (kA 0) 6 4 (defaultValue .int) 6 = F at X1 step f1 f2 f3 f4 fo fi
  obtain ⟨as', has⟩ : ∃ as' : Nat → Nat, as' = fun i => if i < w.length then as i else T.heap.size + (i - w.length) := ⟨_, rfl⟩
  have ho : ∀ i, i < w.length → as' i = as i := fun i hi => by rw [has]; exact if_pos hi
  have hnw : ∀ i, as' (w.length + i) = T.heap.size + i := fun i => by
    rw [has]
    show (if w.length + i < w.length then _ else T.heap.size + (w.length + i - w.length)) = _
    rw [if_neg (by omega), Nat.add_sub_cancel_left]
  have hold : ∀ (k : Nat) (c1 : ct_C), w[k]? = some c1 → as k < T.heap.size := fun k c1 h1 => (hP k _ (ct_wd_at h1)).lt
  have hrow : (ct_rows w.length).length = 7 := rfl
  have key : ∀ (k : Nat) (c1 : ct_C), (w ++ ct_rows w.length)[k]? = some c1 → (k < w.length ∧ w[k]? = some c1) ∨ (∃ j, j < 7 ∧ k = w.length + j ∧ (ct_rows w.length)[j]? = some c1) := by
    intro k c1 h1
    by_cases hk : k < w.length
    · rw [List.getElem?_append_left hk] at h1
      exact Or.inl ⟨hk, h1⟩
    · rw [List.getElem?_append_right (by omega)] at h1
      have := (List.getElem?_eq_some_iff.mp h1).1
      rw [hrow] at this
      exact Or.inr ⟨k - w.length, this, by omega, h1⟩
  have hP2 : va_P D vwCl (ct_wd kA as' (w ++ ct_rows w.length)) F.heap := by
    intro k q hkq
    obtain ⟨c1, h1, rfl⟩ := ct_wd_inv hkq
    rcases key k c1 h1 with ⟨kl, k1⟩ | ⟨j, j7, rfl, j1⟩
    · have h4 := hP k _ (ct_wd_at k1)
      rw [ho k kl, ct_te_x ho (List.all_eq_true.mp b3 _ (List.mem_of_getElem? k1))]
      exact h4.kept (fo _ h4.lt)
    · rw [hnw]
      have hin : ∀ i, i < 6 → F.heap[T.heap.size + (i + 1)]? = some (vp_cell (kA 0) (4, .inl (fun _ => Int32.ofInt 0))) := fun i hi => by
        have := fi i hi
        rw [eh] at this
        rw [show T.heap.size + (i + 1) = T.heap.size + 1 + i by omega, this]
        rfl
      have hou : F.heap[T.heap.size + 0]? = some (vp_cell (kA 3) (6, .inr (.inr (.inr (.inr (fun j => (ct_lf [some (w.length + 1), some (w.length + 2), some (w.length + 3), some (w.length + 4), some (w.length + 5), some (w.length + 6)] j).map as')))))) := by
        rw [Nat.add_zero, f2, vp_cell_q]
        congr 1
        refine ct_outer (fun j hj => ?_)
        rcases (show j = 0 ∨ j = 1 ∨ j = 2 ∨ j = 3 ∨ j = 4 ∨ j = 5 by omega) with rfl | rfl | rfl | rfl | rfl | rfl <;> exact congrArg some (hnw _)
      rcases (show j = 0 ∨ j = 1 ∨ j = 2 ∨ j = 3 ∨ j = 4 ∨ j = 5 ∨ j = 6 by omega) with rfl | rfl | rfl | rfl | rfl | rfl | rfl
      · cases (Option.some.inj j1); exact hou
      · cases (Option.some.inj j1); exact hin 0 (by omega)
      · cases (Option.some.inj j1); exact hin 1 (by omega)
      · cases (Option.some.inj j1); exact hin 2 (by omega)
      · cases (Option.some.inj j1); exact hin 3 (by omega)
      · cases (Option.some.inj j1); exact hin 4 (by omega)
      · cases (Option.some.inj j1); exact hin 5 (by omega)
  have hD2 : va_D A (ct_wd kA as' (w ++ ct_rows w.length)) := by
    refine ⟨fun i j x y hi hj hxy => ?_, fun k q hkq => ?_⟩
    · obtain ⟨c1, h1, rfl⟩ := ct_wd_inv hi
      obtain ⟨c2, h2, rfl⟩ := ct_wd_inv hj
      have hxy' : as' i = as' j := hxy
      rcases key i c1 h1 with ⟨il, i1⟩ | ⟨i', i7, rfl, i1⟩
      · rcases key j c2 h2 with ⟨jl, j1⟩ | ⟨j', j7, rfl, j1⟩
        · rw [ho i il, ho j jl] at hxy'
          exact hD.1 _ _ _ _ (ct_wd_at i1) (ct_wd_at j1) hxy'
        · rw [ho i il, hnw] at hxy'
          have := hold i c1 i1
          omega
      · rcases key j c2 h2 with ⟨jl, j1⟩ | ⟨j', j7, rfl, j1⟩
        · rw [ho j jl, hnw] at hxy'
          have := hold j c2 j1
          omega
        · rw [hnw, hnw] at hxy'
          omega
    · obtain ⟨c1, h1, rfl⟩ := ct_wd_inv hkq
      show A (as' k)
      rcases key k c1 h1 with ⟨kl, k1⟩ | ⟨j, j7, rfl, j1⟩
      · rw [ho k kl]; exact hD.2 _ _ (ct_wd_at k1)
      · rw [hnw]
        exact hA _ (Nat.le_trans hS.1 (Nat.le_add_right _ _))
  have h := kk p l e s m args below meth c D kA as0 as' A F.heap locs la hc (fun i hi => by
    rcases hi with hi | hi
    · omega
    · rw [ho i (by omega)]; exact ha i (Or.inr hi)) hP2 hD2 ⟨Nat.le_trans hS.1 (by rw [f1]; omega), fun q h1 h2 => (fo q (Nat.lt_of_lt_of_le h1 hS.1)).trans (hS.2.1 q h1 h2), hS.2.2⟩ (by rw [ct_lm_x ho b1]; exact hl)
  rw [List.map_cons, ct_st_x ho b2] at h
  have e2 : ct_tv as' (vR w.length) = .ref T.heap.size := by
    show Value.ref (as' w.length) = _
    have := hnw 0
    rw [Nat.add_zero, Nat.add_zero] at this
    rw [this]
  rw [e2] at h
  obtain ⟨t2, a1, b1'⟩ := h F rfl X1
  exact ⟨t2, step t2 a1, b1'⟩
end CVMu
