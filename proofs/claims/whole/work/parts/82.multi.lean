section
/-! SIX ROWS OF FOUR, MADE AT ONCE: the machine's own way, row by row -/
def mu_f (h : Nat) : Nat → Nat → Value
  | 0 => fun _ => .null
  | i + 1 => updV (mu_f h i) i (.ref (h + (i + 1)))
def mu_U (a b : ClassId) (U : State) : Nat → State
  | 0 => U.pushCell (arrV a 6 (mu_f U.heap.size 0))
  | i + 1 => ((mu_U a b U i).pushCell (arrV b 4 (fun _ => .int 0))).setCell U.heap.size (arrV a 6 (mu_f U.heap.size (i + 1)))
theorem mu_at (a b : ClassId) (U : State) (i : Nat) : (mu_U a b U i).heap.size = U.heap.size + (i + 1) ∧ (mu_U a b U i).heap[U.heap.size]? = some (arrV a 6 (mu_f U.heap.size i)) ∧ (mu_U a b U i).vm = U.vm ∧ (mu_U a b U i).slotsUsed = U.slotsUsed + (6 + 4 * i) ∧ (∀ q : Nat, q < U.heap.size → (mu_U a b U i).heap[q]? = U.heap[q]?) ∧ (∀ j, j < i → (mu_U a b U i).heap[U.heap.size + (j + 1)]? = some (arrV b 4 (fun _ => .int 0))) := by
  induction i with
  | zero =>
    refine ⟨by simp [mu_U], State.heap_pushCell_size _ _, rfl, ?_, fun q hq => State.heap_pushCell_of_lt _ _ hq, fun j hj => by omega⟩
    simp [mu_U, arrV_size]
  | succ i ih =>
    obtain ⟨z, o, v, u, old, new⟩ := ih
    have hp : ∀ q : Nat, q < U.heap.size + (i + 1) → ((mu_U a b U i).pushCell (arrV b 4 (fun _ => .int 0))).heap[q]? = (mu_U a b U i).heap[q]? := fun q hq => State.heap_pushCell_of_lt _ _ (by rw [z]; exact hq)
    have hne : ∀ q : Nat, U.heap.size ≠ q → (mu_U a b U (i + 1)).heap[q]? = ((mu_U a b U i).pushCell (arrV b 4 (fun _ => .int 0))).heap[q]? := fun q hq => State.heap_setCell_other hq
    refine ⟨?_, State.heap_setCell_self ((hp _ (by omega)).trans o), ?_, ?_, fun q hq => ?_, fun j hj => ?_⟩
    · simp [mu_U, State.setCell, z]; omega
    · simp [mu_U, v]
    · simp [mu_U, u, arrV_size]; omega
    · rw [hne q (by omega), hp q (by omega)]; exact old q hq
    · rw [hne _ (by omega)]
      by_cases e : j = i
      · subst e
        rw [← z]
        exact State.heap_pushCell_size _ _
      · rw [hp _ (by omega)]; exact new j (by omega)
theorem mu_top (a b : ClassId) (U : State) (f : JFrame) (i : Nat) : mu_U a b (U.setTop f) i = (mu_U a b U i).setTop f := by
  induction i with
  | zero => rfl
  | succ i ih => simp only [mu_U, ih, State.heap_setTop, State.pushCell_setTop, State.setCell_setTop]
section MUW
variable {E : CtlPost} {e : Env} {d : Bool} {acts : List Action} {U : State}
theorem mu_new {q x : ClassId} {k : Class} {t : FieldType} {N : Nat} {v : Value} {Q : Addr → Pre} (hk : U.vm.classes[q]? = some k) (hd : k.kind = .array x t) (hv : fits t v = true ∧ v.isDefault = true) (h1 : N ≤ e.platform.arrayLengthLimit) (h2 : N * componentBytes t ≤ e.platform.maxHeapBytes)
    (c1 : U.heap.size < e.platform.maxCells) (c2 : U.slotsUsed + N ≤ e.platform.maxSlots) (hQ : Q U.heap.size d acts (U.pushCell (arrV q N (fun _ => v)))) : wp (Jvm.newArray q N v) Q E e d acts U := by
  rw [← arrV_new] at hQ
  have ha : allocActs (Array.replicate N v) U.heap.size acts = acts := by
    unfold allocActs
    rw [if_pos]
    rw [Array.all_replicate]
    split
    · rfl
    · exact hv.2
  have hm : ¬ N > e.platform.maxSlots := by omega
  simp only [Jvm.newArray, Jvm.arrayFits, wp_bind', W.ask, Nat.not_lt.mpr h1, Nat.not_lt.mpr h2, hm, gt_iff_lt, if_false, wp_pure', W.theClass, hk, hd, W.alloc, Option.some.injEq, exists_eq_left', Array.size_replicate, ha]
  refine ⟨c1, c2, fun i y hy => ?_, hQ⟩
  rw [Array.getElem?_replicate] at hy
  by_cases hi : i < N
  · rw [if_pos hi] at hy
    cases hy
    simp [State.fitsSlot, State.slotType?, hk, hd, hv.1]
  · rw [if_neg hi] at hy
    cases hy
theorem mu_make {a b x : ClassId} {ka kb : Class} {Q : Addr → Pre} (hka : U.vm.classes[a]? = some ka) (hda : ka.kind = .array b (.array .int)) (hkb : U.vm.classes[b]? = some kb) (hdb : kb.kind = .array x .int) (h1 : 6 ≤ e.platform.arrayLengthLimit) (h2 : 24 ≤ e.platform.maxHeapBytes)
    (c1 : U.heap.size + 7 ≤ e.platform.maxCells) (c2 : U.slotsUsed + 30 ≤ e.platform.maxSlots) (hQ : ∀ d' acts', Q U.heap.size d' acts' (mu_U a b U 6)) : wp (multianewarray.make a [Int32.ofInt 6, Int32.ofInt 4]) Q E e d acts U := by
  have n6 : (Int32.ofInt 6).toNatClampNeg = 6 := by decide
  have n4 : (Int32.ofInt 4).toNatClampNeg = 4 := by decide
  have p6 : ¬ Int32.ofInt 6 < 0 := by decide
  have p4 : ¬ Int32.ofInt 4 < 0 := by decide
  have z6 : (Int32.ofInt 6 == 0) = false := by decide
  rw [multianewarray.make]
  simp only [wp_bind', p6, if_false, W.theClass, hka, hda, Option.some.injEq, exists_eq_left', n6]
  refine mu_new hka hda ⟨rfl, rfl⟩ h1 (by exact h2) (by omega) (by omega) ?_
  simp only [z6, Bool.false_eq_true, if_false, wp_bind', Std.Legacy.Range.forIn_eq_forIn_range']
  refine wp_forIn_inv (fun r V => ∃ i, i + r.length = 6 ∧ r = List.range' i r.length ∧ V = mu_U a b U i) _ _ ⟨0, by simp [Std.Legacy.Range.size], by simp [Std.Legacy.Range.size], rfl⟩ ?_ ?_
  · rintro y r V d' acts' Q' ⟨i, hi, hr, rfl⟩ next
    rw [List.length_cons] at hi hr
    rw [List.range'_succ] at hr
    obtain ⟨rfl, hr⟩ := List.cons.inj hr
    obtain ⟨z, o, v, u, -, -⟩ := mu_at a b U y
    rw [multianewarray.make]
    simp only [wp_bind', p4, if_false, W.theClass, v, hkb, hdb, Option.some.injEq, exists_eq_left', n4]
    refine mu_new (by rw [v]; exact hkb) hdb ⟨rfl, rfl⟩ (by omega) (by show 4 * 4 ≤ _; omega) (by omega) (by omega) ?_
    simp only [wp_bind', W.writeLoc, wp_pure']
    have hlt : U.heap.size < (mu_U a b U y).heap.size := by rw [z]; omega
    refine ⟨_, (State.heap_pushCell_of_lt _ _ hlt).trans o, by simp [arrV], by rw [arrV_size]; omega, ?_, next _ _ _ ⟨y + 1, by omega, hr, ?_⟩⟩
    · show State.fitsSlot _ a .none _ _ = true
      simp [State.fitsSlot, State.slotType?, v, hka, hda, fits]
    · rw [arrV_store, z]; rfl
  · rintro V d' acts' ⟨i, hi, -, rfl⟩
    cases hi
    exact hQ _ _
end MUW
section MUS
variable {p : Program} {l : Launch} {e : Env} {R : Room} {s : State} {m : MethodId} {args : Array Value} {below : List Frame} {meth : Method} {c : Code} {T : State} {locs : List Loc} {cells slots : Nat}
theorem mu_over {args : Array Value} {s : State} (h : (Cond.arrayOver (.array .int)).before args s = true) : ∃ b a k, s.vm.findClass "[I" = some b ∧ s.vm.classes[a]? = some k ∧ k.kind = .array b (.array .int) ∧ s.vm.findClass "[[I" = some a := by
  have h0 : (Cond.arrayOver (.array .int)).holds args s none s [] = true := h
  unfold Cond.holds Cond.value at h0
  obtain ⟨b, hb, h1⟩ := Option.bind_eq_some_iff.mp (eq_of_beq h0)
  obtain ⟨a, ha, h2⟩ := Option.bind_eq_some_iff.mp h1
  obtain ⟨k, hk, h3⟩ := Option.map_eq_some_iff.mp h2
  obtain ⟨hlt, hp, -⟩ := Array.findIdx?_eq_some_iff_getElem.mp ha
  rw [(Array.getElem?_eq_some_iff.mp hk).2] at hp
  refine ⟨b, a, k, hb, hk, ?_⟩
  generalize k.kind = y at hp h3
  cases y with
  | array b' t =>
    obtain ⟨e1, e2⟩ := Bool.and_eq_true_iff.mp h3
    exact ⟨by rw [of_decide_eq_true e1, eq_of_beq hp], of_decide_eq_true e2⟩
  | _ => cases hp
theorem mu_stand (X : Stand p l e R s m args below meth c T locs cells slots) (a b : ClassId) (i : Nat) : Stand p l e R s m args below meth c (mu_U a b T i) locs (cells + (i + 1)) (slots + (6 + 4 * i)) := by
  induction i with
  | zero =>
    have h := X.pushed (arrV a 6 (mu_f T.heap.size 0))
    rw [arrV_size] at h
    exact h
  | succ i ih =>
    obtain ⟨z, o, -⟩ := mu_at a b T i
    have hlt : T.heap.size < (mu_U a b T i).heap.size := by rw [z]; omega
    have h := (ih.pushed (arrV b 4 (fun _ => .int 0))).stored ((State.heap_pushCell_of_lt _ _ hlt).trans o) i (.ref (T.heap.size + (i + 1)))
    rw [arrV_store, arrV_size] at h
    have h' := h.dropFresh (fun y hy => by rw [List.mem_singleton.mp hy]; exact X.heapGrown)
    exact h'
theorem mu_step (X : Stand p l e R s m args below meth c T locs cells slots) (hx : p.tables.exec = Jvm.exec) {own : String} {index : Nat} (hown : s.vm.findClass own = some m.cls) (hlk : (Cond.classLink own index "[[I").before args s = true) (hov : (Cond.arrayOver (.array .int)).before args s = true) (hac : (Cond.arrayClass .int).before args s = true)
    {g : JFrame} (hg : g.method = m) (hd : decode c.code g.pc = .ok (.multianewarray index 2, 4)) {rest : List Value} (hst : g.stack = .int (Int32.ofInt 4) :: .int (Int32.ofInt 6) :: rest) (hr : cells + 7 ≤ R.cells ∧ slots + 30 ≤ R.slots) :
    ∃ (vm₁ : Vm) (a b : ClassId), s.vm.findClass "[[I" = some a ∧ s.vm.findClass "[I" = some b ∧ Stand p l e R s m args below meth c (mu_U a b (T.setVm vm₁) 6) locs (cells + 7) (slots + 30) ∧
      ∀ t, Steps p.tables e below ((mu_U a b (T.setVm vm₁) 6).setTop { g with pc := g.pc + 4, stack := .ref T.heap.size :: rest }) t → Steps p.tables e below (T.setTop g) t := by
  subst hg
  obtain ⟨b, a, ka, hb, hka, hda, hna⟩ := mu_over hov
  obtain ⟨b', kb, x, hb', hkb, hdb⟩ := Cond.arrayClass_spec hac
  obtain rfl : b' = b := Option.some.inj (hb'.symm.trans hb)
  obtain ⟨a', hna', hcl⟩ := Cond.classLink_spec hown hlk e.platform (by rw [X.admits.platform])
  obtain rfl : a' = a := Option.some.inj (hna'.symm.trans hna)
  obtain ⟨hnote, hW, -⟩ := State.classEntry (e := e) X.warmed hcl
  generalize T.vm.noted g.method.cls index (.cls a') = vm₁ at hnote hW
  obtain ⟨ka1, hka1, ea⟩ := hW.alike.2.2 _ _ hka
  obtain ⟨kb1, hkb1, eb⟩ := hW.alike.2.2 _ _ hkb
  have X6 := mu_stand (X.noted hW) a' b' 6
  obtain ⟨r1, r2⟩ := X.roomAbove hr.1 hr.2
  refine ⟨vm₁, a', b', hna, hb, X6, fun t ht => ?_⟩
  jvm_step X.here [hx, hd]
  simp only [multianewarray.sem, wp_bind', W.resolveClassAt_links (State.method?_setTop g X.here.top) hnote]
  rw [W.popN, if_neg (by decide)]
  refine ⟨g, State.topJava?_setTop' (s := T.setVm vm₁) g X.here.top, [.int (Int32.ofInt 6), .int (Int32.ofInt 4)], rest, rfl, hst, ?_⟩
  simp only [List.mapM_cons, List.mapM_nil, wp_bind', wp_pure']
  refine mu_make hka1 (by rw [ea]; exact hda) hkb1 (by rw [eb]; exact hdb) (by rw [Launch.admits_arrayLengthLimit X.admits]; decide) (by rw [Launch.admits_maxHeapBytes X.admits]; decide) (by show T.heap.size + 7 ≤ _; omega) (by show T.slotsUsed + 30 ≤ _; omega) (fun d' acts' => ?_)
  have es : ((T.setTop g).setVm vm₁).setTop { g with stack := rest } = (T.setVm vm₁).setTop { g with stack := rest } := State.setTop_setTop (T.setVm vm₁) _ _
  rw [es, mu_top]
  simp only [wp_bind', W.mark, W.pushRef, State.topJava?_setTop' _ X6.here.top, Option.some.injEq, exists_eq_left', State.setTop_setTop, State.heap_setTop]
  intro acts
  simp [jvm]
  exact ht
end MUS
end
/-! A ROW OF ROWS -/
theorem ct_outer {cA : ClassId} {h0 : Nat} {f : Nat → Option Nat} (hf : ∀ j, j < 6 → f j = some (h0 + (j + 1))) : arrV cA 6 (mu_f h0 6) = arrV cA 6 (fun j => va_rf (f j)) := by
  have key : ∀ j, j < 6 → mu_f h0 6 j = va_rf (f j) := fun j hj => by
    rw [hf j hj]
    rcases (show j = 0 ∨ j = 1 ∨ j = 2 ∨ j = 3 ∨ j = 4 ∨ j = 5 by omega) with rfl | rfl | rfl | rfl | rfl | rfl <;> rfl
  unfold arrV
  exact congrArg (fun g : Fin 6 → Value => ({ cls := cA, slots := Array.ofFn g, vm := .none } : Cell)) (funext fun j => key j.val j.isLt)
section CVMu
variable {M : ct_M} {r : Nat × Nat × Nat} {n0 : Nat} {z : Nat × Nat} {pc : Nat} {ls : List (Nat × ct_V)} {st : List ct_V} {w : List ct_C} {Q : Option ct_V → List ct_C → Prop}
def ct_rows (n : Nat) : List ct_C := [cQ 3 [some (n + 1), some (n + 2), some (n + 3), some (n + 4), some (n + 5), some (n + 6)], cA 0 4 (fun _ => 0), cA 0 4 (fun _ => 0), cA 0 4 (fun _ => 0), cA 0 4 (fun _ => 0), cA 0 4 (fun _ => 0), cA 0 4 (fun _ => 0)]
theorem cv_multi {idx : Nat} (hck : Cond.classLink M.1.cls idx "[[I" ∈ ct_tbl) (hd : decode M.2.1 pc = .ok (.multianewarray idx 2, 4)) (hb : ct_cls ls st w = true) (hn : n0 ≤ w.length) (hz : z.1 + 7 ≤ r.2.1 ∧ z.2 + 30 ≤ r.2.2)
    (kk : CV M r n0 (z.1 + 7, z.2 + 30) (pc + 4) ls (vR w.length :: st) (w ++ ct_rows w.length) Q) : CV M r n0 z pc ls (vI 4 :: vI 6 :: st) w Q := by
  intro p l e s m args below meth c D kA as0 as A H locs la hc ha hP hD hS hl T hT X
  have hts := hc.2.2.2.2.2.1
  have hK := hc.2.2.2.2.2.2.2.1
  have hA := hc.2.2.2.2.2.2.2.2.1
  unfold ct_cls at hb
  rw [Bool.and_eq_true, Bool.and_eq_true] at hb
  obtain ⟨⟨b1, b2⟩, b3⟩ := hb
  obtain ⟨vm₁, cA, comp, hfA, hfC, X1, step⟩ := mu_step X hc.1 (own := M.1.cls) (index := idx) hc.2.2.2.2.1 (hts _ hck) hc.2.2.2.2.2.2.1.2.2 (hts _ kw_acI) (g := F0 m pc la ((vI 4 :: vI 6 :: st).map (ct_tv as))) rfl (by rw [hc.2.1]; exact hd) (rest := st.map (ct_tv as)) rfl hz
  have e3 : cA = kA 3 := Option.some.inj (hfA.symm.trans (hK.2 3 (kA 3, .array .int) rfl).2)
  have e0 : comp = kA 0 := Option.some.inj (hfC.symm.trans (hK.2 0 (kA 0, .int) rfl).2)
  subst e3; subst e0
  subst hT
  obtain ⟨f1, f2, -, -, fo, fi⟩ := mu_at (kA 3) (kA 0) (T.setVm vm₁) 6
  have eh : (T.setVm vm₁).heap = T.heap := rfl
  rw [eh] at f1 f2 fo fi
  generalize hF : mu_U (kA 3) (kA 0) (T.setVm vm₁) 6 = F at X1 step f1 f2 fo fi
  obtain ⟨as', has⟩ : ∃ as' : Nat → Nat, as' = fun i => if i < w.length then as i else T.heap.size + (i - w.length) := ⟨_, rfl⟩
  have ho : ∀ i, i < w.length → as' i = as i := fun i hi => by rw [has]; exact if_pos hi
  have hnw : ∀ i, as' (w.length + i) = T.heap.size + i := fun i => by
    rw [has]
    show (if w.length + i < w.length then _ else T.heap.size + (w.length + i - w.length)) = _
    rw [if_neg (by omega), Nat.add_sub_cancel_left]
  have hold : ∀ (k : Nat) (c1 : ct_C), w[k]? = some c1 → as k < T.heap.size := fun k c1 h1 => (hP k _ (ct_wd_at h1)).lt
  have hrow : (ct_rows w.length).length = 7 := rfl
  have key : ∀ (k : Nat) (c1 : ct_C), (w ++ ct_rows w.length)[k]? = some c1 → (k < w.length ∧ w[k]? = some c1) ∨ (∃ j, j < 7 ∧ k = w.length + j ∧ (ct_rows w.length)[j]? = some c1) := by
    intro k c1 h1
    by_cases hk : k < w.length
    · rw [List.getElem?_append_left hk] at h1
      exact Or.inl ⟨hk, h1⟩
    · rw [List.getElem?_append_right (by omega)] at h1
      have := (List.getElem?_eq_some_iff.mp h1).1
      rw [hrow] at this
      exact Or.inr ⟨k - w.length, this, by omega, h1⟩
  have hP2 : va_P D vwCl (ct_wd kA as' (w ++ ct_rows w.length)) F.heap := by
    intro k q hkq
    obtain ⟨c1, h1, rfl⟩ := ct_wd_inv hkq
    rcases key k c1 h1 with ⟨kl, k1⟩ | ⟨j, j7, rfl, j1⟩
    · have h4 := hP k _ (ct_wd_at k1)
      rw [ho k kl, ct_te_x ho (List.all_eq_true.mp b3 _ (List.mem_of_getElem? k1))]
      exact h4.kept (fo _ h4.lt)
    · rw [hnw]
      have hin : ∀ i, i < 6 → F.heap[T.heap.size + (i + 1)]? = some (vp_cell (kA 0) (4, .inl (fun _ => Int32.ofInt 0))) := fun i hi => (fi i hi).trans rfl
      have hou : F.heap[T.heap.size + 0]? = some (vp_cell (kA 3) (6, .inr (.inr (.inr (.inr (fun j => (ct_lf [some (w.length + 1), some (w.length + 2), some (w.length + 3), some (w.length + 4), some (w.length + 5), some (w.length + 6)] j).map as')))))) := by
        rw [Nat.add_zero, f2, vp_cell_q]
        congr 1
        refine ct_outer (fun j hj => ?_)
        rcases (show j = 0 ∨ j = 1 ∨ j = 2 ∨ j = 3 ∨ j = 4 ∨ j = 5 by omega) with rfl | rfl | rfl | rfl | rfl | rfl <;> exact congrArg some (hnw _)
      rcases (show j = 0 ∨ j = 1 ∨ j = 2 ∨ j = 3 ∨ j = 4 ∨ j = 5 ∨ j = 6 by omega) with rfl | rfl | rfl | rfl | rfl | rfl | rfl
      · cases (Option.some.inj j1); exact hou
      · cases (Option.some.inj j1); exact hin 0 (by omega)
      · cases (Option.some.inj j1); exact hin 1 (by omega)
      · cases (Option.some.inj j1); exact hin 2 (by omega)
      · cases (Option.some.inj j1); exact hin 3 (by omega)
      · cases (Option.some.inj j1); exact hin 4 (by omega)
      · cases (Option.some.inj j1); exact hin 5 (by omega)
  have hD2 : va_D A (ct_wd kA as' (w ++ ct_rows w.length)) := by
    refine ⟨fun i j x y hi hj hxy => ?_, fun k q hkq => ?_⟩
    · obtain ⟨c1, h1, rfl⟩ := ct_wd_inv hi
      obtain ⟨c2, h2, rfl⟩ := ct_wd_inv hj
      have hxy' : as' i = as' j := hxy
      rcases key i c1 h1 with ⟨il, i1⟩ | ⟨i', i7, rfl, i1⟩
      · rcases key j c2 h2 with ⟨jl, j1⟩ | ⟨j', j7, rfl, j1⟩
        · rw [ho i il, ho j jl] at hxy'
          exact hD.1 _ _ _ _ (ct_wd_at i1) (ct_wd_at j1) hxy'
        · rw [ho i il, hnw] at hxy'
          have := hold i c1 i1
          omega
      · rcases key j c2 h2 with ⟨jl, j1⟩ | ⟨j', j7, rfl, j1⟩
        · rw [ho j jl, hnw] at hxy'
          have := hold j c2 j1
          omega
        · rw [hnw, hnw] at hxy'
          omega
    · obtain ⟨c1, h1, rfl⟩ := ct_wd_inv hkq
      show A (as' k)
      rcases key k c1 h1 with ⟨kl, k1⟩ | ⟨j, j7, rfl, j1⟩
      · rw [ho k kl]; exact hD.2 _ _ (ct_wd_at k1)
      · rw [hnw]
        exact hA _ (Nat.le_trans hS.1 (Nat.le_add_right _ _))
  have h := kk p l e s m args below meth c D kA as0 as' A F.heap locs la hc (fun i hi => by
    rcases hi with hi | hi
    · omega
    · rw [ho i (by omega)]; exact ha i (Or.inr hi)) hP2 hD2 ⟨Nat.le_trans hS.1 (by rw [f1]; omega), fun q h1 h2 => (fo q (Nat.lt_of_lt_of_le h1 hS.1)).trans (hS.2.1 q h1 h2), hS.2.2⟩ (by rw [ct_lm_x ho b1]; exact hl)
  rw [List.map_cons, ct_st_x ho b2] at h
  have e2 : ct_tv as' (vR w.length) = .ref T.heap.size := by
    show Value.ref (as' w.length) = _
    have := hnw 0
    rw [Nat.add_zero, Nat.add_zero] at this
    rw [this]
  rw [e2] at h
  obtain ⟨t2, a1, b1'⟩ := h F rfl X1
  exact ⟨t2, step t2 a1, b1'⟩
end CVMu
