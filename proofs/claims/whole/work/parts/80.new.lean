/-! CELLS THAT ARE MADE: they come behind the others -/
def ct_vb (n : Nat) (v : ct_V) : Bool := match v with
  | .inr (.inr (some q)) => Nat.blt q n
  | _ => true
def ct_cb (n : Nat) (c : ct_C) : Bool := match c with
  | .inl o => o.2.all (ct_vb n)
  | .inr (.inl _) => true
  | .inr (.inr a) => a.2.all (fun q => match q with | some i => Nat.blt i n | none => true)
theorem ct_tv_x {as as' : Nat → Nat} {n : Nat} (h : ∀ i, i < n → as' i = as i) {v : ct_V} (hv : ct_vb n v = true) : ct_tv as' v = ct_tv as v := by
  rcases v with i | i | q
  · rfl
  · rfl
  · cases q with
    | none => rfl
    | some q =>
      have hq : q < n := by simpa [ct_vb, Nat.blt_eq] using hv
      show Value.ref (as' q) = Value.ref (as q)
      rw [h q hq]
theorem ct_te_x {kA : Nat → ClassId} {as as' : Nat → Nat} {n : Nat} (h : ∀ i, i < n → as' i = as i) {c : ct_C} (hc : ct_cb n c = true) : ct_te kA as' c = ct_te kA as c := by
  rcases c with o | a | a
  · show Sum.inr (o.1, o.2.map (ct_tv as')) = Sum.inr (o.1, o.2.map (ct_tv as))
    rw [List.map_congr_left (fun v hv => ct_tv_x h (List.all_eq_true.mp hc v hv))]
  · rfl
  · show Sum.inl (kA a.1, a.2.length, Sum.inr (Sum.inr (Sum.inr (Sum.inr (fun j => (ct_lf a.2 j).map as'))))) = Sum.inl (kA a.1, a.2.length, Sum.inr (Sum.inr (Sum.inr (Sum.inr (fun j => (ct_lf a.2 j).map as)))))
    congr 7
    funext j
    unfold ct_lf
    rw [List.getD_eq_getElem?_getD]
    cases e : a.2[j]? with
    | none => rfl
    | some o =>
      cases o with
      | none => rfl
      | some i =>
        have h1 := List.all_eq_true.mp hc _ (List.mem_of_getElem? e)
        have hi : i < n := by simpa [Nat.blt_eq] using h1
        show some (as' i) = some (as i)
        rw [h i hi]
theorem ct_wd_x {kA : Nat → ClassId} {as as' : Nat → Nat} {w : List ct_C} (h : ∀ i, i < w.length → as' i = as i) (hw : w.all (ct_cb w.length) = true) : ct_wd kA as' w = ct_wd kA as w := by
  apply List.ext_getElem?
  intro i
  by_cases hi : i < w.length
  · rw [ct_wd_at (List.getElem?_eq_getElem hi), ct_wd_at (List.getElem?_eq_getElem hi), h i hi, ct_te_x h (List.all_eq_true.mp hw _ (List.getElem_mem hi))]
  · rw [List.getElem?_eq_none (by rw [ct_wd_len]; omega), List.getElem?_eq_none (by rw [ct_wd_len]; omega)]
theorem ct_wd_1 {kA : Nat → ClassId} {as' : Nat → Nat} {w : List ct_C} {c : ct_C} : ct_wd kA as' (w ++ [c]) = ct_wd kA as' w ++ [(as' w.length, ct_te kA as' c)] := by
  simp [ct_wd, List.mapIdx_append]
theorem ct_lm_x {as as' : Nat → Nat} {n : Nat} (h : ∀ i, i < n → as' i = as i) {ls : List (Nat × ct_V)} (hl : ls.all (fun q => ct_vb n q.2) = true) : ct_lm as' ls = ct_lm as ls := by
  unfold ct_lm
  exact List.map_congr_left (fun q hq => by rw [ct_tv_x h (List.all_eq_true.mp hl q hq)])
theorem ct_st_x {as as' : Nat → Nat} {n : Nat} (h : ∀ i, i < n → as' i = as i) {st : List ct_V} (hs : st.all (ct_vb n) = true) : st.map (ct_tv as') = st.map (ct_tv as) := List.map_congr_left (fun v hv => ct_tv_x h (List.all_eq_true.mp hs v hv))
def ct_ex (as : Nat → Nat) (n q : Nat) : Nat → Nat := fun i => if i = n then q else as i
theorem ct_ex_o {as : Nat → Nat} {n q : Nat} : ∀ i, i < n → ct_ex as n q i = as i := fun i hi => if_neg (by omega)
theorem ct_ex_n {as : Nat → Nat} {n q : Nat} : ct_ex as n q n = q := if_pos rfl
/-- what lies on the stack and in the locals and the cells points to cells that are there -/
def ct_cls (ls : List (Nat × ct_V)) (st : List ct_V) (w : List ct_C) : Bool := (ls.all (fun q => ct_vb w.length q.2) && st.all (ct_vb w.length)) && w.all (ct_cb w.length)
section CVN
variable {M : ct_M} {r : Nat × Nat × Nat} {n0 : Nat} {z : Nat × Nat} {pc : Nat} {ls : List (Nat × ct_V)} {st : List ct_V} {w : List ct_C} {Q : Option ct_V → List ct_C → Prop}
/-- one cell more: the judgement over it is the judgement ahead of it -/
theorem ct_made {z' : Nat × Nat} {pc' : Nat} {c1 : ct_C} (kk : CV M r n0 z' pc' ls (vR w.length :: st) (w ++ [c1]) Q) (hb : ct_cls ls st w = true) (hn : n0 ≤ w.length) (hr : ¬ r.2.1 = 0)
    {p : Program} {l : Launch} {e : Env} {s : State} {m : MethodId} {args : Array Value} {below : List Frame} {meth : Method} {c : Code} {D : va_G} {kA : Nat → ClassId} {as0 as : Nat → Nat} {A : Nat → Prop} {H1 : Heap} {locs : List Loc} {la : Array Slot} {q : Nat}
    (hc : ct_cx M D kA A p s m args meth c) (ha : ∀ i, r.2.1 = 0 ∨ i < n0 → as i = as0 i) (hl : lv_has la M.2.2.1 (ct_lm as ls)) (hP : va_P D vwCl (ct_wd kA as w ++ [(q, ct_te kA (ct_ex as w.length q) c1)]) H1) (hD : va_D A (ct_wd kA as w ++ [(q, ct_te kA (ct_ex as w.length q) c1)])) (hS : va_S A s.heap H1 locs) :
    W p l e (ct_rm r) s m args below meth c H1 locs z'.1 z'.2 (MQ below (ct_Qc D kA as0 r.2.1 n0 A Q) args s r.2.1 r.2.2 A) (F0 m pc' la (.ref q :: st.map (ct_tv as))) := by
  unfold ct_cls at hb
  rw [Bool.and_eq_true, Bool.and_eq_true] at hb
  obtain ⟨⟨b1, b2⟩, b3⟩ := hb
  have ho : ∀ i, i < w.length → ct_ex as w.length q i = as i := ct_ex_o
  have eW : ct_wd kA (ct_ex as w.length q) (w ++ [c1]) = ct_wd kA as w ++ [(q, ct_te kA (ct_ex as w.length q) c1)] := by
    rw [ct_wd_1, ct_wd_x ho b3, ct_ex_n]
  rw [← eW] at hP hD
  have h := kk p l e s m args below meth c D kA as0 (ct_ex as w.length q) A H1 locs la hc (fun i hi => by
    rcases hi with hi | hi
    · exact absurd hi hr
    · rw [ho i (by omega)]; exact ha i (Or.inr hi)) hP hD hS (by rw [ct_lm_x ho b1]; exact hl)
  rw [List.map_cons, ct_st_x ho b2] at h
  have e2 : ct_tv (ct_ex as w.length q) (vR w.length) = .ref q := by
    show Value.ref (ct_ex as w.length q w.length) = _
    rw [ct_ex_n]
  rw [e2] at h
  exact h
theorem cv_new {ci idx N : Nat} {C : String} {T : u_T} {ty : Nat → FieldType} (fs : List ct_V) (hcl : ct_cl ci C T N ty) (hck : Cond.classLink M.1.cls idx C ∈ ct_tbl) (hik : Cond.instantiable C N ∈ ct_tbl) (hin : Cond.initialized C ∈ ct_tbl) (hd : decode M.2.1 pc = .ok (.new idx, 3)) (hfs : ∀ as j, j < N → defaultValue (ty j) = vp_V (fs.map (ct_tv as)) j) (hfb : fs.all (ct_vb 0) = true) (hb : ct_cls ls st w = true) (hn : n0 ≤ w.length) (hz : z.1 + 1 ≤ r.2.1 ∧ z.2 + N ≤ r.2.2)
    (kk : CV M r n0 (z.1 + 1, z.2 + N) (pc + 3) ls (vR w.length :: st) (w ++ [cO ci fs]) Q) : CV M r n0 z pc ls st w Q := by
  intro p l e s m args below meth c D kA as0 as A H locs la hc ha hP hD hS hl
  have hts := hc.2.2.2.2.2.1
  obtain ⟨h1, h2, h3, h4⟩ := hcl
  refine va_new (ci := ci) (fs := fs.map (ct_tv as)) hc.1 hc.2.1 hts h2 ty h3 hc.2.2.2.2.1 (hts _ hck) (hts _ hik) (hts _ hin) hc.2.2.2.2.2.2.2.1 hP hD hS hc.2.2.2.2.2.2.2.2.1 h1 (hfs as) hz.1 hz.2 hd (fun q H1 hP1 hD1 hS1 => ?_)
  have e1 : ct_te kA (ct_ex as w.length q) (cO ci fs) = .inr (ci, fs.map (ct_tv as)) := by
    show Sum.inr (ci, fs.map (ct_tv (ct_ex as w.length q))) = _
    rw [ct_st_x (n := 0) (fun i hi => absurd hi (Nat.not_lt_zero _)) hfb]
  rw [← e1] at hP1 hD1
  exact ct_made kk hb hn (by omega) hc ha hl hP1 hD1 hS1
theorem cv_newi {N : Nat} {x : Int} (hd : decode M.2.1 pc = .ok (.newarray .int, 2)) (hx : ¬ Int32.ofInt x < 0 ∧ (Int32.ofInt x).toNatClampNeg = N) (hN : N ≤ 10000) (hb : ct_cls ls st w = true) (hn : n0 ≤ w.length) (hz : z.1 + 1 ≤ r.2.1 ∧ z.2 + N ≤ r.2.2)
    (kk : CV M r n0 (z.1 + 1, z.2 + N) (pc + 2) ls (vR w.length :: st) (w ++ [cA 0 N (fun _ => 0)]) Q) : CV M r n0 z pc ls (vI x :: st) w Q := by
  intro p l e s m args below meth c D kA as0 as A H locs la hc ha hP hD hS hl
  have hts := hc.2.2.2.2.2.1
  have hK := hc.2.2.2.2.2.2.2.1
  refine va_newa (atype := .int) (ty := .int) (a0 := (N, .inl (fun _ => Int32.ofInt 0))) hc.1 hc.2.1 (hts _ kw_acI) rfl hK hP hD hS hc.2.2.2.2.2.2.2.2.1 (fun cA => rfl) hx.1 hx.2 (by show N * 4 ≤ _; omega) hz.1 hz.2 hd (fun q cA H1 hK1 hP1 hD1 hS1 => ?_)
  have h1 : s.vm.findClass ("[" ++ (FieldType.int).toString) = some (kA 0) := (hK.2 0 (kA 0, .int) rfl).2
  have h2 : s.vm.findClass ("[" ++ (FieldType.int).toString) = some cA := (hK1.2 4 (cA, .int) rfl).2
  have e0 : cA = kA 0 := Option.some.inj (h2.symm.trans h1)
  subst e0
  exact ct_made (c1 := Sum.inr (Sum.inl (0, N, fun _ => 0))) kk hb hn (by omega) hc ha hl hP1 hD1 hS1
theorem cv_newz {N : Nat} {x : Int} (hd : decode M.2.1 pc = .ok (.newarray .boolean, 2)) (hx : ¬ Int32.ofInt x < 0 ∧ (Int32.ofInt x).toNatClampNeg = N) (hN : N ≤ 10000) (hb : ct_cls ls st w = true) (hn : n0 ≤ w.length) (hz : z.1 + 1 ≤ r.2.1 ∧ z.2 + N ≤ r.2.2)
    (kk : CV M r n0 (z.1 + 1, z.2 + N) (pc + 2) ls (vR w.length :: st) (w ++ [cA 1 N (fun _ => 0)]) Q) : CV M r n0 z pc ls (vI x :: st) w Q := by
  intro p l e s m args below meth c D kA as0 as A H locs la hc ha hP hD hS hl
  have hts := hc.2.2.2.2.2.1
  have hK := hc.2.2.2.2.2.2.2.1
  refine va_newa (atype := .boolean) (ty := .boolean) (a0 := (N, .inl (fun _ => Int32.ofInt 0))) hc.1 hc.2.1 (hts _ kw_acZ) rfl hK hP hD hS hc.2.2.2.2.2.2.2.2.1 (fun cA => rfl) hx.1 hx.2 (by show N * 1 ≤ _; omega) hz.1 hz.2 hd (fun q cA H1 hK1 hP1 hD1 hS1 => ?_)
  have h1 : s.vm.findClass ("[" ++ (FieldType.boolean).toString) = some (kA 1) := (hK.2 1 (kA 1, .boolean) rfl).2
  have h2 : s.vm.findClass ("[" ++ (FieldType.boolean).toString) = some cA := (hK1.2 4 (cA, .boolean) rfl).2
  have e0 : cA = kA 1 := Option.some.inj (h2.symm.trans h1)
  subst e0
  exact ct_made (c1 := Sum.inr (Sum.inl (1, N, fun _ => 0))) kk hb hn (by omega) hc ha hl hP1 hD1 hS1
theorem cv_newq {N idx : Nat} {x : Int} (hck : Cond.classLink M.1.cls idx "CutTrail$State" ∈ ct_tbl) (hd : decode M.2.1 pc = .ok (.anewarray idx, 3)) (hx : ¬ Int32.ofInt x < 0 ∧ (Int32.ofInt x).toNatClampNeg = N) (hN : N ≤ 10000) (hb : ct_cls ls st w = true) (hn : n0 ≤ w.length) (hz : z.1 + 1 ≤ r.2.1 ∧ z.2 + N ≤ r.2.2)
    (kk : CV M r n0 (z.1 + 1, z.2 + N) (pc + 3) ls (vR w.length :: st) (w ++ [cQ 2 (List.replicate N none)]) Q) : CV M r n0 z pc ls (vI x :: st) w Q := by
  intro p l e s m args below meth c D kA as0 as A H locs la hc ha hP hD hS hl
  have hts := hc.2.2.2.2.2.1
  have hK := hc.2.2.2.2.2.2.2.1
  refine va_newq (C := "CutTrail$State") hc.1 hc.2.1 hc.2.2.2.2.1 (hts _ hck) hc.2.2.2.2.2.2.1.2.1 hK hP hD hS hc.2.2.2.2.2.2.2.2.1 hx.1 hx.2 (by omega) hz.1 hz.2 hd (fun q cA H1 hK1 hP1 hD1 hS1 => ?_)
  obtain ⟨k1, c1, -, -, -, h1⟩ := (hK.2 2 (kA 2, .object "CutTrail$State") rfl).2
  obtain ⟨k2, c2, -, -, -, h2⟩ := (hK1.2 4 (cA, .object "CutTrail$State") rfl).2
  have e0 : cA = kA 2 := Option.some.inj (h2.symm.trans h1)
  subst e0
  have e1 : ct_te kA (ct_ex as w.length q) (cQ 2 (List.replicate N none)) = .inl (kA 2, N, .inr (.inr (.inr (.inr (fun _ => none))))) := by
    show Sum.inl (kA 2, (List.replicate N (none : Option Nat)).length, Sum.inr (Sum.inr (Sum.inr (Sum.inr (fun j => (ct_lf (List.replicate N none) j).map (ct_ex as w.length q)))))) = _
    rw [List.length_replicate]
    congr 7
    funext j
    unfold ct_lf
    rw [List.getD_eq_getElem?_getD, List.getElem?_replicate]
    split <;> rfl
  rw [← e1] at hP1 hD1
  exact ct_made kk hb hn (by omega) hc ha hl hP1 hD1 hS1
end CVN
