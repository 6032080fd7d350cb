/-! THE RULES of the layer, an instruction each -/
section CVR
variable {M : ct_M} {r : Nat × Nat × Nat} {n0 : Nat} {z : Nat × Nat} {pc : Nat} {ls : List (Nat × ct_V)} {st : List ct_V} {w : List ct_C} {Q : Option ct_V → List ct_C → Prop}
/-- fewer locals -/
def ct_pick (l : List (Nat × ct_V)) (ks : List Nat) : List (Nat × ct_V) := ks.filterMap (fun k => l[k]?)
theorem cv_loc {ls' : List (Nat × ct_V)} (ks : List Nat) (h : ct_pick ls ks = ls') (k : CV M r n0 z pc ls' st w Q) : CV M r n0 z pc ls st w Q := by
  intro p l e s m args below meth c D kA as0 as A H locs la hc ha hP hD hS hl
  refine k p l e s m args below meth c D kA as0 as A H locs la hc ha hP hD hS ?_
  refine ⟨hl.1, hl.2.1, fun q hq => hl.2.2 q ?_⟩
  subst h
  obtain ⟨x, hx, rfl⟩ := List.mem_map.mp hq
  obtain ⟨i, -, hi⟩ := List.mem_filterMap.mp hx
  exact List.mem_map.mpr ⟨x, List.mem_of_getElem? hi, rfl⟩
def ct_get (ls : List (Nat × ct_V)) (k : Nat) : Option ct_V := match ls with
  | [] => none
  | q :: t => if q.1 = k then some q.2 else ct_get t k
theorem ct_get_mem {k : Nat} {v : ct_V} : ∀ {ls : List (Nat × ct_V)}, ct_get ls k = some v → (k, v) ∈ ls
  | [], h => by simp [ct_get] at h
  | q :: t, h => by
    unfold ct_get at h
    split at h
    · rename_i h1
      cases h
      subst h1
      exact List.mem_cons_self
    · exact List.mem_cons_of_mem _ (ct_get_mem h)
theorem ct_la {as : Nat → Nat} {la : Array Slot} {n k : Nat} {v : ct_V} (hl : lv_has la n (ct_lm as ls)) (h : ct_get ls k = some v) : la[k]? = some (.val (ct_tv as v)) :=
  hl.2.2 (k, ct_tv as v) (List.mem_map.mpr ⟨(k, v), ct_get_mem h, rfl⟩)
/-- a local's new value, the list in order -/
def ct_put (k : Nat) (v : ct_V) : List (Nat × ct_V) → List (Nat × ct_V)
  | [] => [(k, v)]
  | q :: t => if q.1 = k then (k, v) :: t else if k < q.1 then (k, v) :: q :: t else q :: ct_put k v t
theorem ct_put_mem {k : Nat} {v : ct_V} {q : Nat × ct_V} : ∀ {ls : List (Nat × ct_V)}, q ∈ ct_put k v ls → q = (k, v) ∨ q ∈ ls
  | [], h => by simpa [ct_put] using h
  | x :: t, h => by
    unfold ct_put at h
    split at h
    · rcases List.mem_cons.mp h with h | h
      · exact Or.inl h
      · exact Or.inr (List.mem_cons_of_mem _ h)
    · split at h
      · rcases List.mem_cons.mp h with h | h
        · exact Or.inl h
        · exact Or.inr h
      · rcases List.mem_cons.mp h with h | h
        · exact Or.inr (h ▸ List.mem_cons_self)
        · exact (ct_put_mem h).imp id (List.mem_cons_of_mem _)
def ct_isL : ct_V → Bool
  | .inr (.inl _) => true
  | _ => false
/-- a store at k is plain: each local's place stands once, in order, and none is a long that ends there -/
def ct_ok1 (k : Nat) (ls : List (Nat × ct_V)) : Bool := match ls with
  | [] => true
  | q :: t => (!(q.1 + 1 == k && ct_isL q.2)) && ct_ok1 k t
def ct_del (k : Nat) : List (Nat × ct_V) → List (Nat × ct_V)
  | [] => []
  | q :: t => if q.1 = k then ct_del k t else q :: ct_del k t
theorem ct_del_mem {k : Nat} {q : Nat × ct_V} : ∀ {ls : List (Nat × ct_V)}, q ∈ ct_del k ls → q ∈ ls ∧ q.1 ≠ k
  | [], h => by simp [ct_del] at h
  | x :: t, h => by
    unfold ct_del at h
    split at h
    · exact ⟨List.mem_cons_of_mem _ (ct_del_mem h).1, (ct_del_mem h).2⟩
    · rename_i hx
      rcases List.mem_cons.mp h with h | h
      · subst h
        exact ⟨List.mem_cons_self, hx⟩
      · exact ⟨List.mem_cons_of_mem _ (ct_del_mem h).1, (ct_del_mem h).2⟩
theorem ct_ok1_mem {k : Nat} {q : Nat × ct_V} : ∀ {ls : List (Nat × ct_V)}, ct_ok1 k ls = true → q ∈ ls → ¬ (q.1 + 1 = k ∧ ct_isL q.2 = true)
  | [], _, h => by simp at h
  | x :: t, h0, h => by
    simp only [ct_ok1, Bool.and_eq_true, Bool.not_eq_true', Bool.and_eq_false_iff, beq_eq_false_iff_ne] at h0
    rcases List.mem_cons.mp h with h | h
    · subst h
      rintro ⟨h1, h2⟩
      rcases h0.1 with h3 | h3
      · exact h3 h1
      · rw [h2] at h3; cases h3
    · exact ct_ok1_mem h0.2 h
theorem ct_cat2 {as : Nat → Nat} {v : ct_V} : ((ct_tv as v).category == 2) = ct_isL v := by
  rcases v with i | i | r
  · rfl
  · rfl
  · cases r <;> rfl
/-- the new locals out of the kit's, of one word -/
theorem ct_st1 {as : Nat → Nat} {la : Array Slot} {n k : Nat} {v : ct_V} (hk : ct_ok1 k ls = true) (h : lv_has la n ((k, ct_tv as v) :: (ct_lm as ls).filter (fun q => !(q.1 == k) && !(q.1 + 1 == k && q.2.category == 2)))) : lv_has la n (ct_lm as (ct_put k v (ct_del k ls))) := by
  refine ⟨h.1, h.2.1, fun q hq => h.2.2 q ?_⟩
  obtain ⟨x, hx, rfl⟩ := List.mem_map.mp hq
  rcases ct_put_mem hx with rfl | hx
  · exact List.mem_cons_self
  · obtain ⟨h1, h2⟩ := ct_del_mem hx
    refine List.mem_cons_of_mem _ (List.mem_filter.mpr ⟨List.mem_map.mpr ⟨x, h1, rfl⟩, ?_⟩)
    have h3 := ct_ok1_mem hk h1
    simp only [ct_cat2, Bool.and_eq_true, Bool.not_eq_true', beq_eq_false_iff_ne, Bool.and_eq_false_iff]
    refine ⟨h2, ?_⟩
    by_cases h4 : x.1 + 1 = k
    · right
      cases h5 : ct_isL x.2
      · rfl
      · exact absurd ⟨h4, h5⟩ h3
    · exact Or.inl h4
theorem ct_st2 {as : Nat → Nat} {la : Array Slot} {n k : Nat} {v : ct_V} (hk : ct_ok1 k ls = true) (h : lv_has la n ((k, ct_tv as v) :: (ct_lm as ls).filter (fun q => !(q.1 == k) && (!(q.1 == k + 1) && !(q.1 + 1 == k && q.2.category == 2))))) : lv_has la n (ct_lm as (ct_put k v (ct_del (k + 1) (ct_del k ls)))) := by
  refine ⟨h.1, h.2.1, fun q hq => h.2.2 q ?_⟩
  obtain ⟨x, hx, rfl⟩ := List.mem_map.mp hq
  rcases ct_put_mem hx with rfl | hx
  · exact List.mem_cons_self
  · obtain ⟨h1, h2⟩ := ct_del_mem hx
    obtain ⟨h1, h6⟩ := ct_del_mem h1
    refine List.mem_cons_of_mem _ (List.mem_filter.mpr ⟨List.mem_map.mpr ⟨x, h1, rfl⟩, ?_⟩)
    have h3 := ct_ok1_mem hk h1
    simp only [ct_cat2, Bool.and_eq_true, Bool.not_eq_true', beq_eq_false_iff_ne, Bool.and_eq_false_iff]
    refine ⟨h6, h2, ?_⟩
    by_cases h4 : x.1 + 1 = k
    · right
      cases h5 : ct_isL x.2
      · rfl
      · exact absurd ⟨h4, h5⟩ h3
    · exact Or.inl h4
-- constants
theorem cv_iconst {n : Int} (hd : decode M.2.1 pc = .ok (.iconst n, 1)) (k : CV M r n0 z (pc + 1) ls (vI n :: st) w Q) : CV M r n0 z pc ls st w Q := by
  intro p l e s m args below meth c D kA as0 as A H locs la hc ha hP hD hS hl
  exact lv_iconst hc.1 hc.2.1 hd rfl (k p l e s m args below meth c D kA as0 as A H locs la hc ha hP hD hS hl)
theorem cv_bipush {n : Int} (hd : decode M.2.1 pc = .ok (.bipush n, 2)) (hn : (Int8.ofInt n).toInt32 = Int32.ofInt n) (k : CV M r n0 z (pc + 2) ls (vI n :: st) w Q) : CV M r n0 z pc ls st w Q := by
  intro p l e s m args below meth c D kA as0 as A H locs la hc ha hP hD hS hl
  exact lv_bipush hc.1 hc.2.1 hd hn (k p l e s m args below meth c D kA as0 as A H locs la hc ha hP hD hS hl)
theorem cv_sipush {n : Int} (hd : decode M.2.1 pc = .ok (.sipush n, 3)) (hn : (Int16.ofInt n).toInt32 = Int32.ofInt n) (k : CV M r n0 z (pc + 3) ls (vI n :: st) w Q) : CV M r n0 z pc ls st w Q := by
  intro p l e s m args below meth c D kA as0 as A H locs la hc ha hP hD hS hl
  exact lv_sipush hc.1 hc.2.1 hd hn (k p l e s m args below meth c D kA as0 as A H locs la hc ha hP hD hS hl)
theorem cv_lconst {n : Fin 2} {v : Int} (hd : decode M.2.1 pc = .ok (.lconst n, 1)) (hn : Int64.ofNat (n : Nat) = Int64.ofInt v) (k : CV M r n0 z (pc + 1) ls (vL v :: st) w Q) : CV M r n0 z pc ls st w Q := by
  intro p l e s m args below meth c D kA as0 as A H locs la hc ha hP hD hS hl
  exact lv_lconst hc.1 hc.2.1 hd hn (k p l e s m args below meth c D kA as0 as A H locs la hc ha hP hD hS hl)
-- locals
theorem cv_iload_n {i : Fin 4} {x : Int} (hd : decode M.2.1 pc = .ok (.iload_n i, 1)) (h : ct_get ls (i : Nat) = some (vI x)) (k : CV M r n0 z (pc + 1) ls (vI x :: st) w Q) : CV M r n0 z pc ls st w Q := by
  intro p l e s m args below meth c D kA as0 as A H locs la hc ha hP hD hS hl
  exact lv_iload_n hc.1 hc.2.1 hd rfl (ct_la hl h) (k p l e s m args below meth c D kA as0 as A H locs la hc ha hP hD hS hl)
theorem cv_iload {i : Nat} {x : Int} (hd : decode M.2.1 pc = .ok (.iload i, 2)) (h : ct_get ls i = some (vI x)) (k : CV M r n0 z (pc + 2) ls (vI x :: st) w Q) : CV M r n0 z pc ls st w Q := by
  intro p l e s m args below meth c D kA as0 as A H locs la hc ha hP hD hS hl
  exact lv_iload hc.1 hc.2.1 hd (ct_la hl h) (k p l e s m args below meth c D kA as0 as A H locs la hc ha hP hD hS hl)
theorem cv_lload_n {i : Fin 4} {x : Int} (hd : decode M.2.1 pc = .ok (.lload_n i, 1)) (h : ct_get ls (i : Nat) = some (vL x)) (k : CV M r n0 z (pc + 1) ls (vL x :: st) w Q) : CV M r n0 z pc ls st w Q := by
  intro p l e s m args below meth c D kA as0 as A H locs la hc ha hP hD hS hl
  exact lv_lload_n hc.1 hc.2.1 hd rfl (ct_la hl h) (k p l e s m args below meth c D kA as0 as A H locs la hc ha hP hD hS hl)
theorem cv_lload {i : Nat} {x : Int} (hd : decode M.2.1 pc = .ok (.lload i, 2)) (h : ct_get ls i = some (vL x)) (k : CV M r n0 z (pc + 2) ls (vL x :: st) w Q) : CV M r n0 z pc ls st w Q := by
  intro p l e s m args below meth c D kA as0 as A H locs la hc ha hP hD hS hl
  exact lv_lload hc.1 hc.2.1 hd (ct_la hl h) (k p l e s m args below meth c D kA as0 as A H locs la hc ha hP hD hS hl)
theorem cv_aload_n {i : Fin 4} {x : Nat} (hd : decode M.2.1 pc = .ok (.aload_n i, 1)) (h : ct_get ls (i : Nat) = some (vR x)) (k : CV M r n0 z (pc + 1) ls (vR x :: st) w Q) : CV M r n0 z pc ls st w Q := by
  intro p l e s m args below meth c D kA as0 as A H locs la hc ha hP hD hS hl
  exact lv_aload_n hc.1 hc.2.1 hd rfl (ct_la hl h) (k p l e s m args below meth c D kA as0 as A H locs la hc ha hP hD hS hl)
theorem cv_aload {i : Nat} {x : Nat} (hd : decode M.2.1 pc = .ok (.aload i, 2)) (h : ct_get ls i = some (vR x)) (k : CV M r n0 z (pc + 2) ls (vR x :: st) w Q) : CV M r n0 z pc ls st w Q := by
  intro p l e s m args below meth c D kA as0 as A H locs la hc ha hP hD hS hl
  exact lv_aload hc.1 hc.2.1 hd (ct_la hl h) (k p l e s m args below meth c D kA as0 as A H locs la hc ha hP hD hS hl)
theorem cv_istore_n {i : Fin 4} {x : Int} {ls' : List (Nat × ct_V)} (hd : decode M.2.1 pc = .ok (.istore_n i, 1)) (hn : (i : Nat) < M.2.2.1) (ho : ct_ok1 (i : Nat) ls = true) (h : ct_put (i : Nat) (vI x) (ct_del (i : Nat) ls) = ls') (k : CV M r n0 z (pc + 1) ls' st w Q) : CV M r n0 z pc ls (vI x :: st) w Q := by
  intro p l e s m args below meth c D kA as0 as A H locs la hc ha hP hD hS hl
  subst h
  exact lv_istore_n hc.1 hc.2.1 hd rfl hl hn rfl (fun la' hl' => k p l e s m args below meth c D kA as0 as A H locs la' hc ha hP hD hS (ct_st1 (v := vI x) ho hl'))
theorem cv_istore {i : Nat} {x : Int} {ls' : List (Nat × ct_V)} (hd : decode M.2.1 pc = .ok (.istore i, 2)) (hn : i < M.2.2.1) (ho : ct_ok1 i ls = true) (h : ct_put i (vI x) (ct_del i ls) = ls') (k : CV M r n0 z (pc + 2) ls' st w Q) : CV M r n0 z pc ls (vI x :: st) w Q := by
  intro p l e s m args below meth c D kA as0 as A H locs la hc ha hP hD hS hl
  subst h
  exact lv_istore hc.1 hc.2.1 hd hl hn rfl (fun la' hl' => k p l e s m args below meth c D kA as0 as A H locs la' hc ha hP hD hS (ct_st1 (v := vI x) ho hl'))
theorem cv_lstore_n {i : Fin 4} {x : Int} {ls' : List (Nat × ct_V)} (hd : decode M.2.1 pc = .ok (.lstore_n i, 1)) (hn : (i : Nat) + 1 < M.2.2.1) (ho : ct_ok1 (i : Nat) ls = true) (h : ct_put (i : Nat) (vL x) (ct_del ((i : Nat) + 1) (ct_del (i : Nat) ls)) = ls') (k : CV M r n0 z (pc + 1) ls' st w Q) : CV M r n0 z pc ls (vL x :: st) w Q := by
  intro p l e s m args below meth c D kA as0 as A H locs la hc ha hP hD hS hl
  subst h
  exact lv_lstore_n hc.1 hc.2.1 hd rfl hl hn rfl (fun la' hl' => k p l e s m args below meth c D kA as0 as A H locs la' hc ha hP hD hS (ct_st2 (v := vL x) ho hl'))
theorem cv_lstore {i : Nat} {x : Int} {ls' : List (Nat × ct_V)} (hd : decode M.2.1 pc = .ok (.lstore i, 2)) (hn : i + 1 < M.2.2.1) (ho : ct_ok1 i ls = true) (h : ct_put i (vL x) (ct_del (i + 1) (ct_del i ls)) = ls') (k : CV M r n0 z (pc + 2) ls' st w Q) : CV M r n0 z pc ls (vL x :: st) w Q := by
  intro p l e s m args below meth c D kA as0 as A H locs la hc ha hP hD hS hl
  subst h
  exact lv_lstore hc.1 hc.2.1 hd hl hn rfl (fun la' hl' => k p l e s m args below meth c D kA as0 as A H locs la' hc ha hP hD hS (ct_st2 (v := vL x) ho hl'))
theorem cv_astore_n {i : Fin 4} {x : Nat} {ls' : List (Nat × ct_V)} (hd : decode M.2.1 pc = .ok (.astore_n i, 1)) (hn : (i : Nat) < M.2.2.1) (ho : ct_ok1 (i : Nat) ls = true) (h : ct_put (i : Nat) (vR x) (ct_del (i : Nat) ls) = ls') (k : CV M r n0 z (pc + 1) ls' st w Q) : CV M r n0 z pc ls (vR x :: st) w Q := by
  intro p l e s m args below meth c D kA as0 as A H locs la hc ha hP hD hS hl
  subst h
  exact lv_astore_n hc.1 hc.2.1 hd rfl hl hn rfl (fun la' hl' => k p l e s m args below meth c D kA as0 as A H locs la' hc ha hP hD hS (ct_st1 (v := vR x) ho hl'))
theorem cv_astore {i : Nat} {x : Nat} {ls' : List (Nat × ct_V)} (hd : decode M.2.1 pc = .ok (.astore i, 2)) (hn : i < M.2.2.1) (ho : ct_ok1 i ls = true) (h : ct_put i (vR x) (ct_del i ls) = ls') (k : CV M r n0 z (pc + 2) ls' st w Q) : CV M r n0 z pc ls (vR x :: st) w Q := by
  intro p l e s m args below meth c D kA as0 as A H locs la hc ha hP hD hS hl
  subst h
  exact lv_astore hc.1 hc.2.1 hd hl hn rfl (fun la' hl' => k p l e s m args below meth c D kA as0 as A H locs la' hc ha hP hD hS (ct_st1 (v := vR x) ho hl'))
theorem ct_lm_at {as : Nat → Nat} {i : Nat} {v : ct_V} (h : ct_get ls i = some v) : ∃ k : Nat, (ct_lm as ls)[k]? = some (i, ct_tv as v) := List.getElem?_of_mem (List.mem_map.mpr ⟨(i, v), ct_get_mem h, rfl⟩)
theorem cv_iinc {i : Nat} {n x : Int} {ls' : List (Nat × ct_V)} (hd : decode M.2.1 pc = .ok (.iinc i n, 3)) (hn : i < M.2.2.1) (hx : ct_get ls i = some (vI x)) (ho : ct_ok1 i ls = true) (h : ct_put i (vI (x + n)) (ct_del i ls) = ls') (k : CV M r n0 z (pc + 3) ls' st w Q) : CV M r n0 z pc ls st w Q := by
  intro p l e s m args below meth c D kA as0 as A H locs la hc ha hP hD hS hl
  subst h
  obtain ⟨j, hj⟩ := ct_lm_at (as := as) hx
  exact lv_iinc (v := Int32.ofInt (x + n)) hc.1 hc.2.1 hd hl hj (by rw [Int32.ofInt_add]) hn rfl (fun la' hl' => k p l e s m args below meth c D kA as0 as A H locs la' hc ha hP hD hS (ct_st1 (v := vI (x + n)) ho hl'))
-- whole numbers
theorem cv_iadd {x y : Int} (hd : decode M.2.1 pc = .ok (.iadd, 1)) (k : CV M r n0 z (pc + 1) ls (vI (x + y) :: st) w Q) : CV M r n0 z pc ls (vI y :: vI x :: st) w Q := by
  intro p l e s m args below meth c D kA as0 as A H locs la hc ha hP hD hS hl
  refine lv_iadd hc.1 hc.2.1 hd ?_
  rw [← Int32.ofInt_add]
  exact k p l e s m args below meth c D kA as0 as A H locs la hc ha hP hD hS hl
theorem cv_isub {x y : Int} (hd : decode M.2.1 pc = .ok (.isub, 1)) (k : CV M r n0 z (pc + 1) ls (vI (x - y) :: st) w Q) : CV M r n0 z pc ls (vI y :: vI x :: st) w Q := by
  intro p l e s m args below meth c D kA as0 as A H locs la hc ha hP hD hS hl
  refine lv_isub hc.1 hc.2.1 hd ?_
  rw [← Int32.ofInt_sub]
  exact k p l e s m args below meth c D kA as0 as A H locs la hc ha hP hD hS hl
theorem cv_imul {x y : Int} (hd : decode M.2.1 pc = .ok (.imul, 1)) (k : CV M r n0 z (pc + 1) ls (vI (x * y) :: st) w Q) : CV M r n0 z pc ls (vI y :: vI x :: st) w Q := by
  intro p l e s m args below meth c D kA as0 as A H locs la hc ha hP hD hS hl
  refine lv_imul hc.1 hc.2.1 hd ?_
  rw [← Int32.ofInt_mul]
  exact k p l e s m args below meth c D kA as0 as A H locs la hc ha hP hD hS hl
theorem cv_ineg {x : Int} (hd : decode M.2.1 pc = .ok (.ineg, 1)) (k : CV M r n0 z (pc + 1) ls (vI (-x) :: st) w Q) : CV M r n0 z pc ls (vI x :: st) w Q := by
  intro p l e s m args below meth c D kA as0 as A H locs la hc ha hP hD hS hl
  refine lv_ineg hc.1 hc.2.1 hd ?_
  rw [← Int32.ofInt_neg]
  exact k p l e s m args below meth c D kA as0 as A H locs la hc ha hP hD hS hl
end CVR
