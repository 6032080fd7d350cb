/-! THE LAYER: values and cells as plain numbers (ints as Int, references as places in a list of cells), a judgement CV over them, a contract CM; each rule below is one of the kit's rows said in these words. -/
abbrev ct_V : Type := Int ⊕ (Int ⊕ Option Nat)
abbrev ct_C : Type := (Nat × List ct_V) ⊕ ((Nat × Nat × (Nat → Int)) ⊕ (Nat × List (Option Nat)))
abbrev vI (i : Int) : ct_V := Sum.inl i
abbrev vL (i : Int) : ct_V := Sum.inr (Sum.inl i)
abbrev vO (r : Option Nat) : ct_V := Sum.inr (Sum.inr r)
abbrev vR (q : Nat) : ct_V := Sum.inr (Sum.inr (some q))
abbrev cO (ci : Nat) (fs : List ct_V) : ct_C := Sum.inl (ci, fs)
abbrev cA (t n : Nat) (f : Nat → Int) : ct_C := Sum.inr (Sum.inl (t, n, f))
abbrev cQ (t : Nat) (l : List (Option Nat)) : ct_C := Sum.inr (Sum.inr (t, l))
/-- a row of references, by its places -/
def ct_lf (l : List (Option Nat)) (j : Nat) : Option Nat := l.getD j none
/-- a value, by the addresses of the places -/
def ct_tv (as : Nat → Nat) (v : ct_V) : Value := match v with
  | .inl i => .int (Int32.ofInt i)
  | .inr (.inl i) => .long (Int64.ofInt i)
  | .inr (.inr r) => va_rf (r.map as)
def ct_te (kA : Nat → ClassId) (as : Nat → Nat) (c : ct_C) : va_E := match c with
  | .inl o => .inr (o.1, o.2.map (ct_tv as))
  | .inr (.inl a) => .inl (kA a.1, a.2.1, .inl (fun j => Int32.ofInt (a.2.2 j)))
  | .inr (.inr a) => .inl (kA a.1, a.2.length, .inr (.inr (.inr (.inr (fun j => (ct_lf a.2 j).map as)))))
def ct_wd (kA : Nat → ClassId) (as : Nat → Nat) (w : List ct_C) : va_W := w.mapIdx (fun i c => (as i, ct_te kA as c))
theorem ct_wd_at {kA : Nat → ClassId} {as : Nat → Nat} {w : List ct_C} {i : Nat} {c : ct_C} (h : w[i]? = some c) : (ct_wd kA as w)[i]? = some (as i, ct_te kA as c) := by
  simp [ct_wd, List.getElem?_mapIdx, h]
theorem ct_wd_inv {kA : Nat → ClassId} {as : Nat → Nat} {w : List ct_C} {i : Nat} {q : Nat × va_E} (h : (ct_wd kA as w)[i]? = some q) : ∃ c, w[i]? = some c ∧ q = (as i, ct_te kA as c) := by
  simp only [ct_wd, List.getElem?_mapIdx, Option.map_eq_some_iff] at h
  obtain ⟨c, h1, h2⟩ := h
  exact ⟨c, h1, h2.symm⟩
theorem ct_wd_len {kA : Nat → ClassId} {as : Nat → Nat} {w : List ct_C} : (ct_wd kA as w).length = w.length := by simp [ct_wd]
theorem ct_wd_set {kA : Nat → ClassId} {as : Nat → Nat} {w : List ct_C} {q : Nat} {c : ct_C} : (ct_wd kA as w).set q (as q, ct_te kA as c) = ct_wd kA as (w.set q c) := by
  apply List.ext_getElem?
  intro i
  by_cases h : q = i
  · subst h
    by_cases hl : q < w.length
    · rw [List.getElem?_set_self (by rw [ct_wd_len]; exact hl), ct_wd_at (List.getElem?_set_self hl)]
    · rw [List.getElem?_eq_none (by simp [ct_wd_len]; omega), List.getElem?_eq_none (by simp [ct_wd_len]; omega)]
  · simp [ct_wd, List.getElem?_mapIdx, List.getElem?_set_ne h]
/-- the array classes -/
def ct_tys (kA : Nat → ClassId) : List (ClassId × FieldType) := [(kA 0, .int), (kA 1, .boolean), (kA 2, .object "CutTrail$State"), (kA 3, .array .int)]
/-- a method: its name, bytes, locals, what it returns -/
abbrev ct_M : Type := MethodName × ByteArray × Nat × Option FieldType
/-- the tables' words that stay as they are; the nest's words -/
def ct_isN : Cond → Bool
  | .fieldLinkNest .. => true
  | .methodLinkNest .. => true
  | _ => false
def ct_tbl : List Cond := lw_tbl.filter goodWord
def ct_nst : List Cond := lw_tbl.filter ct_isN
def ct_AOA (U : State) : Prop := (Cond.arrayOver (.array .int)).before #[] U = true
/-- the static row of orders -/
def ct_ord : Nat → Value := fun j => .int (match j with | 0 => 1 | 1 => 1 | 2 => 2 | 3 => 6 | 4 => 24 | 5 => 120 | _ => 720)
def ct_st (A : Nat → Prop) (U : State) : Prop := ∃ t : Nat, va_Z "CutTrail" "ORDERS" "[I" (.ref t) A U U.heap ∧ va_T .int t 7 ct_ord A U U.heap
def ct_nw (U : State) : Prop := (∀ w ∈ ct_nst, va_Nw w U) ∧ va_AO "CutTrail$State" U ∧ ct_AOA U
def ct_ws (M : ct_M) : List Cond := Cond.code M.1 M.2.1 M.2.2.1 M.2.2.2 :: ct_tbl
def ct_rm (r : Nat × Nat × Nat) : Room := { frames := r.1, cells := r.2.1, slots := r.2.2, locals := 39 * r.1 }
/-- what holds at a call's start -/
def ct_B (D : va_G) (kA : Nat → ClassId) (as : Nat → Nat) (w : List ct_C) (sz : Nat) (U : State) : Prop :=
  U.heap.size = sz ∧ va_P D vwCl (ct_wd kA as w) U.heap ∧ va_K D vwCl (ct_tys kA) U ∧ ct_nw U ∧ ct_st (va_A (ct_wd kA as w) sz) U ∧ va_D (fun _ => True) (ct_wd kA as w)
/-- what holds at its end -/
def ct_Qc (D : va_G) (kA : Nat → ClassId) (as : Nat → Nat) (k0 n0 : Nat) (A : Nat → Prop) (Q : Option ct_V → List ct_C → Prop) : Array Value → State → Outcome → State → Prop := fun _ st oc t =>
  (∃ (r : Option ct_V) (w' : List ct_C) (as' : Nat → Nat), oc = .returned (r.map (ct_tv as')) ∧ Q r w' ∧ (∀ i, k0 = 0 ∨ i < n0 → as' i = as i) ∧ va_P D vwCl (ct_wd kA as' w') t.heap ∧ va_D A (ct_wd kA as' w')) ∧ va_F A st t
/-- THE CONTRACT: method M, room r, from these arguments and cells: it returns with Q -/
def CM (M : ct_M) (r : Nat × Nat × Nat) (args : List ct_V) (w : List ct_C) (Q : Option ct_V → List ct_C → Prop) : Prop :=
  ∀ (l : Launch) (D : va_G) (kA : Nat → ClassId) (as : Nat → Nat) (sz : Nat),
    Met l M.1 (ct_ws M) (ct_rm r) (va_Pc (args.map (ct_tv as)) (ct_B D kA as w sz)) (ct_Qc D kA as r.2.1 w.length (va_A (ct_wd kA as w) sz) Q) r.2.1 r.2.2 (va_A (ct_wd kA as w) sz)
/-- the standing facts of a body -/
def ct_cx (M : ct_M) (D : va_G) (kA : Nat → ClassId) (A : Nat → Prop) (p : Program) (s : State) (m : MethodId) (args : Array Value) (meth : Method) (c : Code) : Prop :=
  p.tables.exec = Jvm.exec ∧ c.code = M.2.1 ∧ meth.sig.returnType = M.2.2.2 ∧ c.maxLocals = M.2.2.1 ∧ s.vm.findClass M.1.cls = some m.cls ∧ (∀ w ∈ ct_tbl, w.before args s = true) ∧ ct_nw s ∧ va_K D vwCl (ct_tys kA) s ∧ (∀ q, s.heap.size ≤ q → A q) ∧ meth.locks = false ∧ ct_st A s ∧ meth.name = M.1.name
def ct_lm (as : Nat → Nat) (ls : List (Nat × ct_V)) : List (Nat × Value) := ls.map (fun q => (q.1, ct_tv as q.2))
/-- THE JUDGEMENT: at pc, with these locals, stack and cells, it comes to its end with Q -/
def CV (M : ct_M) (r : Nat × Nat × Nat) (n0 : Nat) (z : Nat × Nat) (pc : Nat) (ls : List (Nat × ct_V)) (st : List ct_V) (w : List ct_C) (Q : Option ct_V → List ct_C → Prop) : Prop :=
  ∀ (p : Program) (l : Launch) (e : Env) (s : State) (m : MethodId) (args : Array Value) (below : List Frame) (meth : Method) (c : Code) (D : va_G) (kA : Nat → ClassId) (as0 as : Nat → Nat) (A : Nat → Prop) (H : Heap) (locs : List Loc) (la : Array Slot),
    ct_cx M D kA A p s m args meth c → (∀ i, r.2.1 = 0 ∨ i < n0 → as i = as0 i) → va_P D vwCl (ct_wd kA as w) H → va_D A (ct_wd kA as w) → va_S A s.heap H locs → lv_has la M.2.2.1 (ct_lm as ls) →
    W p l e (ct_rm r) s m args below meth c H locs z.1 z.2 (MQ below (ct_Qc D kA as0 r.2.1 n0 A Q) args s r.2.1 r.2.2 A) (F0 m pc la (st.map (ct_tv as)))
theorem ct_cat (as : Nat → Nat) (v : ct_V) : (ct_tv as v).category = (match v with | .inr (.inl _) => 2 | _ => 1) := by
  rcases v with i | i | r
  · rfl
  · rfl
  · cases r <;> rfl
def ct_args : Nat → List ct_V → List (Nat × ct_V)
  | _, [] => []
  | i, (.inr (.inl x)) :: t => (i, .inr (.inl x)) :: ct_args (i + 2) t
  | i, v :: t => (i, v) :: ct_args (i + 1) t
def ct_alen : List ct_V → Nat
  | [] => 0
  | (.inr (.inl _)) :: t => ct_alen t + 2
  | _ :: t => ct_alen t + 1
theorem ct_args_eq (as : Nat → Nat) : ∀ (vs : List ct_V) (i : Nat), lv_args i (vs.map (ct_tv as)) = ct_lm as (ct_args i vs)
  | [], _ => rfl
  | .inl x :: t, i => by
    have h := ct_args_eq as t (i + 1)
    simp only [List.map_cons, lv_args, ct_args, ct_lm, ct_cat] at h ⊢
    simp [h]
  | .inr (.inl x) :: t, i => by
    have h := ct_args_eq as t (i + 2)
    simp only [List.map_cons, lv_args, ct_args, ct_lm, ct_cat] at h ⊢
    simp [h]
  | .inr (.inr x) :: t, i => by
    have h := ct_args_eq as t (i + 1)
    simp only [List.map_cons, lv_args, ct_args, ct_lm, ct_cat] at h ⊢
    simp [h]
theorem ct_alen_eq (as : Nat → Nat) : ∀ (vs : List ct_V), (lg_sl (vs.map (ct_tv as))).length = ct_alen vs
  | [] => rfl
  | .inl x :: t => by
    have h := ct_alen_eq as t
    simp only [List.map_cons, lg_sl, List.flatMap_cons, List.length_append, ct_alen, ct_cat] at h ⊢
    simp [h]; omega
  | .inr (.inl x) :: t => by
    have h := ct_alen_eq as t
    simp only [List.map_cons, lg_sl, List.flatMap_cons, List.length_append, ct_alen, ct_cat] at h ⊢
    simp [h]; omega
  | .inr (.inr x) :: t => by
    have h := ct_alen_eq as t
    simp only [List.map_cons, lg_sl, List.flatMap_cons, List.length_append, ct_alen, ct_cat] at h ⊢
    simp [h]; omega
/-- a contract out of the judgement at its entry -/
theorem CM.of {M : ct_M} {r : Nat × Nat × Nat} {av : List ct_V} {w : List ct_C} {Q : Option ct_V → List ct_C → Prop} (hy : plainName M.1.cls = true) (hn : ct_alen av ≤ M.2.2.1)
    (k : CV M r w.length (0, 0) 0 (ct_args 0 av) [] w Q) : CM M r av w Q := by
  intro l D kA as sz
  refine Met.ofW (cc := M.2.1) (maxL := M.2.2.1) (ret := M.2.2.2) hy rfl ?_
  intro p e s m args below meth c s₁ B hml hv
  obtain ⟨rfl, hsz, hP, hK, hN, hT, hD0⟩ := hv
  subst hsz
  have hts := atoms_spec (ws := ct_ws M) B.pre
  have hown : s.vm.findClass M.1.cls = some m.cls := findClass_of_methodNamed B.named
  have hnm : meth.name = M.1.name := (name_of_methodNamed B.named B.method).1
  have hl := lv_entry (av.map (ct_tv as)) (n := M.2.2.1) (by rw [ct_alen_eq]; exact hn)
  rw [ct_args_eq] at hl
  rw [lg_entry_eq]
  exact k p l e s m _ below meth c D kA as as (va_A (ct_wd kA as w) s.heap.size) s.heap [] _ ⟨B.exec, B.bytes, B.returns, hml, hown, fun w hw => hts w (List.mem_cons_of_mem _ hw), hN, hK, fun q h => Or.inr h, B.notSynchronized, hT, hnm⟩ (fun _ _ => rfl) hP hD0.self va_S.rf hl
