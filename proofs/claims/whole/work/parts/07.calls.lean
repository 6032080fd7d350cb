/-! CALLS: the callee's cells are places of the caller's list -/
def ct_rv (g : Nat → Nat) (v : ct_V) : ct_V := match v with
  | .inl i => .inl i
  | .inr (.inl i) => .inr (.inl i)
  | .inr (.inr q) => .inr (.inr (q.map g))
def ct_rc (g : Nat → Nat) (c : ct_C) : ct_C := match c with
  | .inl o => .inl (o.1, o.2.map (ct_rv g))
  | .inr (.inl a) => .inr (.inl a)
  | .inr (.inr a) => .inr (.inr (a.1, a.2.map (Option.map g)))
theorem ct_lf_map (g : Nat → Nat) (l : List (Option Nat)) (j : Nat) : ct_lf (l.map (Option.map g)) j = (ct_lf l j).map g := by
  unfold ct_lf
  rw [List.getD_eq_getElem?_getD, List.getD_eq_getElem?_getD, List.getElem?_map]
  cases l[j]? <;> rfl
theorem ct_rv_eq (as g : Nat → Nat) (v : ct_V) : ct_tv (fun i => as (g i)) v = ct_tv as (ct_rv g v) := by
  rcases v with i | i | q
  · rfl
  · rfl
  · cases q <;> rfl
theorem ct_rc_eq (kA : Nat → ClassId) (as g : Nat → Nat) (c : ct_C) : ct_te kA (fun i => as (g i)) c = ct_te kA as (ct_rc g c) := by
  rcases c with o | a | a
  · show Sum.inr (o.1, o.2.map _) = Sum.inr (o.1, (o.2.map (ct_rv g)).map (ct_tv as))
    rw [List.map_map]
    congr 2
    apply List.map_congr_left
    intro v _
    exact ct_rv_eq as g v
  · rfl
  · show Sum.inl (kA a.1, a.2.length, Sum.inr (Sum.inr (Sum.inr (Sum.inr (fun j => (ct_lf a.2 j).map _))))) = Sum.inl (kA a.1, (a.2.map (Option.map g)).length, Sum.inr (Sum.inr (Sum.inr (Sum.inr (fun j => (ct_lf (a.2.map (Option.map g)) j).map as)))))
    rw [List.length_map]
    congr 7
    funext j
    rw [ct_lf_map]
    cases ct_lf a.2 j <;> rfl
/-- the places of the callee's cells -/
def ct_pl (ps : List Nat) (i : Nat) : Nat := ps.getD i 0
/-- the caller's cells behind the call -/
def ct_bk : List Nat → List ct_C → List ct_C → List ct_C
  | p :: ps, c :: cs, w => ct_bk ps cs (w.set p c)
  | _, _, w => w
theorem ct_bk_len : ∀ (ps : List Nat) (cs w : List ct_C), (ct_bk ps cs w).length = w.length
  | [], _, _ => by simp [ct_bk]
  | _ :: _, [], _ => by simp [ct_bk]
  | p :: ps, c :: cs, w => by rw [ct_bk, ct_bk_len ps cs]; simp
theorem ct_bk_out : ∀ (ps : List Nat) (cs w : List ct_C) (j : Nat), j ∉ ps → (ct_bk ps cs w)[j]? = w[j]?
  | [], _, _, _, _ => by simp [ct_bk]
  | _ :: _, [], _, _, _ => by simp [ct_bk]
  | p :: ps, c :: cs, w, j, h => by
    simp only [List.mem_cons, not_or] at h
    rw [ct_bk, ct_bk_out ps cs _ j h.2, List.getElem?_set_ne (Ne.symm h.1)]
theorem ct_bk_in : ∀ (ps : List Nat) (cs w : List ct_C) (i p : Nat) (c : ct_C), va_nd ps = true → ps[i]? = some p → cs[i]? = some c → p < w.length → (ct_bk ps cs w)[p]? = some c
  | [], _, _, _, _, _, _, h, _, _ => by simp at h
  | _ :: _, [], _, _, _, _, _, _, h, _ => by simp at h
  | p0 :: ps, c0 :: cs, w, i, p, c, hn, h1, h2, hl => by
    simp only [va_nd, Bool.and_eq_true, decide_eq_true_eq] at hn
    rw [ct_bk]
    cases i with
    | zero =>
      simp only [List.getElem?_cons_zero, Option.some.injEq] at h1 h2
      subst h1; subst h2
      rw [ct_bk_out ps cs _ _ hn.1, List.getElem?_set_self hl]
    | succ i =>
      simp only [List.getElem?_cons_succ] at h1 h2
      exact ct_bk_in ps cs _ i p c hn.2 h1 h2 (by simpa using hl)
theorem ct_wD {A : Nat → Prop} {kA : Nat → ClassId} {as : Nat → Nat} {w w' : List ct_C} (hl : w'.length = w.length) (h : va_D A (ct_wd kA as w)) : va_D A (ct_wd kA as w') := by
  have key : ∀ (i : Nat) (q : Nat × va_E), (ct_wd kA as w')[i]? = some q → ∃ q0, (ct_wd kA as w)[i]? = some q0 ∧ q0.1 = q.1 := by
    intro i q hq
    obtain ⟨c, h1, rfl⟩ := ct_wd_inv hq
    have hi : i < w.length := by rw [← hl]; exact (List.getElem?_eq_some_iff.mp h1).1
    exact ⟨_, ct_wd_at (List.getElem?_eq_getElem hi), rfl⟩
  refine ⟨fun i j p q hi hj e => ?_, fun k q hk => ?_⟩
  · obtain ⟨a, a1, a2⟩ := key i p hi
    obtain ⟨b, b1, b2⟩ := key j q hj
    exact h.1 i j a b a1 b1 (a2.trans (e.trans b2.symm))
  · obtain ⟨a, a1, a2⟩ := key k q hk
    rw [← a2]
    exact h.2 k a a1
theorem ct_isN_warm {w : Cond} (h : ct_isN w = true) {s U : State} (hW : s.WarmedH U.vm) (hZ : va_Nw w s) : va_Nw w U := by
  cases w <;> first | (simp [ct_isN] at h; done) | exact va_Nw.warmF hW hZ | exact va_Nw.warmM hW hZ
theorem ct_AOA.moved {u U : State} (hvm : u.vm.Alike U.vm) (h : ct_AOA u) : ct_AOA U := by
  have hb : U.vm.bare = u.vm.bare := by first | exact hvm.bare_eq | exact hvm.bare_eq.symm
  unfold ct_AOA Cond.before Cond.holds at h ⊢
  simp only [Cond.value] at h ⊢
  simp only [hvm.findClass]
  cases hf : u.vm.findClass (FieldType.array .int).toString with
  | none => rw [hf] at h; simp at h
  | some comp =>
    rw [hf] at h
    simp only [Option.bind_some] at h ⊢
    have h1 := va_idx_bare U.vm comp
    rw [hb] at h1
    have hi := h1.symm.trans (va_idx_bare u.vm comp)
    refine Eq.trans (congrArg (fun o : Option Nat => (o.bind (fun c => (U.vm.classes[c]?).map fun (k : Class) => match k.kind with | .array _ ty => decide (ty = FieldType.array .int) && decide (u.vm.findClass ("[" ++ (FieldType.array .int).toString) = some c) | _ => false) == some true)) hi) ?_
    refine Eq.trans ?_ h
    show _ = ((Array.findIdx? (fun (x : Class) => match x.kind with | .array component _ => component == comp | _ => false) u.vm.classes).bind _ == some true)
    generalize Array.findIdx? (fun (x : Class) => match x.kind with | .array component _ => component == comp | _ => false) u.vm.classes = o
    cases o with
    | none => rfl
    | some c =>
      simp only [Option.bind_some]
      cases hk : u.vm.classes[c]? with
      | none =>
        have hn : U.vm.classes[c]? = none := by
          cases hk2 : U.vm.classes[c]? with
          | none => rfl
          | some k2 =>
            obtain ⟨k3, hk3, -⟩ := hvm.symm.2.2 _ _ hk2
            rw [hk] at hk3
            cases hk3
        rw [hn]
        rfl
      | some k =>
        obtain ⟨k', hk', he⟩ := hvm.2.2 _ _ hk
        rw [hk']
        have e2 : k'.kind = k.kind := by rw [he]
        simp only [Option.map_some, e2]
        rfl
theorem ct_nw.warm {s U : State} (hW : s.WarmedH U.vm) (h : ct_nw s) : ct_nw U :=
  ⟨fun w hw => ct_isN_warm (List.mem_filter.mp hw).2 hW (h.1 w hw), va_AO.moved hW.alike h.2.1, ct_AOA.moved hW.alike h.2.2⟩
theorem ct_nw.same {s U : State} (hvm : s.vm = U.vm) (h : ct_nw s) : ct_nw U := by
  refine ⟨fun w hw => ?_, va_AO.moved (by rw [hvm]; exact Vm.Alike.refl _) h.2.1, ct_AOA.moved (by rw [hvm]; exact Vm.Alike.refl _) h.2.2⟩
  have h2 := (List.mem_filter.mp hw).2
  refine va_Nw.same ?_ hvm (h.1 w hw)
  cases w <;> first | (simp [ct_isN] at h2; done) | rfl
theorem ct_good : GoodIn ct_tbl ct_tbl := fun w h => ⟨h, good_of_word (List.mem_filter.mp h).2⟩
