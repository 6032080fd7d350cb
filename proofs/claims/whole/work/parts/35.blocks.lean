/-- a block: which, where it begins, how long it is -/
def ct_ps : List (Nat × Nat × Nat) → List Nat
  | [] => []
  | q :: ks => List.range' q.2.1 q.2.2 ++ ct_ps ks
def ct_val (LN : List Nat) (ks : List (Nat × Nat × Nat)) : Bool := ks.all fun q => Nat.beq ((LN.take q.1).foldr (fun a b => a + b) 0) q.2.1 && (LN[q.1]? == some q.2.2)
def ct_bset : List (Nat × Nat × Nat) → List (List ct_C) → List (List ct_C) → List (List ct_C)
  | q :: ks, y :: ys, L => ct_bset ks ys (L.set q.1 y)
  | _, _, L => L
theorem ct_spl : ∀ (L : List (List ct_C)) (k n : Nat), (L.map List.length)[k]? = some n → ∃ X Y Z : List ct_C, L.flatten = X ++ (Y ++ Z) ∧ X.length = ((L.map List.length).take k).foldr (fun a b => a + b) 0 ∧ Y.length = n ∧ L.getD k [] = Y ∧ ∀ Y', (L.set k Y').flatten = X ++ (Y' ++ Z)
  | [], k, n, h => by cases h
  | B :: L, 0, n, h => ⟨[], B, L.flatten, rfl, rfl, Option.some.inj h, rfl, fun _ => rfl⟩
  | B :: L, k + 1, n, h => by
    obtain ⟨X, Y, Z, h1, h2, h3, h4, h5⟩ := ct_spl L k n h
    refine ⟨B ++ X, Y, Z, ?_, ?_, h3, h4, fun Y' => ?_⟩
    · rw [List.flatten_cons, h1, List.append_assoc]
    · rw [List.length_append, h2]; rfl
    · rw [List.set_cons_succ, List.flatten_cons, h5, List.append_assoc]
theorem ct_rsub : ∀ (Y X Z : List ct_C), (List.range' X.length Y.length).map (fun i => (X ++ (Y ++ Z))[i]?) = Y.map some
  | [], _, _ => rfl
  | y :: Y, X, Z => by
    have h := ct_rsub Y (X ++ [y]) Z
    rw [List.length_append, List.append_assoc] at h
    rw [List.length_cons, List.range'_succ, List.map_cons, List.map_cons, List.cons_append]
    congr 1
    · rw [List.getElem?_append_right (Nat.le_refl _), Nat.sub_self]; rfl
theorem ct_rbk : ∀ (Y Y' X Z : List ct_C) (ps : List Nat) (cs : List ct_C), Y'.length = Y.length → ct_bk (List.range' X.length Y.length ++ ps) (Y' ++ cs) (X ++ (Y ++ Z)) = ct_bk ps cs (X ++ (Y' ++ Z))
  | [], [], _, _, _, _, _ => rfl
  | [], _ :: _, _, _, _, _, h => by cases h
  | _ :: _, [], _, _, _, _, h => by cases h
  | y :: Y, y' :: Y', X, Z, ps, cs, h => by
    have h1 := ct_rbk Y Y' (X ++ [y']) Z ps cs (Nat.succ.inj h)
    rw [List.length_append, List.append_assoc, List.append_assoc] at h1
    rw [List.length_cons, List.range'_succ, List.cons_append, List.cons_append]
    show ct_bk _ _ ((X ++ (y :: Y ++ Z)).set X.length y') = _
    rw [List.set_append_right _ _ (Nat.le_refl _), Nat.sub_self]
    exact h1
theorem ct_val_c {LN : List Nat} {q : Nat × Nat × Nat} {ks : List (Nat × Nat × Nat)} (h : ct_val LN (q :: ks) = true) : (LN.take q.1).foldr (fun a b => a + b) 0 = q.2.1 ∧ LN[q.1]? = some q.2.2 ∧ ct_val LN ks = true := by
  unfold ct_val at h
  rw [List.all_cons, Bool.and_eq_true, Bool.and_eq_true] at h
  exact ⟨Nat.eq_of_beq_eq_true h.1.1, eq_of_beq h.1.2, h.2⟩
theorem ct_hs {LN : List Nat} {L : List (List ct_C)} (hL : L.map List.length = LN) : ∀ ks : List (Nat × Nat × Nat), ct_val LN ks = true → (ct_ps ks).map (fun i => L.flatten[i]?) = ((ks.map fun q => L.getD q.1 []).flatten).map some
  | [], _ => rfl
  | q :: ks, h => by
    obtain ⟨h1, h2, h3⟩ := ct_val_c h
    obtain ⟨X, Y, Z, e1, e2, e3, e4, -⟩ := ct_spl L q.1 q.2.2 (by rw [hL]; exact h2)
    rw [ct_ps, List.map_append, ct_hs hL ks h3, List.map_cons, List.flatten_cons, List.map_append, e4]
    congr 1
    have := ct_rsub Y X Z
    rw [e2, hL, h1, e3] at this
    rw [e1]
    exact this
theorem ct_bks {LN : List Nat} : ∀ (ks : List (Nat × Nat × Nat)) (ys : List (List ct_C)) (L : List (List ct_C)), L.map List.length = LN → ct_val LN ks = true → ys.map List.length = ks.map (fun q => q.2.2) → ct_bk (ct_ps ks) ys.flatten L.flatten = (ct_bset ks ys L).flatten
  | [], [], _, _, _, _ => rfl
  | [], _ :: _, _, _, _, h => by cases h
  | _ :: _, [], _, _, _, h => by cases h
  | q :: ks, y :: ys, L, hL, h, hy => by
    obtain ⟨h1, h2, h3⟩ := ct_val_c h
    obtain ⟨X, Y, Z, e1, e2, e3, e4, e5⟩ := ct_spl L q.1 q.2.2 (by rw [hL]; exact h2)
    rw [List.map_cons, List.map_cons] at hy
    have hy1 := (List.cons.inj hy).1
    have hy2 := (List.cons.inj hy).2
    have := ct_rbk Y y X Z (ct_ps ks) ys.flatten (by rw [e3]; exact hy1)
    rw [e2, hL, h1, e3, ← e1, ← e5] at this
    rw [ct_ps, List.flatten_cons, this]
    refine ct_bks ks ys (L.set q.1 y) ?_ h3 hy2
    rw [List.map_set, hL]
    refine List.ext_getElem? (fun i => ?_)
    rw [List.getElem?_set]
    split
    · rename_i hi
      subst hi
      split
      · rw [h2, hy1]
      · rename_i h9; exact (List.getElem?_eq_none (Nat.not_lt.mp h9)).symm
    · rfl
section CVK
variable {M M' : ct_M} {r : Nat × Nat × Nat} {d n0 : Nat} {z : Nat × Nat} {pc : Nat} {ls : List (Nat × ct_V)} {st stk avs : List ct_V} {wc : List ct_C} {Q Q' : Option ct_V → List ct_C → Prop} {idx n b : Nat}
/-- a call whose world is some of the blocks -/
theorem cv_blkV (ks : List (Nat × Nat × Nat)) {L : List (List ct_C)} {LN : List Nat} (hL : L.map List.length = LN) (hv : ct_val LN ks = true) (hnd : va_nd (ct_ps ks) = true) (hM : CM M' (d, 0, 0) (vR b :: avs) wc Q') (hsub : wc.map (ct_rc (ct_pl (ct_ps ks))) = (ks.map fun q => L.getD q.1 []).flatten) (hk : ct_lk 0 M' n) (hlk : Cond.methodLink M.1.cls idx M'.1 ∈ ct_tbl) (hd : decode M.2.1 pc = .ok (.invokevirtual idx, 3)) (hr : d + 1 ≤ r.1) (hn : avs.length = n) {ci : Nat} {fs : List ct_V} (hb : wc[b]? = some (cO ci fs)) (hci : (vwCl[ci]?).map (fun q => q.1) = some M'.1.cls)
    (hst : stk = (avs.map (ct_rv (ct_pl (ct_ps ks)))).reverse ++ vR (ct_pl (ct_ps ks) b) :: st) (hsz : ct_sz st ≤ 8) (hz : z.1 ≤ r.2.1 ∧ z.2 ≤ r.2.2) (hlen : ∀ v w1, Q' v w1 → w1.length = wc.length)
    (kk : ∀ (v : Option ct_V) (w1 : List ct_C), Q' v w1 → ∃ ys : List (List ct_C), w1.map (ct_rc (ct_pl (ct_ps ks))) = ys.flatten ∧ ys.map List.length = ks.map (fun q => q.2.2) ∧ CV M r n0 z (pc + 3) ls ((v.map (ct_rv (ct_pl (ct_ps ks)))).toList ++ st) (ct_bset ks ys L).flatten Q) : CV M r n0 z pc ls stk L.flatten Q := by
  refine cv_callV (ct_ps ks) hM hk hlk hd hr hn ((ct_hs hL ks hv).trans (congrArg (List.map some) hsub.symm)) hnd hb hci hst hsz hz hlen (fun v w1 hq => ?_)
  obtain ⟨ys, e1, e2, e3⟩ := kk v w1 hq
  rw [e1, ct_bks ks ys L hL hv e2]
  exact e3
end CVK
