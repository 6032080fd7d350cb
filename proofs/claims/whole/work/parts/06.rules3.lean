/-! THE RULES, third: fields, arrays, constants of the pool, returns -/
section CVT
variable {M : ct_M} {r : Nat × Nat × Nat} {n0 : Nat} {z : Nat × Nat} {pc : Nat} {ls : List (Nat × ct_V)} {st : List ct_V} {w : List ct_C} {Q : Option ct_V → List ct_C → Prop}
/-- a class of the worlds: its words are in the tables, its types, its names are apart -/
def ct_cl (ci : Nat) (C : String) (T : u_T) (N : Nat) (ty : Nat → FieldType) : Prop := vwCl[ci]? = some (C, T, N) ∧ (∀ w ∈ u_ws C T N, w ∈ ct_tbl) ∧ (∀ k, k < N → parseFieldDescriptor (T k).2.2.1 = some (ty k)) ∧ (∀ a, a < N → ∀ b, b < N → a ≠ b → (T a).2.1 ≠ (T b).2.1)
/-- a field's link: the k-th of class ci -/
def ct_fl (own : String) (idx ci k : Nat) : Prop := ∃ (C : String) (T : u_T) (N : Nat) (ty : Nat → FieldType), ct_cl ci C T N ty ∧ k < N ∧ Cond.fieldLink own idx (T k).1 (T k).2.1 (T k).2.2.1 ∈ ct_tbl
def ct_fp (own : String) (idx ci k : Nat) (fin : Bool) (t : FieldType) : Prop := ∃ (C : String) (T : u_T) (N : Nat) (ty : Nat → FieldType), ct_cl ci C T N ty ∧ k < N ∧ Cond.fieldLink own idx (T k).1 (T k).2.1 (T k).2.2.1 ∈ ct_tbl ∧ (T k).2.2.2 = fin ∧ parseFieldDescriptor (T k).2.2.1 = some t ∧ (T k).1 = C
theorem cv_getf {idx ci k q : Nat} {fs : List ct_V} {v : ct_V} (hf : ct_fl M.1.cls idx ci k) (hd : decode M.2.1 pc = .ok (.getfield idx, 3)) (hw : w[q]? = some (cO ci fs)) (hv : fs[k]? = some v)
    (kk : CV M r n0 z (pc + 3) ls (v :: st) w Q) : CV M r n0 z pc ls (vR q :: st) w Q := by
  intro p l e s m args below meth c D kA as0 as A H locs la hc ha hP hD hS hl
  obtain ⟨C, T, N, ty, ⟨h1, h2, h3, h4⟩, h5, h6⟩ := hf
  have hts := hc.2.2.2.2.2.1
  exact va_get hc.1 hc.2.1 hts h2 hc.2.2.2.2.1 hc.2.2.2.2.2.2.2.1 hP q (ct_wd_at hw) h1 k h5 (hts _ h6) (fun _ h => h) (by rw [List.getElem?_map, hv]; rfl) hd (kk p l e s m args below meth c D kA as0 as A H locs la hc ha hP hD hS hl)
theorem cv_putf {idx ci k q : Nat} {fs : List ct_V} {v : ct_V} {t : FieldType} (hf : ct_fp M.1.cls idx ci k false t) (hd : decode M.2.1 pc = .ok (.putfield idx, 3)) (hw : w[q]? = some (cO ci fs)) (hk : k < fs.length) (hn : ∀ as, narrow t (ct_tv as v) = ct_tv as v ∧ fits t (ct_tv as v) = true)
    (kk : CV M r n0 z (pc + 3) ls st (w.set q (cO ci (fs.set k v))) Q) : CV M r n0 z pc ls (v :: vR q :: st) w Q := by
  intro p l e s m args below meth c D kA as0 as A H locs la hc ha hP hD hS hl
  obtain ⟨C, T, N, ty, ⟨h1, h2, h3, h4⟩, h5, h6, h7, h8, -⟩ := hf
  have hts := hc.2.2.2.2.2.1
  refine va_put hc.1 hc.2.1 hts h2 ty h3 h4 hc.2.2.2.2.1 hc.2.2.2.2.2.2.2.1 hP hD hS q (ct_wd_at hw) h1 k h5 (hts _ h6) (fun _ h => h) h7 h8 (hn as).1 (hn as).2 (by rw [List.length_map]; exact hk) hd (fun H1 locs1 hP1 hD1 hS1 => ?_)
  have eE : (ct_wd kA as w).set q (as q, .inr (ci, (fs.map (ct_tv as)).set k (ct_tv as v))) = ct_wd kA as (w.set q (cO ci (fs.set k v))) := by
    rw [← ct_wd_set]
    show _ = (ct_wd kA as w).set q (as q, .inr (ci, (fs.set k v).map (ct_tv as)))
    rw [List.map_set]
  rw [eE] at hP1 hD1
  exact kk p l e s m args below meth c D kA as0 as A H1 locs1 la hc ha hP1 hD1 hS1 hl
/-- a final field, in a constructor -/
theorem cv_putF {idx ci k q : Nat} {fs : List ct_V} {v : ct_V} {t : FieldType} (hf : ct_fp M.1.cls idx ci k true t) (hi : M.1.name = "<init>") (hci : ∀ C, vwCl[ci]? = some C → C.1 = M.1.cls) (hd : decode M.2.1 pc = .ok (.putfield idx, 3)) (hw : w[q]? = some (cO ci fs)) (hk : k < fs.length) (hn : ∀ as, narrow t (ct_tv as v) = ct_tv as v ∧ fits t (ct_tv as v) = true)
    (kk : CV M r n0 z (pc + 3) ls st (w.set q (cO ci (fs.set k v))) Q) : CV M r n0 z pc ls (v :: vR q :: st) w Q := by
  intro p l e s m args below meth c D kA as0 as A H locs la hc ha hP hD hS hl
  obtain ⟨C, T, N, ty, ⟨h1, h2, h3, h4⟩, h5, h6, h7, h8, h9⟩ := hf
  have hts := hc.2.2.2.2.2.1
  have hC : C = M.1.cls := hci _ h1
  refine va_putF hc.1 hc.2.1 hts h2 ty h3 h4 hc.2.2.2.2.1 hc.2.2.2.2.2.2.2.1 hP hD hS q (ct_wd_at hw) h1 k h5 (hts _ h6) (fun _ h => h) h7 (hc.2.2.2.2.2.2.2.2.2.2.2.trans hi) (h9.trans hC) h8 (hn as).1 (hn as).2 (by rw [List.length_map]; exact hk) hd (fun H1 locs1 hP1 hD1 hS1 => ?_)
  have eE : (ct_wd kA as w).set q (as q, .inr (ci, (fs.map (ct_tv as)).set k (ct_tv as v))) = ct_wd kA as (w.set q (cO ci (fs.set k v))) := by
    rw [← ct_wd_set]
    show _ = (ct_wd kA as w).set q (as q, .inr (ci, (fs.set k v).map (ct_tv as)))
    rw [List.map_set]
  rw [eE] at hP1 hD1
  exact kk p l e s m args below meth c D kA as0 as A H1 locs1 la hc ha hP1 hD1 hS1 hl
theorem ct_in {i : Int} {n : Nat} (h : 0 ≤ i ∧ i < (n : Int) ∧ (n : Int) ≤ 2147483647) : vp_in (Int32.ofInt i) n := by
  rw [vp_in_iff, ct_t32 (by omega) (by omega)]
  exact ⟨h.1, h.2.1⟩
theorem ct_cl32 {i : Int} {n : Nat} (h : 0 ≤ i ∧ i < (n : Int) ∧ (n : Int) ≤ 2147483647) : (Int32.ofInt i).toNatClampNeg = i.toNat := by
  rw [ct_nat h.1]
  exact nI_clamp (by omega)
/-- a row's new content -/
def ct_up {α : Type} (f : Nat → α) (k : Nat) (x : α) : Nat → α := fun j => if j = k then x else f j
theorem ct_up_s {α : Type} {f : Nat → α} {k : Nat} {x : α} : ct_up f k x k = x := if_pos rfl
theorem ct_up_n {α : Type} {f : Nat → α} {k j : Nat} {x : α} (h : j ≠ k) : ct_up f k x j = f j := if_neg h
theorem cv_iald {q n : Nat} {f : Nat → Int} {i : Int} (hd : decode M.2.1 pc = .ok (.iaload, 1)) (hw : w[q]? = some (cA 0 n f)) (hi : 0 ≤ i ∧ i < (n : Int) ∧ (n : Int) ≤ 2147483647)
    (kk : CV M r n0 z (pc + 1) ls (vI (f i.toNat) :: st) w Q) : CV M r n0 z pc ls (vI i :: vR q :: st) w Q := by
  intro p l e s m args below meth c D kA as0 as A H locs la hc ha hP hD hS hl
  refine va_iald hc.1 hc.2.1 hc.2.2.2.2.2.2.2.1 hP q 0 (ct_wd_at hw) rfl (ct_in hi) hd ?_
  rw [ct_cl32 hi]
  exact kk p l e s m args below meth c D kA as0 as A H locs la hc ha hP hD hS hl
theorem cv_zald {q n : Nat} {f : Nat → Int} {i : Int} (hd : decode M.2.1 pc = .ok (.baload, 1)) (hw : w[q]? = some (cA 1 n f)) (hi : 0 ≤ i ∧ i < (n : Int) ∧ (n : Int) ≤ 2147483647)
    (kk : CV M r n0 z (pc + 1) ls (vI (f i.toNat) :: st) w Q) : CV M r n0 z pc ls (vI i :: vR q :: st) w Q := by
  intro p l e s m args below meth c D kA as0 as A H locs la hc ha hP hD hS hl
  refine va_zald hc.1 hc.2.1 hc.2.2.2.2.2.2.2.1 hP q 1 (ct_wd_at hw) rfl (ct_in hi) hd ?_
  rw [ct_cl32 hi]
  exact kk p l e s m args below meth c D kA as0 as A H locs la hc ha hP hD hS hl
theorem ct_updI {f : Nat → Int} {k : Nat} {x : Int} : upd (fun j => Int32.ofInt (f j)) k (Int32.ofInt x) = fun j => Int32.ofInt (ct_up f k x j) := by
  funext j
  unfold upd ct_up
  split <;> rfl
theorem cv_iast {q n : Nat} {f : Nat → Int} {i x : Int} (hd : decode M.2.1 pc = .ok (.iastore, 1)) (hw : w[q]? = some (cA 0 n f)) (hi : 0 ≤ i ∧ i < (n : Int) ∧ (n : Int) ≤ 2147483647)
    (kk : CV M r n0 z (pc + 1) ls st (w.set q (cA 0 n (ct_up f i.toNat x))) Q) : CV M r n0 z pc ls (vI x :: vI i :: vR q :: st) w Q := by
  intro p l e s m args below meth c D kA as0 as A H locs la hc ha hP hD hS hl
  refine va_iast hc.1 hc.2.1 hc.2.2.2.2.2.2.2.1 hP hD hS q 0 (ct_wd_at hw) rfl (ct_in hi) hd (fun H1 locs1 hP1 hD1 hS1 => ?_)
  rw [ct_cl32 hi, ct_updI] at hP1 hD1
  have eE : (ct_wd kA as w).set q (as q, ct_te kA as (cA 0 n (ct_up f i.toNat x))) = ct_wd kA as (w.set q (cA 0 n (ct_up f i.toNat x))) := ct_wd_set
  exact kk p l e s m args below meth c D kA as0 as A H1 locs1 la hc ha (eE ▸ hP1) (eE ▸ hD1) hS1 hl
theorem ct_narZ {x : Int} (h : x = 0 ∨ x = 1) : vp_nar .boolean (Int32.ofInt x) = Int32.ofInt x := by
  rcases h with rfl | rfl <;> decide +kernel
theorem cv_zast {q n : Nat} {f : Nat → Int} {i x : Int} (hd : decode M.2.1 pc = .ok (.bastore, 1)) (hw : w[q]? = some (cA 1 n f)) (hi : 0 ≤ i ∧ i < (n : Int) ∧ (n : Int) ≤ 2147483647) (hx : x = 0 ∨ x = 1)
    (kk : CV M r n0 z (pc + 1) ls st (w.set q (cA 1 n (ct_up f i.toNat x))) Q) : CV M r n0 z pc ls (vI x :: vI i :: vR q :: st) w Q := by
  intro p l e s m args below meth c D kA as0 as A H locs la hc ha hP hD hS hl
  refine va_zast hc.1 hc.2.1 hc.2.2.2.2.2.2.2.1 hP hD hS q 1 (ct_wd_at hw) rfl (ct_in hi) hd (fun H1 locs1 hP1 hD1 hS1 => ?_)
  rw [ct_cl32 hi, ct_narZ hx, ct_updI] at hP1 hD1
  have eE : (ct_wd kA as w).set q (as q, ct_te kA as (cA 1 n (ct_up f i.toNat x))) = ct_wd kA as (w.set q (cA 1 n (ct_up f i.toNat x))) := ct_wd_set
  exact kk p l e s m args below meth c D kA as0 as A H1 locs1 la hc ha (eE ▸ hP1) (eE ▸ hD1) hS1 hl
/-- a row of States, a row of int rows -/
theorem cv_aald {q t x : Nat} {l0 : List (Option Nat)} {i : Int} (ht : t = 2 ∨ t = 3) (hd : decode M.2.1 pc = .ok (.aaload, 1)) (hw : w[q]? = some (cQ t l0)) (hi : 0 ≤ i ∧ i < (l0.length : Int) ∧ (l0.length : Int) ≤ 2147483647) (hx : ct_lf l0 i.toNat = some x)
    (kk : CV M r n0 z (pc + 1) ls (vR x :: st) w Q) : CV M r n0 z pc ls (vI i :: vR q :: st) w Q := by
  intro p l e s m args below meth c D kA as0 as A H locs la hc ha hP hD hS hl
  have hin := ct_in hi
  have hlt : (Int32.ofInt i).toNatClampNeg < l0.length := Nat.not_le.mp fun q => hin (Or.inr q)
  have hK := hc.2.2.2.2.2.2.2.1
  have hv : (ct_lf l0 (Int32.ofInt i).toNatClampNeg).map as = some (as x) := by rw [ct_cl32 hi, hx]; rfl
  have go : ∀ ty : FieldType, (ct_tys kA)[t]? = some (kA t, ty) → ty.isReference = true → W p l e (ct_rm r) s m args below meth c H locs z.1 z.2 (MQ below (ct_Qc D kA as0 r.2.1 n0 A Q) args s r.2.1 r.2.2 A) (F0 m pc la (.int (Int32.ofInt i) :: .ref (as q) :: st.map (ct_tv as))) := by
    intro ty hty hrf
    refine W.aald (v := va_rf (some (as x))) (ty := ty) hc.1 hc.2.1 (hP q _ (ct_wd_at hw)) ((hK.2 t _ hty).1 l0.length (fun j => va_rf ((ct_lf l0 j).map as))) hrf (fun q => by cases q) (by show ¬ (_ ∨ (arrV _ _ _).slots.size ≤ _); rw [arrV_size]; exact hin) (by show (arrV _ _ _).slots[_]? = _; rw [arrV_read _ _ hlt]; exact congrArg (fun o => some (va_rf o)) hv) rfl rfl hd ?_
    exact kk p l e s m args below meth c D kA as0 as A H locs la hc ha hP hD hS hl
  rcases ht with rfl | rfl
  · exact go _ rfl rfl
  · exact go _ rfl rfl
theorem ct_lf_set {l0 : List (Option Nat)} {k j : Nat} {v : Option Nat} (hk : k < l0.length) : ct_lf (l0.set k v) j = ct_up (ct_lf l0) k v j := by
  show (l0.set k v).getD j none = if j = k then v else l0.getD j none
  rw [List.getD_eq_getElem?_getD, List.getD_eq_getElem?_getD]
  by_cases h : j = k
  · subst h
    rw [if_pos rfl, List.getElem?_set_self hk]
    rfl
  · rw [if_neg h, List.getElem?_set_ne (Ne.symm h)]
theorem ct_upQ {as : Nat → Nat} {l0 : List (Option Nat)} {k x : Nat} (hk : k < l0.length) : va_up (fun j => (ct_lf l0 j).map as) k (some (as x)) = fun j => (ct_lf (l0.set k (some x)) j).map as := by
  funext j
  rw [ct_lf_set hk]
  unfold va_up ct_up
  split <;> rfl
theorem cv_aast {q x : Nat} {l0 : List (Option Nat)} {i : Int} {fs : List ct_V} (hd : decode M.2.1 pc = .ok (.aastore, 1)) (hw : w[q]? = some (cQ 2 l0)) (hi : 0 ≤ i ∧ i < (l0.length : Int) ∧ (l0.length : Int) ≤ 2147483647) (hx : w[x]? = some (cO 5 fs))
    (kk : CV M r n0 z (pc + 1) ls st (w.set q (cQ 2 (l0.set i.toNat (some x)))) Q) : CV M r n0 z pc ls (vR x :: vI i :: vR q :: st) w Q := by
  intro p l e s m args below meth c D kA as0 as A H locs la hc ha hP hD hS hl
  refine va_astq (r := (RX5, TX5, 4)) hc.1 hc.2.1 hc.2.2.2.2.2.2.2.1 hP hD hS q 2 x 5 (ct_wd_at hw) rfl (ct_wd_at hx) rfl (ct_in hi) hd (fun H1 locs1 hP1 hD1 hS1 => ?_)
  have hk : i.toNat < l0.length := by omega
  rw [ct_cl32 hi, ct_upQ hk] at hP1 hD1
  have eL : (l0.set i.toNat (some x)).length = l0.length := List.length_set
  have eE : (ct_wd kA as w).set q (as q, ct_te kA as (cQ 2 (l0.set i.toNat (some x)))) = ct_wd kA as (w.set q (cQ 2 (l0.set i.toNat (some x)))) := ct_wd_set
  have eT : ct_te kA as (cQ 2 (l0.set i.toNat (some x))) = .inl (kA 2, l0.length, .inr (.inr (.inr (.inr (fun j => (ct_lf (l0.set i.toNat (some x)) j).map as))))) := by
    show Sum.inl (kA 2, (l0.set i.toNat (some x)).length, _) = _
    rw [eL]
  rw [eT] at eE
  exact kk p l e s m args below meth c D kA as0 as A H1 locs1 la hc ha (eE ▸ hP1) (eE ▸ hD1) hS1 hl
-- constants of the pool
theorem cv_ldc2 {idx : Nat} {v : Int} (hd : decode M.2.1 pc = .ok (.ldc2_w idx, 3)) (hw : Cond.constantLong M.1.cls idx (Int64.ofInt v) ∈ ct_tbl) (k : CV M r n0 z (pc + 3) ls (vL v :: st) w Q) : CV M r n0 z pc ls st w Q := by
  intro p l e s m args below meth c D kA as0 as A H locs la hc ha hP hD hS hl
  exact lv_ldc2 hc.1 hc.2.1 hc.2.2.2.2.1 (hc.2.2.2.2.2.1 _ hw) hd (k p l e s m args below meth c D kA as0 as A H locs la hc ha hP hD hS hl)
theorem cv_ldcw {idx : Nat} {v : Int} (hd : decode M.2.1 pc = .ok (.ldc_w idx, 3)) (hw : Cond.constant M.1.cls idx (Int32.ofInt v) ∈ ct_tbl) (k : CV M r n0 z (pc + 3) ls (vI v :: st) w Q) : CV M r n0 z pc ls st w Q := by
  intro p l e s m args below meth c D kA as0 as A H locs la hc ha hP hD hS hl
  exact lv_ldcw hc.1 hc.2.1 hc.2.2.2.2.1 (hc.2.2.2.2.2.1 _ hw) hd (k p l e s m args below meth c D kA as0 as A H locs la hc ha hP hD hS hl)
/-- ORDERS[i]: getstatic, the index, iaload -/
theorem cv_ord {idx : Nat} {host : String} {i v : Int} {pc1 : Nat} (hd : decode M.2.1 pc = .ok (.getstatic idx, 3)) (hn : Cond.fieldLinkNest M.1.cls idx "CutTrail" "ORDERS" "[I" host ∈ ct_nst) (hi : 0 ≤ i ∧ i < 7) (hv : ct_ord i.toNat = .int (Int32.ofInt v))
    (go : ∀ (p : Program) (l : Launch) (e : Env) (s : State) (m : MethodId) (args : Array Value) (below : List Frame) (meth : Method) (c : Code) (D : va_G) (kA : Nat → ClassId) (as : Nat → Nat) (A : Nat → Prop) (H : Heap) (locs : List Loc) (la : Array Slot) (x : Value) (QQ : State → Prop), ct_cx M D kA A p s m args meth c → va_P D vwCl (ct_wd kA as w) H → va_D A (ct_wd kA as w) → lv_has la M.2.2.1 (ct_lm as ls) → W p l e (ct_rm r) s m args below meth c H locs z.1 z.2 QQ (F0 m pc1 la (.int (Int32.ofInt i) :: x :: st.map (ct_tv as))) → W p l e (ct_rm r) s m args below meth c H locs z.1 z.2 QQ (F0 m (pc + 3) la (x :: st.map (ct_tv as))))
    (hd2 : decode M.2.1 pc1 = .ok (.iaload, 1)) (k : CV M r n0 z (pc1 + 1) ls (vI v :: st) w Q) : CV M r n0 z pc ls st w Q := by
  intro p l e s m args below meth c D kA as0 as A H locs la hc ha hP hD hS hl
  obtain ⟨t, hZ, hT⟩ := hc.2.2.2.2.2.2.2.2.2.2.1
  refine va_getsN hc.1 hc.2.1 hZ hS hc.2.2.2.2.1 (va_Nw.use rfl (hc.2.2.2.2.2.2.1.1 _ hn)) (fun _ h => h) hd ?_
  refine go p l e s m args below meth c D kA as A H locs la (.ref t) _ hc hP hD hl ?_
  refine va_ti hc.1 hc.2.1 hT hS (ct_in (n := 7) (by omega)) (v := .int (Int32.ofInt v)) ?_ hd2 ?_
  · rw [ct_cl32 (n := 7) (by omega)]
    exact hv
  · exact k p l e s m args below meth c D kA as0 as A H locs la hc ha hP hD hS hl
-- returns
theorem cv_iret {x : Int} (hr : M.2.2.2 = some .int) (hd : decode M.2.1 pc = .ok (.ireturn, 1)) (hz : z.1 ≤ r.2.1 ∧ z.2 ≤ r.2.2) (hQ : Q (some (vI x)) w) : CV M r n0 z pc ls [vI x] w Q := by
  intro p l e s m args below meth c D kA as0 as A H locs la hc ha hP hD hS hl
  refine W.widen hz.1 hz.2 ?_
  exact W.iret hc.1 hc.2.1 (hc.2.2.1.trans hr) (fun t ht hW => ⟨⟨some (vI x), w, as, rfl, hQ, ha, by rw [ht]; exact hP, hD⟩, hS.F ht⟩) hS.2.2 hd hc.2.2.2.2.2.2.2.2.2.1
theorem cv_zret {x : Int} (hr : M.2.2.2 = some .boolean) (hd : decode M.2.1 pc = .ok (.ireturn, 1)) (hz : z.1 ≤ r.2.1 ∧ z.2 ≤ r.2.2) (hx : x = 0 ∨ x = 1) (hQ : Q (some (vI x)) w) : CV M r n0 z pc ls [vI x] w Q := by
  intro p l e s m args below meth c D kA as0 as A H locs la hc ha hP hD hS hl
  refine W.widen hz.1 hz.2 ?_
  exact W.zret hc.1 hc.2.1 (hc.2.2.1.trans hr) (by rcases hx with rfl | rfl <;> decide +kernel) (fun t ht hW => ⟨⟨some (vI x), w, as, rfl, hQ, ha, by rw [ht]; exact hP, hD⟩, hS.F ht⟩) hS.2.2 hd hc.2.2.2.2.2.2.2.2.2.1
theorem cv_lret {x : Int} (hr : M.2.2.2 = some .long) (hd : decode M.2.1 pc = .ok (.lreturn, 1)) (hz : z.1 ≤ r.2.1 ∧ z.2 ≤ r.2.2) (hQ : Q (some (vL x)) w) : CV M r n0 z pc ls [vL x] w Q := by
  intro p l e s m args below meth c D kA as0 as A H locs la hc ha hP hD hS hl
  refine W.widen hz.1 hz.2 ?_
  exact W.lret hc.1 hc.2.1 (hc.2.2.1.trans hr) (fun t ht hW => ⟨⟨some (vL x), w, as, rfl, hQ, ha, by rw [ht]; exact hP, hD⟩, hS.F ht⟩) hS.2.2 hd hc.2.2.2.2.2.2.2.2.2.1
theorem cv_ret (hr : M.2.2.2 = none) (hd : decode M.2.1 pc = .ok (.return_, 1)) (hz : z.1 ≤ r.2.1 ∧ z.2 ≤ r.2.2) (hQ : Q none w) : CV M r n0 z pc ls [] w Q := by
  intro p l e s m args below meth c D kA as0 as A H locs la hc ha hP hD hS hl
  refine W.widen hz.1 hz.2 ?_
  exact W.vret hc.1 hc.2.1 (hc.2.2.1.trans hr) (fun t ht hW => ⟨⟨none, w, as, rfl, hQ, ha, by rw [ht]; exact hP, hD⟩, hS.F ht⟩) hS.2.2 hd hc.2.2.2.2.2.2.2.2.2.1
end CVT
