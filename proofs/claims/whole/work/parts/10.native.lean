/-! CALLS of the library: Math.max, Math.min, System.arraycopy, Object() -/
section CVN
variable {M : ct_M} {r : Nat × Nat × Nat} {n0 : Nat} {z : Nat × Nat} {pc : Nat} {ls : List (Nat × ct_V)} {st : List ct_V} {w : List ct_C} {Q : Option ct_V → List ct_C → Prop} {idx : Nat}
theorem ct_rmL {r : Nat × Nat × Nat} {n k : Nat} (h : 1 ≤ r.1) (hs : n ≤ 8) (hk : k ≤ 31) : n + k ≤ (ct_rm r).locals := by
  show n + k ≤ 39 * r.1
  omega
theorem cv_max {x y : Int} (hlk : Cond.methodLink M.1.cls idx yJ9_max_7cf53 ∈ ct_tbl) (hd : decode M.2.1 pc = .ok (.invokestatic idx, 3)) (hr : 1 ≤ r.1) (hsz : ct_sz st ≤ 8) (hz : z.1 ≤ r.2.1 ∧ z.2 ≤ r.2.2) (h : -2147483648 ≤ x ∧ x ≤ 2147483647 ∧ -2147483648 ≤ y ∧ y ≤ 2147483647)
    (k : CV M r n0 z (pc + 3) ls (vI (max x y) :: st) w Q) : CV M r n0 z pc ls (vI y :: vI x :: st) w Q := by
  intro p l e s m args below meth c D kA as0 as A H locs la hc ha hP hD hS hl
  have hts := hc.2.2.2.2.2.1
  refine va_mmax hc.1 hc.2.1 (hc.2.2.2.1.trans hl.1.symm) hc.2.2.2.2.1 (hts _ hlk) (hts _ kw_maxS) (hts _ kw_math) (hts _ kw_maxC) hr (by rw [ct_sz_eq]; exact ct_rmL hr hsz (by decide)) hz.1 hz.2 hd ?_
  have eE : (if Int32.ofInt x < Int32.ofInt y then Int32.ofInt y else Int32.ofInt x) = Int32.ofInt (max x y) := by
    by_cases h1 : x < y
    · rw [if_pos ((ct_lt32 h).mpr h1), Int.max_eq_right (by omega)]
    · rw [if_neg (fun q => h1 ((ct_lt32 h).mp q)), Int.max_eq_left (by omega)]
  rw [eE]
  exact k p l e s m args below meth c D kA as0 as A H locs la hc ha hP hD hS hl
theorem cv_min {x y : Int} (hlk : Cond.methodLink M.1.cls idx yJ9_min_7cf53 ∈ ct_tbl) (hd : decode M.2.1 pc = .ok (.invokestatic idx, 3)) (hr : 1 ≤ r.1) (hsz : ct_sz st ≤ 8) (hz : z.1 ≤ r.2.1 ∧ z.2 ≤ r.2.2) (h : -2147483648 ≤ x ∧ x ≤ 2147483647 ∧ -2147483648 ≤ y ∧ y ≤ 2147483647)
    (k : CV M r n0 z (pc + 3) ls (vI (min x y) :: st) w Q) : CV M r n0 z pc ls (vI y :: vI x :: st) w Q := by
  intro p l e s m args below meth c D kA as0 as A H locs la hc ha hP hD hS hl
  have hts := hc.2.2.2.2.2.1
  refine va_mmin hc.1 hc.2.1 (hc.2.2.2.1.trans hl.1.symm) hc.2.2.2.2.1 (hts _ hlk) (hts _ kw_minS) (hts _ kw_math) (hts _ kw_minC) hr (by rw [ct_sz_eq]; exact ct_rmL hr hsz (by decide)) hz.1 hz.2 hd ?_
  have eE : (if Int32.ofInt y < Int32.ofInt x then Int32.ofInt y else Int32.ofInt x) = Int32.ofInt (min x y) := by
    by_cases h1 : y < x
    · rw [if_pos ((ct_lt32 ⟨h.2.2.1, h.2.2.2, h.1, h.2.1⟩).mpr h1), Int.min_eq_right (by omega)]
    · rw [if_neg (fun q => h1 ((ct_lt32 ⟨h.2.2.1, h.2.2.2, h.1, h.2.1⟩).mp q)), Int.min_eq_left (by omega)]
  rw [eE]
  exact k p l e s m args below meth c D kA as0 as A H locs la hc ha hP hD hS hl
/-- n places of f from sp on are g's from dp on -/
def ct_cpy (f g : Nat → Int) (sp dp n : Nat) : Nat → Int := fun k => if dp ≤ k ∧ k < dp + n then f (sp + (k - dp)) else g k
theorem cv_copy {q0 q1 k0 k1 : Nat} {f g : Nat → Int} {sp dp n : Int} (hlk : Cond.methodLink M.1.cls idx arraycopyName ∈ ct_tbl) (hd : decode M.2.1 pc = .ok (.invokestatic idx, 3)) (hr : 1 ≤ r.1) (hsz : ct_sz st ≤ 8) (h0 : w[q0]? = some (cA 0 k0 f)) (h1 : w[q1]? = some (cA 0 k1 g)) (h : 0 ≤ sp ∧ 0 ≤ dp ∧ 0 ≤ n ∧ sp + n ≤ (k0 : Int) ∧ dp + n ≤ (k1 : Int) ∧ (k0 : Int) ≤ 2147483647 ∧ (k1 : Int) ≤ 2147483647)
    (k : CV M r n0 z (pc + 3) ls st (w.set q1 (cA 0 k1 (ct_cpy f g sp.toNat dp.toNat n.toNat))) Q) : CV M r n0 z pc ls (vI n :: vI dp :: vR q1 :: vI sp :: vR q0 :: st) w Q := by
  intro p l e s m args below meth c D kA as0 as A H locs la hc ha hP hD hS hl
  have hts := hc.2.2.2.2.2.1
  have c32 : ∀ x : Int, 0 ≤ x → x ≤ 2147483647 → (Int32.ofInt x).toNatClampNeg = x.toNat := fun x a b => by rw [ct_nat a]; exact nI_clamp (by omega)
  have ng : ∀ x : Int, 0 ≤ x → x ≤ 2147483647 → ¬ Int32.ofInt x < 0 := fun x a b q => by
    have := (ct_lt32 (x := x) (y := 0) (by omega)).mp q
    omega
  refine va_copyi (ty := .int) hc.1 hc.2.1 (hc.2.2.2.1.trans hl.1.symm) hc.2.2.2.2.1 (hts _ hlk) (hts _ kw_native) (hts _ kw_stat) (hts _ kw_sys) hc.2.2.2.2.2.2.2.1 hP hD hS q0 q1 0 0 (ct_wd_at h0) (ct_wd_at h1) rfl rfl rfl (ng sp (by omega) (by omega)) (ng dp (by omega) (by omega)) (ng n (by omega) (by omega)) (by show _ ≤ k0; rw [c32 sp (by omega) (by omega), c32 n (by omega) (by omega)]; omega) (by show _ ≤ k1; rw [c32 dp (by omega) (by omega), c32 n (by omega) (by omega)]; omega) (fun i _ => rfl) hr (by rw [ct_sz_eq]; exact ct_rmL hr hsz (by decide)) hd (fun H1 locs1 hP1 hD1 hS1 => ?_)
  rw [c32 sp (by omega) (by omega), c32 dp (by omega) (by omega), c32 n (by omega) (by omega)] at hP1 hD1
  have eF : va_cpy (fun j => Int32.ofInt (f j)) (fun j => Int32.ofInt (g j)) sp.toNat dp.toNat n.toNat = fun j => Int32.ofInt (ct_cpy f g sp.toNat dp.toNat n.toNat j) := by
    funext j
    unfold va_cpy ct_cpy
    split <;> rfl
  rw [eF] at hP1 hD1
  have eE : (ct_wd kA as w).set q1 (as q1, ct_te kA as (cA 0 k1 (ct_cpy f g sp.toNat dp.toNat n.toNat))) = ct_wd kA as (w.set q1 (cA 0 k1 (ct_cpy f g sp.toNat dp.toNat n.toNat))) := ct_wd_set
  exact k p l e s m args below meth c D kA as0 as A H1 locs1 la hc ha (eE ▸ hP1) (eE ▸ hD1) hS1 hl
theorem cv_obj {q : Nat} (hlk : Cond.methodLink M.1.cls idx objectInit ∈ ct_tbl) (hd : decode M.2.1 pc = .ok (.invokespecial idx, 3)) (hr : 1 ≤ r.1) (hsz : ct_sz st ≤ 8)
    (k : CV M r n0 z (pc + 3) ls st w Q) : CV M r n0 z pc ls (vR q :: st) w Q := by
  intro p l e s m args below meth c D kA as0 as A H locs la hc ha hP hD hS hl
  have hts := hc.2.2.2.2.2.1
  exact W.objInit hc.1 hc.2.1 hc.2.2.2.2.1 (hts _ hlk) (hts _ kw_objI) (hts _ kw_objC) rfl (hl.1.trans hc.2.2.2.1.symm) rfl hd hr (by show 2 * 0 + _ + 12 ≤ _; rw [ct_sz_eq]; have := ct_rmL (k := 12) hr hsz (by decide); omega) (k p l e s m args below meth c D kA as0 as A H locs la hc ha hP hD hS hl)
end CVN
section CVJ
variable {M : ct_M} {r : Nat × Nat × Nat} {n0 : Nat} {z : Nat × Nat} {pc : Nat} {ls : List (Nat × ct_V)} {st : List ct_V} {w : List ct_C} {Q : Option ct_V → List ct_C → Prop}
/-- the same with the index as a place -/
theorem cv_ialj {q n : Nat} {f : Nat → Int} {i : Int} (j : Nat) (hd : decode M.2.1 pc = .ok (.iaload, 1)) (hw : w[q]? = some (cA 0 n f)) (hj : i = (j : Int)) (hi : j < n ∧ n ≤ 2147483647)
    (kk : CV M r n0 z (pc + 1) ls (vI (f j) :: st) w Q) : CV M r n0 z pc ls (vI i :: vR q :: st) w Q := by
  subst hj
  exact cv_iald hd hw ⟨by omega, by omega, by omega⟩ kk
theorem cv_zalj {q n : Nat} {f : Nat → Int} {i : Int} (j : Nat) (hd : decode M.2.1 pc = .ok (.baload, 1)) (hw : w[q]? = some (cA 1 n f)) (hj : i = (j : Int)) (hi : j < n ∧ n ≤ 2147483647)
    (kk : CV M r n0 z (pc + 1) ls (vI (f j) :: st) w Q) : CV M r n0 z pc ls (vI i :: vR q :: st) w Q := by
  subst hj
  exact cv_zald hd hw ⟨by omega, by omega, by omega⟩ kk
theorem cv_iasj {q n : Nat} {f : Nat → Int} {i x : Int} (j : Nat) (hd : decode M.2.1 pc = .ok (.iastore, 1)) (hw : w[q]? = some (cA 0 n f)) (hj : i = (j : Int)) (hi : j < n ∧ n ≤ 2147483647)
    (kk : CV M r n0 z (pc + 1) ls st (w.set q (cA 0 n (ct_up f j x))) Q) : CV M r n0 z pc ls (vI x :: vI i :: vR q :: st) w Q := by
  subst hj
  exact cv_iast hd hw ⟨by omega, by omega, by omega⟩ kk
theorem cv_zasj {q n : Nat} {f : Nat → Int} {i x : Int} (j : Nat) (hd : decode M.2.1 pc = .ok (.bastore, 1)) (hw : w[q]? = some (cA 1 n f)) (hj : i = (j : Int)) (hi : j < n ∧ n ≤ 2147483647) (hx : x = 0 ∨ x = 1)
    (kk : CV M r n0 z (pc + 1) ls st (w.set q (cA 1 n (ct_up f j x))) Q) : CV M r n0 z pc ls (vI x :: vI i :: vR q :: st) w Q := by
  subst hj
  exact cv_zast hd hw ⟨by omega, by omega, by omega⟩ hx kk
theorem cv_aalj {q t x : Nat} {l0 : List (Option Nat)} {i : Int} (j : Nat) (ht : t = 2 ∨ t = 3) (hd : decode M.2.1 pc = .ok (.aaload, 1)) (hw : w[q]? = some (cQ t l0)) (hj : i = (j : Int)) (hi : j < l0.length ∧ l0.length ≤ 2147483647) (hx : ct_lf l0 j = some x)
    (kk : CV M r n0 z (pc + 1) ls (vR x :: st) w Q) : CV M r n0 z pc ls (vI i :: vR q :: st) w Q := by
  subst hj
  exact cv_aald ht hd hw ⟨by omega, by omega, by omega⟩ hx kk
/-- other words for what stands on the stack, in a local -/
theorem cv_topi {x : Int} (y : Int) (h : x = y) (k : CV M r n0 z pc ls (vI y :: st) w Q) : CV M r n0 z pc ls (vI x :: st) w Q := h ▸ k
theorem cv_eq {ls' : List (Nat × ct_V)} {st' : List ct_V} {w' : List ct_C} (h1 : ls = ls') (h2 : st = st') (h3 : w = w') (k : CV M r n0 z pc ls' st' w' Q) : CV M r n0 z pc ls st w Q := by
  subst h1; subst h2; subst h3
  exact k
end CVJ
