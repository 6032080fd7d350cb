/-! methods of java.lang.Math that are run as they are written; Math.floorDiv -/
theorem ct_MetF {l : Launch} {y : MethodName} {ws ws' : List Cond} {rm : Room} {Pc : Array Value → State → Prop} {Qc : Array Value → State → Outcome → State → Prop} {mc ms : Nat} {free : Addr → Prop} {cc : ByteArray} {maxL : Nat} {ret : Option FieldType}
    (hy : plainFor y = true) (hw : ws = Cond.code y cc maxL ret :: ws')
    (body : ∀ p e s m args below meth c s₁, BodyLoose p l y (headSpec ws rm) cc maxL ret e s m args below meth c s₁ → c.maxLocals = maxL → Pc args s →
      W p l e (headSpec ws rm).room s m args below meth c s.heap [] 0 0 (MQ below Qc args s mc ms free) (entryFrame m args maxL)) : Met l y ws rm Pc Qc mc ms free := by
  refine MetFree.of_bodySF (code := cc) (maxLocals := maxL) (ret := ret) hy ?_ ?_
  · intro args s m h hn
    obtain ⟨meth, c, h1, h2, h3, h4, h5, h6, -, -⟩ := Cond.code_spec hn (atoms_spec (ws := ws) h _ (by rw [hw]; exact List.mem_cons_self))
    exact ⟨meth, c, h1, h2, h3, h4, h5, h6⟩
  · intro p e s m args below meth c s₁ B hml hP _
    have hh0 : s₁.heap = s.heap := by rw [B.state]; rfl
    obtain ⟨t, a1, o, b1, b2, b3⟩ := body p e s m args below meth c s₁ B hml hP s₁ hh0 (Stand.of_body B)
    exact ⟨t, o, a1, b1, b2, ⟨b3.1, b3.2⟩⟩
theorem CM.ofF {M : ct_M} {r : Nat × Nat × Nat} {av : List ct_V} {w : List ct_C} {Q : Option ct_V → List ct_C → Prop} (hy : plainFor M.1 = true) (hn : ct_alen av ≤ M.2.2.1)
    (k : CV M r w.length (0, 0) 0 (ct_args 0 av) [] w Q) : CM M r av w Q := by
  intro l D kA as sz
  refine ct_MetF (cc := M.2.1) (maxL := M.2.2.1) (ret := M.2.2.2) hy rfl ?_
  intro p e s m args below meth c s₁ B hml hv
  obtain ⟨rfl, hsz, hP, hK, hN, hT, hD0⟩ := hv
  subst hsz
  have hts := atoms_spec (ws := ct_ws M) B.pre
  have hown : s.vm.findClass M.1.cls = some m.cls := findClass_of_methodNamed B.named
  have hnm : meth.name = M.1.name := (name_of_methodNamed B.named B.method).1
  have hl := lv_entry (av.map (ct_tv as)) (n := M.2.2.1) (by rw [ct_alen_eq]; exact hn)
  rw [ct_args_eq] at hl
  rw [lg_entry_eq]
  exact k p l e s m _ below meth c D kA as as (va_A (ct_wd kA as w) s.heap.size) s.heap [] _ ⟨B.exec, B.bytes, B.returns, hml, hown, fun w hw => hts w (List.mem_cons_of_mem _ hw), hN, hK, fun q h => Or.inr h, B.notSynchronized, hT, hnm⟩ (fun _ _ => rfl) hP hD0.self va_S.rf hl
/-- the sign of an exclusive or -/
theorem cv_ixorS {M : ct_M} {r : Nat × Nat × Nat} {n0 : Nat} {z : Nat × Nat} {pc : Nat} {ls : List (Nat × ct_V)} {st : List ct_V} {w : List ct_C} {Q : Option ct_V → List ct_C → Prop} {x y : Int} (hd : decode M.2.1 pc = .ok (.ixor, 1)) (h : -2147483648 ≤ x ∧ x ≤ 2147483647 ∧ -2147483648 ≤ y ∧ y ≤ 2147483647)
    (k : ∀ v : Int, -2147483648 ≤ v → v ≤ 2147483647 → (v < 0 ↔ ¬ (x < 0 ↔ y < 0)) → CV M r n0 z (pc + 1) ls (vI v :: st) w Q) : CV M r n0 z pc ls (vI y :: vI x :: st) w Q := by
  intro p l e s m args below meth c D kA as0 as A H locs la hc ha hP hD hS hl
  refine lv_ixor hc.1 hc.2.1 hd ?_
  have key : ∀ a : Int32, a.toInt < 0 ↔ a.toBitVec.msb = true := fun a => by
    rw [show a.toInt = a.toBitVec.toInt from rfl, BitVec.msb_eq_toInt]
    simp
  have hx := key (Int32.ofInt x)
  have hy := key (Int32.ofInt y)
  rw [ct_t32 h.1 h.2.1] at hx
  rw [ct_t32 h.2.2.1 h.2.2.2] at hy
  have hv := key (Int32.ofInt x ^^^ Int32.ofInt y)
  rw [Int32.toBitVec_xor, BitVec.msb_xor] at hv
  have hs : (Int32.ofInt x ^^^ Int32.ofInt y).toInt < 0 ↔ ¬ (x < 0 ↔ y < 0) := by
    rw [hv, hx, hy]
    cases (Int32.ofInt x).toBitVec.msb <;> cases (Int32.ofInt y).toBitVec.msb <;> simp
  have h1 : -2147483648 ≤ (Int32.ofInt x ^^^ Int32.ofInt y).toInt := Int32.le_toInt _
  have h2 : (Int32.ofInt x ^^^ Int32.ofInt y).toInt < 2147483648 := Int32.toInt_lt _
  have eE : Int32.ofInt x ^^^ Int32.ofInt y = Int32.ofInt (Int32.ofInt x ^^^ Int32.ofInt y).toInt := (Int32.ofInt_toInt _).symm
  rw [eE]
  exact k _ h1 (by omega) hs p l e s m args below meth c D kA as0 as A H locs la hc ha hP hD hS hl
theorem ct_flr {x y : Int} (hy : 0 < y) : (0 ≤ x → x.tdiv y = x / y) ∧ (x < 0 → x.tdiv y * y = x → x.tdiv y = x / y) ∧ (x < 0 → ¬ x.tdiv y * y = x → x.tdiv y - 1 = x / y) := by
  refine ⟨fun h => Int.tdiv_eq_ediv_of_nonneg h, fun h h2 => ?_, fun h h2 => ?_⟩
  · have e : x / y = x.tdiv y := by
      rw [Int.ediv_eq_iff_of_pos hy]
      have : y * x.tdiv y = x := by rw [Int.mul_comm]; exact h2
      constructor
      · rw [h2]; exact Int.le_refl _
      · rw [h2]; omega
    exact e.symm
  · have e := Int.tdiv_eq_ediv (a := x) (b := y)
    by_cases hd : y ∣ x
    · rw [if_pos (Or.inr hd)] at e
      exact absurd (by rw [e, Int.add_zero]; exact Int.ediv_mul_cancel hd) h2
    · rw [if_neg (fun h3 => h3.elim (fun h4 => by omega) hd), Int.sign_eq_one_of_pos hy] at e
      omega
set_option maxRecDepth 100000 in
set_option maxHeartbeats 1000000 in
theorem c_floorDiv (w : List ct_C) (x y : Int) (hx : -1000000 ≤ x ∧ x ≤ 1000000) (hy : 0 < y ∧ y ≤ 1000) : CM MJ9_floorDiv_7cf53 (0, 0, 0) [vI x, vI y] (w) (fun v w1 => v = some (vI (x / y)) ∧ w1 = w) := by
  refine CM.ofF (by decide +kernel) (Nat.le_of_ble_eq_true rfl) ?_
  show CV MJ9_floorDiv_7cf53 (0, 0, 0) w.length (0, 0) 0 [(0, vI x), (1, vI y)] [] (w) _
  obtain ⟨f1, f2, f3⟩ := ct_flr (x := x) hy.1
  have hr : -2000000 ≤ x / y ∧ x / y ≤ 2000000 := by
    have h1 := Int.ediv_mul_le x (show y ≠ 0 by omega)
    have h2 := Int.lt_ediv_add_one_mul_self x hy.1
    refine ⟨?_, ?_⟩
    · rcases Int.lt_or_le (x / y) (-2000000) with q | q
      · have := Int.mul_le_mul_of_nonneg_right (show x / y + 1 ≤ -2000000 by omega) (show 0 ≤ y by omega)
        omega
      · exact q
    · rcases Int.lt_or_le 2000000 (x / y) with q | q
      · have := Int.mul_le_mul_of_nonneg_right (show 2000001 ≤ x / y by omega) (show 0 ≤ y by omega)
        omega
      · exact q
  have htd : x.tdiv y = x / y ∨ x.tdiv y - 1 = x / y := by
    rcases Int.lt_or_le x 0 with q | q
    · by_cases h : x.tdiv y * y = x
      · exact Or.inl (f2 q h)
      · exact Or.inr (f3 q h)
    · exact Or.inl (f1 q)
  have hmul : -2147483648 ≤ x.tdiv y * y ∧ x.tdiv y * y ≤ 2147483647 := by
    have h1 := Int.ediv_mul_le x (show y ≠ 0 by omega)
    have h2 := Int.lt_ediv_add_one_mul_self x hy.1
    rw [Int.add_mul] at h2
    rcases htd with q | q
    · rw [q]; omega
    · rw [show x.tdiv y = x / y + 1 by omega, Int.add_mul]; omega
  refine cv_iload_n dJ9_floorDiv_7cf53_0 rfl ?_
  refine cv_iload_n dJ9_floorDiv_7cf53_1 rfl ?_
  refine cv_idivT dJ9_floorDiv_7cf53_2 (by omega) ?_
  refine cv_istore_n dJ9_floorDiv_7cf53_3 (by decide) rfl rfl ?_
  refine cv_iload_n dJ9_floorDiv_7cf53_4 rfl ?_
  refine cv_iload_n dJ9_floorDiv_7cf53_5 rfl ?_
  refine cv_ixorS dJ9_floorDiv_7cf53_6 (by omega) (fun v v1 v2 v3 => ?_)
  refine cv_if_ge (tgt := 21) dJ9_floorDiv_7cf53_7 (by decide) (by omega) (fun h7 => ?_) (fun h7 => ?_)
  · refine cv_iload_n dJ9_floorDiv_7cf53_21 rfl ?_
    exact cv_iret rfl dJ9_floorDiv_7cf53_22 ⟨Nat.le_refl _, Nat.le_refl _⟩ ⟨ct_rI (f1 (by omega)), rfl⟩
  · refine cv_iload_n dJ9_floorDiv_7cf53_10 rfl ?_
    refine cv_iload_n dJ9_floorDiv_7cf53_11 rfl ?_
    refine cv_imul dJ9_floorDiv_7cf53_12 ?_
    refine cv_iload_n dJ9_floorDiv_7cf53_13 rfl ?_
    refine cv_icmp_eq (tgt := 21) dJ9_floorDiv_7cf53_14 (by decide) (by omega) (fun h14 => ?_) (fun h14 => ?_)
    · refine cv_iload_n dJ9_floorDiv_7cf53_21 rfl ?_
      refine cv_iret rfl dJ9_floorDiv_7cf53_22 ⟨Nat.le_refl _, Nat.le_refl _⟩ ⟨ct_rI (f2 (by omega) h14), rfl⟩
    · refine cv_iload_n dJ9_floorDiv_7cf53_17 rfl ?_
      refine cv_iconst dJ9_floorDiv_7cf53_18 ?_
      refine cv_isub dJ9_floorDiv_7cf53_19 ?_
      refine cv_iret rfl dJ9_floorDiv_7cf53_20 ⟨Nat.le_refl _, Nat.le_refl _⟩ ⟨ct_rI (f3 (by omega) h14), rfl⟩
