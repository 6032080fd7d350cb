/-! THE LAW'S OWN FACTS -/
theorem lw_in {w : Cond} (i : Nat) (h : tables_1[i]? = some w) : w ∈ lw_tbl := List.mem_append_right _ (List.mem_of_getElem? h)
theorem lx_of {p : Program} {s : State} {m : MethodId} {meth : Method} {c : Code} {b L : Nat} {xs : Nat → Int32} (C0 : lw_At p s m meth c b L xs) : ∃ (D : va_G) (kA : Nat → ClassId), LX p s m meth c b L xs D kA := by
  obtain ⟨hx, hb, hr, hml, hown, hts, hX, hbl, hlocks, hgv⟩ := C0
  have htb : ∀ w ∈ ct_tbl, w.before #[Value.ref b] s = true := fun w hw => hts w (List.mem_filter.mp hw).1
  have hao : va_AO "CutTrail$State" s := va_AO.of (hts (Cond.arrayOver (.object "CutTrail$State")) (lw_in 209 (by decide +kernel)))
  have haa : (Cond.arrayOver (.array .int)).before #[Value.ref b] s = true := hts (Cond.arrayOver (.array .int)) (lw_in 32 (by decide +kernel))
  have hN : ct_nw s := ⟨fun w hw => va_tabs (by
      have h2 := (List.mem_filter.mp hw).2
      cases w <;> first | (simp [ct_isN] at h2; done) | rfl) rfl (hts w (List.mem_filter.mp hw).1), hao, haa⟩
  have hk : ∀ k : Nat, ∃ (cC : ClassId) (iS : Nat → Nat), ∀ q : vw_C, vwCl[k]? = some q → u_Kn s q.1 q.2.1 q.2.2 cC iS := by
    have one : ∀ {C : String} {T : u_T} {N : Nat} {ty : Nat → FieldType} {ci : Nat}, ct_cl ci C T N ty → Cond.instantiable C N ∈ ct_tbl → ∀ k : Nat, vwCl[k]? = some ((C, T, N) : vw_C) → ∃ (cC : ClassId) (iS : Nat → Nat), ∀ q : vw_C, vwCl[k]? = some q → u_Kn s q.1 q.2.1 q.2.2 cC iS := fun hcl hi k hk => by
      obtain ⟨c0, i0, h0⟩ := u_known htb hcl.2.1 (htb _ hi)
      refine ⟨c0, i0, fun q hq => ?_⟩
      rw [hk] at hq
      cases hq
      exact h0
    intro k
    by_cases hk13 : k < 13
    · rcases (show k = 0 ∨ k = 1 ∨ k = 2 ∨ k = 3 ∨ k = 4 ∨ k = 5 ∨ k = 6 ∨ k = 7 ∨ k = 8 ∨ k = 9 ∨ k = 10 ∨ k = 11 ∨ k = 12 by omega) with rfl | rfl | rfl | rfl | rfl | rfl | rfl | rfl | rfl | rfl | rfl | rfl | rfl
      · exact one clX0 ikX0 0 rfl
      · exact one clX1 ikX1 1 rfl
      · exact one clX2 ikX2 2 rfl
      · exact one clX3 ikX3 3 rfl
      · exact one clX4 ikX4 4 rfl
      · exact one clX5 ikX5 5 rfl
      · exact one clX6 ikX6 6 rfl
      · exact one clX7 ikX7 7 rfl
      · exact one clX8 ikX8 8 rfl
      · exact one clX9 ikX9 9 rfl
      · exact one clX10 ikX10 10 rfl
      · exact one clX11 ikX11 11 rfl
      · exact one clX12 ikX12 12 rfl
    · obtain ⟨c0, i0, -⟩ := one clX0 ikX0 0 rfl
      exact ⟨c0, i0, fun q hq => by rw [List.getElem?_eq_none (by show 13 ≤ k; omega)] at hq; cases hq⟩
  obtain ⟨a0, k0', p0, i1, i2, i3⟩ := Cond.arrayClass_spec (htb _ kw_acI)
  obtain ⟨a1, k1', p1, z1, z2, z3⟩ := Cond.arrayClass_spec (htb _ kw_acZ)
  obtain ⟨p2, a2, k2', s1, -, s3, s4, s5⟩ := Cond.arrayOver_spec (va_AO.use (A := #[Value.ref b]) hao)
  obtain ⟨p3, a3, k3', r1, r2, r3, r4⟩ := mu_over haa
  refine ⟨((fun k => (hk k).choose), (fun k => (hk k).choose_spec.choose)), (fun i => match i with | 0 => a0 | 1 => a1 | 2 => a2 | _ => a3), hx, hb, hr, hml, hown, htb, hN, ⟨fun k q hq => (hk k).choose_spec.choose_spec q hq, fun k q hq => ?_⟩, hX, hbl, hlocks, ?_⟩
  · have hk4 : k < 4 := (List.getElem?_eq_some_iff.mp hq).1
    rcases (show k = 0 ∨ k = 1 ∨ k = 2 ∨ k = 3 by omega) with rfl | rfl | rfl | rfl
    · cases hq; exact ⟨fun N z => ⟨(fun k h => by cases h), k0', i2, p0, i3⟩, i1⟩
    · cases hq; exact ⟨fun N z => ⟨(fun k h => by cases h), k1', z2, p1, z3⟩, z1⟩
    · cases hq; exact ⟨fun N z => ⟨(fun k h => by cases h), k2', s3, p2, s4⟩, k2', p2, s3, s4, s1, s5⟩
    · cases hq; exact ⟨fun N z => ⟨(fun k h => by cases h), k3', r2, p3, r3⟩, r4⟩
  · have hs := flat_of_before _ hgv
    have hA : ∀ a : Nat, a < s.heap.size → ¬ lw_A s a := fun a ha h => absurd ha (Nat.not_lt.mpr h)
    obtain ⟨t, ht, hT⟩ := va_Tof (args := #[Value.ref b]) (s := s) (tm := .static "CutTrail" "ORDERS" "[I") (ty := .int) (N := 7) (f := ct_ord) (A := lw_A s) (by decide) (hs (Cond.arrayOf (.static "CutTrail" "ORDERS" "[I") .int) (by decide +kernel)) (va_eqt (hs (Cond.eq (.length (.static "CutTrail" "ORDERS" "[I")) (.int 7)) (by decide +kernel))) (fun j hj => by
      rcases (show j = 0 ∨ j = 1 ∨ j = 2 ∨ j = 3 ∨ j = 4 ∨ j = 5 ∨ j = 6 by omega) with rfl | rfl | rfl | rfl | rfl | rfl | rfl
      · exact va_eqt (hs (Cond.eq (.elem (.static "CutTrail" "ORDERS" "[I") (.int 0)) (.int 1)) (by decide +kernel))
      · exact va_eqt (hs (Cond.eq (.elem (.static "CutTrail" "ORDERS" "[I") (.int 1)) (.int 1)) (by decide +kernel))
      · exact va_eqt (hs (Cond.eq (.elem (.static "CutTrail" "ORDERS" "[I") (.int 2)) (.int 2)) (by decide +kernel))
      · exact va_eqt (hs (Cond.eq (.elem (.static "CutTrail" "ORDERS" "[I") (.int 3)) (.int 6)) (by decide +kernel))
      · exact va_eqt (hs (Cond.eq (.elem (.static "CutTrail" "ORDERS" "[I") (.int 4)) (.int 24)) (by decide +kernel))
      · exact va_eqt (hs (Cond.eq (.elem (.static "CutTrail" "ORDERS" "[I") (.int 5)) (.int 120)) (by decide +kernel))
      · exact va_eqt (hs (Cond.eq (.elem (.static "CutTrail" "ORDERS" "[I") (.int 6)) (.int 720)) (by decide +kernel))) hA
    exact ⟨t, va_Zref (args := #[Value.ref b]) (hts (Cond.laysStatic "CutTrail" "ORDERS" "[I") (lw_in 749 (by decide +kernel))) (htb _ lkX11_init.1) ht hA, hT⟩
section LWS
variable {p : Program} {l : Launch} {e : Env} {s : State} {m : MethodId} {below : List Frame} {meth : Method} {c : Code} {b L : Nat} {xs : Nat → Int32} {D : va_G} {kA : Nat → ClassId} {H : Heap} {locs : List Loc} {z1 z2 : Nat} {Z : State → Prop} {la : Array Slot} {rest : List Value} {pc : Nat}
theorem lw_idx {i L : Nat} (h : i < L) (hL : L ≤ 2560) : vp_in (Int32.ofInt (i : Int)) L ∧ (Int32.ofInt (i : Int)).toNatClampNeg = i := by
  have h1 : (Int32.ofInt (i : Int)).toInt = (i : Int) := ct_t32 (by omega) (by omega)
  have h2 : (Int32.ofInt (i : Int)).toNatClampNeg = i := by
    show (Int32.ofInt (i : Int)).toInt.toNat = i
    rw [h1, Int.toNat_natCast]
  refine ⟨fun q => ?_, h2⟩
  rcases q with q | q
  · rw [Int32.lt_iff_toInt_lt, h1] at q
    have : (0 : Int32).toInt = 0 := rfl
    omega
  · rw [h2] at q; omega
theorem lw_scr {i : Nat} {k : Int} {k' : Nat} {v1 v2 : Value} (hC : LX p s m meth c b L xs D kA) (hL : L ≤ 2560) (hS : va_S (lw_A s) s.heap H locs) (hl : lv_has la 4 [(0, .ref b), (1, v1), (2, v2), (3, .int (Int32.ofInt (i : Int)))]) (hk : k = (k' : Int)) (hi : i + k' < L) (d0 : decode code pc = .ok (.aload_n 0, 1)) (d1 : decode code (pc + 1) = .ok (.iload_n 3, 1)) (d2 : decode code (pc + 2) = .ok (.iconst k, 1)) (d3 : decode code (pc + 3) = .ok (.iadd, 1)) (d4 : decode code (pc + 4) = .ok (.iaload, 1))
    (kk : W p l e room_1 s m #[Value.ref b] below meth c H locs z1 z2 Z (F0 m (pc + 5) la (.int (Int32.ofInt (xs (i + k')).toInt) :: rest))) : W p l e room_1 s m #[Value.ref b] below meth c H locs z1 z2 Z (F0 m pc la rest) := by
  refine lv_aload_n hC.1 hC.2.1 d0 rfl (lv_at hl 0 rfl) ?_
  refine lv_iload_n hC.1 hC.2.1 d1 rfl (lv_at hl 3 rfl) ?_
  refine lv_iconst hC.1 hC.2.1 d2 rfl ?_
  refine lv_iadd hC.1 hC.2.1 d3 ?_
  rw [← Int32.ofInt_add, hk, show (i : Int) + (k' : Int) = ((i + k' : Nat) : Int) by omega]
  obtain ⟨h1, h2⟩ := lw_idx hi hL
  refine va_sld hC.1 hC.2.1 hC.2.2.2.2.2.2.2.2.1 hC.2.2.2.2.2.2.2.2.2.1 (fun q => absurd hC.2.2.2.2.2.2.2.2.2.1 (Nat.not_lt.mpr q)) hS h1 d4 ?_
  rw [h2]
  rw [Int32.ofInt_toInt] at kk
  exact kk
end LWS
theorem lw_r32 (x : Int32) : -2147483648 ≤ x.toInt ∧ x.toInt ≤ 2147483647 := by
  have h1 := Int32.le_toInt x
  have h2 := Int32.toInt_lt x
  omega
theorem lw_r64 (x : Int64) : -9223372036854775808 ≤ x.toInt ∧ x.toInt ≤ 9223372036854775807 := by
  have h1 := Int64.le_toInt x
  have h2 := Int64.toInt_lt x
  omega
