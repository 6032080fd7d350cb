/-! THE LAW: ITS LOOP, ITS START -/
section LWL
variable {p : Program} {l : Launch} {e : Env} {s : State} {m : MethodId} {below : List Frame} {meth : Method} {c : Code} {b L : Nat} {xs : Nat → Int32} {D : va_G} {kA : Nat → ClassId} {z1 z2 : Nat} {as as' : Nat → Nat}
theorem lw_head {H : Heap} {locs : List Loc} {la : Array Slot} {i : Nat} (hC : LX p s m meth c b L xs D kA) (hL : L ≤ 2560) (hi6 : i ≤ 3000) (hz : z1 ≤ 600000 ∧ z2 ≤ 7302250) (hS : va_S (lw_A s) s.heap H locs) (hl : lv_has la 4 [(0, .ref b), (1, .ref (as 165)), (2, .ref (as' 0)), (3, .int (Int32.ofInt (i : Int)))])
    (kk : i + 5 ≤ L → W p l e room_1 s m #[Value.ref b] below meth c H locs z1 z2 (lw_Z below #[Value.ref b] s) (F0 m 26 la [])) : W p l e room_1 s m #[Value.ref b] below meth c H locs z1 z2 (lw_Z below #[Value.ref b] s) (F0 m 18 la []) := by
  refine lv_iload_n hC.1 hC.2.1 dL_law_18 rfl (lv_at hl 3 rfl) ?_
  refine lv_aload_n hC.1 hC.2.1 dL_law_19 rfl (lv_at hl 0 rfl) ?_
  refine va_slen hC.1 hC.2.1 hC.2.2.2.2.2.2.2.2.1 hC.2.2.2.2.2.2.2.2.2.1 (fun q => absurd hC.2.2.2.2.2.2.2.2.2.1 (Nat.not_lt.mpr q)) hS dL_law_20 ?_
  refine lv_iconst (v := Int32.ofInt 5) hC.1 hC.2.1 dL_law_21 rfl ?_
  refine lv_isub hC.1 hC.2.1 dL_law_22 ?_
  rw [show Int32.ofNat L = Int32.ofInt (L : Int) from rfl, ← Int32.ofInt_sub]
  refine lv_icmp_gt (tgt := 872) hC.1 hC.2.1 dL_law_23 (by decide) (fun q => ?_) (fun q => ?_)
  · refine lv_iconst (v := 1) hC.1 hC.2.1 dL_law_872 (by decide) ?_
    refine va_forget (fun q hq => hS.2.2 q hq) ?_
    refine W.widen (k := 600000) (n := 7302250) hz.1 hz.2 ?_
    exact lw_ret hC.1 hC.2.1 hC.2.2.1 hC.2.2.2.2.2.2.2.2.2.2.1 dL_law_873
  · refine kk ?_
    have h1 : ¬ (L : Int) - 5 < (i : Int) := fun h => q ((ct_lt32 (by omega)).mpr h)
    omega
set_option maxHeartbeats 1000000 in
theorem lw_loop (hC : LX p s m meth c b L xs D kA) (hL : L ≤ 2560) (hz : z1 ≤ 600000 ∧ z2 ≤ 7302250) : ∀ (k i : Nat) (H : Heap) (locs : List Loc) (la : Array Slot) (wX w2 : List ct_C), L ≤ i + k → i ≤ 2600 → JI wX w2 → Two D kA s as wX as' w2 H → va_S (lw_A s) s.heap H locs → lv_has la 4 [(0, .ref b), (1, .ref (as 165)), (2, .ref (as' 0)), (3, .int (Int32.ofInt (i : Int)))] → W p l e room_1 s m #[Value.ref b] below meth c H locs z1 z2 (lw_Z below #[Value.ref b] s) (F0 m 18 la []) := by
  intro k
  induction k with
  | zero =>
    intro i H locs la wX w2 hk hi6 hJ h2 hS hl
    exact lw_head (as := as) (as' := as') hC hL (by omega) hz hS hl (fun h => absurd h (by omega))
  | succ k ih =>
    intro i H locs la wX w2 hk hi6 hJ h2 hS hl
    refine lw_head (as := as) (as' := as') hC hL (by omega) hz hS hl (fun h5 => ?_)
    have back : ∀ (w1 w3 : List ct_C) (H1 : Heap) (locs1 : List Loc), JI w1 w3 → Two D kA s as w1 as' w3 H1 → va_S (lw_A s) s.heap H1 locs1 → W p l e room_1 s m #[Value.ref b] below meth c H1 locs1 z1 z2 (lw_Z below #[Value.ref b] s) (F0 m 866 la []) := by
      intro w1 w3 H1 locs1 hJ1 h21 hS1
      refine lv_iinc (v := Int32.ofInt ((i + 5 : Nat) : Int)) (lv' := [(3, .int (Int32.ofInt ((i + 5 : Nat) : Int))), (0, .ref b), (1, .ref (as 165)), (2, .ref (as' 0))]) hC.1 hC.2.1 dL_law_866 hl (k := 3) rfl (by rw [show ((i + 5 : Nat) : Int) = (i : Int) + 5 from rfl, Int32.ofInt_add]) (by decide) rfl (fun la' hl' => ?_)
      refine lv_goto (tgt := 18) hC.1 hC.2.1 dL_law_869 (by decide) ?_
      exact ih (i + 5) H1 locs1 la' w1 w3 (by omega) (by omega) hJ1 h21 hS1 (lv_sub hl' [1, 2, 3, 0] rfl)
    refine lv_aload_n hC.1 hC.2.1 dL_law_26 rfl (lv_at hl 0 rfl) ?_
    refine lv_iload_n hC.1 hC.2.1 dL_law_27 rfl (lv_at hl 3 rfl) ?_
    obtain ⟨g1, g2⟩ := lw_idx (i := i) (show i < L by omega) hL
    refine va_sld hC.1 hC.2.1 hC.2.2.2.2.2.2.2.2.1 hC.2.2.2.2.2.2.2.2.2.1 (fun q => absurd hC.2.2.2.2.2.2.2.2.2.1 (Nat.not_lt.mpr q)) hS g1 dL_law_28 ?_
    refine lv_bipush (v := Int32.ofInt 31) hC.1 hC.2.1 dL_law_29 (by decide) ?_
    refine lv_iand hC.1 hC.2.1 dL_law_31 ?_
    generalize (xs (Int32.ofInt (i : Int)).toNatClampNeg &&& Int32.ofInt 31) = v
    have hv : v.toInt = 0 ∨ v.toInt = 1 ∨ v.toInt = 2 ∨ v.toInt = 3 ∨ v.toInt = 4 ∨ v.toInt = 5 ∨ v.toInt = 6 ∨ v.toInt = 7 ∨ v.toInt = 8 ∨ v.toInt = 9 ∨ v.toInt = 10 ∨ v.toInt = 11 ∨ v.toInt = 12 ∨ v.toInt = 13 ∨ v.toInt = 14 ∨ v.toInt = 15 ∨ v.toInt = 16 ∨ v.toInt = 17 ∨ v.toInt = 18 ∨ v.toInt = 19 ∨ v.toInt = 20 ∨ v.toInt = 21 ∨ v.toInt = 22 ∨ v.toInt = 23 ∨ v.toInt = 24 ∨ (v.toInt < 0 ∨ 24 < v.toInt) := by omega
    rcases hv with sw | sw | sw | sw | sw | sw | sw | sw | sw | sw | sw | sw | sw | sw | sw | sw | sw | sw | sw | sw | sw | sw | sw | sw | sw | sw
    · refine lv_tableIn (tgt := 148) hC.1 hC.2.1 dL_law_32 (by omega) (by omega) (by rw [sw]; rfl) (by decide) ?_
      exact lc_write hC hL (by omega) hz hJ h2 hS hl back
    · refine lv_tableIn (tgt := 171) hC.1 hC.2.1 dL_law_32 (by omega) (by omega) (by rw [sw]; rfl) (by decide) ?_
      exact lc_wipe hC hL (by omega) hz hJ h2 hS hl back
    · refine lv_tableIn (tgt := 184) hC.1 hC.2.1 dL_law_32 (by omega) (by omega) (by rw [sw]; rfl) (by decide) ?_
      exact lc_fault hC hL (by omega) hz hJ h2 hS hl back
    · refine lv_tableIn (tgt := 197) hC.1 hC.2.1 dL_law_32 (by omega) (by omega) (by rw [sw]; rfl) (by decide) ?_
      exact lc_task hC hL (by omega) hz hJ h2 hS hl back
    · refine lv_tableIn (tgt := 210) hC.1 hC.2.1 dL_law_32 (by omega) (by omega) (by rw [sw]; rfl) (by decide) ?_
      exact lc_about hC hL (by omega) hz hJ h2 hS hl back
    · refine lv_tableIn (tgt := 233) hC.1 hC.2.1 dL_law_32 (by omega) (by omega) (by rw [sw]; rfl) (by decide) ?_
      exact lc_number hC hL (by omega) hz hJ h2 hS hl back
    · refine lv_tableIn (tgt := 266) hC.1 hC.2.1 dL_law_32 (by omega) (by omega) (by rw [sw]; rfl) (by decide) ?_
      exact lc_rule hC hL (by omega) hz hJ h2 hS hl back
    · refine lv_tableIn (tgt := 299) hC.1 hC.2.1 dL_law_32 (by omega) (by omega) (by rw [sw]; rfl) (by decide) ?_
      exact lc_mark hC hL (by omega) hz hJ h2 hS hl back
    · refine lv_tableIn (tgt := 332) hC.1 hC.2.1 dL_law_32 (by omega) (by omega) (by rw [sw]; rfl) (by decide) ?_
      exact lc_cut hC hL (by omega) hz hJ h2 hS hl back
    · refine lv_tableIn (tgt := 365) hC.1 hC.2.1 dL_law_32 (by omega) (by omega) (by rw [sw]; rfl) (by decide) ?_
      exact lc_follows hC hL (by omega) hz hJ h2 hS hl back
    · refine lv_tableIn (tgt := 388) hC.1 hC.2.1 dL_law_32 (by omega) (by omega) (by rw [sw]; rfl) (by decide) ?_
      exact lc_make hC hL (by omega) hz hJ h2 hS hl back
    · refine lv_tableIn (tgt := 431) hC.1 hC.2.1 dL_law_32 (by omega) (by omega) (by rw [sw]; rfl) (by decide) ?_
      exact lc_learn hC hL (by omega) hz hJ h2 hS hl back
    · refine lv_tableIn (tgt := 444) hC.1 hC.2.1 dL_law_32 (by omega) (by omega) (by rw [sw]; rfl) (by decide) ?_
      exact lc_leave hC hL (by omega) hz hJ h2 hS hl back
    · refine lv_tableIn (tgt := 457) hC.1 hC.2.1 dL_law_32 (by omega) (by omega) (by rw [sw]; rfl) (by decide) ?_
      exact lc_run hC hL (by omega) hz hJ h2 hS hl back
    · refine lv_tableIn (tgt := 480) hC.1 hC.2.1 dL_law_32 (by omega) (by omega) (by rw [sw]; rfl) (by decide) ?_
      exact lc_undo hC hL (by omega) hz hJ h2 hS hl back
    · refine lv_tableIn (tgt := 493) hC.1 hC.2.1 dL_law_32 (by omega) (by omega) (by rw [sw]; rfl) (by decide) ?_
      exact lc_judge hC hL (by omega) hz hJ h2 hS hl back
    · refine lv_tableIn (tgt := 556) hC.1 hC.2.1 dL_law_32 (by omega) (by omega) (by rw [sw]; rfl) (by decide) ?_
      exact lc_see hC hL (by omega) hz hJ h2 hS hl back
    · refine lv_tableIn (tgt := 609) hC.1 hC.2.1 dL_law_32 (by omega) (by omega) (by rw [sw]; rfl) (by decide) ?_
      exact lc_unsee hC hL (by omega) hz hJ h2 hS hl back
    · refine lv_tableIn (tgt := 622) hC.1 hC.2.1 dL_law_32 (by omega) (by omega) (by rw [sw]; rfl) (by decide) ?_
      exact lc_which hC hL (by omega) hz hJ h2 hS hl back
    · refine lv_tableIn (tgt := 635) hC.1 hC.2.1 dL_law_32 (by omega) (by omega) (by rw [sw]; rfl) (by decide) ?_
      exact lc_share hC hL (by omega) hz hJ h2 hS hl back
    · refine lv_tableIn (tgt := 684) hC.1 hC.2.1 dL_law_32 (by omega) (by omega) (by rw [sw]; rfl) (by decide) ?_
      exact lc_chance hC hL (by omega) hz hJ h2 hS hl back
    · refine lv_tableIn (tgt := 743) hC.1 hC.2.1 dL_law_32 (by omega) (by omega) (by rw [sw]; rfl) (by decide) ?_
      exact lc_seed hC hL (by omega) hz hJ h2 hS hl back
    · refine lv_tableIn (tgt := 797) hC.1 hC.2.1 dL_law_32 (by omega) (by omega) (by rw [sw]; rfl) (by decide) ?_
      exact lc_drawn hC hL (by omega) hz hJ h2 hS hl back
    · refine lv_tableIn (tgt := 820) hC.1 hC.2.1 dL_law_32 (by omega) (by omega) (by rw [sw]; rfl) (by decide) ?_
      exact lc_keep hC hL (by omega) hz hJ h2 hS hl back
    · refine lv_tableIn (tgt := 843) hC.1 hC.2.1 dL_law_32 (by omega) (by omega) (by rw [sw]; rfl) (by decide) ?_
      exact lc_again hC hL (by omega) hz hJ h2 hS hl back
    · refine lv_tableOut (tgt := 866) hC.1 hC.2.1 dL_law_32 (by omega) (by decide) ?_
      exact back _ _ _ _ hJ h2 hS
end LWL
set_option maxRecDepth 100000 in
set_option maxHeartbeats 2000000 in
/-- from the entry, for every script of at most 2560 ints, the law comes to its end with true -/
theorem whole_start {p : Program} {e : Env} {s : State} {m : MethodId} {below : List Frame} {meth : Method} {c : Code} (l : Launch) (hflags : l.flags = flags0) {b L : Nat} {xs : Nat → Int32} (hL : L ≤ 2560) (C0 : lw_At p s m meth c b L xs) : W p l e room_1 s m #[Value.ref b] below meth c s.heap [] 0 0 (lw_Z below #[Value.ref b] s) (entryFrame m ([Value.ref b] : List Value).toArray 4) := by
  obtain ⟨D, kA, hC⟩ := lx_of C0
  have hl := lv_entry ([.ref b]) (n := 4) (Nat.le_of_ble_eq_true rfl)
  rw [lg_entry_eq]
  generalize (lg_sl ([.ref b]) ++ List.replicate (4 - (lg_sl ([.ref b])).length) Slot.unset).toArray = la at hl ⊢
  have hl : lv_has la 4 [(0, .ref b)] := hl
  refine lw_new (ci := 11) (as' := fun _ => 0) (wd := []) [vO none, vO none, vO none, vO none, vO none, vO none, vO none, vO none, vO none, vO none, vL 0] hC clX11 ckL_7 ikX11 lkX11_init.1 dL_law_0 (by intro as j hj; rcases (show j = 0 ∨ j = 1 ∨ j = 2 ∨ j = 3 ∨ j = 4 ∨ j = 5 ∨ j = 6 ∨ j = 7 ∨ j = 8 ∨ j = 9 ∨ j = 10 by omega) with rfl | rfl | rfl | rfl | rfl | rfl | rfl | rfl | rfl | rfl | rfl <;> rfl) rfl ⟨by decide, by decide⟩ (fun k q h => by cases h) ⟨fun i j x y h => (by cases h), fun k q h => (by cases h)⟩ va_S.rf (fun q H1 h2 hS => ?_)
  refine lv_dup hC.1 hC.2.1 dL_law_3 rfl ?_
  refine lw_make (rest := [.ref q]) hC c_X11_init lkX11_init rfl rfl mlL_9 dL_law_4 (by decide) hl.1 (Nat.le_of_ble_eq_true rfl) ⟨Nat.le_of_ble_eq_true rfl, Nat.le_of_ble_eq_true rfl⟩ (fun v w1 h => ⟨h.1, by rw [h.2]; exact Nat.le_of_ble_eq_true rfl⟩) h2 hS (fun w1 asC H2 locs2 hq ha0 h2 hS => ?_)
  obtain ⟨-, rfl⟩ := hq
  have hX : va_P D vwCl (ct_wd kA (fun i => asC (ct_pl pm i)) wT0) H2 := ct_subP pm_sub h2.1
  have hXD : va_D (lw_A s) (ct_wd kA (fun i => asC (ct_pl pm i)) wT0) := ct_subD pm_sub pm_nd h2.2.2.1
  have e165 : asC (ct_pl pm 165) = q := by rw [show ct_pl pm 165 = 0 by decide +kernel]; exact ha0
  refine lv_astore_n (lv' := [(1, .ref q), (0, .ref b)]) hC.1 hC.2.1 dL_law_7 rfl hl (by decide) rfl (fun la hl => ?_)
  refine lw_new (ci := 12) (as' := fun i => asC (ct_pl pm i)) (wd := wT0) [vO none, vI 0, vI 0, vO none, vI 0, vO none, vO none, vO none, vO none, vO none, vI 0, vI 0, vO none, vO none, vO none, vO none, vI 0, vL 0, vI 0, vI 0, vO none, vO none, vO none, vO none, vI 0, vO none, vI 0, vO none, vO none, vI 0, vI 0] hC clX12 ckL_10 ikX12 lkX12_init.1 dL_law_8 (by intro as j hj; rcases (show j = 0 ∨ j = 1 ∨ j = 2 ∨ j = 3 ∨ j = 4 ∨ j = 5 ∨ j = 6 ∨ j = 7 ∨ j = 8 ∨ j = 9 ∨ j = 10 ∨ j = 11 ∨ j = 12 ∨ j = 13 ∨ j = 14 ∨ j = 15 ∨ j = 16 ∨ j = 17 ∨ j = 18 ∨ j = 19 ∨ j = 20 ∨ j = 21 ∨ j = 22 ∨ j = 23 ∨ j = 24 ∨ j = 25 ∨ j = 26 ∨ j = 27 ∨ j = 28 ∨ j = 29 ∨ j = 30 by omega) with rfl | rfl | rfl | rfl | rfl | rfl | rfl | rfl | rfl | rfl | rfl | rfl | rfl | rfl | rfl | rfl | rfl | rfl | rfl | rfl | rfl | rfl | rfl | rfl | rfl | rfl | rfl | rfl | rfl | rfl | rfl <;> rfl) rfl ⟨Nat.le_of_ble_eq_true rfl, Nat.le_of_ble_eq_true rfl⟩ hX hXD hS (fun q2 H3 h3 hS => ?_)
  refine lv_dup hC.1 hC.2.1 dL_law_11 rfl ?_
  refine lw_make (rest := [.ref q2]) hC c_X12_init lkX12_init rfl rfl mlL_12 dL_law_12 (by decide) hl.1 (Nat.le_of_ble_eq_true rfl) ⟨Nat.le_of_ble_eq_true rfl, Nat.le_of_ble_eq_true rfl⟩ (fun v w1 h => ⟨h.1, by rw [h.2]; exact Nat.le_of_ble_eq_true rfl⟩) h3 hS (fun w1 asM H4 locs4 hq ha1 h3 hS => ?_)
  obtain ⟨-, rfl⟩ := hq
  refine lv_astore_n (lv' := [(2, .ref q2), (1, .ref q), (0, .ref b)]) hC.1 hC.2.1 dL_law_15 rfl hl (by decide) rfl (fun la hl => ?_)
  refine lv_iconst (v := Int32.ofInt ((0 : Nat) : Int)) hC.1 hC.2.1 dL_law_16 (by decide) ?_
  refine lv_istore_n (lv' := [(3, .int (Int32.ofInt ((0 : Nat) : Int))), (2, .ref q2), (1, .ref q), (0, .ref b)]) hC.1 hC.2.1 dL_law_17 rfl hl (by decide) rfl (fun la hl => ?_)
  have hl' : lv_has la 4 [(0, .ref b), (1, .ref q), (2, .ref q2), (3, .int (Int32.ofInt ((0 : Nat) : Int)))] := lv_sub hl [3, 2, 1, 0] rfl
  rw [← e165, ← ha1] at hl'
  exact lw_loop (as := fun i => asC (ct_pl pm i)) (as' := asM) hC hL ⟨Nat.le_of_ble_eq_true rfl, Nat.le_of_ble_eq_true rfl⟩ L 0 H4 locs4 la wT0 _ (by omega) (by omega) JI0 h3.sw hS hl'
