/-! bit facts: nx_ and wb_ rows begin as kit/laws/BITS.to-paste has them; ct_ rows are ours -/
theorem nx_and (a b : Nat) : nI a &&& nI b = nI (a &&& b) := by
  apply Int32.toBitVec_inj.1
  show BitVec.ofNat 32 a &&& BitVec.ofNat 32 b = BitVec.ofNat 32 (a &&& b)
  apply BitVec.eq_of_getLsbD_eq
  intro i hi
  simp [hi]
theorem nx_xor (a b : Nat) : nI a ^^^ nI b = nI (a ^^^ b) := by
  apply Int32.toBitVec_inj.1
  show BitVec.ofNat 32 a ^^^ BitVec.ofNat 32 b = BitVec.ofNat 32 (a ^^^ b)
  apply BitVec.eq_of_getLsbD_eq
  intro i hi
  simp [hi]
theorem nx_cnt : ∀ j : Fin 32, (UInt32.ofNat j.val &&& Int32.toUInt32 31).toNat % 32 = j.val := by decide +kernel
theorem wb_tb (n : Nat) : (lN n).toBitVec = BitVec.ofNat 64 n := rfl
theorem wb_inj {a b : Int64} (h : a.toBitVec = b.toBitVec) : a = b := Int64.toBitVec_inj.mp h
theorem wb_tn {n : Nat} (h : n < 2 ^ 64) : (lN n).toBitVec.toNat = n := by rw [wb_tb, BitVec.toNat_ofNat, Nat.mod_eq_of_lt h]
theorem wb_c : ∀ k, k < 64 → ((nI k).toInt64 &&& 63) = lN k := by decide +kernel
theorem wb_cu : ∀ k, k < 64 → ((nI k).toInt64.toUInt64 &&& Int64.toUInt64 63) = UInt64.ofNat k := by decide +kernel
theorem wb_sm : ∀ k, k < 64 → (BitVec.ofNat 64 k).smod 64 = BitVec.ofNat 64 k := by decide +kernel
theorem wb_pw {a b : Nat} (h : a ≤ b) : 2 ^ b = 2 ^ a * 2 ^ (b - a) := by rw [← Nat.pow_add]; congr 1; omega
theorem wb_lt2 {a b : Nat} (h : a < b) : 2 ^ a < 2 ^ b := Nat.pow_lt_pow_right (by decide) h
theorem wb_mod (n : Nat) : lN n = lN (n % 2 ^ 64) := wb_inj (by rw [wb_tb, wb_tb]; apply BitVec.eq_of_toNat_eq; rw [BitVec.toNat_ofNat, BitVec.toNat_ofNat, Nat.mod_mod])
theorem wb_shr {n k : Nat} (hn : n < 2 ^ 64) (hk : k < 64) : ((lN n).toUInt64 >>> ((nI k).toInt64.toUInt64 &&& Int64.toUInt64 63)).toInt64 = lN (n / 2 ^ k) := by
  rw [wb_cu k hk]
  apply wb_inj
  apply BitVec.eq_of_toNat_eq
  show ((lN n).toUInt64 >>> UInt64.ofNat k).toNat = (BitVec.ofNat 64 _).toNat
  have h1 : (UInt64.ofNat k).toNat = k := by
    show (BitVec.ofNat 64 k).toNat = k
    rw [BitVec.toNat_ofNat, Nat.mod_eq_of_lt (by omega)]
  have h2 : (lN n).toUInt64.toNat = n := wb_tn hn
  rw [UInt64.toNat_shiftRight, h1, h2, Nat.mod_eq_of_lt hk, Nat.shiftRight_eq_div_pow, BitVec.toNat_ofNat, Nat.mod_eq_of_lt (Nat.lt_of_le_of_lt (Nat.div_le_self _ _) hn)]
theorem wb_shl (n : Nat) {k : Nat} (hk : k < 64) : lN n <<< ((nI k).toInt64 &&& 63) = lN (n * 2 ^ k) := by
  rw [wb_c k hk]
  apply wb_inj
  rw [Int64.toBitVec_shiftLeft, wb_tb, wb_tb, wb_tb, wb_sm k hk]
  apply BitVec.eq_of_toNat_eq
  rw [BitVec.shiftLeft_eq', BitVec.toNat_shiftLeft, BitVec.toNat_ofNat, BitVec.toNat_ofNat, BitVec.toNat_ofNat, Nat.mod_eq_of_lt (show k < 2 ^ 64 by omega), Nat.shiftLeft_eq, Nat.mul_mod, Nat.mod_mod, ← Nat.mul_mod]
theorem wb_and {a b : Nat} (ha : a < 2 ^ 64) (hb : b < 2 ^ 64) : lN a &&& lN b = lN (a &&& b) := by
  apply wb_inj
  rw [Int64.toBitVec_and, wb_tb, wb_tb, wb_tb]
  apply BitVec.eq_of_toNat_eq
  rw [BitVec.toNat_and, BitVec.toNat_ofNat, BitVec.toNat_ofNat, BitVec.toNat_ofNat, Nat.mod_eq_of_lt ha, Nat.mod_eq_of_lt hb, Nat.mod_eq_of_lt (Nat.and_lt_two_pow _ hb)]
theorem wb_or {a b : Nat} (ha : a < 2 ^ 64) (hb : b < 2 ^ 64) : lN a ||| lN b = lN (a ||| b) := by
  apply wb_inj
  rw [Int64.toBitVec_or, wb_tb, wb_tb, wb_tb]
  apply BitVec.eq_of_toNat_eq
  rw [BitVec.toNat_or, BitVec.toNat_ofNat, BitVec.toNat_ofNat, BitVec.toNat_ofNat, Nat.mod_eq_of_lt ha, Nat.mod_eq_of_lt hb, Nat.mod_eq_of_lt (Nat.or_lt_two_pow ha hb)]
theorem nx_or (a b : Nat) : nI a ||| nI b = nI (a ||| b) := by
  apply Int32.toBitVec_inj.mp
  rw [Int32.toBitVec_or]
  show BitVec.ofNat 32 a ||| BitVec.ofNat 32 b = BitVec.ofNat 32 (a ||| b)
  exact (BitVec.ofNat_or).symm
theorem ct_c31 : ∀ k, k < 32 → (nI k &&& 31).toBitVec.smod 32 = BitVec.ofNat 32 k := by decide +kernel
theorem ct_shl {a b : Nat} (hb : b < 32) : nI a <<< (nI b &&& 31) = nI (a * 2 ^ b) := by
  apply Int32.toBitVec_inj.mp
  rw [Int32.toBitVec_shiftLeft, ct_c31 b hb]
  show BitVec.ofNat 32 a <<< (BitVec.ofNat 32 b) = BitVec.ofNat 32 (a * 2 ^ b)
  apply BitVec.eq_of_toNat_eq
  rw [BitVec.shiftLeft_eq', BitVec.toNat_shiftLeft, BitVec.toNat_ofNat, BitVec.toNat_ofNat, BitVec.toNat_ofNat, Nat.mod_eq_of_lt (a := b) (by omega), Nat.shiftLeft_eq, Nat.mod_mul_mod]
theorem ct_shr {a b : Nat} (ha : a < 2 ^ 31) (hb : b < 32) : nI a >>> (nI b &&& 31) = nI (a / 2 ^ b) := by
  apply Int32.toBitVec_inj.mp
  rw [Int32.toBitVec_shiftRight, ct_c31 b hb]
  show (BitVec.ofNat 32 a).sshiftRight' (BitVec.ofNat 32 b) = BitVec.ofNat 32 (a / 2 ^ b)
  apply BitVec.eq_of_toNat_eq
  have h1 : (BitVec.ofNat 32 a).msb = false := by
    rw [BitVec.msb_eq_false_iff_two_mul_lt, BitVec.toNat_ofNat, Nat.mod_eq_of_lt (by omega)]
    omega
  rw [BitVec.sshiftRight_eq', BitVec.sshiftRight_eq_of_msb_false h1, BitVec.toNat_ushiftRight, BitVec.toNat_ofNat, BitVec.toNat_ofNat, BitVec.toNat_ofNat, Nat.mod_eq_of_lt (a := b) (by omega), Nat.mod_eq_of_lt (a := a) (by omega), Nat.shiftRight_eq_div_pow, Nat.mod_eq_of_lt]
  exact Nat.lt_of_le_of_lt (Nat.div_le_self _ _) (by omega)
theorem ct_ushr {a b : Nat} (ha : a < 2 ^ 31) (hb : b < 32) : ((nI a).toUInt32 >>> ((nI b).toUInt32 &&& Int32.toUInt32 31)).toInt32 = nI (a / 2 ^ b) := by
  have hc := nx_cnt ⟨b, hb⟩
  apply Int32.toBitVec_inj.mp
  show (((nI a).toUInt32 >>> (UInt32.ofNat b &&& Int32.toUInt32 31)).toBitVec) = BitVec.ofNat 32 (a / 2 ^ b)
  apply BitVec.eq_of_toNat_eq
  rw [UInt32.toBitVec_shiftRight]
  show ((BitVec.ofNat 32 a) >>> ((UInt32.ofNat b &&& Int32.toUInt32 31).toBitVec % 32)).toNat = _
  rw [BitVec.ushiftRight_eq', BitVec.toNat_ushiftRight, BitVec.toNat_umod, BitVec.toNat_ofNat, BitVec.toNat_ofNat, Nat.mod_eq_of_lt (a := a) (by omega)]
  have eE : (UInt32.ofNat b &&& Int32.toUInt32 31).toBitVec.toNat % (32 : BitVec 32).toNat = b := hc
  rw [eE, Nat.shiftRight_eq_div_pow, Nat.mod_eq_of_lt]
  exact Nat.lt_of_le_of_lt (Nat.div_le_self _ _) (by omega)
theorem ct_m64 (x : Int) : Int64.ofInt x = Int64.ofInt (x % 18446744073709551616) := by
  apply Int64.toInt_inj.mp
  rw [Int64.toInt_ofInt, Int64.toInt_ofInt]
  exact (Int.emod_bmod (n := 18446744073709551616) x).symm
theorem ct_c1 {as : Nat → Nat} {v : ct_V} (h : ct_isL v = false) : (ct_tv as v).category = 1 := by
  rcases v with i | i | r
  · rfl
  · cases h
  · cases r <;> rfl
/-! THE RULES, second: bits, quotients, longs, branches -/
section CVS
variable {M : ct_M} {r : Nat × Nat × Nat} {n0 : Nat} {z : Nat × Nat} {pc : Nat} {ls : List (Nat × ct_V)} {st : List ct_V} {w : List ct_C} {Q : Option ct_V → List ct_C → Prop}
theorem ct_t32 {x : Int} (h : -2147483648 ≤ x) (h' : x ≤ 2147483647) : (Int32.ofInt x).toInt = x := Int32.toInt_ofInt_of_le (by omega) (by omega)
theorem ct_lt32 {x y : Int} (h : -2147483648 ≤ x ∧ x ≤ 2147483647 ∧ -2147483648 ≤ y ∧ y ≤ 2147483647) : Int32.ofInt x < Int32.ofInt y ↔ x < y := by
  rw [Int32.lt_iff_toInt_lt, ct_t32 h.1 h.2.1, ct_t32 h.2.2.1 h.2.2.2]
theorem ct_le32 {x y : Int} (h : -2147483648 ≤ x ∧ x ≤ 2147483647 ∧ -2147483648 ≤ y ∧ y ≤ 2147483647) : Int32.ofInt x ≤ Int32.ofInt y ↔ x ≤ y := by
  rw [Int32.le_iff_toInt_le, ct_t32 h.1 h.2.1, ct_t32 h.2.2.1 h.2.2.2]
theorem ct_eq32 {x y : Int} (h : -2147483648 ≤ x ∧ x ≤ 2147483647 ∧ -2147483648 ≤ y ∧ y ≤ 2147483647) : Int32.ofInt x = Int32.ofInt y ↔ x = y := by
  rw [← Int32.toInt_inj, ct_t32 h.1 h.2.1, ct_t32 h.2.2.1 h.2.2.2]
theorem ct_nat {x : Int} (h : 0 ≤ x) : Int32.ofInt x = nI x.toNat := by
  obtain ⟨n, rfl⟩ := Int.eq_ofNat_of_zero_le h
  exact Int32.ofInt_eq_ofNat
theorem ct_natL {x : Int} (h : 0 ≤ x) : Int64.ofInt x = lN x.toNat := by
  obtain ⟨n, rfl⟩ := Int.eq_ofNat_of_zero_le h
  exact Int64.ofInt_eq_ofNat
theorem ct_ofN (n : Nat) : Int32.ofInt (n : Int) = nI n := Int32.ofInt_eq_ofNat
theorem ct_ofNL (n : Nat) : Int64.ofInt (n : Int) = lN n := Int64.ofInt_eq_ofNat
theorem ct_t64 {x : Int} (h : -9223372036854775808 ≤ x) (h' : x ≤ 9223372036854775807) : (Int64.ofInt x).toInt = x := Int64.toInt_ofInt_of_le (by omega) (by omega)
theorem cv_idiv {x y : Int} (hd : decode M.2.1 pc = .ok (.idiv, 1)) (h : 0 ≤ x ∧ x ≤ 2147483647 ∧ 0 < y ∧ y ≤ 2147483647) (k : CV M r n0 z (pc + 1) ls (vI (x / y) :: st) w Q) : CV M r n0 z pc ls (vI y :: vI x :: st) w Q := by
  intro p l e s m args below meth c D kA as0 as A H locs la hc ha hP hD hS hl
  refine lv_idiv hc.1 hc.2.1 hd (fun q => ?_) ?_
  · have := (ct_eq32 (x := y) (y := 0) (by omega)).mp q
    omega
  · have eE : Int32.ofInt x / Int32.ofInt y = Int32.ofInt (x / y) := by
      rw [← Int32.ofInt_tdiv (by show (-2147483648 : Int) ≤ x; omega) (by show x ≤ (2147483647 : Int); omega) (by show (-2147483648 : Int) ≤ y; omega) (by show y ≤ (2147483647 : Int); omega), Int.tdiv_eq_ediv_of_nonneg h.1]
    rw [eE]
    exact k p l e s m args below meth c D kA as0 as A H locs la hc ha hP hD hS hl
theorem cv_irem {x y : Int} (hd : decode M.2.1 pc = .ok (.irem, 1)) (h : 0 ≤ x ∧ x ≤ 2147483647 ∧ 0 < y ∧ y ≤ 2147483647) (k : CV M r n0 z (pc + 1) ls (vI (x % y) :: st) w Q) : CV M r n0 z pc ls (vI y :: vI x :: st) w Q := by
  intro p l e s m args below meth c D kA as0 as A H locs la hc ha hP hD hS hl
  refine lv_irem hc.1 hc.2.1 hd (fun q => ?_) ?_
  · have := (ct_eq32 (x := y) (y := 0) (by omega)).mp q
    omega
  · have eE : Int32.ofInt x - Int32.ofInt x / Int32.ofInt y * Int32.ofInt y = Int32.ofInt (x % y) := by
      rw [← Int32.ofInt_tdiv (by show (-2147483648 : Int) ≤ x; omega) (by show x ≤ (2147483647 : Int); omega) (by show (-2147483648 : Int) ≤ y; omega) (by show y ≤ (2147483647 : Int); omega), Int.tdiv_eq_ediv_of_nonneg h.1, ← Int32.ofInt_mul, ← Int32.ofInt_sub, Int.emod_def, Int.mul_comm]
    rw [eE]
    exact k p l e s m args below meth c D kA as0 as A H locs la hc ha hP hD hS hl
theorem cv_idivT {x y : Int} (hd : decode M.2.1 pc = .ok (.idiv, 1)) (h : -2147483648 < x ∧ x ≤ 2147483647 ∧ -2147483648 ≤ y ∧ y ≤ 2147483647 ∧ y ≠ 0) (k : CV M r n0 z (pc + 1) ls (vI (x.tdiv y) :: st) w Q) : CV M r n0 z pc ls (vI y :: vI x :: st) w Q := by
  intro p l e s m args below meth c D kA as0 as A H locs la hc ha hP hD hS hl
  refine lv_idiv hc.1 hc.2.1 hd (fun q => ?_) ?_
  · have := (ct_eq32 (x := y) (y := 0) (by omega)).mp q
    omega
  · have eE : Int32.ofInt x / Int32.ofInt y = Int32.ofInt (x.tdiv y) := by
      rw [← Int32.ofInt_tdiv (by show (-2147483648 : Int) ≤ x; omega) (by show x ≤ (2147483647 : Int); omega) (by show (-2147483648 : Int) ≤ y; omega) (by show y ≤ (2147483647 : Int); omega)]
    rw [eE]
    exact k p l e s m args below meth c D kA as0 as A H locs la hc ha hP hD hS hl
theorem cv_iand {x y : Int} (hd : decode M.2.1 pc = .ok (.iand, 1)) (h : 0 ≤ x ∧ 0 ≤ y) (k : CV M r n0 z (pc + 1) ls (vI ((x.toNat &&& y.toNat : Nat) : Int) :: st) w Q) : CV M r n0 z pc ls (vI y :: vI x :: st) w Q := by
  intro p l e s m args below meth c D kA as0 as A H locs la hc ha hP hD hS hl
  refine lv_iand hc.1 hc.2.1 hd ?_
  rw [ct_nat h.1, ct_nat h.2, nx_and, ← ct_ofN]
  exact k p l e s m args below meth c D kA as0 as A H locs la hc ha hP hD hS hl
theorem cv_ixor {x y : Int} (hd : decode M.2.1 pc = .ok (.ixor, 1)) (h : 0 ≤ x ∧ 0 ≤ y) (k : CV M r n0 z (pc + 1) ls (vI ((x.toNat ^^^ y.toNat : Nat) : Int) :: st) w Q) : CV M r n0 z pc ls (vI y :: vI x :: st) w Q := by
  intro p l e s m args below meth c D kA as0 as A H locs la hc ha hP hD hS hl
  refine lv_ixor hc.1 hc.2.1 hd ?_
  rw [ct_nat h.1, ct_nat h.2, nx_xor, ← ct_ofN]
  exact k p l e s m args below meth c D kA as0 as A H locs la hc ha hP hD hS hl
theorem cv_ior {x y : Int} (hd : decode M.2.1 pc = .ok (.ior, 1)) (h : 0 ≤ x ∧ 0 ≤ y) (k : CV M r n0 z (pc + 1) ls (vI ((x.toNat ||| y.toNat : Nat) : Int) :: st) w Q) : CV M r n0 z pc ls (vI y :: vI x :: st) w Q := by
  intro p l e s m args below meth c D kA as0 as A H locs la hc ha hP hD hS hl
  refine lv_ior hc.1 hc.2.1 hd ?_
  rw [ct_nat h.1, ct_nat h.2, nx_or, ← ct_ofN]
  exact k p l e s m args below meth c D kA as0 as A H locs la hc ha hP hD hS hl
theorem cv_ishl {x y : Int} (hd : decode M.2.1 pc = .ok (.ishl, 1)) (h : 0 ≤ x ∧ 0 ≤ y ∧ y < 32) (k : CV M r n0 z (pc + 1) ls (vI (x * ((2 ^ y.toNat : Nat) : Int)) :: st) w Q) : CV M r n0 z pc ls (vI y :: vI x :: st) w Q := by
  intro p l e s m args below meth c D kA as0 as A H locs la hc ha hP hD hS hl
  refine lv_ishl hc.1 hc.2.1 hd ?_
  have eE : Int32.ofInt x <<< (Int32.ofInt y &&& 31) = Int32.ofInt (x * ((2 ^ y.toNat : Nat) : Int)) := by
    obtain ⟨a, rfl⟩ := Int.eq_ofNat_of_zero_le h.1
    obtain ⟨b, rfl⟩ := Int.eq_ofNat_of_zero_le h.2.1
    rw [← Int.natCast_mul, ct_ofN, ct_ofN, ct_ofN, Int.toNat_natCast]
    exact ct_shl (by omega)
  rw [eE]
  exact k p l e s m args below meth c D kA as0 as A H locs la hc ha hP hD hS hl
theorem cv_ishr {x y : Int} (hd : decode M.2.1 pc = .ok (.ishr, 1)) (h : 0 ≤ x ∧ x ≤ 2147483647 ∧ 0 ≤ y ∧ y < 32) (k : CV M r n0 z (pc + 1) ls (vI (x / ((2 ^ y.toNat : Nat) : Int)) :: st) w Q) : CV M r n0 z pc ls (vI y :: vI x :: st) w Q := by
  intro p l e s m args below meth c D kA as0 as A H locs la hc ha hP hD hS hl
  refine lv_ishr hc.1 hc.2.1 hd ?_
  have eE : Int32.ofInt x >>> (Int32.ofInt y &&& 31) = Int32.ofInt (x / ((2 ^ y.toNat : Nat) : Int)) := by
    obtain ⟨a, rfl⟩ := Int.eq_ofNat_of_zero_le h.1
    obtain ⟨b, rfl⟩ := Int.eq_ofNat_of_zero_le h.2.2.1
    rw [← Int.natCast_ediv, ct_ofN, ct_ofN, ct_ofN, Int.toNat_natCast]
    exact ct_shr (by omega) (by omega)
  rw [eE]
  exact k p l e s m args below meth c D kA as0 as A H locs la hc ha hP hD hS hl
theorem cv_iushr {x y : Int} (hd : decode M.2.1 pc = .ok (.iushr, 1)) (h : 0 ≤ x ∧ x ≤ 2147483647 ∧ 0 ≤ y ∧ y < 32) (k : CV M r n0 z (pc + 1) ls (vI (x / ((2 ^ y.toNat : Nat) : Int)) :: st) w Q) : CV M r n0 z pc ls (vI y :: vI x :: st) w Q := by
  intro p l e s m args below meth c D kA as0 as A H locs la hc ha hP hD hS hl
  refine lv_iushr (v := Int32.ofInt (x / ((2 ^ y.toNat : Nat) : Int))) hc.1 hc.2.1 hd ?_ (k p l e s m args below meth c D kA as0 as A H locs la hc ha hP hD hS hl)
  obtain ⟨a, rfl⟩ := Int.eq_ofNat_of_zero_le h.1
  obtain ⟨b, rfl⟩ := Int.eq_ofNat_of_zero_le h.2.2.1
  rw [← Int.natCast_ediv, ct_ofN, ct_ofN, ct_ofN, Int.toNat_natCast]
  exact ct_ushr (by omega) (by omega)
theorem cv_ladd {x y : Int} (hd : decode M.2.1 pc = .ok (.ladd, 1))  (k : CV M r n0 z (pc + 1) ls (vL (x + y) :: st) w Q) : CV M r n0 z pc ls (vL y :: vL x :: st) w Q := by
  intro p l e s m args below meth c D kA as0 as A H locs la hc ha hP hD hS hl
  refine lv_ladd hc.1 hc.2.1 hd ?_
  rw [← Int64.ofInt_add]
  exact k p l e s m args below meth c D kA as0 as A H locs la hc ha hP hD hS hl
theorem cv_lsub {x y : Int} (hd : decode M.2.1 pc = .ok (.lsub, 1))  (k : CV M r n0 z (pc + 1) ls (vL (x - y) :: st) w Q) : CV M r n0 z pc ls (vL y :: vL x :: st) w Q := by
  intro p l e s m args below meth c D kA as0 as A H locs la hc ha hP hD hS hl
  refine lv_lsub hc.1 hc.2.1 hd ?_
  rw [← Int64.ofInt_sub]
  exact k p l e s m args below meth c D kA as0 as A H locs la hc ha hP hD hS hl
theorem cv_lmul {x y : Int} (hd : decode M.2.1 pc = .ok (.lmul, 1))  (k : CV M r n0 z (pc + 1) ls (vL (x * y) :: st) w Q) : CV M r n0 z pc ls (vL y :: vL x :: st) w Q := by
  intro p l e s m args below meth c D kA as0 as A H locs la hc ha hP hD hS hl
  refine lv_lmul hc.1 hc.2.1 hd ?_
  rw [← Int64.ofInt_mul]
  exact k p l e s m args below meth c D kA as0 as A H locs la hc ha hP hD hS hl
theorem cv_ldiv {x y : Int} (hd : decode M.2.1 pc = .ok (.ldiv, 1)) (h : 0 ≤ x ∧ x ≤ 9223372036854775807 ∧ 0 < y ∧ y ≤ 9223372036854775807) (k : CV M r n0 z (pc + 1) ls (vL (x / y) :: st) w Q) : CV M r n0 z pc ls (vL y :: vL x :: st) w Q := by
  intro p l e s m args below meth c D kA as0 as A H locs la hc ha hP hD hS hl
  have hy : ¬ Int64.ofInt y = 0 := fun q => by
    have h1 : (Int64.ofInt y).toInt = (0 : Int64).toInt := congrArg Int64.toInt q
    rw [ct_t64 (by omega) (by omega)] at h1
    have h2 : (0 : Int64).toInt = 0 := rfl
    omega
  refine lv_ldiv hc.1 hc.2.1 hd hy ?_
  rw [← Int64.ofInt_tdiv (by show (-9223372036854775808 : Int) ≤ x; omega) (by show x ≤ (9223372036854775807 : Int); omega) (by show (-9223372036854775808 : Int) ≤ y; omega) (by show y ≤ (9223372036854775807 : Int); omega), Int.tdiv_eq_ediv_of_nonneg h.1]
  exact k p l e s m args below meth c D kA as0 as A H locs la hc ha hP hD hS hl
theorem cv_lrem {x y : Int} (hd : decode M.2.1 pc = .ok (.lrem, 1)) (h : 0 ≤ x ∧ x ≤ 9223372036854775807 ∧ 0 < y ∧ y ≤ 9223372036854775807) (k : CV M r n0 z (pc + 1) ls (vL (x % y) :: st) w Q) : CV M r n0 z pc ls (vL y :: vL x :: st) w Q := by
  intro p l e s m args below meth c D kA as0 as A H locs la hc ha hP hD hS hl
  have hy : ¬ Int64.ofInt y = 0 := fun q => by
    have h1 : (Int64.ofInt y).toInt = (0 : Int64).toInt := congrArg Int64.toInt q
    rw [ct_t64 (by omega) (by omega)] at h1
    have h2 : (0 : Int64).toInt = 0 := rfl
    omega
  refine lv_lrem hc.1 hc.2.1 hd hy ?_
  rw [← Int64.ofInt_tdiv (by show (-9223372036854775808 : Int) ≤ x; omega) (by show x ≤ (9223372036854775807 : Int); omega) (by show (-9223372036854775808 : Int) ≤ y; omega) (by show y ≤ (9223372036854775807 : Int); omega), Int.tdiv_eq_ediv_of_nonneg h.1, ← Int64.ofInt_mul, ← Int64.ofInt_sub, Int.mul_comm, ← Int.emod_def]
  exact k p l e s m args below meth c D kA as0 as A H locs la hc ha hP hD hS hl
theorem cv_i2l {x : Int} (hd : decode M.2.1 pc = .ok (.i2l, 1)) (h : -2147483648 ≤ x ∧ x ≤ 2147483647) (k : CV M r n0 z (pc + 1) ls (vL x :: st) w Q) : CV M r n0 z pc ls (vI x :: st) w Q := by
  intro p l e s m args below meth c D kA as0 as A H locs la hc ha hP hD hS hl
  exact lv_i2l hc.1 hc.2.1 hd (Int32.toInt64_ofInt (by show (-2147483648 : Int) ≤ x; omega) (by show x ≤ (2147483647 : Int); omega)) (k p l e s m args below meth c D kA as0 as A H locs la hc ha hP hD hS hl)
theorem cv_l2i {x : Int} (hd : decode M.2.1 pc = .ok (.l2i, 1))  (k : CV M r n0 z (pc + 1) ls (vI x :: st) w Q) : CV M r n0 z pc ls (vL x :: st) w Q := by
  intro p l e s m args below meth c D kA as0 as A H locs la hc ha hP hD hS hl
  exact lv_l2i hc.1 hc.2.1 hd Int64.toInt32_ofInt (k p l e s m args below meth c D kA as0 as A H locs la hc ha hP hD hS hl)
theorem cv_lushr {x y : Int} (hd : decode M.2.1 pc = .ok (.lushr, 1)) (h : 0 ≤ y ∧ y < 64) (k : CV M r n0 z (pc + 1) ls (vL (x % 18446744073709551616 / ((2 ^ y.toNat : Nat) : Int)) :: st) w Q) : CV M r n0 z pc ls (vI y :: vL x :: st) w Q := by
  intro p l e s m args below meth c D kA as0 as A H locs la hc ha hP hD hS hl
  refine lv_lushr (v := Int64.ofInt (x % 18446744073709551616 / ((2 ^ y.toNat : Nat) : Int))) hc.1 hc.2.1 hd ?_ (k p l e s m args below meth c D kA as0 as A H locs la hc ha hP hD hS hl)
  have eE : Int64.ofInt x = Int64.ofInt (x % 18446744073709551616) := ct_m64 x
  rw [eE]
  obtain ⟨a, ea⟩ := Int.eq_ofNat_of_zero_le (Int.emod_nonneg x (by decide : (18446744073709551616 : Int) ≠ 0))
  have hlt : x % 18446744073709551616 < 18446744073709551616 := Int.emod_lt_of_pos x (by decide)
  rw [ea] at hlt ⊢
  obtain ⟨b, rfl⟩ := Int.eq_ofNat_of_zero_le h.1
  rw [← Int.natCast_ediv, ct_ofNL, ct_ofNL, ct_ofN, Int.toNat_natCast]
  exact wb_shr (by omega) (by omega)
def ct_cmp (x y : Int) : Int := if x < y then -1 else if x = y then 0 else 1
theorem ct_cmp_lt {x y : Int} (h : x < y) : ct_cmp x y = -1 := if_pos h
theorem ct_cmp_ge {x y : Int} : 0 ≤ ct_cmp x y ↔ y ≤ x := by
  unfold ct_cmp; split
  · constructor <;> intro <;> omega
  · split <;> constructor <;> intro <;> omega
theorem ct_cmp_le {x y : Int} : ct_cmp x y ≤ 0 ↔ x ≤ y := by
  unfold ct_cmp; split
  · constructor <;> intro <;> omega
  · split <;> constructor <;> intro <;> omega
theorem ct_cmp_0 {x y : Int} : ct_cmp x y = 0 ↔ x = y := by
  unfold ct_cmp; split
  · constructor <;> intro <;> omega
  · split <;> constructor <;> intro <;> omega
theorem ct_cmp_r (x y : Int) : -1 ≤ ct_cmp x y ∧ ct_cmp x y ≤ 1 := by
  unfold ct_cmp; split
  · omega
  · split <;> omega
theorem cv_lcmp {x y : Int} (hd : decode M.2.1 pc = .ok (.lcmp, 1)) (h : -9223372036854775808 ≤ x ∧ x ≤ 9223372036854775807 ∧ -9223372036854775808 ≤ y ∧ y ≤ 9223372036854775807) (k : CV M r n0 z (pc + 1) ls (vI (ct_cmp x y) :: st) w Q) : CV M r n0 z pc ls (vL y :: vL x :: st) w Q := by
  intro p l e s m args below meth c D kA as0 as A H locs la hc ha hP hD hS hl
  refine W.lcmp hc.1 hc.2.1 hd ?_
  have eE : lg_cmp (Int64.ofInt x) (Int64.ofInt y) = Int32.ofInt (ct_cmp x y) := by
    unfold lg_cmp ct_cmp
    simp only [gt_iff_lt, Int64.lt_iff_toInt_lt, ← Int64.toInt_inj, ct_t64 h.1 h.2.1, ct_t64 h.2.2.1 h.2.2.2]
    by_cases h1 : x < y
    · rw [if_neg (by omega), if_neg (by omega), if_pos h1]
      rfl
    · rw [if_neg h1]
      by_cases h2 : x = y
      · rw [if_neg (by omega), if_pos h2, if_pos h2]
        rfl
      · rw [if_pos (by omega), if_neg h2]
        rfl
  rw [eE]
  exact k p l e s m args below meth c D kA as0 as A H locs la hc ha hP hD hS hl
theorem cv_lcmpE {x : Int} (hd : decode M.2.1 pc = .ok (.lcmp, 1))  (k : CV M r n0 z (pc + 1) ls (vI 0 :: st) w Q) : CV M r n0 z pc ls (vL x :: vL x :: st) w Q := by
  intro p l e s m args below meth c D kA as0 as A H locs la hc ha hP hD hS hl
  refine W.lcmp hc.1 hc.2.1 hd ?_
  have eE : lg_cmp (Int64.ofInt x) (Int64.ofInt x) = Int32.ofInt 0 := by
    unfold lg_cmp
    rw [if_neg (by rw [gt_iff_lt, Int64.lt_iff_toInt_lt]; omega), if_pos rfl]
    rfl
  rw [eE]
  exact k p l e s m args below meth c D kA as0 as A H locs la hc ha hP hD hS hl
theorem cv_dup {v : ct_V} (hd : decode M.2.1 pc = .ok (.dup, 1)) (h : ct_isL v = false) (k : CV M r n0 z (pc + 1) ls (v :: v :: st) w Q) : CV M r n0 z pc ls (v :: st) w Q := by
  intro p l e s m args below meth c D kA as0 as A H locs la hc ha hP hD hS hl
  exact lv_dup hc.1 hc.2.1 hd (ct_c1 h) (k p l e s m args below meth c D kA as0 as A H locs la hc ha hP hD hS hl)
theorem cv_dup2 {u v : ct_V} (hd : decode M.2.1 pc = .ok (.dup2, 1)) (h : ct_isL u = false) (h2 : ct_isL v = false) (k : CV M r n0 z (pc + 1) ls (u :: v :: u :: v :: st) w Q) : CV M r n0 z pc ls (u :: v :: st) w Q := by
  intro p l e s m args below meth c D kA as0 as A H locs la hc ha hP hD hS hl
  exact lv_dup2_11 hc.1 hc.2.1 hd (ct_c1 h) (ct_c1 h2) (k p l e s m args below meth c D kA as0 as A H locs la hc ha hP hD hS hl)
theorem cv_pop {v : ct_V} (hd : decode M.2.1 pc = .ok (.pop, 1)) (h : ct_isL v = false) (k : CV M r n0 z (pc + 1) ls (st) w Q) : CV M r n0 z pc ls (v :: st) w Q := by
  intro p l e s m args below meth c D kA as0 as A H locs la hc ha hP hD hS hl
  exact lv_pop hc.1 hc.2.1 hd (ct_c1 h) (k p l e s m args below meth c D kA as0 as A H locs la hc ha hP hD hS hl)
theorem cv_goto {off : Int} {tgt : Nat} (hd : decode M.2.1 pc = .ok (.goto off, 3)) (ht : (pc : Int) + off = (tgt : Int)) (k : CV M r n0 z tgt ls st w Q) : CV M r n0 z pc ls st w Q := by
  intro p l e s m args below meth c D kA as0 as A H locs la hc ha hP hD hS hl
  exact lv_goto hc.1 hc.2.1 hd ht (k p l e s m args below meth c D kA as0 as A H locs la hc ha hP hD hS hl)
theorem cv_icmp_eq {x y off : Int} {tgt : Nat} (hd : decode M.2.1 pc = .ok (.if_icmp .eq off, 3)) (ht : (pc : Int) + off = (tgt : Int)) (h : -2147483648 ≤ x ∧ x ≤ 2147483647 ∧ -2147483648 ≤ y ∧ y ≤ 2147483647) (kt : x = y → CV M r n0 z tgt ls st w Q) (kf : ¬ x = y → CV M r n0 z (pc + 3) ls st w Q) : CV M r n0 z pc ls (vI y :: vI x :: st) w Q := by
  intro p l e s m args below meth c D kA as0 as A H locs la hc ha hP hD hS hl
  exact lv_icmp_eq hc.1 hc.2.1 hd ht (fun q => kt ((ct_eq32 h).mp q) p l e s m args below meth c D kA as0 as A H locs la hc ha hP hD hS hl) (fun q => kf (fun h0 => q ((ct_eq32 h).mpr h0)) p l e s m args below meth c D kA as0 as A H locs la hc ha hP hD hS hl)
theorem cv_if_eq {x off : Int} {tgt : Nat} (hd : decode M.2.1 pc = .ok (.ifCond .eq off, 3)) (ht : (pc : Int) + off = (tgt : Int)) (h : -2147483648 ≤ x ∧ x ≤ 2147483647) (kt : x = 0 → CV M r n0 z tgt ls st w Q) (kf : ¬ x = 0 → CV M r n0 z (pc + 3) ls st w Q) : CV M r n0 z pc ls (vI x :: st) w Q := by
  intro p l e s m args below meth c D kA as0 as A H locs la hc ha hP hD hS hl
  exact lv_if_eq hc.1 hc.2.1 hd ht (fun q => kt ((ct_eq32 (y := 0) (by omega)).mp q) p l e s m args below meth c D kA as0 as A H locs la hc ha hP hD hS hl) (fun q => kf (fun h0 => q ((ct_eq32 (y := 0) (by omega)).mpr h0)) p l e s m args below meth c D kA as0 as A H locs la hc ha hP hD hS hl)
theorem cv_icmp_ne {x y off : Int} {tgt : Nat} (hd : decode M.2.1 pc = .ok (.if_icmp .ne off, 3)) (ht : (pc : Int) + off = (tgt : Int)) (h : -2147483648 ≤ x ∧ x ≤ 2147483647 ∧ -2147483648 ≤ y ∧ y ≤ 2147483647) (kt : ¬ x = y → CV M r n0 z tgt ls st w Q) (kf : x = y → CV M r n0 z (pc + 3) ls st w Q) : CV M r n0 z pc ls (vI y :: vI x :: st) w Q := by
  intro p l e s m args below meth c D kA as0 as A H locs la hc ha hP hD hS hl
  exact lv_icmp_ne hc.1 hc.2.1 hd ht (fun q => kt (fun h0 => q ((ct_eq32 h).mpr h0)) p l e s m args below meth c D kA as0 as A H locs la hc ha hP hD hS hl) (fun q => kf ((ct_eq32 h).mp q) p l e s m args below meth c D kA as0 as A H locs la hc ha hP hD hS hl)
theorem cv_if_ne {x off : Int} {tgt : Nat} (hd : decode M.2.1 pc = .ok (.ifCond .ne off, 3)) (ht : (pc : Int) + off = (tgt : Int)) (h : -2147483648 ≤ x ∧ x ≤ 2147483647) (kt : ¬ x = 0 → CV M r n0 z tgt ls st w Q) (kf : x = 0 → CV M r n0 z (pc + 3) ls st w Q) : CV M r n0 z pc ls (vI x :: st) w Q := by
  intro p l e s m args below meth c D kA as0 as A H locs la hc ha hP hD hS hl
  exact lv_if_ne hc.1 hc.2.1 hd ht (fun q => kt (fun h0 => q ((ct_eq32 (y := 0) (by omega)).mpr h0)) p l e s m args below meth c D kA as0 as A H locs la hc ha hP hD hS hl) (fun q => kf ((ct_eq32 (y := 0) (by omega)).mp q) p l e s m args below meth c D kA as0 as A H locs la hc ha hP hD hS hl)
theorem cv_icmp_lt {x y off : Int} {tgt : Nat} (hd : decode M.2.1 pc = .ok (.if_icmp .lt off, 3)) (ht : (pc : Int) + off = (tgt : Int)) (h : -2147483648 ≤ x ∧ x ≤ 2147483647 ∧ -2147483648 ≤ y ∧ y ≤ 2147483647) (kt : x < y → CV M r n0 z tgt ls st w Q) (kf : ¬ x < y → CV M r n0 z (pc + 3) ls st w Q) : CV M r n0 z pc ls (vI y :: vI x :: st) w Q := by
  intro p l e s m args below meth c D kA as0 as A H locs la hc ha hP hD hS hl
  exact lv_icmp_lt hc.1 hc.2.1 hd ht (fun q => kt ((ct_lt32 h).mp q) p l e s m args below meth c D kA as0 as A H locs la hc ha hP hD hS hl) (fun q => kf (fun h0 => q ((ct_lt32 h).mpr h0)) p l e s m args below meth c D kA as0 as A H locs la hc ha hP hD hS hl)
theorem cv_if_lt {x off : Int} {tgt : Nat} (hd : decode M.2.1 pc = .ok (.ifCond .lt off, 3)) (ht : (pc : Int) + off = (tgt : Int)) (h : -2147483648 ≤ x ∧ x ≤ 2147483647) (kt : x < 0 → CV M r n0 z tgt ls st w Q) (kf : ¬ x < 0 → CV M r n0 z (pc + 3) ls st w Q) : CV M r n0 z pc ls (vI x :: st) w Q := by
  intro p l e s m args below meth c D kA as0 as A H locs la hc ha hP hD hS hl
  exact lv_if_lt hc.1 hc.2.1 hd ht (fun q => kt ((ct_lt32 (y := 0) (by omega)).mp q) p l e s m args below meth c D kA as0 as A H locs la hc ha hP hD hS hl) (fun q => kf (fun h0 => q ((ct_lt32 (y := 0) (by omega)).mpr h0)) p l e s m args below meth c D kA as0 as A H locs la hc ha hP hD hS hl)
theorem cv_icmp_ge {x y off : Int} {tgt : Nat} (hd : decode M.2.1 pc = .ok (.if_icmp .ge off, 3)) (ht : (pc : Int) + off = (tgt : Int)) (h : -2147483648 ≤ x ∧ x ≤ 2147483647 ∧ -2147483648 ≤ y ∧ y ≤ 2147483647) (kt : y ≤ x → CV M r n0 z tgt ls st w Q) (kf : ¬ y ≤ x → CV M r n0 z (pc + 3) ls st w Q) : CV M r n0 z pc ls (vI y :: vI x :: st) w Q := by
  intro p l e s m args below meth c D kA as0 as A H locs la hc ha hP hD hS hl
  exact lv_icmp_ge hc.1 hc.2.1 hd ht (fun q => kt ((ct_le32 ⟨h.2.2.1, h.2.2.2, h.1, h.2.1⟩).mp q) p l e s m args below meth c D kA as0 as A H locs la hc ha hP hD hS hl) (fun q => kf (fun h0 => q ((ct_le32 ⟨h.2.2.1, h.2.2.2, h.1, h.2.1⟩).mpr h0)) p l e s m args below meth c D kA as0 as A H locs la hc ha hP hD hS hl)
theorem cv_if_ge {x off : Int} {tgt : Nat} (hd : decode M.2.1 pc = .ok (.ifCond .ge off, 3)) (ht : (pc : Int) + off = (tgt : Int)) (h : -2147483648 ≤ x ∧ x ≤ 2147483647) (kt : 0 ≤ x → CV M r n0 z tgt ls st w Q) (kf : ¬ 0 ≤ x → CV M r n0 z (pc + 3) ls st w Q) : CV M r n0 z pc ls (vI x :: st) w Q := by
  intro p l e s m args below meth c D kA as0 as A H locs la hc ha hP hD hS hl
  exact lv_if_ge hc.1 hc.2.1 hd ht (fun q => kt ((ct_le32 (x := 0) (by omega)).mp q) p l e s m args below meth c D kA as0 as A H locs la hc ha hP hD hS hl) (fun q => kf (fun h0 => q ((ct_le32 (x := 0) (by omega)).mpr h0)) p l e s m args below meth c D kA as0 as A H locs la hc ha hP hD hS hl)
theorem cv_icmp_gt {x y off : Int} {tgt : Nat} (hd : decode M.2.1 pc = .ok (.if_icmp .gt off, 3)) (ht : (pc : Int) + off = (tgt : Int)) (h : -2147483648 ≤ x ∧ x ≤ 2147483647 ∧ -2147483648 ≤ y ∧ y ≤ 2147483647) (kt : y < x → CV M r n0 z tgt ls st w Q) (kf : ¬ y < x → CV M r n0 z (pc + 3) ls st w Q) : CV M r n0 z pc ls (vI y :: vI x :: st) w Q := by
  intro p l e s m args below meth c D kA as0 as A H locs la hc ha hP hD hS hl
  exact lv_icmp_gt hc.1 hc.2.1 hd ht (fun q => kt ((ct_lt32 ⟨h.2.2.1, h.2.2.2, h.1, h.2.1⟩).mp q) p l e s m args below meth c D kA as0 as A H locs la hc ha hP hD hS hl) (fun q => kf (fun h0 => q ((ct_lt32 ⟨h.2.2.1, h.2.2.2, h.1, h.2.1⟩).mpr h0)) p l e s m args below meth c D kA as0 as A H locs la hc ha hP hD hS hl)
theorem cv_if_gt {x off : Int} {tgt : Nat} (hd : decode M.2.1 pc = .ok (.ifCond .gt off, 3)) (ht : (pc : Int) + off = (tgt : Int)) (h : -2147483648 ≤ x ∧ x ≤ 2147483647) (kt : 0 < x → CV M r n0 z tgt ls st w Q) (kf : ¬ 0 < x → CV M r n0 z (pc + 3) ls st w Q) : CV M r n0 z pc ls (vI x :: st) w Q := by
  intro p l e s m args below meth c D kA as0 as A H locs la hc ha hP hD hS hl
  exact lv_if_gt hc.1 hc.2.1 hd ht (fun q => kt ((ct_lt32 (x := 0) (by omega)).mp q) p l e s m args below meth c D kA as0 as A H locs la hc ha hP hD hS hl) (fun q => kf (fun h0 => q ((ct_lt32 (x := 0) (by omega)).mpr h0)) p l e s m args below meth c D kA as0 as A H locs la hc ha hP hD hS hl)
theorem cv_icmp_le {x y off : Int} {tgt : Nat} (hd : decode M.2.1 pc = .ok (.if_icmp .le off, 3)) (ht : (pc : Int) + off = (tgt : Int)) (h : -2147483648 ≤ x ∧ x ≤ 2147483647 ∧ -2147483648 ≤ y ∧ y ≤ 2147483647) (kt : x ≤ y → CV M r n0 z tgt ls st w Q) (kf : ¬ x ≤ y → CV M r n0 z (pc + 3) ls st w Q) : CV M r n0 z pc ls (vI y :: vI x :: st) w Q := by
  intro p l e s m args below meth c D kA as0 as A H locs la hc ha hP hD hS hl
  exact lv_icmp_le hc.1 hc.2.1 hd ht (fun q => kt ((ct_le32 h).mp q) p l e s m args below meth c D kA as0 as A H locs la hc ha hP hD hS hl) (fun q => kf (fun h0 => q ((ct_le32 h).mpr h0)) p l e s m args below meth c D kA as0 as A H locs la hc ha hP hD hS hl)
theorem cv_if_le {x off : Int} {tgt : Nat} (hd : decode M.2.1 pc = .ok (.ifCond .le off, 3)) (ht : (pc : Int) + off = (tgt : Int)) (h : -2147483648 ≤ x ∧ x ≤ 2147483647) (kt : x ≤ 0 → CV M r n0 z tgt ls st w Q) (kf : ¬ x ≤ 0 → CV M r n0 z (pc + 3) ls st w Q) : CV M r n0 z pc ls (vI x :: st) w Q := by
  intro p l e s m args below meth c D kA as0 as A H locs la hc ha hP hD hS hl
  exact lv_if_le hc.1 hc.2.1 hd ht (fun q => kt ((ct_le32 (y := 0) (by omega)).mp q) p l e s m args below meth c D kA as0 as A H locs la hc ha hP hD hS hl) (fun q => kf (fun h0 => q ((ct_le32 (y := 0) (by omega)).mpr h0)) p l e s m args below meth c D kA as0 as A H locs la hc ha hP hD hS hl)
theorem cv_tableOut {x dflt lo hi : Int} {offs : Array Int} {len tgt : Nat} (hd : decode M.2.1 pc = .ok (.tableswitch dflt lo hi offs, len)) (ht : (pc : Int) + dflt = (tgt : Int)) (hr : -2147483648 ≤ x ∧ x ≤ 2147483647) (h : x < lo ∨ hi < x) (k : CV M r n0 z tgt ls st w Q) : CV M r n0 z pc ls (vI x :: st) w Q := by
  intro p l e s m args below meth c D kA as0 as A H locs la hc ha hP hD hS hl
  exact lv_tableOut hc.1 hc.2.1 hd (by rw [ct_t32 hr.1 hr.2]; exact h) ht (k p l e s m args below meth c D kA as0 as A H locs la hc ha hP hD hS hl)
theorem cv_tableIn {x dflt lo hi off : Int} {offs : Array Int} {len tgt : Nat} (hd : decode M.2.1 pc = .ok (.tableswitch dflt lo hi offs, len)) (hr : -2147483648 ≤ x ∧ x ≤ 2147483647) (h1 : lo ≤ x) (h2 : x ≤ hi) (ho : offs[(x - lo).toNat]? = some off) (ht : (pc : Int) + off = (tgt : Int)) (k : CV M r n0 z tgt ls st w Q) : CV M r n0 z pc ls (vI x :: st) w Q := by
  intro p l e s m args below meth c D kA as0 as A H locs la hc ha hP hD hS hl
  exact lv_tableIn hc.1 hc.2.1 hd (by rw [ct_t32 hr.1 hr.2]; omega) (by rw [ct_t32 hr.1 hr.2]; omega) (by rw [ct_t32 hr.1 hr.2]; exact ho) ht (k p l e s m args below meth c D kA as0 as A H locs la hc ha hP hD hS hl)
theorem cv_lookup {x dflt off : Int} {ps : Array (Int × Int)} {len tgt : Nat} (hd : decode M.2.1 pc = .ok (.lookupswitch dflt ps, len)) (hr : -2147483648 ≤ x ∧ x ≤ 2147483647) (hp : (ps.toList.zip (ps.toList.drop 1)).all (fun (a, next) => a.1 < next.1) = true) (ho : Op.lookupswitch.offset ps.toList dflt x = off) (ht : (pc : Int) + off = (tgt : Int)) (k : CV M r n0 z tgt ls st w Q) : CV M r n0 z pc ls (vI x :: st) w Q := by
  intro p l e s m args below meth c D kA as0 as A H locs la hc ha hP hD hS hl
  exact lv_lookup hc.1 hc.2.1 hd hp (by rw [ct_t32 hr.1 hr.2]; exact ho) ht (k p l e s m args below meth c D kA as0 as A H locs la hc ha hP hD hS hl)
end CVS
