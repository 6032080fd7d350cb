/-- how many of six bits -/
def pc6 (n : Nat) : Nat := n % 2 + n / 2 % 2 + n / 4 % 2 + n / 8 % 2 + n / 16 % 2 + n / 32 % 2
def bc1 (n : Nat) : Nat := n - ((n / 2) &&& 1431655765)
def bc2 (n : Nat) : Nat := (bc1 n &&& 858993459) + ((bc1 n / 4) &&& 858993459)
def bc3 (n : Nat) : Nat := (bc2 n + bc2 n / 16) &&& 252645135
def bc4 (n : Nat) : Nat := bc3 n + bc3 n / 256
def bc5 (n : Nat) : Nat := bc4 n + bc4 n / 65536
theorem bc1_e : ∀ n : Nat, n < 64 → (n : Int) - (((((n : Int) / ((2 ^ (1 : Int).toNat : Nat) : Int)).toNat &&& (1431655765 : Int).toNat : Nat)) : Int) = (bc1 n : Int) ∧ bc1 n ≤ 1000 := by decide +kernel
theorem bc2_e : ∀ n : Nat, n < 64 → (((((bc1 n : Int)).toNat &&& (858993459 : Int).toNat : Nat)) : Int) + (((((bc1 n : Int) / ((2 ^ (2 : Int).toNat : Nat) : Int)).toNat &&& (858993459 : Int).toNat : Nat)) : Int) = (bc2 n : Int) ∧ bc2 n ≤ 1000 := by decide +kernel
theorem bc3_e : ∀ n : Nat, n < 64 → (((((bc2 n : Int) + (bc2 n : Int) / ((2 ^ (4 : Int).toNat : Nat) : Int)).toNat &&& (252645135 : Int).toNat : Nat)) : Int) = (bc3 n : Int) ∧ bc3 n ≤ 1000 := by decide +kernel
theorem bc4_e : ∀ n : Nat, n < 64 → (bc3 n : Int) + (bc3 n : Int) / ((2 ^ (8 : Int).toNat : Nat) : Int) = (bc4 n : Int) ∧ bc4 n ≤ 1000 := by decide +kernel
theorem bc5_e : ∀ n : Nat, n < 64 → (bc4 n : Int) + (bc4 n : Int) / ((2 ^ (16 : Int).toNat : Nat) : Int) = (bc5 n : Int) ∧ bc5 n ≤ 1000 := by decide +kernel
theorem bc6_e : ∀ n : Nat, n < 64 → ((((bc5 n : Int)).toNat &&& (63 : Int).toNat : Nat) : Int) = (pc6 n : Int) := by decide +kernel
theorem pc6_r : ∀ n : Nat, n < 64 → pc6 n ≤ 6 := by decide +kernel
set_option maxRecDepth 100000 in
set_option maxHeartbeats 1000000 in
theorem c_bitCount (w : List ct_C) (n : Nat) (hn : n < 64) : CM MJ6_bitCount_0f7a4 (0, 0, 0) [vI n] (w) (fun v w1 => v = some (vI (pc6 n)) ∧ w1 = w) := by
  refine CM.of (by decide) (Nat.le_of_ble_eq_true rfl) ?_
  show CV MJ6_bitCount_0f7a4 (0, 0, 0) w.length (0, 0) 0 [(0, vI n)] [] (w) _
  obtain ⟨e1, r1⟩ := bc1_e n hn
  obtain ⟨e2, r2⟩ := bc2_e n hn
  obtain ⟨e3, r3⟩ := bc3_e n hn
  obtain ⟨e4, r4⟩ := bc4_e n hn
  obtain ⟨e5, r5⟩ := bc5_e n hn
  have p16 : ((2 ^ (16 : Int).toNat : Nat) : Int) = 65536 := by decide +kernel
  have p8 : ((2 ^ (8 : Int).toNat : Nat) : Int) = 256 := by decide +kernel
  have p4 : ((2 ^ (4 : Int).toNat : Nat) : Int) = 16 := by decide +kernel
  have p2 : ((2 ^ (2 : Int).toNat : Nat) : Int) = 4 := by decide +kernel
  have p1 : ((2 ^ (1 : Int).toNat : Nat) : Int) = 2 := by decide +kernel
  refine cv_iload_n dJ6_bitCount_0f7a4_0 rfl ?_
  refine cv_iload_n dJ6_bitCount_0f7a4_1 rfl ?_
  refine cv_iconst dJ6_bitCount_0f7a4_2 ?_
  refine cv_iushr dJ6_bitCount_0f7a4_3 (by omega) ?_
  refine cv_ldcw dJ6_bitCount_0f7a4_4 kcJ6_265 ?_
  refine cv_iand dJ6_bitCount_0f7a4_7 (by rw [p1]; omega) ?_
  refine cv_isub dJ6_bitCount_0f7a4_8 ?_
  refine cv_topi ((bc1 n : Nat) : Int) e1 ?_
  refine cv_istore_n dJ6_bitCount_0f7a4_9 (by decide) rfl rfl ?_
  refine cv_iload_n dJ6_bitCount_0f7a4_10 rfl ?_
  refine cv_ldcw dJ6_bitCount_0f7a4_11 kcJ6_266 ?_
  refine cv_iand dJ6_bitCount_0f7a4_14 (by omega) ?_
  refine cv_iload_n dJ6_bitCount_0f7a4_15 rfl ?_
  refine cv_iconst dJ6_bitCount_0f7a4_16 ?_
  refine cv_iushr dJ6_bitCount_0f7a4_17 (by omega) ?_
  refine cv_ldcw dJ6_bitCount_0f7a4_18 kcJ6_266 ?_
  refine cv_iand dJ6_bitCount_0f7a4_21 (by rw [p2]; omega) ?_
  refine cv_iadd dJ6_bitCount_0f7a4_22 ?_
  refine cv_topi ((bc2 n : Nat) : Int) e2 ?_
  refine cv_istore_n dJ6_bitCount_0f7a4_23 (by decide) rfl rfl ?_
  refine cv_iload_n dJ6_bitCount_0f7a4_24 rfl ?_
  refine cv_iload_n dJ6_bitCount_0f7a4_25 rfl ?_
  refine cv_iconst dJ6_bitCount_0f7a4_26 ?_
  refine cv_iushr dJ6_bitCount_0f7a4_27 (by omega) ?_
  refine cv_iadd dJ6_bitCount_0f7a4_28 ?_
  refine cv_ldcw dJ6_bitCount_0f7a4_29 kcJ6_267 ?_
  refine cv_iand dJ6_bitCount_0f7a4_32 (by rw [p4]; omega) ?_
  refine cv_topi ((bc3 n : Nat) : Int) e3 ?_
  refine cv_istore_n dJ6_bitCount_0f7a4_33 (by decide) rfl rfl ?_
  refine cv_iload_n dJ6_bitCount_0f7a4_34 rfl ?_
  refine cv_iload_n dJ6_bitCount_0f7a4_35 rfl ?_
  refine cv_bipush dJ6_bitCount_0f7a4_36 (by decide) ?_
  refine cv_iushr dJ6_bitCount_0f7a4_38 (by omega) ?_
  refine cv_iadd dJ6_bitCount_0f7a4_39 ?_
  refine cv_topi ((bc4 n : Nat) : Int) e4 ?_
  refine cv_istore_n dJ6_bitCount_0f7a4_40 (by decide) rfl rfl ?_
  refine cv_iload_n dJ6_bitCount_0f7a4_41 rfl ?_
  refine cv_iload_n dJ6_bitCount_0f7a4_42 rfl ?_
  refine cv_bipush dJ6_bitCount_0f7a4_43 (by decide) ?_
  refine cv_iushr dJ6_bitCount_0f7a4_45 (by omega) ?_
  refine cv_iadd dJ6_bitCount_0f7a4_46 ?_
  refine cv_topi ((bc5 n : Nat) : Int) e5 ?_
  refine cv_istore_n dJ6_bitCount_0f7a4_47 (by decide) rfl rfl ?_
  refine cv_iload_n dJ6_bitCount_0f7a4_48 rfl ?_
  refine cv_bipush dJ6_bitCount_0f7a4_49 (by decide) ?_
  refine cv_iand dJ6_bitCount_0f7a4_51 (by omega) ?_
  refine cv_iret rfl dJ6_bitCount_0f7a4_52 ⟨Nat.le_refl _, Nat.le_refl _⟩ ⟨ct_rI (bc6_e n hn), rfl⟩
theorem ct_gcd {a b : Nat} (hb : 0 < b) (h : b ≤ a) : 2 * (b * (a % b)) ≤ a * b := by
  have h1 := Nat.div_add_mod a b
  have h2 := Nat.mod_lt a hb
  have h3 : 1 ≤ a / b := (Nat.one_le_div_iff hb).mpr h
  have h4 : b * 1 ≤ b * (a / b) := Nat.mul_le_mul_left b h3
  have h5 : 2 * (a % b) ≤ a := by omega
  have h6 : b * (2 * (a % b)) ≤ b * a := Nat.mul_le_mul_left b h5
  rw [Nat.mul_comm a b]
  calc 2 * (b * (a % b)) = b * (2 * (a % b)) := by rw [Nat.mul_left_comm]
    _ ≤ b * a := h6
set_option maxRecDepth 100000 in
set_option maxHeartbeats 1000000 in
theorem c_X1_greatestDivisor (w : List ct_C) (a b : Nat) (ha : a < 2 ^ 30) (hb : b < 2 ^ 30) : CM MX1_greatestDivisor (0, 0, 0) [vI a, vI b] (w) (fun v w1 => v = some (vI ((Nat.gcd a b : Nat) : Int)) ∧ w1 = w) := by
  refine CM.of (by decide) (Nat.le_of_ble_eq_true rfl) ?_
  show CV MX1_greatestDivisor (0, 0, 0) w.length (0, 0) 0 [(0, vI a), (1, vI b)] [] (w) _
  have gz : ∀ i x y : Nat, (i = 0 ∨ (y < x ∨ y = 0) ∧ x * y < 2 ^ (61 - i)) → 100 ≤ i → y = 0 := by
    intro i x y hm hi
    rcases hm with h0 | ⟨h1, h2⟩
    · omega
    · rw [show 61 - i = 0 by omega] at h2
      rcases Nat.eq_zero_or_pos y with q | q
      · exact q
      · have : 1 * 1 ≤ x * y := Nat.mul_le_mul (by omega) q
        omega
  have loop : ∀ (k : Nat) (i x y : Nat), (i + k = 101) → (i ≤ 100) → (Nat.gcd x y = Nat.gcd a b) → (x < 2 ^ 30 ∧ y < 2 ^ 30) → (i = 0 ∨ (y < x ∨ y = 0) ∧ x * y < 2 ^ (61 - i)) → CV MX1_greatestDivisor (0, 0, 0) w.length (0, 0) 7 [(0, vI a), (1, vI b), (2, vI x), (3, vI y), (4, vI i)] [] (w) (fun v w1 => v = some (vI ((Nat.gcd a b : Nat) : Int)) ∧ w1 = w) := by
    intro k
    induction k with
    | zero => intro i x y hk hi hg hx hm; exact absurd hk (by omega)
    | succ k ih =>
      intro i x y hk hi hg hx hm
      have hmod : ((x : Int) % (y : Int)) = ((x % y : Nat) : Int) := rfl
      refine cv_iload dX1_greatestDivisor_7 rfl ?_
      refine cv_bipush dX1_greatestDivisor_9 (by decide) ?_
      refine cv_icmp_ge (tgt := 34) dX1_greatestDivisor_11 (by decide) (by omega) (fun h11 => ?_) (fun h11 => ?_)
      · skip
        refine cv_iload_n dX1_greatestDivisor_34 rfl ?_
        refine cv_iret rfl dX1_greatestDivisor_35 ⟨Nat.le_refl _, Nat.le_refl _⟩ ⟨ct_rI (by rw [← hg, gz i x y hm (by omega), Nat.gcd_zero_right]), rfl⟩
      · refine cv_iload_n dX1_greatestDivisor_14 rfl ?_
        refine cv_if_eq (tgt := 34) dX1_greatestDivisor_15 (by decide) (by omega) (fun h15 => ?_) (fun h15 => ?_)
        · skip
          refine cv_iload_n dX1_greatestDivisor_34 rfl ?_
          refine cv_iret rfl dX1_greatestDivisor_35 ⟨Nat.le_refl _, Nat.le_refl _⟩ ⟨ct_rI (by rw [← hg, show y = 0 by omega, Nat.gcd_zero_right]), rfl⟩
        · refine cv_iload_n dX1_greatestDivisor_18 rfl ?_
          refine cv_iload_n dX1_greatestDivisor_19 rfl ?_
          refine cv_irem dX1_greatestDivisor_20 (by omega) ?_
          refine cv_istore dX1_greatestDivisor_21 (by decide) rfl rfl ?_
          refine cv_iload_n dX1_greatestDivisor_23 rfl ?_
          refine cv_istore_n dX1_greatestDivisor_24 (by decide) rfl rfl ?_
          refine cv_iload dX1_greatestDivisor_25 rfl ?_
          refine cv_istore_n dX1_greatestDivisor_27 (by decide) rfl rfl ?_
          refine cv_iinc dX1_greatestDivisor_28 (by decide) rfl rfl rfl ?_
          refine cv_goto (tgt := 7) dX1_greatestDivisor_31 (by decide) ?_
          refine cv_loc [0, 1, 2, 3, 4] rfl ?_
          have y0 : 0 < y := by omega
          have hlt := Nat.mod_lt x y0
          refine ih (i + 1) y (x % y) (by omega) (by omega) (by rw [← hg, Nat.gcd_comm x y]; exact Nat.gcd_comm _ _ ▸ (Nat.gcd_rec y x).symm ▸ (by rw [Nat.gcd_comm])) ⟨hx.2, by omega⟩ (Or.inr ⟨Or.inl hlt, ?_⟩)
          rcases hm with h0 | ⟨h1, h2⟩
          · subst h0
            have : y * (x % y) < 2 ^ 30 * 2 ^ 30 := Nat.mul_lt_mul_of_lt_of_lt hx.2 (by omega)
            rw [← Nat.pow_add] at this
            exact this
          · have h3 := ct_gcd (a := x) y0 (by omega)
            have hi : i ≤ 60 := by
              rcases Nat.lt_or_ge 60 i with q | q
              · have : x * y < 1 := by rw [show 61 - i = 0 by omega] at h2; exact h2
                have : 1 * 1 ≤ x * y := Nat.mul_le_mul (by omega) y0
                omega
              · exact q
            rw [show 61 - i = (61 - (i + 1)) + 1 by omega, Nat.pow_succ] at h2
            omega
  refine cv_iload_n dX1_greatestDivisor_0 rfl ?_
  refine cv_istore_n dX1_greatestDivisor_1 (by decide) rfl rfl ?_
  refine cv_iload_n dX1_greatestDivisor_2 rfl ?_
  refine cv_istore_n dX1_greatestDivisor_3 (by decide) rfl rfl ?_
  refine cv_iconst dX1_greatestDivisor_4 ?_
  refine cv_istore dX1_greatestDivisor_5 (by decide) rfl rfl ?_
  exact loop 101 0 a b (by omega) (by omega) rfl ⟨ha, hb⟩ (Or.inl rfl)
