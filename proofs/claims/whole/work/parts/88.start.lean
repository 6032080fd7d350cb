/-! THE START: what the constructors leave is what both hold -/
def pm : List Nat := [13, 17, 18, 19, 20, 21, 22, 14, 15, 16, 1, 2, 3, 10, 4, 5, 6, 7, 8, 9, 36, 37, 38, 42, 43, 44, 45, 46, 47, 39, 40, 41, 48, 52, 53, 54, 55, 56, 57, 49, 50, 51, 58, 62, 63, 64, 65, 66, 67, 59, 60, 61, 68, 72, 73, 74, 75, 76, 77, 69, 70, 71, 78, 82, 83, 84, 85, 86, 87, 79, 80, 81, 88, 92, 93, 94, 95, 96, 97, 89, 90, 91, 98, 102, 103, 104, 105, 106, 107, 99, 100, 101, 108, 112, 113, 114, 115, 116, 117, 109, 110, 111, 118, 122, 123, 124, 125, 126, 127, 119, 120, 121, 128, 132, 133, 134, 135, 136, 137, 129, 130, 131, 138, 142, 143, 144, 145, 146, 147, 139, 140, 141, 148, 152, 153, 154, 155, 156, 157, 149, 150, 151, 158, 162, 163, 164, 165, 166, 167, 159, 160, 161, 168, 172, 173, 174, 175, 176, 177, 169, 170, 171, 33, 34, 35, 0, 23, 27, 28, 29, 30, 31, 32, 24, 25, 26, 11, 12, 201, 202, 203, 204, 205, 206, 207, 208, 178, 179, 180, 181, 185, 186, 187, 188, 189, 190, 182, 183, 184, 191, 195, 196, 197, 198, 199, 200, 192, 193, 194]
def x0 : ctX := (zF, zF, zF, zF)
def y0 : ctY := (0, zF, 0, zF, zF)
def c0 : ctW := (0, zF)
def k0 : ctK := (S0, S0, zF)
def wT0 : List ct_C := wTop T0 S0 0 (fun i => i) (fun _ => S0) S0 x0 y0 c0 k0 0
set_option maxRecDepth 200000 in
set_option maxHeartbeats 8000000 in
theorem pm_sub : pm.map (fun i => wIn[i]?) = (wT0.map (ct_rc (ct_pl pm))).map some := rfl
set_option maxRecDepth 200000 in
theorem pm_nd : va_nd pm = true := by decide +kernel
theorem okT0 : okT T0 := by
  refine ⟨by decide, by decide, by decide, fun x hx => ?_, fun x hx hx4 => ?_, fun r x hr hx => ?_, fun r x hr => ?_, fun r hr => ?_⟩
  · show 0 ≤ ct_up zF 0 9 x ∧ ct_up zF 0 9 x ≤ 9
    by_cases e : x = 0
    · subst e; rw [ct_up_s]; omega
    · rw [ct_up_n e]; show (0 : Int) ≤ 0 ∧ (0 : Int) ≤ 9; omega
  · show ct_up zF 0 9 x = 0
    have hx' : 1 ≤ x := hx
    rw [ct_up_n (by omega)]
  · show -3 ≤ (0 : Int) ∧ (0 : Int) ≤ 3; omega
  · have hr' : r < 0 := hr
    omega
  · show -30 ≤ (0 : Int) ∧ (0 : Int) ≤ 30; omega
theorem J0 : J T0 S0 := by
  refine ⟨⟨fun i hi => absurd hi (Nat.not_lt_zero _), fun x hx => ⟨zLo_at 4 x, zHi_at (tT T0) 4 x hx⟩⟩, ⟨fun i hi => absurd hi (Nat.not_lt_zero _), fun i hi => absurd hi (Nat.not_lt_zero _), by show 0 ≤ 40; omega, fun c hc => absurd hc (Nat.not_lt_zero _), fun c k hc => absurd hc (Nat.not_lt_zero _), Or.inl rfl⟩, fun i j _ hj => absurd hj (Nat.not_lt_zero _)⟩
theorem I20 : I2 T0 S0 := ⟨⟨J0, fun h => absurd rfl h, fun h => absurd h (by show ¬ (0 : Int) = 1; decide)⟩, fun i hi => absurd hi (Nat.not_lt_zero _), fun c k l hc => absurd hc (Nat.not_lt_zero _)⟩
theorem CI0 : CI T0 S0 0 (fun i => i) (fun _ => S0) y0 c0 k0 := by
  refine ⟨okT0, I20, by omega, fun i hi => hi, fun i j _ _ h => h, fun i _ => J_wk okT0 J0, fun i hi => absurd hi (Nat.not_lt_zero _), ⟨by show 0 ≤ 60; omega, by show 0 ≤ 6; omega, fun i hi => absurd hi (Nat.not_lt_zero _)⟩, fun i _ => by show (0 : Int) ≤ 0 ∧ (0 : Int) ≤ 255; omega, Or.inl rfl, J_wk okT0 J0, J_wk okT0 J0, fun s _ => Or.inl rfl, fun s _ h => absurd h (by show ¬ (0 : Int) = 1; decide)⟩
theorem QM0 : QM T0 S0 0 (fun _ => S0) y0 k0 0 (wM 5 6 T0 zF A0 0 0 zF zF) := by
  refine ⟨zF, A0, 0, 0, zF, zF, rfl, fun r _ => by show -9 ≤ (0 : Int) ∧ (0 : Int) ≤ 100; omega, ⟨fun x hx => rfl, fun r x hr => absurd hr (Nat.not_lt_zero _), fun r hr => absurd hr (Nat.not_lt_zero _)⟩, ⟨rfl, fun i hi => absurd hi (Nat.not_lt_zero _), rfl, fun c hc => absurd hc (Nat.not_lt_zero _), rfl⟩, ⟨rfl, fun i hi => absurd hi (Nat.not_lt_zero _)⟩, ⟨rfl, by omega, by show (0 : Int) ≤ 0; omega, by show (0 : Int) < 14; omega, fun i hi => absurd hi (Nat.not_lt_zero _)⟩, fun s hs => ⟨?_, Or.inl rfl, fun h => absurd h (by show ¬ (0 : Int) = 1; decide)⟩, ⟨rfl, fun i hi => absurd hi (Nat.not_lt_zero _)⟩, rfl⟩
  rfl
theorem JI0 : JI wT0 (wM 5 6 T0 zF A0 0 0 zF zF) := ⟨T0, S0, 0, (fun i => i), (fun _ => S0), S0, x0, y0, c0, k0, 0, CI0, rfl, QM0⟩
