/-! ALL VALUES, ONE AFTER THE OTHER, BY A NUMBER -/
def sU (h : Nat → Int) : Nat → Int
  | 0 => 0
  | n + 1 => sU h n + h n
theorem sU_c {g h : Nat → Int} : ∀ {n : Nat}, (∀ i, i < n → g i = h i) → sU g n = sU h n
  | 0, _ => rfl
  | n + 1, e => by
    show sU g n + g n = sU h n + h n
    rw [sU_c (fun i hi => e i (by omega)), e n (by omega)]
theorem sU_app (h : Nat → Int) (a : Nat) : ∀ b, sU h (a + b) = sU h a + sU (fun i => h (a + i)) b
  | 0 => by show sU h a = sU h a + 0; omega
  | b + 1 => by
    show sU h (a + b) + h (a + b) = sU h a + (sU (fun i => h (a + i)) b + h (a + b))
    rw [sU_app h a b]
    omega
theorem sU_mul (h : Nat → Int) (B : Nat) : ∀ A, sU h (A * B) = sU (fun a => sU (fun b => h (a * B + b)) B) A
  | 0 => by rw [Nat.zero_mul]; rfl
  | A + 1 => by
    rw [Nat.succ_mul, sU_app, sU_mul h B A]
    rfl
theorem sN_U (g : Int → Int) : ∀ n, sN g 0 n = sU (fun i => g (i : Int)) n
  | 0 => rfl
  | n + 1 => by
    show sN g 0 n + g (0 + (n : Int)) = sU (fun i => g (i : Int)) n + g (n : Int)
    rw [sN_U g n, Int.zero_add]
theorem sU_r {h : Nat → Int} : ∀ {n : Nat}, (∀ i, i < n → 0 ≤ h i ∧ h i ≤ 1) → 0 ≤ sU h n ∧ sU h n ≤ (n : Int)
  | 0, _ => by simp [sU]
  | n + 1, e => by
    have h1 := sU_r (h := h) (n := n) (fun i hi => e i (by omega))
    have h2 := e n (by omega)
    show 0 ≤ sU h n + h n ∧ sU h n + h n ≤ ((n + 1 : Nat) : Int)
    omega
theorem sU_i0 {P : Nat → Prop} : ∀ {n : Nat}, sU (fun m => ct_i (P m)) n = 0 ↔ ∀ m, m < n → ¬ P m
  | 0 => ⟨fun _ m hm => absurd hm (Nat.not_lt_zero _), fun _ => rfl⟩
  | n + 1 => by
    have ih := sU_i0 (P := P) (n := n)
    have h1 := sU_r (h := fun m => ct_i (P m)) (n := n) (fun i _ => ct_i_r _)
    have h2 := ct_i_r (P n)
    constructor
    · intro e m hm
      have e' : sU (fun m => ct_i (P m)) n + ct_i (P n) = 0 := e
      by_cases q : m = n
      · subst q; exact ct_i_0.mp (by omega)
      · exact ih.mp (by omega) m (by omega)
    · intro e
      show sU (fun m => ct_i (P m)) n + ct_i (P n) = 0
      rw [ih.mpr (fun m hm => e m (by omega)), ct_i_f (e n (by omega))]
      rfl
def nAll (T : ctT) : Nat := nV T 0 * nV T 1 * nV T 2 * nV T 3
def dP (T : ctT) (m : Nat) : Nat → Nat
  | 0 => m
  | j + 1 => dP T m j / nV T (3 - j)
def dV (T : ctT) (m x : Nat) : Int := ((dP T m (3 - x) % nV T x : Nat) : Int)
theorem nV_p (T : ctT) (x : Nat) : 0 < nV T x := Nat.succ_pos _
theorem hor {x n d : Nat} (h : d < n) : (x * n + d) / n = x ∧ (x * n + d) % n = d := by
  constructor
  · rw [Nat.add_comm, Nat.add_mul_div_right _ _ (by omega), Nat.div_eq_of_lt h, Nat.zero_add]
  · rw [Nat.add_comm, Nat.add_mul_mod_self_right, Nat.mod_eq_of_lt h]
theorem S4_U {T : ctT} (g : Int → Int → Int → Int → Int) : S4 T g = sU (fun m => g (dV T m 0) (dV T m 1) (dV T m 2) (dV T m 3)) (nAll T) := by
  unfold nAll
  rw [sU_mul, sU_mul, sU_mul]
  unfold S4 S3 S2 S1
  rw [sN_U]
  refine sU_c (fun a ha => ?_)
  show sN _ 0 _ = _
  rw [sN_U]
  refine sU_c (fun b hb => ?_)
  show sN _ 0 _ = _
  rw [sN_U]
  refine sU_c (fun c hc => ?_)
  show sN _ 0 _ = _
  rw [sN_U]
  refine sU_c (fun d hd => ?_)
  obtain ⟨q1, r1⟩ := hor (x := (a * nV T 1 + b) * nV T 2 + c) hd
  obtain ⟨q2, r2⟩ := hor (x := a * nV T 1 + b) hc
  obtain ⟨q3, r3⟩ := hor (x := a) hb
  have e0 : dP T (((a * nV T 1 + b) * nV T 2 + c) * nV T 3 + d) 0 = ((a * nV T 1 + b) * nV T 2 + c) * nV T 3 + d := rfl
  have e1 : dP T (((a * nV T 1 + b) * nV T 2 + c) * nV T 3 + d) 1 = (a * nV T 1 + b) * nV T 2 + c := q1
  have e2 : dP T (((a * nV T 1 + b) * nV T 2 + c) * nV T 3 + d) 2 = a * nV T 1 + b := by
    show dP T (((a * nV T 1 + b) * nV T 2 + c) * nV T 3 + d) 1 / nV T 2 = _
    rw [e1]; exact q2
  have e3 : dP T (((a * nV T 1 + b) * nV T 2 + c) * nV T 3 + d) 3 = a := by
    show dP T (((a * nV T 1 + b) * nV T 2 + c) * nV T 3 + d) 2 / nV T 1 = _
    rw [e2]; exact q3
  have v0 : dV T (((a * nV T 1 + b) * nV T 2 + c) * nV T 3 + d) 0 = (a : Int) := by
    show ((dP T _ 3 % nV T 0 : Nat) : Int) = _
    rw [e3, Nat.mod_eq_of_lt ha]
  have v1 : dV T (((a * nV T 1 + b) * nV T 2 + c) * nV T 3 + d) 1 = (b : Int) := by
    show ((dP T _ 2 % nV T 1 : Nat) : Int) = _
    rw [e2, r3]
  have v2 : dV T (((a * nV T 1 + b) * nV T 2 + c) * nV T 3 + d) 2 = (c : Int) := by
    show ((dP T _ 1 % nV T 2 : Nat) : Int) = _
    rw [e1, r2]
  have v3 : dV T (((a * nV T 1 + b) * nV T 2 + c) * nV T 3 + d) 3 = (d : Int) := by
    show ((dP T _ 0 % nV T 3 : Nat) : Int) = _
    rw [e0, r1]
  rw [v0, v1, v2, v3]
theorem dP_4 {T : ctT} {m : Nat} : dP T m 4 = 0 ↔ m < nAll T := by
  show m / nV T 3 / nV T 2 / nV T 1 / nV T 0 = 0 ↔ _
  rw [Nat.div_div_eq_div_mul, Nat.div_div_eq_div_mul, Nat.div_div_eq_div_mul]
  have e : nV T 3 * (nV T 2 * (nV T 1 * nV T 0)) = nAll T := by
    unfold nAll
    rw [Nat.mul_comm (nV T 1), Nat.mul_comm (nV T 2), Nat.mul_comm (nV T 3)]
  rw [e]
  have p : 0 < nAll T := by
    unfold nAll
    exact Nat.mul_pos (Nat.mul_pos (Nat.mul_pos (nV_p T 0) (nV_p T 1)) (nV_p T 2)) (nV_p T 3)
  constructor
  · intro h
    exact (Nat.div_eq_zero_iff_lt p).mp h
  · intro h
    exact Nat.div_eq_of_lt h
theorem nAll_r {T : ctT} (hT : okT T) : nAll T ≤ 10000 := by
  have n : ∀ x, x < 4 → nV T x ≤ 10 := fun x hx => by have := hT.2.2.2.1 x hx; unfold nV; omega
  unfold nAll
  have h1 := Nat.mul_le_mul (n 0 (by omega)) (n 1 (by omega))
  have h2 := Nat.mul_le_mul h1 (n 2 (by omega))
  exact Nat.mul_le_mul h2 (n 3 (by omega))
theorem dP_le (T : ctT) (m : Nat) : ∀ j, dP T m j ≤ m
  | 0 => Nat.le_refl _
  | j + 1 => Nat.le_trans (Nat.div_le_self _ _) (dP_le T m j)
theorem dV_r {T : ctT} (hT : okT T) (m : Nat) {x : Nat} (hx : x < 4) : 0 ≤ dV T m x ∧ dV T m x ≤ tT T x := by
  have h1 := hT.2.2.2.1 x hx
  have h2 := Nat.mod_lt (dP T m (3 - x)) (nV_p T x)
  have h3 : nV T x = (tT T x).toNat + 1 := rfl
  unfold dV
  omega
theorem dV_0 {T : ctT} (hT : okT T) (m : Nat) {x : Nat} (h : tN T ≤ x) (hx : x < 4) : dV T m x = 0 := by
  have h1 := dV_r hT m hx
  have h2 := hT.2.2.2.2.1 x h hx
  omega
theorem dP_N {T : ctT} (hT : okT T) (m : Nat) : ∀ j, j + tN T ≤ 4 → dP T m j = m
  | 0, _ => rfl
  | j + 1, h => by
    have h2 := hT.2.2.2.2.1 (3 - j) (by omega) (by omega)
    show dP T m j / nV T (3 - j) = m
    rw [dP_N hT m j (by omega), show nV T (3 - j) = 1 by unfold nV; omega, Nat.div_one]
/-! COUNTS IN A BOX ARE COUNTS OVER ALL VALUES -/
theorem sN_sub0 {g : Int → Int} {lo hi : Int} (h0 : 0 ≤ lo) : ∀ n : Nat, sN (fun i => if lo ≤ i ∧ i ≤ hi then g i else 0) 0 n = sN g lo (min (hi + 1) n - lo).toNat
  | 0 => by
    rw [show (min (hi + 1) ((0 : Nat) : Int) - lo).toNat = 0 by omega]
    rfl
  | n + 1 => by
    show sN (fun i => if lo ≤ i ∧ i ≤ hi then g i else 0) 0 n + (if lo ≤ 0 + (n : Int) ∧ 0 + (n : Int) ≤ hi then g (0 + (n : Int)) else 0) = _
    rw [sN_sub0 h0 n]
    by_cases q : lo ≤ 0 + (n : Int) ∧ 0 + (n : Int) ≤ hi
    · rw [if_pos q, show (min (hi + 1) ((n + 1 : Nat) : Int) - lo).toNat = (min (hi + 1) (n : Int) - lo).toNat + 1 by omega]
      show _ = sN g lo _ + g (lo + (((min (hi + 1) (n : Int) - lo).toNat : Nat) : Int))
      rw [show lo + (((min (hi + 1) (n : Int) - lo).toNat : Nat) : Int) = 0 + (n : Int) by omega]
    · rw [if_neg q, show (min (hi + 1) ((n + 1 : Nat) : Int) - lo).toNat = (min (hi + 1) (n : Int) - lo).toNat by omega]
      omega
theorem sN_sub {g : Int → Int} {lo hi : Int} (h0 : 0 ≤ lo) {n : Nat} (hn : hi < n) : sN g lo (hi - lo + 1).toNat = sN (fun i => if lo ≤ i ∧ i ≤ hi then g i else 0) 0 n := by
  rw [sN_sub0 h0 n, show (min (hi + 1) (n : Int) - lo).toNat = (hi - lo + 1).toNat by omega]
theorem sN_if {P : Prop} [Decidable P] {g : Int → Int} {lo : Int} : ∀ {k : Nat}, (if P then sN g lo k else 0) = sN (fun i => if P then g i else 0) lo k
  | 0 => by split <;> rfl
  | k + 1 => by
    have ih := sN_if (P := P) (g := g) (lo := lo) (k := k)
    show _ = sN (fun i => if P then g i else 0) lo k + if P then g (lo + k) else 0
    rw [← ih]
    split
    · rfl
    · rfl
def bxV (f t v : Nat → Int) : Prop := ∀ x, x < 4 → f x ≤ v x ∧ v x ≤ t x
def kpV (T : ctT) (v : Nat → Int) : Prop := kpR T (v 0) (v 1) (v 2) (v 3) (tR T)
theorem box_U {T : ctT} {f t : Nat → Int} (hT : okT T) (h : ∀ x, x < 4 → 0 ≤ f x ∧ t x ≤ tT T x) : fBox T f t = sU (fun m => ct_i (kpV T (dV T m) ∧ bxV f t (dV T m))) (nAll T) := by
  have nv : ∀ x, x < 4 → t x < (nV T x : Int) := fun x hx => by
    have h1 := h x hx
    have h2 := hT.2.2.2.1 x hx
    unfold nV
    omega
  have e3 : ∀ a b c, fC3 T f t a b c = S1 T (fun d => if f 3 ≤ d ∧ d ≤ t 3 then ct_i (kpR T a b c d (tR T)) else 0) := fun a b c => sN_sub (h 3 (by omega)).1 (nv 3 (by omega))
  have e2 : ∀ a b, fC2 T f t a b = S2 T (fun c d => if f 2 ≤ c ∧ c ≤ t 2 then (if f 3 ≤ d ∧ d ≤ t 3 then ct_i (kpR T a b c d (tR T)) else 0) else 0) := fun a b => by
    refine (sN_sub (h 2 (by omega)).1 (nv 2 (by omega))).trans (sN_c (fun c _ _ => ?_))
    show (if f 2 ≤ c ∧ c ≤ t 2 then fC3 T f t a b c else 0) = _
    rw [e3]
    exact sN_if
  have e1 : ∀ a, fC1 T f t a = S3 T (fun b c d => if f 1 ≤ b ∧ b ≤ t 1 then (if f 2 ≤ c ∧ c ≤ t 2 then (if f 3 ≤ d ∧ d ≤ t 3 then ct_i (kpR T a b c d (tR T)) else 0) else 0) else 0) := fun a => by
    refine (sN_sub (h 1 (by omega)).1 (nv 1 (by omega))).trans (sN_c (fun b _ _ => ?_))
    show (if f 1 ≤ b ∧ b ≤ t 1 then fC2 T f t a b else 0) = _
    rw [e2]
    refine sN_if.trans (sN_c (fun c _ _ => ?_))
    exact sN_if
  have e0 : fBox T f t = S4 T (fun a b c d => if f 0 ≤ a ∧ a ≤ t 0 then (if f 1 ≤ b ∧ b ≤ t 1 then (if f 2 ≤ c ∧ c ≤ t 2 then (if f 3 ≤ d ∧ d ≤ t 3 then ct_i (kpR T a b c d (tR T)) else 0) else 0) else 0) else 0) := by
    refine (sN_sub (h 0 (by omega)).1 (nv 0 (by omega))).trans (sN_c (fun a _ _ => ?_))
    show (if f 0 ≤ a ∧ a ≤ t 0 then fC1 T f t a else 0) = _
    rw [e1]
    refine sN_if.trans (sN_c (fun b _ _ => ?_))
    refine sN_if.trans (sN_c (fun c _ _ => ?_))
    exact sN_if
  rw [e0, S4_U]
  refine sU_c (fun m hm => ?_)
  show (if f 0 ≤ dV T m 0 ∧ dV T m 0 ≤ t 0 then (if f 1 ≤ dV T m 1 ∧ dV T m 1 ≤ t 1 then (if f 2 ≤ dV T m 2 ∧ dV T m 2 ≤ t 2 then (if f 3 ≤ dV T m 3 ∧ dV T m 3 ≤ t 3 then ct_i (kpV T (dV T m)) else 0) else 0) else 0) else 0) = ct_i (kpV T (dV T m) ∧ bxV f t (dV T m))
  by_cases q : bxV f t (dV T m)
  · rw [if_pos (q 0 (by omega)), if_pos (q 1 (by omega)), if_pos (q 2 (by omega)), if_pos (q 3 (by omega))]
    by_cases k : kpV T (dV T m)
    · rw [ct_i_t k, ct_i_t (P := kpV T (dV T m) ∧ bxV f t (dV T m)) ⟨k, q⟩]
    · rw [ct_i_f k, ct_i_f (P := kpV T (dV T m) ∧ bxV f t (dV T m)) (fun z => k z.1)]
  · rw [ct_i_f (P := kpV T (dV T m) ∧ bxV f t (dV T m)) (fun z => q z.2)]
    by_cases q0 : f 0 ≤ dV T m 0 ∧ dV T m 0 ≤ t 0
    · rw [if_pos q0]
      by_cases q1 : f 1 ≤ dV T m 1 ∧ dV T m 1 ≤ t 1
      · rw [if_pos q1]
        by_cases q2 : f 2 ≤ dV T m 2 ∧ dV T m 2 ≤ t 2
        · rw [if_pos q2]
          by_cases q3 : f 3 ≤ dV T m 3 ∧ dV T m 3 ≤ t 3
          · refine absurd (fun x hx => ?_) q
            rcases (show x = 0 ∨ x = 1 ∨ x = 2 ∨ x = 3 by omega) with rfl | rfl | rfl | rfl
            · exact q0
            · exact q1
            · exact q2
            · exact q3
          · rw [if_neg q3]
        · rw [if_neg q2]
      · rw [if_neg q1]
    · rw [if_neg q0]
/-! MARKS AND VALUES -/
def ftP (m : Int) (v : Nat → Int) : Prop := (m / 10 % 10 = 0 → m % 10 ≤ v (m / 100).toNat) ∧ (¬ m / 10 % 10 = 0 → v (m / 100).toNat ≤ m % 10)
theorem hold_V {f t v : Nat → Int} {m s : Int} (hm : (m / 100).toNat < 4) : bxV (fH0 f m s) (fH1 t m s) v ↔ bxV f t v ∧ (if s = 0 then ¬ ftP m v else ftP m v) := by
  have key : ∀ (F G : Nat → Int) (a b : Int), (∀ x, x < 4 → ¬ x = (m / 100).toNat → F x = f x ∧ G x = t x) → F (m / 100).toNat = a → G (m / 100).toNat = b → (bxV F G v ↔ (∀ x, x < 4 → ¬ x = (m / 100).toNat → f x ≤ v x ∧ v x ≤ t x) ∧ a ≤ v (m / 100).toNat ∧ v (m / 100).toNat ≤ b) := fun F G a b h1 h2 h3 => by
    constructor
    · intro z
      refine ⟨fun x hx e => ?_, ?_⟩
      · have := z x hx
        rw [(h1 x hx e).1, (h1 x hx e).2] at this
        exact this
      · have := z _ hm
        rw [h2, h3] at this
        exact this
    · intro z x hx
      by_cases e : x = (m / 100).toNat
      · subst e; rw [h2, h3]; exact z.2
      · rw [(h1 x hx e).1, (h1 x hx e).2]; exact z.1 x hx e
  have k0 := key f t (f (m / 100).toNat) (t (m / 100).toNat) (fun _ _ _ => ⟨rfl, rfl⟩) rfl rfl
  unfold fH0 fH1 ftP
  by_cases c : m / 10 % 10 = 0
  · by_cases d : s = 0
    · rw [if_neg (by omega), if_neg (by omega), if_pos ⟨c, d⟩, if_pos d]
      rw [key f (ct_up t (m / 100).toNat _) (f (m / 100).toNat) (min (t (m / 100).toNat) (m % 10 - 1)) (fun x _ e => ⟨rfl, ct_up_n e⟩) rfl ct_up_s, k0]
      constructor
      · intro z; exact ⟨⟨z.1, by omega⟩, fun y => by have := y.1 c; omega⟩
      · intro z
        have y : ¬ m % 10 ≤ v (m / 100).toNat := fun q => z.2 ⟨fun _ => q, fun q2 => absurd c q2⟩
        exact ⟨z.1.1, by omega⟩
    · rw [if_pos ⟨c, d⟩, if_neg (by omega), if_neg (by omega), if_neg d]
      rw [key (ct_up f (m / 100).toNat _) t (max (f (m / 100).toNat) (m % 10)) (t (m / 100).toNat) (fun x _ e => ⟨ct_up_n e, rfl⟩) ct_up_s rfl, k0]
      constructor
      · intro z; exact ⟨⟨z.1, by omega⟩, fun _ => by omega, fun q => absurd c q⟩
      · intro z
        have y := z.2.1 c
        exact ⟨z.1.1, by omega⟩
  · by_cases d : s = 0
    · rw [if_neg (by omega), if_pos ⟨c, d⟩, if_neg (by omega), if_neg (by omega), if_pos d]
      rw [key (ct_up f (m / 100).toNat _) t (max (f (m / 100).toNat) (m % 10 + 1)) (t (m / 100).toNat) (fun x _ e => ⟨ct_up_n e, rfl⟩) ct_up_s rfl, k0]
      constructor
      · intro z; exact ⟨⟨z.1, by omega⟩, fun y => by have := y.2 c; omega⟩
      · intro z
        have y : ¬ v (m / 100).toNat ≤ m % 10 := fun q => z.2 ⟨fun q2 => absurd q2 c, fun _ => q⟩
        exact ⟨z.1.1, by omega⟩
    · rw [if_neg (by omega), if_neg (by omega), if_neg (by omega), if_pos ⟨c, d⟩, if_neg d]
      rw [key f (ct_up t (m / 100).toNat _) (f (m / 100).toNat) (min (t (m / 100).toNat) (m % 10)) (fun x _ e => ⟨rfl, ct_up_n e⟩) rfl ct_up_s, k0]
      constructor
      · intro z; exact ⟨⟨z.1, by omega⟩, fun q => absurd q c, fun _ => by omega⟩
      · intro z
        have y := z.2.2 c
        exact ⟨z.1.1, by omega⟩
theorem hold_R {T : ctT} {f t : Nat → Int} {m s : Int} (h : ∀ x, x < 4 → 0 ≤ f x ∧ t x ≤ tT T x) (hm : 0 ≤ m) : ∀ x, x < 4 → 0 ≤ fH0 f m s x ∧ fH1 t m s x ≤ tT T x := by
  intro x hx
  have h0 := h x hx
  constructor
  · unfold fH0
    split
    · by_cases e : x = (m / 100).toNat
      · subst e; rw [ct_up_s]; omega
      · rw [ct_up_n e]; exact h0.1
    · split
      · by_cases e : x = (m / 100).toNat
        · subst e; rw [ct_up_s]; omega
        · rw [ct_up_n e]; exact h0.1
      · exact h0.1
  · unfold fH1
    split
    · by_cases e : x = (m / 100).toNat
      · subst e; rw [ct_up_s]; omega
      · rw [ct_up_n e]; exact h0.2
    · split
      · by_cases e : x = (m / 100).toNat
        · subst e; rw [ct_up_s]; omega
        · rw [ct_up_n e]; exact h0.2
      · exact h0.2
theorem bW_V {T : ctT} {S : ctS} {c n : Nat} (hT : okT T) (hm : ∀ k, k < n → okM T (sCm S (8 * c + k))) {v : Nat → Int} : ∀ k, k ≤ n → (∀ x, x < 4 → 0 ≤ (bW S c ((fun _ => 0), tT T) k).1 x ∧ (bW S c ((fun _ => 0), tT T) k).2 x ≤ tT T x) ∧ (bxV (bW S c ((fun _ => 0), tT T) k).1 (bW S c ((fun _ => 0), tT T) k).2 v ↔ bxV (fun _ => 0) (tT T) v ∧ ∀ j, j < k → ftP (sCm S (8 * c + j)) v)
  | 0, _ => ⟨fun x _ => ⟨Int.le_refl _, Int.le_refl _⟩, ⟨fun z => ⟨z, fun j hj => absurd hj (Nat.not_lt_zero _)⟩, fun z => z.1⟩⟩
  | k + 1, hk => by
    obtain ⟨i1, i2⟩ := bW_V hT hm (v := v) k (by omega)
    have h1 := hm k (by omega)
    have hN := hT.2.1
    unfold okM at h1
    refine ⟨hold_R i1 h1.1, ?_⟩
    show bxV (fH0 (bW S c ((fun _ => 0), tT T) k).1 (sCm S (8 * c + k)) 1) (fH1 (bW S c ((fun _ => 0), tT T) k).2 (sCm S (8 * c + k)) 1) v ↔ _
    rw [hold_V (by omega), i2, if_neg (by decide)]
    constructor
    · intro z
      refine ⟨z.1.1, fun j hj => ?_⟩
      rcases Nat.lt_succ_iff_lt_or_eq.mp hj with q | q
      · exact z.1.2 j q
      · subst q; exact z.2
    · intro z
      exact ⟨⟨z.1, fun j hj => z.2 j (by omega)⟩, z.2 k (by omega)⟩
theorem bS_V {T : ctT} {g h : Nat → Int} {n : Nat} (hT : okT T) (hg : ∀ k, k < n → 0 ≤ g k) {v : Nat → Int} : ∀ k, k ≤ n → (∀ x, x < 4 → 0 ≤ (bS T g h ((fun _ => 0), tT T) k).1 x ∧ (bS T g h ((fun _ => 0), tT T) k).2 x ≤ tT T x) ∧ (bxV (bS T g h ((fun _ => 0), tT T) k).1 (bS T g h ((fun _ => 0), tT T) k).2 v ↔ bxV (fun _ => 0) (tT T) v ∧ ∀ j, j < k → g j / 100 < (tN T : Int) → (if h j = 0 then ¬ ftP (g j) v else ftP (g j) v))
  | 0, _ => ⟨fun x _ => ⟨Int.le_refl _, Int.le_refl _⟩, ⟨fun z => ⟨z, fun j hj => absurd hj (Nat.not_lt_zero _)⟩, fun z => z.1⟩⟩
  | k + 1, hk => by
    obtain ⟨i1, i2⟩ := bS_V hT hg (h := h) (v := v) k (by omega)
    have h1 := hg k (by omega)
    have hN := hT.2.1
    unfold bS
    by_cases c : g k / 100 < (tN T : Int)
    · rw [if_pos c]
      refine ⟨hold_R i1 h1, ?_⟩
      show bxV (fH0 (bS T g h ((fun _ => 0), tT T) k).1 (g k) (h k)) (fH1 (bS T g h ((fun _ => 0), tT T) k).2 (g k) (h k)) v ↔ _
      rw [hold_V (by omega), i2]
      constructor
      · intro z
        refine ⟨z.1.1, fun j hj hc => ?_⟩
        rcases Nat.lt_succ_iff_lt_or_eq.mp hj with q | q
        · exact z.1.2 j q hc
        · subst q; exact z.2
      · intro z
        exact ⟨⟨z.1, fun j hj hc => z.2 j (by omega) hc⟩, z.2 k (by omega) c⟩
    · rw [if_neg c]
      refine ⟨i1, i2.trans ⟨fun z => ⟨z.1, fun j hj hc => ?_⟩, fun z => ⟨z.1, fun j hj hc => z.2 j (by omega) hc⟩⟩⟩
      rcases Nat.lt_succ_iff_lt_or_eq.mp hj with q | q
      · exact z.2 j q hc
      · subst q; exact absurd hc c
theorem dV_open {T : ctT} (hT : okT T) (m : Nat) : bxV (fun _ => 0) (tT T) (dV T m) := fun _ hx => dV_r hT m hx
theorem all_U {T : ctT} (hT : okT T) : fAll T = sU (fun m => ct_i (kpV T (dV T m))) (nAll T) := by
  unfold fAll
  rw [box_U hT (fun x _ => ⟨Int.le_refl _, Int.le_refl _⟩)]
  refine sU_c (fun m _ => ?_)
  by_cases k : kpV T (dV T m)
  · rw [ct_i_t k, ct_i_t ⟨k, dV_open hT m⟩]
  · rw [ct_i_f k, ct_i_f (fun z => k z.1)]
theorem along_U {T : ctT} {S : ctS} (hT : okT T) (hJ : J T S) : fBox T (sLo S) (sHi S) = sU (fun m => ct_i (kpV T (dV T m) ∧ ∀ x, x < tN T → sLo S x ≤ dV T m x ∧ dV T m x ≤ sHi S x)) (nAll T) := by
  have hg := J_g hT hJ
  rw [box_U hT (fun x hx => ⟨(hg.1.2.2.2.2.1 x hx).1, (hg.2.1 x hx).2⟩)]
  refine sU_c (fun m _ => ct_i_c ⟨fun z => ⟨z.1, fun x hx => z.2 x (by have := hT.2.1; omega)⟩, fun z => ⟨z.1, fun x hx => ?_⟩⟩)
  by_cases c : x < tN T
  · exact z.2 x c
  · have h1 := dV_0 hT m (by omega) hx
    have h2 := hg.2.1 x hx
    have h3 := hg.1.2.2.2.2.1 x hx
    have h4 := hT.2.2.2.2.1 x (by omega) hx
    omega
theorem wi_U {T : ctT} {S : ctS} (hT : okT T) (hJ : J T S) {c : Nat} (hc : c < sC S) : fWi T S c = sU (fun m => ct_i (kpV T (dV T m) ∧ ∀ j, j < (sCs S c).toNat → ftP (sCm S (8 * c + j)) (dV T m))) (nAll T) := by
  have hm : ∀ k, k < (sCs S c).toNat → okM T (sCm S (8 * c + k)) := fun k hk => J_C hJ c k hc (by omega)
  unfold fWi
  rw [box_U hT (bW_V hT hm (v := fun _ => 0) _ (Nat.le_refl _)).1]
  refine sU_c (fun m _ => ct_i_c ?_)
  rw [(bW_V hT hm (v := dV T m) _ (Nat.le_refl _)).2]
  exact ⟨fun z => ⟨z.1, z.2.2⟩, fun z => ⟨z.1, dV_open hT m, z.2⟩⟩
theorem ws_U {T : ctT} {g h : Nat → Int} {n : Nat} (hT : okT T) (hg : ∀ k, k < n → 0 ≤ g k) : fWs T n g h = sU (fun m => ct_i (kpV T (dV T m) ∧ ∀ j, j < n → g j / 100 < (tN T : Int) → (if h j = 0 then ¬ ftP (g j) (dV T m) else ftP (g j) (dV T m)))) (nAll T) := by
  unfold fWs
  rw [box_U hT (bS_V hT hg (v := fun _ => 0) _ (Nat.le_refl _)).1]
  refine sU_c (fun m _ => ct_i_c ?_)
  rw [(bS_V hT hg (v := dV T m) _ (Nat.le_refl _)).2]
  exact ⟨fun z => ⟨z.1, z.2.2⟩, fun z => ⟨z.1, dV_open hT m, z.2⟩⟩
theorem le_U {T : ctT} (hT : okT T) {x k : Nat} (hx : x < 4) (hk : (k : Int) ≤ tT T x) : 0 < fBox T (ct_up (fun _ => 0) x k) (ct_up (tT T) x k) ↔ ∃ m, m < nAll T ∧ kpV T (dV T m) ∧ dV T m x = (k : Int) := by
  rw [box_U hT (fun z hz => by
    by_cases e : z = x
    · subst e; rw [ct_up_s, ct_up_s]; omega
    · rw [ct_up_n e, ct_up_n e]; exact ⟨Int.le_refl _, Int.le_refl _⟩)]
  have h1 := sU_r (h := fun m => ct_i (kpV T (dV T m) ∧ bxV (ct_up (fun _ => 0) x k) (ct_up (tT T) x k) (dV T m))) (n := nAll T) (fun _ _ => ct_i_r _)
  have h2 := sU_i0 (P := fun m => kpV T (dV T m) ∧ bxV (ct_up (fun _ => 0) x (k : Int)) (ct_up (tT T) x (k : Int)) (dV T m)) (n := nAll T)
  have bx : ∀ m, bxV (ct_up (fun _ => 0) x (k : Int)) (ct_up (tT T) x (k : Int)) (dV T m) ↔ dV T m x = (k : Int) := fun m => by
    constructor
    · intro z
      have := z x hx
      rw [ct_up_s, ct_up_s] at this
      omega
    · intro z y hy
      by_cases e : y = x
      · subst e; rw [ct_up_s, ct_up_s]; omega
      · rw [ct_up_n e, ct_up_n e]; exact dV_r hT m hy
  constructor
  · intro z
    refine Classical.byContradiction (fun no => ?_)
    have := h2.mpr (fun m hm q => no ⟨m, hm, q.1, (bx m).mp q.2⟩)
    omega
  · intro ⟨m, hm, q1, q2⟩
    rcases Int.lt_or_le 0 (sU (fun m => ct_i (kpV T (dV T m) ∧ bxV (ct_up (fun _ => 0) x (k : Int)) (ct_up (tT T) x (k : Int)) (dV T m))) (nAll T)) with z | z
    · exact z
    · exact absurd ⟨q1, (bx m).mpr q2⟩ (h2.mp (by omega) m hm)
theorem fBb_0 {T : ctT} {a b c d : Int} : ∀ r, fBb T a b c d r = 0 ↔ kpR T a b c d r
  | 0 => ⟨fun _ j hj => absurd hj (Nat.not_lt_zero _), fun _ => rfl⟩
  | r + 1 => by
    have ih := fBb_0 (T := T) (a := a) (b := b) (c := c) (d := d) r
    have p : 0 < 2 ^ r := Nat.pow_pos (by decide)
    unfold fBb
    by_cases q : tB T r < fLin T r a b c d
    · rw [if_pos q]
      constructor
      · intro z; omega
      · intro z
        have := z r (by omega)
        unfold fLin at q
        omega
    · rw [if_neg q, ih]
      constructor
      · intro z j hj
        rcases Nat.lt_succ_iff_lt_or_eq.mp hj with y | y
        · exact z j y
        · subst y; unfold fLin at q; omega
      · intro z j hj; exact z j (by omega)
