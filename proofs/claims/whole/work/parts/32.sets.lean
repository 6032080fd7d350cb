/-! SUMS over all values; how many ways there are when a set of rules is lost -/
theorem sN_add {g h : Int → Int} {lo : Int} : ∀ {k : Nat}, sN (fun i => g i + h i) lo k = sN g lo k + sN h lo k
  | 0 => rfl
  | k + 1 => by
    show sN (fun i => g i + h i) lo k + (g (lo + k) + h (lo + k)) = sN g lo k + g (lo + k) + (sN h lo k + h (lo + k))
    rw [sN_add]
    omega
def nV (T : ctT) (x : Nat) : Nat := (tT T x).toNat + 1
def S1 (T : ctT) (g : Int → Int) : Int := sN g 0 (nV T 3)
def S2 (T : ctT) (g : Int → Int → Int) : Int := sN (fun c => S1 T (g c)) 0 (nV T 2)
def S3 (T : ctT) (g : Int → Int → Int → Int) : Int := sN (fun b => S2 T (g b)) 0 (nV T 1)
/-- a sum over all values -/
def S4 (T : ctT) (g : Int → Int → Int → Int → Int) : Int := sN (fun a => S3 T (g a)) 0 (nV T 0)
def inV (T : ctT) (a b c d : Int) : Prop := 0 ≤ a ∧ a ≤ tT T 0 ∧ 0 ≤ b ∧ b ≤ tT T 1 ∧ 0 ≤ c ∧ c ≤ tT T 2 ∧ 0 ≤ d ∧ d ≤ tT T 3
theorem S4_c {T : ctT} {g h : Int → Int → Int → Int → Int} (hT : okT T) (e : ∀ a b c d, inV T a b c d → g a b c d = h a b c d) : S4 T g = S4 T h := by
  have t0 := hT.2.2.2.1 0 (by omega)
  have t1 := hT.2.2.2.1 1 (by omega)
  have t2 := hT.2.2.2.1 2 (by omega)
  have t3 := hT.2.2.2.1 3 (by omega)
  refine sN_c (fun a a1 a2 => sN_c (fun b b1 b2 => sN_c (fun c c1 c2 => sN_c (fun d d1 d2 => ?_))))
  unfold nV at a2 b2 c2 d2
  exact e a b c d ⟨a1, by omega, b1, by omega, c1, by omega, d1, by omega⟩
theorem S4_add {T : ctT} {g h : Int → Int → Int → Int → Int} : S4 T (fun a b c d => g a b c d + h a b c d) = S4 T g + S4 T h := by
  have e3 : ∀ a b c, S1 T (fun d => g a b c d + h a b c d) = S1 T (g a b c) + S1 T (h a b c) := fun a b c => sN_add
  have e2 : ∀ a b, S2 T (fun c d => g a b c d + h a b c d) = S2 T (g a b) + S2 T (h a b) := fun a b => by
    unfold S2
    rw [← sN_add]
    exact sN_c (fun c _ _ => e3 a b c)
  have e1 : ∀ a, S3 T (fun b c d => g a b c d + h a b c d) = S3 T (g a) + S3 T (h a) := fun a => by
    unfold S3
    rw [← sN_add]
    exact sN_c (fun b _ _ => e2 a b)
  unfold S4
  rw [← sN_add]
  exact sN_c (fun a _ _ => e1 a)
theorem S4_r {T : ctT} {g : Int → Int → Int → Int → Int} (hT : okT T) (e : ∀ a b c d, inV T a b c d → 0 ≤ g a b c d ∧ g a b c d ≤ 1) : 0 ≤ S4 T g ∧ S4 T g ≤ 10000 := by
  have t0 := hT.2.2.2.1 0 (by omega)
  have t1 := hT.2.2.2.1 1 (by omega)
  have t2 := hT.2.2.2.1 2 (by omega)
  have t3 := hT.2.2.2.1 3 (by omega)
  have n0 : nV T 0 ≤ 10 := by unfold nV; omega
  have n1 : nV T 1 ≤ 10 := by unfold nV; omega
  have n2 : nV T 2 ≤ 10 := by unfold nV; omega
  have n3 : nV T 3 ≤ 10 := by unfold nV; omega
  have r3 : ∀ a b c, 0 ≤ a → a < 0 + (nV T 0 : Int) → 0 ≤ b → b < 0 + (nV T 1 : Int) → 0 ≤ c → c < 0 + (nV T 2 : Int) → 0 ≤ S1 T (g a b c) ∧ S1 T (g a b c) ≤ 10 := by
    intro a b c a1 a2 b1 b2 c1 c2
    have h := sN_r (g := g a b c) (lo := 0) (M := 1) (k := nV T 3) (fun d d1 d2 => by
      unfold nV at a2 b2 c2 d2
      exact e a b c d ⟨a1, by omega, b1, by omega, c1, by omega, d1, by omega⟩)
    unfold S1
    omega
  have r2 : ∀ a b, 0 ≤ a → a < 0 + (nV T 0 : Int) → 0 ≤ b → b < 0 + (nV T 1 : Int) → 0 ≤ S2 T (g a b) ∧ S2 T (g a b) ≤ 100 := by
    intro a b a1 a2 b1 b2
    have h := sN_r (g := fun c => S1 T (g a b c)) (lo := 0) (M := 10) (k := nV T 2) (fun c c1 c2 => r3 a b c a1 a2 b1 b2 c1 c2)
    unfold S2
    omega
  have r1 : ∀ a, 0 ≤ a → a < 0 + (nV T 0 : Int) → 0 ≤ S3 T (g a) ∧ S3 T (g a) ≤ 1000 := by
    intro a a1 a2
    have h := sN_r (g := fun b => S2 T (g a b)) (lo := 0) (M := 100) (k := nV T 1) (fun b b1 b2 => r2 a b a1 a2 b1 b2)
    unfold S3
    omega
  have h := sN_r (g := fun a => S3 T (g a)) (lo := 0) (M := 1000) (k := nV T 0) (fun a a1 a2 => r1 a a1 a2)
  unfold S4
  omega
/-- set k is a part of set s in the first r rules, the same in the others -/
def sbR (r k s : Nat) : Prop := (k % 2 ^ r) &&& (s % 2 ^ r) = k % 2 ^ r ∧ k / 2 ^ r = s / 2 ^ r
def sbB (r k s : Nat) : Bool := decide ((k % 2 ^ r) &&& (s % 2 ^ r) = k % 2 ^ r) && decide (k / 2 ^ r = s / 2 ^ r)
theorem sbB_iff {r k s : Nat} : sbB r k s = true ↔ sbR r k s := by
  unfold sbB sbR
  simp
theorem sb_s1 : ∀ r : Nat, r < 6 → ∀ s : Nat, s < 64 → s / 2 ^ r % 2 = 1 → ∀ k : Nat, k < 64 → sbB (r + 1) k s = (sbB r k s || sbB r k (s - 2 ^ r)) := by decide +kernel
theorem sb_s2 : ∀ r : Nat, r < 6 → ∀ s : Nat, s < 64 → s / 2 ^ r % 2 = 1 → ∀ k : Nat, k < 64 → (sbB r k s && sbB r k (s - 2 ^ r)) = false := by decide +kernel
theorem sb_s3 : ∀ r : Nat, r < 6 → ∀ s : Nat, s < 64 → ¬ s / 2 ^ r % 2 = 1 → ∀ k : Nat, k < 64 → sbB (r + 1) k s = sbB r k s := by decide +kernel
theorem sb_step0 (r : Nat) (hr : r < 6) (s : Nat) (hs : s < 64) (k : Nat) (hk : k < 64) : (s / 2 ^ r % 2 = 1 → sbB (r + 1) k s = (sbB r k s || sbB r k (s - 2 ^ r)) ∧ (sbB r k s && sbB r k (s - 2 ^ r)) = false) ∧ (¬ s / 2 ^ r % 2 = 1 → sbB (r + 1) k s = sbB r k s) := ⟨fun h => ⟨sb_s1 r hr s hs h k hk, sb_s2 r hr s hs h k hk⟩, fun h => sb_s3 r hr s hs h k hk⟩
noncomputable def cntR (T : ctT) (r s : Nat) : Int := S4 T (fun a b c d => ct_i (sbR r (fBb T a b c d (tR T)) s))
theorem fBb_64 {T : ctT} (hT : okT T) (a b c d : Int) : fBb T a b c d (tR T) < 64 := Nat.lt_of_lt_of_le (fBb_r T a b c d (tR T)) (ct_pow6 hT.2.2.1)
theorem cntR_s {T : ctT} (hT : okT T) {r s : Nat} (hr : r < 6) (hs : s < 64) : cntR T (r + 1) s = if s / 2 ^ r % 2 = 1 then cntR T r s + cntR T r (s - 2 ^ r) else cntR T r s := by
  by_cases hb : s / 2 ^ r % 2 = 1
  · rw [if_pos hb]
    unfold cntR
    rw [← S4_add]
    refine S4_c hT (fun a b c d _ => ?_)
    have h := (sb_step0 r hr s hs _ (fBb_64 hT a b c d)).1 hb
    generalize fBb T a b c d (tR T) = k at h
    have e1 : sbR (r + 1) k s ↔ sbR r k s ∨ sbR r k (s - 2 ^ r) := by
      rw [← sbB_iff, ← sbB_iff, ← sbB_iff, h.1, Bool.or_eq_true]
    have e2 : ¬ (sbR r k s ∧ sbR r k (s - 2 ^ r)) := by
      rw [← sbB_iff, ← sbB_iff]
      intro ⟨q1, q2⟩
      have := h.2
      rw [q1, q2] at this
      cases this
    by_cases q1 : sbR r k s
    · rw [ct_i_t (e1.mpr (Or.inl q1)), ct_i_t q1, ct_i_f (fun q2 => e2 ⟨q1, q2⟩)]
      rfl
    · by_cases q2 : sbR r k (s - 2 ^ r)
      · rw [ct_i_t (e1.mpr (Or.inr q2)), ct_i_f q1, ct_i_t q2]
        rfl
      · rw [ct_i_f (fun q => (e1.mp q).elim q1 q2), ct_i_f q1, ct_i_f q2]
        rfl
  · rw [if_neg hb]
    unfold cntR
    refine S4_c hT (fun a b c d _ => ?_)
    have h := (sb_step0 r hr s hs _ (fBb_64 hT a b c d)).2 hb
    exact ct_i_c (by rw [← sbB_iff, ← sbB_iff, h])
theorem sosP_at {f : Nat → Int} {r : Nat} (hr : r < 6) : ∀ (n s : Nat), n ≤ 64 → s < 64 → sosP f r n s = if s < n ∧ s / 2 ^ r % 2 = 1 then f s + f (s - 2 ^ r) else f s
  | 0, s, _, _ => by rw [if_neg (by omega)]; rfl
  | n + 1, s, hn, hs => by
    have h1 := sosP_at hr (f := f) n s (by omega) hs
    rw [sosP_s]
    by_cases hb : n / 2 ^ r % 2 = 1
    · rw [if_pos hb]
      by_cases e : s = n
      · subst e
        obtain ⟨x1, x2, x3⟩ := ct_xor6 r hr s hs hb
        have h2 := sosP_at hr (f := f) s (s - 2 ^ r) (by omega) (Nat.lt_of_le_of_lt (Nat.sub_le _ _) hs)
        rw [if_neg (fun q => by rw [x3] at q; exact absurd q.2 (by omega))] at h2
        rw [if_neg (by omega)] at h1
        rw [ct_up_s, h1, h2, if_pos ⟨by omega, hb⟩]
      · rw [ct_up_n e, h1]
        by_cases q : s < n ∧ s / 2 ^ r % 2 = 1
        · rw [if_pos q, if_pos ⟨by omega, q.2⟩]
        · rw [if_neg q, if_neg (fun q2 => q ⟨by omega, q2.2⟩)]
    · rw [if_neg hb, h1]
      by_cases q : s < n ∧ s / 2 ^ r % 2 = 1
      · rw [if_pos q, if_pos ⟨by omega, q.2⟩]
      · rw [if_neg q, if_neg (fun q2 => q ⟨by
          rcases Nat.lt_or_ge s n with z | z
          · exact z
          · exact absurd (show n / 2 ^ r % 2 = 1 by rw [show n = s by omega]; exact q2.2) hb, q2.2⟩)]
/-- the row of ways at its end -/
theorem fSos_cnt {T : ctT} (hT : okT T) {f : Nat → Int} (hf : ∀ s, s < 64 → f s = cntR T 0 s) : ∀ (r : Nat), r ≤ 6 → ∀ s, s < 64 → fSos f r s = cntR T r s
  | 0, _, s, hs => hf s hs
  | r + 1, hr, s, hs => by
    show sosP (fSos f r) r 64 s = _
    rw [sosP_at (by omega) 64 s (Nat.le_refl _) hs, cntR_s hT (by omega) hs]
    have h1 := fSos_cnt hT hf r (by omega) s hs
    by_cases hb : s / 2 ^ r % 2 = 1
    · have h2 := fSos_cnt hT hf r (by omega) (s - 2 ^ r) (Nat.lt_of_le_of_lt (Nat.sub_le _ _) hs)
      rw [if_pos ⟨hs, hb⟩, if_pos hb, h1, h2]
    · rw [if_neg (fun q => hb q.2), if_neg hb, h1]
/-- WAYS if the rules of set s are lost -/
noncomputable def fWl (T : ctT) (s : Nat) : Int := cntR T 6 s
theorem sb_mono0 : ∀ r : Nat, r < 6 → ∀ s : Nat, s < 64 → s / 2 ^ r % 2 = 1 → ∀ k : Nat, k < 64 → sbB 6 k (s - 2 ^ r) = true → sbB 6 k s = true := by decide +kernel
theorem fWl_r {T : ctT} (hT : okT T) (s : Nat) : 0 ≤ fWl T s ∧ fWl T s ≤ 10000 := S4_r hT (fun _ _ _ _ _ => ct_i_r _)
theorem fWl_fewer {T : ctT} (hT : okT T) {r s : Nat} (hr : r < 6) (hs : s < 64) (hb : s / 2 ^ r % 2 = 1) : 0 ≤ fWl T s - fWl T (s - 2 ^ r) ∧ fWl T s - fWl T (s - 2 ^ r) ≤ 10000 := by
  have e : fWl T s = S4 T (fun a b c d => (ct_i (sbR 6 (fBb T a b c d (tR T)) s) - ct_i (sbR 6 (fBb T a b c d (tR T)) (s - 2 ^ r))) + ct_i (sbR 6 (fBb T a b c d (tR T)) (s - 2 ^ r))) := S4_c hT (fun a b c d _ => by omega)
  rw [S4_add] at e
  have h := S4_r (T := T) (g := fun a b c d => ct_i (sbR 6 (fBb T a b c d (tR T)) s) - ct_i (sbR 6 (fBb T a b c d (tR T)) (s - 2 ^ r))) hT (fun a b c d _ => by
    have h1 := ct_i_r (sbR 6 (fBb T a b c d (tR T)) s)
    have h2 := ct_i_r (sbR 6 (fBb T a b c d (tR T)) (s - 2 ^ r))
    by_cases q : sbR 6 (fBb T a b c d (tR T)) (s - 2 ^ r)
    · have := ct_i_t (sbB_iff.mp (sb_mono0 r hr s hs hb _ (fBb_64 hT a b c d) (sbB_iff.mpr q)))
      omega
    · rw [ct_i_f q]
      omega)
  have e2 : fWl T (s - 2 ^ r) = S4 T (fun a b c d => ct_i (sbR 6 (fBb T a b c d (tR T)) (s - 2 ^ r))) := rfl
  omega
