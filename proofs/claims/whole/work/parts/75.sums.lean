/-! SETS OF RULES, TURNED OVER -/
theorem sU_rev (h : Nat → Int) : ∀ N, sU h N = sU (fun i => h (N - 1 - i)) N
  | 0 => rfl
  | N + 1 => by
    have e := sU_app (fun i => h (N + 1 - 1 - i)) 1 N
    rw [Nat.add_comm 1 N] at e
    rw [e]
    show sU h N + h N = 0 + h (N + 1 - 1 - 0) + sU (fun i => h (N + 1 - 1 - (1 + i))) N
    rw [sU_rev h N, show N + 1 - 1 - 0 = N by omega, sU_c (g := fun i => h (N + 1 - 1 - (1 + i))) (h := fun i => h (N - 1 - i)) (fun i _ => by show h (N + 1 - 1 - (1 + i)) = h (N - 1 - i); rw [show N + 1 - 1 - (1 + i) = N - 1 - i by omega])]
    omega
theorem sU_add2 {g h : Nat → Int} : ∀ {n : Nat}, sU (fun i => g i + h i) n = sU g n + sU h n
  | 0 => rfl
  | n + 1 => by
    show sU (fun i => g i + h i) n + (g n + h n) = sU g n + g n + (sU h n + h n)
    rw [sU_add2]
    omega
theorem sU_one {Q : Nat → Prop} [DecidablePred Q] {j : Nat} : ∀ N, sU (fun k => if Q k then ct_i (j = k) else 0) N = ct_i (j < N ∧ Q j)
  | 0 => (ct_i_f (fun z => Nat.not_lt_zero _ z.1)).symm
  | N + 1 => by
    show sU (fun k => if Q k then ct_i (j = k) else 0) N + (if Q N then ct_i (j = N) else 0) = _
    rw [sU_one N]
    by_cases e : j = N
    · subst e
      rw [ct_i_f (fun z => Nat.lt_irrefl _ z.1)]
      by_cases q : Q j
      · rw [if_pos q, ct_i_t rfl, ct_i_t ⟨by omega, q⟩]; rfl
      · rw [if_neg q, ct_i_f (fun z => q z.2)]; rfl
    · rw [ct_i_f (P := j = N) e]
      rw [show (if Q N then (0 : Int) else 0) = 0 by split <;> rfl, Int.add_zero]
      exact ct_i_c ⟨fun z => ⟨by omega, z.2⟩, fun z => ⟨by omega, z.2⟩⟩
theorem sU_z : ∀ n, sU (fun _ => (0 : Int)) n = 0
  | 0 => rfl
  | n + 1 => by show sU (fun _ => (0 : Int)) n + 0 = 0; rw [sU_z n]; rfl
theorem sU_swap {f : Nat → Nat} {Q : Nat → Prop} [DecidablePred Q] {N : Nat} : ∀ M, (∀ m, m < M → f m < N) → sU (fun k => if Q k then sU (fun m => ct_i (f m = k)) M else 0) N = sU (fun m => ct_i (Q (f m))) M
  | 0, _ => by
    show _ = (0 : Int)
    rw [sU_c (h := fun _ => (0 : Int)) (fun k _ => by show (if Q k then (0 : Int) else 0) = 0; split <;> rfl)]
    exact sU_z N
  | M + 1, hf => by
    have ih := sU_swap (f := f) (Q := Q) (N := N) M (fun m hm => hf m (by omega))
    show _ = sU (fun m => ct_i (Q (f m))) M + ct_i (Q (f M))
    rw [← ih, sU_c (h := fun k => (if Q k then sU (fun m => ct_i (f m = k)) M else 0) + (if Q k then ct_i (f M = k) else 0)) (fun k _ => by
      show (if Q k then sU (fun m => ct_i (f m = k)) M + ct_i (f M = k) else 0) = _
      split
      · rfl
      · rfl), sU_add2, sU_one]
    rw [show ct_i (f M < N ∧ Q (f M)) = ct_i (Q (f M)) from ct_i_c ⟨fun z => z.2, fun z => ⟨hf M (by omega), z⟩⟩]
def bB (T : ctT) (m : Nat) : Nat := fBb T (dV T m 0) (dV T m 1) (dV T m 2) (dV T m 3) (tR T)
noncomputable def wys (T : ctT) (M k : Nat) : Int := sU (fun m => ct_i (bB T m = k)) M
theorem wys_s (T : ctT) (M k : Nat) : wys T (M + 1) k = wys T M k + ct_i (bB T M = k) := rfl
noncomputable def wrt (T : ctT) (s K : Nat) : Int := sU (fun k => if k &&& s = 0 then wys T (nAll T) k else 0) K
theorem wrt_s (T : ctT) (s K : Nat) : wrt T s (K + 1) = wrt T s K + if K &&& s = 0 then wys T (nAll T) K else 0 := rfl
theorem cm_sb : ∀ R : Nat, R < 7 → ∀ s : Nat, s < 64 → s < 2 ^ R → ∀ k : Nat, k < 64 → k < 2 ^ R → decide (k &&& s = 0) = sbB 6 k (2 ^ R - 1 - s) := by decide +kernel
theorem cm_b1 : ∀ R : Nat, R < 7 → ∀ r : Nat, r < 6 → ∀ s : Nat, s < 64 → (r < R ∧ s < 2 ^ R ∧ s / 2 ^ r % 2 = 0 → (2 ^ R - 1 - s) / 2 ^ r % 2 = 1) := by decide +kernel
theorem cm_b2 : ∀ R : Nat, R < 7 → ∀ r : Nat, r < 6 → ∀ s : Nat, s < 64 → (r < R ∧ s < 2 ^ R ∧ s / 2 ^ r % 2 = 0 → s ||| 2 ^ r = s + 2 ^ r) := by decide +kernel
theorem cm_b3 : ∀ R : Nat, R < 7 → ∀ r : Nat, r < 6 → ∀ s : Nat, s < 64 → (r < R ∧ s < 2 ^ R ∧ s / 2 ^ r % 2 = 0 → s + 2 ^ r < 2 ^ R) := by decide +kernel
theorem cm_b4 : ∀ R : Nat, R < 7 → ∀ r : Nat, r < 6 → ∀ s : Nat, s < 64 → (r < R ∧ s < 2 ^ R ∧ s / 2 ^ r % 2 = 1 → (2 ^ R - 1 - s) / 2 ^ r % 2 = 0) := by decide +kernel
theorem cm_bit (R : Nat) (hR : R < 7) (r : Nat) (hr : r < R) (s : Nat) (h6 : s < 64) (hs : s < 2 ^ R) : (s / 2 ^ r % 2 = 0 → (2 ^ R - 1 - s) / 2 ^ r % 2 = 1 ∧ s ||| 2 ^ r = s + 2 ^ r ∧ s + 2 ^ r < 2 ^ R) ∧ (¬ s / 2 ^ r % 2 = 0 → ¬ (2 ^ R - 1 - s) / 2 ^ r % 2 = 1) := by
  refine ⟨fun h => ⟨cm_b1 R hR r (by omega) s h6 ⟨hr, hs, h⟩, cm_b2 R hR r (by omega) s h6 ⟨hr, hs, h⟩, cm_b3 R hR r (by omega) s h6 ⟨hr, hs, h⟩⟩, fun h => ?_⟩
  have := cm_b4 R hR r (by omega) s h6 ⟨hr, hs, by omega⟩
  omega
theorem cm_pc : ∀ R : Nat, R < 7 → ∀ s : Nat, s < 64 → s < 2 ^ R → pc6 (2 ^ R - 1 - s) = R - pc6 s ∧ pc6 s ≤ R := by decide +kernel
theorem wrt_F {T : ctT} (hT : okT T) {s : Nat} (hs : s < 2 ^ tR T) : wrt T s (2 ^ tR T) = fWl T (2 ^ tR T - 1 - s) := by
  have h6 := ct_pow6 hT.2.2.1
  have hR := hT.2.2.1
  unfold wrt wys
  rw [sU_swap (Q := fun k => k &&& s = 0) (f := bB T) (nAll T) (fun m _ => fBb_r T _ _ _ _ (tR T))]
  unfold fWl cntR
  rw [S4_U]
  refine sU_c (fun m _ => ct_i_c ?_)
  have hb : bB T m < 2 ^ tR T := fBb_r T _ _ _ _ (tR T)
  have c := cm_sb (tR T) (by omega) s (by omega) hs (bB T m) (by omega) hb
  have k := sbB_iff (r := 6) (k := bB T m) (s := 2 ^ tR T - 1 - s)
  rw [← c, decide_eq_true_iff] at k
  exact k
noncomputable def shR (T : ctT) (r : Nat) (K : Nat) : Int := sU (fun s => if s / 2 ^ r % 2 = 0 then dOrd (pc6 s) * dOrd (tR T - 1 - pc6 s) * (fWl T (2 ^ tR T - 1 - s) - fWl T (2 ^ tR T - 1 - (s + 2 ^ r))) else 0) K
theorem shR_s (T : ctT) (r K : Nat) : shR T r (K + 1) = shR T r K + if K / 2 ^ r % 2 = 0 then dOrd (pc6 K) * dOrd (tR T - 1 - pc6 K) * (fWl T (2 ^ tR T - 1 - K) - fWl T (2 ^ tR T - 1 - (K + 2 ^ r))) else 0 := rfl
theorem fSh_U (T : ctT) (r : Nat) : ∀ l, fSh T r l = sU (fun l => if l / 2 ^ r % 2 = 1 then dOrd (tR T - pc6 l) * dOrd (pc6 l - 1) * (fWl T l - fWl T (l - 2 ^ r)) else 0) l
  | 0 => rfl
  | l + 1 => by
    rw [fSh_s, fSh_U T r l]
    rfl
theorem shR_F {T : ctT} (hT : okT T) {r : Nat} (hr : r < tR T) : shR T r (2 ^ tR T) = fSh T r (2 ^ tR T) := by
  have h6 := ct_pow6 hT.2.2.1
  have hR := hT.2.2.1
  rw [fSh_U, sU_rev]
  refine sU_c (fun s hs => ?_)
  obtain ⟨c1, c2⟩ := cm_bit (tR T) (by omega) r hr s (by omega) hs
  obtain ⟨p1, p2⟩ := cm_pc (tR T) (by omega) s (by omega) hs
  by_cases b : s / 2 ^ r % 2 = 0
  · obtain ⟨d1, d2, d3⟩ := c1 b
    rw [if_pos b, if_pos d1, p1, show tR T - (tR T - pc6 s) = pc6 s by omega, show tR T - pc6 s - 1 = tR T - 1 - pc6 s by omega, show 2 ^ tR T - 1 - (s + 2 ^ r) = 2 ^ tR T - 1 - s - 2 ^ r by omega]
  · rw [if_neg b, if_neg (c2 b)]
def pw (x : Int) : Nat → Int
  | 0 => 1
  | n + 1 => pw x n * x
def bcn (l : Nat) : Nat → Nat
  | 0 => 0
  | r + 1 => bcn l r + l / 2 ^ r % 2
theorem bcn_pc : ∀ R : Nat, R < 7 → ∀ l : Nat, l < 64 → l < 2 ^ R → bcn l R = pc6 l := by decide +kernel
theorem bcn_6 (l : Nat) : bcn l 6 = pc6 l := by
  show 0 + l / 2 ^ 0 % 2 + l / 2 ^ 1 % 2 + l / 2 ^ 2 % 2 + l / 2 ^ 3 % 2 + l / 2 ^ 4 % 2 + l / 2 ^ 5 % 2 = _
  rw [Nat.zero_add, Nat.pow_zero, Nat.div_one]
  rfl
theorem bcn_le (l : Nat) : ∀ r, bcn l r ≤ r
  | 0 => Nat.le_refl _
  | r + 1 => by
    have := bcn_le l r
    show bcn l r + l / 2 ^ r % 2 ≤ r + 1
    omega
theorem fWg_pw (x : Int) (l : Nat) : ∀ r, fWg x l r = pw (10 - x) (r - bcn l r) * pw x (bcn l r)
  | 0 => rfl
  | r + 1 => by
    have ih := fWg_pw x l r
    have hb := bcn_le l r
    show fWg x l r * (if l / 2 ^ r % 2 = 1 then x else 10 - x) = pw (10 - x) (r + 1 - (bcn l r + l / 2 ^ r % 2)) * pw x (bcn l r + l / 2 ^ r % 2)
    rw [ih]
    by_cases c : l / 2 ^ r % 2 = 1
    · rw [if_pos c, c, show r + 1 - (bcn l r + 1) = r - bcn l r by omega]
      show _ = pw (10 - x) (r - bcn l r) * (pw x (bcn l r) * x)
      rw [Int.mul_assoc]
    · rw [if_neg c, show l / 2 ^ r % 2 = 0 by omega]
      simp only [Nat.add_zero]
      rw [show r + 1 - bcn l r = r - bcn l r + 1 by omega]
      show _ = pw (10 - x) (r - bcn l r) * (10 - x) * pw x (bcn l r)
      rw [Int.mul_assoc, Int.mul_assoc, Int.mul_comm (pw x (bcn l r))]
noncomputable def chR (T : ctT) (v x : Int) (K : Nat) : Int := sU (fun s => @ite _ (fWl T (2 ^ tR T - 1 - s) < v) (Classical.propDecidable _) 0 (pw (10 - x) (pc6 s) * pw x (tR T - pc6 s))) K
theorem chR_s (T : ctT) (v x : Int) (K : Nat) : chR T v x (K + 1) = chR T v x K + @ite _ (fWl T (2 ^ tR T - 1 - K) < v) (Classical.propDecidable _) 0 (pw (10 - x) (pc6 K) * pw x (tR T - pc6 K)) := rfl
theorem fCs_U (T : ctT) (v x : Int) : ∀ l, fCs T v x l = sU (fun l => @ite _ (fWl T l < v) (Classical.propDecidable _) 0 (fWg x l (tR T))) l
  | 0 => rfl
  | l + 1 => by
    rw [fCs_s, fCs_U T v x l]
    rfl
theorem chR_F {T : ctT} (hT : okT T) {v x : Int} : chR T v x (2 ^ tR T) = fCs T v x (2 ^ tR T) := by
  have h6 := ct_pow6 hT.2.2.1
  have hR := hT.2.2.1
  rw [fCs_U, sU_rev]
  refine sU_c (fun s hs => ?_)
  obtain ⟨p1, p2⟩ := cm_pc (tR T) (by omega) s (by omega) hs
  have b1 := bcn_pc (tR T) (by omega) (2 ^ tR T - 1 - s) (by omega) (by omega)
  rw [fWg_pw, b1, p1, show tR T - (tR T - pc6 s) = pc6 s by omega]
theorem pw10 : ∀ R : Nat, pw 10 R = ((10 ^ R : Nat) : Int)
  | 0 => rfl
  | R + 1 => by
    show pw 10 R * 10 = _
    rw [pw10 R, Nat.pow_succ, Int.natCast_mul]
    rfl
theorem fac_s : ∀ n : Nat, n < 6 → dOrd (n + 1) = dOrd n * ((n : Int) + 1) := by decide +kernel
