/-! THE SET OF THE REFERENCE (-9) AND OF THE CLASS (-1) -/
def sF (st F : Nat → Int) : Prop := ∀ r, r < 8 → (st r = -9 ∧ F r = -1) ∨ (0 ≤ st r ∧ F r = st r)
theorem sF_cm {S : ctS} {st F G : Nat → Int} {j : Nat} {v : Int} (hj : j < 8) (h : sF st (fTk S F G 8)) (hF : ∀ r, r < 8 → -1 ≤ F r) (hG : G j = -1 ∨ G j = v) (hv : v = -1 ∨ (0 ≤ v ∧ fRow (sM S v.toNat) = (j : Int))) : sF (cmS S st (if v = -1 then -9 else v)) (fTk S F (ct_up G j v) 8) := by
  intro r hr
  have h0 := h r hr
  have hf := hF r hr
  rw [fTk_at] at h0
  rw [fTk_at]
  rcases hv with rfl | ⟨v0, v1⟩
  · rw [if_pos rfl]
    have e1 : cmS S st (-9) = st := if_neg (fun z => z.1 rfl)
    rw [e1]
    by_cases e : r = j
    · subst e
      rw [ct_up_s, if_neg (fun z => z.2.1 rfl)]
      rw [if_neg (fun z => z.2.1 (by omega))] at h0
      exact h0
    · rw [ct_up_n e]; exact h0
  · rw [if_neg (by omega)]
    by_cases l : 0 < sL S v.toNat
    · have e1 : cmS S st v = ct_up st j (max (st j) v) := by
        unfold cmS
        rw [if_pos ⟨by omega, l⟩, v1, Int.toNat_natCast]
      rw [e1]
      by_cases e : r = j
      · subst e
        rw [ct_up_s, ct_up_s, if_pos ⟨hr, by omega, l⟩]
        rcases hG with g | g
        · rw [if_neg (fun z => z.2.1 g)] at h0; omega
        · rw [if_pos ⟨hr, by omega, by rw [g]; exact l⟩, g] at h0; omega
      · rw [ct_up_n e, ct_up_n e]; exact h0
    · have e1 : cmS S st v = st := if_neg (fun z => l z.2)
      rw [e1]
      by_cases e : r = j
      · subst e
        rw [ct_up_s, if_neg (fun z => l z.2.2)]
        rcases hG with g | g
        · rw [if_neg (fun z => z.2.1 g)] at h0; exact h0
        · rw [if_neg (fun z => l (by have := z.2.2; rw [g] at this; exact this))] at h0; exact h0
      · rw [ct_up_n e]; exact h0
theorem sF_e {st F F' : Nat → Int} (h : sF st F) (k : eq8 F F') : sF st F' := fun r hr => by rw [← k r hr]; exact h r hr
theorem fTk_I (S : ctS) (F G : Nat → Int) : eq8 (fTk S F (fI G 8) 8) F := fun r hr => by
  rw [fTk_at, if_neg (fun z => z.2.1 (by rw [fI_at, if_pos hr]))]
theorem o9 (o : Option Nat) : (if ct_o (-1) o = -1 then -9 else ct_o (-1) o) = ct_o (-9) o := by
  cases o with
  | none => rfl
  | some i =>
    show (if (i : Int) = -1 then -9 else (i : Int)) = (i : Int)
    rw [if_neg (by omega)]
theorem fWr_out {T : ctT} {S : ctS} {G : Nat → Int} {r e : Nat} {own : Int} : ∀ (x j : Nat), 2 * x ≤ j → fWr T S G r e own x j = G j
  | 0, _, _ => rfl
  | x + 1, j, h => by
    have ih := fWr_out (T := T) (S := S) (G := G) (r := r) (e := e) (own := own) x j (by omega)
    unfold fWr
    split
    · split <;> (rw [ct_up_n (by omega)]; exact ih)
    · exact ih
theorem wyV_n {T : ctT} {S : ctS} {r e x : Nat} {m : Int} (h : ¬ (¬ tW T r x = 0 ∧ ¬ (x : Int) = fOwn m)) : wyV T S r e m x = -9 := by
  unfold wyV
  refine if_pos ?_
  unfold fOwn at h
  split at h <;> omega
theorem wyV_y {T : ctT} {S : ctS} {r e x : Nat} {m : Int} (h : ¬ tW T r x = 0 ∧ ¬ (x : Int) = fOwn m) : wyV T S r e m x = ct_o (-9) (fLa S e x (if 0 < tW T r x then 0 else 1)) := by
  unfold wyV
  refine if_neg ?_
  unfold fOwn at h
  split at h <;> omega
theorem row_la {T : ctT} {S : ctS} (hM : ∀ i, i < sZ S → okM T (sM S i)) {e : Nat} {x s : Int} (hs : 0 ≤ s ∧ s ≤ 1) {j : Nat} (hj : 2 * x + s = (j : Int)) : ct_o (-1) (fLa S e x s) = -1 ∨ (0 ≤ ct_o (-1) (fLa S e x s) ∧ fRow (sM S (ct_o (-1) (fLa S e x s)).toNat) = (j : Int)) := by
  rcases rw_la hM (e := e) (x := x) hs with h | h
  · exact Or.inl h
  · exact Or.inr ⟨h.1, h.2.2.trans hj⟩
theorem wyR_F {T : ctT} {S : ctS} {st F : Nat → Int} (G : Nat → Int) {r e : Nat} {m : Int} (hM : ∀ i, i < sZ S → okM T (sM S i)) (h : sF st F) (hF : ∀ r, r < 8 → -1 ≤ F r) : ∀ x, x ≤ 4 → sF (wyR T S st r e m 1 x).2 (fTk S F (fWr T S (fI G 8) r e (fOwn m) x) 8)
  | 0, _ => sF_e h (fun r hr => (fTk_I S F G r hr).symm)
  | x + 1, hx => by
    have ih := wyR_F G (r := r) (e := e) (m := m) hM h hF x (by omega)
    show sF (cmS S (wyR T S st r e m 1 x).2 (if (1 : Int) = 0 then -9 else wyV T S r e m x)) _
    rw [if_neg (by decide)]
    unfold fWr
    by_cases c : ¬ tW T r x = 0 ∧ ¬ (x : Int) = fOwn m
    · rw [if_pos c, wyV_y c, ← o9]
      refine sF_cm (by split <;> omega) ih hF (Or.inl ?_) ?_
      · rw [fWr_out x _ (by omega), fI_at, if_pos (by split <;> omega)]
      · refine row_la hM (by split <;> omega) ?_
        split <;> omega
    · rw [if_neg c, wyV_n c]
      rw [show cmS S (wyR T S st r e m 1 x).2 (-9) = (wyR T S st r e m 1 x).2 from if_neg (fun z => z.1 rfl)]
      exact ih
theorem fWc_row {T : ctT} {S : ctS} {G : Nat → Int} {c e : Nat} {m : Int} : ∀ n, (∀ k, k < n → okM T (sCm S (8 * c + k))) → ∀ j : Nat, j < 8 → fWc S (fI G 8) c e m n j = -1 ∨ fWc S (fI G 8) c e m n j = ct_o (-1) (fLa S e (((j / 2 : Nat)) : Int) (((j % 2 : Nat)) : Int))
  | 0, _, j, hj => Or.inl (by show fI G 8 j = -1; rw [fI_at, if_pos hj])
  | k + 1, hk, j, hj => by
    have ih := fWc_row (T := T) (S := S) (G := G) (c := c) (e := e) (m := m) k (fun i hi => hk i (by omega)) j hj
    unfold fWc
    split
    · have h1 := hk k (by omega)
      unfold okM at h1
      by_cases q : j = (fRow (sCm S (8 * c + k))).toNat
      · refine Or.inr ?_
        rw [q, ct_up_s]
        rw [show sCm S (8 * c + k) / 100 = (((fRow (sCm S (8 * c + k))).toNat / 2 : Nat) : Int) by unfold fRow; omega, show sCm S (8 * c + k) / 10 % 10 = (((fRow (sCm S (8 * c + k))).toNat % 2 : Nat) : Int) by unfold fRow; omega]
      · rw [ct_up_n q]; exact ih
    · exact ih
theorem wyC_F {T : ctT} {S : ctS} {st F : Nat → Int} (G : Nat → Int) {c e : Nat} {m : Int} (hT : okT T) (hM : ∀ i, i < sZ S → okM T (sM S i)) (h : sF st F) (hF : ∀ r, r < 8 → -1 ≤ F r) : ∀ n, (∀ k, k < n → okM T (sCm S (8 * c + k))) → sF (wyC S st c e m 1 n).2 (fTk S F (fWc S (fI G 8) c e m n) 8)
  | 0, _ => sF_e h (fun r hr => (fTk_I S F G r hr).symm)
  | k + 1, hk => by
    have ih := wyC_F G (c := c) (e := e) (m := m) hT hM h hF k (fun i hi => hk i (by omega))
    show sF (cmS S (wyC S st c e m 1 k).2 (if (1 : Int) = 0 then -9 else wyW S c e m k)) _
    rw [if_neg (by decide)]
    unfold fWc
    have h1 := hk k (by omega)
    have h2 := fRow_r hT h1
    unfold okM at h1
    by_cases q : m = -9 ∨ ¬ fNeg (sCm S (8 * c + k)) = m
    · rw [if_pos q, show wyW S c e m k = ct_o (-9) (fLa S e (sCm S (8 * c + k) / 100) (sCm S (8 * c + k) / 10 % 10)) from if_neg (by omega), ← o9]
      refine sF_cm (by omega) ih hF ?_ ?_
      · rcases fWc_row (G := G) (e := e) (m := m) k (fun i hi => hk i (by omega)) (fRow (sCm S (8 * c + k))).toNat (by omega) with z | z
        · exact Or.inl z
        · refine Or.inr (z.trans ?_)
          rw [show sCm S (8 * c + k) / 100 = (((fRow (sCm S (8 * c + k))).toNat / 2 : Nat) : Int) by unfold fRow; omega, show sCm S (8 * c + k) / 10 % 10 = (((fRow (sCm S (8 * c + k))).toNat % 2 : Nat) : Int) by unfold fRow; omega]
      · exact row_la hM (by omega) (by unfold fRow; omega)
    · rw [if_neg q, show wyW S c e m k = -9 from if_pos (by omega)]
      rw [show cmS S (wyC S st c e m 1 k).2 (-9) = (wyC S st c e m 1 k).2 from if_neg (fun z => z.1 rfl)]
      exact ih
theorem wyO_F {T : ctT} {S : ctS} {st F : Nat → Int} (G : Nat → Int) {i : Nat} (hT : okT T) (hJ : J T S) (hq : rq T S) (hi : i < sZ S) (h : sF st F) (hF : ∀ r, r < 8 → -1 ≤ F r) : sF (wyO T S st i 1).2 (fTk S F (fWhy T S G (sR S i) i (sM S i)) 8) := by
  have q1 := hq i hi
  have q2 := hJ.2.1.2.1 i hi
  have h6 := hT.2.2.1
  unfold wyO fWhy
  by_cases a : sR S i < 0
  · rw [if_pos a, if_neg (by omega), if_neg (by omega)]
    exact sF_e h (fun r hr => (fTk_I S F G r hr).symm)
  · rw [if_neg a]
    by_cases b : sR S i < 10
    · rw [if_pos b, if_pos (by omega)]
      exact wyR_F G (J_M hJ) h hF _ hT.2.1
    · rw [if_neg b, if_neg (by omega), if_pos (by omega)]
      exact wyC_F G hT (J_M hJ) h hF _ (fun k hk => J_C hJ _ k (by omega) (by omega))
/-! GREATEST LEVELS -/
theorem gr_up (S : ctS) (st : Nat → Int) (b : Int) : ∀ k j, j < k → 0 ≤ st j → ¬ st j = b → sL S (st j).toNat ≤ grS S st b k
  | 0, _, h, _, _ => absurd h (Nat.not_lt_zero _)
  | k + 1, j, h, h1, h2 => by
    by_cases q : j = k
    · subst q
      unfold grS
      split <;> omega
    · have := gr_up S st b k j (by omega) h1 h2
      unfold grS
      split <;> omega
theorem gr_in (S : ctS) (st : Nat → Int) (b : Int) : ∀ k, grS S st b k = 0 ∨ ∃ j, j < k ∧ 0 ≤ st j ∧ ¬ st j = b ∧ grS S st b k = sL S (st j).toNat
  | 0 => Or.inl rfl
  | k + 1 => by
    unfold grS
    split
    · rename_i q; exact Or.inr ⟨k, by omega, q.1, q.2.1, rfl⟩
    · rcases gr_in S st b k with h | ⟨j, j1, j2⟩
      · exact Or.inl h
      · exact Or.inr ⟨j, by omega, j2⟩
theorem gr_F {S : ctS} {st F : Nat → Int} {e b : Int} (hm : mno S) (h : sF st F) (hr : rwP S F) (hl : lvP S F) (hb : ∀ r, r < 8 → 0 ≤ F r → (¬ F r = b ↔ F r < e)) : grS S st b 8 = if fGB F e = -1 then 0 else sL S (fGB F e).toNat := by
  rcases gB_in F e 8 with z | ⟨j, hj, j1, j2⟩
  · rw [if_pos (show fGB F e = -1 from z)]
    rcases gr_in S st b 8 with y | ⟨i, hi, i1, i2, -⟩
    · exact y
    · rcases h i hi with s | s
      · omega
      · have := gB_up F e 8 i hi ((hb i hi (by omega)).mp (by rw [s.2]; exact i2))
        omega
  · have j3 : F j = fGB F e := j1
    by_cases z : fGB F e = -1
    · rw [if_pos z]
      rcases gr_in S st b 8 with y | ⟨i, hi, i1, i2, -⟩
      · exact y
      · rcases h i hi with s | s
        · omega
        · have := gB_up F e 8 i hi ((hb i hi (by omega)).mp (by rw [s.2]; exact i2))
          have z2 : gB F e 8 = -1 := z
          omega
    · rw [if_neg z]
      rcases h j hj with s | s
      · omega
      · have a1 := gr_up S st b 8 j hj s.1 (by rw [← s.2]; exact (hb j hj (by omega)).mpr j2)
        rw [← s.2, j3] at a1
        have a2 := hl j hj
        rw [j3] at a2
        rcases gr_in S st b 8 with y | ⟨i, hi, i1, i2, i3⟩
        · omega
        · rcases h i hi with t | t
          · omega
          · have b1 := gB_up F e 8 i hi ((hb i hi (by omega)).mp (by rw [t.2]; exact i2))
            have b2 : F i ≤ fGB F e := b1
            have b3 := hr j hj
            have b4 := hm (F i).toNat (fGB F e).toNat (by omega) (by omega)
            rw [t.2] at b4
            omega
theorem mn_1 {S : ctS} {st : Nat → Int} {l : Int} : ∀ k j, j < k → 0 ≤ st j → sL S (st j).toNat = l → 1 ≤ mnS S st l k
  | 0, _, h, _, _ => absurd h (Nat.not_lt_zero _)
  | k + 1, j, h, h1, h2 => by
    have r := mnS_r S st l k
    by_cases q : j = k
    · subst q
      unfold mnS
      rw [if_pos ⟨h1, h2⟩]; omega
    · have := mn_1 (S := S) k j (by omega) h1 h2
      unfold mnS
      split <;> omega
theorem mn_2 {S : ctS} {st : Nat → Int} {l : Int} : ∀ k i j, i < j → j < k → 0 ≤ st i → sL S (st i).toNat = l → 0 ≤ st j → sL S (st j).toNat = l → 2 ≤ mnS S st l k
  | 0, _, _, _, h, _, _, _, _ => absurd h (Nat.not_lt_zero _)
  | k + 1, i, j, hij, h, h1, h2, h3, h4 => by
    by_cases q : j = k
    · subst q
      have := mn_1 (S := S) j i hij h1 h2
      unfold mnS
      rw [if_pos ⟨h3, h4⟩]; omega
    · have := mn_2 (S := S) k i j hij (by omega) h1 h2 h3 h4
      unfold mnS
      split <;> omega
theorem mn_i1 {S : ctS} {st : Nat → Int} {l : Int} : ∀ k, 1 ≤ mnS S st l k → ∃ j, j < k ∧ 0 ≤ st j ∧ sL S (st j).toNat = l
  | 0, h => by simp [mnS] at h
  | k + 1, h => by
    unfold mnS at h
    by_cases q : 0 ≤ st k ∧ sL S (st k).toNat = l
    · exact ⟨k, by omega, q⟩
    · rw [if_neg q] at h
      obtain ⟨j, j1, j2⟩ := mn_i1 (S := S) (st := st) (l := l) k (by omega)
      exact ⟨j, by omega, j2⟩
theorem mn_i2 {S : ctS} {st : Nat → Int} {l : Int} : ∀ k, 2 ≤ mnS S st l k → ∃ i j, i < j ∧ j < k ∧ (0 ≤ st i ∧ sL S (st i).toNat = l) ∧ 0 ≤ st j ∧ sL S (st j).toNat = l
  | 0, h => by simp [mnS] at h
  | k + 1, h => by
    unfold mnS at h
    by_cases q : 0 ≤ st k ∧ sL S (st k).toNat = l
    · rw [if_pos q] at h
      obtain ⟨j, j1, j2⟩ := mn_i1 (S := S) (st := st) (l := l) k (by omega)
      exact ⟨j, k, j1, by omega, j2, q⟩
    · rw [if_neg q] at h
      obtain ⟨i, j, j0, j1, j2⟩ := mn_i2 (S := S) (st := st) (l := l) k (by omega)
      exact ⟨i, j, j0, by omega, j2⟩
theorem last_in {S : ctS} {F : Nat → Int} (h : rwP S F) (hZ : sZ S ≤ 36) (hn : ¬ fGB F 36 = -1) : ∃ j, j < 8 ∧ F j = fGB F 36 ∧ 0 ≤ F j ∧ F j < (sZ S : Int) ∧ fRow (sM S (F j).toNat) = (j : Int) ∧ ∀ r, r < 8 → F r ≤ F j := by
  rcases gB_in F 36 8 with z | ⟨j, hj, j1, j2⟩
  · exact absurd z hn
  · have j3 : F j = fGB F 36 := j1
    rcases h j hj with y | y
    · exact absurd (j3.symm.trans y) hn
    · refine ⟨j, hj, j3, y.1, y.2.1, y.2.2, fun r hr => ?_⟩
      rw [j3]
      refine gB_up F 36 8 r hr ?_
      rcases h r hr with x | x <;> omega
theorem mn_F {S : ctS} {st F : Nat → Int} (hm : mno S) (hZ : sZ S ≤ 36) (h : sF st F) (hr : rwP S F) (hn : ¬ fGB F 36 = -1) : 1 < mnS S st (sL S (fGB F 36).toNat) 8 ↔ tlP S F := by
  obtain ⟨l, hl, l1, l2, l3, l4, l5⟩ := last_in hr hZ hn
  have dist : ∀ i j, i < 8 → j < 8 → 0 ≤ F i → F i = F j → i = j := fun i j hi hj h0 e => by
    rcases hr i hi with x | x
    · omega
    · rcases hr j hj with y | y
      · omega
      · have := x.2.2
        rw [e, y.2.2] at this
        omega
  constructor
  · intro q
    obtain ⟨i, j, i0, j0, ⟨i1, i2⟩, j1, j2⟩ := mn_i2 8 q
    have ei : F i = st i := by rcases h i (by omega) with x | x <;> omega
    have ej : F j = st j := by rcases h j j0 with x | x <;> omega
    have hh : ∃ k, k < 8 ∧ 0 ≤ F k ∧ F k < fGB F 36 ∧ sL S (F k).toNat = sL S (fGB F 36).toNat := by
      have d : ¬ F i = F j := fun e => by have := dist i j (by omega) j0 (by omega) e; omega
      have u1 := l5 i (by omega)
      have u2 := l5 j j0
      by_cases c : F i < fGB F 36
      · exact ⟨i, by omega, by omega, c, by rw [ei]; exact i2⟩
      · exact ⟨j, j0, by omega, by omega, by rw [ej]; exact j2⟩
    obtain ⟨k, k0, k1, k2, k3⟩ := hh
    have g1 := gB_up F (fGB F 36) 8 k k0 k2
    have g1' : F k ≤ fGB F (fGB F 36) := g1
    have g2 : fGB F (fGB F 36) < fGB F 36 := by
      rcases gB_in F (fGB F 36) 8 with z | ⟨g, _, z1, z2⟩
      · have z' : fGB F (fGB F 36) = -1 := z
        omega
      · have z' : F g = fGB F (fGB F 36) := z1
        omega
    refine ⟨by omega, ?_⟩
    have m1 := hm (F k).toNat (fGB F (fGB F 36)).toNat (by omega) (by omega)
    have m2 := hm (fGB F (fGB F 36)).toNat (fGB F 36).toNat (by omega) (by omega)
    omega
  · intro q
    obtain ⟨q1, q2⟩ := q
    rcases gB_in F (fGB F 36) 8 with z | ⟨g, hg, z1, z2⟩
    · exact absurd z q1
    · have z' : F g = fGB F (fGB F 36) := z1
      have eg : F g = st g := by
        rcases h g hg with x | x
        · omega
        · exact x.2
      have el : F l = st l := by rcases h l hl with x | x <;> omega
      have g0 : 0 ≤ F g := by rcases hr g hg with x | x <;> omega
      have a1 : sL S (st g).toNat = sL S (fGB F 36).toNat := by rw [← eg, z']; exact q2
      have a2 : sL S (st l).toNat = sL S (fGB F 36).toNat := by rw [← el, l1]
      have ne : ¬ g = l := fun e => by subst e; omega
      rcases Nat.lt_or_gt_of_ne ne with c | c
      · exact mn_2 8 g l c hl (by omega) a1 (by omega) a2
      · exact mn_2 8 l g c hg (by omega) a2 (by omega) a1
theorem lis_max (st : Nat → Int) : ∀ k j, j ≤ k → st j ≤ st (lis st k)
  | 0, j, h => by rw [show j = 0 by omega]; exact Int.le_refl _
  | k + 1, j, h => by
    unfold lis
    by_cases q : j = k + 1
    · subst q
      split
      · exact Int.le_refl _
      · omega
    · have := lis_max st k j (by omega)
      split <;> omega
theorem lis_F {S : ctS} {st F : Nat → Int} (hZ : sZ S ≤ 36) (h : sF st F) (hr : rwP S F) (hn : ¬ fGB F 36 = -1) : lis st 7 = (fRow (sM S (fGB F 36).toNat)).toNat ∧ st (lis st 7) = fGB F 36 := by
  obtain ⟨l, hl, l1, l2, l3, l4, l5⟩ := last_in hr hZ hn
  have a := lis_max st 7 l (by omega)
  have b := lis_le st 7
  have el : F l = st l := by rcases h l hl with x | x <;> omega
  have c := l5 (lis st 7) (by omega)
  have d : F (lis st 7) = st (lis st 7) := by rcases h (lis st 7) (by omega) with x | x <;> omega
  have e : st (lis st 7) = fGB F 36 := by omega
  refine ⟨?_, e⟩
  rcases hr (lis st 7) (by omega) with x | x
  · omega
  · have := x.2.2
    rw [d, e] at this
    omega
theorem TF_lt {T : ctT} {S : ctS} {F G : Nat → Int} (hr : rwP S F) (hZ : sZ S ≤ 36) (hn : ¬ fGB F 36 = -1) : fGB (fTF T S F G) 36 < fGB F 36 := by
  obtain ⟨l, hl, l1, l2, l3, l4, l5⟩ := last_in hr hZ hn
  rcases gB_in (fTF T S F G) 36 8 with z | ⟨g, hg, z1, z2⟩
  · have z' : fGB (fTF T S F G) 36 = -1 := z
    omega
  · have z' : fTF T S F G g = fGB (fTF T S F G) 36 := z1
    rw [← z']
    unfold fTF
    rw [fTk_at]
    have w := fWhy_pl (T := T) (S := S) (e := (fGB F 36).toNat) (n := (fGB F 36).toNat) (q := sR S (fGB F 36).toNat) (m := sM S (fGB F 36).toNat) G (Nat.min_le_left _ _) g hg
    have w' : fTG T S F G g < (((fGB F 36).toNat : Nat) : Int) := w.2
    have u : ct_up F (fRow (sM S (fGB F 36).toNat)).toNat (-1) g < fGB F 36 := by
      rw [← l1, l4, Int.toNat_natCast]
      by_cases e : g = l
      · subst e; rw [ct_up_s]; omega
      · rw [ct_up_n e]
        have := l5 g hg
        rcases hr g hg with x | x
        · omega
        · by_cases y : F g = F l
          · have := x.2.2
            rw [y, l4] at this
            omega
          · omega
    split <;> omega
/-! MARKS OF A CUT LIE ON DIFFERENT ROWS -/
def dr (S : ctS) : Prop := ∀ c k l : Nat, c < sC S → k < l → (l : Int) < sCs S c → ¬ fRow (sCm S (8 * c + k)) = fRow (sCm S (8 * c + l))
theorem dr_put {S : ctS} (h : dr S) (m l q : Int) : dr (fPut S m l q) := by
  intro c k l2 hc hk hl
  rw [fPut_C] at hc
  rw [fPut_Cs] at hl
  rw [fPut_Cm]
  exact h c k l2 hc hk hl
theorem dr_DI {T : ctT} : ∀ (k : Nat) {S : ctS}, dr S → dr (fDI T k S)
  | 0, _, h => h
  | k + 1, S, h => by
    unfold fDI
    split
    · cases e : fTell T S with
      | none => exact h
      | some q => exact dr_DI k (dr_put h _ _ _)
    · exact h
theorem dr_draw {T : ctT} {S : ctS} (h : dr S) : dr (fDraw T S) := dr_DI 36 h
theorem dr_cut {T : ctT} {S : ctS} (h : dr S) (n : Nat) : dr (fCut T S n) := by
  intro c k l hc hk hl
  rw [fCut_sC] at hc
  rw [fCut_sCs] at hl
  rw [fCut_sCm]
  exact h c k l hc hk hl
theorem dr_up {T : ctT} {S : ctS} (h : dr S) (l : Int) : dr (fUp T S l) := dr_cut h _
theorem dr_made {T : ctT} {S : ctS} (h : dr S) (m : Int) : dr (fMade T S m) := by
  by_cases e : mkP T S m
  · rw [fMade_t e]; exact dr_draw (dr_put h _ _ _)
  · rw [fMade_f e]; exact h
theorem dr_cp {T : ctT} {S : ctS} (hJ : J T S) (h : dr S) (V : ctS) : dr (fCp V S) := by
  intro c k l hc hk hl
  have hc' : c < sC S := hc
  rw [show sCs (fCp V S) c = sCs S c from cpy_at hc'] at hl
  have h8 := hJ.2.1.2.2.2.1 c hc'
  rw [show sCm (fCp V S) (8 * c + k) = sCm S (8 * c + k) from cpy_at (by omega), show sCm (fCp V S) (8 * c + l) = sCm S (8 * c + l) from cpy_at (by omega)]
  exact h c k l hc' hk hl
theorem fAdd_dr {A : ctS} (F : Nat → Int) (h8 : ∀ i, i < sZ A → F (fRow (sM A i)).toNat = (i : Int) → fCn (fAE A) F i < 8) : ∀ i, i ≤ sZ A → ∀ k l : Nat, k < l → l < fCn (fAE A) F i → ¬ fRow (sCm (fAdd (fAE A) F i) (8 * sC A + k)) = fRow (sCm (fAdd (fAE A) F i) (8 * sC A + l))
  | 0, _, k, l, _, hl => absurd hl (Nat.not_lt_zero _)
  | i + 1, hi, k, l, hk, hl => by
    have ih := fAdd_dr F h8 i (by omega)
    obtain ⟨e8, e10, e11⟩ := fAdd_mk F h8 i (by omega)
    rw [fAdd_s]
    unfold fCn at hl
    by_cases q : F (fRow (sM (fAE A) i)).toNat = (i : Int)
    · rw [if_pos q]
      rw [if_pos q] at hl
      have eM : ∀ d, sCm (fPL (fAdd (fAE A) F i) (sM (fAE A) i)) d = ct_up (sCm (fAdd (fAE A) F i)) (8 * sC A + fCn (fAE A) F i) (sM A i) d := fun d => by
        show ct_up (sCm (fAdd (fAE A) F i)) (8 * (sC (fAdd (fAE A) F i) - 1) + (sCs (fAdd (fAE A) F i) (sC (fAdd (fAE A) F i) - 1)).toNat) (sM A i) d = _
        rw [e8, Nat.add_sub_cancel, e10, Int.toNat_natCast]
      rw [eM, eM, ct_up_n (by omega)]
      by_cases z : l = fCn (fAE A) F i
      · rw [z, ct_up_s]
        obtain ⟨j, j1, j2, j3⟩ := e11 k (by omega)
        rw [j2]
        intro y
        have q' : F (fRow (sM A i)).toNat = (i : Int) := q
        rw [← y, j3] at q'
        omega
      · rw [ct_up_n (by omega)]
        exact ih k l hk (by omega)
    · rw [if_neg q]
      rw [if_neg q] at hl
      exact ih k l hk hl
theorem dr_Ln {T : ctT} {S : ctS} (hT : okT T) (hJ : J T S) (h : dr S) : dr (fLn T S) := by
  unfold fLn
  split
  · exact h
  · refine dr_draw (dr_up ?_ _)
    obtain ⟨hA, sA, cA⟩ := F40_ok hT hJ
    have h8 : ∀ i, i < sZ (fF40 S) → (fE T S) (fRow (sM (fF40 S) i)).toNat = (i : Int) → fCn (fAE (fF40 S)) (fE T S) i < 8 := fun i hi z => fCn_7 (S := fAE (fF40 S)) hT (fun a ha => J_M hA a ha) hi z
    have k := fAdd_ok hT (J_M hA) (fE T S) (sZ S) (by rw [sA.1]; exact Nat.le_refl _)
    have k2 := fAdd_dr (fE T S) h8 (sZ S) (by rw [sA.1]; exact Nat.le_refl _)
    intro c a b hc hab hb
    have hc' : c < sC (fF40 S) + 1 := by rw [← k.2.2.1]; exact hc
    by_cases z : c = sC (fF40 S)
    · subst z
      refine k2 a b hab ?_
      have := k.2.2.2.2.1
      have hb' : (b : Int) < sCs (fAdd (fAE (fF40 S)) (fE T S) (sZ S)) (sC (fF40 S)) := hb
      omega
    · have k3 := k.2.2.2.1 c (by omega)
      have hb' : (b : Int) < sCs (fAdd (fAE (fF40 S)) (fE T S) (sZ S)) c := hb
      rw [k3.1] at hb'
      have k4 := hA.2.1.2.2.2.1 c (by omega)
      show ¬ fRow (sCm (fAdd (fAE (fF40 S)) (fE T S) (sZ S)) (8 * c + a)) = fRow (sCm (fAdd (fAE (fF40 S)) (fE T S) (sZ S)) (8 * c + b))
      rw [k3.2 a (by omega), k3.2 b (by omega)]
      obtain ⟨d, d1, d2, d3⟩ := F40_cut (S := S) (d := c) (by omega)
      rw [d3 a (by omega), d3 b (by omega)]
      rw [d2] at hb'
      exact h d a b d1 hab hb'
/-! HOW MANY -/
theorem fCnt_up {G : Nat → Int} {j : Nat} {v : Int} (hj : G j = -1) : ∀ n, j < n → (fCnt (ct_up G j v) n : Int) = (fCnt G n : Int) + if v = -1 then 0 else 1
  | 0, h => absurd h (Nat.not_lt_zero _)
  | n + 1, h => by
    unfold fCnt
    by_cases e : j = n
    · subst e
      rw [ct_up_s, if_pos hj]
      have same : ∀ m, m ≤ j → fCnt (ct_up G j v) m = fCnt G m := by
        intro m
        induction m with
        | zero => intro _; rfl
        | succ m ih =>
          intro hm
          unfold fCnt
          rw [ih (by omega), ct_up_n (by omega)]
      rw [same j (Nat.le_refl _)]
      split <;> omega
    · have ih := fCnt_up hj n (v := v) (by omega)
      rw [ct_up_n (show n ≠ j from fun z => e z.symm)]
      split <;> split at ih <;> split <;> omega
theorem fCnt_I (G : Nat → Int) : ∀ n, n ≤ 8 → fCnt (fI G 8) n = 0
  | 0, _ => rfl
  | n + 1, h => by
    unfold fCnt
    rw [if_pos (by rw [fI_at, if_pos (by omega)])]
    exact fCnt_I G n (by omega)
theorem o9n (o : Option Nat) : (if ct_o (-9) o = -9 then (0 : Int) else 1) = if ct_o (-1) o = -1 then 0 else 1 := by
  cases o with
  | none => rfl
  | some i =>
    show (if (i : Int) = -9 then (0 : Int) else 1) = if (i : Int) = -1 then 0 else 1
    rw [if_neg (by omega), if_neg (by omega)]
theorem wyR_n {T : ctT} {S : ctS} {st : Nat → Int} (G : Nat → Int) {r e : Nat} {m cm : Int} : ∀ x, x ≤ 4 → (wyR T S st r e m cm x).1 = (fCnt (fWr T S (fI G 8) r e (fOwn m) x) 8 : Int)
  | 0, _ => by
    show (0 : Int) = (fCnt (fI G 8) 8 : Int)
    rw [fCnt_I G 8 (by omega)]; rfl
  | x + 1, hx => by
    have ih := wyR_n (T := T) (S := S) (st := st) G (r := r) (e := e) (m := m) (cm := cm) x (by omega)
    show (wyR T S st r e m cm x).1 + (if wyV T S r e m x = -9 then 0 else 1) = _
    unfold fWr
    by_cases c : ¬ tW T r x = 0 ∧ ¬ (x : Int) = fOwn m
    · rw [if_pos c, wyV_y c, fCnt_up (by rw [fWr_out x _ (by omega), fI_at, if_pos (by split <;> omega)]) 8 (by split <;> omega), ← ih, o9n]
    · rw [if_neg c, wyV_n c, ih, if_pos rfl]; omega
theorem fWc_out {S : ctS} {G : Nat → Int} {c e : Nat} {m : Int} {j : Nat} : ∀ n, (∀ k, k < n → ¬ (fRow (sCm S (8 * c + k))).toNat = j) → fWc S G c e m n j = G j
  | 0, _ => rfl
  | k + 1, h => by
    have ih := fWc_out (S := S) (G := G) (c := c) (e := e) (m := m) (j := j) k (fun i hi => h i (by omega))
    unfold fWc
    split
    · rw [ct_up_n (fun z => h k (by omega) z.symm)]; exact ih
    · exact ih
theorem wyC_n {T : ctT} {S : ctS} {st : Nat → Int} (G : Nat → Int) {c e : Nat} {m cm : Int} (hT : okT T) : ∀ n, (∀ k, k < n → okM T (sCm S (8 * c + k))) → (∀ k l, k < l → l < n → ¬ fRow (sCm S (8 * c + k)) = fRow (sCm S (8 * c + l))) → (wyC S st c e m cm n).1 = (fCnt (fWc S (fI G 8) c e m n) 8 : Int)
  | 0, _, _ => by
    show (0 : Int) = (fCnt (fI G 8) 8 : Int)
    rw [fCnt_I G 8 (by omega)]; rfl
  | k + 1, hk, hd => by
    have ih := wyC_n (S := S) (st := st) G (c := c) (e := e) (m := m) (cm := cm) hT k (fun i hi => hk i (by omega)) (fun a b hab hb => hd a b hab (by omega))
    show (wyC S st c e m cm k).1 + (if wyW S c e m k = -9 then 0 else 1) = _
    have h2 := fRow_r hT (hk k (by omega))
    unfold fWc
    by_cases q : m = -9 ∨ ¬ fNeg (sCm S (8 * c + k)) = m
    · rw [if_pos q, show wyW S c e m k = ct_o (-9) (fLa S e (sCm S (8 * c + k) / 100) (sCm S (8 * c + k) / 10 % 10)) from if_neg (by omega)]
      rw [fCnt_up (by
        rw [fWc_out k (fun i hi z => hd i k hi (by omega) (by have := fRow_r hT (hk i (by omega)); omega)), fI_at, if_pos (by omega)]) 8 (by omega), ← ih, o9n]
    · rw [if_neg q, show wyW S c e m k = -9 from if_pos (by omega), ih, if_pos rfl]; omega
theorem wyO_n {T : ctT} {S : ctS} {st : Nat → Int} (G : Nat → Int) {i : Nat} {cm : Int} (hT : okT T) (hJ : J T S) (hq : rq T S) (hd : dr S) (hi : i < sZ S) : (wyO T S st i cm).1 = (fCnt (fWhy T S G (sR S i) i (sM S i)) 8 : Int) := by
  have q1 := hq i hi
  have q2 := hJ.2.1.2.1 i hi
  have h6 := hT.2.2.1
  unfold wyO fWhy
  by_cases a : sR S i < 0
  · rw [if_pos a, if_neg (by omega), if_neg (by omega), fCnt_I G 8 (by omega)]; rfl
  · rw [if_neg a]
    by_cases b : sR S i < 10
    · rw [if_pos b, if_pos (by omega)]
      exact wyR_n G _ hT.2.1
    · rw [if_neg b, if_neg (by omega), if_pos (by omega)]
      exact wyC_n G hT _ (fun k hk => J_C hJ _ k (by omega) (by omega)) (fun k l hk hl => hd _ k l (by omega) hk (by omega))
