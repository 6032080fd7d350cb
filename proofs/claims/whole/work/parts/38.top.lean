/-- the tracer's and the ways' rows of work -/
abbrev ctX : Type := (Nat → Int) × (Nat → Int) × (Nat → Int) × (Nat → Int)
/-- the text: its length, its letters; what was seen: how many, marks, whether so -/
abbrev ctY : Type := Nat × (Nat → Int) × Nat × (Nat → Int) × (Nat → Int)
/-- whether counted, the counts -/
abbrev ctW : Type := Int × (Nat → Int)
/-- the slots: two states, which are filled -/
abbrev ctK : Type := ctS × ctS × (Nat → Int)
def LR (V : ctS) (x : ctX) (y : ctY) (c : ctW) (k : ctK) (sd : Int) : List (List ct_C) := [[cO 8 [vR 163, vR 164], cA 0 8 x.1, cA 0 8 x.2.1], [cO 11 [vR 10, vR 176, vR 0, vR 166, vR 162, vR 20, vR 186, vR 178, vR 181, vR 184, vL sd]], wSt 166 10 V, wTx 176 y.1 y.2.1, wSn 178 y.2.2.1 y.2.2.2.1 y.2.2.2.2, [cO 10 [vR 10, vR 182, vR 183], cA 0 4 x.2.2.1, cA 0 4 x.2.2.2], [cO 1 [vR 10, vR 185, vI c.1], cA 0 64 c.2], [cO 4 [vR 187, vR 188], cQ 2 [some 189, some 199], cA 1 2 k.2.2], wSt 189 10 k.1, wSt 199 10 k.2.1]
def wTop (T : ctT) (S : ctS) (n : Nat) (P : Nat → Nat) (A : Nat → ctS) (V : ctS) (x : ctX) (y : ctY) (c : ctW) (k : ctK) (sd : Int) : List ct_C := (LA T S n P A ++ LR V x y c k sd).flatten
def nT : List Nat := nA ++ [3, 1, 10, 2, 3, 3, 2, 3, 10, 10]
theorem nT_e (T : ctT) (S : ctS) (n : Nat) (P : Nat → Nat) (A : Nat → ctS) (V : ctS) (x : ctX) (y : ctY) (c : ctW) (k : ctK) (sd : Int) : (LA T S n P A ++ LR V x y c k sd).map List.length = nT := rfl
set_option maxRecDepth 100000 in
set_option maxHeartbeats 1000000 in
theorem cv_topS {M M' : ct_M} {r : Nat × Nat × Nat} {d n0 : Nat} {z : Nat × Nat} {pc : Nat} {ls : List (Nat × ct_V)} {st stk avs : List ct_V} {Q Q' : Option ct_V → List ct_C → Prop} {idx nn b : Nat} {T : ctT} {S : ctS} {n : Nat} {P : Nat → Nat} {A : Nat → ctS} {V : ctS} {x : ctX} {y : ctY} {c : ctW} {k : ctK} {sd : Int} (hM : CM M' (d, 0, 0) (vR b :: avs) (wS T S) Q') (hk : ct_lk 0 M' nn) (hlk : Cond.methodLink M.1.cls idx M'.1 ∈ ct_tbl) (hd : decode M.2.1 pc = .ok (.invokevirtual idx, 3)) (hr : d + 1 ≤ r.1) (hn : avs.length = nn) {ci : Nat} {fs : List ct_V} (hb : (wS T S)[b]? = some (cO ci fs)) (hci : (vwCl[ci]?).map (fun q => q.1) = some M'.1.cls)
    (hst : stk = (avs.map (ct_rv (ct_pl (ct_ps [(0, 0, 10), (1, 10, 10)])))).reverse ++ vR (ct_pl (ct_ps [(0, 0, 10), (1, 10, 10)]) b) :: st) (hsz : ct_sz st ≤ 8) (hz : z.1 ≤ r.2.1 ∧ z.2 ≤ r.2.2)
    (kk : ∀ (v : Option ct_V) (w1 : List ct_C), Q' v w1 → ∃ (T1 : ctT) (S1 : ctS), w1 = wS T1 S1 ∧ CV M r n0 z (pc + 3) ls ((v.map (ct_rv (ct_pl (ct_ps [(0, 0, 10), (1, 10, 10)])))).toList ++ st) (wTop T1 S1 n P A V x y c k sd) Q) : CV M r n0 z pc ls stk (wTop T S n P A V x y c k sd) Q := by
  refine cv_blkV [(0, 0, 10), (1, 10, 10)] (nT_e T S n P A V x y c k sd) (by decide) (by decide) hM rfl hk hlk hd hr hn hb hci hst hsz hz (fun v w1 hq => ?_) (fun v w1 hq => ?_)
  · obtain ⟨T1, S1, rfl, -⟩ := kk v w1 hq
    rfl
  · obtain ⟨T1, S1, rfl, h⟩ := kk v w1 hq
    exact ⟨[wSt 0 10 S1, wT 10 T1], rfl, rfl, h⟩
set_option maxRecDepth 100000 in
set_option maxHeartbeats 1000000 in
theorem cv_topR {M M' : ct_M} {r : Nat × Nat × Nat} {d n0 : Nat} {z : Nat × Nat} {pc : Nat} {ls : List (Nat × ct_V)} {st stk avs : List ct_V} {Q Q' : Option ct_V → List ct_C → Prop} {idx nn b : Nat} {T : ctT} {S : ctS} {n : Nat} {P : Nat → Nat} {A : Nat → ctS} {V : ctS} {x : ctX} {y : ctY} {c : ctW} {k : ctK} {sd : Int} (hM : CM M' (d, 0, 0) (vR b :: avs) (wR T S x.1 x.2.1) Q') (hk : ct_lk 0 M' nn) (hlk : Cond.methodLink M.1.cls idx M'.1 ∈ ct_tbl) (hd : decode M.2.1 pc = .ok (.invokevirtual idx, 3)) (hr : d + 1 ≤ r.1) (hn : avs.length = nn) {ci : Nat} {fs : List ct_V} (hb : (wR T S x.1 x.2.1)[b]? = some (cO ci fs)) (hci : (vwCl[ci]?).map (fun q => q.1) = some M'.1.cls)
    (hst : stk = (avs.map (ct_rv (ct_pl (ct_ps [(0, 0, 10), (1, 10, 10), (17, 162, 3)])))).reverse ++ vR (ct_pl (ct_ps [(0, 0, 10), (1, 10, 10), (17, 162, 3)]) b) :: st) (hsz : ct_sz st ≤ 8) (hz : z.1 ≤ r.2.1 ∧ z.2 ≤ r.2.2)
    (kk : ∀ (v : Option ct_V) (w1 : List ct_C), Q' v w1 → ∃ (T1 : ctT) (S1 : ctS) (F1 G1 : Nat → Int), w1 = wR T1 S1 F1 G1 ∧ CV M r n0 z (pc + 3) ls ((v.map (ct_rv (ct_pl (ct_ps [(0, 0, 10), (1, 10, 10), (17, 162, 3)])))).toList ++ st) (wTop T1 S1 n P A V (F1, G1, x.2.2) y c k sd) Q) : CV M r n0 z pc ls stk (wTop T S n P A V x y c k sd) Q := by
  refine cv_blkV [(0, 0, 10), (1, 10, 10), (17, 162, 3)] (nT_e T S n P A V x y c k sd) (by decide) (by decide) hM rfl hk hlk hd hr hn hb hci hst hsz hz (fun v w1 hq => ?_) (fun v w1 hq => ?_)
  · obtain ⟨T1, S1, F1, G1, rfl, -⟩ := kk v w1 hq
    rfl
  · obtain ⟨T1, S1, F1, G1, rfl, h⟩ := kk v w1 hq
    exact ⟨[wSt 0 10 S1, wT 10 T1, [cO 8 [vR 163, vR 164], cA 0 8 F1, cA 0 8 G1]], rfl, rfl, h⟩
set_option maxRecDepth 100000 in
set_option maxHeartbeats 1000000 in
theorem cv_topV {M M' : ct_M} {r : Nat × Nat × Nat} {d n0 : Nat} {z : Nat × Nat} {pc : Nat} {ls : List (Nat × ct_V)} {st stk avs : List ct_V} {Q Q' : Option ct_V → List ct_C → Prop} {idx nn b : Nat} {T : ctT} {S : ctS} {n : Nat} {P : Nat → Nat} {A : Nat → ctS} {V : ctS} {x : ctX} {y : ctY} {c : ctW} {k : ctK} {sd : Int} (hM : CM M' (d, 0, 0) (vR b :: avs) (wS T V) Q') (hk : ct_lk 0 M' nn) (hlk : Cond.methodLink M.1.cls idx M'.1 ∈ ct_tbl) (hd : decode M.2.1 pc = .ok (.invokevirtual idx, 3)) (hr : d + 1 ≤ r.1) (hn : avs.length = nn) {ci : Nat} {fs : List ct_V} (hb : (wS T V)[b]? = some (cO ci fs)) (hci : (vwCl[ci]?).map (fun q => q.1) = some M'.1.cls)
    (hst : stk = (avs.map (ct_rv (ct_pl (ct_ps [(19, 166, 10), (1, 10, 10)])))).reverse ++ vR (ct_pl (ct_ps [(19, 166, 10), (1, 10, 10)]) b) :: st) (hsz : ct_sz st ≤ 8) (hz : z.1 ≤ r.2.1 ∧ z.2 ≤ r.2.2)
    (kk : ∀ (v : Option ct_V) (w1 : List ct_C), Q' v w1 → ∃ (T1 : ctT) (S1 : ctS), w1 = wS T1 S1 ∧ CV M r n0 z (pc + 3) ls ((v.map (ct_rv (ct_pl (ct_ps [(19, 166, 10), (1, 10, 10)])))).toList ++ st) (wTop T1 S n P A S1 x y c k sd) Q) : CV M r n0 z pc ls stk (wTop T S n P A V x y c k sd) Q := by
  refine cv_blkV [(19, 166, 10), (1, 10, 10)] (nT_e T S n P A V x y c k sd) (by decide) (by decide) hM rfl hk hlk hd hr hn hb hci hst hsz hz (fun v w1 hq => ?_) (fun v w1 hq => ?_)
  · obtain ⟨T1, S1, rfl, -⟩ := kk v w1 hq
    rfl
  · obtain ⟨T1, S1, rfl, h⟩ := kk v w1 hq
    exact ⟨[wSt 166 10 S1, wT 10 T1], rfl, rfl, h⟩
set_option maxRecDepth 100000 in
set_option maxHeartbeats 1000000 in
theorem cv_topVR {M M' : ct_M} {r : Nat × Nat × Nat} {d n0 : Nat} {z : Nat × Nat} {pc : Nat} {ls : List (Nat × ct_V)} {st stk avs : List ct_V} {Q Q' : Option ct_V → List ct_C → Prop} {idx nn b : Nat} {T : ctT} {S : ctS} {n : Nat} {P : Nat → Nat} {A : Nat → ctS} {V : ctS} {x : ctX} {y : ctY} {c : ctW} {k : ctK} {sd : Int} (hM : CM M' (d, 0, 0) (vR b :: avs) (wR T V x.1 x.2.1) Q') (hk : ct_lk 0 M' nn) (hlk : Cond.methodLink M.1.cls idx M'.1 ∈ ct_tbl) (hd : decode M.2.1 pc = .ok (.invokevirtual idx, 3)) (hr : d + 1 ≤ r.1) (hn : avs.length = nn) {ci : Nat} {fs : List ct_V} (hb : (wR T V x.1 x.2.1)[b]? = some (cO ci fs)) (hci : (vwCl[ci]?).map (fun q => q.1) = some M'.1.cls)
    (hst : stk = (avs.map (ct_rv (ct_pl (ct_ps [(19, 166, 10), (1, 10, 10), (17, 162, 3)])))).reverse ++ vR (ct_pl (ct_ps [(19, 166, 10), (1, 10, 10), (17, 162, 3)]) b) :: st) (hsz : ct_sz st ≤ 8) (hz : z.1 ≤ r.2.1 ∧ z.2 ≤ r.2.2)
    (kk : ∀ (v : Option ct_V) (w1 : List ct_C), Q' v w1 → ∃ (T1 : ctT) (S1 : ctS) (F1 G1 : Nat → Int), w1 = wR T1 S1 F1 G1 ∧ CV M r n0 z (pc + 3) ls ((v.map (ct_rv (ct_pl (ct_ps [(19, 166, 10), (1, 10, 10), (17, 162, 3)])))).toList ++ st) (wTop T1 S n P A S1 (F1, G1, x.2.2) y c k sd) Q) : CV M r n0 z pc ls stk (wTop T S n P A V x y c k sd) Q := by
  refine cv_blkV [(19, 166, 10), (1, 10, 10), (17, 162, 3)] (nT_e T S n P A V x y c k sd) (by decide) (by decide) hM rfl hk hlk hd hr hn hb hci hst hsz hz (fun v w1 hq => ?_) (fun v w1 hq => ?_)
  · obtain ⟨T1, S1, F1, G1, rfl, -⟩ := kk v w1 hq
    rfl
  · obtain ⟨T1, S1, F1, G1, rfl, h⟩ := kk v w1 hq
    exact ⟨[wSt 166 10 S1, wT 10 T1, [cO 8 [vR 163, vR 164], cA 0 8 F1, cA 0 8 G1]], rfl, rfl, h⟩
set_option maxRecDepth 100000 in
set_option maxHeartbeats 1000000 in
theorem cv_topX {M M' : ct_M} {r : Nat × Nat × Nat} {d n0 : Nat} {z : Nat × Nat} {pc : Nat} {ls : List (Nat × ct_V)} {st stk avs : List ct_V} {Q Q' : Option ct_V → List ct_C → Prop} {idx nn b : Nat} {T : ctT} {S : ctS} {n : Nat} {P : Nat → Nat} {A : Nat → ctS} {V : ctS} {x : ctX} {y : ctY} {c : ctW} {k : ctK} {sd : Int} (hM : CM M' (d, 0, 0) (vR b :: avs) (wTx 0 y.1 y.2.1) Q') (hk : ct_lk 0 M' nn) (hlk : Cond.methodLink M.1.cls idx M'.1 ∈ ct_tbl) (hd : decode M.2.1 pc = .ok (.invokevirtual idx, 3)) (hr : d + 1 ≤ r.1) (hn : avs.length = nn) {ci : Nat} {fs : List ct_V} (hb : (wTx 0 y.1 y.2.1)[b]? = some (cO ci fs)) (hci : (vwCl[ci]?).map (fun q => q.1) = some M'.1.cls)
    (hst : stk = (avs.map (ct_rv (ct_pl (ct_ps [(20, 176, 2)])))).reverse ++ vR (ct_pl (ct_ps [(20, 176, 2)]) b) :: st) (hsz : ct_sz st ≤ 8) (hz : z.1 ≤ r.2.1 ∧ z.2 ≤ r.2.2)
    (kk : ∀ (v : Option ct_V) (w1 : List ct_C), Q' v w1 → ∃ (n1 : Nat) (f1 : Nat → Int), w1 = wTx 0 n1 f1 ∧ CV M r n0 z (pc + 3) ls ((v.map (ct_rv (ct_pl (ct_ps [(20, 176, 2)])))).toList ++ st) (wTop T S n P A V x (n1, f1, y.2.2) c k sd) Q) : CV M r n0 z pc ls stk (wTop T S n P A V x y c k sd) Q := by
  refine cv_blkV [(20, 176, 2)] (nT_e T S n P A V x y c k sd) (by decide) (by decide) hM rfl hk hlk hd hr hn hb hci hst hsz hz (fun v w1 hq => ?_) (fun v w1 hq => ?_)
  · obtain ⟨n1, f1, rfl, -⟩ := kk v w1 hq
    rfl
  · obtain ⟨n1, f1, rfl, h⟩ := kk v w1 hq
    exact ⟨[wTx 176 n1 f1], rfl, rfl, h⟩
set_option maxRecDepth 100000 in
set_option maxHeartbeats 1000000 in
theorem cv_topTT {M M' : ct_M} {r : Nat × Nat × Nat} {d n0 : Nat} {z : Nat × Nat} {pc : Nat} {ls : List (Nat × ct_V)} {st stk avs : List ct_V} {Q Q' : Option ct_V → List ct_C → Prop} {idx nn b : Nat} {T : ctT} {S : ctS} {n : Nat} {P : Nat → Nat} {A : Nat → ctS} {V : ctS} {x : ctX} {y : ctY} {c : ctW} {k : ctK} {sd : Int} (hM : CM M' (d, 0, 0) (vR b :: avs) (wTT T S y.1 y.2.1) Q') (hk : ct_lk 0 M' nn) (hlk : Cond.methodLink M.1.cls idx M'.1 ∈ ct_tbl) (hd : decode M.2.1 pc = .ok (.invokevirtual idx, 3)) (hr : d + 1 ≤ r.1) (hn : avs.length = nn) {ci : Nat} {fs : List ct_V} (hb : (wTT T S y.1 y.2.1)[b]? = some (cO ci fs)) (hci : (vwCl[ci]?).map (fun q => q.1) = some M'.1.cls)
    (hst : stk = (avs.map (ct_rv (ct_pl (ct_ps [(0, 0, 10), (1, 10, 10), (20, 176, 2)])))).reverse ++ vR (ct_pl (ct_ps [(0, 0, 10), (1, 10, 10), (20, 176, 2)]) b) :: st) (hsz : ct_sz st ≤ 8) (hz : z.1 ≤ r.2.1 ∧ z.2 ≤ r.2.2)
    (kk : ∀ (v : Option ct_V) (w1 : List ct_C), Q' v w1 → ∃ (T1 : ctT) (S1 : ctS) (n1 : Nat) (f1 : Nat → Int), w1 = wTT T1 S1 n1 f1 ∧ CV M r n0 z (pc + 3) ls ((v.map (ct_rv (ct_pl (ct_ps [(0, 0, 10), (1, 10, 10), (20, 176, 2)])))).toList ++ st) (wTop T1 S1 n P A V x (n1, f1, y.2.2) c k sd) Q) : CV M r n0 z pc ls stk (wTop T S n P A V x y c k sd) Q := by
  refine cv_blkV [(0, 0, 10), (1, 10, 10), (20, 176, 2)] (nT_e T S n P A V x y c k sd) (by decide) (by decide) hM rfl hk hlk hd hr hn hb hci hst hsz hz (fun v w1 hq => ?_) (fun v w1 hq => ?_)
  · obtain ⟨T1, S1, n1, f1, rfl, -⟩ := kk v w1 hq
    rfl
  · obtain ⟨T1, S1, n1, f1, rfl, h⟩ := kk v w1 hq
    exact ⟨[wSt 0 10 S1, wT 10 T1, wTx 176 n1 f1], rfl, rfl, h⟩
set_option maxRecDepth 100000 in
set_option maxHeartbeats 1000000 in
theorem cv_topN {M M' : ct_M} {r : Nat × Nat × Nat} {d n0 : Nat} {z : Nat × Nat} {pc : Nat} {ls : List (Nat × ct_V)} {st stk avs : List ct_V} {Q Q' : Option ct_V → List ct_C → Prop} {idx nn b : Nat} {T : ctT} {S : ctS} {n : Nat} {P : Nat → Nat} {A : Nat → ctS} {V : ctS} {x : ctX} {y : ctY} {c : ctW} {k : ctK} {sd : Int} (hM : CM M' (d, 0, 0) (vR b :: avs) (wSn 0 y.2.2.1 y.2.2.2.1 y.2.2.2.2) Q') (hk : ct_lk 0 M' nn) (hlk : Cond.methodLink M.1.cls idx M'.1 ∈ ct_tbl) (hd : decode M.2.1 pc = .ok (.invokevirtual idx, 3)) (hr : d + 1 ≤ r.1) (hn : avs.length = nn) {ci : Nat} {fs : List ct_V} (hb : (wSn 0 y.2.2.1 y.2.2.2.1 y.2.2.2.2)[b]? = some (cO ci fs)) (hci : (vwCl[ci]?).map (fun q => q.1) = some M'.1.cls)
    (hst : stk = (avs.map (ct_rv (ct_pl (ct_ps [(21, 178, 3)])))).reverse ++ vR (ct_pl (ct_ps [(21, 178, 3)]) b) :: st) (hsz : ct_sz st ≤ 8) (hz : z.1 ≤ r.2.1 ∧ z.2 ≤ r.2.2)
    (kk : ∀ (v : Option ct_V) (w1 : List ct_C), Q' v w1 → ∃ (n1 : Nat) (f1 g1 : Nat → Int), w1 = wSn 0 n1 f1 g1 ∧ CV M r n0 z (pc + 3) ls ((v.map (ct_rv (ct_pl (ct_ps [(21, 178, 3)])))).toList ++ st) (wTop T S n P A V x (y.1, y.2.1, n1, f1, g1) c k sd) Q) : CV M r n0 z pc ls stk (wTop T S n P A V x y c k sd) Q := by
  refine cv_blkV [(21, 178, 3)] (nT_e T S n P A V x y c k sd) (by decide) (by decide) hM rfl hk hlk hd hr hn hb hci hst hsz hz (fun v w1 hq => ?_) (fun v w1 hq => ?_)
  · obtain ⟨n1, f1, g1, rfl, -⟩ := kk v w1 hq
    rfl
  · obtain ⟨n1, f1, g1, rfl, h⟩ := kk v w1 hq
    exact ⟨[wSn 178 n1 f1 g1], rfl, rfl, h⟩
set_option maxRecDepth 100000 in
set_option maxHeartbeats 1000000 in
theorem cv_topW {M M' : ct_M} {r : Nat × Nat × Nat} {d n0 : Nat} {z : Nat × Nat} {pc : Nat} {ls : List (Nat × ct_V)} {st stk avs : List ct_V} {Q Q' : Option ct_V → List ct_C → Prop} {idx nn b : Nat} {T : ctT} {S : ctS} {n : Nat} {P : Nat → Nat} {A : Nat → ctS} {V : ctS} {x : ctX} {y : ctY} {c : ctW} {k : ctK} {sd : Int} (hM : CM M' (d, 0, 0) (vR b :: avs) (wW T S x.2.2.1 x.2.2.2) Q') (hk : ct_lk 0 M' nn) (hlk : Cond.methodLink M.1.cls idx M'.1 ∈ ct_tbl) (hd : decode M.2.1 pc = .ok (.invokevirtual idx, 3)) (hr : d + 1 ≤ r.1) (hn : avs.length = nn) {ci : Nat} {fs : List ct_V} (hb : (wW T S x.2.2.1 x.2.2.2)[b]? = some (cO ci fs)) (hci : (vwCl[ci]?).map (fun q => q.1) = some M'.1.cls)
    (hst : stk = (avs.map (ct_rv (ct_pl (ct_ps [(0, 0, 10), (1, 10, 10), (22, 181, 3)])))).reverse ++ vR (ct_pl (ct_ps [(0, 0, 10), (1, 10, 10), (22, 181, 3)]) b) :: st) (hsz : ct_sz st ≤ 8) (hz : z.1 ≤ r.2.1 ∧ z.2 ≤ r.2.2)
    (kk : ∀ (v : Option ct_V) (w1 : List ct_C), Q' v w1 → ∃ (T1 : ctT) (S1 : ctS) (f1 t1 : Nat → Int), w1 = wW T1 S1 f1 t1 ∧ CV M r n0 z (pc + 3) ls ((v.map (ct_rv (ct_pl (ct_ps [(0, 0, 10), (1, 10, 10), (22, 181, 3)])))).toList ++ st) (wTop T1 S1 n P A V (x.1, x.2.1, f1, t1) y c k sd) Q) : CV M r n0 z pc ls stk (wTop T S n P A V x y c k sd) Q := by
  refine cv_blkV [(0, 0, 10), (1, 10, 10), (22, 181, 3)] (nT_e T S n P A V x y c k sd) (by decide) (by decide) hM rfl hk hlk hd hr hn hb hci hst hsz hz (fun v w1 hq => ?_) (fun v w1 hq => ?_)
  · obtain ⟨T1, S1, f1, t1, rfl, -⟩ := kk v w1 hq
    rfl
  · obtain ⟨T1, S1, f1, t1, rfl, h⟩ := kk v w1 hq
    exact ⟨[wSt 0 10 S1, wT 10 T1, [cO 10 [vR 10, vR 182, vR 183], cA 0 4 f1, cA 0 4 t1]], rfl, rfl, h⟩
set_option maxRecDepth 100000 in
set_option maxHeartbeats 1000000 in
theorem cv_topWN {M M' : ct_M} {r : Nat × Nat × Nat} {d n0 : Nat} {z : Nat × Nat} {pc : Nat} {ls : List (Nat × ct_V)} {st stk avs : List ct_V} {Q Q' : Option ct_V → List ct_C → Prop} {idx nn b : Nat} {T : ctT} {S : ctS} {n : Nat} {P : Nat → Nat} {A : Nat → ctS} {V : ctS} {x : ctX} {y : ctY} {c : ctW} {k : ctK} {sd : Int} (hM : CM M' (d, 0, 0) (vR b :: avs) (wW T S x.2.2.1 x.2.2.2 ++ wSn 23 y.2.2.1 y.2.2.2.1 y.2.2.2.2) Q') (hk : ct_lk 0 M' nn) (hlk : Cond.methodLink M.1.cls idx M'.1 ∈ ct_tbl) (hd : decode M.2.1 pc = .ok (.invokevirtual idx, 3)) (hr : d + 1 ≤ r.1) (hn : avs.length = nn) {ci : Nat} {fs : List ct_V} (hb : (wW T S x.2.2.1 x.2.2.2 ++ wSn 23 y.2.2.1 y.2.2.2.1 y.2.2.2.2)[b]? = some (cO ci fs)) (hci : (vwCl[ci]?).map (fun q => q.1) = some M'.1.cls)
    (hst : stk = (avs.map (ct_rv (ct_pl (ct_ps [(0, 0, 10), (1, 10, 10), (22, 181, 3), (21, 178, 3)])))).reverse ++ vR (ct_pl (ct_ps [(0, 0, 10), (1, 10, 10), (22, 181, 3), (21, 178, 3)]) b) :: st) (hsz : ct_sz st ≤ 8) (hz : z.1 ≤ r.2.1 ∧ z.2 ≤ r.2.2)
    (kk : ∀ (v : Option ct_V) (w1 : List ct_C), Q' v w1 → ∃ (T1 : ctT) (S1 : ctS) (f1 t1 : Nat → Int) (n1 : Nat) (f2 g2 : Nat → Int), w1 = wW T1 S1 f1 t1 ++ wSn 23 n1 f2 g2 ∧ CV M r n0 z (pc + 3) ls ((v.map (ct_rv (ct_pl (ct_ps [(0, 0, 10), (1, 10, 10), (22, 181, 3), (21, 178, 3)])))).toList ++ st) (wTop T1 S1 n P A V (x.1, x.2.1, f1, t1) (y.1, y.2.1, n1, f2, g2) c k sd) Q) : CV M r n0 z pc ls stk (wTop T S n P A V x y c k sd) Q := by
  refine cv_blkV [(0, 0, 10), (1, 10, 10), (22, 181, 3), (21, 178, 3)] (nT_e T S n P A V x y c k sd) (by decide) (by decide) hM rfl hk hlk hd hr hn hb hci hst hsz hz (fun v w1 hq => ?_) (fun v w1 hq => ?_)
  · obtain ⟨T1, S1, f1, t1, n1, f2, g2, rfl, -⟩ := kk v w1 hq
    rfl
  · obtain ⟨T1, S1, f1, t1, n1, f2, g2, rfl, h⟩ := kk v w1 hq
    exact ⟨[wSt 0 10 S1, wT 10 T1, [cO 10 [vR 10, vR 182, vR 183], cA 0 4 f1, cA 0 4 t1], wSn 178 n1 f2 g2], rfl, rfl, h⟩
set_option maxRecDepth 100000 in
set_option maxHeartbeats 1000000 in
theorem cv_topC {M M' : ct_M} {r : Nat × Nat × Nat} {d n0 : Nat} {z : Nat × Nat} {pc : Nat} {ls : List (Nat × ct_V)} {st stk avs : List ct_V} {Q Q' : Option ct_V → List ct_C → Prop} {idx nn b : Nat} {T : ctT} {S : ctS} {n : Nat} {P : Nat → Nat} {A : Nat → ctS} {V : ctS} {x : ctX} {y : ctY} {c : ctW} {k : ctK} {sd : Int} (hM : CM M' (d, 0, 0) (vR b :: avs) (wCh T S c.1 c.2) Q') (hk : ct_lk 0 M' nn) (hlk : Cond.methodLink M.1.cls idx M'.1 ∈ ct_tbl) (hd : decode M.2.1 pc = .ok (.invokevirtual idx, 3)) (hr : d + 1 ≤ r.1) (hn : avs.length = nn) {ci : Nat} {fs : List ct_V} (hb : (wCh T S c.1 c.2)[b]? = some (cO ci fs)) (hci : (vwCl[ci]?).map (fun q => q.1) = some M'.1.cls)
    (hst : stk = (avs.map (ct_rv (ct_pl (ct_ps [(0, 0, 10), (1, 10, 10), (23, 184, 2)])))).reverse ++ vR (ct_pl (ct_ps [(0, 0, 10), (1, 10, 10), (23, 184, 2)]) b) :: st) (hsz : ct_sz st ≤ 8) (hz : z.1 ≤ r.2.1 ∧ z.2 ≤ r.2.2)
    (kk : ∀ (v : Option ct_V) (w1 : List ct_C), Q' v w1 → ∃ (T1 : ctT) (S1 : ctS) (i1 : Int) (f1 : Nat → Int), w1 = wCh T1 S1 i1 f1 ∧ CV M r n0 z (pc + 3) ls ((v.map (ct_rv (ct_pl (ct_ps [(0, 0, 10), (1, 10, 10), (23, 184, 2)])))).toList ++ st) (wTop T1 S1 n P A V x y (i1, f1) k sd) Q) : CV M r n0 z pc ls stk (wTop T S n P A V x y c k sd) Q := by
  refine cv_blkV [(0, 0, 10), (1, 10, 10), (23, 184, 2)] (nT_e T S n P A V x y c k sd) (by decide) (by decide) hM rfl hk hlk hd hr hn hb hci hst hsz hz (fun v w1 hq => ?_) (fun v w1 hq => ?_)
  · obtain ⟨T1, S1, i1, f1, rfl, -⟩ := kk v w1 hq
    rfl
  · obtain ⟨T1, S1, i1, f1, rfl, h⟩ := kk v w1 hq
    exact ⟨[wSt 0 10 S1, wT 10 T1, [cO 1 [vR 10, vR 185, vI i1], cA 0 64 f1]], rfl, rfl, h⟩
set_option maxRecDepth 100000 in
set_option maxHeartbeats 1000000 in
theorem cv_topCp {M M' : ct_M} {r : Nat × Nat × Nat} {d n0 : Nat} {z : Nat × Nat} {pc : Nat} {ls : List (Nat × ct_V)} {st stk avs : List ct_V} {Q Q' : Option ct_V → List ct_C → Prop} {idx nn b : Nat} {T : ctT} {S : ctS} {n : Nat} {P : Nat → Nat} {A : Nat → ctS} {V : ctS} {x : ctX} {y : ctY} {c : ctW} {k : ctK} {sd : Int} (hM : CM M' (d, 0, 0) (vR b :: avs) (wCp T V S) Q') (hk : ct_lk 0 M' nn) (hlk : Cond.methodLink M.1.cls idx M'.1 ∈ ct_tbl) (hd : decode M.2.1 pc = .ok (.invokevirtual idx, 3)) (hr : d + 1 ≤ r.1) (hn : avs.length = nn) {ci : Nat} {fs : List ct_V} (hb : (wCp T V S)[b]? = some (cO ci fs)) (hci : (vwCl[ci]?).map (fun q => q.1) = some M'.1.cls)
    (hst : stk = (avs.map (ct_rv (ct_pl (ct_ps [(19, 166, 10), (0, 0, 10), (1, 10, 10)])))).reverse ++ vR (ct_pl (ct_ps [(19, 166, 10), (0, 0, 10), (1, 10, 10)]) b) :: st) (hsz : ct_sz st ≤ 8) (hz : z.1 ≤ r.2.1 ∧ z.2 ≤ r.2.2)
    (kk : ∀ (v : Option ct_V) (w1 : List ct_C), Q' v w1 → ∃ (T1 : ctT) (V1 S1 : ctS), w1 = wCp T1 V1 S1 ∧ CV M r n0 z (pc + 3) ls ((v.map (ct_rv (ct_pl (ct_ps [(19, 166, 10), (0, 0, 10), (1, 10, 10)])))).toList ++ st) (wTop T1 S1 n P A V1 x y c k sd) Q) : CV M r n0 z pc ls stk (wTop T S n P A V x y c k sd) Q := by
  refine cv_blkV [(19, 166, 10), (0, 0, 10), (1, 10, 10)] (nT_e T S n P A V x y c k sd) (by decide) (by decide) hM rfl hk hlk hd hr hn hb hci hst hsz hz (fun v w1 hq => ?_) (fun v w1 hq => ?_)
  · obtain ⟨T1, V1, S1, rfl, -⟩ := kk v w1 hq
    rfl
  · obtain ⟨T1, V1, S1, rfl, h⟩ := kk v w1 hq
    exact ⟨[wSt 166 10 V1, wSt 0 10 S1, wT 10 T1], rfl, rfl, h⟩
set_option maxRecDepth 100000 in
set_option maxHeartbeats 1000000 in
theorem cv_topK {M M' : ct_M} {r : Nat × Nat × Nat} {d n0 : Nat} {z : Nat × Nat} {pc : Nat} {ls : List (Nat × ct_V)} {st stk avs : List ct_V} {Q Q' : Option ct_V → List ct_C → Prop} {idx nn b : Nat} {T : ctT} {S : ctS} {n : Nat} {P : Nat → Nat} {A : Nat → ctS} {V : ctS} {x : ctX} {y : ctY} {c : ctW} {k : ctK} {sd : Int} (hM : CM M' (d, 0, 0) (vR b :: avs) (wCp T S k.1) Q') (hk : ct_lk 0 M' nn) (hlk : Cond.methodLink M.1.cls idx M'.1 ∈ ct_tbl) (hd : decode M.2.1 pc = .ok (.invokevirtual idx, 3)) (hr : d + 1 ≤ r.1) (hn : avs.length = nn) {ci : Nat} {fs : List ct_V} (hb : (wCp T S k.1)[b]? = some (cO ci fs)) (hci : (vwCl[ci]?).map (fun q => q.1) = some M'.1.cls)
    (hst : stk = (avs.map (ct_rv (ct_pl (ct_ps [(0, 0, 10), (25, 189, 10), (1, 10, 10)])))).reverse ++ vR (ct_pl (ct_ps [(0, 0, 10), (25, 189, 10), (1, 10, 10)]) b) :: st) (hsz : ct_sz st ≤ 8) (hz : z.1 ≤ r.2.1 ∧ z.2 ≤ r.2.2)
    (kk : ∀ (v : Option ct_V) (w1 : List ct_C), Q' v w1 → ∃ (T1 : ctT) (S1 K1 : ctS), w1 = wCp T1 S1 K1 ∧ CV M r n0 z (pc + 3) ls ((v.map (ct_rv (ct_pl (ct_ps [(0, 0, 10), (25, 189, 10), (1, 10, 10)])))).toList ++ st) (wTop T1 S1 n P A V x y c (K1, k.2) sd) Q) : CV M r n0 z pc ls stk (wTop T S n P A V x y c k sd) Q := by
  refine cv_blkV [(0, 0, 10), (25, 189, 10), (1, 10, 10)] (nT_e T S n P A V x y c k sd) (by decide) (by decide) hM rfl hk hlk hd hr hn hb hci hst hsz hz (fun v w1 hq => ?_) (fun v w1 hq => ?_)
  · obtain ⟨T1, S1, K1, rfl, -⟩ := kk v w1 hq
    rfl
  · obtain ⟨T1, S1, K1, rfl, h⟩ := kk v w1 hq
    exact ⟨[wSt 0 10 S1, wSt 189 10 K1, wT 10 T1], rfl, rfl, h⟩
set_option maxRecDepth 100000 in
set_option maxHeartbeats 1000000 in
theorem cv_topJ {M M' : ct_M} {r : Nat × Nat × Nat} {d n0 : Nat} {z : Nat × Nat} {pc : Nat} {ls : List (Nat × ct_V)} {st stk avs : List ct_V} {Q Q' : Option ct_V → List ct_C → Prop} {idx nn b : Nat} {T : ctT} {S : ctS} {n : Nat} {P : Nat → Nat} {A : Nat → ctS} {V : ctS} {x : ctX} {y : ctY} {c : ctW} {k : ctK} {sd : Int} (hM : CM M' (d, 0, 0) (vR b :: avs) (wCp T S k.2.1) Q') (hk : ct_lk 0 M' nn) (hlk : Cond.methodLink M.1.cls idx M'.1 ∈ ct_tbl) (hd : decode M.2.1 pc = .ok (.invokevirtual idx, 3)) (hr : d + 1 ≤ r.1) (hn : avs.length = nn) {ci : Nat} {fs : List ct_V} (hb : (wCp T S k.2.1)[b]? = some (cO ci fs)) (hci : (vwCl[ci]?).map (fun q => q.1) = some M'.1.cls)
    (hst : stk = (avs.map (ct_rv (ct_pl (ct_ps [(0, 0, 10), (26, 199, 10), (1, 10, 10)])))).reverse ++ vR (ct_pl (ct_ps [(0, 0, 10), (26, 199, 10), (1, 10, 10)]) b) :: st) (hsz : ct_sz st ≤ 8) (hz : z.1 ≤ r.2.1 ∧ z.2 ≤ r.2.2)
    (kk : ∀ (v : Option ct_V) (w1 : List ct_C), Q' v w1 → ∃ (T1 : ctT) (S1 J1 : ctS), w1 = wCp T1 S1 J1 ∧ CV M r n0 z (pc + 3) ls ((v.map (ct_rv (ct_pl (ct_ps [(0, 0, 10), (26, 199, 10), (1, 10, 10)])))).toList ++ st) (wTop T1 S1 n P A V x y c (k.1, J1, k.2.2) sd) Q) : CV M r n0 z pc ls stk (wTop T S n P A V x y c k sd) Q := by
  refine cv_blkV [(0, 0, 10), (26, 199, 10), (1, 10, 10)] (nT_e T S n P A V x y c k sd) (by decide) (by decide) hM rfl hk hlk hd hr hn hb hci hst hsz hz (fun v w1 hq => ?_) (fun v w1 hq => ?_)
  · obtain ⟨T1, S1, J1, rfl, -⟩ := kk v w1 hq
    rfl
  · obtain ⟨T1, S1, J1, rfl, h⟩ := kk v w1 hq
    exact ⟨[wSt 0 10 S1, wSt 199 10 J1, wT 10 T1], rfl, rfl, h⟩
set_option maxRecDepth 100000 in
set_option maxHeartbeats 1000000 in
theorem cv_topSl {M M' : ct_M} {r : Nat × Nat × Nat} {d n0 : Nat} {z : Nat × Nat} {pc : Nat} {ls : List (Nat × ct_V)} {st stk avs : List ct_V} {Q Q' : Option ct_V → List ct_C → Prop} {idx nn b : Nat} {T : ctT} {S : ctS} {n : Nat} {P : Nat → Nat} {A : Nat → ctS} {V : ctS} {x : ctX} {y : ctY} {c : ctW} {k : ctK} {sd : Int} (hM : CM M' (d, 0, 0) (vR b :: avs) (wSl T S k.2.2 k.1 k.2.1) Q') (hk : ct_lk 0 M' nn) (hlk : Cond.methodLink M.1.cls idx M'.1 ∈ ct_tbl) (hd : decode M.2.1 pc = .ok (.invokevirtual idx, 3)) (hr : d + 1 ≤ r.1) (hn : avs.length = nn) {ci : Nat} {fs : List ct_V} (hb : (wSl T S k.2.2 k.1 k.2.1)[b]? = some (cO ci fs)) (hci : (vwCl[ci]?).map (fun q => q.1) = some M'.1.cls)
    (hst : stk = (avs.map (ct_rv (ct_pl (ct_ps [(0, 0, 10), (1, 10, 10), (24, 186, 3), (25, 189, 10), (26, 199, 10)])))).reverse ++ vR (ct_pl (ct_ps [(0, 0, 10), (1, 10, 10), (24, 186, 3), (25, 189, 10), (26, 199, 10)]) b) :: st) (hsz : ct_sz st ≤ 8) (hz : z.1 ≤ r.2.1 ∧ z.2 ≤ r.2.2)
    (kk : ∀ (v : Option ct_V) (w1 : List ct_C), Q' v w1 → ∃ (T1 : ctT) (S1 : ctS) (g1 : Nat → Int) (K1 J1 : ctS), w1 = wSl T1 S1 g1 K1 J1 ∧ CV M r n0 z (pc + 3) ls ((v.map (ct_rv (ct_pl (ct_ps [(0, 0, 10), (1, 10, 10), (24, 186, 3), (25, 189, 10), (26, 199, 10)])))).toList ++ st) (wTop T1 S1 n P A V x y c (K1, J1, g1) sd) Q) : CV M r n0 z pc ls stk (wTop T S n P A V x y c k sd) Q := by
  refine cv_blkV [(0, 0, 10), (1, 10, 10), (24, 186, 3), (25, 189, 10), (26, 199, 10)] (nT_e T S n P A V x y c k sd) (by decide) (by decide) hM rfl hk hlk hd hr hn hb hci hst hsz hz (fun v w1 hq => ?_) (fun v w1 hq => ?_)
  · obtain ⟨T1, S1, g1, K1, J1, rfl, -⟩ := kk v w1 hq
    rfl
  · obtain ⟨T1, S1, g1, K1, J1, rfl, h⟩ := kk v w1 hq
    exact ⟨[wSt 0 10 S1, wT 10 T1, [cO 4 [vR 187, vR 188], cQ 2 [some 189, some 199], cA 1 2 g1], wSt 189 10 K1, wSt 199 10 J1], rfl, rfl, h⟩
theorem wTop_A (T : ctT) (S : ctS) (n : Nat) (P : Nat → Nat) (A : Nat → ctS) (V : ctS) (x : ctX) (y : ctY) (c : ctW) (k : ctK) (sd : Int) : wTop T S n P A V x y c k sd = wA T S n P A ++ (LR V x y c k sd).flatten := List.flatten_append
theorem wA_ll (T T' : ctT) (S S' : ctS) (n n' : Int) (P P' : Nat → Nat) (A A' : Nat → ctS) : (wA T S n P A).length = (wA T' S' n' P' A').length := by
  unfold wA
  rw [List.length_flatten, List.length_flatten, nA_e, nA_e]
theorem cv_topA {M M' : ct_M} {r : Nat × Nat × Nat} {d n0 : Nat} {z : Nat × Nat} {pc : Nat} {ls : List (Nat × ct_V)} {st stk avs : List ct_V} {Q Q' : Option ct_V → List ct_C → Prop} {idx nn b : Nat} {T : ctT} {S : ctS} {n : Nat} {P : Nat → Nat} {A : Nat → ctS} {V : ctS} {x : ctX} {y : ctY} {c : ctW} {k : ctK} {sd : Int} (hM : CM M' (d, 0, 0) (vR b :: avs) (wA T S n P A) Q') (hk : ct_lk 0 M' nn) (hlk : Cond.methodLink M.1.cls idx M'.1 ∈ ct_tbl) (hd : decode M.2.1 pc = .ok (.invokevirtual idx, 3)) (hr : d + 1 ≤ r.1) (hn : avs.length = nn) {ci : Nat} {fs : List ct_V} (hb : (wA T S n P A)[b]? = some (cO ci fs)) (hci : (vwCl[ci]?).map (fun q => q.1) = some M'.1.cls)
    (hst : stk = avs.reverse ++ vR b :: st) (hsz : ct_sz st ≤ 8) (hz : z.1 ≤ r.2.1 ∧ z.2 ≤ r.2.2)
    (kk : ∀ (v : Option ct_V) (w1 : List ct_C), Q' v w1 → ∃ (T1 : ctT) (S1 : ctS) (n1 : Nat) (P1 : Nat → Nat) (A1 : Nat → ctS), w1 = wA T1 S1 n1 P1 A1 ∧ CV M r n0 z (pc + 3) ls (v.toList ++ st) (wTop T1 S1 n1 P1 A1 V x y c k sd) Q) : CV M r n0 z pc ls stk (wTop T S n P A V x y c k sd) Q := by
  rw [wTop_A]
  refine cv_preV hM hk hlk hd hr hn hb hci hst hsz hz (fun v w1 hq => ?_) (fun v w1 hq => ?_)
  · obtain ⟨T1, S1, n1, P1, A1, rfl, -⟩ := kk v w1 hq
    exact wA_ll _ _ _ _ _ _ _ _ _ _
  · obtain ⟨T1, S1, n1, P1, A1, rfl, h⟩ := kk v w1 hq
    rw [← wTop_A]
    exact h
