/-! whether a plan meets a wish, on both sides -/
/-- two memories hold one plan (of the reference) -/
abbrev PE (g h : Mm) : Prop := (∀ c, isC c → h 72 c = g 72 c) ∧ (∀ c, isC c → ¬ g 72 c = 0 → h 73 c = g 73 c ∧ h 74 c = g 74 c) ∧ (∀ c, isC c → g 72 c = 3 → h 75 c = g 75 c) ∧ (∀ c, isC c → h 76 c = g 76 c) ∧ (h 70 6 = g 70 6) ∧ (∀ i, 0 ≤ i → i < g 70 6 → h 77 i = g 77 i ∧ h 78 i = g 78 i ∧ h 79 i = g 79 i)
theorem PE.k {g h : Mm} (x : PE g h) : ∀ c, isC c → h 72 c = g 72 c := x.1
theorem PE.a {g h : Mm} (x : PE g h) : ∀ c, isC c → ¬ g 72 c = 0 → h 73 c = g 73 c ∧ h 74 c = g 74 c := x.2.1
theorem PE.o {g h : Mm} (x : PE g h) : ∀ c, isC c → g 72 c = 3 → h 75 c = g 75 c := x.2.2.1
theorem PE.b {g h : Mm} (x : PE g h) : ∀ c, isC c → h 76 c = g 76 c := x.2.2.2.1
theorem PE.s {g h : Mm} (x : PE g h) : h 70 6 = g 70 6 := x.2.2.2.2.1
theorem PE.t {g h : Mm} (x : PE g h) : ∀ i, 0 ≤ i → i < g 70 6 → h 77 i = g 77 i ∧ h 78 i = g 78 i ∧ h 79 i = g 79 i := x.2.2.2.2.2
/-- numbers that don't count are zero -/
def PN (g : Mm) : Prop := ∀ c, isC c → ¬ g 72 c = 0 → nA (g 72 c) (g 73 c) = g 73 c ∧ nB (g 72 c) (g 74 c) = g 74 c
abbrev WG (g : Mm) : Prop := (Sh g) ∧ (PV g) ∧ (SV g) ∧ (PN g)
theorem WG.S {g : Mm} (x : WG g) : Sh g := x.1
theorem WG.p {g : Mm} (x : WG g) : PV g := x.2.1
theorem WG.v {g : Mm} (x : WG g) : SV g := x.2.2.1
theorem WG.n {g : Mm} (x : WG g) : PN g := x.2.2.2
/-- the first ring of a cell in a trial; whether a wish is met -/
abbrev MT (g : Mm) (bell tick : Int) : Prop := metP (mRuns g 1 103 (96 * 1 + bell)) bell tick
def xG (g : Mm) : Mm := fun a j => if a = 19 then g 72 j else if a = 20 then g 73 j else if a = 21 then g 74 j else if a = 22 then g 75 j else if a = 23 then g 76 j else if a = 24 then g 77 j else if a = 25 then g 78 j else if a = 26 then g 79 j else if a = 18 ∧ j = 8 then g 70 6 else g a j
section MET
variable {tl : Ds} {m g h g1 g2 : Mm} {Q : Ds → Mm → List MV → Prop} {p w w1 w2 bell tick c : Int}
theorem PE_refl : PE g g := ⟨fun _ _ => rfl, fun _ _ _ => ⟨rfl, rfl⟩, fun _ _ _ => rfl, fun _ _ => rfl, rfl, fun _ _ _ => ⟨rfl, rfl, rfl⟩⟩
theorem PE_symm (e : PE g h) : PE h g := ⟨fun c hc => (e.k c hc).symm, fun c hc hk => by
    rw [e.k c hc] at hk
    exact ⟨(e.a c hc hk).1.symm, (e.a c hc hk).2.symm⟩, fun c hc hk => by
    rw [e.k c hc] at hk
    exact (e.o c hc hk).symm, fun c hc => (e.b c hc).symm, e.s.symm, fun i i0 i1 => by
    rw [e.s] at i1
    have := e.t i i0 i1
    exact ⟨this.1.symm, this.2.1.symm, this.2.2.symm⟩⟩
theorem PE_tr {q : Mm} (e : PE g h) (f : PE h q) : PE g q := ⟨fun c hc => (f.k c hc).trans (e.k c hc), fun c hc hk => by
    have h1 := e.a c hc hk
    have h2 := f.a c hc (by rw [e.k c hc]; exact hk)
    exact ⟨h2.1.trans h1.1, h2.2.trans h1.2⟩, fun c hc hk => (f.o c hc (by rw [e.k c hc]; exact hk)).trans (e.o c hc hk), fun c hc => (f.b c hc).trans (e.b c hc), f.s.trans e.s, fun i i0 i1 => by
    have h1 := e.t i i0 i1
    have h2 := f.t i i0 (by rw [e.s]; exact i1)
    exact ⟨h2.1.trans h1.1, h2.2.1.trans h1.2.1, h2.2.2.trans h1.2.2⟩⟩
theorem PR_pe (a : PR m p g) (e : PE g h) : PR m p h := by
  refine ⟨fun c hc => (a.k c hc).trans (e.k c hc).symm, fun c hc hk => ?_, fun c hc hk => ?_, fun c hc => (a.b c hc).trans (e.b c hc).symm, a.s.trans e.s.symm, fun i i0 i1 => ?_⟩
  · rw [e.k c hc] at hk
    have h1 := a.a c hc hk
    have h2 := e.a c hc hk
    exact ⟨h1.1.trans h2.1.symm, h1.2.trans h2.2.symm⟩
  · rw [e.k c hc] at hk
    exact (a.o c hc hk).trans (e.o c hc hk).symm
  · rw [e.s] at i1
    have h1 := a.t i i0 i1
    have h2 := e.t i i0 i1
    exact ⟨h1.1.trans h2.1.symm, h1.2.1.trans h2.2.1.symm, h1.2.2.trans h2.2.2.symm⟩
theorem PR_uni (a : PR m p g) (b : PR m p h) : PE g h := by
  refine ⟨fun c hc => (b.k c hc).symm.trans (a.k c hc), fun c hc hk => ?_, fun c hc hk => ?_, fun c hc => (b.b c hc).symm.trans (a.b c hc), b.s.symm.trans a.s, fun i i0 i1 => ?_⟩
  · have e := (b.k c hc).symm.trans (a.k c hc)
    have h1 := a.a c hc hk
    have h2 := b.a c hc (by rw [e]; exact hk)
    exact ⟨h2.1.symm.trans h1.1, h2.2.symm.trans h1.2⟩
  · have e := (b.k c hc).symm.trans (a.k c hc)
    exact (b.o c hc (by rw [e]; exact hk)).symm.trans (a.o c hc hk)
  · have e := b.s.symm.trans a.s
    have h1 := a.t i i0 i1
    have h2 := b.t i i0 (by rw [e]; exact i1)
    exact ⟨h2.1.symm.trans h1.1, h2.2.1.symm.trans h1.2.1, h2.2.2.symm.trans h1.2.2⟩
theorem PE_cg (f : ∀ x j, 72 ≤ x → x ≤ 79 → h x j = g x j) (f6 : h 70 6 = g 70 6) : PE g h := ⟨fun c _ => f _ _ (by decide) (by decide), fun c _ _ => ⟨f _ _ (by decide) (by decide), f _ _ (by decide) (by decide)⟩, fun c _ _ => f _ _ (by decide) (by decide), fun c _ => f _ _ (by decide) (by decide), f6, fun i _ _ => ⟨f _ _ (by decide) (by decide), f _ _ (by decide) (by decide), f _ _ (by decide) (by decide)⟩⟩
theorem SV_cg (v : SV g) (f : ∀ x j, 77 ≤ x → x ≤ 79 → h x j = g x j) (f6 : h 70 6 = g 70 6) : SV h := by
  refine ⟨by rw [f6]; exact v.n, fun i i0 i1 => ?_⟩
  rw [f6] at i1
  rw [f 77 i (by decide) (by decide), f 78 i (by decide) (by decide), f 79 i (by decide) (by decide)]
  exact v.v i i0 i1
theorem PN_cg (n : PN g) (f : ∀ x j, 72 ≤ x → x ≤ 74 → h x j = g x j) : PN h := fun c hc hk => by
  rw [f 72 c (by decide) (by decide)] at hk ⊢
  rw [f 73 c (by decide) (by decide), f 74 c (by decide) (by decide)]
  exact n c hc hk
theorem Sh_xG (S : Sh g) : Sh (xG g) := fun q hq => by
  have h1 : ∀ q ∈ SL, ¬ (19 ≤ q.1 ∧ q.1 ≤ 26) ∧ ¬ (q.1 = 18 ∧ q.2.1 = 8) := by decide
  have h2 := h1 q hq
  have e : xG g q.1 q.2.1 = g q.1 q.2.1 := by
    unfold xG
    rw [if_neg (by omega), if_neg (by omega), if_neg (by omega), if_neg (by omega), if_neg (by omega), if_neg (by omega), if_neg (by omega), if_neg (by omega), if_neg h2.2]
  rw [e]
  exact S q hq
theorem PR_xG : PR (xG g) 18 g := ⟨fun c _ => rfl, fun c _ _ => ⟨rfl, rfl⟩, fun c _ _ => rfl, fun c _ => rfl, rfl, fun i _ _ => ⟨rfl, rfl, rfl⟩⟩
theorem met_det (W1 : WG g1) (W2 : WG g2) (e : PE g1 g2) (b1 : 0 ≤ w1 ∧ w1 ≤ 2) (b2' : 0 ≤ w2 ∧ w2 ≤ 2) : metP (mRuns g1 w1 103 (96 * w1 + bell)) bell tick ↔ metP (mRuns g2 w2 103 (96 * w2 + bell)) bell tick := by
  obtain ⟨m1, _, _, _, h1⟩ := c51_52 (m := xG g1) (g := g1) (w := w1) (p := 18) (Or.inr rfl) bell tick (Sh_xG W1.S) W1.S PR_xG W1.p W1.v b1
  obtain ⟨m2, _, _, _, h2⟩ := c51_52 (m := xG g1) (g := g2) (w := w2) (p := 18) (Or.inr rfl) bell tick (Sh_xG W1.S) W2.S (PR_pe PR_xG e) W2.p W2.v b2'
  have h3 := (h1 [] (fun _ _ r => r = [(0, 1)])).symm.trans (h2 [] (fun _ _ r => r = [(0, 1)]))
  obtain ⟨A, hA⟩ : ∃ A : Prop, A = metP (mRuns g1 w1 103 (96 * w1 + bell)) bell tick := ⟨_, rfl⟩
  obtain ⟨B, hB⟩ : ∃ B : Prop, B = metP (mRuns g2 w2 103 (96 * w2 + bell)) bell tick := ⟨_, rfl⟩
  constructor
  · intro y
    have h4 : ([((0 : Nat), b2 (metP (mRuns g1 w1 103 (96 * w1 + bell)) bell tick))] : List MV) = [(0, 1)] := by rw [b2_t y]
    have h5 := h3.mp h4
    refine Classical.byContradiction fun z => ?_
    rw [b2_f z] at h5
    exact absurd h5 (by decide)
  · intro y
    have h4 : ([((0 : Nat), b2 (metP (mRuns g2 w2 103 (96 * w2 + bell)) bell tick))] : List MV) = [(0, 1)] := by rw [b2_t y]
    have h5 := h3.mpr h4
    refine Classical.byContradiction fun z => ?_
    rw [b2_f z] at h5
    exact absurd h5 (by decide)
theorem runs_45 (W : WG g) (b : 0 ≤ w ∧ w ≤ 2) : mRuns g w 70 45 = w := by
  obtain ⟨t, h1, h2, h3, h4, h5⟩ := (mruns_f W.S W.p W.v b).2.2
  rw [h1]
  exact h4
theorem lost_det (W1 : WG g1) (W2 : WG g2) (e : PE g1 g2) (b1 : 0 ≤ w1 ∧ w1 ≤ 2) (b2' : 0 ≤ w2 ∧ w2 ≤ 2) (hc : isC c) : mRuns g1 w1 109 (96 * w1 + c) = mRuns g2 w2 109 (96 * w2 + c) := by
  obtain ⟨m1, _, _, r1, h1⟩ := c51_52 (m := xG g1) (g := g1) (w := w1) (p := 18) (Or.inr rfl) (-1) (-1) (Sh_xG W1.S) W1.S PR_xG W1.p W1.v b1
  obtain ⟨m2, _, _, r2, h2⟩ := c51_52 (m := xG g1) (g := g2) (w := w2) (p := 18) (Or.inr rfl) (-1) (-1) (Sh_xG W1.S) W2.S (PR_pe PR_xG e) W2.p W2.v b2'
  have h3 := (h1 [] (fun _ m _ => m = m1)).symm.trans (h2 [] (fun _ m _ => m = m1))
  have h4 : m2 = m1 := h3.mp rfl
  have l1 := (r1 (by omega)).C.lo c hc
  have l2 := (r2 (by omega)).C.lo c hc
  rw [runs_45 W1 b1] at l1
  rw [runs_45 W2 b2'] at l2
  rw [h4] at l2
  exact l1.symm.trans l2
theorem runs_w (W : WG g) (b : 0 ≤ w ∧ w ≤ 2) : WG (mRuns g w) ∧ PE g (mRuns g w) ∧ FG g (mRuns g w) w := by
  have f := mruns_f W.S W.p W.v b
  have F := f.1
  have S := f.2.1
  obtain ⟨q, hq⟩ : ∃ q, q = mRuns g w := ⟨_, rfl⟩
  rw [← hq] at F S ⊢
  have f7 : ∀ x j, 72 ≤ x → x ≤ 79 → q x j = g x j := fun x j h1 h2 => F x j (by omega) (by omega) (by omega) (by omega) (by omega)
  have f6 : q 70 6 = g 70 6 := F 70 6 (by decide) (by decide) (by omega) (by omega) (by omega)
  exact ⟨⟨S, PV_cg W.p (fun j => f7 72 j (by decide) (by decide)) (fun j => f7 73 j (by decide) (by decide)) (fun j => f7 74 j (by decide) (by decide)) (fun j => f7 75 j (by decide) (by decide)) (fun j => f7 76 j (by decide) (by decide)), SV_cg W.v (fun x j h1 h2 => f7 x j (by omega) h2) f6, PN_cg W.n (fun x j h1 h2 => f7 x j h1 (by omega))⟩, PE_cg f7 f6, F⟩
/-- no wish is met for what is no bell -/
theorem met_8 (W : WG g) (b : 0 ≤ w ∧ w ≤ 2) (h : metP (mRuns g w 103 (96 * w + bell)) bell tick) : g 72 bell = 8 := by
  obtain ⟨t, h1, h2, h3, h4, h5⟩ := (mruns_f W.S W.p W.v b).2.2
  have F := (runs_w W b).2.2
  have e103 : mRuns g w 103 (96 * w + bell) = t 103 (96 * w + bell) := by
    rw [h1]
    exact stop_103
  have e72 : t 72 bell = g 72 bell := by
    have y : mRuns g w 72 bell = t 72 bell := by
      rw [h1]
      rfl
    rw [← y]
    exact F 72 bell (by decide) (fun y => absurd y.1 (by decide)) (by omega) (by omega) (by omega)
  rw [e103] at h
  rw [← e72]
  apply h3.k8 bell h.1
  intro z
  have := (h3.rg bell h.1).1 z
  rw [h4] at this
  exact h.2.1 this
theorem e173 (S : Sh m) : WP 173 0 [(2, 70), (0, c)] [] (dsB ++ tl) m Q = Q (dsB ++ tl) m [(0, b2 (isC c ∧ m 72 c = 8))] := by
  by_cases hc : isC c
  · have c0 := hc.1
    have c1 := hc.2
    by_cases h8 : m 72 c = 8
    · rw [b2_t ⟨hc, h8⟩]
      simp only [p173_0, p173_1, p173_4, p173_7, p173_8, p173_11, p173_12, p173_13, p173_15, p173_18, p173_19, p173_22, p173_23, K_70, K_72, L_72, K_73, L_73, K_74, L_74, K_75, L_75, K_76, L_76, K_86, L_86, K_87, L_87, K_88, L_88, K_89, L_89, K_90, L_90, K_91, L_91, K_92, L_92, K_93, L_93, K_94, L_94, K_95, L_95, K_96, L_96, K_97, L_97, K_98, L_98, K_99, L_99, K_100, L_100, K_101, L_101, K_102, L_102, K_103, L_103, K_104, L_104, K_105, L_105, K_106, L_106, K_107, L_107, K_108, L_108, K_109, L_109, sh_70_1 S, sh_70_2 S, sh_70_3 S, sh_70_4 S, sh_70_5 S, sh_70_17 S, sh_70_18 S, sh_70_19 S, sh_70_20 S, sh_70_21 S, sh_70_22 S, sh_70_23 S, sh_70_27 S, sh_70_28 S, sh_70_29 S, sh_70_31 S, sh_70_32 S, sh_70_33 S, sh_70_34 S, sh_70_35 S, sh_70_36 S, sh_70_37 S, sh_70_38 S, sh_70_39 S, sh_70_40 S, sh_70_41 S, sh_70_42 S, sh_70_43 S, sh_70_44 S, e122, b2_t hc, c0, c1, h8, b2_T, b2_F, Int.reduceEq, Int.reduceLT, Int.reduceLE, Int.reduceAdd, Int.reduceSub, Int.reduceMul, Int.reduceNeg, reduceIte, if_true, if_false, true_or, or_true, false_or, or_false, false_and, and_false, eq_self, not_false_eq_true, not_true_eq_false, true_and, and_true, List.cons_append, List.nil_append, List.append_nil, b2_0, b2_1, b2_01, Classical.not_not]
    · rw [b2_f (fun x => h8 x.2)]
      simp only [p173_0, p173_1, p173_4, p173_7, p173_8, p173_11, p173_12, p173_13, p173_15, p173_18, p173_19, p173_22, p173_23, K_70, K_72, L_72, K_73, L_73, K_74, L_74, K_75, L_75, K_76, L_76, K_86, L_86, K_87, L_87, K_88, L_88, K_89, L_89, K_90, L_90, K_91, L_91, K_92, L_92, K_93, L_93, K_94, L_94, K_95, L_95, K_96, L_96, K_97, L_97, K_98, L_98, K_99, L_99, K_100, L_100, K_101, L_101, K_102, L_102, K_103, L_103, K_104, L_104, K_105, L_105, K_106, L_106, K_107, L_107, K_108, L_108, K_109, L_109, sh_70_1 S, sh_70_2 S, sh_70_3 S, sh_70_4 S, sh_70_5 S, sh_70_17 S, sh_70_18 S, sh_70_19 S, sh_70_20 S, sh_70_21 S, sh_70_22 S, sh_70_23 S, sh_70_27 S, sh_70_28 S, sh_70_29 S, sh_70_31 S, sh_70_32 S, sh_70_33 S, sh_70_34 S, sh_70_35 S, sh_70_36 S, sh_70_37 S, sh_70_38 S, sh_70_39 S, sh_70_40 S, sh_70_41 S, sh_70_42 S, sh_70_43 S, sh_70_44 S, e122, b2_t hc, c0, c1, h8, b2_T, b2_F, Int.reduceEq, Int.reduceLT, Int.reduceLE, Int.reduceAdd, Int.reduceSub, Int.reduceMul, Int.reduceNeg, reduceIte, if_true, if_false, true_or, or_true, false_or, or_false, false_and, and_false, eq_self, not_false_eq_true, not_true_eq_false, true_and, and_true, List.cons_append, List.nil_append, List.append_nil, b2_0, b2_1, b2_01, Classical.not_not]
  · rw [b2_f (fun x => hc x.1)]
    simp only [p173_0, p173_1, p173_4, p173_7, p173_8, p173_11, p173_12, p173_13, p173_15, p173_18, p173_19, p173_22, p173_23, e122, b2_f hc, b2_T, b2_F, Int.reduceEq, Int.reduceLT, Int.reduceLE, Int.reduceAdd, Int.reduceSub, Int.reduceMul, Int.reduceNeg, reduceIte, if_true, if_false, true_or, or_true, false_or, or_false, false_and, and_false, eq_self, not_false_eq_true, not_true_eq_false, true_and, and_true, List.cons_append, List.nil_append, List.append_nil, b2_0, b2_1, b2_01, Classical.not_not]
theorem e172 (W : WG m) (b : 0 ≤ w ∧ w ≤ 2) (hc : isC bell) : WP 172 0 [(2, 70), (0, w), (0, bell), (0, tick), (3, 0)] [] (dsB ++ tl) m Q = Q (dsB ++ tl) (mRuns m w) [(0, b2 (metP (mRuns m w 103 (96 * w + bell)) bell tick))] := by
  have c0 := hc.1
  have c1 := hc.2
  have S' := (runs_w W b).1.S
  have e := fun (Q : Ds → Mm → List MV → Prop) => e166 (tl := tl) (Q := Q) W.S W.p W.v b
  obtain ⟨q, hq⟩ : ∃ q, q = mRuns m w := ⟨_, rfl⟩
  rw [← hq] at S' e ⊢
  have w1 : w32 (96 * w) = 96 * w := w32_id (by omega) (by omega)
  have w2 : w32 (96 * w + bell) = 96 * w + bell := w32_id (by omega) (by omega)
  have x0 : 0 ≤ 96 * w + bell := by omega
  have x1 : 96 * w + bell < 288 := by omega
  by_cases h1 : q 103 (96 * w + bell) = -1
  · rw [b2_f (fun x => x.2.1 h1)]
    simp only [p172_0, p172_1, p172_2, p172_5, p172_6, p172_9, p172_11, p172_12, p172_13, p172_14, p172_15, p172_16, p172_18, p172_20, p172_21, p172_24, p172_25, p172_26, p172_29, p172_31, p172_32, p172_35, p172_36, p172_39, p172_40, K_70, K_103, L_103, sh_70_38 S', e, w1, w2, x0, x1, h1, b2_T, b2_F, Int.reduceEq, Int.reduceLT, Int.reduceLE, Int.reduceAdd, Int.reduceSub, Int.reduceMul, Int.reduceNeg, reduceIte, if_true, if_false, true_or, or_true, false_or, or_false, false_and, and_false, eq_self, not_false_eq_true, not_true_eq_false, true_and, and_true, List.cons_append, List.nil_append, List.append_nil, b2_0, b2_1, b2_01, Classical.not_not]
  · by_cases h2 : tick = -1
    · rw [b2_t ⟨hc, h1, Or.inl h2⟩]
      simp only [p172_0, p172_1, p172_2, p172_5, p172_6, p172_9, p172_11, p172_12, p172_13, p172_14, p172_15, p172_16, p172_18, p172_20, p172_21, p172_24, p172_25, p172_26, p172_29, p172_31, p172_32, p172_35, p172_36, p172_39, p172_40, K_70, K_103, L_103, sh_70_38 S', e, w1, w2, x0, x1, h1, h2, b2_T, b2_F, Int.reduceEq, Int.reduceLT, Int.reduceLE, Int.reduceAdd, Int.reduceSub, Int.reduceMul, Int.reduceNeg, reduceIte, if_true, if_false, true_or, or_true, false_or, or_false, false_and, and_false, eq_self, not_false_eq_true, not_true_eq_false, true_and, and_true, List.cons_append, List.nil_append, List.append_nil, b2_0, b2_1, b2_01, Classical.not_not]
    · by_cases h3 : tick = q 103 (96 * w + bell)
      · rw [b2_t ⟨hc, h1, Or.inr h3⟩]
        simp only [p172_0, p172_1, p172_2, p172_5, p172_6, p172_9, p172_11, p172_12, p172_13, p172_14, p172_15, p172_16, p172_18, p172_20, p172_21, p172_24, p172_25, p172_26, p172_29, p172_31, p172_32, p172_35, p172_36, p172_39, p172_40, K_70, K_103, L_103, sh_70_38 S', e, w1, w2, x0, x1, h1, h2, h3.symm, b2_T, b2_F, Int.reduceEq, Int.reduceLT, Int.reduceLE, Int.reduceAdd, Int.reduceSub, Int.reduceMul, Int.reduceNeg, reduceIte, if_true, if_false, true_or, or_true, false_or, or_false, false_and, and_false, eq_self, not_false_eq_true, not_true_eq_false, true_and, and_true, List.cons_append, List.nil_append, List.append_nil, b2_0, b2_1, b2_01, Classical.not_not]
      · rw [b2_f (fun x => x.2.2.elim h2 h3)]
        have h3' : ¬ q 103 (96 * w + bell) = tick := fun x => h3 x.symm
        simp only [p172_0, p172_1, p172_2, p172_5, p172_6, p172_9, p172_11, p172_12, p172_13, p172_14, p172_15, p172_16, p172_18, p172_20, p172_21, p172_24, p172_25, p172_26, p172_29, p172_31, p172_32, p172_35, p172_36, p172_39, p172_40, K_70, K_103, L_103, sh_70_38 S', e, w1, w2, x0, x1, h1, h2, h3', b2_T, b2_F, Int.reduceEq, Int.reduceLT, Int.reduceLE, Int.reduceAdd, Int.reduceSub, Int.reduceMul, Int.reduceNeg, reduceIte, if_true, if_false, true_or, or_true, false_or, or_false, false_and, and_false, eq_self, not_false_eq_true, not_true_eq_false, true_and, and_true, List.cons_append, List.nil_append, List.append_nil, b2_0, b2_1, b2_01, Classical.not_not]
theorem e174 (W : WG m) : WP 174 0 [(2, 70), (0, bell), (0, tick)] [] (dsB ++ tl) m Q = Q (dsB ++ tl) (if isC bell ∧ m 72 bell = 8 then mRuns m 1 else m) [(0, b2 (MT m bell tick))] := by
  by_cases h : isC bell ∧ m 72 bell = 8
  · rw [if_pos h]
    have e := fun (Q : Ds → Mm → List MV → Prop) => e172 (tl := tl) (Q := Q) (w := 1) (tick := tick) W (by decide) h.1
    by_cases hm : metP (mRuns m 1 103 (96 * 1 + bell)) bell tick
    · simp only [b2_t hm] at e ⊢
      simp only [p174_0, p174_1, p174_2, p174_5, p174_8, p174_9, p174_10, p174_11, p174_12, p174_15, p174_18, p174_19, p174_22, p174_23, K_70, e173 W.S, b2_t h, e, b2_T, b2_F, Int.reduceEq, Int.reduceLT, Int.reduceLE, Int.reduceAdd, Int.reduceSub, Int.reduceMul, Int.reduceNeg, reduceIte, if_true, if_false, true_or, or_true, false_or, or_false, false_and, and_false, eq_self, not_false_eq_true, not_true_eq_false, true_and, and_true, List.cons_append, List.nil_append, List.append_nil, b2_0, b2_1, b2_01, Classical.not_not]
    · simp only [b2_f hm] at e ⊢
      simp only [p174_0, p174_1, p174_2, p174_5, p174_8, p174_9, p174_10, p174_11, p174_12, p174_15, p174_18, p174_19, p174_22, p174_23, K_70, e173 W.S, b2_t h, e, b2_T, b2_F, Int.reduceEq, Int.reduceLT, Int.reduceLE, Int.reduceAdd, Int.reduceSub, Int.reduceMul, Int.reduceNeg, reduceIte, if_true, if_false, true_or, or_true, false_or, or_false, false_and, and_false, eq_self, not_false_eq_true, not_true_eq_false, true_and, and_true, List.cons_append, List.nil_append, List.append_nil, b2_0, b2_1, b2_01, Classical.not_not]
  · rw [if_neg h, b2_f (fun x => h ⟨x.1, met_8 W (by decide) x⟩)]
    simp only [p174_0, p174_1, p174_2, p174_5, p174_8, p174_9, p174_10, p174_11, p174_12, p174_15, p174_18, p174_19, p174_22, p174_23, K_70, e173 W.S, b2_f h, b2_T, b2_F, Int.reduceEq, Int.reduceLT, Int.reduceLE, Int.reduceAdd, Int.reduceSub, Int.reduceMul, Int.reduceNeg, reduceIte, if_true, if_false, true_or, or_true, false_or, or_false, false_and, and_false, eq_self, not_false_eq_true, not_true_eq_false, true_and, and_true, List.cons_append, List.nil_append, List.append_nil, b2_0, b2_1, b2_01, Classical.not_not]
theorem e88 (W : WG m) (P : PR m 9 m) : ∃ m', Sh m' ∧ FW m m' 52 ∧ ∀ (tl : Ds) (Q : Ds → Mm → List MV → Prop), WP 88 0 [(2, 0), (0, bell), (0, tick)] [] (dsB ++ tl) m Q = Q (dsB ++ tl) m' [(0, b2 (MT m bell tick))] := by
  obtain ⟨m1, s1, f1, _, h1⟩ := c51_52 (m := m) (g := m) (w := 1) (p := 9) (Or.inl rfl) bell tick W.S W.S P W.p W.v (by decide)
  refine ⟨m1, s1, f1, fun tl Q => ?_⟩
  have S := W.S
  have e := fun (Q : Ds → Mm → List MV → Prop) => h1 tl Q
  by_cases hm : metP (mRuns m 1 103 (96 * 1 + bell)) bell tick
  · simp only [b2_t hm] at e ⊢
    simp only [p88_0, p88_1, p88_4, p88_5, p88_8, p88_9, p88_10, p88_13, K_0, sh_0_0 S, sh_0_5 S, K_52, e, b2_T, b2_F, Int.reduceEq, Int.reduceLT, Int.reduceLE, Int.reduceAdd, Int.reduceSub, Int.reduceMul, Int.reduceNeg, reduceIte, if_true, if_false, true_or, or_true, false_or, or_false, false_and, and_false, eq_self, not_false_eq_true, not_true_eq_false, true_and, and_true, List.cons_append, List.nil_append, List.append_nil, b2_0, b2_1, b2_01, Classical.not_not]
  · simp only [b2_f hm] at e ⊢
    simp only [p88_0, p88_1, p88_4, p88_5, p88_8, p88_9, p88_10, p88_13, K_0, sh_0_0 S, sh_0_5 S, K_52, e, b2_T, b2_F, Int.reduceEq, Int.reduceLT, Int.reduceLE, Int.reduceAdd, Int.reduceSub, Int.reduceMul, Int.reduceNeg, reduceIte, if_true, if_false, true_or, or_true, false_or, or_false, false_and, and_false, eq_self, not_false_eq_true, not_true_eq_false, true_and, and_true, List.cons_append, List.nil_append, List.append_nil, b2_0, b2_1, b2_01, Classical.not_not]
end MET
