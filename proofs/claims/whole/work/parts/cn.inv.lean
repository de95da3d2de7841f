/-! the reference's run: what holds between strikes -/
def nsp (g : Mm) : Int := sm (fun c => if g 72 c = 5 ∧ ¬ g 93 c = 0 then 1 else 0) 96
abbrev GA (g : Mm) (n : Int) : Prop := (Sh g) ∧ (PV g) ∧ (0 ≤ g 70 45 ∧ g 70 45 ≤ 2) ∧ (0 ≤ g 70 26 ∧ g 70 26 < 400) ∧ (∀ d, isC d → 0 ≤ g 93 d ∧ g 93 d ≤ n) ∧ (∀ d, isC d → 0 ≤ g 105 (96 * g 70 45 + d) ∧ g 105 (96 * g 70 45 + d) ≤ n) ∧ (∀ d, isC d → 0 ≤ g 106 (96 * g 70 45 + d) ∧ g 106 (96 * g 70 45 + d) ≤ n) ∧ (0 ≤ g 101 (6 * g 70 45 + 4) ∧ g 101 (6 * g 70 45 + 4) ≤ n) ∧ (0 ≤ g 101 (6 * g 70 45 + 3) ∧ g 101 (6 * g 70 45 + 3) ≤ n) ∧ (0 ≤ g 70 30 ∧ g 70 30 ≤ 96) ∧ (∀ d, isC d → g 95 d = -1 ∨ (0 ≤ g 95 d ∧ g 95 d < g 70 30 ∧ (g 72 d = 0 ∨ g 72 d = 7 ∨ g 72 d = 9))) ∧ (∀ j, 0 ≤ j → j < g 70 30 → isC (g 96 j) ∧ (g 97 j = -1 ∨ (okS (g 97 j) ∧ 1 ≤ g 98 j ∧ g 98 j ≤ 6 ∧ 0 ≤ g 99 j ∧ g 99 j < n))) ∧ (∀ k, 0 ≤ k → k < g 70 24 → isC (g 86 k) ∧ okS (g 87 k) ∧ (-1 ≤ g 88 k ∧ g 88 k < n) ∧ (g 90 k = -1 ∨ (0 ≤ g 90 k ∧ g 90 k < g 70 24))) ∧ (∀ t, 0 ≤ t → t < 520 → g 91 t = -1 ∨ (0 ≤ g 91 t ∧ g 91 t < g 70 24)) ∧ (∀ i, 0 ≤ i → i < n → isC (g 102 (6000 * g 70 45 + 6 * i + 1)) ∧ okS (g 102 (6000 * g 70 45 + 6 * i + 2)) ∧ -1 ≤ g 102 (6000 * g 70 45 + 6 * i + 3) ∧ g 102 (6000 * g 70 45 + 6 * i + 3) < i)
theorem GA.S {g : Mm} {n : Int} (x : GA g n) : Sh g := x.1
theorem GA.p {g : Mm} {n : Int} (x : GA g n) : PV g := x.2.1
theorem GA.bk {g : Mm} {n : Int} (x : GA g n) : 0 ≤ g 70 45 ∧ g 70 45 ≤ 2 := x.2.2.1
theorem GA.nw {g : Mm} {n : Int} (x : GA g n) : 0 ≤ g 70 26 ∧ g 70 26 < 400 := x.2.2.2.1
theorem GA.tm {g : Mm} {n : Int} (x : GA g n) : ∀ d, isC d → 0 ≤ g 93 d ∧ g 93 d ≤ n := x.2.2.2.2.1
theorem GA.rg {g : Mm} {n : Int} (x : GA g n) : ∀ d, isC d → 0 ≤ g 105 (96 * g 70 45 + d) ∧ g 105 (96 * g 70 45 + d) ≤ n := x.2.2.2.2.2.1
theorem GA.hs {g : Mm} {n : Int} (x : GA g n) : ∀ d, isC d → 0 ≤ g 106 (96 * g 70 45 + d) ∧ g 106 (96 * g 70 45 + d) ≤ n := x.2.2.2.2.2.2.1
theorem GA.rc {g : Mm} {n : Int} (x : GA g n) : 0 ≤ g 101 (6 * g 70 45 + 4) ∧ g 101 (6 * g 70 45 + 4) ≤ n := x.2.2.2.2.2.2.2.1
theorem GA.lc {g : Mm} {n : Int} (x : GA g n) : 0 ≤ g 101 (6 * g 70 45 + 3) ∧ g 101 (6 * g 70 45 + 3) ≤ n := x.2.2.2.2.2.2.2.2.1
theorem GA.bm {g : Mm} {n : Int} (x : GA g n) : 0 ≤ g 70 30 ∧ g 70 30 ≤ 96 := x.2.2.2.2.2.2.2.2.2.1
theorem GA.on {g : Mm} {n : Int} (x : GA g n) : ∀ d, isC d → g 95 d = -1 ∨ (0 ≤ g 95 d ∧ g 95 d < g 70 30 ∧ (g 72 d = 0 ∨ g 72 d = 7 ∨ g 72 d = 9)) := x.2.2.2.2.2.2.2.2.2.2.1
theorem GA.at' {g : Mm} {n : Int} (x : GA g n) : ∀ j, 0 ≤ j → j < g 70 30 → isC (g 96 j) ∧ (g 97 j = -1 ∨ (okS (g 97 j) ∧ 1 ≤ g 98 j ∧ g 98 j ≤ 6 ∧ 0 ≤ g 99 j ∧ g 99 j < n)) := x.2.2.2.2.2.2.2.2.2.2.2.1
theorem GA.nd {g : Mm} {n : Int} (x : GA g n) : ∀ k, 0 ≤ k → k < g 70 24 → isC (g 86 k) ∧ okS (g 87 k) ∧ (-1 ≤ g 88 k ∧ g 88 k < n) ∧ (g 90 k = -1 ∨ (0 ≤ g 90 k ∧ g 90 k < g 70 24)) := x.2.2.2.2.2.2.2.2.2.2.2.2.1
theorem GA.fs {g : Mm} {n : Int} (x : GA g n) : ∀ t, 0 ≤ t → t < 520 → g 91 t = -1 ∨ (0 ≤ g 91 t ∧ g 91 t < g 70 24) := x.2.2.2.2.2.2.2.2.2.2.2.2.2.1
theorem GA.lg {g : Mm} {n : Int} (x : GA g n) : ∀ i, 0 ≤ i → i < n → isC (g 102 (6000 * g 70 45 + 6 * i + 1)) ∧ okS (g 102 (6000 * g 70 45 + 6 * i + 2)) ∧ -1 ≤ g 102 (6000 * g 70 45 + 6 * i + 3) ∧ g 102 (6000 * g 70 45 + 6 * i + 3) < i := x.2.2.2.2.2.2.2.2.2.2.2.2.2.2
abbrev GI (g : Mm) : Prop := (0 ≤ cnt g ∧ cnt g ≤ 1000) ∧ (GA g (cnt g)) ∧ (QI g (4 + cnt g + 2 * nsp g))
theorem GI.cn {g : Mm} (x : GI g) : 0 ≤ cnt g ∧ cnt g ≤ 1000 := x.1
theorem GI.a {g : Mm} (x : GI g) : GA g (cnt g) := x.2.1
theorem GI.q {g : Mm} (x : GI g) : QI g (4 + cnt g + 2 * nsp g) := x.2.2
theorem sm_pt {f h : Int → Int} {c : Int} (hh : ∀ x, ¬ x = c → h x = f x) : ∀ n : Nat, sm h n = sm f n + if 0 ≤ c ∧ c < n then h c - f c else 0 := by
  intro n
  induction n with
  | zero =>
    rw [if_neg (by omega)]
    rfl
  | succ n ih =>
    have e1 : sm h (n + 1) = sm h n + h n := rfl
    have e2 : sm f (n + 1) = sm f n + f n := rfl
    rw [e1, e2, ih]
    by_cases hc : c = n
    · subst hc
      rw [if_neg (by omega), if_pos (by omega)]
      omega
    · rw [hh n (fun x => hc x.symm)]
      by_cases h2 : 0 ≤ c ∧ c < n
      · rw [if_pos h2, if_pos (by omega)]
        omega
      · rw [if_neg h2, if_neg (by omega)]
        omega
theorem nxt_c {c s : Int} (hc : isC c) : nxt c s = -1 ∨ isC (nxt c s) := by
  unfold nxt
  obtain ⟨h1, h2⟩ := hc
  repeat' split
  all_goals first | (left; rfl) | (right; constructor <;> omega)
theorem opp_s {s : Int} : okS (opp s) := by
  unfold opp
  constructor <;> omega
section INV
variable {g : Mm} {n b c s k i t r to j u : Int}
theorem GA_dn (a : GA g n) {v : Int} : GA (up g 94 c v) n := ⟨Sh_ar a.S (by decide), fun d hd => ⟨(a.p d hd).k, (a.p d hd).a1, (a.p d hd).a4, (a.p d hd).ma, (a.p d hd).bt, (a.p d hd).bb, (a.p d hd).e, (a.p d hd).l, (a.p d hd).o, (a.p d hd).z3⟩, a.bk, a.nw, a.tm, a.rg, a.hs, a.rc, a.lc, a.bm, a.on, a.at', a.nd, a.fs, a.lg⟩
theorem GA_tm (a : GA g n) (h : g 93 c + 1 ≤ n) (h0 : 0 ≤ g 93 c) : GA (mTm g c) n := ⟨Sh_ar a.S (by decide), fun d hd => ⟨(a.p d hd).k, (a.p d hd).a1, (a.p d hd).a4, (a.p d hd).ma, (a.p d hd).bt, (a.p d hd).bb, (a.p d hd).e, (a.p d hd).l, (a.p d hd).o, (a.p d hd).z3⟩, a.bk, a.nw, fun d hd => by
    unfold mTm
    rw [up_at]
    split
    · omega
    · exact a.tm d hd, a.rg, a.hs, a.rc, a.lc, a.bm, a.on, a.at', a.nd, a.fs, a.lg⟩
theorem GA_off (a : GA g n) (hj : 0 ≤ j ∧ j < g 70 30) (ht : okS to) (hi : 0 ≤ i ∧ i < n) : GA (mOff g j c to i) n := by
  unfold mOff
  split
  · refine ⟨Sh_ar (Sh_ar (Sh_ar a.S (by decide)) (by decide)) (by decide), fun d hd => ⟨(a.p d hd).k, (a.p d hd).a1, (a.p d hd).a4, (a.p d hd).ma, (a.p d hd).bt, (a.p d hd).bb, (a.p d hd).e, (a.p d hd).l, (a.p d hd).o, (a.p d hd).z3⟩, a.bk, a.nw, a.tm, a.rg, a.hs, a.rc, a.lc, a.bm, a.on, ?_, a.nd, a.fs, a.lg⟩
    intro x h1 h2
    have h3 := a.at' x h1 h2
    refine ⟨h3.1, ?_⟩
    by_cases hx : x = j
    · right
      simp only [up_at, hx, b2_T, b2_F, Int.reduceEq, Int.reduceLT, Int.reduceLE, Int.reduceAdd, Int.reduceSub, Int.reduceMul, Int.reduceNeg, reduceIte, if_true, if_false, true_or, or_true, false_or, or_false, false_and, and_false, eq_self, not_false_eq_true, not_true_eq_false, true_and, and_true, List.cons_append, List.nil_append, List.append_nil, b2_0, b2_1, b2_01, Classical.not_not]
      exact ⟨ht, hi.1, hi.2⟩
    · simp only [up_at, hx, b2_T, b2_F, Int.reduceEq, Int.reduceLT, Int.reduceLE, Int.reduceAdd, Int.reduceSub, Int.reduceMul, Int.reduceNeg, reduceIte, if_true, if_false, true_or, or_true, false_or, or_false, false_and, and_false, eq_self, not_false_eq_true, not_true_eq_false, true_and, and_true, List.cons_append, List.nil_append, List.append_nil, b2_0, b2_1, b2_01, Classical.not_not]
      exact h3.2
  · exact a
theorem GA_ring (a : GA g n) (hc : isC c) (h : g 105 (96 * g 70 45 + c) + 1 ≤ n) (hr : g 101 (6 * g 70 45 + 4) + 1 ≤ n) : GA (mRing g (96 * g 70 45 + c) i) n := by
  have S1 : Sh (mRing g (96 * g 70 45 + c) i) := by
    unfold mRing
    try dsimp only
    refine Sh_ar (Sh_ar ?_ (by decide)) (by decide)
    split
    · exact Sh_ar (Sh_ar a.S (by decide)) (by decide)
    · exact a.S
  have e : ∀ x j, ¬ x = 103 → ¬ x = 104 → mRing g (96 * g 70 45 + c) i x j = up (up g 105 (96 * g 70 45 + c) (g 105 (96 * g 70 45 + c) + 1)) 101 (6 * g 70 45 + 4) (g 101 (6 * g 70 45 + 4) + 1) x j := by
    intro x j h1 h2
    unfold mRing
    try dsimp only
    split
    · simp only [up_at, h1, h2, b2_T, b2_F, Int.reduceEq, Int.reduceLT, Int.reduceLE, Int.reduceAdd, Int.reduceSub, Int.reduceMul, Int.reduceNeg, reduceIte, if_true, if_false, true_or, or_true, false_or, or_false, false_and, and_false, eq_self, not_false_eq_true, not_true_eq_false, true_and, and_true, List.cons_append, List.nil_append, List.append_nil, b2_0, b2_1, b2_01, Classical.not_not]
    · rfl
  have f : ∀ x j, ¬ x = 103 → ¬ x = 104 → ¬ x = 105 → ¬ x = 101 → mRing g (96 * g 70 45 + c) i x j = g x j := by
    intro x j h1 h2 h3 h4
    rw [e x j h1 h2]
    simp only [up_at, h3, h4, b2_T, b2_F, Int.reduceEq, Int.reduceLT, Int.reduceLE, Int.reduceAdd, Int.reduceSub, Int.reduceMul, Int.reduceNeg, reduceIte, if_true, if_false, true_or, or_true, false_or, or_false, false_and, and_false, eq_self, not_false_eq_true, not_true_eq_false, true_and, and_true, List.cons_append, List.nil_append, List.append_nil, b2_0, b2_1, b2_01, Classical.not_not]
  have eb : mRing g (96 * g 70 45 + c) i 70 45 = g 70 45 := f 70 45 (by decide) (by decide) (by decide) (by decide)
  have e72 : ∀ j, mRing g (96 * g 70 45 + c) i 72 j = g 72 j := fun j => f 72 j (by decide) (by decide) (by decide) (by decide)
  have e73 : ∀ j, mRing g (96 * g 70 45 + c) i 73 j = g 73 j := fun j => f 73 j (by decide) (by decide) (by decide) (by decide)
  have e74 : ∀ j, mRing g (96 * g 70 45 + c) i 74 j = g 74 j := fun j => f 74 j (by decide) (by decide) (by decide) (by decide)
  have e75 : ∀ j, mRing g (96 * g 70 45 + c) i 75 j = g 75 j := fun j => f 75 j (by decide) (by decide) (by decide) (by decide)
  have e76 : ∀ j, mRing g (96 * g 70 45 + c) i 76 j = g 76 j := fun j => f 76 j (by decide) (by decide) (by decide) (by decide)
  have e70 : ∀ j, mRing g (96 * g 70 45 + c) i 70 j = g 70 j := fun j => f 70 j (by decide) (by decide) (by decide) (by decide)
  have ee : ∀ x, (x = 86 ∨ x = 87 ∨ x = 88 ∨ x = 90 ∨ x = 91 ∨ x = 93 ∨ x = 95 ∨ x = 96 ∨ x = 97 ∨ x = 98 ∨ x = 99 ∨ x = 102 ∨ x = 106) → ∀ j, mRing g (96 * g 70 45 + c) i x j = g x j := fun x hx j => f x j (by omega) (by omega) (by omega) (by omega)
  refine ⟨S1, ?_, ?_, ?_, ?_, ?_, ?_, ?_, ?_, ?_, ?_, ?_, ?_, ?_, ?_⟩
  · intro d hd
    have p := a.p d hd
    refine ⟨?_, ?_, ?_, ?_, ?_, ?_, ?_, ?_, ?_, ?_⟩ <;> simp only [e72, e73, e74, e75, e76]
    · exact p.k
    · exact p.a1
    · exact p.a4
    · exact p.ma
    · exact p.bt
    · exact p.bb
    · exact p.e
    · exact p.l
    · exact p.o
    · exact p.z3
  · rw [eb]; exact a.bk
  · rw [e70]; exact a.nw
  · intro d hd
    rw [ee 93 (by omega)]; exact a.tm d hd
  · intro d hd
    have := a.rg d hd
    rw [eb, e 105 _ (by decide) (by decide)]
    by_cases hx : d = c
    · subst hx
      simp only [up_at, b2_T, b2_F, Int.reduceEq, Int.reduceLT, Int.reduceLE, Int.reduceAdd, Int.reduceSub, Int.reduceMul, Int.reduceNeg, reduceIte, if_true, if_false, true_or, or_true, false_or, or_false, false_and, and_false, eq_self, not_false_eq_true, not_true_eq_false, true_and, and_true, List.cons_append, List.nil_append, List.append_nil, b2_0, b2_1, b2_01, Classical.not_not]
      omega
    · simp only [up_at, show ¬ (96 * g 70 45 + d = 96 * g 70 45 + c) by omega, b2_T, b2_F, Int.reduceEq, Int.reduceLT, Int.reduceLE, Int.reduceAdd, Int.reduceSub, Int.reduceMul, Int.reduceNeg, reduceIte, if_true, if_false, true_or, or_true, false_or, or_false, false_and, and_false, eq_self, not_false_eq_true, not_true_eq_false, true_and, and_true, List.cons_append, List.nil_append, List.append_nil, b2_0, b2_1, b2_01, Classical.not_not]
      exact this
  · intro d hd
    rw [eb, ee 106 (by omega)]; exact a.hs d hd
  · have := a.rc
    rw [eb, e 101 _ (by decide) (by decide)]
    simp only [up_at, b2_T, b2_F, Int.reduceEq, Int.reduceLT, Int.reduceLE, Int.reduceAdd, Int.reduceSub, Int.reduceMul, Int.reduceNeg, reduceIte, if_true, if_false, true_or, or_true, false_or, or_false, false_and, and_false, eq_self, not_false_eq_true, not_true_eq_false, true_and, and_true, List.cons_append, List.nil_append, List.append_nil, b2_0, b2_1, b2_01, Classical.not_not]
    omega
  · have := a.lc
    rw [eb, e 101 _ (by decide) (by decide)]
    simp only [up_at, Int.add_right_inj, b2_T, b2_F, Int.reduceEq, Int.reduceLT, Int.reduceLE, Int.reduceAdd, Int.reduceSub, Int.reduceMul, Int.reduceNeg, reduceIte, if_true, if_false, true_or, or_true, false_or, or_false, false_and, and_false, eq_self, not_false_eq_true, not_true_eq_false, true_and, and_true, List.cons_append, List.nil_append, List.append_nil, b2_0, b2_1, b2_01, Classical.not_not]
    exact this
  · rw [e70]; exact a.bm
  · intro d hd
    rw [ee 95 (by omega), e72, e70]; exact a.on d hd
  · intro x h1 h2
    rw [e70] at h2
    rw [ee 96 (by omega), ee 97 (by omega), ee 98 (by omega), ee 99 (by omega)]; exact a.at' x h1 h2
  · intro x h1 h2
    rw [e70] at h2
    rw [ee 86 (by omega), ee 87 (by omega), ee 88 (by omega), ee 90 (by omega), e70]; exact a.nd x h1 h2
  · intro x h1 h2
    rw [ee 91 (by omega), e70]; exact a.fs x h1 h2
  · intro x h1 h2
    rw [eb, ee 102 (by omega), ee 102 (by omega), ee 102 (by omega)]; exact a.lg x h1 h2
theorem add_f {x : Int} (h1 : ¬ x = 86) (h2 : ¬ x = 87) (h3 : ¬ x = 88) (h4 : ¬ x = 89) (h5 : ¬ x = 90) (h6 : ¬ x = 91) (h7 : ¬ x = 92) (h8 : ¬ x = 70) : mAdd g t c s k r x j = g x j := by
  unfold mAdd
  split
  · rfl
  · dsimp only
    split <;> simp only [up_at, h1, h2, h3, h4, h5, h6, h7, h8, b2_T, b2_F, Int.reduceEq, Int.reduceLT, Int.reduceLE, Int.reduceAdd, Int.reduceSub, Int.reduceMul, Int.reduceNeg, reduceIte, if_true, if_false, true_or, or_true, false_or, or_false, false_and, and_false, eq_self, not_false_eq_true, not_true_eq_false, true_and, and_true, List.cons_append, List.nil_append, List.append_nil, b2_0, b2_1, b2_01, Classical.not_not]
theorem add_70 (h1 : ¬ j = 24) (h2 : ¬ j = 25) : mAdd g t c s k r 70 j = g 70 j := by
  unfold mAdd
  split
  · rfl
  · dsimp only
    split <;> simp only [up_at, h1, h2, b2_T, b2_F, Int.reduceEq, Int.reduceLT, Int.reduceLE, Int.reduceAdd, Int.reduceSub, Int.reduceMul, Int.reduceNeg, reduceIte, if_true, if_false, true_or, or_true, false_or, or_false, false_and, and_false, eq_self, not_false_eq_true, not_true_eq_false, true_and, and_true, List.cons_append, List.nil_append, List.append_nil, b2_0, b2_1, b2_01, Classical.not_not]
theorem GA_add (a : GA g n) (q : QI g b) (hc : c = -1 ∨ isC c) (hs : okS s) (hk : -1 ≤ k ∧ k < n) (ht : 0 ≤ t ∧ t < 520) : GA (mAdd g t c s k r) n := by
  have S1 : Sh (mAdd g t c s k r) := Sh_add a.S
  have f : ∀ x, (x = 72 ∨ x = 73 ∨ x = 74 ∨ x = 75 ∨ x = 76 ∨ x = 93 ∨ x = 95 ∨ x = 96 ∨ x = 97 ∨ x = 98 ∨ x = 99 ∨ x = 101 ∨ x = 102 ∨ x = 105 ∨ x = 106) → ∀ j, mAdd g t c s k r x j = g x j := fun x hx j => add_f (by omega) (by omega) (by omega) (by omega) (by omega) (by omega) (by omega) (by omega)
  have e72 := f 72 (by omega)
  have e73 := f 73 (by omega)
  have e74 := f 74 (by omega)
  have e75 := f 75 (by omega)
  have e76 := f 76 (by omega)
  have eb : mAdd g t c s k r 70 45 = g 70 45 := add_70 (by decide) (by decide)
  have e26 : mAdd g t c s k r 70 26 = g 70 26 := add_70 (by decide) (by decide)
  have e30 : mAdd g t c s k r 70 30 = g 70 30 := add_70 (by decide) (by decide)
  have q1 := q.1.1
  refine ⟨S1, ?_, ?_, ?_, ?_, ?_, ?_, ?_, ?_, ?_, ?_, ?_, ?_, ?_, ?_⟩
  · intro d hd
    have p := a.p d hd
    refine ⟨?_, ?_, ?_, ?_, ?_, ?_, ?_, ?_, ?_, ?_⟩ <;> simp only [e72, e73, e74, e75, e76]
    · exact p.k
    · exact p.a1
    · exact p.a4
    · exact p.ma
    · exact p.bt
    · exact p.bb
    · exact p.e
    · exact p.l
    · exact p.o
    · exact p.z3
  · rw [eb]; exact a.bk
  · rw [e26]; exact a.nw
  · intro d hd
    rw [f 93 (by omega)]; exact a.tm d hd
  · intro d hd
    rw [eb, f 105 (by omega)]; exact a.rg d hd
  · intro d hd
    rw [eb, f 106 (by omega)]; exact a.hs d hd
  · rw [eb, f 101 (by omega)]; exact a.rc
  · rw [eb, f 101 (by omega)]; exact a.lc
  · rw [e30]; exact a.bm
  · intro d hd
    rw [f 95 (by omega), e72, e30]; exact a.on d hd
  · intro x h1 h2
    rw [e30] at h2
    rw [f 96 (by omega), f 97 (by omega), f 98 (by omega), f 99 (by omega)]; exact a.at' x h1 h2
  · unfold mAdd
    by_cases hc1 : c = -1
    · simp only [if_pos hc1]
      exact a.nd
    · have hc2 : isC c := by omega
      simp only [if_neg hc1]
      intro x h1
      by_cases h3 : g 91 t = -1
      · simp only [if_pos h3, up_at, b2_T, b2_F, Int.reduceEq, Int.reduceLT, Int.reduceLE, Int.reduceAdd, Int.reduceSub, Int.reduceMul, Int.reduceNeg, reduceIte, if_true, if_false, true_or, or_true, false_or, or_false, false_and, and_false, eq_self, not_false_eq_true, not_true_eq_false, true_and, and_true, List.cons_append, List.nil_append, List.append_nil, b2_0, b2_1, b2_01, Classical.not_not]
        intro h2
        by_cases hx : x = g 70 24
        · simp only [hx, b2_T, b2_F, Int.reduceEq, Int.reduceLT, Int.reduceLE, Int.reduceAdd, Int.reduceSub, Int.reduceMul, Int.reduceNeg, reduceIte, if_true, if_false, true_or, or_true, false_or, or_false, false_and, and_false, eq_self, not_false_eq_true, not_true_eq_false, true_and, and_true, List.cons_append, List.nil_append, List.append_nil, b2_0, b2_1, b2_01, Classical.not_not]
          exact ⟨hc2, hs, hk.1, hk.2⟩
        · have := a.nd x h1 (by omega)
          simp only [hx, b2_T, b2_F, Int.reduceEq, Int.reduceLT, Int.reduceLE, Int.reduceAdd, Int.reduceSub, Int.reduceMul, Int.reduceNeg, reduceIte, if_true, if_false, true_or, or_true, false_or, or_false, false_and, and_false, eq_self, not_false_eq_true, not_true_eq_false, true_and, and_true, List.cons_append, List.nil_append, List.append_nil, b2_0, b2_1, b2_01, Classical.not_not]
          exact ⟨this.1, this.2.1, this.2.2.1, by omega⟩
      · simp only [if_neg h3, up_at, b2_T, b2_F, Int.reduceEq, Int.reduceLT, Int.reduceLE, Int.reduceAdd, Int.reduceSub, Int.reduceMul, Int.reduceNeg, reduceIte, if_true, if_false, true_or, or_true, false_or, or_false, false_and, and_false, eq_self, not_false_eq_true, not_true_eq_false, true_and, and_true, List.cons_append, List.nil_append, List.append_nil, b2_0, b2_1, b2_01, Classical.not_not]
        intro h2
        have h4 := (q.2.2 t ht.1 ht.2 h3).1
        by_cases hx : x = g 70 24
        · simp only [hx, b2_T, b2_F, Int.reduceEq, Int.reduceLT, Int.reduceLE, Int.reduceAdd, Int.reduceSub, Int.reduceMul, Int.reduceNeg, reduceIte, if_true, if_false, true_or, or_true, false_or, or_false, false_and, and_false, eq_self, not_false_eq_true, not_true_eq_false, true_and, and_true, List.cons_append, List.nil_append, List.append_nil, b2_0, b2_1, b2_01, Classical.not_not]
          refine ⟨hc2, hs, hk, ?_⟩
          split
          · omega
          · omega
        · have := a.nd x h1 (by omega)
          simp only [hx, b2_T, b2_F, Int.reduceEq, Int.reduceLT, Int.reduceLE, Int.reduceAdd, Int.reduceSub, Int.reduceMul, Int.reduceNeg, reduceIte, if_true, if_false, true_or, or_true, false_or, or_false, false_and, and_false, eq_self, not_false_eq_true, not_true_eq_false, true_and, and_true, List.cons_append, List.nil_append, List.append_nil, b2_0, b2_1, b2_01, Classical.not_not]
          refine ⟨this.1, this.2.1, this.2.2.1, ?_⟩
          split
          · omega
          · omega
  · unfold mAdd
    by_cases hc1 : c = -1
    · simp only [if_pos hc1]
      exact a.fs
    · simp only [if_neg hc1]
      intro x h1 h2
      have := a.fs x h1 h2
      by_cases h3 : g 91 t = -1
      · simp only [if_pos h3, up_at, b2_T, b2_F, Int.reduceEq, Int.reduceLT, Int.reduceLE, Int.reduceAdd, Int.reduceSub, Int.reduceMul, Int.reduceNeg, reduceIte, if_true, if_false, true_or, or_true, false_or, or_false, false_and, and_false, eq_self, not_false_eq_true, not_true_eq_false, true_and, and_true, List.cons_append, List.nil_append, List.append_nil, b2_0, b2_1, b2_01, Classical.not_not]
        by_cases hx : x = t
        · simp only [hx, b2_T, b2_F, Int.reduceEq, Int.reduceLT, Int.reduceLE, Int.reduceAdd, Int.reduceSub, Int.reduceMul, Int.reduceNeg, reduceIte, if_true, if_false, true_or, or_true, false_or, or_false, false_and, and_false, eq_self, not_false_eq_true, not_true_eq_false, true_and, and_true, List.cons_append, List.nil_append, List.append_nil, b2_0, b2_1, b2_01, Classical.not_not]
          omega
        · simp only [hx, b2_T, b2_F, Int.reduceEq, Int.reduceLT, Int.reduceLE, Int.reduceAdd, Int.reduceSub, Int.reduceMul, Int.reduceNeg, reduceIte, if_true, if_false, true_or, or_true, false_or, or_false, false_and, and_false, eq_self, not_false_eq_true, not_true_eq_false, true_and, and_true, List.cons_append, List.nil_append, List.append_nil, b2_0, b2_1, b2_01, Classical.not_not]
          omega
      · simp only [if_neg h3, up_at, b2_T, b2_F, Int.reduceEq, Int.reduceLT, Int.reduceLE, Int.reduceAdd, Int.reduceSub, Int.reduceMul, Int.reduceNeg, reduceIte, if_true, if_false, true_or, or_true, false_or, or_false, false_and, and_false, eq_self, not_false_eq_true, not_true_eq_false, true_and, and_true, List.cons_append, List.nil_append, List.append_nil, b2_0, b2_1, b2_01, Classical.not_not]
        omega
  · intro x h1 h2
    rw [eb, f 102 (by omega), f 102 (by omega), f 102 (by omega)]; exact a.lg x h1 h2
end INV
