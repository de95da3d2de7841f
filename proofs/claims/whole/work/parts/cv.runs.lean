/-! the reference's run: ticks to the end -/
def mT1 (g : Mm) : Mm := up g 101 (6 * g 70 45 + 1) (g 70 26)
section RUNS
variable {tl : Ds} {m g : Mm} {Q : Ds → Mm → List MV → Prop} {c s i b k u j n x w z y : Int} {q1 q2 q3 q4 : MV}
theorem was_f {a t : Int} (h : ¬ a = 100) : mWas g t a j = g a j := if_neg (fun x => h x.1)
theorem Sh_was (S : Sh g) {t : Int} : Sh (mWas g t) := fun q hq => by
  have h1 : ∀ q ∈ SL, ¬ q.1 = 100 := by decide
  rw [was_f (h1 q hq)]
  exact S q hq
theorem e166w (S : Sh g) (b : 0 ≤ g 70 30 ∧ g 70 30 ≤ 96) (nw : 0 ≤ g 70 26 ∧ g 70 26 < 400) : ∀ (k n : Nat), (n : Int) + k = g 70 30 → WP 166 20 [(2, 70), q1, q2, (0, z), (0, (n : Int))] [] (dsB ++ tl) (mWas g n) Q = WP 166 69 [(2, 70), q1, q2, (0, z), (0, g 91 (g 70 26))] [] (dsB ++ tl) (mWas g (g 70 30)) Q := by
  have e70 : ∀ t j, mWas g t 70 j = g 70 j := fun t j => was_f (by decide)
  have e97 : ∀ t j, mWas g t 97 j = g 97 j := fun t j => was_f (by decide)
  have e91 : ∀ t j, mWas g t 91 j = g 91 j := fun t j => was_f (by decide)
  have nw0 := nw.1
  have nw1 : g 70 26 < 520 := by omega
  intro k
  induction k with
  | zero =>
    intro n hn
    have hn : g 70 30 = (n : Int) := by omega
    have S1 := Sh_was S (t := n)
    rw [p166_20, hn]
    simp only [p166_22, p166_23, p166_26, p166_58, p166_59, p166_62, p166_63, p166_66, p166_67, K_70, K_91, L_91, sh_70_22 S1, e70, e91, hn, nw0, nw1, b2_T, b2_F, Int.reduceEq, Int.reduceLT, Int.reduceLE, Int.reduceAdd, Int.reduceSub, Int.reduceMul, Int.reduceNeg, reduceIte, if_true, if_false, true_or, or_true, false_or, or_false, false_and, and_false, eq_self, not_false_eq_true, not_true_eq_false, true_and, and_true, List.cons_append, List.nil_append, List.append_nil, b2_0, b2_1, b2_01, Classical.not_not, Int.lt_irrefl]
  | succ k ih =>
    intro n hn
    have i1 := ih (n + 1) (by omega)
    have c1 : ((n + 1 : Nat) : Int) = (n : Int) + 1 := rfl
    have w1 : w32 ((n : Int) + 1) = (n : Int) + 1 := w32_id (by omega) (by omega)
    have g0 : (0 : Int) ≤ n := by omega
    have g1 : (n : Int) < g 70 30 := by omega
    have g2 : (n : Int) < 96 := by omega
    have S1 := Sh_was S (t := n)
    have e : up (mWas g n) 100 n (if g 97 n = -1 then 0 else 1) = mWas g (n + 1 : Nat) := by
      have y1 : ∀ t a j, a = 100 ∧ 0 ≤ j ∧ j < t → mWas g t a j = if g 97 j = -1 then 0 else 1 := fun t a j h => if_pos h
      have y2 : ∀ t a j, ¬ (a = 100 ∧ 0 ≤ j ∧ j < t) → mWas g t a j = g a j := fun t a j h => if_neg h
      apply fx
      intro a j
      rw [up_at]
      by_cases h1 : a = 100 ∧ j = n
      · rw [if_pos h1, y1 _ a j (by omega), h1.2]
      · rw [if_neg h1]
        by_cases h2 : a = 100 ∧ 0 ≤ j ∧ j < (n : Int)
        · rw [y1 _ a j h2, y1 _ a j (by omega)]
        · rw [y2 _ a j h2, y2 _ a j (by omega)]
    rw [← i1, ← e, p166_20]
    by_cases h : g 97 n = -1
    · rw [if_pos h]
      simp only [p166_22, p166_23, p166_26, p166_29, p166_30, p166_33, p166_35, p166_36, p166_39, p166_41, p166_42, p166_43, p166_46, p166_47, p166_50, p166_51, p166_52, p166_55, K_70, K_97, L_97, K_100, L_100, sh_70_35 S1, sh_70_32 S1, e70, e97, h, c1, w1, g0, g1, g2, b2_T, b2_F, Int.reduceEq, Int.reduceLT, Int.reduceLE, Int.reduceAdd, Int.reduceSub, Int.reduceMul, Int.reduceNeg, reduceIte, if_true, if_false, true_or, or_true, false_or, or_false, false_and, and_false, eq_self, not_false_eq_true, not_true_eq_false, true_and, and_true, List.cons_append, List.nil_append, List.append_nil, b2_0, b2_1, b2_01, Classical.not_not]
    · rw [if_neg h]
      simp only [p166_22, p166_23, p166_26, p166_29, p166_30, p166_33, p166_35, p166_36, p166_39, p166_41, p166_42, p166_43, p166_46, p166_47, p166_50, p166_51, p166_52, p166_55, K_70, K_97, L_97, K_100, L_100, sh_70_35 S1, sh_70_32 S1, e70, e97, h, c1, w1, g0, g1, g2, b2_T, b2_F, Int.reduceEq, Int.reduceLT, Int.reduceLE, Int.reduceAdd, Int.reduceSub, Int.reduceMul, Int.reduceNeg, reduceIte, if_true, if_false, true_or, or_true, false_or, or_false, false_and, and_false, eq_self, not_false_eq_true, not_true_eq_false, true_and, and_true, List.cons_append, List.nil_append, List.append_nil, b2_0, b2_1, b2_01, Classical.not_not]
theorem TI_was (a : GI g) (w : -(cnt g) ≤ g 70 25) : TI (mWas g (g 70 30)) 0 := by
  have A := a.a
  refine ⟨⟨a.cn, ⟨Sh_was A.S, PV_cg A.p (fun j => rfl) (fun j => rfl) (fun j => rfl) (fun j => rfl) (fun j => rfl), A.bk, A.nw, A.tm, A.rg, A.hs, A.rc, A.lc, A.bm, A.on, A.at', A.nd, A.fs, A.lg⟩, a.q⟩, w, fun j j0 j1 j2 => ?_⟩
  have j1' : j < g 70 30 := j1
  have y1 : mWas g (g 70 30) 100 j = if g 97 j = -1 then 0 else 1 := if_pos ⟨rfl, j0, j1'⟩
  rw [y1] at j2
  show ¬ g 97 j = -1
  intro h
  rw [if_pos h] at j2
  exact j2 rfl
theorem roll_70 (h1 : ¬ j = 24) (h2 : ¬ j = 25) : mRoll g n 70 j = g 70 j := by
  unfold mRoll
  split
  · rfl
  · split
    · rw [strike_70 h1 h2]
      rfl
    · exact go_f (by decide) (by decide) (by decide) (by decide)
theorem roll_25 : g 70 25 ≤ mRoll g n 70 25 := by
  unfold mRoll
  split
  · exact Int.le_refl _
  · split
    · exact strike_25 (g := up g 97 n (-1))
    · rw [go_f (by decide) (by decide) (by decide) (by decide)]
      exact Int.le_refl _
theorem gone_n : cnt (mGone g n c) = cnt g := by
  have e : mGone g n c 101 (6 * g 70 45 + 2) = g 101 (6 * g 70 45 + 2) := by
    unfold mGone
    simp only [up_at, Int.add_right_inj, b2_T, b2_F, Int.reduceEq, Int.reduceLT, Int.reduceLE, Int.reduceAdd, Int.reduceSub, Int.reduceMul, Int.reduceNeg, reduceIte, if_true, if_false, true_or, or_true, false_or, or_false, false_and, and_false, eq_self, not_false_eq_true, not_true_eq_false, true_and, and_true, List.cons_append, List.nil_append, List.append_nil, b2_0, b2_1, b2_01, Classical.not_not]
  exact e
theorem go_n {o f : Int} : cnt (mGo g n c o f) = cnt g := by
  unfold cnt
  rw [go_f (by decide) (by decide) (by decide) (by decide), go_f (by decide) (by decide) (by decide) (by decide)]
theorem roll_n : cnt g ≤ cnt (mRoll g n) := by
  unfold mRoll
  split
  · rw [gone_n]
    exact Int.le_refl _
  · split
    · rw [strike_n]
      show cnt g ≤ cnt g + 1
      omega
    · rw [go_n]
      exact Int.le_refl _
theorem roll_100 : mRoll g n 100 j = g 100 j := by
  unfold mRoll
  split
  · rfl
  · split
    · rw [strike_100]
      rfl
    · exact go_f (by decide) (by decide) (by decide) (by decide)
theorem roll_97 (h : ¬ j = n) (h2 : ¬ g 97 j = -1) : ¬ mRoll g n 97 j = -1 := by
  unfold mRoll
  split
  · unfold mGone
    simp only [up_at, h, b2_T, b2_F, Int.reduceEq, Int.reduceLT, Int.reduceLE, Int.reduceAdd, Int.reduceSub, Int.reduceMul, Int.reduceNeg, reduceIte, if_true, if_false, true_or, or_true, false_or, or_false, false_and, and_false, eq_self, not_false_eq_true, not_true_eq_false, true_and, and_true, List.cons_append, List.nil_append, List.append_nil, b2_0, b2_1, b2_01, Classical.not_not]
    exact h2
  · split
    · apply strike_97
      simp only [up_at, h, b2_T, b2_F, Int.reduceEq, Int.reduceLT, Int.reduceLE, Int.reduceAdd, Int.reduceSub, Int.reduceMul, Int.reduceNeg, reduceIte, if_true, if_false, true_or, or_true, false_or, or_false, false_and, and_false, eq_self, not_false_eq_true, not_true_eq_false, true_and, and_true, List.cons_append, List.nil_append, List.append_nil, b2_0, b2_1, b2_01, Classical.not_not]
      exact h2
    · rw [go_97, if_neg h]
      exact h2
def mRoll1 (g : Mm) (n : Int) : Mm := if g 100 n = 0 then g else mRoll g n
theorem TI_roll1 (t : TI g n) (hn : cnt g < 1000) (hj : 0 ≤ n ∧ n < g 70 30) : TI (mRoll1 g n) (n + 1) ∧ mRoll1 g n 70 26 = g 70 26 ∧ mRoll1 g n 70 30 = g 70 30 := by
  have w := t.w
  unfold mRoll1
  by_cases h : g 100 n = 0
  · rw [if_pos h]
    exact ⟨⟨t.a, w, fun j j0 j1 j2 => t.r j (by omega) j1 j2⟩, rfl, rfl⟩
  · rw [if_neg h]
    have hr := t.r n (Int.le_refl _) hj.2 h
    have r1 := roll_25 (g := g) (n := n)
    have r2 := roll_n (g := g) (n := n)
    refine ⟨⟨GI_roll t.a hn hj hr, by omega, fun j j0 j1 j2 => ?_⟩, roll_70 (by decide) (by decide), roll_70 (by decide) (by decide)⟩
    rw [roll_70 (by decide) (by decide)] at j1
    rw [roll_100] at j2
    exact roll_97 (by omega) (t.r j (by omega) j1 j2)
theorem rollL_s (f : Nat) : mRollL (f + 1) g n = if n < g 70 30 ∧ ¬ cnt g = 1000 then mRollL f (mRoll1 g n) (n + 1) else g := rfl
theorem TI_rollL : ∀ (f : Nat) (g : Mm) (n : Int), TI g n → 0 ≤ n → (GI (mRollL f g n) ∧ -(cnt (mRollL f g n)) ≤ mRollL f g n 70 25) ∧ mRollL f g n 70 26 = g 70 26 := by
  intro f
  induction f with
  | zero => exact fun g n t _ => ⟨⟨t.a, t.w⟩, rfl⟩
  | succ f ih =>
    intro g n t hn
    rw [rollL_s]
    by_cases h : n < g 70 30 ∧ ¬ cnt g = 1000
    · rw [if_pos h]
      have cn := t.a.cn
      have t1 := TI_roll1 t (by omega) ⟨hn, h.1⟩
      have i1 := ih _ _ t1.1 (by omega)
      exact ⟨i1.1, i1.2.trans t1.2.1⟩
    · rw [if_neg h]
      exact ⟨⟨t.a, t.w⟩, rfl⟩
theorem e166r : ∀ (f : Nat) (g : Mm) (n : Int), TI g n → 0 ≤ n → 96 - n < f → WP 166 113 [(2, 70), q1, q2, (0, z), (0, n)] [] (dsB ++ tl) g Q = WP 166 154 [(2, 70), q1, q2, (0, z), (0, 0)] [] (dsB ++ tl) (mRollL f g n) Q := by
  intro f
  induction f with
  | zero =>
    intro g n t hn hf
    have bm := t.a.a.bm
    rw [p166_113]
    have h1 : ¬ n < g 70 30 := by omega
    show _ = WP 166 154 [(2, 70), q1, q2, (0, z), (0, 0)] [] (dsB ++ tl) g Q
    simp only [p166_115, p166_116, p166_119, p166_151, p166_152, K_70, h1, b2_T, b2_F, Int.reduceEq, Int.reduceLT, Int.reduceLE, Int.reduceAdd, Int.reduceSub, Int.reduceMul, Int.reduceNeg, reduceIte, if_true, if_false, true_or, or_true, false_or, or_false, false_and, and_false, eq_self, not_false_eq_true, not_true_eq_false, true_and, and_true, List.cons_append, List.nil_append, List.append_nil, b2_0, b2_1, b2_01, Classical.not_not]
  | succ f ih =>
    intro g n t hn hf
    have bm := t.a.a.bm
    have A := t.a.a
    have S := A.S
    have cn := t.a.cn
    rw [rollL_s, p166_113]
    by_cases h1 : n < g 70 30
    · by_cases h2 : cnt g = 1000
      · rw [if_neg (fun x => x.2 h2)]
        simp only [p166_115, p166_116, p166_119, p166_122, p166_123, p166_126, p166_151, p166_152, K_70, h1, e164 S A.bk, b2_t h2, b2_T, b2_F, Int.reduceEq, Int.reduceLT, Int.reduceLE, Int.reduceAdd, Int.reduceSub, Int.reduceMul, Int.reduceNeg, reduceIte, if_true, if_false, true_or, or_true, false_or, or_false, false_and, and_false, eq_self, not_false_eq_true, not_true_eq_false, true_and, and_true, List.cons_append, List.nil_append, List.append_nil, b2_0, b2_1, b2_01, Classical.not_not]
      · rw [if_pos ⟨h1, h2⟩]
        have t1 := TI_roll1 t (by omega) ⟨hn, h1⟩
        have i1 := ih _ _ t1.1 (by omega) (by omega)
        have g1 : n < 96 := by omega
        have w1 : w32 (n + 1) = n + 1 := w32_id (by omega) (by omega)
        rw [← i1]
        unfold mRoll1
        by_cases h3 : g 100 n = 0
        · simp only [if_pos h3]
          simp only [p166_115, p166_116, p166_119, p166_122, p166_123, p166_126, p166_129, p166_130, p166_133, p166_135, p166_136, p166_139, p166_140, p166_142, p166_145, p166_148, K_70, K_100, L_100, sh_70_35 S, h1, hn, g1, h3, w1, e164 S A.bk, b2_f h2, b2_T, b2_F, Int.reduceEq, Int.reduceLT, Int.reduceLE, Int.reduceAdd, Int.reduceSub, Int.reduceMul, Int.reduceNeg, reduceIte, if_true, if_false, true_or, or_true, false_or, or_false, false_and, and_false, eq_self, not_false_eq_true, not_true_eq_false, true_and, and_true, List.cons_append, List.nil_append, List.append_nil, b2_0, b2_1, b2_01, Classical.not_not]
        · simp only [if_neg h3]
          have hr := t.r n (Int.le_refl _) h1 h3
          simp only [p166_115, p166_116, p166_119, p166_122, p166_123, p166_126, p166_129, p166_130, p166_133, p166_135, p166_136, p166_139, p166_140, p166_142, p166_145, p166_148, K_70, K_100, L_100, sh_70_35 S, h1, hn, g1, h3, w1, e164 S A.bk, b2_f h2, e161 t.a (by omega) ⟨hn, h1⟩ hr, b2_T, b2_F, Int.reduceEq, Int.reduceLT, Int.reduceLE, Int.reduceAdd, Int.reduceSub, Int.reduceMul, Int.reduceNeg, reduceIte, if_true, if_false, true_or, or_true, false_or, or_false, false_and, and_false, eq_self, not_false_eq_true, not_true_eq_false, true_and, and_true, List.cons_append, List.nil_append, List.append_nil, b2_0, b2_1, b2_01, Classical.not_not]
    · rw [if_neg (fun x => h1 x.1)]
      simp only [p166_115, p166_116, p166_119, p166_151, p166_152, K_70, h1, b2_T, b2_F, Int.reduceEq, Int.reduceLT, Int.reduceLE, Int.reduceAdd, Int.reduceSub, Int.reduceMul, Int.reduceNeg, reduceIte, if_true, if_false, true_or, or_true, false_or, or_false, false_and, and_false, eq_self, not_false_eq_true, not_true_eq_false, true_and, and_true, List.cons_append, List.nil_append, List.append_nil, b2_0, b2_1, b2_01, Classical.not_not]
theorem rlf_b (n : Int) : 0 ≤ rlf g n ∧ rlf g n ≤ 1 := by
  unfold rlf
  split <;> omega
theorem sm_tail {f : Int → Int} {a : Nat} : ∀ k : Nat, (∀ n : Int, (a : Int) ≤ n → f n = 0) → sm f (a + k) = sm f a := by
  intro k h
  induction k with
  | zero => rfl
  | succ k ih =>
    have e : sm f (a + (k + 1)) = sm f (a + k) + f ((a + k : Nat) : Int) := rfl
    rw [e, ih, h _ (by omega)]
    omega
theorem e166g (A : GA g y) : ∀ (k n : Nat), (n : Int) + k = g 70 30 → WP 166 154 [(2, 70), q1, (0, x), (0, b2 (0 < sm (rlf g) n)), (0, (n : Int))] [] (dsB ++ tl) g Q = WP 166 190 [(2, 70), q1, (0, x), (0, b2 (0 < rlc g)), (0, g 70 30)] [] (dsB ++ tl) g Q := by
  have S := A.S
  have bm := A.bm
  intro k
  induction k with
  | zero =>
    intro n hn
    have hn : g 70 30 = (n : Int) := by omega
    have e : rlc g = sm (rlf g) n := by
      unfold rlc
      have e1 : 96 = n + (96 - n) := by omega
      rw [e1]
      exact sm_tail _ (fun j hj => by unfold rlf; rw [if_neg (by omega)])
    rw [p166_154, e, hn]
    simp only [p166_156, p166_157, p166_160, K_70, hn, b2_T, b2_F, Int.reduceEq, Int.reduceLT, Int.reduceLE, Int.reduceAdd, Int.reduceSub, Int.reduceMul, Int.reduceNeg, reduceIte, if_true, if_false, true_or, or_true, false_or, or_false, false_and, and_false, eq_self, not_false_eq_true, not_true_eq_false, true_and, and_true, List.cons_append, List.nil_append, List.append_nil, b2_0, b2_1, b2_01, Classical.not_not, Int.lt_irrefl]
  | succ k ih =>
    intro n hn
    have i1 := ih (n + 1) (by omega)
    have c1 : ((n + 1 : Nat) : Int) = (n : Int) + 1 := rfl
    have c2 : sm (rlf g) (n + 1) = sm (rlf g) n + rlf g n := rfl
    have w1 : w32 ((n : Int) + 1) = (n : Int) + 1 := w32_id (by omega) (by omega)
    have g0 : (0 : Int) ≤ n := by omega
    have g1 : (n : Int) < g 70 30 := by omega
    have g2 : (n : Int) < 96 := by omega
    have sb := sm_b (f := rlf g) rlf_b n
    rw [← i1, p166_154]
    by_cases h : 0 < sm (rlf g) n
    · have h' : 0 < sm (rlf g) (n + 1) := by have := rlf_b (g := g) n; omega
      rw [b2_t h, b2_t h']
      simp only [p166_156, p166_157, p166_160, p166_163, p166_164, p166_167, p166_168, p166_171, p166_173, p166_174, p166_175, p166_178, p166_179, p166_182, p166_183, p166_184, p166_187, K_70, c1, w1, g1, b2_T, b2_F, Int.reduceEq, Int.reduceLT, Int.reduceLE, Int.reduceAdd, Int.reduceSub, Int.reduceMul, Int.reduceNeg, reduceIte, if_true, if_false, true_or, or_true, false_or, or_false, false_and, and_false, eq_self, not_false_eq_true, not_true_eq_false, true_and, and_true, List.cons_append, List.nil_append, List.append_nil, b2_0, b2_1, b2_01, Classical.not_not]
    · rw [b2_f h]
      by_cases h2 : g 97 n = -1
      · have h' : ¬ 0 < sm (rlf g) (n + 1) := by
          have e2 : rlf g n = 0 := if_neg (fun x => x.2 h2)
          omega
        rw [b2_f h']
        simp only [p166_156, p166_157, p166_160, p166_163, p166_164, p166_167, p166_168, p166_171, p166_173, p166_174, p166_175, p166_178, p166_179, p166_182, p166_183, p166_184, p166_187, K_70, K_97, L_97, sh_70_32 S, c1, w1, g0, g1, g2, h2, b2_T, b2_F, Int.reduceEq, Int.reduceLT, Int.reduceLE, Int.reduceAdd, Int.reduceSub, Int.reduceMul, Int.reduceNeg, reduceIte, if_true, if_false, true_or, or_true, false_or, or_false, false_and, and_false, eq_self, not_false_eq_true, not_true_eq_false, true_and, and_true, List.cons_append, List.nil_append, List.append_nil, b2_0, b2_1, b2_01, Classical.not_not]
      · have h' : 0 < sm (rlf g) (n + 1) := by
          have e2 : rlf g n = 1 := if_pos ⟨g1, h2⟩
          omega
        rw [b2_t h']
        simp only [p166_156, p166_157, p166_160, p166_163, p166_164, p166_167, p166_168, p166_171, p166_173, p166_174, p166_175, p166_178, p166_179, p166_182, p166_183, p166_184, p166_187, K_70, K_97, L_97, sh_70_32 S, c1, w1, g0, g1, g2, h2, b2_T, b2_F, Int.reduceEq, Int.reduceLT, Int.reduceLE, Int.reduceAdd, Int.reduceSub, Int.reduceMul, Int.reduceNeg, reduceIte, if_true, if_false, true_or, or_true, false_or, or_false, false_and, and_false, eq_self, not_false_eq_true, not_true_eq_false, true_and, and_true, List.cons_append, List.nil_append, List.append_nil, b2_0, b2_1, b2_01, Classical.not_not]
theorem rlc_b : 0 ≤ rlc g := (sm_b (f := rlf g) rlf_b 96).1
theorem mEnd1 : mEnd (mT1 g) = mEnd g := by
  have e1 : cnt (mT1 g) = cnt g := by
    have e : mT1 g 101 (6 * g 70 45 + 2) = g 101 (6 * g 70 45 + 2) := by
      unfold mT1
      simp only [up_at, Int.add_right_inj, b2_T, b2_F, Int.reduceEq, Int.reduceLT, Int.reduceLE, Int.reduceAdd, Int.reduceSub, Int.reduceMul, Int.reduceNeg, reduceIte, if_true, if_false, true_or, or_true, false_or, or_false, false_and, and_false, eq_self, not_false_eq_true, not_true_eq_false, true_and, and_true, List.cons_append, List.nil_append, List.append_nil, b2_0, b2_1, b2_01, Classical.not_not]
    exact e
  have e2 : rlc (mT1 g) = rlc g := rfl
  unfold mEnd
  rw [e1, e2]
  rfl
theorem e166e (A : GA g y) : WP 166 190 [(2, 70), (0, w), (0, x), (0, b2 (0 < rlc g)), (0, n)] [] (dsB ++ tl) g Q = if mEnd g = -1 then WP 166 11 [(2, 70), (0, w), (0, 1), (0, b2 (0 < rlc g)), (0, -1)] [] (dsB ++ tl) (mNext (mT1 g)) Q else Q (dsB ++ tl) (mStop (mT1 g) (mEnd g)) [] := by
  have S := A.S
  have bk := A.bk
  have nw := A.nw
  have rb := rlc_b (g := g)
  have w1 : w32 (g 70 26 + 1) = g 70 26 + 1 := w32_id (by omega) (by omega)
  have w3 : w32 (6 * g 70 45) = 6 * g 70 45 := w32_id (by omega) (by omega)
  have w4 : w32 (6 * g 70 45 + 1) = 6 * g 70 45 + 1 := w32_id (by omega) (by omega)
  have y0 : 0 ≤ 6 * g 70 45 + 1 := by omega
  have y1 : 6 * g 70 45 + 1 < 18 := by omega
  have y2 : 0 ≤ 6 * g 70 45 := by omega
  have y3 : 6 * g 70 45 < 18 := by omega
  unfold mNext mStop mT1 mEnd
  by_cases h1 : cnt g = 1000
  · simp only [if_pos h1, b2_T, b2_F, Int.reduceEq, Int.reduceLT, Int.reduceLE, Int.reduceAdd, Int.reduceSub, Int.reduceMul, Int.reduceNeg, reduceIte, if_true, if_false, true_or, or_true, false_or, or_false, false_and, and_false, eq_self, not_false_eq_true, not_true_eq_false, true_and, and_true, List.cons_append, List.nil_append, List.append_nil, b2_0, b2_1, b2_01, Classical.not_not]
    simp only [p166_190, p166_191, p166_194, p166_197, p166_198, p166_201, p166_202, p166_205, p166_208, p166_209, p166_212, p166_213, p166_216, p166_217, p166_220, p166_223, p166_226, p166_227, p166_230, p166_231, p166_233, p166_234, p166_237, p166_239, p166_240, p166_243, p166_244, p166_245, p166_246, p166_247, p166_250, p166_251, p166_253, p166_254, p166_257, p166_258, p166_261, p166_262, p166_263, p166_264, p166_267, p166_268, p166_271, p166_273, p166_274, p166_277, p166_278, p166_280, p166_281, p166_282, p166_283, p166_286, p166_287, p166_288, p166_291, p166_11, p166_12, p166_294, K_70, K_72, L_72, K_73, L_73, K_74, L_74, K_75, L_75, K_76, L_76, K_86, L_86, K_87, L_87, K_88, L_88, K_89, L_89, K_90, L_90, K_91, L_91, K_92, L_92, K_93, L_93, K_94, L_94, K_95, L_95, K_96, L_96, K_97, L_97, K_98, L_98, K_99, L_99, K_100, L_100, K_101, L_101, K_102, L_102, K_103, L_103, K_104, L_104, K_105, L_105, K_106, L_106, K_107, L_107, K_108, L_108, K_109, L_109, sh_70_1 S, sh_70_2 S, sh_70_3 S, sh_70_4 S, sh_70_5 S, sh_70_17 S, sh_70_18 S, sh_70_19 S, sh_70_20 S, sh_70_21 S, sh_70_22 S, sh_70_23 S, sh_70_27 S, sh_70_28 S, sh_70_29 S, sh_70_31 S, sh_70_32 S, sh_70_33 S, sh_70_34 S, sh_70_35 S, sh_70_36 S, sh_70_37 S, sh_70_38 S, sh_70_39 S, sh_70_40 S, sh_70_41 S, sh_70_42 S, sh_70_43 S, sh_70_44 S, e164 S bk, b2_t h1, w1, w3, w4, y0, y1, y2, y3, up_at, b2_T, b2_F, Int.reduceEq, Int.reduceLT, Int.reduceLE, Int.reduceAdd, Int.reduceSub, Int.reduceMul, Int.reduceNeg, reduceIte, if_true, if_false, true_or, or_true, false_or, or_false, false_and, and_false, eq_self, not_false_eq_true, not_true_eq_false, true_and, and_true, List.cons_append, List.nil_append, List.append_nil, b2_0, b2_1, b2_01, Classical.not_not]
  · simp only [if_neg h1]
    by_cases h2 : g 70 25 = 0
    · by_cases h3 : rlc g = 0
      · simp only [if_pos (And.intro h2 h3), b2_T, b2_F, Int.reduceEq, Int.reduceLT, Int.reduceLE, Int.reduceAdd, Int.reduceSub, Int.reduceMul, Int.reduceNeg, reduceIte, if_true, if_false, true_or, or_true, false_or, or_false, false_and, and_false, eq_self, not_false_eq_true, not_true_eq_false, true_and, and_true, List.cons_append, List.nil_append, List.append_nil, b2_0, b2_1, b2_01, Classical.not_not]
        have h4 : ¬ 0 < rlc g := by omega
        simp only [p166_190, p166_191, p166_194, p166_197, p166_198, p166_201, p166_202, p166_205, p166_208, p166_209, p166_212, p166_213, p166_216, p166_217, p166_220, p166_223, p166_226, p166_227, p166_230, p166_231, p166_233, p166_234, p166_237, p166_239, p166_240, p166_243, p166_244, p166_245, p166_246, p166_247, p166_250, p166_251, p166_253, p166_254, p166_257, p166_258, p166_261, p166_262, p166_263, p166_264, p166_267, p166_268, p166_271, p166_273, p166_274, p166_277, p166_278, p166_280, p166_281, p166_282, p166_283, p166_286, p166_287, p166_288, p166_291, p166_11, p166_12, p166_294, K_70, K_72, L_72, K_73, L_73, K_74, L_74, K_75, L_75, K_76, L_76, K_86, L_86, K_87, L_87, K_88, L_88, K_89, L_89, K_90, L_90, K_91, L_91, K_92, L_92, K_93, L_93, K_94, L_94, K_95, L_95, K_96, L_96, K_97, L_97, K_98, L_98, K_99, L_99, K_100, L_100, K_101, L_101, K_102, L_102, K_103, L_103, K_104, L_104, K_105, L_105, K_106, L_106, K_107, L_107, K_108, L_108, K_109, L_109, sh_70_1 S, sh_70_2 S, sh_70_3 S, sh_70_4 S, sh_70_5 S, sh_70_17 S, sh_70_18 S, sh_70_19 S, sh_70_20 S, sh_70_21 S, sh_70_22 S, sh_70_23 S, sh_70_27 S, sh_70_28 S, sh_70_29 S, sh_70_31 S, sh_70_32 S, sh_70_33 S, sh_70_34 S, sh_70_35 S, sh_70_36 S, sh_70_37 S, sh_70_38 S, sh_70_39 S, sh_70_40 S, sh_70_41 S, sh_70_42 S, sh_70_43 S, sh_70_44 S, e164 S bk, b2_f h1, b2_f h4, h2, w1, w3, w4, y0, y1, y2, y3, up_at, b2_T, b2_F, Int.reduceEq, Int.reduceLT, Int.reduceLE, Int.reduceAdd, Int.reduceSub, Int.reduceMul, Int.reduceNeg, reduceIte, if_true, if_false, true_or, or_true, false_or, or_false, false_and, and_false, eq_self, not_false_eq_true, not_true_eq_false, true_and, and_true, List.cons_append, List.nil_append, List.append_nil, b2_0, b2_1, b2_01, Classical.not_not]
      · simp only [if_neg (fun x : g 70 25 = 0 ∧ rlc g = 0 => h3 x.2)]
        have h4 : 0 < rlc g := by omega
        by_cases h5 : g 70 26 = 399
        · simp only [if_pos h5, b2_T, b2_F, Int.reduceEq, Int.reduceLT, Int.reduceLE, Int.reduceAdd, Int.reduceSub, Int.reduceMul, Int.reduceNeg, reduceIte, if_true, if_false, true_or, or_true, false_or, or_false, false_and, and_false, eq_self, not_false_eq_true, not_true_eq_false, true_and, and_true, List.cons_append, List.nil_append, List.append_nil, b2_0, b2_1, b2_01, Classical.not_not]
          have w1 : w32 400 = 400 := by decide
          simp only [p166_190, p166_191, p166_194, p166_197, p166_198, p166_201, p166_202, p166_205, p166_208, p166_209, p166_212, p166_213, p166_216, p166_217, p166_220, p166_223, p166_226, p166_227, p166_230, p166_231, p166_233, p166_234, p166_237, p166_239, p166_240, p166_243, p166_244, p166_245, p166_246, p166_247, p166_250, p166_251, p166_253, p166_254, p166_257, p166_258, p166_261, p166_262, p166_263, p166_264, p166_267, p166_268, p166_271, p166_273, p166_274, p166_277, p166_278, p166_280, p166_281, p166_282, p166_283, p166_286, p166_287, p166_288, p166_291, p166_11, p166_12, p166_294, K_70, K_72, L_72, K_73, L_73, K_74, L_74, K_75, L_75, K_76, L_76, K_86, L_86, K_87, L_87, K_88, L_88, K_89, L_89, K_90, L_90, K_91, L_91, K_92, L_92, K_93, L_93, K_94, L_94, K_95, L_95, K_96, L_96, K_97, L_97, K_98, L_98, K_99, L_99, K_100, L_100, K_101, L_101, K_102, L_102, K_103, L_103, K_104, L_104, K_105, L_105, K_106, L_106, K_107, L_107, K_108, L_108, K_109, L_109, sh_70_1 S, sh_70_2 S, sh_70_3 S, sh_70_4 S, sh_70_5 S, sh_70_17 S, sh_70_18 S, sh_70_19 S, sh_70_20 S, sh_70_21 S, sh_70_22 S, sh_70_23 S, sh_70_27 S, sh_70_28 S, sh_70_29 S, sh_70_31 S, sh_70_32 S, sh_70_33 S, sh_70_34 S, sh_70_35 S, sh_70_36 S, sh_70_37 S, sh_70_38 S, sh_70_39 S, sh_70_40 S, sh_70_41 S, sh_70_42 S, sh_70_43 S, sh_70_44 S, e164 S bk, b2_f h1, b2_t h4, h2, h5, w1, w3, w4, y0, y1, y2, y3, up_at, b2_T, b2_F, Int.reduceEq, Int.reduceLT, Int.reduceLE, Int.reduceAdd, Int.reduceSub, Int.reduceMul, Int.reduceNeg, reduceIte, if_true, if_false, true_or, or_true, false_or, or_false, false_and, and_false, eq_self, not_false_eq_true, not_true_eq_false, true_and, and_true, List.cons_append, List.nil_append, List.append_nil, b2_0, b2_1, b2_01, Classical.not_not]
        · simp only [if_neg h5, b2_T, b2_F, Int.reduceEq, Int.reduceLT, Int.reduceLE, Int.reduceAdd, Int.reduceSub, Int.reduceMul, Int.reduceNeg, reduceIte, if_true, if_false, true_or, or_true, false_or, or_false, false_and, and_false, eq_self, not_false_eq_true, not_true_eq_false, true_and, and_true, List.cons_append, List.nil_append, List.append_nil, b2_0, b2_1, b2_01, Classical.not_not]
          simp only [p166_190, p166_191, p166_194, p166_197, p166_198, p166_201, p166_202, p166_205, p166_208, p166_209, p166_212, p166_213, p166_216, p166_217, p166_220, p166_223, p166_226, p166_227, p166_230, p166_231, p166_233, p166_234, p166_237, p166_239, p166_240, p166_243, p166_244, p166_245, p166_246, p166_247, p166_250, p166_251, p166_253, p166_254, p166_257, p166_258, p166_261, p166_262, p166_263, p166_264, p166_267, p166_268, p166_271, p166_273, p166_274, p166_277, p166_278, p166_280, p166_281, p166_282, p166_283, p166_286, p166_287, p166_288, p166_291, K_70, K_72, L_72, K_73, L_73, K_74, L_74, K_75, L_75, K_76, L_76, K_86, L_86, K_87, L_87, K_88, L_88, K_89, L_89, K_90, L_90, K_91, L_91, K_92, L_92, K_93, L_93, K_94, L_94, K_95, L_95, K_96, L_96, K_97, L_97, K_98, L_98, K_99, L_99, K_100, L_100, K_101, L_101, K_102, L_102, K_103, L_103, K_104, L_104, K_105, L_105, K_106, L_106, K_107, L_107, K_108, L_108, K_109, L_109, sh_70_1 S, sh_70_2 S, sh_70_3 S, sh_70_4 S, sh_70_5 S, sh_70_17 S, sh_70_18 S, sh_70_19 S, sh_70_20 S, sh_70_21 S, sh_70_22 S, sh_70_23 S, sh_70_27 S, sh_70_28 S, sh_70_29 S, sh_70_31 S, sh_70_32 S, sh_70_33 S, sh_70_34 S, sh_70_35 S, sh_70_36 S, sh_70_37 S, sh_70_38 S, sh_70_39 S, sh_70_40 S, sh_70_41 S, sh_70_42 S, sh_70_43 S, sh_70_44 S, e164 S bk, b2_f h1, b2_t h4, h2, h5, w1, w3, w4, y0, y1, y2, y3, up_at, b2_T, b2_F, Int.reduceEq, Int.reduceLT, Int.reduceLE, Int.reduceAdd, Int.reduceSub, Int.reduceMul, Int.reduceNeg, reduceIte, if_true, if_false, true_or, or_true, false_or, or_false, false_and, and_false, eq_self, not_false_eq_true, not_true_eq_false, true_and, and_true, List.cons_append, List.nil_append, List.append_nil, b2_0, b2_1, b2_01, Classical.not_not]
    · simp only [if_neg (fun x : g 70 25 = 0 ∧ rlc g = 0 => h2 x.1)]
      by_cases h5 : g 70 26 = 399
      · simp only [if_pos h5, b2_T, b2_F, Int.reduceEq, Int.reduceLT, Int.reduceLE, Int.reduceAdd, Int.reduceSub, Int.reduceMul, Int.reduceNeg, reduceIte, if_true, if_false, true_or, or_true, false_or, or_false, false_and, and_false, eq_self, not_false_eq_true, not_true_eq_false, true_and, and_true, List.cons_append, List.nil_append, List.append_nil, b2_0, b2_1, b2_01, Classical.not_not]
        have w1 : w32 400 = 400 := by decide
        simp only [p166_190, p166_191, p166_194, p166_197, p166_198, p166_201, p166_202, p166_205, p166_208, p166_209, p166_212, p166_213, p166_216, p166_217, p166_220, p166_223, p166_226, p166_227, p166_230, p166_231, p166_233, p166_234, p166_237, p166_239, p166_240, p166_243, p166_244, p166_245, p166_246, p166_247, p166_250, p166_251, p166_253, p166_254, p166_257, p166_258, p166_261, p166_262, p166_263, p166_264, p166_267, p166_268, p166_271, p166_273, p166_274, p166_277, p166_278, p166_280, p166_281, p166_282, p166_283, p166_286, p166_287, p166_288, p166_291, p166_11, p166_12, p166_294, K_70, K_72, L_72, K_73, L_73, K_74, L_74, K_75, L_75, K_76, L_76, K_86, L_86, K_87, L_87, K_88, L_88, K_89, L_89, K_90, L_90, K_91, L_91, K_92, L_92, K_93, L_93, K_94, L_94, K_95, L_95, K_96, L_96, K_97, L_97, K_98, L_98, K_99, L_99, K_100, L_100, K_101, L_101, K_102, L_102, K_103, L_103, K_104, L_104, K_105, L_105, K_106, L_106, K_107, L_107, K_108, L_108, K_109, L_109, sh_70_1 S, sh_70_2 S, sh_70_3 S, sh_70_4 S, sh_70_5 S, sh_70_17 S, sh_70_18 S, sh_70_19 S, sh_70_20 S, sh_70_21 S, sh_70_22 S, sh_70_23 S, sh_70_27 S, sh_70_28 S, sh_70_29 S, sh_70_31 S, sh_70_32 S, sh_70_33 S, sh_70_34 S, sh_70_35 S, sh_70_36 S, sh_70_37 S, sh_70_38 S, sh_70_39 S, sh_70_40 S, sh_70_41 S, sh_70_42 S, sh_70_43 S, sh_70_44 S, e164 S bk, b2_f h1, h2, h5, w1, w3, w4, y0, y1, y2, y3, up_at, b2_T, b2_F, Int.reduceEq, Int.reduceLT, Int.reduceLE, Int.reduceAdd, Int.reduceSub, Int.reduceMul, Int.reduceNeg, reduceIte, if_true, if_false, true_or, or_true, false_or, or_false, false_and, and_false, eq_self, not_false_eq_true, not_true_eq_false, true_and, and_true, List.cons_append, List.nil_append, List.append_nil, b2_0, b2_1, b2_01, Classical.not_not]
      · simp only [if_neg h5, b2_T, b2_F, Int.reduceEq, Int.reduceLT, Int.reduceLE, Int.reduceAdd, Int.reduceSub, Int.reduceMul, Int.reduceNeg, reduceIte, if_true, if_false, true_or, or_true, false_or, or_false, false_and, and_false, eq_self, not_false_eq_true, not_true_eq_false, true_and, and_true, List.cons_append, List.nil_append, List.append_nil, b2_0, b2_1, b2_01, Classical.not_not]
        simp only [p166_190, p166_191, p166_194, p166_197, p166_198, p166_201, p166_202, p166_205, p166_208, p166_209, p166_212, p166_213, p166_216, p166_217, p166_220, p166_223, p166_226, p166_227, p166_230, p166_231, p166_233, p166_234, p166_237, p166_239, p166_240, p166_243, p166_244, p166_245, p166_246, p166_247, p166_250, p166_251, p166_253, p166_254, p166_257, p166_258, p166_261, p166_262, p166_263, p166_264, p166_267, p166_268, p166_271, p166_273, p166_274, p166_277, p166_278, p166_280, p166_281, p166_282, p166_283, p166_286, p166_287, p166_288, p166_291, K_70, K_72, L_72, K_73, L_73, K_74, L_74, K_75, L_75, K_76, L_76, K_86, L_86, K_87, L_87, K_88, L_88, K_89, L_89, K_90, L_90, K_91, L_91, K_92, L_92, K_93, L_93, K_94, L_94, K_95, L_95, K_96, L_96, K_97, L_97, K_98, L_98, K_99, L_99, K_100, L_100, K_101, L_101, K_102, L_102, K_103, L_103, K_104, L_104, K_105, L_105, K_106, L_106, K_107, L_107, K_108, L_108, K_109, L_109, sh_70_1 S, sh_70_2 S, sh_70_3 S, sh_70_4 S, sh_70_5 S, sh_70_17 S, sh_70_18 S, sh_70_19 S, sh_70_20 S, sh_70_21 S, sh_70_22 S, sh_70_23 S, sh_70_27 S, sh_70_28 S, sh_70_29 S, sh_70_31 S, sh_70_32 S, sh_70_33 S, sh_70_34 S, sh_70_35 S, sh_70_36 S, sh_70_37 S, sh_70_38 S, sh_70_39 S, sh_70_40 S, sh_70_41 S, sh_70_42 S, sh_70_43 S, sh_70_44 S, e164 S bk, b2_f h1, h2, h5, w1, w3, w4, y0, y1, y2, y3, up_at, b2_T, b2_F, Int.reduceEq, Int.reduceLT, Int.reduceLE, Int.reduceAdd, Int.reduceSub, Int.reduceMul, Int.reduceNeg, reduceIte, if_true, if_false, true_or, or_true, false_or, or_false, false_and, and_false, eq_self, not_false_eq_true, not_true_eq_false, true_and, and_true, List.cons_append, List.nil_append, List.append_nil, b2_0, b2_1, b2_01, Classical.not_not]
end RUNS
