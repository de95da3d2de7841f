/-! the reference's run: from its beginning to its end -/
section RUNS2
variable {tl : Ds} {m g : Mm} {Q : Ds → Mm → List MV → Prop} {n x w z y : Int}
theorem GI_t1 (a : GI g) : GI (mT1 g) := by
  have A := a.a
  have e1 : ∀ j, ¬ j = 1 → mT1 g 101 (6 * g 70 45 + j) = g 101 (6 * g 70 45 + j) := fun j h => by
    unfold mT1
    simp only [up_at, Int.add_right_inj, h, b2_T, b2_F, Int.reduceEq, Int.reduceLT, Int.reduceLE, Int.reduceAdd, Int.reduceSub, Int.reduceMul, Int.reduceNeg, reduceIte, if_true, if_false, true_or, or_true, false_or, or_false, false_and, and_false, eq_self, not_false_eq_true, not_true_eq_false, true_and, and_true, List.cons_append, List.nil_append, List.append_nil, b2_0, b2_1, b2_01, Classical.not_not]
  have ec : cnt (mT1 g) = cnt g := e1 2 (by decide)
  refine ⟨by rw [ec]; exact a.cn, ?_, ?_⟩
  · rw [ec]
    refine ⟨Sh_ar A.S (by decide), PV_cg A.p (fun j => rfl) (fun j => rfl) (fun j => rfl) (fun j => rfl) (fun j => rfl), A.bk, A.nw, A.tm, A.rg, A.hs, ?_, ?_, A.bm, A.on, A.at', A.nd, A.fs, A.lg⟩
    · exact (e1 4 (by decide)).symm ▸ A.rc
    · exact (e1 3 (by decide)).symm ▸ A.lc
  · rw [ec]
    exact a.q
theorem GI_next (a : GI g) (h : g 70 26 < 399) : GI (mNext g) := by
  have A := a.a
  have nw := A.nw
  refine ⟨a.cn, ⟨Sh_si A.S (by decide), PV_cg A.p (fun j => rfl) (fun j => rfl) (fun j => rfl) (fun j => rfl) (fun j => rfl), A.bk, ?_, A.tm, A.rg, A.hs, A.rc, A.lc, A.bm, A.on, A.at', A.nd, A.fs, A.lg⟩, a.q⟩
  show 0 ≤ up g 70 26 (g 70 26 + 1) 70 26 ∧ up g 70 26 (g 70 26 + 1) 70 26 < 400
  simp only [up_at, b2_T, b2_F, Int.reduceEq, Int.reduceLT, Int.reduceLE, Int.reduceAdd, Int.reduceSub, Int.reduceMul, Int.reduceNeg, reduceIte, if_true, if_false, true_or, or_true, false_or, or_false, false_and, and_false, eq_self, not_false_eq_true, not_true_eq_false, true_and, and_true, List.cons_append, List.nil_append, List.append_nil, b2_0, b2_1, b2_01, Classical.not_not]
  omega
theorem tick_i (a : GI g) (w : -(cnt g) ≤ g 70 25) : (GI (mTick g) ∧ -(cnt (mTick g)) ≤ mTick g 70 25) ∧ mTick g 70 26 = g 70 26 := by
  have nw := a.a.nw
  have t0 := TI_was a w
  have fs := a.a.fs (g 70 26) nw.1 (by omega)
  have t1 := TI_setL 1001 (mWas g (g 70 30)) (g 91 (g 70 26)) t0 fs
  have t2 := TI_rollL 97 _ 0 t1.1 (Int.le_refl _)
  exact ⟨t2.1, t2.2.trans t1.2⟩
theorem step_i (a : GI g) (w : -(cnt g) ≤ g 70 25) : (GI (mStep g) ∧ -(cnt (mStep g)) ≤ mStep g 70 25) ∧ mStep g 70 26 = g 70 26 := by
  have t := tick_i a w
  have e1 : mStep g = mT1 (mTick g) := rfl
  rw [e1]
  have a1 := GI_t1 t.1.1
  refine ⟨⟨a1, ?_⟩, t.2⟩
  have ec : cnt (mT1 (mTick g)) = cnt (mTick g) := by
    have e : mT1 (mTick g) 101 (6 * mTick g 70 45 + 2) = mTick g 101 (6 * mTick g 70 45 + 2) := by
      unfold mT1
      simp only [up_at, Int.add_right_inj, b2_T, b2_F, Int.reduceEq, Int.reduceLT, Int.reduceLE, Int.reduceAdd, Int.reduceSub, Int.reduceMul, Int.reduceNeg, reduceIte, if_true, if_false, true_or, or_true, false_or, or_false, false_and, and_false, eq_self, not_false_eq_true, not_true_eq_false, true_and, and_true, List.cons_append, List.nil_append, List.append_nil, b2_0, b2_1, b2_01, Classical.not_not]
    exact e
  rw [ec]
  exact t.1.2
theorem mEnd_now (h : mEnd g = -1) (nw : g 70 26 < 400) : g 70 26 < 399 := by
  unfold mEnd at h
  repeat' split at h
  all_goals omega
theorem mLoop_s (f : Nat) : mLoop (f + 1) g = if mEnd (mStep g) = -1 then mLoop f (mNext (mStep g)) else mStop (mStep g) (mEnd (mStep g)) := rfl
theorem e166l {q3 q4 : MV} : ∀ (f : Nat) (g : Mm) (q3 q4 : MV), GI g → -(cnt g) ≤ g 70 25 → g 70 26 + f = 400 → q3.1 = 0 ∨ q3.1 = 3 → WP 166 11 [(2, 70), (0, w), (0, 1), q3, q4] [] (dsB ++ tl) g Q = Q (dsB ++ tl) (mLoop f g) [] := by
  intro f
  induction f with
  | zero =>
    intro g q3 q4 a hw hf _
    have nw := a.a.nw
    omega
  | succ f ih =>
    intro g q3 q4 a hw hf _
    have A := a.a
    have nw := A.nw
    have bm := A.bm
    have t0 := TI_was a hw
    have fs := A.fs (g 70 26) nw.1 (by omega)
    have t1 := TI_setL 1001 (mWas g (g 70 30)) (g 91 (g 70 26)) t0 fs
    have t2 := TI_rollL 97 _ 0 t1.1 (Int.le_refl _)
    have tk := tick_i a hw
    have sp := step_i a hw
    have z2 : mWas g (0 : Nat) = g := by
      apply fx
      intro a j
      unfold mWas
      rw [if_neg (by omega)]
    have h1 : WP 166 11 [(2, 70), (0, w), (0, 1), q3, q4] [] (dsB ++ tl) g Q = WP 166 20 [(2, 70), (0, w), (0, 1), (0, 0), (0, ((0 : Nat) : Int))] [] (dsB ++ tl) (mWas g (0 : Nat)) Q := by
      rw [z2]
      simp only [p166_11, p166_12, p166_15, p166_16, p166_17, p166_18, b2_T, b2_F, Int.reduceEq, Int.reduceLT, Int.reduceLE, Int.reduceAdd, Int.reduceSub, Int.reduceMul, Int.reduceNeg, reduceIte, if_true, if_false, true_or, or_true, false_or, or_false, false_and, and_false, eq_self, not_false_eq_true, not_true_eq_false, true_and, and_true, List.cons_append, List.nil_append, List.append_nil, b2_0, b2_1, b2_01, Classical.not_not]
      rfl
    have cn := t0.a.cn
    rw [h1, e166w A.S bm nw (g 70 30).toNat 0 (by omega), e166s 1001 (mWas g (g 70 30)) (g 91 (g 70 26)) t0 fs (by omega), e166r 97 _ 0 t1.1 (Int.le_refl _) (by omega)]
    have h2 : WP 166 154 [(2, 70), (0, w), (0, 1), (0, 0), (0, 0)] [] (dsB ++ tl) (mTick g) Q = WP 166 190 [(2, 70), (0, w), (0, 1), (0, b2 (0 < rlc (mTick g))), (0, mTick g 70 30)] [] (dsB ++ tl) (mTick g) Q := by
      have h := e166g (tl := tl) (Q := Q) (q1 := (0, w)) (x := 1) tk.1.1.a (mTick g 70 30).toNat 0 (by have := tk.1.1.a.bm; omega)
      have e : sm (rlf (mTick g)) 0 = 0 := rfl
      rw [e] at h
      exact h
    show WP 166 154 [(2, 70), (0, w), (0, 1), (0, 0), (0, 0)] [] (dsB ++ tl) (mTick g) Q = _
    rw [h2, e166e tk.1.1.a, mLoop_s]
    have e1 : mStep g = mT1 (mTick g) := rfl
    have e2 : mEnd (mTick g) = mEnd (mStep g) := by rw [e1, mEnd1]
    rw [e2, ← e1]
    by_cases h3 : mEnd (mStep g) = -1
    · rw [if_pos h3, if_pos h3]
      have nw2 := mEnd_now h3 sp.1.1.a.nw.2
      have e4 : mNext (mStep g) 70 26 = mStep g 70 26 + 1 := by
        unfold mNext
        simp only [up_at, b2_T, b2_F, Int.reduceEq, Int.reduceLT, Int.reduceLE, Int.reduceAdd, Int.reduceSub, Int.reduceMul, Int.reduceNeg, reduceIte, if_true, if_false, true_or, or_true, false_or, or_false, false_and, and_false, eq_self, not_false_eq_true, not_true_eq_false, true_and, and_true, List.cons_append, List.nil_append, List.append_nil, b2_0, b2_1, b2_01, Classical.not_not]
      exact ih _ _ _ (GI_next sp.1.1 nw2) sp.1.2 (by rw [e4, sp.2]; omega) (Or.inl rfl)
    · rw [if_neg h3, if_neg h3]
/-- what a run leaves -/
theorem mLoop_e : ∀ (f : Nat) (g : Mm), GI g → -(cnt g) ≤ g 70 25 → g 70 26 + f = 400 → ∃ t, mLoop f g = mStop t (mEnd t) ∧ GI t ∧ ¬ mEnd t = -1 := by
  intro f
  induction f with
  | zero =>
    intro g a hw hf
    have nw := a.a.nw
    omega
  | succ f ih =>
    intro g a hw hf
    have sp := step_i a hw
    rw [mLoop_s]
    by_cases h3 : mEnd (mStep g) = -1
    · rw [if_pos h3]
      have nw2 := mEnd_now h3 sp.1.1.a.nw.2
      have e4 : mNext (mStep g) 70 26 = mStep g 70 26 + 1 := by
        unfold mNext
        simp only [up_at, b2_T, b2_F, Int.reduceEq, Int.reduceLT, Int.reduceLE, Int.reduceAdd, Int.reduceSub, Int.reduceMul, Int.reduceNeg, reduceIte, if_true, if_false, true_or, or_true, false_or, or_false, false_and, and_false, eq_self, not_false_eq_true, not_true_eq_false, true_and, and_true, List.cons_append, List.nil_append, List.append_nil, b2_0, b2_1, b2_01, Classical.not_not]
      exact ih _ (GI_next sp.1.1 nw2) sp.1.2 (by rw [e4, sp.2]; omega)
    · rw [if_neg h3]
      exact ⟨mStep g, rfl, sp.1.1, h3⟩
theorem e166 (S : Sh m) (p : PV m) (v : SV m) (hw : 0 ≤ w ∧ w ≤ 2) : WP 166 0 [(2, 70), (0, w), (3, 0), (3, 0), (3, 0)] [] (dsB ++ tl) m Q = Q (dsB ++ tl) (mRuns m w) [] := by
  have S1 : Sh (up m 70 45 w) := Sh_si S (by decide)
  have p1 : PV (up m 70 45 w) := PV_cg p (fun j => rfl) (fun j => rfl) (fun j => rfl) (fun j => rfl) (fun j => rfl)
  have v1 : SV (up m 70 45 w) := ⟨v.n, v.v⟩
  have e45 : up m 70 45 w 70 45 = w := by simp only [up_at, b2_T, b2_F, Int.reduceEq, Int.reduceLT, Int.reduceLE, Int.reduceAdd, Int.reduceSub, Int.reduceMul, Int.reduceNeg, reduceIte, if_true, if_false, true_or, or_true, false_or, or_false, false_and, and_false, eq_self, not_false_eq_true, not_true_eq_false, true_and, and_true, List.cons_append, List.nil_append, List.append_nil, b2_0, b2_1, b2_01, Classical.not_not]
  have bk : 0 ≤ up m 70 45 w 70 45 ∧ up m 70 45 w 70 45 ≤ 2 := by rw [e45]; exact hw
  have gb := GI_begin S1 p1 v1 bk
  have h1 : ∀ (Q : Ds → Mm → List MV → Prop), WP 163 0 [(2, 70), (3, 0)] [] (dsB ++ tl) (up m 70 45 w) Q = Q (dsB ++ tl) (mBegin (up m 70 45 w)) [] := fun Q => e163 S1 p1 v1 bk
  simp only [p166_0, p166_1, p166_2, p166_5, p166_6, p166_9, p166_10, K_70, h1, b2_T, b2_F, Int.reduceEq, Int.reduceLT, Int.reduceLE, Int.reduceAdd, Int.reduceSub, Int.reduceMul, Int.reduceNeg, reduceIte, if_true, if_false, true_or, or_true, false_or, or_false, false_and, and_false, eq_self, not_false_eq_true, not_true_eq_false, true_and, and_true, List.cons_append, List.nil_append, List.append_nil, b2_0, b2_1, b2_01, Classical.not_not]
  unfold mRuns
  exact e166l (q3 := (3, 0)) (q4 := (3, 0)) 400 _ _ _ gb.1 (by rw [gb.2.2.1]; have := gb.2.1; omega) (by rw [gb.2.2.2]; rfl) (Or.inr rfl)
end RUNS2
