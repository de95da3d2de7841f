/-! the reference's run: a tick -/
def mWas (g : Mm) (t : Int) : Mm := fun a j => if a = 100 ∧ 0 ≤ j ∧ j < t then (if g 97 j = -1 then 0 else 1) else g a j
def mDec (g : Mm) : Mm := up g 70 25 (g 70 25 - 1)
def mSet1 (g : Mm) (k : Int) : Mm := mDoes (mDec g) k
def mSetL : Nat → Mm → Int → Mm
  | 0, g, _ => g
  | f + 1, g, k => if k = -1 ∨ cnt g = 1000 then g else mSetL f (mSet1 g k) (mSet1 g k 90 k)
def mRollL : Nat → Mm → Int → Mm
  | 0, g, _ => g
  | f + 1, g, n => if n < g 70 30 ∧ ¬ cnt g = 1000 then mRollL f (if g 100 n = 0 then g else mRoll g n) (n + 1) else g
def rlf (g : Mm) (n : Int) : Int := if n < g 70 30 ∧ ¬ g 97 n = -1 then 1 else 0
def rlc (g : Mm) : Int := sm (rlf g) 96
def mEnd (g : Mm) : Int := if cnt g = 1000 then 2 else if g 70 25 = 0 ∧ rlc g = 0 then 0 else if g 70 26 = 399 then 1 else -1
def mTick (g : Mm) : Mm := mRollL 97 (mSetL 1001 (mWas g (g 70 30)) (g 91 (g 70 26))) 0
def mStep (g : Mm) : Mm := up (mTick g) 101 (6 * mTick g 70 45 + 1) (mTick g 70 26)
def mNext (g : Mm) : Mm := up g 70 26 (g 70 26 + 1)
def mStop (g : Mm) (e : Int) : Mm := up (up g 101 (6 * g 70 45) e) 70 26 (g 70 26 + 1)
def mLoop : Nat → Mm → Mm
  | 0, g => g
  | f + 1, g => if mEnd (mStep g) = -1 then mLoop f (mNext (mStep g)) else mStop (mStep g) (mEnd (mStep g))
def mRuns (g : Mm) (w : Int) : Mm := mLoop 400 (mBegin (up g 70 45 w))
/-- within a tick: bounds, the waiting ones, the balls that were rolling -/
abbrev TI (g : Mm) (n : Int) : Prop := (GI g) ∧ (-(cnt g) ≤ g 70 25) ∧ (∀ j, n ≤ j → j < g 70 30 → ¬ g 100 j = 0 → ¬ g 97 j = -1)
theorem TI.a {g : Mm} {n : Int} (x : TI g n) : GI g := x.1
theorem TI.w {g : Mm} {n : Int} (x : TI g n) : -(cnt g) ≤ g 70 25 := x.2.1
theorem TI.r {g : Mm} {n : Int} (x : TI g n) : ∀ j, n ≤ j → j < g 70 30 → ¬ g 100 j = 0 → ¬ g 97 j = -1 := x.2.2
section TICK
variable {tl : Ds} {m g : Mm} {Q : Ds → Mm → List MV → Prop} {c s i b k u j n x : Int}
theorem strike_f (h1 : ¬ x = 86) (h2 : ¬ x = 87) (h3 : ¬ x = 88) (h4 : ¬ x = 89) (h5 : ¬ x = 90) (h6 : ¬ x = 91) (h7 : ¬ x = 92) (h8 : ¬ x = 70) (h9 : ¬ x = 94) (ha : ¬ x = 103) (hb : ¬ x = 104) (hc : ¬ x = 105) (hd : ¬ x = 101) (he : ¬ x = 93) (hf : ¬ x = 97) (hg : ¬ x = 98) (hh : ¬ x = 99) (hi : ¬ x = 102) (hj : ¬ x = 106) (hk : ¬ x = 109) : mStrike g c s k u x j = g x j := by
  unfold mStrike mHit
  split
  · rw [off_f hf hg hh, told_f hi hd hj hk]
  · split
    · rw [told_f hi hd hj hk]
    · rw [work_f h1 h2 h3 h4 h5 h6 h7 h8 h9 ha hb hc hd]
      unfold mTm
      rw [up_at, if_neg (fun y => he y.1), told_f hi hd hj hk]
theorem strike_70 (h1 : ¬ j = 24) (h2 : ¬ j = 25) : mStrike g c s k u 70 j = g 70 j := by
  unfold mStrike mHit
  split
  · rw [off_f (by decide) (by decide) (by decide), told_f (by decide) (by decide) (by decide) (by decide)]
  · split
    · rw [told_f (by decide) (by decide) (by decide) (by decide)]
    · rw [work_70 h1 h2, told_f (by decide) (by decide) (by decide) (by decide)]
theorem sp1_25 : g 70 25 ≤ mSp1 g c s i u 70 25 := by
  unfold mSp1
  split
  · exact Int.le_refl _
  · rw [add_25]
    split <;> omega
theorem work_25 : g 70 25 ≤ mWork g c s i 70 25 := by
  have h1 : ∀ h : Mm, ∀ t c s k r, h 70 25 = g 70 25 → g 70 25 ≤ mAdd h t c s k r 70 25 := by
    intro h t c s k r e
    rw [add_25]
    split <;> omega
  have h2 : ∀ h : Mm, ∀ t, h 70 25 = g 70 25 → g 70 25 ≤ mRing h t i 70 25 := by
    intro h t e
    rw [ring_f (by decide) (by decide) (by decide) (by decide), e]
    exact Int.le_refl _
  have h3 : g 70 25 ≤ mSpl (mTm g c) c s i 70 25 := by
    unfold mSpl
    have e1 := sp1_25 (g := mTm g c) (c := c) (s := s) (i := i) (u := 0)
    have e2 := sp1_25 (g := mSp1 (mTm g c) c s i 0) (c := c) (s := s) (i := i) (u := 1)
    have e3 := sp1_25 (g := mSp1 (mSp1 (mTm g c) c s i 0) c s i 1) (c := c) (s := s) (i := i) (u := 2)
    have e4 := sp1_25 (g := mSp1 (mSp1 (mSp1 (mTm g c) c s i 0) c s i 1) c s i 2) (c := c) (s := s) (i := i) (u := 3)
    exact Int.le_trans (Int.le_trans (Int.le_trans e1 e2) e3) e4
  unfold mWork mLead
  repeat' split
  all_goals first | exact h1 _ _ _ _ _ _ rfl | exact h2 _ _ rfl | exact h3 | exact Int.le_refl _
theorem strike_25 : g 70 25 ≤ mStrike g c s k u 70 25 := by
  unfold mStrike mHit
  split
  · rw [off_f (by decide) (by decide) (by decide), told_f (by decide) (by decide) (by decide) (by decide)]
    exact Int.le_refl _
  · split
    · rw [told_f (by decide) (by decide) (by decide) (by decide)]
      exact Int.le_refl _
    · have h := work_25 (g := mTold g c s k u) (c := c) (s := s) (i := cnt g)
      rw [told_f (by decide) (by decide) (by decide) (by decide)] at h
      exact h
theorem add_24 {t c s k r : Int} : mAdd g t c s k r 70 24 = if c = -1 then g 70 24 else g 70 24 + 1 := by
  unfold mAdd
  split
  · rfl
  · try dsimp only
    split <;> simp only [up_at, b2_T, b2_F, Int.reduceEq, Int.reduceLT, Int.reduceLE, Int.reduceAdd, Int.reduceSub, Int.reduceMul, Int.reduceNeg, reduceIte, if_true, if_false, true_or, or_true, false_or, or_false, false_and, and_false, eq_self, not_false_eq_true, not_true_eq_false, true_and, and_true, List.cons_append, List.nil_append, List.append_nil, b2_0, b2_1, b2_01, Classical.not_not]
theorem sp1_24 : g 70 24 ≤ mSp1 g c s i u 70 24 := by
  unfold mSp1
  split
  · exact Int.le_refl _
  · rw [add_24]
    split <;> omega
theorem work_24 : g 70 24 ≤ mWork g c s i 70 24 := by
  have h1 : ∀ h : Mm, ∀ t c s k r, h 70 24 = g 70 24 → g 70 24 ≤ mAdd h t c s k r 70 24 := by
    intro h t c s k r e
    rw [add_24]
    split <;> omega
  have h2 : ∀ h : Mm, ∀ t, h 70 24 = g 70 24 → g 70 24 ≤ mRing h t i 70 24 := by
    intro h t e
    rw [ring_f (by decide) (by decide) (by decide) (by decide), e]
    exact Int.le_refl _
  have h3 : g 70 24 ≤ mSpl (mTm g c) c s i 70 24 := by
    unfold mSpl
    have e1 := sp1_24 (g := mTm g c) (c := c) (s := s) (i := i) (u := 0)
    have e2 := sp1_24 (g := mSp1 (mTm g c) c s i 0) (c := c) (s := s) (i := i) (u := 1)
    have e3 := sp1_24 (g := mSp1 (mSp1 (mTm g c) c s i 0) c s i 1) (c := c) (s := s) (i := i) (u := 2)
    have e4 := sp1_24 (g := mSp1 (mSp1 (mSp1 (mTm g c) c s i 0) c s i 1) c s i 2) (c := c) (s := s) (i := i) (u := 3)
    exact Int.le_trans (Int.le_trans (Int.le_trans e1 e2) e3) e4
  unfold mWork mLead
  repeat' split
  all_goals first | exact h1 _ _ _ _ _ _ rfl | exact h2 _ _ rfl | exact h3 | exact Int.le_refl _
theorem strike_24 : g 70 24 ≤ mStrike g c s k u 70 24 := by
  unfold mStrike mHit
  split
  · rw [off_f (by decide) (by decide) (by decide), told_f (by decide) (by decide) (by decide) (by decide)]
    exact Int.le_refl _
  · split
    · rw [told_f (by decide) (by decide) (by decide) (by decide)]
      exact Int.le_refl _
    · have h := work_24 (g := mTold g c s k u) (c := c) (s := s) (i := cnt g)
      rw [told_f (by decide) (by decide) (by decide) (by decide)] at h
      exact h
theorem strike_n : cnt (mStrike g c s k u) = cnt g + 1 := by
  unfold mStrike mHit
  have e := told_n (g := g) (c := c) (s := s) (k := k) (u := u)
  split
  · unfold cnt at e ⊢
    rw [off_f (by decide) (by decide) (by decide), off_f (by decide) (by decide) (by decide)]
    exact e
  · split
    · exact e
    · rw [work_cnt]
      exact e
theorem strike_97 (h : ¬ g 97 j = -1) : ¬ mStrike g c s k u 97 j = -1 := by
  have e : mTold g c s k u 97 j = g 97 j := told_f (by decide) (by decide) (by decide) (by decide)
  unfold mStrike mHit
  split
  · unfold mOff
    split
    · rename_i h2
      simp only [up_at, b2_T, b2_F, Int.reduceEq, Int.reduceLT, Int.reduceLE, Int.reduceAdd, Int.reduceSub, Int.reduceMul, Int.reduceNeg, reduceIte, if_true, if_false, true_or, or_true, false_or, or_false, false_and, and_false, eq_self, not_false_eq_true, not_true_eq_false, true_and, and_true, List.cons_append, List.nil_append, List.append_nil, b2_0, b2_1, b2_01, Classical.not_not]
      split
      · have := opp_s (s := s)
        have := this.1
        omega
      · rw [e]; exact h
    · rw [e]; exact h
  · split
    · rw [e]; exact h
    · rw [work_f (by decide) (by decide) (by decide) (by decide) (by decide) (by decide) (by decide) (by decide) (by decide) (by decide) (by decide) (by decide) (by decide)]
      show ¬ mTold g c s k u 97 j = -1
      rw [e]; exact h
theorem strike_100 : mStrike g c s k u 100 j = g 100 j := strike_f (by decide) (by decide) (by decide) (by decide) (by decide) (by decide) (by decide) (by decide) (by decide) (by decide) (by decide) (by decide) (by decide) (by decide) (by decide) (by decide) (by decide) (by decide) (by decide) (by decide)
theorem GI_dec (a : GI g) (w : -1999 ≤ g 70 25) : GI (mDec g) := by
  have A := a.a
  have q := a.q
  refine ⟨a.cn, ⟨Sh_si A.S (by decide), PV_cg A.p (fun j => rfl) (fun j => rfl) (fun j => rfl) (fun j => rfl) (fun j => rfl), A.bk, A.nw, A.tm, A.rg, A.hs, A.rc, A.lc, A.bm, A.on, A.at', A.nd, A.fs, A.lg⟩, ⟨q.1, ?_, q.2.2⟩⟩
  have e : mDec g 70 25 = g 70 25 - 1 := by
    unfold mDec
    simp only [up_at, b2_T, b2_F, Int.reduceEq, Int.reduceLT, Int.reduceLE, Int.reduceAdd, Int.reduceSub, Int.reduceMul, Int.reduceNeg, reduceIte, if_true, if_false, true_or, or_true, false_or, or_false, false_and, and_false, eq_self, not_false_eq_true, not_true_eq_false, true_and, and_true, List.cons_append, List.nil_append, List.append_nil, b2_0, b2_1, b2_01, Classical.not_not]
  have e2 : nsp (mDec g) = nsp g := rfl
  have e3 : cnt (mDec g) = cnt g := rfl
  rw [e, e2, e3]
  have := q.2.1
  omega
theorem TI_set1 (t : TI g n) (hn : cnt g < 1000) (hk : 0 ≤ k ∧ k < g 70 24) : TI (mSet1 g k) n ∧ cnt (mSet1 g k) = cnt g + 1 ∧ mSet1 g k 70 26 = g 70 26 := by
  have w := t.w
  have cn := t.a.cn
  have a1 : GI (mDec g) := GI_dec t.a (by omega)
  have e1 : cnt (mDec g) = cnt g := rfl
  have e2 : cnt (mSet1 g k) = cnt g + 1 := strike_n
  have e3 : mDec g 70 25 = g 70 25 - 1 := by
    unfold mDec
    simp only [up_at, b2_T, b2_F, Int.reduceEq, Int.reduceLT, Int.reduceLE, Int.reduceAdd, Int.reduceSub, Int.reduceMul, Int.reduceNeg, reduceIte, if_true, if_false, true_or, or_true, false_or, or_false, false_and, and_false, eq_self, not_false_eq_true, not_true_eq_false, true_and, and_true, List.cons_append, List.nil_append, List.append_nil, b2_0, b2_1, b2_01, Classical.not_not]
  have e4 : mDec g 70 25 ≤ mSet1 g k 70 25 := strike_25
  refine ⟨⟨GI_does a1 hn hk, ?_, ?_⟩, e2, ?_⟩
  · rw [e2]; omega
  · intro j j0 j1 j2
    have e5 : mSet1 g k 70 30 = g 70 30 := strike_70 (by decide) (by decide)
    rw [e5] at j1
    have e6 : mSet1 g k 100 j = g 100 j := strike_100
    rw [e6] at j2
    exact strike_97 (g := mDec g) (t.r j j0 j1 j2)
  · exact strike_70 (by decide) (by decide)
theorem set1_nx (t : TI g n) (hn : cnt g < 1000) (hk : 0 ≤ k ∧ k < g 70 24) : mSet1 g k 90 k = -1 ∨ (0 ≤ mSet1 g k 90 k ∧ mSet1 g k 90 k < mSet1 g k 70 24) := by
  have w := t.w
  have cn := t.a.cn
  have a := (TI_set1 t hn hk).1.a.a
  have h24 : g 70 24 ≤ mSet1 g k 70 24 := strike_24 (g := mDec g)
  exact (a.nd k hk.1 (by omega)).2.2.2
theorem TI_setL : ∀ (f : Nat) (g : Mm) (k : Int), TI g n → (k = -1 ∨ (0 ≤ k ∧ k < g 70 24)) → TI (mSetL f g k) n ∧ mSetL f g k 70 26 = g 70 26 := by
  intro f
  induction f with
  | zero => exact fun g k t _ => ⟨t, rfl⟩
  | succ f ih =>
    intro g k t hk
    have cn := t.a.cn
    show TI (if k = -1 ∨ cnt g = 1000 then g else mSetL f (mSet1 g k) (mSet1 g k 90 k)) n ∧ (if k = -1 ∨ cnt g = 1000 then g else mSetL f (mSet1 g k) (mSet1 g k 90 k)) 70 26 = g 70 26
    by_cases h : k = -1 ∨ cnt g = 1000
    · rw [if_pos h]
      exact ⟨t, rfl⟩
    · rw [if_neg h]
      have h1 : 0 ≤ k ∧ k < g 70 24 := by omega
      have h2 : cnt g < 1000 := by omega
      have t1 := TI_set1 t h2 h1
      have i1 := ih _ _ t1.1 (set1_nx t h2 h1)
      exact ⟨i1.1, i1.2.trans t1.2.2⟩
theorem e164 (S : Sh m) (bk : 0 ≤ m 70 45 ∧ m 70 45 ≤ 2) : WP 164 0 [(2, 70)] [] (dsB ++ tl) m Q = Q (dsB ++ tl) m [(0, b2 (cnt m = 1000))] := by
  have w3 : w32 (6 * m 70 45) = 6 * m 70 45 := w32_id (by omega) (by omega)
  have w4 : w32 (6 * m 70 45 + 2) = 6 * m 70 45 + 2 := w32_id (by omega) (by omega)
  have y0 : 0 ≤ 6 * m 70 45 + 2 := by omega
  have y1 : 6 * m 70 45 + 2 < 18 := by omega
  unfold cnt
  simp only [p164_0, p164_1, p164_4, p164_6, p164_7, p164_10, p164_11, p164_12, p164_13, p164_14, p164_17, p164_20, p164_21, p164_24, p164_25, K_70, K_72, L_72, K_73, L_73, K_74, L_74, K_75, L_75, K_76, L_76, K_86, L_86, K_87, L_87, K_88, L_88, K_89, L_89, K_90, L_90, K_91, L_91, K_92, L_92, K_93, L_93, K_94, L_94, K_95, L_95, K_96, L_96, K_97, L_97, K_98, L_98, K_99, L_99, K_100, L_100, K_101, L_101, K_102, L_102, K_103, L_103, K_104, L_104, K_105, L_105, K_106, L_106, K_107, L_107, K_108, L_108, K_109, L_109, sh_70_1 S, sh_70_2 S, sh_70_3 S, sh_70_4 S, sh_70_5 S, sh_70_17 S, sh_70_18 S, sh_70_19 S, sh_70_20 S, sh_70_21 S, sh_70_22 S, sh_70_23 S, sh_70_27 S, sh_70_28 S, sh_70_29 S, sh_70_31 S, sh_70_32 S, sh_70_33 S, sh_70_34 S, sh_70_35 S, sh_70_36 S, sh_70_37 S, sh_70_38 S, sh_70_39 S, sh_70_40 S, sh_70_41 S, sh_70_42 S, sh_70_43 S, sh_70_44 S, w3, w4, y0, y1, b2_T, b2_F, Int.reduceEq, Int.reduceLT, Int.reduceLE, Int.reduceAdd, Int.reduceSub, Int.reduceMul, Int.reduceNeg, reduceIte, if_true, if_false, true_or, or_true, false_or, or_false, false_and, and_false, eq_self, not_false_eq_true, not_true_eq_false, true_and, and_true, List.cons_append, List.nil_append, List.append_nil, b2_0, b2_1, b2_01, Classical.not_not]
  repeat' split
  all_goals first | rfl | (exfalso; omega) | exact q_eq (b2_t (by omega)).symm | exact q_eq (b2_f (by omega)).symm | exact q_eq (b2_cg (by omega)) | exact q_eq (by omega)
theorem e166s {z : Int} {q1 q2 : MV} : ∀ (f : Nat) (g : Mm) (k : Int), TI g n → (k = -1 ∨ (0 ≤ k ∧ k < g 70 24)) → 1000 - cnt g < f → WP 166 69 [(2, 70), q1, q2, (0, z), (0, k)] [] (dsB ++ tl) g Q = WP 166 113 [(2, 70), q1, q2, (0, z), (0, 0)] [] (dsB ++ tl) (mSetL f g k) Q := by
  intro f
  induction f with
  | zero =>
    intro g k t hk hf
    have cn := t.a.cn
    omega
  | succ f ih =>
    intro g k t hk hf
    have cn := t.a.cn
    have A := t.a.a
    have S := A.S
    have w := t.w
    have wq := t.a.q.2.1
    have nb := nsp_b (g := g)
    show _ = WP 166 113 [(2, 70), q1, q2, (0, z), (0, 0)] [] (dsB ++ tl) (if k = -1 ∨ cnt g = 1000 then g else mSetL f (mSet1 g k) (mSet1 g k 90 k)) Q
    rw [p166_69]
    by_cases h1 : k = -1
    · rw [if_pos (Or.inl h1)]
      simp only [p166_71, p166_72, p166_110, p166_111, h1, b2_T, b2_F, Int.reduceEq, Int.reduceLT, Int.reduceLE, Int.reduceAdd, Int.reduceSub, Int.reduceMul, Int.reduceNeg, reduceIte, if_true, if_false, true_or, or_true, false_or, or_false, false_and, and_false, eq_self, not_false_eq_true, not_true_eq_false, true_and, and_true, List.cons_append, List.nil_append, List.append_nil, b2_0, b2_1, b2_01, Classical.not_not]
    · by_cases h2 : cnt g = 1000
      · rw [if_pos (Or.inr h2)]
        simp only [p166_71, p166_72, p166_75, p166_76, p166_79, p166_110, p166_111, h1, K_70, e164 S A.bk, b2_t h2, b2_T, b2_F, Int.reduceEq, Int.reduceLT, Int.reduceLE, Int.reduceAdd, Int.reduceSub, Int.reduceMul, Int.reduceNeg, reduceIte, if_true, if_false, true_or, or_true, false_or, or_false, false_and, and_false, eq_self, not_false_eq_true, not_true_eq_false, true_and, and_true, List.cons_append, List.nil_append, List.append_nil, b2_0, b2_1, b2_01, Classical.not_not]
      · rw [if_neg (fun x => x.elim h1 h2)]
        have h3 : 0 ≤ k ∧ k < g 70 24 := by omega
        have h4 : cnt g < 1000 := by omega
        have t1 := TI_set1 t h4 h3
        have i1 := ih _ _ t1.1 (set1_nx t h4 h3) (by rw [t1.2.1]; omega)
        have S1 := t1.1.a.a.S
        have g0 := h3.1
        have g1 : k < 2000 := by have := t.a.q.1; omega
        have w1 : w32 (g 70 25 - 1) = g 70 25 - 1 := w32_id (by omega) (by omega)
        have ex : ∀ Q : Ds → Mm → List MV → Prop, WP 165 0 [(2, 70), (0, k), (3, 0), (3, 0), (3, 0)] [] (dsB ++ tl) (up g 70 25 (g 70 25 - 1)) Q = Q (dsB ++ tl) (mSet1 g k) [] := fun Q => e165 (GI_dec t.a (by omega)) h4 h3
        rw [← i1]
        simp only [p166_71, p166_72, p166_75, p166_76, p166_79, p166_82, p166_83, p166_84, p166_87, p166_88, p166_89, p166_92, p166_93, p166_95, p166_98, p166_99, p166_102, p166_104, p166_105, p166_107, h1, K_70, K_90, L_90, sh_70_21 S1, e164 S A.bk, b2_f h2, w1, g0, g1, ex, b2_T, b2_F, Int.reduceEq, Int.reduceLT, Int.reduceLE, Int.reduceAdd, Int.reduceSub, Int.reduceMul, Int.reduceNeg, reduceIte, if_true, if_false, true_or, or_true, false_or, or_false, false_and, and_false, eq_self, not_false_eq_true, not_true_eq_false, true_and, and_true, List.cons_append, List.nil_append, List.append_nil, b2_0, b2_1, b2_01, Classical.not_not]
end TICK
