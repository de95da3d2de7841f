/-! a strike is noted on both sides, related; strikes in full -/
section RELNOTE2
variable {m h g q : Mm} {r p n w v k j c s o f i t l ti wy b u a x : Int}
theorem note_f (h2 : ¬ x = 101) (h3 : ¬ x = 102) (h4 : ¬ x = 103) (h5 : ¬ x = 104) (h6 : ¬ x = 105) (h7 : ¬ x = 106) (h8 : ¬ x = 109) : mNote g c s k u x j = g x j := by
  unfold mNote
  split
  · rw [ring_f h4 h5 h6 h2, told_f h3 h2 h7 h8]
  · exact told_f h3 h2 h7 h8
theorem note_t (h2 : ¬ x = 101) (h4 : ¬ x = 103) (h5 : ¬ x = 104) (h6 : ¬ x = 105) : mNote g c s k u x j = mTold g c s k u x j := by
  unfold mNote
  split
  · exact ring_f h4 h5 h6 h2
  · rfl
theorem ring_103 {y : Int} : mRing g y i 103 j = if g 105 y = 0 ∧ j = y then g 70 26 else g 103 j := by
  unfold mRing
  by_cases h : g 105 y = 0
  · simp only [h, up_at, b2_T, b2_F, Int.reduceEq, Int.reduceLT, Int.reduceLE, Int.reduceAdd, Int.reduceSub, Int.reduceMul, Int.reduceNeg, reduceIte, if_true, if_false, true_or, or_true, false_or, or_false, false_and, and_false, eq_self, not_false_eq_true, not_true_eq_false, true_and, and_true, List.cons_append, List.nil_append, List.append_nil, b2_0, b2_1, b2_01, Classical.not_not]
  · simp only [h, up_at, b2_T, b2_F, Int.reduceEq, Int.reduceLT, Int.reduceLE, Int.reduceAdd, Int.reduceSub, Int.reduceMul, Int.reduceNeg, reduceIte, if_true, if_false, true_or, or_true, false_or, or_false, false_and, and_false, eq_self, not_false_eq_true, not_true_eq_false, true_and, and_true, List.cons_append, List.nil_append, List.append_nil, b2_0, b2_1, b2_01, Classical.not_not]
theorem ring_105 {y : Int} : mRing g y i 105 j = if j = y then g 105 y + 1 else g 105 j := by
  unfold mRing
  try dsimp only
  split <;> simp only [up_at, b2_T, b2_F, Int.reduceEq, Int.reduceLT, Int.reduceLE, Int.reduceAdd, Int.reduceSub, Int.reduceMul, Int.reduceNeg, reduceIte, if_true, if_false, true_or, or_true, false_or, or_false, false_and, and_false, eq_self, not_false_eq_true, not_true_eq_false, true_and, and_true, List.cons_append, List.nil_append, List.append_nil, b2_0, b2_1, b2_01, Classical.not_not]
theorem ring_101 {y : Int} : mRing g y i 101 (6 * g 70 45 + j) = if j = 4 then g 101 (6 * g 70 45 + 4) + 1 else g 101 (6 * g 70 45 + j) := by
  unfold mRing
  try dsimp only
  split <;> simp only [up_at, Int.add_right_inj, b2_T, b2_F, Int.reduceEq, Int.reduceLT, Int.reduceLE, Int.reduceAdd, Int.reduceSub, Int.reduceMul, Int.reduceNeg, reduceIte, if_true, if_false, true_or, or_true, false_or, or_false, false_and, and_false, eq_self, not_false_eq_true, not_true_eq_false, true_and, and_true, List.cons_append, List.nil_append, List.append_nil, b2_0, b2_1, b2_01, Classical.not_not]
theorem note_103 : mNote g c s k u 103 (96 * g 70 45 + j) = if (g 72 c = 8 ∧ g 105 (96 * g 70 45 + c) = 0) ∧ j = c then g 70 26 else g 103 (96 * g 70 45 + j) := by
  have e1 : ∀ y, mTold g c s k u 103 y = g 103 y := fun y => told_f (by decide) (by decide) (by decide) (by decide)
  have e2 : ∀ y, mTold g c s k u 105 y = g 105 y := fun y => told_f (by decide) (by decide) (by decide) (by decide)
  have e3 : ∀ y, mTold g c s k u 70 y = g 70 y := fun y => told_f (by decide) (by decide) (by decide) (by decide)
  unfold mNote
  by_cases h8 : g 72 c = 8
  · rw [if_pos h8, ring_103, e1, e2, e3]
    by_cases h : g 105 (96 * g 70 45 + c) = 0
    · by_cases hj : j = c
      · rw [if_pos ⟨h, by rw [hj]⟩, if_pos ⟨⟨h8, h⟩, hj⟩]
      · rw [if_neg (fun x => by omega), if_neg (fun x => hj x.2)]
    · rw [if_neg (fun x => h x.1), if_neg (fun x => h x.1.2)]
  · rw [if_neg h8, if_neg (fun x => h8 x.1.1), e1]
theorem note_105 : mNote g c s k u 105 (96 * g 70 45 + j) = if g 72 c = 8 ∧ j = c then g 105 (96 * g 70 45 + c) + 1 else g 105 (96 * g 70 45 + j) := by
  have e2 : ∀ y, mTold g c s k u 105 y = g 105 y := fun y => told_f (by decide) (by decide) (by decide) (by decide)
  unfold mNote
  by_cases h8 : g 72 c = 8
  · rw [if_pos h8, ring_105, e2, e2]
    by_cases hj : j = c
    · rw [if_pos (by rw [hj]), if_pos ⟨h8, hj⟩]
    · rw [if_neg (by omega), if_neg (fun x => hj x.2)]
  · rw [if_neg h8, if_neg (fun x => h8 x.1), e2]
theorem note_101 : mNote g c s k u 101 (6 * g 70 45 + j) = if j = 4 then g 101 (6 * g 70 45 + 4) + (if g 72 c = 8 then 1 else 0) else if j = 3 then g 101 (6 * g 70 45 + 3) + (if hsm g c then 0 else 1) else if j = 2 then cnt g + 1 else g 101 (6 * g 70 45 + j) := by
  have e3 : ∀ y, mTold g c s k u 70 y = g 70 y := fun y => told_f (by decide) (by decide) (by decide) (by decide)
  unfold mNote
  by_cases h8 : g 72 c = 8
  · rw [if_pos h8, if_pos h8]
    have e := ring_101 (g := mTold g c s k u) (y := 96 * g 70 45 + c) (i := cnt g) (j := j)
    rw [e3] at e
    rw [e, told_101, told_101]
    by_cases h4 : j = 4
    · rw [if_pos h4, if_pos h4, if_neg (by decide), if_neg (by decide)]
    · rw [if_neg h4, if_neg h4]
  · rw [if_neg h8, if_neg h8, told_101]
    by_cases h4 : j = 4
    · rw [if_pos h4, h4, if_neg (by decide), if_neg (by decide)]
      omega
    · rw [if_neg h4]
theorem RR_note (R : RR m r p g w v) (T : GT g) (hr : r = 34 ∨ r = 52) (hp : p = 9 ∨ p = 18) (hn : 0 ≤ cnt g ∧ cnt g < 1000) (hc : isC c) (hu : u = 0 ∨ u = 1) : RR (xNote m r g c s k (2 * u)) r p (mNote g c s k u) w v := by
  have hc1 : ¬ c = -1 := by have := hc.1; omega
  rw [xNote_e hc1]
  obtain ⟨P, hP⟩ : ∃ P, P = xPre m r g c := ⟨_, rfl⟩
  rw [← hP]
  have p1 : ∀ x j, ¬ x = r → ¬ (r + 13 ≤ x ∧ x ≤ r + 15) → ¬ x = r + 17 → P x j = m x j := fun x j h1 h2 h3 => by rw [hP]; exact pre_f h1 h2 h3
  have pr : ∀ j, ¬ j = 11 → ¬ j = 12 → P r j = m r j := fun j h1 h2 => by rw [hP]; exact pre_r h1 h2
  obtain ⟨Z, hZ⟩ : ∃ Z, Z = xLog P r (m r 9) (4 * c + s) k (2 * u + (if hsm g c then 0 else 1) + (if g 72 c = 8 then 4 else 0)) := ⟨_, rfl⟩
  rw [← hZ]
  have z1 : ∀ x j, ¬ (r + 1 ≤ x ∧ x ≤ r + 5) → Z x j = P x j := fun x j h => by rw [hZ]; exact log_f h
  have zm : ∀ x j, ¬ (r ≤ x ∧ x ≤ r + 5) → ¬ (r + 13 ≤ x ∧ x ≤ r + 15) → ¬ x = r + 17 → Z x j = m x j := fun x j h1 h2 h3 => by rw [z1 x j (by omega), p1 x j (by omega) h2 h3]
  have c4 : P (r + 1) 4 = cnt g := by rw [p1 _ _ (by omega) (by omega) (by omega)]; exact R.X.lc
  have SZ : Sh Z := by rw [hZ]; exact Sh_log (by rw [hP]; exact Sh_pre R.S hr) hr
  have nf : ∀ x j, (x = 70 ∨ (72 ≤ x ∧ x ≤ 79) ∨ (86 ≤ x ∧ x ≤ 99)) → mNote g c s k u x j = g x j := fun x j hx => note_f (by omega) (by omega) (by omega) (by omega) (by omega) (by omega) (by omega)
  have n70 : ∀ j, mNote g c s k u 70 j = g 70 j := fun j => nf 70 j (by omega)
  have ec : cnt (mNote g c s k u) = cnt g + 1 := by
    unfold cnt
    rw [n70, note_101, if_neg (by decide), if_neg (by decide), if_pos rfl]
  refine ⟨SZ, ?_, ?_, ?_, ?_, ?_, ?_, ?_⟩
  · rw [z1 _ _ (by omega), pr 8 (by decide) (by decide)]; exact R.pp
  · exact PR_g (PR_m R.P (fun x j h1 h2 => zm x j (by omega) (by omega) (by omega))) (fun x j h1 h2 => nf x j (by omega)) (n70 6)
  · have C := R.C
    refine ⟨fun d hd => ?_, fun d hd => ?_, fun d hd => ?_, fun d hd => ?_, fun d hd => ?_⟩
    · rw [z1 _ _ (by omega), n70, note_t (by decide) (by decide) (by decide) (by decide), told_106, hP, pre_13, C.hi c hc, C.hi d hd]
    · rw [z1 _ _ (by omega), n70, note_105, hP, pre_14 hc1, C.ri c hc, C.ri d hd]
    · rw [z1 _ _ (by omega), n70, note_103, hP, pre_15 hc1, C.fr d hd, R.X.ti]
    · rw [z1 _ _ (by omega), p1 _ _ (by omega) (by omega) (by omega), nf 94 d (by omega)]; exact C.ch d hd
    · rw [z1 _ _ (by omega), n70, note_t (by decide) (by decide) (by decide) (by decide), told_109, hP, pre_17, C.lo d hd]
      have lc := C.lo c hc
      by_cases hdc : d = c
      · rw [if_pos hdc, hdc]
        by_cases hh : hsm g c
        · rw [if_neg (fun x => x.1 hh), if_pos hh]
          rcases T.lo c hc with y | y
          · rw [y, if_pos rfl]
          · rw [y, if_neg (by decide)]
        · rw [if_pos ⟨hh, rfl⟩, if_neg hh]
          split <;> rfl
      · rw [if_neg hdc, if_neg (fun x => hdc x.2)]
  · exact RB_g (RB_m R.B (fun x j h1 h2 => zm x j (by omega) (by omega) (by omega))) (fun x j hx => nf x j (by omega)) (n70 30) (by rw [n70, note_101, if_neg (by decide), if_neg (by decide), if_neg (by decide)])
  · have X := R.X
    refine ⟨?_, ?_, ?_, ?_, ?_⟩
    · rw [z1 _ _ (by omega), pr 9 (by decide) (by decide), n70]; exact X.ti
    · rw [z1 _ _ (by omega), pr 10 (by decide) (by decide)]; exact X.en
    · rw [z1 _ _ (by omega), n70, note_101, if_neg (by decide), if_pos rfl, hP, pre_11, X.ls]
    · rw [z1 _ _ (by omega), n70, note_101, if_pos rfl, hP, pre_12 hc1, X.rg]
    · rw [ec, hZ, log_1, c4]
  · intro y y0 y1 y2
    rw [ec] at y1
    rw [n70, note_t (by decide) (by decide) (by decide) (by decide), note_t (by decide) (by decide) (by decide) (by decide), note_t (by decide) (by decide) (by decide) (by decide), note_t (by decide) (by decide) (by decide) (by decide), note_t (by decide) (by decide) (by decide) (by decide), note_t (by decide) (by decide) (by decide) (by decide), hZ, log_2, log_3, log_4, log_5, c4]
    by_cases hy : y = cnt g
    · subst hy
      have e0 := told_e (g := g) (c := c) (s := s) (k := k) (u := u) (e := 0) (by omega)
      rw [Int.add_zero] at e0
      rw [if_pos ⟨y2, rfl⟩, if_pos ⟨y2, rfl⟩, if_pos ⟨y2, rfl⟩, if_pos ⟨y2, rfl⟩, e0, told_e (e := 1) (by omega), told_e (e := 2) (by omega), told_e (e := 3) (by omega), told_e (e := 4) (by omega), told_e (e := 5) (by omega), R.X.ti]
      simp only [b2_T, b2_F, Int.reduceEq, Int.reduceLT, Int.reduceLE, Int.reduceAdd, Int.reduceSub, Int.reduceMul, Int.reduceNeg, reduceIte, if_true, if_false, true_or, or_true, false_or, or_false, false_and, and_false, eq_self, not_false_eq_true, not_true_eq_false, true_and, and_true, List.cons_append, List.nil_append, List.append_nil, b2_0, b2_1, b2_01, Classical.not_not]
      rw [nf 72 c (by omega)]
      omega
    · have L := R.L y y0 (by omega) y2
      have e0 := told_o (g := g) (c := c) (s := s) (k := k) (u := u) (i := y) (e := 0) (by omega) (by omega)
      rw [Int.add_zero] at e0
      rw [if_neg (fun x => hy x.2), if_neg (fun x => hy x.2), if_neg (fun x => hy x.2), if_neg (fun x => hy x.2), e0, told_o (e := 1) (by omega) (by omega), told_o (e := 2) (by omega) (by omega), told_o (e := 3) (by omega) (by omega), told_o (e := 4) (by omega) (by omega), told_o (e := 5) (by omega) (by omega), p1 _ _ (by omega) (by omega) (by omega), p1 _ _ (by omega) (by omega) (by omega), p1 _ _ (by omega) (by omega) (by omega), p1 _ _ (by omega) (by omega) (by omega)]
      simp only [fun j => nf 72 j (by omega)]
      exact L
  · exact RQ_g (RQ_m R.Q (fun x j h1 h2 => zm x j (by omega) (by omega) (by omega))) (fun x j h1 h2 => nf x j (by omega)) (n70 24) (n70 25)
/-- times and rings keep their ties -/
theorem strike_93 (hc : isC c) (A : GA g n) : mStrike g c s k u 93 j = if j = c ∧ g 95 c = -1 ∧ ¬ g 72 c = 0 then g 93 c + 1 else g 93 j := by
  have t : ∀ x j, ¬ x = 102 → ¬ x = 101 → ¬ x = 106 → ¬ x = 109 → mTold g c s k u x j = g x j := fun x j => told_f
  unfold mStrike mHit
  rw [t 95 c (by decide) (by decide) (by decide) (by decide), t 72 c (by decide) (by decide) (by decide) (by decide)]
  by_cases h1 : g 95 c = -1
  · rw [if_neg (not_not_intro h1)]
    by_cases h2 : g 72 c = 0
    · rw [if_pos h2, if_neg (fun x => x.2.2 h2), t 93 j (by decide) (by decide) (by decide) (by decide)]
    · rw [if_neg h2, work_f (by decide) (by decide) (by decide) (by decide) (by decide) (by decide) (by decide) (by decide) (by decide) (by decide) (by decide) (by decide) (by decide)]
      unfold mTm
      rw [up_at, t 93 c (by decide) (by decide) (by decide) (by decide), t 93 j (by decide) (by decide) (by decide) (by decide)]
      by_cases hj : j = c
      · rw [if_pos ⟨rfl, hj⟩, if_pos ⟨hj, h1, h2⟩]
      · rw [if_neg (fun x => hj x.2), if_neg (fun x => hj x.1)]
  · rw [if_pos h1, if_neg (fun x => h1 x.2.1), off_f (by decide) (by decide) (by decide), t 93 j (by decide) (by decide) (by decide) (by decide)]
theorem work_fr (h8 : ¬ g 72 c = 8) {x : Int} (h1 : ¬ x = 86) (h2 : ¬ x = 87) (h3 : ¬ x = 88) (h4 : ¬ x = 89) (h5 : ¬ x = 90) (h6 : ¬ x = 91) (h7 : ¬ x = 92) (h8' : ¬ x = 70) (h9 : ¬ x = 94) : mWork g c s i x j = mTm g c x j := by
  unfold mWork mLead mSpl
  repeat' split
  all_goals first | rfl | (rw [add_f h1 h2 h3 h4 h5 h6 h7 h8']; done) | (rw [add_f h1 h2 h3 h4 h5 h6 h7 h8', up_at, if_neg (fun y => h9 y.1)]; done) | (rw [sp1_f h1 h2 h3 h4 h5 h6 h7 h8', sp1_f h1 h2 h3 h4 h5 h6 h7 h8', sp1_f h1 h2 h3 h4 h5 h6 h7 h8', sp1_f h1 h2 h3 h4 h5 h6 h7 h8']; done) | (rw [up_at, if_neg (fun y => h9 y.1)]; done) | (exfalso; exact h8 (by assumption))
/-- a strike, apart from times: what is noted, then what works -/
theorem hit_8 (h8 : g 72 c = 8) (hb : g 95 c = -1) {x : Int} (hx : ¬ x = 93) : mStrike g c s k u x j = mNote g c s k u x j := by
  have t : ∀ x j, ¬ x = 102 → ¬ x = 101 → ¬ x = 106 → ¬ x = 109 → mTold g c s k u x j = g x j := fun x j => told_f
  unfold mStrike mHit mNote
  rw [t 95 c (by decide) (by decide) (by decide) (by decide), t 72 c (by decide) (by decide) (by decide) (by decide), if_neg (not_not_intro hb), if_neg (by omega), if_pos h8]
  unfold mWork
  rw [t 72 c (by decide) (by decide) (by decide) (by decide), h8]
  simp only [b2_T, b2_F, Int.reduceEq, Int.reduceLT, Int.reduceLE, Int.reduceAdd, Int.reduceSub, Int.reduceMul, Int.reduceNeg, reduceIte, if_true, if_false, true_or, or_true, false_or, or_false, false_and, and_false, eq_self, not_false_eq_true, not_true_eq_false, true_and, and_true, List.cons_append, List.nil_append, List.append_nil, b2_0, b2_1, b2_01, Classical.not_not]
  rw [t 70 45 (by decide) (by decide) (by decide) (by decide)]
  have e : ∀ x j, ¬ x = 93 → mTm (mTold g c s k u) c x j = mTold g c s k u x j := fun x j h => by
    unfold mTm
    simp only [up_at, h, b2_T, b2_F, Int.reduceEq, Int.reduceLT, Int.reduceLE, Int.reduceAdd, Int.reduceSub, Int.reduceMul, Int.reduceNeg, reduceIte, if_true, if_false, true_or, or_true, false_or, or_false, false_and, and_false, eq_self, not_false_eq_true, not_true_eq_false, true_and, and_true, List.cons_append, List.nil_append, List.append_nil, b2_0, b2_1, b2_01, Classical.not_not]
  unfold mRing
  rw [e 105 _ (by decide), e 70 26 (by decide), e 101 _ (by decide), e 70 45 (by decide)]
  by_cases h : mTold g c s k u 105 (96 * g 70 45 + c) = 0
  · simp only [h, up_at, b2_T, b2_F, Int.reduceEq, Int.reduceLT, Int.reduceLE, Int.reduceAdd, Int.reduceSub, Int.reduceMul, Int.reduceNeg, reduceIte, if_true, if_false, true_or, or_true, false_or, or_false, false_and, and_false, eq_self, not_false_eq_true, not_true_eq_false, true_and, and_true, List.cons_append, List.nil_append, List.append_nil, b2_0, b2_1, b2_01, Classical.not_not]
    rw [e x j hx]
  · simp only [h, up_at, b2_T, b2_F, Int.reduceEq, Int.reduceLT, Int.reduceLE, Int.reduceAdd, Int.reduceSub, Int.reduceMul, Int.reduceNeg, reduceIte, if_true, if_false, true_or, or_true, false_or, or_false, false_and, and_false, eq_self, not_false_eq_true, not_true_eq_false, true_and, and_true, List.cons_append, List.nil_append, List.append_nil, b2_0, b2_1, b2_01, Classical.not_not]
    rw [e x j hx]
end RELNOTE2
