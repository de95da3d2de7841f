/-! what a run of the reference leaves as it was -/
def FG (g h : Mm) (w : Int) : Prop := ∀ x j, ¬ (86 ≤ x ∧ x ≤ 100) → ¬ (x = 70 ∧ (j = 24 ∨ j = 25 ∨ j = 26 ∨ j = 30 ∨ j = 45)) → ¬ (x = 101 ∧ 6 * w ≤ j ∧ j < 6 * w + 6) → ¬ (x = 102 ∧ 6000 * w ≤ j ∧ j < 6000 * w + 6000) → ¬ ((x = 103 ∨ x = 104 ∨ x = 105 ∨ x = 106 ∨ x = 109) ∧ 96 * w ≤ j ∧ j < 96 * w + 96) → h x j = g x j
section FRAME
variable {m h g q : Mm} {r p n v k j c s o f i t l d u x w a b : Int}
theorem FG_refl : FG g g w := fun _ _ _ _ _ _ _ => rfl
theorem FG_tr (f : FG g h w) (f2 : FG h q w) : FG g q w := fun x j h1 h2 h3 h4 h5 => (f2 x j h1 h2 h3 h4 h5).trans (f x j h1 h2 h3 h4 h5)
theorem FG_add (F : FG g h w) : FG g (mAdd h t c s k l) w := by
  intro x j h1 h2 h3 h4 h5
  rw [← F x j h1 h2 h3 h4 h5]
  by_cases h7 : x = 70
  · subst h7
    exact add_70 (by omega) (by omega)
  · exact add_f (by omega) (by omega) (by omega) (by omega) (by omega) (by omega) (by omega) h7
theorem FG_u1 (F : FG g h w) (ha : 86 ≤ a ∧ a ≤ 100) : FG g (up h a i v) w := by
  intro x j h1 h2 h3 h4 h5
  rw [up_at, if_neg (by omega)]
  exact F x j h1 h2 h3 h4 h5
theorem FG_u2 (F : FG g h w) (ha : i = 24 ∨ i = 25 ∨ i = 26 ∨ i = 30 ∨ i = 45) : FG g (up h 70 i v) w := by
  intro x j h1 h2 h3 h4 h5
  rw [up_at, if_neg (by omega)]
  exact F x j h1 h2 h3 h4 h5
theorem FG_u3 (F : FG g h w) (ha : 6 * w ≤ i ∧ i < 6 * w + 6) : FG g (up h 101 i v) w := by
  intro x j h1 h2 h3 h4 h5
  rw [up_at, if_neg (by omega)]
  exact F x j h1 h2 h3 h4 h5
theorem FG_u4 (F : FG g h w) (ha : 6000 * w ≤ i ∧ i < 6000 * w + 6000) : FG g (up h 102 i v) w := by
  intro x j h1 h2 h3 h4 h5
  rw [up_at, if_neg (by omega)]
  exact F x j h1 h2 h3 h4 h5
theorem FG_u5 (F : FG g h w) (hx : a = 103 ∨ a = 104 ∨ a = 105 ∨ a = 106 ∨ a = 109) (ha : 96 * w ≤ i ∧ i < 96 * w + 96) : FG g (up h a i v) w := by
  intro x j h1 h2 h3 h4 h5
  rw [up_at, if_neg (by omega)]
  exact F x j h1 h2 h3 h4 h5
theorem FG_ring (F : FG g h w) (hb : h 70 45 = w) (hc : isC c) : FG g (mRing h (96 * w + c) i) w := by
  have c0 := hc.1
  have c1 := hc.2
  unfold mRing
  try dsimp only
  rw [hb]
  refine FG_u3 (FG_u5 ?_ (by decide) (by omega)) (by omega)
  split
  · exact FG_u5 (FG_u5 F (by decide) (by omega)) (by decide) (by omega)
  · exact F
theorem FG_tm (F : FG g h w) : FG g (mTm h c) w := FG_u1 F (by decide)
theorem FG_sp1 (F : FG g h w) : FG g (mSp1 h c s i o) w := by
  unfold mSp1
  split
  · exact F
  · exact FG_add F
theorem FG_work (F : FG g h w) (hb : h 70 45 = w) (hc : isC c) : FG g (mWork h c s i) w := by
  have F0 : FG g (mTm h c) w := FG_tm F
  have F1 : FG g (up (mTm h c) 94 c 1) w := FG_u1 F0 (by decide)
  have F2 : FG g (mRing (mTm h c) (96 * h 70 45 + c) i) w := by
    rw [hb]
    exact FG_ring F0 hb hc
  unfold mWork mLead mSpl
  repeat' split
  all_goals first | exact F0 | exact F1 | exact F2 | exact FG_add F0 | exact FG_add F1 | exact FG_sp1 (FG_sp1 (FG_sp1 (FG_sp1 F0)))
theorem FG_told (F : FG g h w) (hb : h 70 45 = w) (hc : isC c) (cn : 0 ≤ cnt h ∧ cnt h < 1000) : FG g (mTold h c s k u) w := by
  have c0 := hc.1
  have c1 := hc.2
  unfold mTold
  rw [hb]
  exact FG_u5 (FG_u5 (FG_u3 (FG_u3 (FG_u4 (FG_u4 (FG_u4 (FG_u4 (FG_u4 (FG_u4 F (by omega)) (by omega)) (by omega)) (by omega)) (by omega)) (by omega)) (by omega)) (by omega)) (by decide) (by omega)) (by decide) (by omega)
theorem FG_off (F : FG g h w) : FG g (mOff h n c t i) w := by
  unfold mOff
  split
  · exact FG_u1 (FG_u1 (FG_u1 F (by decide)) (by decide)) (by decide)
  · exact F
theorem FG_strike (F : FG g h w) (hb : h 70 45 = w) (hc : isC c) (cn : 0 ≤ cnt h ∧ cnt h < 1000) : FG g (mStrike h c s k u) w := by
  have F1 := FG_told (s := s) (k := k) (u := u) F hb hc cn
  have e : mTold h c s k u 70 45 = w := by rw [told_f (by decide) (by decide) (by decide) (by decide)]; exact hb
  unfold mStrike mHit
  split
  · exact FG_off F1
  · split
    · exact F1
    · exact FG_work F1 e hc
theorem FG_go (F : FG g h w) : FG g (mGo h n c o f) w := by
  have F1 : FG g (mGo1 h n c o) w := FG_u1 (FG_u1 (FG_u1 (FG_u1 F (by decide)) (by decide)) (by decide)) (by decide)
  have F2 : FG g (mGo2 h n c o f) w := by
    unfold mGo2
    split
    · exact FG_u1 F1 (by decide)
    · exact F1
  unfold mGo
  split
  · exact FG_u1 F2 (by decide)
  · exact F2
theorem FG_gone (F : FG g h w) (hb : h 70 45 = w) : FG g (mGone h n c) w := by
  unfold mGone
  rw [hb]
  exact FG_u3 (FG_u1 (FG_u1 F (by decide)) (by decide)) (by omega)
theorem FG_setL : ∀ (f : Nat) (h : Mm) (k : Int), FG g h w → h 70 45 = w → TI h n → (k = -1 ∨ (0 ≤ k ∧ k < h 70 24)) → FG g (mSetL f h k) w := by
  intro f
  induction f with
  | zero => exact fun h k F _ _ _ => F
  | succ f ih =>
    intro h k F hb t hk
    have cn := t.a.cn
    have tw := t.w
    rw [setL_s]
    by_cases h0 : k = -1 ∨ cnt h = 1000
    · rw [if_pos h0]
      exact F
    · rw [if_neg h0]
      have h1 : 0 ≤ k ∧ k < h 70 24 := by omega
      have h2 : cnt h < 1000 := by omega
      have t1 := TI_set1 t h2 h1
      have a1 := GI_dec t.a (by omega)
      have F1 : FG g (mDec h) w := FG_u2 F (by decide)
      have e45 : mSet1 h k 70 45 = w := (strike_70 (g := mDec h) (by decide) (by decide)).trans hb
      exact ih _ _ (FG_strike F1 hb (land_c a1 h1) ⟨cn.1, h2⟩) e45 t1.1 (set1_nx t h2 h1)
theorem FG_roll1 (F : FG g h w) (hb : h 70 45 = w) (t : TI h n) (hn : cnt h < 1000) (hj : 0 ≤ n ∧ n < h 70 30) : FG g (mRoll1 h n) w := by
  unfold mRoll1
  split
  · exact F
  · have at1 := t.a.a.at' n hj.1 hj.2
    unfold mRoll
    split
    · exact FG_gone F hb
    · rename_i h5
      split
      · exact FG_strike (FG_u1 F (by decide)) hb ((nxt_c at1.1).resolve_left h5) ⟨t.a.cn.1, hn⟩
      · exact FG_go F
theorem FG_rollL : ∀ (f : Nat) (h : Mm) (n : Int), FG g h w → h 70 45 = w → TI h n → 0 ≤ n → FG g (mRollL f h n) w := by
  intro f
  induction f with
  | zero => exact fun h n F _ _ _ => F
  | succ f ih =>
    intro h n F hb t hn
    rw [rollL_s]
    by_cases h0 : n < h 70 30 ∧ ¬ cnt h = 1000
    · rw [if_pos h0]
      have cn := t.a.cn
      have t1 := TI_roll1 t (by omega) ⟨hn, h0.1⟩
      have e45 : mRoll1 h n 70 45 = w := by
        unfold mRoll1
        split
        · exact hb
        · rw [roll_70 (by decide) (by decide)]; exact hb
      exact ih _ _ (FG_roll1 F hb t (by omega) ⟨hn, h0.1⟩) e45 t1.1 (by omega)
    · rw [if_neg h0]
      exact F
theorem FG_was (F : FG g h w) : FG g (mWas h t) w := by
  intro x j h1 h2 h3 h4 h5
  rw [was_f (by omega)]
  exact F x j h1 h2 h3 h4 h5
theorem FG_step (F : FG g h w) (hb : h 70 45 = w) (a : GI h) (hw : -(cnt h) ≤ h 70 25) : FG g (mStep h) w := by
  have nw := a.a.nw
  have t0 := TI_was a hw
  have fs := a.a.fs (h 70 26) nw.1 (by omega)
  have t1 := TI_setL 1001 (mWas h (h 70 30)) (h 91 (h 70 26)) t0 fs
  have F1 := FG_setL (g := g) (w := w) 1001 (mWas h (h 70 30)) (h 91 (h 70 26)) (FG_was F) hb t0 fs
  have b1 : mSetL 1001 (mWas h (h 70 30)) (h 91 (h 70 26)) 70 45 = w := by
    have e : ∀ (f : Nat) (h : Mm) (k : Int), mSetL f h k 70 45 = h 70 45 := by
      intro f
      induction f with
      | zero => intro h k; rfl
      | succ f ih =>
        intro h k
        rw [setL_s]
        split
        · rfl
        · rw [ih]
          exact strike_70 (g := mDec h) (by decide) (by decide)
    rw [e]
    exact hb
  have F2 := FG_rollL (g := g) (w := w) 97 _ 0 F1 b1 t1.1 (Int.le_refl _)
  have b2 : mTick h 70 45 = w := by
    have e : ∀ (f : Nat) (h : Mm) (k : Int), mRollL f h k 70 45 = h 70 45 := by
      intro f
      induction f with
      | zero => intro h k; rfl
      | succ f ih =>
        intro h k
        rw [rollL_s]
        split
        · rw [ih]
          unfold mRoll1
          split
          · rfl
          · exact roll_70 (by decide) (by decide)
        · rfl
    show mRollL 97 (mSetL 1001 (mWas h (h 70 30)) (h 91 (h 70 26))) 0 70 45 = w
    rw [e]
    exact b1
  unfold mStep
  rw [b2]
  exact FG_u3 F2 (by omega)
theorem step_45 (a : GI h) (hw : -(cnt h) ≤ h 70 25) (T : GT h) : mStep h 70 45 = h 70 45 := (LT_step (d := 0) a hw T ⟨by decide, by decide⟩).2.2
theorem FG_loop : ∀ (f : Nat) (h : Mm), FG g h w → h 70 45 = w → GI h → -(cnt h) ≤ h 70 25 → GT h → h 70 26 + f = 400 → FG g (mLoop f h) w := by
  intro f
  induction f with
  | zero => exact fun h F _ _ _ _ _ => F
  | succ f ih =>
    intro h F hb a hw T hf
    have sp := step_i a hw
    have F1 := FG_step F hb a hw
    have b1 := (step_45 a hw T).trans hb
    rw [mLoop_s]
    by_cases h3 : mEnd (mStep h) = -1
    · rw [if_pos h3]
      have nw2 := mEnd_now h3 sp.1.1.a.nw.2
      have e4 : mNext (mStep h) 70 26 = mStep h 70 26 + 1 := by
        unfold mNext
        simp only [up_at, b2_T, b2_F, Int.reduceEq, Int.reduceLT, Int.reduceLE, Int.reduceAdd, Int.reduceSub, Int.reduceMul, Int.reduceNeg, reduceIte, if_true, if_false, true_or, or_true, false_or, or_false, false_and, and_false, eq_self, not_false_eq_true, not_true_eq_false, true_and, and_true, List.cons_append, List.nil_append, List.append_nil, b2_0, b2_1, b2_01, Classical.not_not]
      have l := LT_step (d := 0) a hw T ⟨by decide, by decide⟩
      exact ih _ (FG_u2 F1 (by decide)) b1 (GI_next sp.1.1 nw2) sp.1.2 (GT_next l.2.1) (by rw [e4, sp.2]; omega)
    · rw [if_neg h3]
      unfold mStop
      rw [b1]
      exact FG_u2 (FG_u3 F1 (by omega)) (by decide)
theorem FG_b1 (F : FG g h w) (hb : h 70 45 = w) : FG g (mB1 h 6) w := by
  intro x j h1 h2 h3 h4 h5
  have e : mB1 h 6 x j = h x j := if_neg (by omega)
  rw [e]
  exact F x j h1 h2 h3 h4 h5
theorem FG_b2 (F : FG g h w) : FG g (mB2 h t) w := by
  intro x j h1 h2 h3 h4 h5
  have e : mB2 h t x j = h x j := if_neg (by omega)
  rw [e]
  exact F x j h1 h2 h3 h4 h5
theorem FG_bc (F : FG g h w) (hb : h 70 45 = w) (hc : isC c) : FG g (mBc h c) w := by
  have c0 := hc.1
  have c1 := hc.2
  have F1 : FG g (mBd h c) w := by
    unfold mBd
    rw [hb]
    exact FG_u5 (FG_u5 (FG_u5 (FG_u5 (FG_u1 (FG_u1 (FG_u1 F (by decide)) (by decide)) (by decide)) (by decide) (by omega)) (by decide) (by omega)) (by decide) (by omega)) (by decide) (by omega)
  unfold mBc
  split
  · exact F1
  · exact FG_u2 (FG_u1 (FG_u1 (FG_u1 F1 (by decide)) (by decide)) (by decide)) (by decide)
theorem FG_bl (S : Sh h) (h0 : h 70 30 = 0) (F : FG g h w) (hb : h 70 45 = w) : ∀ n : Nat, n ≤ 96 → FG g (mBL h n) w := by
  intro n
  induction n with
  | zero => intro _; exact F
  | succ n ih =>
    intro hn
    have a := BI_bl S h0 n (by omega)
    have e : mBL h n 70 45 = w := (a.f 70 45 (by decide) (by decide) (by decide) (by decide) (by decide) (by decide) (by decide) (by decide) (by decide) (by decide)).trans hb
    exact FG_bc (ih (by omega)) e ⟨by omega, by omega⟩
theorem FG_bs (F : FG g h w) : ∀ n : Nat, FG g (mBS h n) w := by
  intro n
  induction n with
  | zero => exact F
  | succ n ih => exact FG_add ih
theorem FG_begin (S : Sh h) (F : FG g h w) (hb : h 70 45 = w) : FG g (mBegin h) w := by
  have F0 : FG g (mB0 h) w := by
    unfold mB0 mB3
    exact FG_u2 (FG_u2 (FG_u2 (FG_b2 (FG_b1 F hb)) (by decide)) (by decide)) (by decide)
  have e45 : mB0 h 70 45 = w := (b0_70 (by decide) (by decide) (by decide)).trans hb
  have F1 : FG g (mBL (mB0 h) 96) w := FG_bl (Sh_b0 S) b0_30 F0 e45 96 (Nat.le_refl _)
  exact FG_bs (FG_u2 F1 (by decide)) _
theorem GT_b4' {g0 q4 z4 : Mm} (a : BI g0 q4 96) (hk : z4 = up q4 70 26 0) (k45 : z4 70 45 = g 70 45) (g045 : g0 70 45 = g 70 45) (ec : cnt z4 = 0) : GT z4 := by
  have e : ∀ x j, ¬ x = 70 → z4 x j = q4 x j := fun x j hx => by
    rw [hk]
    simp only [up_at, hx, b2_T, b2_F, Int.reduceEq, Int.reduceLT, Int.reduceLE, Int.reduceAdd, Int.reduceSub, Int.reduceMul, Int.reduceNeg, reduceIte, if_true, if_false, true_or, or_true, false_or, or_false, false_and, and_false, eq_self, not_false_eq_true, not_true_eq_false, true_and, and_true, List.cons_append, List.nil_append, List.append_nil, b2_0, b2_1, b2_01, Classical.not_not]
  have bz := a.z
  rw [g045] at bz
  refine ⟨fun d hd _ _ _ => ?_, fun d hd => ?_, fun d hd => ?_, fun d hd => ?_, fun d hd y => ?_, fun y y0 y1 => ?_, fun d hd y => ?_, fun y y0 y1 => ?_⟩
  · rw [k45, e 93 _ (by decide), e 106 _ (by decide), (bz d hd.1 hd.2).1, (bz d hd.1 hd.2).2.2.2.2.1]
  · rw [k45, e 105 _ (by decide), e 103 _ (by decide), (bz d hd.1 hd.2).2.2.2.1, (bz d hd.1 hd.2).2.2.1]
    exact ⟨fun _ => rfl, fun _ => rfl⟩
  · left
    rw [k45, e 109 _ (by decide), (bz d hd.1 hd.2).2.2.2.2.2]
  · left
    rw [e 94 _ (by decide), (bz d hd.1 hd.2).2.1]
  · rw [k45, e 105 _ (by decide)] at y
    exact absurd (bz d hd.1 hd.2).2.2.2.1 y
  · rw [ec] at y1
    exact absurd y1 (by omega)
  · rw [k45, e 105 _ (by decide)] at y
    exact absurd (bz d hd.1 hd.2).2.2.2.1 y
  · rw [ec] at y1
    exact absurd y1 (by omega)
theorem GT_begin (S : Sh g) (p : PV g) (bk : 0 ≤ g 70 45 ∧ g 70 45 ≤ 2) : GT (mBegin g) := by
  have h4 : GT (mB4 g) := GT_b4' (g := g) (BI_b0 S) rfl (b4_70 S (by decide) (by decide) (by decide) (by decide)) (b0_70 (by decide) (by decide) (by decide)) (GA_b4 S p bk).2.2.1
  exact GT_bs h4 _
theorem loop_e : ∀ (f : Nat) (g : Mm), GI g → -(cnt g) ≤ g 70 25 → GT g → g 70 26 + f = 400 → ∃ t, mLoop f g = mStop t (mEnd t) ∧ GI t ∧ GT t ∧ t 70 45 = g 70 45 ∧ t 101 (6 * t 70 45 + 1) = t 70 26 := by
  intro f
  induction f with
  | zero =>
    intro g a hw T hf
    have nw := a.a.nw
    omega
  | succ f ih =>
    intro g a hw T hf
    have sp := step_i a hw
    have l := LT_step (d := 0) a hw T ⟨by decide, by decide⟩
    rw [mLoop_s]
    by_cases h3 : mEnd (mStep g) = -1
    · rw [if_pos h3]
      have nw2 := mEnd_now h3 sp.1.1.a.nw.2
      have e4 : mNext (mStep g) 70 26 = mStep g 70 26 + 1 := by
        unfold mNext
        simp only [up_at, b2_T, b2_F, Int.reduceEq, Int.reduceLT, Int.reduceLE, Int.reduceAdd, Int.reduceSub, Int.reduceMul, Int.reduceNeg, reduceIte, if_true, if_false, true_or, or_true, false_or, or_false, false_and, and_false, eq_self, not_false_eq_true, not_true_eq_false, true_and, and_true, List.cons_append, List.nil_append, List.append_nil, b2_0, b2_1, b2_01, Classical.not_not]
      obtain ⟨t, r1, r2, r3, r4, r5⟩ := ih _ (GI_next sp.1.1 nw2) sp.1.2 (GT_next l.2.1) (by rw [e4, sp.2]; omega)
      exact ⟨t, r1, r2, r3, r4.trans l.2.2, r5⟩
    · rw [if_neg h3]
      refine ⟨mStep g, rfl, sp.1.1, l.2.1, l.2.2, ?_⟩
      show up (mTick g) 101 (6 * mTick g 70 45 + 1) (mTick g 70 26) 101 (6 * mTick g 70 45 + 1) = mTick g 70 26
      simp only [up_at, b2_T, b2_F, Int.reduceEq, Int.reduceLT, Int.reduceLE, Int.reduceAdd, Int.reduceSub, Int.reduceMul, Int.reduceNeg, reduceIte, if_true, if_false, true_or, or_true, false_or, or_false, false_and, and_false, eq_self, not_false_eq_true, not_true_eq_false, true_and, and_true, List.cons_append, List.nil_append, List.append_nil, b2_0, b2_1, b2_01, Classical.not_not]
theorem mruns_f (S : Sh g) (p : PV g) (V : SV g) (hw : 0 ≤ w ∧ w ≤ 2) : FG g (mRuns g w) w ∧ Sh (mRuns g w) ∧ ∃ t, mRuns g w = mStop t (mEnd t) ∧ GI t ∧ GT t ∧ t 70 45 = w ∧ t 101 (6 * w + 1) = t 70 26 := by
  have S1 : Sh (up g 70 45 w) := Sh_si S (by decide)
  have p1 : PV (up g 70 45 w) := PV_cg p (fun j => rfl) (fun j => rfl) (fun j => rfl) (fun j => rfl) (fun j => rfl)
  have v1 : SV (up g 70 45 w) := ⟨V.n, V.v⟩
  have e45 : up g 70 45 w 70 45 = w := by simp only [up_at, b2_T, b2_F, Int.reduceEq, Int.reduceLT, Int.reduceLE, Int.reduceAdd, Int.reduceSub, Int.reduceMul, Int.reduceNeg, reduceIte, if_true, if_false, true_or, or_true, false_or, or_false, false_and, and_false, eq_self, not_false_eq_true, not_true_eq_false, true_and, and_true, List.cons_append, List.nil_append, List.append_nil, b2_0, b2_1, b2_01, Classical.not_not]
  have bk : 0 ≤ up g 70 45 w 70 45 ∧ up g 70 45 w 70 45 ≤ 2 := by rw [e45]; exact hw
  have gb := GI_begin S1 p1 v1 bk
  have F1 : FG g (mBegin (up g 70 45 w)) w := FG_begin S1 (FG_u2 FG_refl (by decide)) e45
  have T1 : GT (mBegin (up g 70 45 w)) := GT_begin S1 p1 bk
  obtain ⟨k0, hk0⟩ : ∃ k0, k0 = mBegin (up g 70 45 w) := ⟨_, rfl⟩
  have eb45 : mBegin (up g 70 45 w) 70 45 = w := by
    unfold mBegin
    rw [bs_70 (by decide) (by decide), b4_70 S1 (by decide) (by decide) (by decide) (by decide), e45]
  have er : mRuns g w = mLoop 400 k0 := by rw [hk0]; rfl
  rw [← hk0] at gb F1 T1 eb45
  have w0 : -(cnt k0) ≤ k0 70 25 := by rw [gb.2.2.1]; have := gb.2.1; omega
  have n0 : k0 70 26 + (400 : Nat) = 400 := by rw [gb.2.2.2]; rfl
  obtain ⟨t, r1, r2, r3, r4, r5⟩ := loop_e 400 k0 gb.1 w0 T1 n0
  rw [eb45] at r4
  rw [r4] at r5
  rw [er]
  refine ⟨FG_loop 400 k0 F1 eb45 gb.1 w0 T1 n0, ?_, t, r1, r2, r3, r4, r5⟩
  rw [r1]
  unfold mStop
  exact Sh_si (Sh_ar r2.a.S (by decide)) (by decide)
end FRAME
