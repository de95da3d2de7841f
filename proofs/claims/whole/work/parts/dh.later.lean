/-! a bell's first ring stays; ties are kept over a tick -/
/-- from g to h, from tick t on -/
def LT (g h : Mm) (x t : Int) : Prop := (¬ g 103 x = -1 → h 103 x = g 103 x) ∧ (g 103 x = -1 → h 103 x = -1 ∨ t ≤ h 103 x)
section LATER
variable {m h g q : Mm} {r p n w v k j c s o f i t l d u x : Int}
theorem LT_eq (e : h 103 x = g 103 x) : LT g h x t := ⟨fun _ => e, fun y => Or.inl (e.trans y)⟩
theorem LT_tr {h2 : Mm} (a : LT g h x t) (b : LT h h2 x t) (ht : 0 ≤ t) : LT g h2 x t := by
  constructor
  · intro y
    have e := a.1 y
    rw [b.1 (by rw [e]; exact y), e]
  · intro y
    rcases a.2 y with z | z
    · exact b.2 z
    · right
      rw [b.1 (by omega)]
      exact z
theorem LT_le {t2 : Int} (a : LT g h x t2) (ht : t ≤ t2) : LT g h x t := ⟨a.1, fun y => (a.2 y).imp id (fun z => by omega)⟩
theorem LT_strike (A : GA g n) (T : GT g) (hc : isC c) (hd : isC d) : LT g (mStrike g c s k u) (96 * g 70 45 + d) (g 70 26) := by
  have e : mStrike g c s k u 103 (96 * g 70 45 + d) = mNote g c s k u 103 (96 * g 70 45 + d) := strike_note A hc (by decide) (by decide) (by decide) (by decide) (by decide) (by decide) (by decide) (by decide) (by decide) (by decide) (by decide) (by decide) (by decide)
  have rg := T.rg d hd
  unfold LT
  rw [e, note_103]
  by_cases h1 : (g 72 c = 8 ∧ g 105 (96 * g 70 45 + c) = 0) ∧ d = c
  · rw [if_pos h1]
    have h2 : g 105 (96 * g 70 45 + d) = 0 := by rw [h1.2]; exact h1.1.2
    exact ⟨fun y => absurd (rg.1 h2) y, fun _ => Or.inr (Int.le_refl _)⟩
  · rw [if_neg h1]
    exact ⟨fun _ => rfl, fun y => Or.inl y⟩
theorem LT_set1 (t : TI g n) (T : GT g) (hn : cnt g < 1000) (hk : 0 ≤ k ∧ k < g 70 24) (hd : isC d) : LT g (mSet1 g k) (96 * g 70 45 + d) (g 70 26) ∧ GT (mSet1 g k) := by
  have w := t.w
  have cn := t.a.cn
  have a1 := GI_dec t.a (by omega)
  have T1 := GT_dec T
  exact ⟨LT_strike (g := mDec g) a1.a T1 (land_c a1 hk) hd, GT_strike T1 a1.a (land_c a1 hk) (Or.inl rfl)⟩
theorem LT_setL (hd : isC d) : ∀ (f : Nat) (g : Mm) (k : Int), TI g n → GT g → (k = -1 ∨ (0 ≤ k ∧ k < g 70 24)) → LT g (mSetL f g k) (96 * g 70 45 + d) (g 70 26) ∧ GT (mSetL f g k) ∧ mSetL f g k 70 45 = g 70 45 ∧ mSetL f g k 70 30 = g 70 30 ∧ ∀ j, mSetL f g k 100 j = g 100 j := by
  intro f
  induction f with
  | zero => exact fun g k t T _ => ⟨LT_eq rfl, T, rfl, rfl, fun j => rfl⟩
  | succ f ih =>
    intro g k t T hk
    have cn := t.a.cn
    rw [setL_s]
    by_cases h : k = -1 ∨ cnt g = 1000
    · rw [if_pos h]
      exact ⟨LT_eq rfl, T, rfl, rfl, fun j => rfl⟩
    · rw [if_neg h]
      have h1 : 0 ≤ k ∧ k < g 70 24 := by omega
      have h2 : cnt g < 1000 := by omega
      have t1 := TI_set1 t h2 h1
      have l1 := LT_set1 t T h2 h1 hd
      have i1 := ih _ _ t1.1 l1.2 (set1_nx t h2 h1)
      have e45 : mSet1 g k 70 45 = g 70 45 := strike_70 (g := mDec g) (by decide) (by decide)
      have e30 : mSet1 g k 70 30 = g 70 30 := strike_70 (g := mDec g) (by decide) (by decide)
      have e100 : ∀ j, mSet1 g k 100 j = g 100 j := fun j => strike_100 (g := mDec g)
      rw [e45, t1.2.2] at i1
      exact ⟨LT_tr l1.1 i1.1 t.a.a.nw.1, i1.2.1, i1.2.2.1, i1.2.2.2.1.trans e30, fun j => (i1.2.2.2.2 j).trans (e100 j)⟩
theorem LT_roll1 (t : TI g n) (T : GT g) (hn : cnt g < 1000) (hj : 0 ≤ n ∧ n < g 70 30) (hd : isC d) : LT g (mRoll1 g n) (96 * g 70 45 + d) (g 70 26) ∧ GT (mRoll1 g n) := by
  unfold mRoll1
  by_cases h : g 100 n = 0
  · rw [if_pos h]
    exact ⟨LT_eq rfl, T⟩
  · rw [if_neg h]
    have hr := t.r n (Int.le_refl _) hj.2 h
    have at1 := t.a.a.at' n hj.1 hj.2
    unfold mRoll
    split
    · exact ⟨LT_eq rfl, GT_cg T (fun x j h1 h2 => by
        unfold mGone
        rw [up_at, if_neg (by omega), up_at, if_neg (by omega), up_at, if_neg (by omega)]) gone_n⟩
    · rename_i h5
      have oc : isC (nxt (g 96 n) (g 97 n)) := (nxt_c at1.1).resolve_left h5
      split
      · have TX : GT (up g 97 n (-1)) := GT_cg T (fun x j h1 h2 => by rw [up_at, if_neg (by omega)]) rfl
        have aX : GI (up g 97 n (-1)) := GI_stop t.a
        exact ⟨LT_strike (g := up g 97 n (-1)) aX.a TX oc hd, GT_strike TX aX.a oc (Or.inr rfl)⟩
      · exact ⟨LT_eq (go_f (by decide) (by decide) (by decide) (by decide)), GT_cg T (fun x j h1 h2 => go_f (by omega) (by omega) (by omega) (by omega)) go_n⟩
theorem LT_rollL (hd : isC d) : ∀ (f : Nat) (g : Mm) (n : Int), TI g n → GT g → 0 ≤ n → LT g (mRollL f g n) (96 * g 70 45 + d) (g 70 26) ∧ GT (mRollL f g n) ∧ mRollL f g n 70 45 = g 70 45 := by
  intro f
  induction f with
  | zero => exact fun g n t T _ => ⟨LT_eq rfl, T, rfl⟩
  | succ f ih =>
    intro g n t T hn
    rw [rollL_s]
    by_cases h : n < g 70 30 ∧ ¬ cnt g = 1000
    · rw [if_pos h]
      have cn := t.a.cn
      have t1 := TI_roll1 t (by omega) ⟨hn, h.1⟩
      have l1 := LT_roll1 t T (by omega) ⟨hn, h.1⟩ hd
      have i1 := ih _ _ t1.1 l1.2 (by omega)
      have e45 : mRoll1 g n 70 45 = g 70 45 := by
        unfold mRoll1
        split
        · rfl
        · exact roll_70 (by decide) (by decide)
      rw [e45, t1.2.1] at i1
      exact ⟨LT_tr l1.1 i1.1 t.a.a.nw.1, i1.2.1, i1.2.2⟩
    · rw [if_neg h]
      exact ⟨LT_eq rfl, T, rfl⟩
theorem GT_was (T : GT g) {y : Int} : GT (mWas g y) := ⟨T.tm, T.rg, T.lo, T.dn, T.k8, T.hr, T.rs, T.fl⟩
theorem t1_n : cnt (mT1 g) = cnt g := by
  have e : mT1 g 101 (6 * g 70 45 + 2) = g 101 (6 * g 70 45 + 2) := by
    unfold mT1
    simp only [up_at, Int.add_right_inj, b2_T, b2_F, Int.reduceEq, Int.reduceLT, Int.reduceLE, Int.reduceAdd, Int.reduceSub, Int.reduceMul, Int.reduceNeg, reduceIte, if_true, if_false, true_or, or_true, false_or, or_false, false_and, and_false, eq_self, not_false_eq_true, not_true_eq_false, true_and, and_true, List.cons_append, List.nil_append, List.append_nil, b2_0, b2_1, b2_01, Classical.not_not]
  exact e
theorem LT_tick (a : GI g) (hw : -(cnt g) ≤ g 70 25) (T : GT g) (hd : isC d) : LT g (mTick g) (96 * g 70 45 + d) (g 70 26) ∧ GT (mTick g) ∧ mTick g 70 45 = g 70 45 := by
  have nw := a.a.nw
  have t0 := TI_was a hw
  have fs := a.a.fs (g 70 26) nw.1 (by omega)
  have T0 : GT (mWas g (g 70 30)) := GT_was T
  have t1 := TI_setL 1001 (mWas g (g 70 30)) (g 91 (g 70 26)) t0 fs
  have l1 := LT_setL hd 1001 (mWas g (g 70 30)) (g 91 (g 70 26)) t0 T0 fs
  have l2 := LT_rollL hd 97 _ 0 t1.1 l1.2.1 (Int.le_refl _)
  rw [l1.2.2.1, t1.2] at l2
  exact ⟨LT_tr (h := mSetL 1001 (mWas g (g 70 30)) (g 91 (g 70 26))) l1.1 l2.1 nw.1, l2.2⟩
theorem GT_t1 (T : GT g) : GT (mT1 g) := GT_cg T (fun x j h1 h2 => by
  unfold mT1
  rw [up_at, if_neg (by omega)]) t1_n
theorem LT_step (a : GI g) (hw : -(cnt g) ≤ g 70 25) (T : GT g) (hd : isC d) : LT g (mStep g) (96 * g 70 45 + d) (g 70 26) ∧ GT (mStep g) ∧ mStep g 70 45 = g 70 45 := by
  have l := LT_tick a hw T hd
  have e : mStep g = mT1 (mTick g) := rfl
  rw [e]
  exact ⟨l.1, GT_t1 l.2.1, l.2.2⟩
theorem GT_next (T : GT g) : GT (mNext g) := ⟨T.tm, T.rg, T.lo, T.dn, T.k8, T.hr, T.rs, T.fl⟩
theorem LT_loop (hd : isC d) : ∀ (f : Nat) (g : Mm), GI g → -(cnt g) ≤ g 70 25 → GT g → g 70 26 + f = 400 → LT g (mLoop f g) (96 * g 70 45 + d) (g 70 26) ∧ mLoop f g 70 45 = g 70 45 := by
  intro f
  induction f with
  | zero =>
    intro g a hw T hf
    have nw := a.a.nw
    omega
  | succ f ih =>
    intro g a hw T hf
    have nw := a.a.nw
    have sp := step_i a hw
    have l := LT_step a hw T hd
    rw [mLoop_s]
    by_cases h3 : mEnd (mStep g) = -1
    · rw [if_pos h3]
      have nw2 := mEnd_now h3 sp.1.1.a.nw.2
      have e4 : mNext (mStep g) 70 26 = mStep g 70 26 + 1 := by
        unfold mNext
        simp only [up_at, b2_T, b2_F, Int.reduceEq, Int.reduceLT, Int.reduceLE, Int.reduceAdd, Int.reduceSub, Int.reduceMul, Int.reduceNeg, reduceIte, if_true, if_false, true_or, or_true, false_or, or_false, false_and, and_false, eq_self, not_false_eq_true, not_true_eq_false, true_and, and_true, List.cons_append, List.nil_append, List.append_nil, b2_0, b2_1, b2_01, Classical.not_not]
      have e45 : mNext (mStep g) 70 45 = mStep g 70 45 := rfl
      have i1 := ih _ (GI_next sp.1.1 nw2) sp.1.2 (GT_next l.2.1) (by rw [e4, sp.2]; omega)
      rw [e4, sp.2, e45, l.2.2] at i1
      exact ⟨LT_tr l.1 (LT_le i1.1 (by omega)) nw.1, i1.2⟩
    · rw [if_neg h3]
      exact ⟨l.1, l.2.2⟩
end LATER
