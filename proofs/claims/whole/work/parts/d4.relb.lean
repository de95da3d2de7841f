/-! balls on both sides -/
section RELB
variable {m h g : Mm} {r n w k j c o f i to : Int}
theorem rlc_pt (f30 : h 70 30 = g 70 30) (hn : 0 ≤ n ∧ n < 96) (hb : n < g 70 30) (e : ∀ j, ¬ j = n → h 97 j = g 97 j) : rlc h = rlc g + (if h 97 n = -1 then 0 else 1) - (if g 97 n = -1 then 0 else 1) := by
  unfold rlc
  rw [sm_pt (f := rlf g) (h := rlf h) (c := n) (fun x hx => by unfold rlf; rw [f30, e x hx]) 96, if_pos ⟨hn.1, hn.2⟩]
  have e1 : rlf h n = if h 97 n = -1 then 0 else 1 := by
    unfold rlf
    rw [f30]
    by_cases y : h 97 n = -1
    · rw [if_neg (fun x => x.2 y), if_pos y]
    · rw [if_pos ⟨hb, y⟩, if_neg y]
  have e2 : rlf g n = if g 97 n = -1 then 0 else 1 := by
    unfold rlf
    by_cases y : g 97 n = -1
    · rw [if_neg (fun x => x.2 y), if_pos y]
    · rw [if_pos ⟨hb, y⟩, if_neg y]
  rw [e1, e2]
  omega
theorem RB_push (a : RB m r g) (hr : r = 34 ∨ r = 52) (hn : 0 ≤ n ∧ n < 96) (hb : n < g 70 30) (hP : ¬ g 72 c = 9 ∨ jand (jshr (g 73 c) to) 1 = 1) (ht : ¬ to = -1) : RB (xPush m (r + 6) n to i) r (mOff g n c to i) := by
  have bn := a.ba n hn.1 hb
  unfold xPush mOff
  by_cases h1 : g 97 n = -1
  · have h2 : m (r + 6 + 3) n = -1 := by
      rw [show r + 6 + 3 = r + 9 by omega, bn.2.1]; exact h1
    rw [if_pos h2, if_pos ⟨h1, hP⟩]
    have er : rlc (up (up (up g 97 n to) 98 n 6) 99 n i) = rlc g + 1 := by
      rw [rlc_pt (n := n) (g := g) (h := up (up (up g 97 n to) 98 n 6) 99 n i) rfl hn hb (fun j hj => by simp only [up_at, hj, b2_T, b2_F, Int.reduceEq, Int.reduceLT, Int.reduceLE, Int.reduceAdd, Int.reduceSub, Int.reduceMul, Int.reduceNeg, reduceIte, if_true, if_false, true_or, or_true, false_or, or_false, false_and, and_false, eq_self, not_false_eq_true, not_true_eq_false, true_and, and_true, List.cons_append, List.nil_append, List.append_nil, b2_0, b2_1, b2_01, Classical.not_not]), if_pos h1]
      simp only [up_at, ht, b2_T, b2_F, Int.reduceEq, Int.reduceLT, Int.reduceLE, Int.reduceAdd, Int.reduceSub, Int.reduceMul, Int.reduceNeg, reduceIte, if_true, if_false, true_or, or_true, false_or, or_false, false_and, and_false, eq_self, not_false_eq_true, not_true_eq_false, true_and, and_true, List.cons_append, List.nil_append, List.append_nil, b2_0, b2_1, b2_01, Classical.not_not]
      omega
    have ro := a.ro
    have ct := a.ct
    have go := a.go
    refine ⟨fun d hd => ?_, ?_, ?_, ?_, fun j j0 j1 => ?_⟩
    · have := a.nu d hd
      rcases hr with rfl | rfl
      · simp only [Int.reduceAdd, up_at, b2_T, b2_F, Int.reduceEq, Int.reduceLT, Int.reduceLE, Int.reduceAdd, Int.reduceSub, Int.reduceMul, Int.reduceNeg, reduceIte, if_true, if_false, true_or, or_true, false_or, or_false, false_and, and_false, eq_self, not_false_eq_true, not_true_eq_false, true_and, and_true, List.cons_append, List.nil_append, List.append_nil, b2_0, b2_1, b2_01, Classical.not_not]; exact this
      · simp only [Int.reduceAdd, up_at, b2_T, b2_F, Int.reduceEq, Int.reduceLT, Int.reduceLE, Int.reduceAdd, Int.reduceSub, Int.reduceMul, Int.reduceNeg, reduceIte, if_true, if_false, true_or, or_true, false_or, or_false, false_and, and_false, eq_self, not_false_eq_true, not_true_eq_false, true_and, and_true, List.cons_append, List.nil_append, List.append_nil, b2_0, b2_1, b2_01, Classical.not_not]; exact this
    · rcases hr with rfl | rfl
      · simp only [Int.reduceAdd, up_at, b2_T, b2_F, Int.reduceEq, Int.reduceLT, Int.reduceLE, Int.reduceAdd, Int.reduceSub, Int.reduceMul, Int.reduceNeg, reduceIte, if_true, if_false, true_or, or_true, false_or, or_false, false_and, and_false, eq_self, not_false_eq_true, not_true_eq_false, true_and, and_true, List.cons_append, List.nil_append, List.append_nil, b2_0, b2_1, b2_01, Classical.not_not]; exact ct
      · simp only [Int.reduceAdd, up_at, b2_T, b2_F, Int.reduceEq, Int.reduceLT, Int.reduceLE, Int.reduceAdd, Int.reduceSub, Int.reduceMul, Int.reduceNeg, reduceIte, if_true, if_false, true_or, or_true, false_or, or_false, false_and, and_false, eq_self, not_false_eq_true, not_true_eq_false, true_and, and_true, List.cons_append, List.nil_append, List.append_nil, b2_0, b2_1, b2_01, Classical.not_not]; exact ct
    · rw [er]
      rcases hr with rfl | rfl
      · simp only [Int.reduceAdd, up_at, b2_T, b2_F, Int.reduceEq, Int.reduceLT, Int.reduceLE, Int.reduceAdd, Int.reduceSub, Int.reduceMul, Int.reduceNeg, reduceIte, if_true, if_false, true_or, or_true, false_or, or_false, false_and, and_false, eq_self, not_false_eq_true, not_true_eq_false, true_and, and_true, List.cons_append, List.nil_append, List.append_nil, b2_0, b2_1, b2_01, Classical.not_not] at ro ⊢; omega
      · simp only [Int.reduceAdd, up_at, b2_T, b2_F, Int.reduceEq, Int.reduceLT, Int.reduceLE, Int.reduceAdd, Int.reduceSub, Int.reduceMul, Int.reduceNeg, reduceIte, if_true, if_false, true_or, or_true, false_or, or_false, false_and, and_false, eq_self, not_false_eq_true, not_true_eq_false, true_and, and_true, List.cons_append, List.nil_append, List.append_nil, b2_0, b2_1, b2_01, Classical.not_not] at ro ⊢; omega
    · rcases hr with rfl | rfl
      · simp only [Int.reduceAdd, up_at, b2_T, b2_F, Int.reduceEq, Int.reduceLT, Int.reduceLE, Int.reduceAdd, Int.reduceSub, Int.reduceMul, Int.reduceNeg, reduceIte, if_true, if_false, true_or, or_true, false_or, or_false, false_and, and_false, eq_self, not_false_eq_true, not_true_eq_false, true_and, and_true, List.cons_append, List.nil_append, List.append_nil, b2_0, b2_1, b2_01, Classical.not_not]; exact go
      · simp only [Int.reduceAdd, up_at, b2_T, b2_F, Int.reduceEq, Int.reduceLT, Int.reduceLE, Int.reduceAdd, Int.reduceSub, Int.reduceMul, Int.reduceNeg, reduceIte, if_true, if_false, true_or, or_true, false_or, or_false, false_and, and_false, eq_self, not_false_eq_true, not_true_eq_false, true_and, and_true, List.cons_append, List.nil_append, List.append_nil, b2_0, b2_1, b2_01, Classical.not_not]; exact go
    · have := a.ba j j0 j1
      by_cases hj : j = n
      · subst hj
        rcases hr with rfl | rfl
        · simp only [Int.reduceAdd, up_at, ht, b2_T, b2_F, Int.reduceEq, Int.reduceLT, Int.reduceLE, Int.reduceAdd, Int.reduceSub, Int.reduceMul, Int.reduceNeg, reduceIte, if_true, if_false, true_or, or_true, false_or, or_false, false_and, and_false, eq_self, not_false_eq_true, not_true_eq_false, true_and, and_true, List.cons_append, List.nil_append, List.append_nil, b2_0, b2_1, b2_01, Classical.not_not] at this ⊢; exact this.1
        · simp only [Int.reduceAdd, up_at, ht, b2_T, b2_F, Int.reduceEq, Int.reduceLT, Int.reduceLE, Int.reduceAdd, Int.reduceSub, Int.reduceMul, Int.reduceNeg, reduceIte, if_true, if_false, true_or, or_true, false_or, or_false, false_and, and_false, eq_self, not_false_eq_true, not_true_eq_false, true_and, and_true, List.cons_append, List.nil_append, List.append_nil, b2_0, b2_1, b2_01, Classical.not_not] at this ⊢; exact this.1
      · rcases hr with rfl | rfl
        · simp only [Int.reduceAdd, up_at, hj, b2_T, b2_F, Int.reduceEq, Int.reduceLT, Int.reduceLE, Int.reduceAdd, Int.reduceSub, Int.reduceMul, Int.reduceNeg, reduceIte, if_true, if_false, true_or, or_true, false_or, or_false, false_and, and_false, eq_self, not_false_eq_true, not_true_eq_false, true_and, and_true, List.cons_append, List.nil_append, List.append_nil, b2_0, b2_1, b2_01, Classical.not_not] at this ⊢; exact this
        · simp only [Int.reduceAdd, up_at, hj, b2_T, b2_F, Int.reduceEq, Int.reduceLT, Int.reduceLE, Int.reduceAdd, Int.reduceSub, Int.reduceMul, Int.reduceNeg, reduceIte, if_true, if_false, true_or, or_true, false_or, or_false, false_and, and_false, eq_self, not_false_eq_true, not_true_eq_false, true_and, and_true, List.cons_append, List.nil_append, List.append_nil, b2_0, b2_1, b2_01, Classical.not_not] at this ⊢; exact this
  · have h2 : ¬ m (r + 6 + 3) n = -1 := by
      rw [show r + 6 + 3 = r + 9 by omega, bn.2.1]; exact h1
    rw [if_neg h2, if_neg (fun x => h1 x.1)]
    exact a
theorem RB_lie (a : RB m r g) (hr : r = 34 ∨ r = 52) (hn : 0 ≤ n ∧ n < 96) (hb : n < g 70 30) (h1 : ¬ g 97 n = -1) : RB (xLie m (r + 6) n) r (up g 97 n (-1)) := by
  have bn := a.ba n hn.1 hb
  have h2 : ¬ m (r + 6 + 3) n = -1 := by
    rw [show r + 6 + 3 = r + 9 by omega, bn.2.1]; exact h1
  unfold xLie
  rw [if_neg h2]
  have er : rlc (up g 97 n (-1)) = rlc g - 1 := by
    rw [rlc_pt (n := n) (g := g) (h := up g 97 n (-1)) rfl hn hb (fun j hj => by simp only [up_at, hj, b2_T, b2_F, Int.reduceEq, Int.reduceLT, Int.reduceLE, Int.reduceAdd, Int.reduceSub, Int.reduceMul, Int.reduceNeg, reduceIte, if_true, if_false, true_or, or_true, false_or, or_false, false_and, and_false, eq_self, not_false_eq_true, not_true_eq_false, true_and, and_true, List.cons_append, List.nil_append, List.append_nil, b2_0, b2_1, b2_01, Classical.not_not]), if_neg h1]
    simp only [up_at, b2_T, b2_F, Int.reduceEq, Int.reduceLT, Int.reduceLE, Int.reduceAdd, Int.reduceSub, Int.reduceMul, Int.reduceNeg, reduceIte, if_true, if_false, true_or, or_true, false_or, or_false, false_and, and_false, eq_self, not_false_eq_true, not_true_eq_false, true_and, and_true, List.cons_append, List.nil_append, List.append_nil, b2_0, b2_1, b2_01, Classical.not_not]
    omega
  have ro := a.ro
  have ct := a.ct
  have go := a.go
  refine ⟨fun d hd => ?_, ?_, ?_, ?_, fun j j0 j1 => ?_⟩
  · have := a.nu d hd
    rcases hr with rfl | rfl
    · simp only [Int.reduceAdd, up_at, b2_T, b2_F, Int.reduceEq, Int.reduceLT, Int.reduceLE, Int.reduceAdd, Int.reduceSub, Int.reduceMul, Int.reduceNeg, reduceIte, if_true, if_false, true_or, or_true, false_or, or_false, false_and, and_false, eq_self, not_false_eq_true, not_true_eq_false, true_and, and_true, List.cons_append, List.nil_append, List.append_nil, b2_0, b2_1, b2_01, Classical.not_not]; exact this
    · simp only [Int.reduceAdd, up_at, b2_T, b2_F, Int.reduceEq, Int.reduceLT, Int.reduceLE, Int.reduceAdd, Int.reduceSub, Int.reduceMul, Int.reduceNeg, reduceIte, if_true, if_false, true_or, or_true, false_or, or_false, false_and, and_false, eq_self, not_false_eq_true, not_true_eq_false, true_and, and_true, List.cons_append, List.nil_append, List.append_nil, b2_0, b2_1, b2_01, Classical.not_not]; exact this
  · rcases hr with rfl | rfl
    · simp only [Int.reduceAdd, up_at, b2_T, b2_F, Int.reduceEq, Int.reduceLT, Int.reduceLE, Int.reduceAdd, Int.reduceSub, Int.reduceMul, Int.reduceNeg, reduceIte, if_true, if_false, true_or, or_true, false_or, or_false, false_and, and_false, eq_self, not_false_eq_true, not_true_eq_false, true_and, and_true, List.cons_append, List.nil_append, List.append_nil, b2_0, b2_1, b2_01, Classical.not_not]; exact ct
    · simp only [Int.reduceAdd, up_at, b2_T, b2_F, Int.reduceEq, Int.reduceLT, Int.reduceLE, Int.reduceAdd, Int.reduceSub, Int.reduceMul, Int.reduceNeg, reduceIte, if_true, if_false, true_or, or_true, false_or, or_false, false_and, and_false, eq_self, not_false_eq_true, not_true_eq_false, true_and, and_true, List.cons_append, List.nil_append, List.append_nil, b2_0, b2_1, b2_01, Classical.not_not]; exact ct
  · rw [er]
    rcases hr with rfl | rfl
    · simp only [Int.reduceAdd, up_at, b2_T, b2_F, Int.reduceEq, Int.reduceLT, Int.reduceLE, Int.reduceAdd, Int.reduceSub, Int.reduceMul, Int.reduceNeg, reduceIte, if_true, if_false, true_or, or_true, false_or, or_false, false_and, and_false, eq_self, not_false_eq_true, not_true_eq_false, true_and, and_true, List.cons_append, List.nil_append, List.append_nil, b2_0, b2_1, b2_01, Classical.not_not] at ro ⊢; omega
    · simp only [Int.reduceAdd, up_at, b2_T, b2_F, Int.reduceEq, Int.reduceLT, Int.reduceLE, Int.reduceAdd, Int.reduceSub, Int.reduceMul, Int.reduceNeg, reduceIte, if_true, if_false, true_or, or_true, false_or, or_false, false_and, and_false, eq_self, not_false_eq_true, not_true_eq_false, true_and, and_true, List.cons_append, List.nil_append, List.append_nil, b2_0, b2_1, b2_01, Classical.not_not] at ro ⊢; omega
  · rcases hr with rfl | rfl
    · simp only [Int.reduceAdd, up_at, b2_T, b2_F, Int.reduceEq, Int.reduceLT, Int.reduceLE, Int.reduceAdd, Int.reduceSub, Int.reduceMul, Int.reduceNeg, reduceIte, if_true, if_false, true_or, or_true, false_or, or_false, false_and, and_false, eq_self, not_false_eq_true, not_true_eq_false, true_and, and_true, List.cons_append, List.nil_append, List.append_nil, b2_0, b2_1, b2_01, Classical.not_not]; exact go
    · simp only [Int.reduceAdd, up_at, b2_T, b2_F, Int.reduceEq, Int.reduceLT, Int.reduceLE, Int.reduceAdd, Int.reduceSub, Int.reduceMul, Int.reduceNeg, reduceIte, if_true, if_false, true_or, or_true, false_or, or_false, false_and, and_false, eq_self, not_false_eq_true, not_true_eq_false, true_and, and_true, List.cons_append, List.nil_append, List.append_nil, b2_0, b2_1, b2_01, Classical.not_not]; exact go
  · have := a.ba j j0 j1
    by_cases hj : j = n
    · subst hj
      rcases hr with rfl | rfl
      · simp only [Int.reduceAdd, up_at, b2_T, b2_F, Int.reduceEq, Int.reduceLT, Int.reduceLE, Int.reduceAdd, Int.reduceSub, Int.reduceMul, Int.reduceNeg, reduceIte, if_true, if_false, true_or, or_true, false_or, or_false, false_and, and_false, eq_self, not_false_eq_true, not_true_eq_false, true_and, and_true, List.cons_append, List.nil_append, List.append_nil, b2_0, b2_1, b2_01, Classical.not_not] at this ⊢; exact this.1
      · simp only [Int.reduceAdd, up_at, b2_T, b2_F, Int.reduceEq, Int.reduceLT, Int.reduceLE, Int.reduceAdd, Int.reduceSub, Int.reduceMul, Int.reduceNeg, reduceIte, if_true, if_false, true_or, or_true, false_or, or_false, false_and, and_false, eq_self, not_false_eq_true, not_true_eq_false, true_and, and_true, List.cons_append, List.nil_append, List.append_nil, b2_0, b2_1, b2_01, Classical.not_not] at this ⊢; exact this.1
    · rcases hr with rfl | rfl
      · simp only [Int.reduceAdd, up_at, hj, b2_T, b2_F, Int.reduceEq, Int.reduceLT, Int.reduceLE, Int.reduceAdd, Int.reduceSub, Int.reduceMul, Int.reduceNeg, reduceIte, if_true, if_false, true_or, or_true, false_or, or_false, false_and, and_false, eq_self, not_false_eq_true, not_true_eq_false, true_and, and_true, List.cons_append, List.nil_append, List.append_nil, b2_0, b2_1, b2_01, Classical.not_not] at this ⊢; exact this
      · simp only [Int.reduceAdd, up_at, hj, b2_T, b2_F, Int.reduceEq, Int.reduceLT, Int.reduceLE, Int.reduceAdd, Int.reduceSub, Int.reduceMul, Int.reduceNeg, reduceIte, if_true, if_false, true_or, or_true, false_or, or_false, false_and, and_false, eq_self, not_false_eq_true, not_true_eq_false, true_and, and_true, List.cons_append, List.nil_append, List.append_nil, b2_0, b2_1, b2_01, Classical.not_not] at this ⊢; exact this
theorem xlie_78 {B : Int} : xLie m B n B 8 = m B 8 := by
  unfold xLie
  split
  · rfl
  · simp only [up_at, show ¬ B = B + 3 by omega, b2_T, b2_F, Int.reduceEq, Int.reduceLT, Int.reduceLE, Int.reduceAdd, Int.reduceSub, Int.reduceMul, Int.reduceNeg, reduceIte, if_true, if_false, true_or, or_true, false_or, or_false, false_and, and_false, eq_self, not_false_eq_true, not_true_eq_false, true_and, and_true, List.cons_append, List.nil_append, List.append_nil, b2_0, b2_1, b2_01, Classical.not_not]
theorem RB_leave (a : RB m r g) (hr : r = 34 ∨ r = 52) (hn : 0 ≤ n ∧ n < 96) (hb : n < g 70 30) (h1 : ¬ g 97 n = -1) : RB (xLeave m (r + 6) n) r (mGone g n (g 96 n)) := by
  have bn := a.ba n hn.1 hb
  have l := RB_lie a hr hn hb h1
  have ro := l.ro
  have ct := l.ct
  have go := a.go
  have er : rlc (mGone g n (g 96 n)) = rlc (up g 97 n (-1)) := rlc_cg rfl (fun j => rfl)
  have e8 : m (r + 6 + 2) n = g 96 n := by rw [show r + 6 + 2 = r + 8 by omega]; exact bn.1
  unfold xLeave
  rw [e8]
  have f : ∀ x j, ¬ x = r + 6 + 1 → ¬ (x = r + 6 ∧ j = 8) → (up (up (xLie m (r + 6) n) (r + 6 + 1) (g 96 n) (-1)) (r + 6) 8 (w32 (m (r + 6) 8 + 1))) x j = xLie m (r + 6) n x j := fun x j h1 h2 => by simp only [up_at, h1, h2, b2_T, b2_F, Int.reduceEq, Int.reduceLT, Int.reduceLE, Int.reduceAdd, Int.reduceSub, Int.reduceMul, Int.reduceNeg, reduceIte, if_true, if_false, true_or, or_true, false_or, or_false, false_and, and_false, eq_self, not_false_eq_true, not_true_eq_false, true_and, and_true, List.cons_append, List.nil_append, List.append_nil, b2_0, b2_1, b2_01, Classical.not_not]
  refine ⟨fun d hd => ?_, ?_, ?_, ?_, fun j j0 j1 => ?_⟩
  · have e1 : mGone g n (g 96 n) 95 d = if d = g 96 n then -1 else g 95 d := by
      unfold mGone
      simp only [up_at, b2_T, b2_F, Int.reduceEq, Int.reduceLT, Int.reduceLE, Int.reduceAdd, Int.reduceSub, Int.reduceMul, Int.reduceNeg, reduceIte, if_true, if_false, true_or, or_true, false_or, or_false, false_and, and_false, eq_self, not_false_eq_true, not_true_eq_false, true_and, and_true, List.cons_append, List.nil_append, List.append_nil, b2_0, b2_1, b2_01, Classical.not_not]
    rw [e1]
    have e2 := l.nu d hd
    have e3 : (up (up (xLie m (r + 6) n) (r + 6 + 1) (g 96 n) (-1)) (r + 6) 8 (w32 (m (r + 6) 8 + 1))) (r + 7) d = if d = g 96 n then -1 else xLie m (r + 6) n (r + 7) d := by
      simp only [up_at, show (r + 7 = r + 6) = False from eq_false (by omega), show (r + 7 = r + 6 + 1) = True from eq_true (by omega), b2_T, b2_F, Int.reduceEq, Int.reduceLT, Int.reduceLE, Int.reduceAdd, Int.reduceSub, Int.reduceMul, Int.reduceNeg, reduceIte, if_true, if_false, true_or, or_true, false_or, or_false, false_and, and_false, eq_self, not_false_eq_true, not_true_eq_false, true_and, and_true, List.cons_append, List.nil_append, List.append_nil, b2_0, b2_1, b2_01, Classical.not_not]
    rw [e3, e2]
    rfl
  · rw [f _ _ (by omega) (by omega)]; exact ct
  · rw [f _ _ (by omega) (by omega), er]; exact ro
  · have e1 : mGone g n (g 96 n) 101 (6 * g 70 45 + 5) = w32 (g 101 (6 * g 70 45 + 5) + 1) := by
      unfold mGone
      simp only [up_at, b2_T, b2_F, Int.reduceEq, Int.reduceLT, Int.reduceLE, Int.reduceAdd, Int.reduceSub, Int.reduceMul, Int.reduceNeg, reduceIte, if_true, if_false, true_or, or_true, false_or, or_false, false_and, and_false, eq_self, not_false_eq_true, not_true_eq_false, true_and, and_true, List.cons_append, List.nil_append, List.append_nil, b2_0, b2_1, b2_01, Classical.not_not]
    have e2 : mGone g n (g 96 n) 70 45 = g 70 45 := rfl
    rw [e2, e1, ← go]
    simp only [up_at, b2_T, b2_F, Int.reduceEq, Int.reduceLT, Int.reduceLE, Int.reduceAdd, Int.reduceSub, Int.reduceMul, Int.reduceNeg, reduceIte, if_true, if_false, true_or, or_true, false_or, or_false, false_and, and_false, eq_self, not_false_eq_true, not_true_eq_false, true_and, and_true, List.cons_append, List.nil_append, List.append_nil, b2_0, b2_1, b2_01, Classical.not_not]
  · have := l.ba j j0 j1
    rw [f _ _ (by omega) (by omega), f _ _ (by omega) (by omega), f _ _ (by omega) (by omega), f _ _ (by omega) (by omega)]
    exact this
theorem RB_enter (a : RB m r g) (hr : r = 34 ∨ r = 52) (hn : 0 ≤ n ∧ n < 96) (hb : n < g 70 30) (h1 : ¬ g 97 n = -1) (hs : 1 ≤ g 98 n) (hw : w = if g 72 o = 9 then oth (g 73 o) f else g 97 n) (hw1 : ¬ w = -1) : RB (xEnter m (r + 6) n o w) r (mGo g n (g 96 n) o f) := by
  have bn := a.ba n hn.1 hb
  have bs := bn.2.2.resolve_left h1
  have ro := a.ro
  have ct := a.ct
  have go := a.go
  have e8 : m (r + 6 + 2) n = g 96 n := by rw [show r + 6 + 2 = r + 8 by omega]; exact bn.1
  have e10 : m (r + 6 + 4) n = g 98 n := by rw [show r + 6 + 4 = r + 10 by omega]; exact bs.1
  have n95 : ∀ d, mGo g n (g 96 n) o f 95 d = if d = o then n else if d = g 96 n then -1 else g 95 d := fun d => go_95
  have n96 : ∀ d, mGo g n (g 96 n) o f 96 d = if d = n then o else g 96 d := fun d => go_96
  have n98 : ∀ d, mGo g n (g 96 n) o f 98 d = if d = n then g 98 n - 1 else g 98 d := fun d => go_98
  have n99 : ∀ d, mGo g n (g 96 n) o f 99 d = g 99 d := fun d => go_f (by decide) (by decide) (by decide) (by decide)
  have n97 : ∀ d, mGo g n (g 96 n) o f 97 d = if d = n then (if g 98 n - 1 = 0 then -1 else w) else g 97 d := fun d => by rw [go_97, hw]
  have n70 : ∀ d, mGo g n (g 96 n) o f 70 d = g 70 d := fun d => go_f (by decide) (by decide) (by decide) (by decide)
  have n101 : ∀ d, mGo g n (g 96 n) o f 101 d = g 101 d := fun d => go_f (by decide) (by decide) (by decide) (by decide)
  have er : rlc (mGo g n (g 96 n) o f) = rlc g + (if g 98 n - 1 = 0 then -1 else 0) := by
    rw [rlc_pt (n := n) (g := g) (n70 30) hn hb (fun j hj => by rw [n97, if_neg hj]), if_neg h1, n97, if_pos rfl]
    by_cases y : g 98 n - 1 = 0
    · rw [if_pos y, if_pos y, if_pos rfl]; omega
    · rw [if_neg y, if_neg y, if_neg hw1]; omega
  unfold xEnter
  rw [e10]
  by_cases y : g 98 n - 1 = 0
  · rw [if_pos (by omega)]
    rw [if_pos y] at er
    have h2 : ¬ xEnt1 m (r + 6) n o w (r + 6 + 3) n = -1 := by
      unfold xEnt1
      rw [up_at, if_neg (by omega), up_at, if_pos ⟨rfl, rfl⟩]
      exact hw1
    unfold xLie
    rw [if_neg h2]
    unfold xEnt1
    rw [e8, e10]
    refine ⟨fun d hd => ?_, ?_, ?_, ?_, fun j j0 j1 => ?_⟩
    · have := a.nu d hd
      rw [n95]
      rcases hr with rfl | rfl
      · simp only [Int.reduceAdd, up_at, b2_T, b2_F, Int.reduceEq, Int.reduceLT, Int.reduceLE, Int.reduceAdd, Int.reduceSub, Int.reduceMul, Int.reduceNeg, reduceIte, if_true, if_false, true_or, or_true, false_or, or_false, false_and, and_false, eq_self, not_false_eq_true, not_true_eq_false, true_and, and_true, List.cons_append, List.nil_append, List.append_nil, b2_0, b2_1, b2_01, Classical.not_not] at this ⊢; rw [this]
      · simp only [Int.reduceAdd, up_at, b2_T, b2_F, Int.reduceEq, Int.reduceLT, Int.reduceLE, Int.reduceAdd, Int.reduceSub, Int.reduceMul, Int.reduceNeg, reduceIte, if_true, if_false, true_or, or_true, false_or, or_false, false_and, and_false, eq_self, not_false_eq_true, not_true_eq_false, true_and, and_true, List.cons_append, List.nil_append, List.append_nil, b2_0, b2_1, b2_01, Classical.not_not] at this ⊢; rw [this]
    · rw [n70]
      rcases hr with rfl | rfl
      · simp only [Int.reduceAdd, up_at, b2_T, b2_F, Int.reduceEq, Int.reduceLT, Int.reduceLE, Int.reduceAdd, Int.reduceSub, Int.reduceMul, Int.reduceNeg, reduceIte, if_true, if_false, true_or, or_true, false_or, or_false, false_and, and_false, eq_self, not_false_eq_true, not_true_eq_false, true_and, and_true, List.cons_append, List.nil_append, List.append_nil, b2_0, b2_1, b2_01, Classical.not_not]; exact ct
      · simp only [Int.reduceAdd, up_at, b2_T, b2_F, Int.reduceEq, Int.reduceLT, Int.reduceLE, Int.reduceAdd, Int.reduceSub, Int.reduceMul, Int.reduceNeg, reduceIte, if_true, if_false, true_or, or_true, false_or, or_false, false_and, and_false, eq_self, not_false_eq_true, not_true_eq_false, true_and, and_true, List.cons_append, List.nil_append, List.append_nil, b2_0, b2_1, b2_01, Classical.not_not]; exact ct
    · rw [er]
      rcases hr with rfl | rfl
      · simp only [Int.reduceAdd, up_at, b2_T, b2_F, Int.reduceEq, Int.reduceLT, Int.reduceLE, Int.reduceAdd, Int.reduceSub, Int.reduceMul, Int.reduceNeg, reduceIte, if_true, if_false, true_or, or_true, false_or, or_false, false_and, and_false, eq_self, not_false_eq_true, not_true_eq_false, true_and, and_true, List.cons_append, List.nil_append, List.append_nil, b2_0, b2_1, b2_01, Classical.not_not] at ro ⊢; omega
      · simp only [Int.reduceAdd, up_at, b2_T, b2_F, Int.reduceEq, Int.reduceLT, Int.reduceLE, Int.reduceAdd, Int.reduceSub, Int.reduceMul, Int.reduceNeg, reduceIte, if_true, if_false, true_or, or_true, false_or, or_false, false_and, and_false, eq_self, not_false_eq_true, not_true_eq_false, true_and, and_true, List.cons_append, List.nil_append, List.append_nil, b2_0, b2_1, b2_01, Classical.not_not] at ro ⊢; omega
    · rw [n101, n70]
      rcases hr with rfl | rfl
      · simp only [Int.reduceAdd, up_at, b2_T, b2_F, Int.reduceEq, Int.reduceLT, Int.reduceLE, Int.reduceAdd, Int.reduceSub, Int.reduceMul, Int.reduceNeg, reduceIte, if_true, if_false, true_or, or_true, false_or, or_false, false_and, and_false, eq_self, not_false_eq_true, not_true_eq_false, true_and, and_true, List.cons_append, List.nil_append, List.append_nil, b2_0, b2_1, b2_01, Classical.not_not]; exact go
      · simp only [Int.reduceAdd, up_at, b2_T, b2_F, Int.reduceEq, Int.reduceLT, Int.reduceLE, Int.reduceAdd, Int.reduceSub, Int.reduceMul, Int.reduceNeg, reduceIte, if_true, if_false, true_or, or_true, false_or, or_false, false_and, and_false, eq_self, not_false_eq_true, not_true_eq_false, true_and, and_true, List.cons_append, List.nil_append, List.append_nil, b2_0, b2_1, b2_01, Classical.not_not]; exact go
    · rw [n70] at j1
      have := a.ba j j0 j1
      rw [n96, n97, n98, n99, y]
      by_cases hj : j = n
      · subst hj
        rcases hr with rfl | rfl
        · simp only [Int.reduceAdd, up_at, b2_T, b2_F, Int.reduceEq, Int.reduceLT, Int.reduceLE, Int.reduceAdd, Int.reduceSub, Int.reduceMul, Int.reduceNeg, reduceIte, if_true, if_false, true_or, or_true, false_or, or_false, false_and, and_false, eq_self, not_false_eq_true, not_true_eq_false, true_and, and_true, List.cons_append, List.nil_append, List.append_nil, b2_0, b2_1, b2_01, Classical.not_not]
        · simp only [Int.reduceAdd, up_at, b2_T, b2_F, Int.reduceEq, Int.reduceLT, Int.reduceLE, Int.reduceAdd, Int.reduceSub, Int.reduceMul, Int.reduceNeg, reduceIte, if_true, if_false, true_or, or_true, false_or, or_false, false_and, and_false, eq_self, not_false_eq_true, not_true_eq_false, true_and, and_true, List.cons_append, List.nil_append, List.append_nil, b2_0, b2_1, b2_01, Classical.not_not]
      · rcases hr with rfl | rfl
        · simp only [Int.reduceAdd, up_at, hj, b2_T, b2_F, Int.reduceEq, Int.reduceLT, Int.reduceLE, Int.reduceAdd, Int.reduceSub, Int.reduceMul, Int.reduceNeg, reduceIte, if_true, if_false, true_or, or_true, false_or, or_false, false_and, and_false, eq_self, not_false_eq_true, not_true_eq_false, true_and, and_true, List.cons_append, List.nil_append, List.append_nil, b2_0, b2_1, b2_01, Classical.not_not] at this ⊢; exact this
        · simp only [Int.reduceAdd, up_at, hj, b2_T, b2_F, Int.reduceEq, Int.reduceLT, Int.reduceLE, Int.reduceAdd, Int.reduceSub, Int.reduceMul, Int.reduceNeg, reduceIte, if_true, if_false, true_or, or_true, false_or, or_false, false_and, and_false, eq_self, not_false_eq_true, not_true_eq_false, true_and, and_true, List.cons_append, List.nil_append, List.append_nil, b2_0, b2_1, b2_01, Classical.not_not] at this ⊢; exact this
  · rw [if_neg (by omega)]
    rw [if_neg y] at er
    unfold xEnt1
    rw [e8, e10]
    refine ⟨fun d hd => ?_, ?_, ?_, ?_, fun j j0 j1 => ?_⟩
    · have := a.nu d hd
      rw [n95]
      rcases hr with rfl | rfl
      · simp only [Int.reduceAdd, up_at, b2_T, b2_F, Int.reduceEq, Int.reduceLT, Int.reduceLE, Int.reduceAdd, Int.reduceSub, Int.reduceMul, Int.reduceNeg, reduceIte, if_true, if_false, true_or, or_true, false_or, or_false, false_and, and_false, eq_self, not_false_eq_true, not_true_eq_false, true_and, and_true, List.cons_append, List.nil_append, List.append_nil, b2_0, b2_1, b2_01, Classical.not_not] at this ⊢; rw [this]
      · simp only [Int.reduceAdd, up_at, b2_T, b2_F, Int.reduceEq, Int.reduceLT, Int.reduceLE, Int.reduceAdd, Int.reduceSub, Int.reduceMul, Int.reduceNeg, reduceIte, if_true, if_false, true_or, or_true, false_or, or_false, false_and, and_false, eq_self, not_false_eq_true, not_true_eq_false, true_and, and_true, List.cons_append, List.nil_append, List.append_nil, b2_0, b2_1, b2_01, Classical.not_not] at this ⊢; rw [this]
    · rw [n70]
      rcases hr with rfl | rfl
      · simp only [Int.reduceAdd, up_at, b2_T, b2_F, Int.reduceEq, Int.reduceLT, Int.reduceLE, Int.reduceAdd, Int.reduceSub, Int.reduceMul, Int.reduceNeg, reduceIte, if_true, if_false, true_or, or_true, false_or, or_false, false_and, and_false, eq_self, not_false_eq_true, not_true_eq_false, true_and, and_true, List.cons_append, List.nil_append, List.append_nil, b2_0, b2_1, b2_01, Classical.not_not]; exact ct
      · simp only [Int.reduceAdd, up_at, b2_T, b2_F, Int.reduceEq, Int.reduceLT, Int.reduceLE, Int.reduceAdd, Int.reduceSub, Int.reduceMul, Int.reduceNeg, reduceIte, if_true, if_false, true_or, or_true, false_or, or_false, false_and, and_false, eq_self, not_false_eq_true, not_true_eq_false, true_and, and_true, List.cons_append, List.nil_append, List.append_nil, b2_0, b2_1, b2_01, Classical.not_not]; exact ct
    · rw [er]
      rcases hr with rfl | rfl
      · simp only [Int.reduceAdd, up_at, b2_T, b2_F, Int.reduceEq, Int.reduceLT, Int.reduceLE, Int.reduceAdd, Int.reduceSub, Int.reduceMul, Int.reduceNeg, reduceIte, if_true, if_false, true_or, or_true, false_or, or_false, false_and, and_false, eq_self, not_false_eq_true, not_true_eq_false, true_and, and_true, List.cons_append, List.nil_append, List.append_nil, b2_0, b2_1, b2_01, Classical.not_not] at ro ⊢; omega
      · simp only [Int.reduceAdd, up_at, b2_T, b2_F, Int.reduceEq, Int.reduceLT, Int.reduceLE, Int.reduceAdd, Int.reduceSub, Int.reduceMul, Int.reduceNeg, reduceIte, if_true, if_false, true_or, or_true, false_or, or_false, false_and, and_false, eq_self, not_false_eq_true, not_true_eq_false, true_and, and_true, List.cons_append, List.nil_append, List.append_nil, b2_0, b2_1, b2_01, Classical.not_not] at ro ⊢; omega
    · rw [n101, n70]
      rcases hr with rfl | rfl
      · simp only [Int.reduceAdd, up_at, b2_T, b2_F, Int.reduceEq, Int.reduceLT, Int.reduceLE, Int.reduceAdd, Int.reduceSub, Int.reduceMul, Int.reduceNeg, reduceIte, if_true, if_false, true_or, or_true, false_or, or_false, false_and, and_false, eq_self, not_false_eq_true, not_true_eq_false, true_and, and_true, List.cons_append, List.nil_append, List.append_nil, b2_0, b2_1, b2_01, Classical.not_not]; exact go
      · simp only [Int.reduceAdd, up_at, b2_T, b2_F, Int.reduceEq, Int.reduceLT, Int.reduceLE, Int.reduceAdd, Int.reduceSub, Int.reduceMul, Int.reduceNeg, reduceIte, if_true, if_false, true_or, or_true, false_or, or_false, false_and, and_false, eq_self, not_false_eq_true, not_true_eq_false, true_and, and_true, List.cons_append, List.nil_append, List.append_nil, b2_0, b2_1, b2_01, Classical.not_not]; exact go
    · rw [n70] at j1
      have := a.ba j j0 j1
      rw [n96, n97, n98, n99, if_neg y]
      by_cases hj : j = n
      · subst hj
        rcases hr with rfl | rfl
        · simp only [Int.reduceAdd, up_at, hw1, b2_T, b2_F, Int.reduceEq, Int.reduceLT, Int.reduceLE, Int.reduceAdd, Int.reduceSub, Int.reduceMul, Int.reduceNeg, reduceIte, if_true, if_false, true_or, or_true, false_or, or_false, false_and, and_false, eq_self, not_false_eq_true, not_true_eq_false, true_and, and_true, List.cons_append, List.nil_append, List.append_nil, b2_0, b2_1, b2_01, Classical.not_not] at bs ⊢; exact bs.2
        · simp only [Int.reduceAdd, up_at, hw1, b2_T, b2_F, Int.reduceEq, Int.reduceLT, Int.reduceLE, Int.reduceAdd, Int.reduceSub, Int.reduceMul, Int.reduceNeg, reduceIte, if_true, if_false, true_or, or_true, false_or, or_false, false_and, and_false, eq_self, not_false_eq_true, not_true_eq_false, true_and, and_true, List.cons_append, List.nil_append, List.append_nil, b2_0, b2_1, b2_01, Classical.not_not] at bs ⊢; exact bs.2
      · rcases hr with rfl | rfl
        · simp only [Int.reduceAdd, up_at, hj, b2_T, b2_F, Int.reduceEq, Int.reduceLT, Int.reduceLE, Int.reduceAdd, Int.reduceSub, Int.reduceMul, Int.reduceNeg, reduceIte, if_true, if_false, true_or, or_true, false_or, or_false, false_and, and_false, eq_self, not_false_eq_true, not_true_eq_false, true_and, and_true, List.cons_append, List.nil_append, List.append_nil, b2_0, b2_1, b2_01, Classical.not_not] at this ⊢; exact this
        · simp only [Int.reduceAdd, up_at, hj, b2_T, b2_F, Int.reduceEq, Int.reduceLT, Int.reduceLE, Int.reduceAdd, Int.reduceSub, Int.reduceMul, Int.reduceNeg, reduceIte, if_true, if_false, true_or, or_true, false_or, or_false, false_and, and_false, eq_self, not_false_eq_true, not_true_eq_false, true_and, and_true, List.cons_append, List.nil_append, List.append_nil, b2_0, b2_1, b2_01, Classical.not_not] at this ⊢; exact this
end RELB
