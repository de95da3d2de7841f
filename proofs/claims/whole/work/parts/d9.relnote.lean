/-! a strike is noted on both sides; strikes in full -/
def xPre (m : Mm) (r : Int) (g : Mm) (c : Int) : Mm :=
  if ¬ hsm g c then up (up (xH m r c) (r + 17) c 1) r 11 (m r 11 + 1)
  else if g 72 c = 8 then (if g 105 (96 * g 70 45 + c) = 0 then up (xR m r c) (r + 15) c (m r 9) else xR m r c)
  else xH m r c
section RELNOTE
variable {m h g q : Mm} {r p n w v k j c s o f i t l ti wy b u a : Int}
theorem xNote_e (hc : ¬ c = -1) : xNote m r g c s k f = xLog (xPre m r g c) r (m r 9) (4 * c + s) k (f + (if hsm g c then 0 else 1) + (if g 72 c = 8 then 4 else 0)) := by
  unfold xNote xPre
  by_cases h1 : hsm g c
  · rw [if_neg (not_not_intro h1), if_neg (not_not_intro h1), if_pos h1]
    by_cases h2 : g 72 c = 8
    · rw [if_pos h2, if_pos h2, if_pos h2, show f + 0 + 4 = f + 4 by omega]
    · rw [if_neg h2, if_neg h2, if_neg h2, show f + 0 + 0 = f by omega]
  · rw [if_pos h1, if_pos h1, if_neg h1]
    by_cases h2 : g 72 c = 8
    · exact absurd ⟨hc, Or.inl (by omega)⟩ h1
    · rw [if_neg h2, show f + 1 + 0 = f + 1 by omega]
theorem pre_f (h1 : ¬ a = r) (h2 : ¬ (r + 13 ≤ a ∧ a ≤ r + 15)) (h3 : ¬ a = r + 17) : xPre m r g c a j = m a j := by
  unfold xPre xR xH
  repeat' split
  all_goals simp only [up_at, h1, show ¬ a = r + 13 by omega, show ¬ a = r + 14 by omega, show ¬ a = r + 15 by omega, h3, b2_T, b2_F, Int.reduceEq, Int.reduceLT, Int.reduceLE, Int.reduceAdd, Int.reduceSub, Int.reduceMul, Int.reduceNeg, reduceIte, if_true, if_false, true_or, or_true, false_or, or_false, false_and, and_false, eq_self, not_false_eq_true, not_true_eq_false, true_and, and_true, List.cons_append, List.nil_append, List.append_nil, b2_0, b2_1, b2_01, Classical.not_not]
theorem pre_r (h1 : ¬ j = 11) (h2 : ¬ j = 12) : xPre m r g c r j = m r j := by
  unfold xPre xR xH
  repeat' split
  all_goals simp only [up_at, h1, h2, show ¬ r = r + 13 by omega, show ¬ r = r + 14 by omega, show ¬ r = r + 15 by omega, show ¬ r = r + 17 by omega, b2_T, b2_F, Int.reduceEq, Int.reduceLT, Int.reduceLE, Int.reduceAdd, Int.reduceSub, Int.reduceMul, Int.reduceNeg, reduceIte, if_true, if_false, true_or, or_true, false_or, or_false, false_and, and_false, eq_self, not_false_eq_true, not_true_eq_false, true_and, and_true, List.cons_append, List.nil_append, List.append_nil, b2_0, b2_1, b2_01, Classical.not_not]
theorem pre_11 : xPre m r g c r 11 = m r 11 + if hsm g c then 0 else 1 := by
  unfold xPre xR xH
  by_cases h : hsm g c
  · rw [if_neg (not_not_intro h), if_pos h]
    repeat' split
    all_goals simp only [up_at, Int.add_zero, show ¬ r = r + 13 by omega, show ¬ r = r + 14 by omega, show ¬ r = r + 15 by omega, b2_T, b2_F, Int.reduceEq, Int.reduceLT, Int.reduceLE, Int.reduceAdd, Int.reduceSub, Int.reduceMul, Int.reduceNeg, reduceIte, if_true, if_false, true_or, or_true, false_or, or_false, false_and, and_false, eq_self, not_false_eq_true, not_true_eq_false, true_and, and_true, List.cons_append, List.nil_append, List.append_nil, b2_0, b2_1, b2_01, Classical.not_not]
  · rw [if_pos h, if_neg h]
    simp only [up_at, b2_T, b2_F, Int.reduceEq, Int.reduceLT, Int.reduceLE, Int.reduceAdd, Int.reduceSub, Int.reduceMul, Int.reduceNeg, reduceIte, if_true, if_false, true_or, or_true, false_or, or_false, false_and, and_false, eq_self, not_false_eq_true, not_true_eq_false, true_and, and_true, List.cons_append, List.nil_append, List.append_nil, b2_0, b2_1, b2_01, Classical.not_not]
theorem pre_12 (hc : ¬ c = -1) : xPre m r g c r 12 = m r 12 + if g 72 c = 8 then 1 else 0 := by
  unfold xPre xR xH
  by_cases h : hsm g c
  · rw [if_neg (not_not_intro h)]
    by_cases h8 : g 72 c = 8
    · rw [if_pos h8, if_pos h8]
      split <;> simp only [up_at, show ¬ r = r + 13 by omega, show ¬ r = r + 14 by omega, show ¬ r = r + 15 by omega, b2_T, b2_F, Int.reduceEq, Int.reduceLT, Int.reduceLE, Int.reduceAdd, Int.reduceSub, Int.reduceMul, Int.reduceNeg, reduceIte, if_true, if_false, true_or, or_true, false_or, or_false, false_and, and_false, eq_self, not_false_eq_true, not_true_eq_false, true_and, and_true, List.cons_append, List.nil_append, List.append_nil, b2_0, b2_1, b2_01, Classical.not_not]
    · rw [if_neg h8, if_neg h8]
      simp only [up_at, Int.add_zero, show ¬ r = r + 13 by omega, b2_T, b2_F, Int.reduceEq, Int.reduceLT, Int.reduceLE, Int.reduceAdd, Int.reduceSub, Int.reduceMul, Int.reduceNeg, reduceIte, if_true, if_false, true_or, or_true, false_or, or_false, false_and, and_false, eq_self, not_false_eq_true, not_true_eq_false, true_and, and_true, List.cons_append, List.nil_append, List.append_nil, b2_0, b2_1, b2_01, Classical.not_not]
  · rw [if_pos h]
    have h8 : ¬ g 72 c = 8 := fun x => h ⟨hc, Or.inl (by omega)⟩
    rw [if_neg h8]
    simp only [up_at, Int.add_zero, show ¬ r = r + 13 by omega, show ¬ r = r + 17 by omega, b2_T, b2_F, Int.reduceEq, Int.reduceLT, Int.reduceLE, Int.reduceAdd, Int.reduceSub, Int.reduceMul, Int.reduceNeg, reduceIte, if_true, if_false, true_or, or_true, false_or, or_false, false_and, and_false, eq_self, not_false_eq_true, not_true_eq_false, true_and, and_true, List.cons_append, List.nil_append, List.append_nil, b2_0, b2_1, b2_01, Classical.not_not]
theorem pre_13 : xPre m r g c (r + 13) j = if j = c then m (r + 13) c + 1 else m (r + 13) j := by
  unfold xPre xR xH
  repeat' split
  all_goals simp only [up_at, show ¬ r + 13 = r by omega, Int.add_right_inj, *, b2_T, b2_F, Int.reduceEq, Int.reduceLT, Int.reduceLE, Int.reduceAdd, Int.reduceSub, Int.reduceMul, Int.reduceNeg, reduceIte, if_true, if_false, true_or, or_true, false_or, or_false, false_and, and_false, eq_self, not_false_eq_true, not_true_eq_false, true_and, and_true, List.cons_append, List.nil_append, List.append_nil, b2_0, b2_1, b2_01, Classical.not_not]
theorem pre_14 (hc : ¬ c = -1) : xPre m r g c (r + 14) j = if g 72 c = 8 ∧ j = c then m (r + 14) c + 1 else m (r + 14) j := by
  unfold xPre xR xH
  by_cases h : hsm g c
  · rw [if_neg (not_not_intro h)]
    by_cases h8 : g 72 c = 8
    · rw [if_pos h8]
      split <;> simp only [up_at, show ¬ r + 14 = r by omega, Int.add_right_inj, h8, b2_T, b2_F, Int.reduceEq, Int.reduceLT, Int.reduceLE, Int.reduceAdd, Int.reduceSub, Int.reduceMul, Int.reduceNeg, reduceIte, if_true, if_false, true_or, or_true, false_or, or_false, false_and, and_false, eq_self, not_false_eq_true, not_true_eq_false, true_and, and_true, List.cons_append, List.nil_append, List.append_nil, b2_0, b2_1, b2_01, Classical.not_not]
    · rw [if_neg h8, if_neg (fun x => h8 x.1)]
      simp only [up_at, Int.add_right_inj, b2_T, b2_F, Int.reduceEq, Int.reduceLT, Int.reduceLE, Int.reduceAdd, Int.reduceSub, Int.reduceMul, Int.reduceNeg, reduceIte, if_true, if_false, true_or, or_true, false_or, or_false, false_and, and_false, eq_self, not_false_eq_true, not_true_eq_false, true_and, and_true, List.cons_append, List.nil_append, List.append_nil, b2_0, b2_1, b2_01, Classical.not_not]
  · rw [if_pos h]
    have h8 : ¬ g 72 c = 8 := fun x => h ⟨hc, Or.inl (by omega)⟩
    rw [if_neg (fun x => h8 x.1)]
    simp only [up_at, show ¬ r + 14 = r by omega, Int.add_right_inj, b2_T, b2_F, Int.reduceEq, Int.reduceLT, Int.reduceLE, Int.reduceAdd, Int.reduceSub, Int.reduceMul, Int.reduceNeg, reduceIte, if_true, if_false, true_or, or_true, false_or, or_false, false_and, and_false, eq_self, not_false_eq_true, not_true_eq_false, true_and, and_true, List.cons_append, List.nil_append, List.append_nil, b2_0, b2_1, b2_01, Classical.not_not]
theorem pre_15 (hc : ¬ c = -1) : xPre m r g c (r + 15) j = if (g 72 c = 8 ∧ g 105 (96 * g 70 45 + c) = 0) ∧ j = c then m r 9 else m (r + 15) j := by
  unfold xPre xR xH
  by_cases h : hsm g c
  · rw [if_neg (not_not_intro h)]
    by_cases h8 : g 72 c = 8
    · rw [if_pos h8]
      by_cases h9 : g 105 (96 * g 70 45 + c) = 0
      · rw [if_pos h9]
        simp only [up_at, show ¬ r + 15 = r by omega, Int.add_right_inj, h8, h9, b2_T, b2_F, Int.reduceEq, Int.reduceLT, Int.reduceLE, Int.reduceAdd, Int.reduceSub, Int.reduceMul, Int.reduceNeg, reduceIte, if_true, if_false, true_or, or_true, false_or, or_false, false_and, and_false, eq_self, not_false_eq_true, not_true_eq_false, true_and, and_true, List.cons_append, List.nil_append, List.append_nil, b2_0, b2_1, b2_01, Classical.not_not]
      · rw [if_neg h9, if_neg (fun x => h9 x.1.2)]
        simp only [up_at, show ¬ r + 15 = r by omega, Int.add_right_inj, b2_T, b2_F, Int.reduceEq, Int.reduceLT, Int.reduceLE, Int.reduceAdd, Int.reduceSub, Int.reduceMul, Int.reduceNeg, reduceIte, if_true, if_false, true_or, or_true, false_or, or_false, false_and, and_false, eq_self, not_false_eq_true, not_true_eq_false, true_and, and_true, List.cons_append, List.nil_append, List.append_nil, b2_0, b2_1, b2_01, Classical.not_not]
    · rw [if_neg h8, if_neg (fun x => h8 x.1.1)]
      simp only [up_at, Int.add_right_inj, b2_T, b2_F, Int.reduceEq, Int.reduceLT, Int.reduceLE, Int.reduceAdd, Int.reduceSub, Int.reduceMul, Int.reduceNeg, reduceIte, if_true, if_false, true_or, or_true, false_or, or_false, false_and, and_false, eq_self, not_false_eq_true, not_true_eq_false, true_and, and_true, List.cons_append, List.nil_append, List.append_nil, b2_0, b2_1, b2_01, Classical.not_not]
  · rw [if_pos h]
    have h8 : ¬ g 72 c = 8 := fun x => h ⟨hc, Or.inl (by omega)⟩
    rw [if_neg (fun x => h8 x.1.1)]
    simp only [up_at, show ¬ r + 15 = r by omega, Int.add_right_inj, b2_T, b2_F, Int.reduceEq, Int.reduceLT, Int.reduceLE, Int.reduceAdd, Int.reduceSub, Int.reduceMul, Int.reduceNeg, reduceIte, if_true, if_false, true_or, or_true, false_or, or_false, false_and, and_false, eq_self, not_false_eq_true, not_true_eq_false, true_and, and_true, List.cons_append, List.nil_append, List.append_nil, b2_0, b2_1, b2_01, Classical.not_not]
theorem pre_17 : xPre m r g c (r + 17) j = if ¬ hsm g c ∧ j = c then 1 else m (r + 17) j := by
  unfold xPre xR xH
  by_cases h : hsm g c
  · have e : (if ¬ hsm g c ∧ j = c then (1 : Int) else m (r + 17) j) = m (r + 17) j := if_neg (fun x => x.1 h)
    rw [e, if_neg (not_not_intro h)]
    repeat' split
    all_goals simp only [up_at, show ¬ r + 17 = r by omega, Int.add_right_inj, b2_T, b2_F, Int.reduceEq, Int.reduceLT, Int.reduceLE, Int.reduceAdd, Int.reduceSub, Int.reduceMul, Int.reduceNeg, reduceIte, if_true, if_false, true_or, or_true, false_or, or_false, false_and, and_false, eq_self, not_false_eq_true, not_true_eq_false, true_and, and_true, List.cons_append, List.nil_append, List.append_nil, b2_0, b2_1, b2_01, Classical.not_not]
  · rw [if_pos h]
    by_cases hj : j = c
    · rw [if_pos ⟨h, hj⟩]
      simp only [up_at, show ¬ r + 17 = r by omega, hj, b2_T, b2_F, Int.reduceEq, Int.reduceLT, Int.reduceLE, Int.reduceAdd, Int.reduceSub, Int.reduceMul, Int.reduceNeg, reduceIte, if_true, if_false, true_or, or_true, false_or, or_false, false_and, and_false, eq_self, not_false_eq_true, not_true_eq_false, true_and, and_true, List.cons_append, List.nil_append, List.append_nil, b2_0, b2_1, b2_01, Classical.not_not]
    · rw [if_neg (fun x => hj x.2)]
      simp only [up_at, show ¬ r + 17 = r by omega, Int.add_right_inj, hj, b2_T, b2_F, Int.reduceEq, Int.reduceLT, Int.reduceLE, Int.reduceAdd, Int.reduceSub, Int.reduceMul, Int.reduceNeg, reduceIte, if_true, if_false, true_or, or_true, false_or, or_false, false_and, and_false, eq_self, not_false_eq_true, not_true_eq_false, true_and, and_true, List.cons_append, List.nil_append, List.append_nil, b2_0, b2_1, b2_01, Classical.not_not]
theorem Sh_pre (S : Sh m) (hr : r = 34 ∨ r = 52) : Sh (xPre m r g c) := by
  have S1 : Sh (xH m r c) := by
    rcases hr with rfl | rfl
    · exact Sh_ar S (by decide)
    · exact Sh_ar S (by decide)
  have S2 : Sh (xR m r c) := by
    rcases hr with rfl | rfl
    · exact Sh.up (Sh_ar S1 (by decide)) (by decide)
    · exact Sh.up (Sh_ar S1 (by decide)) (by decide)
  unfold xPre
  split
  · rcases hr with rfl | rfl
    · exact Sh.up (Sh_ar S1 (by decide)) (by decide)
    · exact Sh.up (Sh_ar S1 (by decide)) (by decide)
  · split
    · split
      · rcases hr with rfl | rfl
        · exact Sh_ar S2 (by decide)
        · exact Sh_ar S2 (by decide)
      · exact S2
    · exact S1
theorem log_f {z : Int} (h : ¬ (r + 1 ≤ a ∧ a ≤ r + 5)) : xLog m r w z k f a j = m a j := by
  unfold xLog
  split <;> simp only [up_at, show ¬ a = r + 1 by omega, show ¬ a = r + 2 by omega, show ¬ a = r + 3 by omega, show ¬ a = r + 4 by omega, show ¬ a = r + 5 by omega, b2_T, b2_F, Int.reduceEq, Int.reduceLT, Int.reduceLE, Int.reduceAdd, Int.reduceSub, Int.reduceMul, Int.reduceNeg, reduceIte, if_true, if_false, true_or, or_true, false_or, or_false, false_and, and_false, eq_self, not_false_eq_true, not_true_eq_false, true_and, and_true, List.cons_append, List.nil_append, List.append_nil, b2_0, b2_1, b2_01, Classical.not_not]
theorem log_1 {z : Int} : xLog m r w z k f (r + 1) 4 = m (r + 1) 4 + 1 := by
  unfold xLog
  split <;> simp only [up_at, Int.add_right_inj, b2_T, b2_F, Int.reduceEq, Int.reduceLT, Int.reduceLE, Int.reduceAdd, Int.reduceSub, Int.reduceMul, Int.reduceNeg, reduceIte, if_true, if_false, true_or, or_true, false_or, or_false, false_and, and_false, eq_self, not_false_eq_true, not_true_eq_false, true_and, and_true, List.cons_append, List.nil_append, List.append_nil, b2_0, b2_1, b2_01, Classical.not_not]
theorem log_2 {z : Int} : xLog m r w z k f (r + 2) j = if m (r + 1) 4 < LL r ∧ j = m (r + 1) 4 then w else m (r + 2) j := by
  unfold xLog
  by_cases h : m (r + 1) 4 < LL r
  · rw [if_pos h]
    simp only [up_at, Int.add_right_inj, eq_true h, b2_T, b2_F, Int.reduceEq, Int.reduceLT, Int.reduceLE, Int.reduceAdd, Int.reduceSub, Int.reduceMul, Int.reduceNeg, reduceIte, if_true, if_false, true_or, or_true, false_or, or_false, false_and, and_false, eq_self, not_false_eq_true, not_true_eq_false, true_and, and_true, List.cons_append, List.nil_append, List.append_nil, b2_0, b2_1, b2_01, Classical.not_not]
  · rw [if_neg h, if_neg (fun x => h x.1)]
    simp only [up_at, Int.add_right_inj, b2_T, b2_F, Int.reduceEq, Int.reduceLT, Int.reduceLE, Int.reduceAdd, Int.reduceSub, Int.reduceMul, Int.reduceNeg, reduceIte, if_true, if_false, true_or, or_true, false_or, or_false, false_and, and_false, eq_self, not_false_eq_true, not_true_eq_false, true_and, and_true, List.cons_append, List.nil_append, List.append_nil, b2_0, b2_1, b2_01, Classical.not_not]
theorem log_3 {z : Int} : xLog m r w z k f (r + 3) j = if m (r + 1) 4 < LL r ∧ j = m (r + 1) 4 then z else m (r + 3) j := by
  unfold xLog
  by_cases h : m (r + 1) 4 < LL r
  · rw [if_pos h]
    simp only [up_at, Int.add_right_inj, eq_true h, b2_T, b2_F, Int.reduceEq, Int.reduceLT, Int.reduceLE, Int.reduceAdd, Int.reduceSub, Int.reduceMul, Int.reduceNeg, reduceIte, if_true, if_false, true_or, or_true, false_or, or_false, false_and, and_false, eq_self, not_false_eq_true, not_true_eq_false, true_and, and_true, List.cons_append, List.nil_append, List.append_nil, b2_0, b2_1, b2_01, Classical.not_not]
  · rw [if_neg h, if_neg (fun x => h x.1)]
    simp only [up_at, Int.add_right_inj, b2_T, b2_F, Int.reduceEq, Int.reduceLT, Int.reduceLE, Int.reduceAdd, Int.reduceSub, Int.reduceMul, Int.reduceNeg, reduceIte, if_true, if_false, true_or, or_true, false_or, or_false, false_and, and_false, eq_self, not_false_eq_true, not_true_eq_false, true_and, and_true, List.cons_append, List.nil_append, List.append_nil, b2_0, b2_1, b2_01, Classical.not_not]
theorem log_4 {z : Int} : xLog m r w z k f (r + 4) j = if m (r + 1) 4 < LL r ∧ j = m (r + 1) 4 then k else m (r + 4) j := by
  unfold xLog
  by_cases h : m (r + 1) 4 < LL r
  · rw [if_pos h]
    simp only [up_at, Int.add_right_inj, eq_true h, b2_T, b2_F, Int.reduceEq, Int.reduceLT, Int.reduceLE, Int.reduceAdd, Int.reduceSub, Int.reduceMul, Int.reduceNeg, reduceIte, if_true, if_false, true_or, or_true, false_or, or_false, false_and, and_false, eq_self, not_false_eq_true, not_true_eq_false, true_and, and_true, List.cons_append, List.nil_append, List.append_nil, b2_0, b2_1, b2_01, Classical.not_not]
  · rw [if_neg h, if_neg (fun x => h x.1)]
    simp only [up_at, Int.add_right_inj, b2_T, b2_F, Int.reduceEq, Int.reduceLT, Int.reduceLE, Int.reduceAdd, Int.reduceSub, Int.reduceMul, Int.reduceNeg, reduceIte, if_true, if_false, true_or, or_true, false_or, or_false, false_and, and_false, eq_self, not_false_eq_true, not_true_eq_false, true_and, and_true, List.cons_append, List.nil_append, List.append_nil, b2_0, b2_1, b2_01, Classical.not_not]
theorem log_5 {z : Int} : xLog m r w z k f (r + 5) j = if m (r + 1) 4 < LL r ∧ j = m (r + 1) 4 then f else m (r + 5) j := by
  unfold xLog
  by_cases h : m (r + 1) 4 < LL r
  · rw [if_pos h]
    simp only [up_at, Int.add_right_inj, eq_true h, b2_T, b2_F, Int.reduceEq, Int.reduceLT, Int.reduceLE, Int.reduceAdd, Int.reduceSub, Int.reduceMul, Int.reduceNeg, reduceIte, if_true, if_false, true_or, or_true, false_or, or_false, false_and, and_false, eq_self, not_false_eq_true, not_true_eq_false, true_and, and_true, List.cons_append, List.nil_append, List.append_nil, b2_0, b2_1, b2_01, Classical.not_not]
  · rw [if_neg h, if_neg (fun x => h x.1)]
    simp only [up_at, Int.add_right_inj, b2_T, b2_F, Int.reduceEq, Int.reduceLT, Int.reduceLE, Int.reduceAdd, Int.reduceSub, Int.reduceMul, Int.reduceNeg, reduceIte, if_true, if_false, true_or, or_true, false_or, or_false, false_and, and_false, eq_self, not_false_eq_true, not_true_eq_false, true_and, and_true, List.cons_append, List.nil_append, List.append_nil, b2_0, b2_1, b2_01, Classical.not_not]
theorem Sh_log {z : Int} (S : Sh m) (hr : r = 34 ∨ r = 52) : Sh (xLog m r w z k f) := by
  unfold xLog
  split
  · rcases hr with rfl | rfl
    · exact Sh_ar (Sh_ar (Sh_ar (Sh_ar (Sh.up S (by decide)) (by decide)) (by decide)) (by decide)) (by decide)
    · exact Sh_ar (Sh_ar (Sh_ar (Sh_ar (Sh.up S (by decide)) (by decide)) (by decide)) (by decide)) (by decide)
  · rcases hr with rfl | rfl
    · exact Sh.up S (by decide)
    · exact Sh.up S (by decide)
end RELNOTE
