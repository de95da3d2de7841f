/-! a strike is set, on both sides -/
section RELQ
variable {m h g : Mm} {r p t c s k l j b w v : Int}
theorem ad86 (hc : ¬ c = -1) : mAdd g t c s k l 86 j = if j = g 70 24 then c else g 86 j := by
  unfold mAdd
  rw [if_neg hc]
  by_cases h1 : g 91 t = -1
  · simp only [if_pos h1, up_at, b2_T, b2_F, Int.reduceEq, Int.reduceLT, Int.reduceLE, Int.reduceAdd, Int.reduceSub, Int.reduceMul, Int.reduceNeg, reduceIte, if_true, if_false, true_or, or_true, false_or, or_false, false_and, and_false, eq_self, not_false_eq_true, not_true_eq_false, true_and, and_true, List.cons_append, List.nil_append, List.append_nil, b2_0, b2_1, b2_01, Classical.not_not]
  · simp only [if_neg h1, up_at, b2_T, b2_F, Int.reduceEq, Int.reduceLT, Int.reduceLE, Int.reduceAdd, Int.reduceSub, Int.reduceMul, Int.reduceNeg, reduceIte, if_true, if_false, true_or, or_true, false_or, or_false, false_and, and_false, eq_self, not_false_eq_true, not_true_eq_false, true_and, and_true, List.cons_append, List.nil_append, List.append_nil, b2_0, b2_1, b2_01, Classical.not_not]
theorem ad87 (hc : ¬ c = -1) : mAdd g t c s k l 87 j = if j = g 70 24 then s else g 87 j := by
  unfold mAdd
  rw [if_neg hc]
  by_cases h1 : g 91 t = -1
  · simp only [if_pos h1, up_at, b2_T, b2_F, Int.reduceEq, Int.reduceLT, Int.reduceLE, Int.reduceAdd, Int.reduceSub, Int.reduceMul, Int.reduceNeg, reduceIte, if_true, if_false, true_or, or_true, false_or, or_false, false_and, and_false, eq_self, not_false_eq_true, not_true_eq_false, true_and, and_true, List.cons_append, List.nil_append, List.append_nil, b2_0, b2_1, b2_01, Classical.not_not]
  · simp only [if_neg h1, up_at, b2_T, b2_F, Int.reduceEq, Int.reduceLT, Int.reduceLE, Int.reduceAdd, Int.reduceSub, Int.reduceMul, Int.reduceNeg, reduceIte, if_true, if_false, true_or, or_true, false_or, or_false, false_and, and_false, eq_self, not_false_eq_true, not_true_eq_false, true_and, and_true, List.cons_append, List.nil_append, List.append_nil, b2_0, b2_1, b2_01, Classical.not_not]
theorem ad88 (hc : ¬ c = -1) : mAdd g t c s k l 88 j = if j = g 70 24 then k else g 88 j := by
  unfold mAdd
  rw [if_neg hc]
  by_cases h1 : g 91 t = -1
  · simp only [if_pos h1, up_at, b2_T, b2_F, Int.reduceEq, Int.reduceLT, Int.reduceLE, Int.reduceAdd, Int.reduceSub, Int.reduceMul, Int.reduceNeg, reduceIte, if_true, if_false, true_or, or_true, false_or, or_false, false_and, and_false, eq_self, not_false_eq_true, not_true_eq_false, true_and, and_true, List.cons_append, List.nil_append, List.append_nil, b2_0, b2_1, b2_01, Classical.not_not]
  · simp only [if_neg h1, up_at, b2_T, b2_F, Int.reduceEq, Int.reduceLT, Int.reduceLE, Int.reduceAdd, Int.reduceSub, Int.reduceMul, Int.reduceNeg, reduceIte, if_true, if_false, true_or, or_true, false_or, or_false, false_and, and_false, eq_self, not_false_eq_true, not_true_eq_false, true_and, and_true, List.cons_append, List.nil_append, List.append_nil, b2_0, b2_1, b2_01, Classical.not_not]
theorem ad89 (hc : ¬ c = -1) : mAdd g t c s k l 89 j = if j = g 70 24 then l else g 89 j := by
  unfold mAdd
  rw [if_neg hc]
  by_cases h1 : g 91 t = -1
  · simp only [if_pos h1, up_at, b2_T, b2_F, Int.reduceEq, Int.reduceLT, Int.reduceLE, Int.reduceAdd, Int.reduceSub, Int.reduceMul, Int.reduceNeg, reduceIte, if_true, if_false, true_or, or_true, false_or, or_false, false_and, and_false, eq_self, not_false_eq_true, not_true_eq_false, true_and, and_true, List.cons_append, List.nil_append, List.append_nil, b2_0, b2_1, b2_01, Classical.not_not]
  · simp only [if_neg h1, up_at, b2_T, b2_F, Int.reduceEq, Int.reduceLT, Int.reduceLE, Int.reduceAdd, Int.reduceSub, Int.reduceMul, Int.reduceNeg, reduceIte, if_true, if_false, true_or, or_true, false_or, or_false, false_and, and_false, eq_self, not_false_eq_true, not_true_eq_false, true_and, and_true, List.cons_append, List.nil_append, List.append_nil, b2_0, b2_1, b2_01, Classical.not_not]
theorem ad90 (hc : ¬ c = -1) : mAdd g t c s k l 90 j = if ¬ g 91 t = -1 ∧ j = g 92 t then g 70 24 else if j = g 70 24 then -1 else g 90 j := by
  unfold mAdd
  rw [if_neg hc]
  by_cases h1 : g 91 t = -1
  · simp only [if_pos h1, up_at, h1, b2_T, b2_F, Int.reduceEq, Int.reduceLT, Int.reduceLE, Int.reduceAdd, Int.reduceSub, Int.reduceMul, Int.reduceNeg, reduceIte, if_true, if_false, true_or, or_true, false_or, or_false, false_and, and_false, eq_self, not_false_eq_true, not_true_eq_false, true_and, and_true, List.cons_append, List.nil_append, List.append_nil, b2_0, b2_1, b2_01, Classical.not_not]
  · simp only [if_neg h1, up_at, h1, b2_T, b2_F, Int.reduceEq, Int.reduceLT, Int.reduceLE, Int.reduceAdd, Int.reduceSub, Int.reduceMul, Int.reduceNeg, reduceIte, if_true, if_false, true_or, or_true, false_or, or_false, false_and, and_false, eq_self, not_false_eq_true, not_true_eq_false, true_and, and_true, List.cons_append, List.nil_append, List.append_nil, b2_0, b2_1, b2_01, Classical.not_not]
theorem ad91 (hc : ¬ c = -1) : mAdd g t c s k l 91 j = if g 91 t = -1 ∧ j = t then g 70 24 else g 91 j := by
  unfold mAdd
  rw [if_neg hc]
  by_cases h1 : g 91 t = -1
  · simp only [if_pos h1, up_at, h1, b2_T, b2_F, Int.reduceEq, Int.reduceLT, Int.reduceLE, Int.reduceAdd, Int.reduceSub, Int.reduceMul, Int.reduceNeg, reduceIte, if_true, if_false, true_or, or_true, false_or, or_false, false_and, and_false, eq_self, not_false_eq_true, not_true_eq_false, true_and, and_true, List.cons_append, List.nil_append, List.append_nil, b2_0, b2_1, b2_01, Classical.not_not]
  · simp only [if_neg h1, up_at, h1, b2_T, b2_F, Int.reduceEq, Int.reduceLT, Int.reduceLE, Int.reduceAdd, Int.reduceSub, Int.reduceMul, Int.reduceNeg, reduceIte, if_true, if_false, true_or, or_true, false_or, or_false, false_and, and_false, eq_self, not_false_eq_true, not_true_eq_false, true_and, and_true, List.cons_append, List.nil_append, List.append_nil, b2_0, b2_1, b2_01, Classical.not_not]
theorem ad92 (hc : ¬ c = -1) : mAdd g t c s k l 92 j = if j = t then g 70 24 else g 92 j := by
  unfold mAdd
  rw [if_neg hc]
  by_cases h1 : g 91 t = -1
  · simp only [if_pos h1, up_at, b2_T, b2_F, Int.reduceEq, Int.reduceLT, Int.reduceLE, Int.reduceAdd, Int.reduceSub, Int.reduceMul, Int.reduceNeg, reduceIte, if_true, if_false, true_or, or_true, false_or, or_false, false_and, and_false, eq_self, not_false_eq_true, not_true_eq_false, true_and, and_true, List.cons_append, List.nil_append, List.append_nil, b2_0, b2_1, b2_01, Classical.not_not]
  · simp only [if_neg h1, up_at, b2_T, b2_F, Int.reduceEq, Int.reduceLT, Int.reduceLE, Int.reduceAdd, Int.reduceSub, Int.reduceMul, Int.reduceNeg, reduceIte, if_true, if_false, true_or, or_true, false_or, or_false, false_and, and_false, eq_self, not_false_eq_true, not_true_eq_false, true_and, and_true, List.cons_append, List.nil_append, List.append_nil, b2_0, b2_1, b2_01, Classical.not_not]
abbrev XB (m : Mm) (t : Int) : Prop := 0 ≤ m 29 t ∧ m 29 t < m 27 6
theorem xa31 (ht : t < 400) : xAdd m t p k l 31 j = if j = m 27 6 then p else m 31 j := by
  unfold xAdd
  rw [if_pos ht]
  by_cases h1 : XB m t
  · simp only [if_pos h1, up_at, b2_T, b2_F, Int.reduceEq, Int.reduceLT, Int.reduceLE, Int.reduceAdd, Int.reduceSub, Int.reduceMul, Int.reduceNeg, reduceIte, if_true, if_false, true_or, or_true, false_or, or_false, false_and, and_false, eq_self, not_false_eq_true, not_true_eq_false, true_and, and_true, List.cons_append, List.nil_append, List.append_nil, b2_0, b2_1, b2_01, Classical.not_not]
  · simp only [if_neg h1, up_at, b2_T, b2_F, Int.reduceEq, Int.reduceLT, Int.reduceLE, Int.reduceAdd, Int.reduceSub, Int.reduceMul, Int.reduceNeg, reduceIte, if_true, if_false, true_or, or_true, false_or, or_false, false_and, and_false, eq_self, not_false_eq_true, not_true_eq_false, true_and, and_true, List.cons_append, List.nil_append, List.append_nil, b2_0, b2_1, b2_01, Classical.not_not]
theorem xa32 (ht : t < 400) : xAdd m t p k l 32 j = if j = m 27 6 then k else m 32 j := by
  unfold xAdd
  rw [if_pos ht]
  by_cases h1 : XB m t
  · simp only [if_pos h1, up_at, b2_T, b2_F, Int.reduceEq, Int.reduceLT, Int.reduceLE, Int.reduceAdd, Int.reduceSub, Int.reduceMul, Int.reduceNeg, reduceIte, if_true, if_false, true_or, or_true, false_or, or_false, false_and, and_false, eq_self, not_false_eq_true, not_true_eq_false, true_and, and_true, List.cons_append, List.nil_append, List.append_nil, b2_0, b2_1, b2_01, Classical.not_not]
  · simp only [if_neg h1, up_at, b2_T, b2_F, Int.reduceEq, Int.reduceLT, Int.reduceLE, Int.reduceAdd, Int.reduceSub, Int.reduceMul, Int.reduceNeg, reduceIte, if_true, if_false, true_or, or_true, false_or, or_false, false_and, and_false, eq_self, not_false_eq_true, not_true_eq_false, true_and, and_true, List.cons_append, List.nil_append, List.append_nil, b2_0, b2_1, b2_01, Classical.not_not]
theorem xa33 (ht : t < 400) : xAdd m t p k l 33 j = if j = m 27 6 then l else m 33 j := by
  unfold xAdd
  rw [if_pos ht]
  by_cases h1 : XB m t
  · simp only [if_pos h1, up_at, b2_T, b2_F, Int.reduceEq, Int.reduceLT, Int.reduceLE, Int.reduceAdd, Int.reduceSub, Int.reduceMul, Int.reduceNeg, reduceIte, if_true, if_false, true_or, or_true, false_or, or_false, false_and, and_false, eq_self, not_false_eq_true, not_true_eq_false, true_and, and_true, List.cons_append, List.nil_append, List.append_nil, b2_0, b2_1, b2_01, Classical.not_not]
  · simp only [if_neg h1, up_at, b2_T, b2_F, Int.reduceEq, Int.reduceLT, Int.reduceLE, Int.reduceAdd, Int.reduceSub, Int.reduceMul, Int.reduceNeg, reduceIte, if_true, if_false, true_or, or_true, false_or, or_false, false_and, and_false, eq_self, not_false_eq_true, not_true_eq_false, true_and, and_true, List.cons_append, List.nil_append, List.append_nil, b2_0, b2_1, b2_01, Classical.not_not]
theorem xa30 (ht : t < 400) : xAdd m t p k l 30 j = if XB m t ∧ j = m 29 t then m 27 6 else if j = m 27 6 then -1 else m 30 j := by
  unfold xAdd
  rw [if_pos ht]
  by_cases h1 : XB m t
  · simp only [if_pos h1, up_at, eq_true h1, b2_T, b2_F, Int.reduceEq, Int.reduceLT, Int.reduceLE, Int.reduceAdd, Int.reduceSub, Int.reduceMul, Int.reduceNeg, reduceIte, if_true, if_false, true_or, or_true, false_or, or_false, false_and, and_false, eq_self, not_false_eq_true, not_true_eq_false, true_and, and_true, List.cons_append, List.nil_append, List.append_nil, b2_0, b2_1, b2_01, Classical.not_not]
  · simp only [if_neg h1, up_at, eq_false h1, b2_T, b2_F, Int.reduceEq, Int.reduceLT, Int.reduceLE, Int.reduceAdd, Int.reduceSub, Int.reduceMul, Int.reduceNeg, reduceIte, if_true, if_false, true_or, or_true, false_or, or_false, false_and, and_false, eq_self, not_false_eq_true, not_true_eq_false, true_and, and_true, List.cons_append, List.nil_append, List.append_nil, b2_0, b2_1, b2_01, Classical.not_not]
theorem xa28 (ht : t < 400) : xAdd m t p k l 28 j = if ¬ XB m t ∧ j = t then m 27 6 else m 28 j := by
  unfold xAdd
  rw [if_pos ht]
  by_cases h1 : XB m t
  · simp only [if_pos h1, up_at, eq_true h1, b2_T, b2_F, Int.reduceEq, Int.reduceLT, Int.reduceLE, Int.reduceAdd, Int.reduceSub, Int.reduceMul, Int.reduceNeg, reduceIte, if_true, if_false, true_or, or_true, false_or, or_false, false_and, and_false, eq_self, not_false_eq_true, not_true_eq_false, true_and, and_true, List.cons_append, List.nil_append, List.append_nil, b2_0, b2_1, b2_01, Classical.not_not]
  · simp only [if_neg h1, up_at, eq_false h1, b2_T, b2_F, Int.reduceEq, Int.reduceLT, Int.reduceLE, Int.reduceAdd, Int.reduceSub, Int.reduceMul, Int.reduceNeg, reduceIte, if_true, if_false, true_or, or_true, false_or, or_false, false_and, and_false, eq_self, not_false_eq_true, not_true_eq_false, true_and, and_true, List.cons_append, List.nil_append, List.append_nil, b2_0, b2_1, b2_01, Classical.not_not]
theorem xa29 (ht : t < 400) : xAdd m t p k l 29 j = if j = t then m 27 6 else m 29 j := by
  unfold xAdd
  rw [if_pos ht]
  by_cases h1 : XB m t
  · simp only [if_pos h1, up_at, b2_T, b2_F, Int.reduceEq, Int.reduceLT, Int.reduceLE, Int.reduceAdd, Int.reduceSub, Int.reduceMul, Int.reduceNeg, reduceIte, if_true, if_false, true_or, or_true, false_or, or_false, false_and, and_false, eq_self, not_false_eq_true, not_true_eq_false, true_and, and_true, List.cons_append, List.nil_append, List.append_nil, b2_0, b2_1, b2_01, Classical.not_not]
  · simp only [if_neg h1, up_at, b2_T, b2_F, Int.reduceEq, Int.reduceLT, Int.reduceLE, Int.reduceAdd, Int.reduceSub, Int.reduceMul, Int.reduceNeg, reduceIte, if_true, if_false, true_or, or_true, false_or, or_false, false_and, and_false, eq_self, not_false_eq_true, not_true_eq_false, true_and, and_true, List.cons_append, List.nil_append, List.append_nil, b2_0, b2_1, b2_01, Classical.not_not]
theorem xa6 (ht : t < 400) : xAdd m t p k l 27 6 = m 27 6 + 1 := by
  unfold xAdd
  rw [if_pos ht]
  simp only [up_at, b2_T, b2_F, Int.reduceEq, Int.reduceLT, Int.reduceLE, Int.reduceAdd, Int.reduceSub, Int.reduceMul, Int.reduceNeg, reduceIte, if_true, if_false, true_or, or_true, false_or, or_false, false_and, and_false, eq_self, not_false_eq_true, not_true_eq_false, true_and, and_true, List.cons_append, List.nil_append, List.append_nil, b2_0, b2_1, b2_01, Classical.not_not]
theorem xa7 : xAdd m t p k l 27 7 = m 27 7 + 1 := by
  unfold xAdd
  split
  · split <;> simp only [up_at, b2_T, b2_F, Int.reduceEq, Int.reduceLT, Int.reduceLE, Int.reduceAdd, Int.reduceSub, Int.reduceMul, Int.reduceNeg, reduceIte, if_true, if_false, true_or, or_true, false_or, or_false, false_and, and_false, eq_self, not_false_eq_true, not_true_eq_false, true_and, and_true, List.cons_append, List.nil_append, List.append_nil, b2_0, b2_1, b2_01, Classical.not_not]
  · simp only [up_at, b2_T, b2_F, Int.reduceEq, Int.reduceLT, Int.reduceLE, Int.reduceAdd, Int.reduceSub, Int.reduceMul, Int.reduceNeg, reduceIte, if_true, if_false, true_or, or_true, false_or, or_false, false_and, and_false, eq_self, not_false_eq_true, not_true_eq_false, true_and, and_true, List.cons_append, List.nil_append, List.append_nil, b2_0, b2_1, b2_01, Classical.not_not]
theorem xa_f {a : Int} (h1 : ¬ a = 27) (h2 : ¬ a = 28) (h3 : ¬ a = 29) (h4 : ¬ a = 30) (h5 : ¬ a = 31) (h6 : ¬ a = 32) (h7 : ¬ a = 33) : xAdd m t p k l a j = m a j := by
  unfold xAdd
  split
  · split <;> simp only [up_at, h1, h2, h3, h4, h5, h6, h7, b2_T, b2_F, Int.reduceEq, Int.reduceLT, Int.reduceLE, Int.reduceAdd, Int.reduceSub, Int.reduceMul, Int.reduceNeg, reduceIte, if_true, if_false, true_or, or_true, false_or, or_false, false_and, and_false, eq_self, not_false_eq_true, not_true_eq_false, true_and, and_true, List.cons_append, List.nil_append, List.append_nil, b2_0, b2_1, b2_01, Classical.not_not]
  · simp only [up_at, h1, b2_T, b2_F, Int.reduceEq, Int.reduceLT, Int.reduceLE, Int.reduceAdd, Int.reduceSub, Int.reduceMul, Int.reduceNeg, reduceIte, if_true, if_false, true_or, or_true, false_or, or_false, false_and, and_false, eq_self, not_false_eq_true, not_true_eq_false, true_and, and_true, List.cons_append, List.nil_append, List.append_nil, b2_0, b2_1, b2_01, Classical.not_not]
theorem Sh_xa (S : Sh m) : Sh (xAdd m t p k l) := by
  unfold xAdd
  split
  · refine Sh.up (Sh_ar ?_ (by decide)) (by decide)
    have S1 : Sh (up (up (up (up (up m 27 7 (m 27 7 + 1)) 31 (m 27 6) p) 32 (m 27 6) k) 33 (m 27 6) l) 30 (m 27 6) (-1)) := Sh_ar (Sh_ar (Sh_ar (Sh_ar (Sh.up S (by decide)) (by decide)) (by decide)) (by decide)) (by decide)
    split
    · exact Sh_ar S1 (by decide)
    · exact Sh_ar S1 (by decide)
  · exact Sh.up S (by decide)
theorem RQ_add (a : RQ m g w v) (hc : ¬ c = -1) (ht : 0 ≤ t ∧ t < 520) (q : QI g b) : RQ (xAdd m t (4 * c + s) k l) (mAdd g t c s k l) w v := by
  obtain ⟨φ, a, z⟩ := a
  have sz := a.sz
  have wt := a.wt
  have nd := a.nd
  have ij := a.ij
  have ts := a.ts
  have tb := a.tb
  have q0 := q.1.1
  have e24 : mAdd g t c s k l 70 24 = g 70 24 + 1 := by rw [add_24, if_neg hc]
  have e25 : mAdd g t c s k l 70 25 = g 70 25 + 1 := by rw [add_25, if_neg hc]
  by_cases h4 : t < 400
  · obtain ⟨ψ, p1, p2⟩ : ∃ ψ : Int → Int, ψ (m 27 6) = g 70 24 ∧ ∀ i, ¬ i = m 27 6 → ψ i = φ i := ⟨fun i => if i = m 27 6 then g 70 24 else φ i, if_pos rfl, fun i h => if_neg h⟩
    refine ⟨ψ, ⟨?_, ?_, ?_, ?_, ?_, ?_⟩, z.imp id (fun z => ⟨z.1, by rw [xa6 h4]; omega, by rw [p2 w (by omega)]; exact z.2.2⟩)⟩
    · rw [xa6 h4, e24]; omega
    · rw [xa7, e25]; omega
    · intro i i0 i1
      rw [xa6 h4] at i1
      have tt := ts t ht.1 h4
      rw [xa6 h4, e24, xa31 h4, xa32 h4, xa33 h4, xa30 h4, ad86 hc, ad87 hc, ad88 hc, ad89 hc, ad90 hc]
      by_cases hi : i = m 27 6
      · subst hi
        rw [p1]
        simp only [b2_T, b2_F, Int.reduceEq, Int.reduceLT, Int.reduceLE, Int.reduceAdd, Int.reduceSub, Int.reduceMul, Int.reduceNeg, reduceIte, if_true, if_false, true_or, or_true, false_or, or_false, false_and, and_false, eq_self, not_false_eq_true, not_true_eq_false, true_and, and_true, List.cons_append, List.nil_append, List.append_nil, b2_0, b2_1, b2_01, Classical.not_not]
        refine ⟨by omega, ?_⟩
        left
        rcases tt with ⟨t1, t2, t3⟩ | ⟨t1, t2, t3, t4, t5⟩
        · rw [if_neg (by omega), if_neg (fun x => x.1 t3)]
          exact ⟨rfl, rfl⟩
        · have := (nd _ t4.1 t4.2).1
          rw [if_neg (by omega), if_neg (by omega)]
          exact ⟨rfl, rfl⟩
      · have n1 := nd i i0 (by omega)
        have hx : ¬ φ i = g 70 24 := by omega
        rw [p2 i hi, if_neg hi, if_neg hi, if_neg hi, if_neg hx, if_neg hx, if_neg hx, if_neg hx]
        refine ⟨by omega, n1.2.1, n1.2.2.1, n1.2.2.2.1, ?_⟩
        rcases tt with ⟨t1, t2, t3⟩ | ⟨t1, t2, t3, t4, t5⟩
        · rw [if_neg (by omega), if_neg hi, if_neg (fun x => x.1 t3), if_neg hx]
          rcases n1.2.2.2.2 with y | y
          · exact Or.inl y
          · right
            rw [p2 _ (by omega)]
            exact ⟨y.1, by omega, y.2.2⟩
        · by_cases hl : i = m 29 t
          · rw [if_pos ⟨t4, hl⟩, if_pos ⟨t2, by rw [t5, hl]⟩, p1]
            right
            exact ⟨by omega, by omega, rfl⟩
          · have hp : ¬ φ i = g 92 t := by
              rw [t5]
              rcases Int.lt_or_gt_of_ne hl with y | y
              · exact ij i _ i0 y t4.2
              · exact fun z => ij _ i t4.1 y (by omega) z.symm
            rw [if_neg (fun x => hl x.2), if_neg hi, if_neg (fun x => hp x.2), if_neg hx]
            rcases n1.2.2.2.2 with y | y
            · exact Or.inl y
            · right
              rw [p2 _ (by omega)]
              exact ⟨y.1, by omega, y.2.2⟩
    · intro i j i0 i1 i2
      rw [xa6 h4] at i2
      by_cases hj : j = m 27 6
      · rw [p2 i (by omega), hj, p1]
        have := (nd i i0 (by omega)).1
        omega
      · rw [p2 i (by omega), p2 j hj]
        exact ij i j i0 i1 (by omega)
    · intro u u0 u1
      rw [xa6 h4, xa28 h4, xa29 h4, ad91 hc, ad92 hc]
      have tt := ts t ht.1 h4
      by_cases hu : u = t
      · subst hu
        right
        rw [if_pos rfl, if_pos rfl, p1]
        rcases tt with ⟨t1, t2, t3⟩ | ⟨t1, t2, t3, t4, t5⟩
        · rw [if_pos ⟨by omega, rfl⟩, if_pos ⟨t3, rfl⟩, p1]
          refine ⟨by omega, by omega, rfl, by omega, rfl⟩
        · rw [if_neg (fun x => x.1 t4), if_neg (fun x => t2 x.1), p2 _ (by omega)]
          exact ⟨by omega, t2, t3, by omega, rfl⟩
      · rw [if_neg (fun x => hu x.2), if_neg hu, if_neg (fun x => hu x.2), if_neg hu]
        rcases ts u u0 u1 with y | y
        · exact Or.inl y
        · right
          rw [p2 _ (by omega), p2 _ (by omega)]
          exact ⟨by omega, y.2.1, y.2.2.1, by omega, y.2.2.2.2⟩
    · intro u u0 u1
      rw [xa6 h4, ad91 hc, ad92 hc, e24, if_neg (fun x => by omega), if_neg (by omega)]
      rcases tb u u0 u1 with y | y
      · exact Or.inl y
      · right
        refine ⟨by omega, fun i i0 i1 => ?_⟩
        by_cases hi : i = m 27 6
        · rw [hi, p1]; omega
        · rw [p2 i hi]
          exact y.2 i i0 (by omega)
  · have ex : xAdd m t (4 * c + s) k l = up m 27 7 (m 27 7 + 1) := if_neg h4
    have e6 : up m 27 7 (m 27 7 + 1) 27 6 = m 27 6 := rfl
    have ea : ∀ x j, ¬ x = 27 → up m 27 7 (m 27 7 + 1) x j = m x j := fun x j hx => by simp only [up_at, hx, b2_T, b2_F, Int.reduceEq, Int.reduceLT, Int.reduceLE, Int.reduceAdd, Int.reduceSub, Int.reduceMul, Int.reduceNeg, reduceIte, if_true, if_false, true_or, or_true, false_or, or_false, false_and, and_false, eq_self, not_false_eq_true, not_true_eq_false, true_and, and_true, List.cons_append, List.nil_append, List.append_nil, b2_0, b2_1, b2_01, Classical.not_not]
    have tt := tb t (by omega) ht.2
    rw [ex]
    refine ⟨φ, ⟨?_, ?_, ?_, ?_, ?_, ?_⟩, by rw [e6]; exact z⟩
    · rw [e6, e24]; omega
    · have e7 : up m 27 7 (m 27 7 + 1) 27 7 = m 27 7 + 1 := by simp only [up_at, b2_T, b2_F, Int.reduceEq, Int.reduceLT, Int.reduceLE, Int.reduceAdd, Int.reduceSub, Int.reduceMul, Int.reduceNeg, reduceIte, if_true, if_false, true_or, or_true, false_or, or_false, false_and, and_false, eq_self, not_false_eq_true, not_true_eq_false, true_and, and_true, List.cons_append, List.nil_append, List.append_nil, b2_0, b2_1, b2_01, Classical.not_not]
      rw [e7, e25]; omega
    · intro i i0 i1
      rw [e6] at i1
      have n1 := nd i i0 i1
      have hx : ¬ φ i = g 70 24 := by omega
      rw [e6, e24, ea 31 i (by decide), ea 32 i (by decide), ea 33 i (by decide), ea 30 i (by decide), ad86 hc, ad87 hc, ad88 hc, ad89 hc, ad90 hc, if_neg hx, if_neg hx, if_neg hx, if_neg hx, if_neg hx]
      refine ⟨by omega, n1.2.1, n1.2.2.1, n1.2.2.2.1, ?_⟩
      rw [if_neg ?_]
      · exact n1.2.2.2.2
      · intro y
        rcases tt with z | z
        · exact y.1 z
        · exact z.2 i i0 i1 y.2
    · intro i j
      rw [e6]
      exact ij i j
    · intro u u0 u1
      rw [e6, ea 28 u (by decide), ea 29 u (by decide), ad91 hc, ad92 hc, if_neg (fun x => by omega), if_neg (by omega)]
      exact ts u u0 u1
    · intro u u0 u1
      rw [e6, e24, ad91 hc, ad92 hc]
      by_cases hu : u = t
      · subst hu
        right
        rw [if_pos rfl]
        exact ⟨by omega, fun i i0 i1 => by have := (nd i i0 i1).1; omega⟩
      · rw [if_neg (fun x => hu x.2), if_neg hu]
        rcases tb u u0 u1 with y | y
        · exact Or.inl y
        · exact Or.inr ⟨by omega, y.2⟩
end RELQ
