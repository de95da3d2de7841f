/-! the reference's run: bounds stay as a ball rolls on -/
section ROLL2
variable {g : Mm} {c s i b k u j n o f x : Int}
theorem go_f (h1 : ¬ x = 95) (h2 : ¬ x = 96) (h3 : ¬ x = 97) (h4 : ¬ x = 98) : mGo g n c o f x j = g x j := by
  unfold mGo mGo2 mGo1
  repeat' split
  all_goals simp only [up_at, h1, h2, h3, h4, b2_T, b2_F, Int.reduceEq, Int.reduceLT, Int.reduceLE, Int.reduceAdd, Int.reduceSub, Int.reduceMul, Int.reduceNeg, reduceIte, if_true, if_false, true_or, or_true, false_or, or_false, false_and, and_false, eq_self, not_false_eq_true, not_true_eq_false, true_and, and_true, List.cons_append, List.nil_append, List.append_nil, b2_0, b2_1, b2_01, Classical.not_not]
theorem go_95 : mGo g n c o f 95 j = if j = o then n else if j = c then -1 else g 95 j := by
  unfold mGo mGo2 mGo1
  split <;> split <;> simp only [up_at, b2_T, b2_F, Int.reduceEq, Int.reduceLT, Int.reduceLE, Int.reduceAdd, Int.reduceSub, Int.reduceMul, Int.reduceNeg, reduceIte, if_true, if_false, true_or, or_true, false_or, or_false, false_and, and_false, eq_self, not_false_eq_true, not_true_eq_false, true_and, and_true, List.cons_append, List.nil_append, List.append_nil, b2_0, b2_1, b2_01, Classical.not_not]
theorem go_96 : mGo g n c o f 96 j = if j = n then o else g 96 j := by
  unfold mGo mGo2 mGo1
  split <;> split <;> simp only [up_at, b2_T, b2_F, Int.reduceEq, Int.reduceLT, Int.reduceLE, Int.reduceAdd, Int.reduceSub, Int.reduceMul, Int.reduceNeg, reduceIte, if_true, if_false, true_or, or_true, false_or, or_false, false_and, and_false, eq_self, not_false_eq_true, not_true_eq_false, true_and, and_true, List.cons_append, List.nil_append, List.append_nil, b2_0, b2_1, b2_01, Classical.not_not]
theorem go_98 : mGo g n c o f 98 j = if j = n then g 98 n - 1 else g 98 j := by
  unfold mGo mGo2 mGo1
  split <;> split <;> simp only [up_at, b2_T, b2_F, Int.reduceEq, Int.reduceLT, Int.reduceLE, Int.reduceAdd, Int.reduceSub, Int.reduceMul, Int.reduceNeg, reduceIte, if_true, if_false, true_or, or_true, false_or, or_false, false_and, and_false, eq_self, not_false_eq_true, not_true_eq_false, true_and, and_true, List.cons_append, List.nil_append, List.append_nil, b2_0, b2_1, b2_01, Classical.not_not]
theorem go_97 : mGo g n c o f 97 j = if j = n then (if g 98 n - 1 = 0 then -1 else if g 72 o = 9 then oth (g 73 o) f else g 97 n) else g 97 j := by
  unfold mGo mGo2 mGo1
  by_cases h : j = n
  · subst h
    split <;> split <;> simp only [up_at, b2_T, b2_F, Int.reduceEq, Int.reduceLT, Int.reduceLE, Int.reduceAdd, Int.reduceSub, Int.reduceMul, Int.reduceNeg, reduceIte, if_true, if_false, true_or, or_true, false_or, or_false, false_and, and_false, eq_self, not_false_eq_true, not_true_eq_false, true_and, and_true, List.cons_append, List.nil_append, List.append_nil, b2_0, b2_1, b2_01, Classical.not_not]
  · split <;> split <;> simp only [up_at, h, b2_T, b2_F, Int.reduceEq, Int.reduceLT, Int.reduceLE, Int.reduceAdd, Int.reduceSub, Int.reduceMul, Int.reduceNeg, reduceIte, if_true, if_false, true_or, or_true, false_or, or_false, false_and, and_false, eq_self, not_false_eq_true, not_true_eq_false, true_and, and_true, List.cons_append, List.nil_append, List.append_nil, b2_0, b2_1, b2_01, Classical.not_not]
theorem GI_go (a : GI g) (hj : 0 ≤ n ∧ n < g 70 30) (hr : ¬ g 97 n = -1) (ho : isC o) (hk : g 72 o = 0 ∨ g 72 o = 7 ∨ g 72 o = 9) : GI (mGo g n c o f) := by
  have e : ∀ x j, (x = 70 ∨ x = 72 ∨ x = 73 ∨ x = 74 ∨ x = 75 ∨ x = 76 ∨ x = 86 ∨ x = 87 ∨ x = 88 ∨ x = 90 ∨ x = 91 ∨ x = 92 ∨ x = 93 ∨ x = 99 ∨ x = 101 ∨ x = 102 ∨ x = 105 ∨ x = 106) → mGo g n c o f x j = g x j := fun x j hx => go_f (by omega) (by omega) (by omega) (by omega)
  have e70 : ∀ j, mGo g n c o f 70 j = g 70 j := fun j => e 70 j (by omega)
  have ec : cnt (mGo g n c o f) = cnt g := by
    unfold cnt
    rw [e70, e 101 _ (by omega)]
  have S1 : Sh (mGo g n c o f) := by
    unfold mGo mGo2 mGo1
    have S2 : Sh (up (up (up (up g 95 c (-1)) 95 o n) 96 n o) 98 n (g 98 n - 1)) := Sh_ar (Sh_ar (Sh_ar (Sh_ar a.a.S (by decide)) (by decide)) (by decide)) (by decide)
    split <;> split
    · exact Sh_ar (Sh_ar S2 (by decide)) (by decide)
    · exact Sh_ar S2 (by decide)
    · exact Sh_ar S2 (by decide)
    · exact S2
  have en : nsp (mGo g n c o f) = nsp g := nsp_cg (fun j => e 72 j (by omega)) (fun j => e 93 j (by omega))
  have A := a.a
  refine ⟨by rw [ec]; exact a.cn, ?_, ?_⟩
  · rw [ec]
    refine ⟨S1, PV_cg A.p (fun j => e 72 j (by omega)) (fun j => e 73 j (by omega)) (fun j => e 74 j (by omega)) (fun j => e 75 j (by omega)) (fun j => e 76 j (by omega)), ?_, ?_, ?_, ?_, ?_, ?_, ?_, ?_, ?_, ?_, ?_, ?_, ?_⟩
    · rw [e70]; exact A.bk
    · rw [e70]; exact A.nw
    · intro d hd
      rw [e 93 d (by omega)]; exact A.tm d hd
    · intro d hd
      rw [e70, e 105 _ (by omega)]; exact A.rg d hd
    · intro d hd
      rw [e70, e 106 _ (by omega)]; exact A.hs d hd
    · rw [e70, e 101 _ (by omega)]; exact A.rc
    · rw [e70, e 101 _ (by omega)]; exact A.lc
    · rw [e70]; exact A.bm
    · intro d hd
      rw [go_95, e 72 d (by omega), e70]
      by_cases h1 : d = o
      · subst h1
        rw [if_pos rfl]
        right
        exact ⟨hj.1, hj.2, hk⟩
      · rw [if_neg h1]
        by_cases h2 : d = c
        · left
          rw [if_pos h2]
        · rw [if_neg h2]
          exact A.on d hd
    · intro y h1 h2
      rw [e70] at h2
      have h3 := A.at' y h1 h2
      rw [go_96, go_97, go_98, e 99 _ (by omega)]
      by_cases h4 : y = n
      · subst h4
        have h5 := h3.2.resolve_left hr
        simp only [b2_T, b2_F, Int.reduceEq, Int.reduceLT, Int.reduceLE, Int.reduceAdd, Int.reduceSub, Int.reduceMul, Int.reduceNeg, reduceIte, if_true, if_false, true_or, or_true, false_or, or_false, false_and, and_false, eq_self, not_false_eq_true, not_true_eq_false, true_and, and_true, List.cons_append, List.nil_append, List.append_nil, b2_0, b2_1, b2_01, Classical.not_not]
        refine ⟨ho, ?_⟩
        by_cases h6 : g 98 y - 1 = 0
        · left
          rw [if_pos h6]
        · right
          rw [if_neg h6]
          refine ⟨?_, by omega, by omega, h5.2.2.2⟩
          split
          · exact oth_s
          · exact h5.1
      · rw [if_neg h4, if_neg h4, if_neg h4]
        exact h3
    · intro y h1 h2
      rw [e70] at h2
      have := A.nd y h1 h2
      rw [e 86 _ (by omega), e 87 _ (by omega), e 88 _ (by omega), e 90 _ (by omega), e70]
      exact this
    · intro y h1 h2
      rw [e 91 _ (by omega), e70]; exact A.fs y h1 h2
    · intro y h1 h2
      rw [e70, e 102 _ (by omega), e 102 _ (by omega), e 102 _ (by omega)]
      exact A.lg y h1 h2
  · rw [ec, en]
    exact QI_cg a.q (e70 24) (e70 25) (fun j => e 91 j (by omega)) (fun j => e 92 j (by omega))
theorem GI_gone (a : GI g) : GI (mGone g n c) := by
  have A := a.a
  have e : ∀ x j, ¬ x = 95 → ¬ x = 97 → ¬ x = 101 → mGone g n c x j = g x j := by
    intro x j h1 h2 h3
    unfold mGone
    simp only [up_at, h1, h2, h3, b2_T, b2_F, Int.reduceEq, Int.reduceLT, Int.reduceLE, Int.reduceAdd, Int.reduceSub, Int.reduceMul, Int.reduceNeg, reduceIte, if_true, if_false, true_or, or_true, false_or, or_false, false_and, and_false, eq_self, not_false_eq_true, not_true_eq_false, true_and, and_true, List.cons_append, List.nil_append, List.append_nil, b2_0, b2_1, b2_01, Classical.not_not]
  have e1 : ∀ j, ¬ j = 5 → mGone g n c 101 (6 * g 70 45 + j) = g 101 (6 * g 70 45 + j) := by
    intro j h
    unfold mGone
    simp only [up_at, Int.add_right_inj, h, b2_T, b2_F, Int.reduceEq, Int.reduceLT, Int.reduceLE, Int.reduceAdd, Int.reduceSub, Int.reduceMul, Int.reduceNeg, reduceIte, if_true, if_false, true_or, or_true, false_or, or_false, false_and, and_false, eq_self, not_false_eq_true, not_true_eq_false, true_and, and_true, List.cons_append, List.nil_append, List.append_nil, b2_0, b2_1, b2_01, Classical.not_not]
  have e70 : ∀ j, mGone g n c 70 j = g 70 j := fun j => rfl
  have ec : cnt (mGone g n c) = cnt g := by
    unfold cnt
    rw [e70, e1 2 (by decide)]
  refine ⟨by rw [ec]; exact a.cn, ?_, ?_⟩
  · rw [ec]
    refine ⟨Sh_ar (Sh_ar (Sh_ar A.S (by decide)) (by decide)) (by decide), PV_cg A.p (fun j => rfl) (fun j => rfl) (fun j => rfl) (fun j => rfl) (fun j => rfl), A.bk, A.nw, A.tm, A.rg, A.hs, ?_, ?_, A.bm, ?_, ?_, A.nd, A.fs, A.lg⟩
    · rw [e70, e1 4 (by decide)]; exact A.rc
    · rw [e70, e1 3 (by decide)]; exact A.lc
    · intro d hd
      have h := A.on d hd
      have e2 : mGone g n c 95 d = if d = c then -1 else g 95 d := by
        unfold mGone
        simp only [up_at, b2_T, b2_F, Int.reduceEq, Int.reduceLT, Int.reduceLE, Int.reduceAdd, Int.reduceSub, Int.reduceMul, Int.reduceNeg, reduceIte, if_true, if_false, true_or, or_true, false_or, or_false, false_and, and_false, eq_self, not_false_eq_true, not_true_eq_false, true_and, and_true, List.cons_append, List.nil_append, List.append_nil, b2_0, b2_1, b2_01, Classical.not_not]
      rw [e2, e70]
      by_cases h2 : d = c
      · left
        rw [if_pos h2]
      · rw [if_neg h2]
        exact h
    · intro y h1 h2
      have h3 := A.at' y h1 h2
      refine ⟨h3.1, ?_⟩
      have e2 : mGone g n c 97 y = if y = n then -1 else g 97 y := by
        unfold mGone
        simp only [up_at, b2_T, b2_F, Int.reduceEq, Int.reduceLT, Int.reduceLE, Int.reduceAdd, Int.reduceSub, Int.reduceMul, Int.reduceNeg, reduceIte, if_true, if_false, true_or, or_true, false_or, or_false, false_and, and_false, eq_self, not_false_eq_true, not_true_eq_false, true_and, and_true, List.cons_append, List.nil_append, List.append_nil, b2_0, b2_1, b2_01, Classical.not_not]
      rw [e2]
      by_cases h4 : y = n
      · left
        rw [if_pos h4]
      · rw [if_neg h4]
        exact h3.2
  · rw [ec]
    exact a.q
theorem GI_roll (a : GI g) (hn : cnt g < 1000) (hj : 0 ≤ n ∧ n < g 70 30) (hr : ¬ g 97 n = -1) : GI (mRoll g n) := by
  have at1 := a.a.at' n hj.1 hj.2
  have at2 := at1.2.resolve_left hr
  unfold mRoll
  split
  · exact GI_gone a
  · rename_i h1
    have oc := (nxt_c at1.1).resolve_left h1
    split
    · exact GI_strike (GI_stop a) hn oc opp_s (by show -1 ≤ g 99 n ∧ g 99 n < cnt g; omega)
    · rename_i h2
      have h4 : fre g (nxt (g 96 n) (g 97 n)) (opp (g 97 n)) := Classical.byContradiction fun x => h2 (Or.inr x)
      unfold fre at h4
      exact GI_go a hj hr oc (by omega)
end ROLL2
