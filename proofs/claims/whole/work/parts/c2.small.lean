/-! the small functions of numbers, both sides -/
def nxt (c s : Int) : Int := if s = 0 then (if c < 12 then -1 else c - 12) else if s = 1 then (if c % 12 = 11 then -1 else c + 1) else if s = 2 then (if 84 ≤ c then -1 else c + 12) else if s = 3 then (if c % 12 = 0 then -1 else c - 1) else -1
def opp (s : Int) : Int := (s + 2) % 4
theorem e107 {ds : Ds} {m : Mm} {Q : Ds → Mm → List MV → Prop} {c : Int} : WP 107 0 [(0, c)] [] ds m Q = Q ds m [(0, b2 (0 ≤ c ∧ c < 96))] := by
  simp only [p107_0, p107_1, p107_4, p107_5, p107_7, p107_10, p107_11, p107_14, p107_15, b2, b2_T, b2_F, Int.reduceEq, Int.reduceLT, Int.reduceLE, Int.reduceAdd, Int.reduceSub, Int.reduceMul, Int.reduceNeg, reduceIte, if_true, if_false, true_or, or_true, false_or, or_false, false_and, and_false, eq_self, not_false_eq_true, not_true_eq_false, true_and, and_true, List.cons_append, List.nil_append, List.append_nil, b2_0, b2_1, b2_01, Classical.not_not]
  repeat' split
  all_goals first | rfl | (exfalso; omega)
theorem e108 {ds : Ds} {m : Mm} {Q : Ds → Mm → List MV → Prop} {c : Int} : WP 108 0 [(0, c)] [] ds m Q = Q ds m [(0, b2 (0 ≤ c ∧ c < 4))] := by
  simp only [p108_0, p108_1, p108_4, p108_5, p108_6, p108_9, p108_10, p108_13, p108_14, b2, b2_T, b2_F, Int.reduceEq, Int.reduceLT, Int.reduceLE, Int.reduceAdd, Int.reduceSub, Int.reduceMul, Int.reduceNeg, reduceIte, if_true, if_false, true_or, or_true, false_or, or_false, false_and, and_false, eq_self, not_false_eq_true, not_true_eq_false, true_and, and_true, List.cons_append, List.nil_append, List.append_nil, b2_0, b2_1, b2_01, Classical.not_not]
  repeat' split
  all_goals first | rfl | (exfalso; omega)
theorem e109 {ds : Ds} {m : Mm} {Q : Ds → Mm → List MV → Prop} {c : Int} : WP 109 0 [(0, c)] [] ds m Q = Q ds m [(0, b2 (0 ≤ c ∧ c < 8))] := by
  simp only [p109_0, p109_1, p109_4, p109_5, p109_7, p109_10, p109_11, p109_14, p109_15, b2, b2_T, b2_F, Int.reduceEq, Int.reduceLT, Int.reduceLE, Int.reduceAdd, Int.reduceSub, Int.reduceMul, Int.reduceNeg, reduceIte, if_true, if_false, true_or, or_true, false_or, or_false, false_and, and_false, eq_self, not_false_eq_true, not_true_eq_false, true_and, and_true, List.cons_append, List.nil_append, List.append_nil, b2_0, b2_1, b2_01, Classical.not_not]
  repeat' split
  all_goals first | rfl | (exfalso; omega)
theorem e110 {ds : Ds} {m : Mm} {Q : Ds → Mm → List MV → Prop} {c : Int} (h0 : 0 ≤ c) (h1 : c < 4) : WP 110 0 [(0, c)] [] ds m Q = Q ds m [(0, opp c)] := by
  have w1 : w32 (c + 2) = c + 2 := w32_id (by omega) (by omega)
  have w2 : jrem (c + 2) 4 = (c + 2) % 4 := jrem_nn (by omega) (by omega) (by omega) (by omega)
  simp only [p110_0, p110_1, p110_2, p110_3, p110_4, p110_5, b2_T, b2_F, Int.reduceEq, Int.reduceLT, Int.reduceLE, Int.reduceAdd, Int.reduceSub, Int.reduceMul, Int.reduceNeg, reduceIte, if_true, if_false, true_or, or_true, false_or, or_false, false_and, and_false, eq_self, not_false_eq_true, not_true_eq_false, true_and, and_true, List.cons_append, List.nil_append, List.append_nil, b2_0, b2_1, b2_01, Classical.not_not, w1, w2, opp]
theorem e111 {ds : Ds} {m : Mm} {Q : Ds → Mm → List MV → Prop} {c s : Int} (h0 : 0 ≤ c) (h1 : c < 96) : WP 111 0 [(0, c), (0, s), (3, 0), (3, 0)] [] ds m Q = Q ds m [(0, nxt c s)] := by
  have w1 : jrem c 12 = c % 12 := jrem_nn (by omega) (by omega) (by omega) (by omega)
  have w2 : jdiv c 12 = c / 12 := jdiv_nn (by omega) (by omega) (by omega) (by omega)
  have w3 : w32 (c - 12) = c - 12 := w32_id (by omega) (by omega)
  have w4 : w32 (c + 12) = c + 12 := w32_id (by omega) (by omega)
  have w5 : w32 (c - 1) = c - 1 := w32_id (by omega) (by omega)
  have w6 : w32 (c + 1) = c + 1 := w32_id (by omega) (by omega)
  simp only [p111_0, p111_1, p111_3, p111_4, p111_5, p111_6, p111_8, p111_9, p111_10, p111_11, p111_40, p111_41, p111_44, p111_45, p111_47, p111_48, p111_51, p111_52, p111_53, p111_54, p111_56, p111_59, p111_60, p111_61, p111_62, p111_65, p111_66, p111_67, p111_68, p111_70, p111_73, p111_74, p111_76, p111_77, p111_80, p111_81, p111_82, p111_83, p111_86, p111_87, p111_88, p111_89, p111_92, p111_93, p111_94, p111_95, b2_T, b2_F, Int.reduceEq, Int.reduceLT, Int.reduceLE, Int.reduceAdd, Int.reduceSub, Int.reduceMul, Int.reduceNeg, reduceIte, if_true, if_false, true_or, or_true, false_or, or_false, false_and, and_false, eq_self, not_false_eq_true, not_true_eq_false, true_and, and_true, List.cons_append, List.nil_append, List.append_nil, b2_0, b2_1, b2_01, Classical.not_not, w1, w2, w3, w4, w5, w6, nxt]
  repeat' split
  all_goals first | rfl | (exfalso; omega)
theorem e112 {ds : Ds} {m : Mm} {Q : Ds → Mm → List MV → Prop} {c : Int} : WP 112 0 [(0, c)] [] ds m Q = Q ds m [(0, b2 (¬ c = 5 ∧ ¬ c = 7 ∧ ¬ c = 8))] := by
  simp only [p112_0, p112_1, p112_2, p112_5, p112_6, p112_8, p112_11, p112_12, p112_14, p112_17, p112_18, p112_21, p112_22, b2, b2_T, b2_F, Int.reduceEq, Int.reduceLT, Int.reduceLE, Int.reduceAdd, Int.reduceSub, Int.reduceMul, Int.reduceNeg, reduceIte, if_true, if_false, true_or, or_true, false_or, or_false, false_and, and_false, eq_self, not_false_eq_true, not_true_eq_false, true_and, and_true, List.cons_append, List.nil_append, List.append_nil, b2_0, b2_1, b2_01, Classical.not_not]
  repeat' split
  all_goals first | rfl | (exfalso; omega)
theorem e113 {ds : Ds} {m : Mm} {Q : Ds → Mm → List MV → Prop} {c : Int} : WP 113 0 [(0, c)] [] ds m Q = Q ds m [(0, b2 (c = 4 ∨ c = 6))] := by
  simp only [p113_0, p113_1, p113_2, p113_5, p113_6, p113_8, p113_11, p113_12, p113_15, p113_16, b2, b2_T, b2_F, Int.reduceEq, Int.reduceLT, Int.reduceLE, Int.reduceAdd, Int.reduceSub, Int.reduceMul, Int.reduceNeg, reduceIte, if_true, if_false, true_or, or_true, false_or, or_false, false_and, and_false, eq_self, not_false_eq_true, not_true_eq_false, true_and, and_true, List.cons_append, List.nil_append, List.append_nil, b2_0, b2_1, b2_01, Classical.not_not]
  repeat' split
  all_goals first | rfl | (exfalso; omega)
theorem e120 {ds : Ds} {m : Mm} {Q : Ds → Mm → List MV → Prop} {c a b : Int} : WP 120 0 [(0, c), (0, a), (0, b)] [] ds m Q = Q ds m [(0, b2 (a ≤ c ∧ c ≤ b))] := by
  simp only [p120_0, p120_1, p120_2, p120_5, p120_6, p120_7, p120_10, p120_11, p120_14, p120_15, b2, b2_T, b2_F, Int.reduceEq, Int.reduceLT, Int.reduceLE, Int.reduceAdd, Int.reduceSub, Int.reduceMul, Int.reduceNeg, reduceIte, if_true, if_false, true_or, or_true, false_or, or_false, false_and, and_false, eq_self, not_false_eq_true, not_true_eq_false, true_and, and_true, List.cons_append, List.nil_append, List.append_nil, b2_0, b2_1, b2_01, Classical.not_not]
  repeat' split
  all_goals first | rfl | (exfalso; omega)
theorem e122 {ds : Ds} {m : Mm} {Q : Ds → Mm → List MV → Prop} {c : Int} : WP 122 0 [(0, c)] [] ds m Q = Q ds m [(0, b2 (0 ≤ c ∧ c < 96))] := by
  simp only [p122_0, p122_1, p122_2, p122_4, p122_7, e120, b2, b2_T, b2_F, Int.reduceEq, Int.reduceLT, Int.reduceLE, Int.reduceAdd, Int.reduceSub, Int.reduceMul, Int.reduceNeg, reduceIte, if_true, if_false, true_or, or_true, false_or, or_false, false_and, and_false, eq_self, not_false_eq_true, not_true_eq_false, true_and, and_true, List.cons_append, List.nil_append, List.append_nil, b2_0, b2_1, b2_01, Classical.not_not]
  repeat' split
  all_goals first | rfl | (exfalso; omega) | simp
theorem e139 {ds : Ds} {m : Mm} {Q : Ds → Mm → List MV → Prop} {c : Int} : WP 139 0 [(0, c)] [] ds m Q = Q ds m [(0, b2 (0 ≤ c ∧ c < 8))] := by
  simp only [p139_0, p139_1, p139_2, p139_4, p139_7, e120, b2, b2_T, b2_F, Int.reduceEq, Int.reduceLT, Int.reduceLE, Int.reduceAdd, Int.reduceSub, Int.reduceMul, Int.reduceNeg, reduceIte, if_true, if_false, true_or, or_true, false_or, or_false, false_and, and_false, eq_self, not_false_eq_true, not_true_eq_false, true_and, and_true, List.cons_append, List.nil_append, List.append_nil, b2_0, b2_1, b2_01, Classical.not_not]
  repeat' split
  all_goals first | rfl | (exfalso; omega) | simp
theorem e123 {ds : Ds} {m : Mm} {Q : Ds → Mm → List MV → Prop} {c s : Int} (h0 : 0 ≤ c) (h1 : c < 96) (h2 : 0 ≤ s) (h3 : s < 4) : WP 123 0 [(0, c), (0, s), (3, 0), (3, 0)] [] ds m Q = Q ds m [(0, nxt c s)] := by
  have w1 : jrem c 12 = c % 12 := jrem_nn (by omega) (by omega) (by omega) (by omega)
  have w2 : jdiv c 12 = c / 12 := jdiv_nn (by omega) (by omega) (by omega) (by omega)
  have hs : s = 0 ∨ s = 1 ∨ s = 2 ∨ s = 3 := by omega
  have w3 : w32 (c % 12 + 1) = c % 12 + 1 := w32_id (by omega) (by omega)
  have w4 : w32 (c % 12 + -1) = c % 12 - 1 := w32_id (by omega) (by omega)
  have w5 : w32 (c % 12 + 0) = c % 12 := by rw [w32_id] <;> omega
  have w6 : w32 (c / 12 + 1) = c / 12 + 1 := w32_id (by omega) (by omega)
  have w7 : w32 (c / 12 + -1) = c / 12 - 1 := w32_id (by omega) (by omega)
  have w8 : w32 (c / 12 + 0) = c / 12 := by rw [w32_id] <;> omega
  have w9 : ∀ a b : Int, -20 ≤ a → a < 20 → -20 ≤ b → b < 20 → w32 (w32 (12 * a) + b) = 12 * a + b := fun a b _ _ _ _ => by rw [w32_id (z := 12 * a) (by omega) (by omega), w32_id (by omega) (by omega)]
  have wa := w9 (c / 12 + 1) (c % 12) (by omega) (by omega) (by omega) (by omega)
  have wb := w9 (c / 12 - 1) (c % 12) (by omega) (by omega) (by omega) (by omega)
  have wc := w9 (c / 12) (c % 12 + 1) (by omega) (by omega) (by omega) (by omega)
  have wd := w9 (c / 12) (c % 12 - 1) (by omega) (by omega) (by omega) (by omega)
  rcases hs with rfl | rfl | rfl | rfl <;>
  · simp only [p123_0, p123_1, p123_3, p123_4, p123_5, p123_6, p123_9, p123_10, p123_13, p123_14, p123_15, p123_18, p123_19, p123_22, p123_23, p123_24, p123_25, p123_26, p123_28, p123_29, p123_30, p123_31, p123_34, p123_35, p123_38, p123_39, p123_42, p123_43, p123_46, p123_47, p123_48, p123_49, p123_50, p123_51, p123_53, p123_56, p123_59, p123_60, p123_61, p123_63, p123_66, p123_69, p123_71, p123_72, p123_73, p123_74, p123_75, p123_78, p123_79, e120, b2_T, b2_F, Int.reduceEq, Int.reduceLT, Int.reduceLE, Int.reduceAdd, Int.reduceSub, Int.reduceMul, Int.reduceNeg, reduceIte, if_true, if_false, true_or, or_true, false_or, or_false, false_and, and_false, eq_self, not_false_eq_true, not_true_eq_false, true_and, and_true, List.cons_append, List.nil_append, List.append_nil, b2_0, b2_1, b2_01, Classical.not_not, w1, w2, w3, w4, w5, w6, w7, w8, nxt, show ¬ (12 : Int) = 0 by decide, Int.reduceEq, if_true, if_false, reduceIte, wa, wb, wc, wd]
    repeat' split
    all_goals first | rfl | (exfalso; omega) | exact q_eq (by omega)
theorem e124 {ds : Ds} {m : Mm} {Q : Ds → Mm → List MV → Prop} {c : Int} : WP 124 0 [(0, c)] [] ds m Q = Q ds m [(0, b2 (c = 2 ∨ c = 4 ∨ c = 6))] := by
  simp only [p124_0, p124_1, p124_2, p124_5, p124_6, p124_7, p124_10, p124_11, p124_13, p124_16, p124_17, p124_20, p124_21, b2, b2_T, b2_F, Int.reduceEq, Int.reduceLT, Int.reduceLE, Int.reduceAdd, Int.reduceSub, Int.reduceMul, Int.reduceNeg, reduceIte, if_true, if_false, true_or, or_true, false_or, or_false, false_and, and_false, eq_self, not_false_eq_true, not_true_eq_false, true_and, and_true, List.cons_append, List.nil_append, List.append_nil, b2_0, b2_1, b2_01, Classical.not_not]
  repeat' split
  all_goals first | rfl | (exfalso; omega)
theorem e125 {ds : Ds} {m : Mm} {Q : Ds → Mm → List MV → Prop} {c : Int} : WP 125 0 [(0, c)] [] ds m Q = Q ds m [(0, b2 (c = 3 ∨ c = 5 ∨ c = 6 ∨ c = 9 ∨ c = 10 ∨ c = 12))] := by
  simp only [p125_0, p125_1, p125_2, p125_5, p125_6, p125_7, p125_10, p125_11, p125_13, p125_16, p125_17, p125_19, p125_22, p125_23, p125_25, p125_28, p125_29, p125_31, p125_34, p125_35, p125_38, p125_39, b2, b2_T, b2_F, Int.reduceEq, Int.reduceLT, Int.reduceLE, Int.reduceAdd, Int.reduceSub, Int.reduceMul, Int.reduceNeg, reduceIte, if_true, if_false, true_or, or_true, false_or, or_false, false_and, and_false, eq_self, not_false_eq_true, not_true_eq_false, true_and, and_true, List.cons_append, List.nil_append, List.append_nil, b2_0, b2_1, b2_01, Classical.not_not]
  repeat' split
  all_goals first | rfl | (exfalso; omega)
/-- the greatest a that a kind may have -/
def mstA (k : Int) : Int := if k = 5 ∨ k = 7 ∨ k = 8 then 0 else if k = 1 then 1 else if k = 9 then 15 else 3
theorem e116 {ds : Ds} {m : Mm} {Q : Ds → Mm → List MV → Prop} {c : Int} : WP 116 0 [(0, c)] [] ds m Q = Q ds m [(0, mstA c)] := by
  have w1 : w32 (jshl 1 4 - 1) = 15 := by decide
  simp only [p116_0, p116_1, p116_4, p116_7, p116_8, p116_9, p116_10, p116_11, p116_14, p116_15, p116_16, p116_17, p116_19, p116_22, p116_24, p116_27, p116_28, e112, b2_T, b2_F, Int.reduceEq, Int.reduceLT, Int.reduceLE, Int.reduceAdd, Int.reduceSub, Int.reduceMul, Int.reduceNeg, reduceIte, if_true, if_false, true_or, or_true, false_or, or_false, false_and, and_false, eq_self, not_false_eq_true, not_true_eq_false, true_and, and_true, List.cons_append, List.nil_append, List.append_nil, b2_0, b2_1, b2_01, Classical.not_not, mstA, w1]
  repeat' split
  all_goals first | rfl | (exfalso; omega)
theorem e117 {ds : Ds} {m : Mm} {Q : Ds → Mm → List MV → Prop} {c : Int} : WP 117 0 [(0, c)] [] ds m Q = Q ds m [(0, b2 (c = 4 ∨ c = 6))] := by
  simp only [p117_0, p117_1, p117_4, p117_7, p117_8, p117_11, p117_12, e113, b2_T, b2_F, Int.reduceEq, Int.reduceLT, Int.reduceLE, Int.reduceAdd, Int.reduceSub, Int.reduceMul, Int.reduceNeg, reduceIte, if_true, if_false, true_or, or_true, false_or, or_false, false_and, and_false, eq_self, not_false_eq_true, not_true_eq_false, true_and, and_true, List.cons_append, List.nil_append, List.append_nil, b2_0, b2_1, b2_01, Classical.not_not, b2]
  repeat' split
  all_goals first | rfl | (exfalso; omega)
theorem e118 {ds : Ds} {m : Mm} {Q : Ds → Mm → List MV → Prop} {c : Int} : WP 118 0 [(0, c)] [] ds m Q = Q ds m [(0, if c = 8 then -1 else if c = 4 then 9 else if c = 6 then 3 else 0)] := by
  simp only [p118_0, p118_1, p118_3, p118_6, p118_7, p118_8, p118_9, p118_12, p118_15, p118_16, p118_17, p118_18, p118_19, p118_22, p118_24, p118_27, p118_28, e113, b2_T, b2_F, Int.reduceEq, Int.reduceLT, Int.reduceLE, Int.reduceAdd, Int.reduceSub, Int.reduceMul, Int.reduceNeg, reduceIte, if_true, if_false, true_or, or_true, false_or, or_false, false_and, and_false, eq_self, not_false_eq_true, not_true_eq_false, true_and, and_true, List.cons_append, List.nil_append, List.append_nil, b2_0, b2_1, b2_01, Classical.not_not]
  repeat' split
  all_goals first | rfl | (exfalso; omega)
theorem e190 {ds : Ds} {m : Mm} {Q : Ds → Mm → List MV → Prop} {c : Int} (h0 : 0 ≤ c) (h1 : c < 16) : WP 190 0 [(0, c)] [] ds m Q = Q ds m [(0, if c = 0 then 0 else if c = 1 ∨ c = 2 ∨ c = 4 ∨ c = 8 then 1 else if c = 7 ∨ c = 11 ∨ c = 13 ∨ c = 14 then 3 else if c = 15 then 4 else 2)] := by
  simp only [p190_0, p190_1, p190_2, p190_3, p190_4, p190_7, p190_8, p190_9, p190_10, p190_11, p190_14, p190_15, p190_16, p190_17, p190_18, p190_21, p190_22, p190_23, p190_24, p190_25, p190_26, p190_27, p190_28, p190_29, p190_32, p190_33, p190_34, p190_35, p190_36, p190_38, p190_39, p190_40, p190_41, p190_42, p190_43, p190_45, p190_46, p190_47, p190_48, p190_49, p190_51, p190_52, b2_T, b2_F, Int.reduceEq, Int.reduceLT, Int.reduceLE, Int.reduceAdd, Int.reduceSub, Int.reduceMul, Int.reduceNeg, reduceIte, if_true, if_false, true_or, or_true, false_or, or_false, false_and, and_false, eq_self, not_false_eq_true, not_true_eq_false, true_and, and_true, List.cons_append, List.nil_append, List.append_nil, b2_0, b2_1, b2_01, Classical.not_not]
  have h : c = 0 ∨ c = 1 ∨ c = 2 ∨ c = 3 ∨ c = 4 ∨ c = 5 ∨ c = 6 ∨ c = 7 ∨ c = 8 ∨ c = 9 ∨ c = 10 ∨ c = 11 ∨ c = 12 ∨ c = 13 ∨ c = 14 ∨ c = 15 := by omega
  rcases h with rfl | rfl | rfl | rfl | rfl | rfl | rfl | rfl | rfl | rfl | rfl | rfl | rfl | rfl | rfl | rfl <;> exact q_eq (by decide +kernel)
theorem e114_9 {ds : Ds} {m : Mm} {Q : Ds → Mm → List MV → Prop} {a : Int} (h0 : 0 ≤ a) (h1 : a ≤ 15) : WP 114 0 [(0, 9), (0, a), (3, 0)] [] ds m Q = Q ds m [(0, b2 (a = 3 ∨ a = 5 ∨ a = 6 ∨ a = 9 ∨ a = 10 ∨ a = 12))] := by
  have e9 : mstA 9 = 15 := by decide
  have n0 : b2 (¬ (9 : Int) = 5 ∧ ¬ (9 : Int) = 7 ∧ ¬ (9 : Int) = 8) = 1 := by decide
  simp only [p114_0, p114_1, p114_4, p114_7, p114_8, p114_9, p114_10, p114_13, p114_14, p114_15, p114_18, p114_21, p114_22, p114_25, p114_26, p114_27, p114_28, p114_31, p114_32, p114_34, p114_37, p114_38, p114_41, p114_42, p114_45, p114_46, p114_49, p114_50, e112, e116, e9, n0, b2_T, b2_F, Int.reduceEq, Int.reduceLT, Int.reduceLE, Int.reduceAdd, Int.reduceSub, Int.reduceMul, Int.reduceNeg, reduceIte, if_true, if_false, true_or, or_true, false_or, or_false, false_and, and_false, eq_self, not_false_eq_true, not_true_eq_false, true_and, and_true, List.cons_append, List.nil_append, List.append_nil, b2_0, b2_1, b2_01, Classical.not_not, show ¬ a < 0 by omega, show ¬ 15 < a by omega, e190 h0 (show a < 16 by omega), if_false, if_true, show ¬ (1 : Int) = 0 by decide, show ¬ (9 : Int) = 5 by decide]
  have h : a = 0 ∨ a = 1 ∨ a = 2 ∨ a = 3 ∨ a = 4 ∨ a = 5 ∨ a = 6 ∨ a = 7 ∨ a = 8 ∨ a = 9 ∨ a = 10 ∨ a = 11 ∨ a = 12 ∨ a = 13 ∨ a = 14 ∨ a = 15 := by omega
  rcases h with rfl | rfl | rfl | rfl | rfl | rfl | rfl | rfl | rfl | rfl | rfl | rfl | rfl | rfl | rfl | rfl <;> simp [p114_0, p114_1, p114_4, p114_7, p114_8, p114_9, p114_10, p114_13, p114_14, p114_15, p114_18, p114_21, p114_22, p114_25, p114_26, p114_27, p114_28, p114_31, p114_32, p114_34, p114_37, p114_38, p114_41, p114_42, p114_45, p114_46, p114_49, p114_50, b2]
theorem e114 {ds : Ds} {m : Mm} {Q : Ds → Mm → List MV → Prop} {k a : Int} : WP 114 0 [(0, k), (0, a), (3, 0)] [] ds m Q = Q ds m [(0, b2 ((k = 5 ∨ k = 7 ∨ k = 8) ∨ 0 ≤ a ∧ a ≤ mstA k ∧ (k = 9 → a = 3 ∨ a = 5 ∨ a = 6 ∨ a = 9 ∨ a = 10 ∨ a = 12)))] := by
  by_cases hk : k = 5 ∨ k = 7 ∨ k = 8
  · rw [b2_t (p := _ ∨ _) (Or.inl hk)]
    simp only [p114_0, p114_1, p114_4, p114_7, p114_8, p114_9, p114_10, p114_13, p114_14, p114_15, p114_18, p114_21, p114_22, p114_25, p114_26, p114_27, p114_28, p114_31, p114_32, p114_34, p114_37, p114_38, p114_41, p114_42, p114_45, p114_46, p114_49, p114_50, e112, b2_T, b2_F, Int.reduceEq, Int.reduceLT, Int.reduceLE, Int.reduceAdd, Int.reduceSub, Int.reduceMul, Int.reduceNeg, reduceIte, if_true, if_false, true_or, or_true, false_or, or_false, false_and, and_false, eq_self, not_false_eq_true, not_true_eq_false, true_and, and_true, List.cons_append, List.nil_append, List.append_nil, b2_0, b2_1, b2_01, Classical.not_not, b2_f (p := ¬ k = 5 ∧ ¬ k = 7 ∧ ¬ k = 8) (by omega), if_true]
  · have n0 : b2 (¬ k = 5 ∧ ¬ k = 7 ∧ ¬ k = 8) = 1 := b2_t (by omega)
    by_cases h9 : k = 9 ∧ 0 ≤ a ∧ a ≤ 15
    · obtain ⟨rfl, h0, h1⟩ := h9
      rw [e114_9 h0 h1]
      refine q_eq ?_
      unfold b2
      rw [show mstA 9 = 15 by decide]
      split <;> split <;> omega
    · have hm : (k = 9 → mstA k = 15) := fun h => by subst h; decide
      simp only [p114_0, p114_1, p114_4, p114_7, p114_8, p114_9, p114_10, p114_13, p114_14, p114_15, p114_18, p114_21, p114_22, p114_25, p114_26, p114_27, p114_28, p114_31, p114_32, p114_34, p114_37, p114_38, p114_41, p114_42, p114_45, p114_46, p114_49, p114_50, e112, e116, b2_T, b2_F, Int.reduceEq, Int.reduceLT, Int.reduceLE, Int.reduceAdd, Int.reduceSub, Int.reduceMul, Int.reduceNeg, reduceIte, if_true, if_false, true_or, or_true, false_or, or_false, false_and, and_false, eq_self, not_false_eq_true, not_true_eq_false, true_and, and_true, List.cons_append, List.nil_append, List.append_nil, b2_0, b2_1, b2_01, Classical.not_not, n0, if_false, show ¬ (1 : Int) = 0 by decide]
      generalize mstA k = t at hm ⊢
      by_cases h1 : a < 0
      · simp only [if_pos h1, b2_T, b2_F, Int.reduceEq, Int.reduceLT, Int.reduceLE, Int.reduceAdd, Int.reduceSub, Int.reduceMul, Int.reduceNeg, reduceIte, if_true, if_false, true_or, or_true, false_or, or_false, false_and, and_false, eq_self, not_false_eq_true, not_true_eq_false, true_and, and_true, List.cons_append, List.nil_append, List.append_nil, b2_0, b2_1, b2_01, Classical.not_not, if_true, b2_f (p := (k = 5 ∨ k = 7 ∨ k = 8) ∨ 0 ≤ a ∧ a ≤ t ∧ (k = 9 → a = 3 ∨ a = 5 ∨ a = 6 ∨ a = 9 ∨ a = 10 ∨ a = 12)) (by omega)]
      · by_cases h2 : t < a
        · simp only [if_neg h1, if_pos h2, b2_T, b2_F, Int.reduceEq, Int.reduceLT, Int.reduceLE, Int.reduceAdd, Int.reduceSub, Int.reduceMul, Int.reduceNeg, reduceIte, if_true, if_false, true_or, or_true, false_or, or_false, false_and, and_false, eq_self, not_false_eq_true, not_true_eq_false, true_and, and_true, List.cons_append, List.nil_append, List.append_nil, b2_0, b2_1, b2_01, Classical.not_not, if_true, b2_f (p := (k = 5 ∨ k = 7 ∨ k = 8) ∨ 0 ≤ a ∧ a ≤ t ∧ (k = 9 → a = 3 ∨ a = 5 ∨ a = 6 ∨ a = 9 ∨ a = 10 ∨ a = 12)) (by omega)]
        · have h3 : ¬ k = 9 := fun h => by have := hm h; omega
          simp only [if_neg h1, if_neg h2, b2_T, b2_F, Int.reduceEq, Int.reduceLT, Int.reduceLE, Int.reduceAdd, Int.reduceSub, Int.reduceMul, Int.reduceNeg, reduceIte, if_true, if_false, true_or, or_true, false_or, or_false, false_and, and_false, eq_self, not_false_eq_true, not_true_eq_false, true_and, and_true, List.cons_append, List.nil_append, List.append_nil, b2_0, b2_1, b2_01, Classical.not_not, if_false, show ¬ (1 : Int) = 0 by decide, if_neg h3, b2_t (p := (k = 5 ∨ k = 7 ∨ k = 8) ∨ 0 ≤ a ∧ a ≤ t ∧ (k = 9 → a = 3 ∨ a = 5 ∨ a = 6 ∨ a = 9 ∨ a = 10 ∨ a = 12)) (by omega)]
theorem e115 {ds : Ds} {m : Mm} {Q : Ds → Mm → List MV → Prop} {k b : Int} : WP 115 0 [(0, k), (0, b)] [] ds m Q = Q ds m [(0, b2 (¬ (k = 4 ∨ k = 6) ∨ 1 ≤ b ∧ b ≤ if k = 4 then 60 else 9))] := by
  simp only [p115_0, p115_1, p115_4, p115_7, p115_8, p115_9, p115_10, p115_11, p115_14, p115_15, p115_16, p115_17, p115_20, p115_22, p115_25, p115_27, p115_30, p115_31, p115_34, p115_35, e113, b2_T, b2_F, Int.reduceEq, Int.reduceLT, Int.reduceLE, Int.reduceAdd, Int.reduceSub, Int.reduceMul, Int.reduceNeg, reduceIte, if_true, if_false, true_or, or_true, false_or, or_false, false_and, and_false, eq_self, not_false_eq_true, not_true_eq_false, true_and, and_true, List.cons_append, List.nil_append, List.append_nil, b2_0, b2_1, b2_01, Classical.not_not, b2]
  repeat' split
  all_goals first | rfl | (exfalso; omega) | simp
