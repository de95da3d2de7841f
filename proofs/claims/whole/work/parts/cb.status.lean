/-! status, both sides -/
theorem w32_lo {z : Int} (h : -4294967296 ≤ z) (h2 : z < -2147483648) : w32 z = z + 4294967296 := by
  have e : Int32.ofInt (z + 4294967296) = Int32.ofInt z := by
    rw [show z + 4294967296 = z - (-4294967296) by omega, Int32.ofInt_sub, show Int32.ofInt (-4294967296) = 0 by decide]
    simp
  unfold w32
  rw [← e]
  exact j_toInt (by omega) (by omega)
def xStat (m : Mm) (w : Int) : Int := if w = 0 then sm (fun c => b2 (¬ m 10 c = 0)) 96 else if w = 1 then sm (fun c => b2 (¬ m 14 c = 0)) 96 else if w = 2 then m 9 8 else if w = 3 then sm (fun c => b2 (m 10 c = 8)) 96 else if w = 4 then m 0 6 else if 11 ≤ w ∧ w ≤ 17 then m 3 (w - 10) else -1
def mStat (m : Mm) (w : Int) : Int := if w = 0 then sm (fun c => b2 (isK 0 (m 72 c))) 96 else if w = 1 then sm (fun c => b2 (¬ m 76 c = 0)) 96 else if w = 2 then m 70 6 else if w = 3 then sm (fun c => b2 (isK 8 (m 72 c))) 96 else if w = 4 then m 70 10 else if 11 ≤ w ∧ w ≤ 17 then m 71 (w - 10) else -1
section STAT
variable {tl : Ds} {m : Mm} {Q : Ds → Mm → List MV → Prop} {w : Int}
theorem e189 (S : Sh m) (hw : -2147483648 ≤ w ∧ w < 2147483648) : WP 189 0 [(2, 70), (0, w)] [] (dsB ++ tl) m Q = Q (dsB ++ tl) m [(0, mStat m w)] := by
  unfold mStat
  by_cases h : 0 ≤ w ∧ w ≤ 4
  · have h5 : w = 0 ∨ w = 1 ∨ w = 2 ∨ w = 3 ∨ w = 4 := by omega
    rcases h5 with rfl | rfl | rfl | rfl | rfl <;> simp only [p189_0, p189_1, p189_36, p189_37, p189_38, p189_41, p189_42, p189_43, p189_46, p189_47, p189_48, p189_51, p189_52, p189_53, p189_55, p189_58, p189_59, p189_60, p189_63, p189_64, p189_65, p189_67, p189_69, p189_72, p189_75, p189_76, p189_79, p189_80, p189_82, p189_83, p189_84, p189_87, p189_88, e136 S, e137 S, K_70, b2_T, b2_F, Int.reduceEq, Int.reduceLT, Int.reduceLE, Int.reduceAdd, Int.reduceSub, Int.reduceMul, Int.reduceNeg, reduceIte, if_true, if_false, true_or, or_true, false_or, or_false, false_and, and_false, eq_self, not_false_eq_true, not_true_eq_false, true_and, and_true, List.cons_append, List.nil_append, List.append_nil, b2_0, b2_1, b2_01, Classical.not_not]
  · have w0 : ¬ w = 0 := by omega
    have w1 : ¬ w = 1 := by omega
    have w2 : ¬ w = 2 := by omega
    have w3 : ¬ w = 3 := by omega
    have w4 : ¬ w = 4 := by omega
    by_cases h6 : 11 ≤ w ∧ w ≤ 17
    · have v1 : w32 (w - 10) = w - 10 := w32_id (by omega) (by omega)
      have v2 : 0 ≤ w - 10 := by omega
      have v3 : w - 10 < 8 := by omega
      simp only [if_pos h6]
      simp only [p189_0, p189_1, p189_36, p189_37, p189_38, p189_41, p189_42, p189_43, p189_46, p189_47, p189_48, p189_51, p189_52, p189_53, p189_55, p189_58, p189_59, p189_60, p189_63, p189_64, p189_65, p189_67, p189_69, p189_72, p189_75, p189_76, p189_79, p189_80, p189_82, p189_83, p189_84, p189_87, p189_88, e120, K_70, K_71, L_71, K_72, L_72, K_73, L_73, K_74, L_74, K_75, L_75, K_76, L_76, K_77, L_77, K_78, L_78, K_79, L_79, sh_70_0 S, sh_70_1 S, sh_70_2 S, sh_70_3 S, sh_70_4 S, sh_70_5 S, sh_70_7 S, sh_70_8 S, sh_70_9 S, w0, w1, w2, w3, w4, b2_t h6, v1, v2, v3, b2_T, b2_F, Int.reduceEq, Int.reduceLT, Int.reduceLE, Int.reduceAdd, Int.reduceSub, Int.reduceMul, Int.reduceNeg, reduceIte, if_true, if_false, true_or, or_true, false_or, or_false, false_and, and_false, eq_self, not_false_eq_true, not_true_eq_false, true_and, and_true, List.cons_append, List.nil_append, List.append_nil, b2_0, b2_1, b2_01, Classical.not_not]
    · simp only [if_neg h6]
      simp only [p189_0, p189_1, p189_36, p189_37, p189_38, p189_41, p189_42, p189_43, p189_46, p189_47, p189_48, p189_51, p189_52, p189_53, p189_55, p189_58, p189_59, p189_60, p189_63, p189_64, p189_65, p189_67, p189_69, p189_72, p189_75, p189_76, p189_79, p189_80, p189_82, p189_83, p189_84, p189_87, p189_88, e120, K_70, K_71, L_71, K_72, L_72, K_73, L_73, K_74, L_74, K_75, L_75, K_76, L_76, K_77, L_77, K_78, L_78, K_79, L_79, sh_70_0 S, sh_70_1 S, sh_70_2 S, sh_70_3 S, sh_70_4 S, sh_70_5 S, sh_70_7 S, sh_70_8 S, sh_70_9 S, w0, w1, w2, w3, w4, b2_f h6, b2_T, b2_F, Int.reduceEq, Int.reduceLT, Int.reduceLE, Int.reduceAdd, Int.reduceSub, Int.reduceMul, Int.reduceNeg, reduceIte, if_true, if_false, true_or, or_true, false_or, or_false, false_and, and_false, eq_self, not_false_eq_true, not_true_eq_false, true_and, and_true, List.cons_append, List.nil_append, List.append_nil, b2_0, b2_1, b2_01, Classical.not_not]
theorem e73 (S : Sh m) (hw : -2147483648 ≤ w ∧ w < 2147483648) : WP 73 0 [(2, 0), (0, w), (3, 0)] [] (dsB ++ tl) m Q = Q (dsB ++ tl) m [(0, xStat m w)] := by
  have h9 : PA (dsB ++ tl) m 9 := PA_9 S
  unfold xStat
  by_cases h : 0 ≤ w ∧ w ≤ 4
  · have h5 : w = 0 ∨ w = 1 ∨ w = 2 ∨ w = 3 ∨ w = 4 := by omega
    rcases h5 with rfl | rfl | rfl | rfl | rfl <;> simp only [p73_0, p73_1, p73_36, p73_37, p73_40, p73_43, p73_44, p73_45, p73_48, p73_51, p73_52, p73_53, p73_56, p73_59, p73_60, p73_61, p73_64, p73_67, p73_68, p73_69, p73_72, p73_73, p73_74, p73_76, p73_77, p73_78, p73_79, p73_80, p73_83, p73_84, p73_86, p73_89, p73_90, p73_93, p73_94, p73_95, p73_98, p73_99, e40 h9, e41 h9, e42 h9, K_0, K_9, sh_0_0 S, b2_T, b2_F, Int.reduceEq, Int.reduceLT, Int.reduceLE, Int.reduceAdd, Int.reduceSub, Int.reduceMul, Int.reduceNeg, reduceIte, if_true, if_false, true_or, or_true, false_or, or_false, false_and, and_false, eq_self, not_false_eq_true, not_true_eq_false, true_and, and_true, List.cons_append, List.nil_append, List.append_nil, b2_0, b2_1, b2_01, Classical.not_not]
  · have w0 : ¬ w = 0 := by omega
    have w1 : ¬ w = 1 := by omega
    have w2 : ¬ w = 2 := by omega
    have w3 : ¬ w = 3 := by omega
    have w4 : ¬ w = 4 := by omega
    by_cases h6 : 11 ≤ w ∧ w ≤ 17
    · have v1 : w32 (w - 10) = w - 10 := w32_id (by omega) (by omega)
      have v2 : 0 ≤ w - 10 := by omega
      have v3 : w - 10 < 8 := by omega
      have v4 : ¬ w - 10 < 1 := by omega
      simp only [if_pos h6]
      simp only [p73_0, p73_1, p73_36, p73_37, p73_40, p73_43, p73_44, p73_45, p73_48, p73_51, p73_52, p73_53, p73_56, p73_59, p73_60, p73_61, p73_64, p73_67, p73_68, p73_69, p73_72, p73_73, p73_74, p73_76, p73_77, p73_78, p73_79, p73_80, p73_83, p73_84, p73_86, p73_89, p73_90, p73_93, p73_94, p73_95, p73_98, p73_99, K_0, K_3, L_3, sh_0_0 S, sh_0_1 S, sh_0_2 S, sh_0_3 S, sh_0_4 S, sh_0_5 S, sh_0_7 S, sh_0_8 S, sh_0_10 S, sh_0_12 S, sh_0_14 S, sh_0_15 S, w0, w1, w2, w3, w4, v1, v2, v3, v4, b2_T, b2_F, Int.reduceEq, Int.reduceLT, Int.reduceLE, Int.reduceAdd, Int.reduceSub, Int.reduceMul, Int.reduceNeg, reduceIte, if_true, if_false, true_or, or_true, false_or, or_false, false_and, and_false, eq_self, not_false_eq_true, not_true_eq_false, true_and, and_true, List.cons_append, List.nil_append, List.append_nil, b2_0, b2_1, b2_01, Classical.not_not]
    · simp only [if_neg h6]
      by_cases h7 : -2147483648 ≤ w - 10
      · have v1 : w32 (w - 10) = w - 10 := w32_id h7 (by omega)
        by_cases h8 : w - 10 < 1
        · simp only [p73_0, p73_1, p73_36, p73_37, p73_40, p73_43, p73_44, p73_45, p73_48, p73_51, p73_52, p73_53, p73_56, p73_59, p73_60, p73_61, p73_64, p73_67, p73_68, p73_69, p73_72, p73_73, p73_74, p73_76, p73_77, p73_78, p73_79, p73_80, p73_83, p73_84, p73_86, p73_89, p73_90, p73_93, p73_94, p73_95, p73_98, p73_99, K_0, K_3, L_3, sh_0_0 S, sh_0_1 S, sh_0_2 S, sh_0_3 S, sh_0_4 S, sh_0_5 S, sh_0_7 S, sh_0_8 S, sh_0_10 S, sh_0_12 S, sh_0_14 S, sh_0_15 S, w0, w1, w2, w3, w4, v1, h8, b2_T, b2_F, Int.reduceEq, Int.reduceLT, Int.reduceLE, Int.reduceAdd, Int.reduceSub, Int.reduceMul, Int.reduceNeg, reduceIte, if_true, if_false, true_or, or_true, false_or, or_false, false_and, and_false, eq_self, not_false_eq_true, not_true_eq_false, true_and, and_true, List.cons_append, List.nil_append, List.append_nil, b2_0, b2_1, b2_01, Classical.not_not]
        · have v3 : ¬ w - 10 < 8 := by omega
          simp only [p73_0, p73_1, p73_36, p73_37, p73_40, p73_43, p73_44, p73_45, p73_48, p73_51, p73_52, p73_53, p73_56, p73_59, p73_60, p73_61, p73_64, p73_67, p73_68, p73_69, p73_72, p73_73, p73_74, p73_76, p73_77, p73_78, p73_79, p73_80, p73_83, p73_84, p73_86, p73_89, p73_90, p73_93, p73_94, p73_95, p73_98, p73_99, K_0, K_3, L_3, sh_0_0 S, sh_0_1 S, sh_0_2 S, sh_0_3 S, sh_0_4 S, sh_0_5 S, sh_0_7 S, sh_0_8 S, sh_0_10 S, sh_0_12 S, sh_0_14 S, sh_0_15 S, w0, w1, w2, w3, w4, v1, h8, v3, b2_T, b2_F, Int.reduceEq, Int.reduceLT, Int.reduceLE, Int.reduceAdd, Int.reduceSub, Int.reduceMul, Int.reduceNeg, reduceIte, if_true, if_false, true_or, or_true, false_or, or_false, false_and, and_false, eq_self, not_false_eq_true, not_true_eq_false, true_and, and_true, List.cons_append, List.nil_append, List.append_nil, b2_0, b2_1, b2_01, Classical.not_not]
      · have v1 : w32 (w - 10) = w - 10 + 4294967296 := w32_lo (by omega) (by omega)
        have v2 : ¬ w - 10 + 4294967296 < 1 := by omega
        have v3 : ¬ w - 10 + 4294967296 < 8 := by omega
        simp only [p73_0, p73_1, p73_36, p73_37, p73_40, p73_43, p73_44, p73_45, p73_48, p73_51, p73_52, p73_53, p73_56, p73_59, p73_60, p73_61, p73_64, p73_67, p73_68, p73_69, p73_72, p73_73, p73_74, p73_76, p73_77, p73_78, p73_79, p73_80, p73_83, p73_84, p73_86, p73_89, p73_90, p73_93, p73_94, p73_95, p73_98, p73_99, K_0, K_3, L_3, sh_0_0 S, sh_0_1 S, sh_0_2 S, sh_0_3 S, sh_0_4 S, sh_0_5 S, sh_0_7 S, sh_0_8 S, sh_0_10 S, sh_0_12 S, sh_0_14 S, sh_0_15 S, w0, w1, w2, w3, w4, v1, v2, v3, b2_T, b2_F, Int.reduceEq, Int.reduceLT, Int.reduceLE, Int.reduceAdd, Int.reduceSub, Int.reduceMul, Int.reduceNeg, reduceIte, if_true, if_false, true_or, or_true, false_or, or_false, false_and, and_false, eq_self, not_false_eq_true, not_true_eq_false, true_and, and_true, List.cons_append, List.nil_append, List.append_nil, b2_0, b2_1, b2_01, Classical.not_not]
end STAT
