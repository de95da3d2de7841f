/-! calls on the plan: start (class), at, counts of the reference -/
def xAt (m : Mm) (c w : Int) : Int := if isC c then (if w = 0 then m 10 c else if w = 1 then m 11 c else if w = 2 then m 12 c else if w = 3 then b2 (¬ m 14 c = 0) else if w = 4 then (if m 10 c = 3 then m 13 c else -1) else -1) else -1
def mAt (m : Mm) (c w : Int) : Int := if isC c then (if w = 3 then b2 (¬ m 76 c = 0) else if w = 4 then (if m 72 c = 3 then m 75 c else -1) else if 0 ≤ w ∧ w ≤ 2 then (if m 72 c = 0 then 0 else if w = 0 then m 72 c else if w = 1 then m 73 c else m 74 c) else -1) else -1
abbrev isK (k v : Int) : Prop := (k = 0 ∧ ¬ v = 0) ∨ (¬ k = 0 ∧ v = k)
section CALLS3
variable {tl : Ds} {m : Mm} {Q : Ds → Mm → List MV → Prop} {c s t w k : Int}
theorem e70 (S : Sh m) (hn : 0 ≤ m 9 8 ∧ m 9 8 ≤ 4) : WP 70 0 [(2, 0), (0, c), (0, s), (0, t)] [] (dsB ++ tl) m Q = Q (dsB ++ tl) (xStart m c s t) [(0, aStart c s t (m 9 8))] := by
  have h9 : PA (dsB ++ tl) m 9 := PA_9 S
  have S1 : Sh (adS m 9 c s t) := Sh.up (Sh_ar (Sh_ar (Sh_ar S (by decide)) (by decide)) (by decide)) (by decide)
  have v1 : adS m 9 c s t 9 8 = m 9 8 + 1 := by simp only [adS, up_at, b2_T, b2_F, Int.reduceEq, Int.reduceLT, Int.reduceLE, Int.reduceAdd, Int.reduceSub, Int.reduceMul, Int.reduceNeg, reduceIte, if_true, if_false, true_or, or_true, false_or, or_false, false_and, and_false, eq_self, not_false_eq_true, not_true_eq_false, true_and, and_true, List.cons_append, List.nil_append, List.append_nil, b2_0, b2_1, b2_01, Classical.not_not]
  unfold xStart aStart
  by_cases hc : isC c
  · by_cases i1 : 0 ≤ s ∧ s < 4
    · by_cases i2 : 0 ≤ t ∧ t ≤ 99
      · have j1 : ¬ t < 0 := by omega
        have j2 : ¬ 99 < t := by omega
        by_cases i3 : m 9 8 < 4
        · simp only [if_pos hc, if_pos (show okS s ∧ 0 ≤ t ∧ t ≤ 99 by omega), if_pos i3]
          simp only [p70_0, p70_1, p70_4, p70_7, p70_8, p70_9, p70_12, p70_13, p70_14, p70_17, p70_20, p70_21, p70_24, p70_25, p70_27, p70_30, p70_31, p70_33, p70_36, p70_37, p70_38, p70_41, p70_42, p70_43, p70_44, p70_47, p70_50, p70_51, p70_53, p70_56, p70_57, p70_58, p70_61, p70_64, e107, e108, e39 h9 hn, K_9, K_0, K_3, L_3, sh_0_0 S, sh_0_1 S, sh_0_2 S, sh_0_3 S, sh_0_4 S, sh_0_5 S, sh_0_7 S, sh_0_8 S, sh_0_10 S, sh_0_12 S, sh_0_14 S, sh_0_15 S, sh_0_0 S1, v1, b2_t hc, b2_t i1, j1, j2, i3, b2_T, b2_F, Int.reduceEq, Int.reduceLT, Int.reduceLE, Int.reduceAdd, Int.reduceSub, Int.reduceMul, Int.reduceNeg, reduceIte, if_true, if_false, true_or, or_true, false_or, or_false, false_and, and_false, eq_self, not_false_eq_true, not_true_eq_false, true_and, and_true, List.cons_append, List.nil_append, List.append_nil, b2_0, b2_1, b2_01, Classical.not_not]
        · simp only [if_pos hc, if_pos (show okS s ∧ 0 ≤ t ∧ t ≤ 99 by omega), if_neg i3]
          simp only [p70_0, p70_1, p70_4, p70_7, p70_8, p70_9, p70_12, p70_13, p70_14, p70_17, p70_20, p70_21, p70_24, p70_25, p70_27, p70_30, p70_31, p70_33, p70_36, p70_37, p70_38, p70_41, p70_42, p70_43, p70_44, p70_47, p70_50, p70_51, p70_53, p70_56, p70_57, p70_58, p70_61, p70_64, e107, e108, e39 h9 hn, K_9, K_0, K_3, L_3, sh_0_0 S, sh_0_1 S, sh_0_2 S, sh_0_3 S, sh_0_4 S, sh_0_5 S, sh_0_7 S, sh_0_8 S, sh_0_10 S, sh_0_12 S, sh_0_14 S, sh_0_15 S, e95 S (show -7 ≤ (-7 : Int) ∧ (-7 : Int) ≤ -1 by decide), b2_t hc, b2_t i1, j1, j2, i3, b2_T, b2_F, Int.reduceEq, Int.reduceLT, Int.reduceLE, Int.reduceAdd, Int.reduceSub, Int.reduceMul, Int.reduceNeg, reduceIte, if_true, if_false, true_or, or_true, false_or, or_false, false_and, and_false, eq_self, not_false_eq_true, not_true_eq_false, true_and, and_true, List.cons_append, List.nil_append, List.append_nil, b2_0, b2_1, b2_01, Classical.not_not]
      · simp only [if_pos hc, if_neg (show ¬ (okS s ∧ 0 ≤ t ∧ t ≤ 99) by omega)]
        by_cases j1 : t < 0
        · simp only [p70_0, p70_1, p70_4, p70_7, p70_8, p70_9, p70_12, p70_13, p70_14, p70_17, p70_20, p70_21, p70_24, p70_25, p70_27, p70_30, p70_31, p70_33, p70_36, p70_37, p70_38, p70_41, p70_42, p70_43, p70_44, p70_47, p70_50, p70_51, p70_53, p70_56, p70_57, p70_58, p70_61, p70_64, e107, e108, K_0, e95 S (show -7 ≤ (-6 : Int) ∧ (-6 : Int) ≤ -1 by decide), b2_t hc, b2_t i1, j1, b2_T, b2_F, Int.reduceEq, Int.reduceLT, Int.reduceLE, Int.reduceAdd, Int.reduceSub, Int.reduceMul, Int.reduceNeg, reduceIte, if_true, if_false, true_or, or_true, false_or, or_false, false_and, and_false, eq_self, not_false_eq_true, not_true_eq_false, true_and, and_true, List.cons_append, List.nil_append, List.append_nil, b2_0, b2_1, b2_01, Classical.not_not]
        · have j2 : 99 < t := by omega
          simp only [p70_0, p70_1, p70_4, p70_7, p70_8, p70_9, p70_12, p70_13, p70_14, p70_17, p70_20, p70_21, p70_24, p70_25, p70_27, p70_30, p70_31, p70_33, p70_36, p70_37, p70_38, p70_41, p70_42, p70_43, p70_44, p70_47, p70_50, p70_51, p70_53, p70_56, p70_57, p70_58, p70_61, p70_64, e107, e108, K_0, e95 S (show -7 ≤ (-6 : Int) ∧ (-6 : Int) ≤ -1 by decide), b2_t hc, b2_t i1, j1, j2, b2_T, b2_F, Int.reduceEq, Int.reduceLT, Int.reduceLE, Int.reduceAdd, Int.reduceSub, Int.reduceMul, Int.reduceNeg, reduceIte, if_true, if_false, true_or, or_true, false_or, or_false, false_and, and_false, eq_self, not_false_eq_true, not_true_eq_false, true_and, and_true, List.cons_append, List.nil_append, List.append_nil, b2_0, b2_1, b2_01, Classical.not_not]
    · simp only [if_pos hc, if_neg (show ¬ (okS s ∧ 0 ≤ t ∧ t ≤ 99) by omega)]
      simp only [p70_0, p70_1, p70_4, p70_7, p70_8, p70_9, p70_12, p70_13, p70_14, p70_17, p70_20, p70_21, p70_24, p70_25, p70_27, p70_30, p70_31, p70_33, p70_36, p70_37, p70_38, p70_41, p70_42, p70_43, p70_44, p70_47, p70_50, p70_51, p70_53, p70_56, p70_57, p70_58, p70_61, p70_64, e107, e108, K_0, e95 S (show -7 ≤ (-6 : Int) ∧ (-6 : Int) ≤ -1 by decide), b2_t hc, b2_f i1, b2_T, b2_F, Int.reduceEq, Int.reduceLT, Int.reduceLE, Int.reduceAdd, Int.reduceSub, Int.reduceMul, Int.reduceNeg, reduceIte, if_true, if_false, true_or, or_true, false_or, or_false, false_and, and_false, eq_self, not_false_eq_true, not_true_eq_false, true_and, and_true, List.cons_append, List.nil_append, List.append_nil, b2_0, b2_1, b2_01, Classical.not_not]
  · simp only [if_neg hc]
    simp only [p70_0, p70_1, p70_4, p70_7, p70_8, p70_9, p70_12, p70_13, p70_14, p70_17, p70_20, p70_21, p70_24, p70_25, p70_27, p70_30, p70_31, p70_33, p70_36, p70_37, p70_38, p70_41, p70_42, p70_43, p70_44, p70_47, p70_50, p70_51, p70_53, p70_56, p70_57, p70_58, p70_61, p70_64, e107, K_0, e95 S (show -7 ≤ (-1 : Int) ∧ (-1 : Int) ≤ -1 by decide), b2_f hc, b2_T, b2_F, Int.reduceEq, Int.reduceLT, Int.reduceLE, Int.reduceAdd, Int.reduceSub, Int.reduceMul, Int.reduceNeg, reduceIte, if_true, if_false, true_or, or_true, false_or, or_false, false_and, and_false, eq_self, not_false_eq_true, not_true_eq_false, true_and, and_true, List.cons_append, List.nil_append, List.append_nil, b2_0, b2_1, b2_01, Classical.not_not]
theorem e138 (S : Sh m) : WP 138 0 [(2, 70), (0, c), (0, w)] [] (dsB ++ tl) m Q = Q (dsB ++ tl) m [(0, mAt m c w)] := by
  unfold mAt
  by_cases hc : isC c
  · have g0 : 0 ≤ c := hc.1
    have g1 : c < 96 := hc.2
    simp only [if_pos hc]
    by_cases hw : 0 ≤ w ∧ w ≤ 4
    · have h : w = 0 ∨ w = 1 ∨ w = 2 ∨ w = 3 ∨ w = 4 := by omega
      by_cases k0 : m 72 c = 0
      · by_cases bl : m 76 c = 0 <;> rcases h with rfl | rfl | rfl | rfl | rfl <;> simp only [p138_0, p138_1, p138_4, p138_7, p138_8, p138_9, p138_10, p138_13, p138_16, p138_17, p138_18, p138_19, p138_20, p138_23, p138_24, p138_27, p138_28, p138_29, p138_32, p138_33, p138_36, p138_37, p138_38, p138_39, p138_40, p138_43, p138_44, p138_47, p138_48, p138_49, p138_50, p138_53, p138_54, p138_57, p138_58, p138_59, p138_62, p138_63, p138_64, p138_65, p138_68, p138_69, p138_70, p138_73, p138_74, p138_77, p138_78, p138_81, p138_82, p138_85, p138_86, p138_87, p138_90, p138_91, p138_92, p138_95, p138_96, p138_99, p138_100, p138_101, p138_104, p138_105, p138_108, p138_109, p138_110, e122, e120, K_70, K_71, L_71, K_72, L_72, K_73, L_73, K_74, L_74, K_75, L_75, K_76, L_76, K_77, L_77, K_78, L_78, K_79, L_79, sh_70_0 S, sh_70_1 S, sh_70_2 S, sh_70_3 S, sh_70_4 S, sh_70_5 S, sh_70_7 S, sh_70_8 S, sh_70_9 S, b2_t hc, g0, g1, k0, bl, and_self, b2_T, b2_F, Int.reduceEq, Int.reduceLT, Int.reduceLE, Int.reduceAdd, Int.reduceSub, Int.reduceMul, Int.reduceNeg, reduceIte, if_true, if_false, true_or, or_true, false_or, or_false, false_and, and_false, eq_self, not_false_eq_true, not_true_eq_false, true_and, and_true, List.cons_append, List.nil_append, List.append_nil, b2_0, b2_1, b2_01, Classical.not_not]
      · by_cases bl : m 76 c = 0 <;> by_cases k3 : m 72 c = 3 <;> rcases h with rfl | rfl | rfl | rfl | rfl <;> simp only [p138_0, p138_1, p138_4, p138_7, p138_8, p138_9, p138_10, p138_13, p138_16, p138_17, p138_18, p138_19, p138_20, p138_23, p138_24, p138_27, p138_28, p138_29, p138_32, p138_33, p138_36, p138_37, p138_38, p138_39, p138_40, p138_43, p138_44, p138_47, p138_48, p138_49, p138_50, p138_53, p138_54, p138_57, p138_58, p138_59, p138_62, p138_63, p138_64, p138_65, p138_68, p138_69, p138_70, p138_73, p138_74, p138_77, p138_78, p138_81, p138_82, p138_85, p138_86, p138_87, p138_90, p138_91, p138_92, p138_95, p138_96, p138_99, p138_100, p138_101, p138_104, p138_105, p138_108, p138_109, p138_110, e122, e120, K_70, K_71, L_71, K_72, L_72, K_73, L_73, K_74, L_74, K_75, L_75, K_76, L_76, K_77, L_77, K_78, L_78, K_79, L_79, sh_70_0 S, sh_70_1 S, sh_70_2 S, sh_70_3 S, sh_70_4 S, sh_70_5 S, sh_70_7 S, sh_70_8 S, sh_70_9 S, b2_t hc, g0, g1, k0, k3, bl, and_self, b2_T, b2_F, Int.reduceEq, Int.reduceLT, Int.reduceLE, Int.reduceAdd, Int.reduceSub, Int.reduceMul, Int.reduceNeg, reduceIte, if_true, if_false, true_or, or_true, false_or, or_false, false_and, and_false, eq_self, not_false_eq_true, not_true_eq_false, true_and, and_true, List.cons_append, List.nil_append, List.append_nil, b2_0, b2_1, b2_01, Classical.not_not]
    · have w3 : ¬ w = 3 := by omega
      have w4 : ¬ w = 4 := by omega
      have w5 : ¬ (0 ≤ w ∧ w ≤ 2) := by omega
      simp only [p138_0, p138_1, p138_4, p138_7, p138_8, p138_9, p138_10, p138_13, p138_16, p138_17, p138_18, p138_19, p138_20, p138_23, p138_24, p138_27, p138_28, p138_29, p138_32, p138_33, p138_36, p138_37, p138_38, p138_39, p138_40, p138_43, p138_44, p138_47, p138_48, p138_49, p138_50, p138_53, p138_54, p138_57, p138_58, p138_59, p138_62, p138_63, p138_64, p138_65, p138_68, p138_69, p138_70, p138_73, p138_74, p138_77, p138_78, p138_81, p138_82, p138_85, p138_86, p138_87, p138_90, p138_91, p138_92, p138_95, p138_96, p138_99, p138_100, p138_101, p138_104, p138_105, p138_108, p138_109, p138_110, e122, e120, b2_t hc, b2_f hw, w3, w4, w5, b2_T, b2_F, Int.reduceEq, Int.reduceLT, Int.reduceLE, Int.reduceAdd, Int.reduceSub, Int.reduceMul, Int.reduceNeg, reduceIte, if_true, if_false, true_or, or_true, false_or, or_false, false_and, and_false, eq_self, not_false_eq_true, not_true_eq_false, true_and, and_true, List.cons_append, List.nil_append, List.append_nil, b2_0, b2_1, b2_01, Classical.not_not]
  · simp only [if_neg hc]
    simp only [p138_0, p138_1, p138_4, p138_7, p138_8, p138_9, p138_10, p138_13, p138_16, p138_17, p138_18, p138_19, p138_20, p138_23, p138_24, p138_27, p138_28, p138_29, p138_32, p138_33, p138_36, p138_37, p138_38, p138_39, p138_40, p138_43, p138_44, p138_47, p138_48, p138_49, p138_50, p138_53, p138_54, p138_57, p138_58, p138_59, p138_62, p138_63, p138_64, p138_65, p138_68, p138_69, p138_70, p138_73, p138_74, p138_77, p138_78, p138_81, p138_82, p138_85, p138_86, p138_87, p138_90, p138_91, p138_92, p138_95, p138_96, p138_99, p138_100, p138_101, p138_104, p138_105, p138_108, p138_109, p138_110, e122, e120, b2_f hc, b2_T, b2_F, Int.reduceEq, Int.reduceLT, Int.reduceLE, Int.reduceAdd, Int.reduceSub, Int.reduceMul, Int.reduceNeg, reduceIte, if_true, if_false, true_or, or_true, false_or, or_false, false_and, and_false, eq_self, not_false_eq_true, not_true_eq_false, true_and, and_true, List.cons_append, List.nil_append, List.append_nil, b2_0, b2_1, b2_01, Classical.not_not]
theorem e72 (S : Sh m) : WP 72 0 [(2, 0), (0, c), (0, w)] [] (dsB ++ tl) m Q = Q (dsB ++ tl) m [(0, xAt m c w)] := by
  have h9 : PA (dsB ++ tl) m 9 := PA_9 S
  unfold xAt
  by_cases hc : isC c
  · simp only [if_pos hc]
    by_cases hw : 0 ≤ w ∧ w ≤ 4
    · have h : w = 0 ∨ w = 1 ∨ w = 2 ∨ w = 3 ∨ w = 4 := by omega
      by_cases bl : m 14 c = 0 <;> by_cases k3 : m 10 c = 3 <;> rcases h with rfl | rfl | rfl | rfl | rfl <;> simp only [p72_0, p72_1, p72_4, p72_7, p72_8, p72_9, p72_10, p72_44, p72_45, p72_48, p72_49, p72_52, p72_53, p72_54, p72_57, p72_58, p72_61, p72_62, p72_63, p72_66, p72_67, p72_70, p72_71, p72_72, p72_75, p72_76, p72_79, p72_82, p72_83, p72_86, p72_87, p72_88, p72_89, p72_92, p72_93, p72_96, p72_97, p72_98, e107, e24 h9, e25 h9, e26 h9, e27 h9, e28 h9, K_0, K_9, sh_0_0 S, b2_t hc, if_pos hc, hc, k3, bl, and_self, b2_T, b2_F, Int.reduceEq, Int.reduceLT, Int.reduceLE, Int.reduceAdd, Int.reduceSub, Int.reduceMul, Int.reduceNeg, reduceIte, if_true, if_false, true_or, or_true, false_or, or_false, false_and, and_false, eq_self, not_false_eq_true, not_true_eq_false, true_and, and_true, List.cons_append, List.nil_append, List.append_nil, b2_0, b2_1, b2_01, Classical.not_not]
    · have w0 : ¬ w = 0 := by omega
      have w1 : ¬ w = 1 := by omega
      have w2 : ¬ w = 2 := by omega
      have w3 : ¬ w = 3 := by omega
      have w4 : ¬ w = 4 := by omega
      simp only [p72_0, p72_1, p72_4, p72_7, p72_8, p72_9, p72_10, p72_44, p72_45, p72_48, p72_49, p72_52, p72_53, p72_54, p72_57, p72_58, p72_61, p72_62, p72_63, p72_66, p72_67, p72_70, p72_71, p72_72, p72_75, p72_76, p72_79, p72_82, p72_83, p72_86, p72_87, p72_88, p72_89, p72_92, p72_93, p72_96, p72_97, p72_98, e107, b2_t hc, w0, w1, w2, w3, w4, b2_T, b2_F, Int.reduceEq, Int.reduceLT, Int.reduceLE, Int.reduceAdd, Int.reduceSub, Int.reduceMul, Int.reduceNeg, reduceIte, if_true, if_false, true_or, or_true, false_or, or_false, false_and, and_false, eq_self, not_false_eq_true, not_true_eq_false, true_and, and_true, List.cons_append, List.nil_append, List.append_nil, b2_0, b2_1, b2_01, Classical.not_not]
  · simp only [if_neg hc]
    simp only [p72_0, p72_1, p72_4, p72_7, p72_8, p72_9, p72_10, p72_44, p72_45, p72_48, p72_49, p72_52, p72_53, p72_54, p72_57, p72_58, p72_61, p72_62, p72_63, p72_66, p72_67, p72_70, p72_71, p72_72, p72_75, p72_76, p72_79, p72_82, p72_83, p72_86, p72_87, p72_88, p72_89, p72_92, p72_93, p72_96, p72_97, p72_98, e107, b2_f hc, b2_T, b2_F, Int.reduceEq, Int.reduceLT, Int.reduceLE, Int.reduceAdd, Int.reduceSub, Int.reduceMul, Int.reduceNeg, reduceIte, if_true, if_false, true_or, or_true, false_or, or_false, false_and, and_false, eq_self, not_false_eq_true, not_true_eq_false, true_and, and_true, List.cons_append, List.nil_append, List.append_nil, b2_0, b2_1, b2_01, Classical.not_not]
theorem e136l (S : Sh m) : ∀ (j n : Nat), n + j = 96 → WP 136 4 [(2, 70), (0, k), (0, sm (fun c => b2 (isK k (m 72 c))) n), (0, (n : Int))] [] (dsB ++ tl) m Q = Q (dsB ++ tl) m [(0, sm (fun c => b2 (isK k (m 72 c))) 96)] := by
  intro j
  induction j with
  | zero =>
    intro n hn
    have hn : n = 96 := by omega
    subst hn
    have c1 : ((96 : Nat) : Int) = 96 := rfl
    rw [p136_4]
    simp only [p136_0, p136_1, p136_2, p136_3, p136_5, p136_7, p136_10, p136_11, p136_12, p136_15, p136_16, p136_19, p136_20, p136_21, p136_24, p136_25, p136_28, p136_29, p136_32, p136_33, p136_36, p136_37, p136_38, p136_39, p136_42, p136_43, p136_46, p136_47, p136_48, p136_49, p136_52, p136_55, p136_56, c1, b2_T, b2_F, Int.reduceEq, Int.reduceLT, Int.reduceLE, Int.reduceAdd, Int.reduceSub, Int.reduceMul, Int.reduceNeg, reduceIte, if_true, if_false, true_or, or_true, false_or, or_false, false_and, and_false, eq_self, not_false_eq_true, not_true_eq_false, true_and, and_true, List.cons_append, List.nil_append, List.append_nil, b2_0, b2_1, b2_01, Classical.not_not, Int.lt_irrefl]
  | succ j ih =>
    intro n hn
    have i1 := ih (n + 1) (by omega)
    have c1 : ((n + 1 : Nat) : Int) = (n : Int) + 1 := rfl
    have c2 : sm (fun c => b2 (isK k (m 72 c))) (n + 1) = sm (fun c => b2 (isK k (m 72 c))) n + b2 (isK k (m 72 n)) := rfl
    have c3 := sm_b (f := fun c => b2 (isK k (m 72 c))) (fun c => b2_b _) n
    rw [c1, c2] at i1
    generalize sm (fun c => b2 (isK k (m 72 c))) n = v at *
    have w1 : w32 ((n : Int) + 1) = n + 1 := w32_id (by omega) (by omega)
    have w2 : w32 (v + 1) = v + 1 := w32_id (by omega) (by omega)
    have w3 : w32 (v + 0) = v + 0 := w32_id (by omega) (by omega)
    have h0 : 0 ≤ (n : Int) := by omega
    have h1 : (n : Int) < 96 := by omega
    rw [p136_4]
    by_cases hk : k = 0
    · by_cases hv : m 72 n = 0
      · rw [b2_f (by omega)] at i1
        simp only [p136_0, p136_1, p136_2, p136_3, p136_5, p136_7, p136_10, p136_11, p136_12, p136_15, p136_16, p136_19, p136_20, p136_21, p136_24, p136_25, p136_28, p136_29, p136_32, p136_33, p136_36, p136_37, p136_38, p136_39, p136_42, p136_43, p136_46, p136_47, p136_48, p136_49, p136_52, p136_55, p136_56, K_70, K_71, L_71, K_72, L_72, K_73, L_73, K_74, L_74, K_75, L_75, K_76, L_76, K_77, L_77, K_78, L_78, K_79, L_79, sh_70_0 S, sh_70_1 S, sh_70_2 S, sh_70_3 S, sh_70_4 S, sh_70_5 S, sh_70_7 S, sh_70_8 S, sh_70_9 S, h0, h1, hk, hv, w1, w3, b2_T, b2_F, Int.reduceEq, Int.reduceLT, Int.reduceLE, Int.reduceAdd, Int.reduceSub, Int.reduceMul, Int.reduceNeg, reduceIte, if_true, if_false, true_or, or_true, false_or, or_false, false_and, and_false, eq_self, not_false_eq_true, not_true_eq_false, true_and, and_true, List.cons_append, List.nil_append, List.append_nil, b2_0, b2_1, b2_01, Classical.not_not]
        rw [hk] at i1
        exact i1
      · rw [b2_t (by omega)] at i1
        simp only [p136_0, p136_1, p136_2, p136_3, p136_5, p136_7, p136_10, p136_11, p136_12, p136_15, p136_16, p136_19, p136_20, p136_21, p136_24, p136_25, p136_28, p136_29, p136_32, p136_33, p136_36, p136_37, p136_38, p136_39, p136_42, p136_43, p136_46, p136_47, p136_48, p136_49, p136_52, p136_55, p136_56, K_70, K_71, L_71, K_72, L_72, K_73, L_73, K_74, L_74, K_75, L_75, K_76, L_76, K_77, L_77, K_78, L_78, K_79, L_79, sh_70_0 S, sh_70_1 S, sh_70_2 S, sh_70_3 S, sh_70_4 S, sh_70_5 S, sh_70_7 S, sh_70_8 S, sh_70_9 S, h0, h1, hk, hv, w1, w2, b2_T, b2_F, Int.reduceEq, Int.reduceLT, Int.reduceLE, Int.reduceAdd, Int.reduceSub, Int.reduceMul, Int.reduceNeg, reduceIte, if_true, if_false, true_or, or_true, false_or, or_false, false_and, and_false, eq_self, not_false_eq_true, not_true_eq_false, true_and, and_true, List.cons_append, List.nil_append, List.append_nil, b2_0, b2_1, b2_01, Classical.not_not]
        rw [hk] at i1
        exact i1
    · by_cases hv : m 72 n = k
      · rw [b2_t (by omega)] at i1
        simp only [p136_0, p136_1, p136_2, p136_3, p136_5, p136_7, p136_10, p136_11, p136_12, p136_15, p136_16, p136_19, p136_20, p136_21, p136_24, p136_25, p136_28, p136_29, p136_32, p136_33, p136_36, p136_37, p136_38, p136_39, p136_42, p136_43, p136_46, p136_47, p136_48, p136_49, p136_52, p136_55, p136_56, K_70, K_71, L_71, K_72, L_72, K_73, L_73, K_74, L_74, K_75, L_75, K_76, L_76, K_77, L_77, K_78, L_78, K_79, L_79, sh_70_0 S, sh_70_1 S, sh_70_2 S, sh_70_3 S, sh_70_4 S, sh_70_5 S, sh_70_7 S, sh_70_8 S, sh_70_9 S, h0, h1, hk, hv, w1, w2, b2_T, b2_F, Int.reduceEq, Int.reduceLT, Int.reduceLE, Int.reduceAdd, Int.reduceSub, Int.reduceMul, Int.reduceNeg, reduceIte, if_true, if_false, true_or, or_true, false_or, or_false, false_and, and_false, eq_self, not_false_eq_true, not_true_eq_false, true_and, and_true, List.cons_append, List.nil_append, List.append_nil, b2_0, b2_1, b2_01, Classical.not_not]
        exact i1
      · rw [b2_f (by omega)] at i1
        simp only [p136_0, p136_1, p136_2, p136_3, p136_5, p136_7, p136_10, p136_11, p136_12, p136_15, p136_16, p136_19, p136_20, p136_21, p136_24, p136_25, p136_28, p136_29, p136_32, p136_33, p136_36, p136_37, p136_38, p136_39, p136_42, p136_43, p136_46, p136_47, p136_48, p136_49, p136_52, p136_55, p136_56, K_70, K_71, L_71, K_72, L_72, K_73, L_73, K_74, L_74, K_75, L_75, K_76, L_76, K_77, L_77, K_78, L_78, K_79, L_79, sh_70_0 S, sh_70_1 S, sh_70_2 S, sh_70_3 S, sh_70_4 S, sh_70_5 S, sh_70_7 S, sh_70_8 S, sh_70_9 S, h0, h1, hk, hv, w1, w3, b2_T, b2_F, Int.reduceEq, Int.reduceLT, Int.reduceLE, Int.reduceAdd, Int.reduceSub, Int.reduceMul, Int.reduceNeg, reduceIte, if_true, if_false, true_or, or_true, false_or, or_false, false_and, and_false, eq_self, not_false_eq_true, not_true_eq_false, true_and, and_true, List.cons_append, List.nil_append, List.append_nil, b2_0, b2_1, b2_01, Classical.not_not]
        exact i1
theorem e136 (S : Sh m) : WP 136 0 [(2, 70), (0, k), (3, 0), (3, 0)] [] (dsB ++ tl) m Q = Q (dsB ++ tl) m [(0, sm (fun c => b2 (isK k (m 72 c))) 96)] := by
  refine Eq.trans ?_ (e136l S 96 0 rfl)
  simp only [p136_0, p136_1, p136_2, p136_3]
  rfl
theorem e137l (S : Sh m) : ∀ (j n : Nat), n + j = 96 → WP 137 4 [(2, 70), (0, sm (fun c => b2 (¬ m 76 c = 0)) n), (0, (n : Int))] [] (dsB ++ tl) m Q = Q (dsB ++ tl) m [(0, sm (fun c => b2 (¬ m 76 c = 0)) 96)] := by
  intro j
  induction j with
  | zero =>
    intro n hn
    have hn : n = 96 := by omega
    subst hn
    have c1 : ((96 : Nat) : Int) = 96 := rfl
    rw [p137_4]
    simp only [p137_0, p137_1, p137_2, p137_3, p137_5, p137_7, p137_10, p137_11, p137_12, p137_15, p137_16, p137_17, p137_20, p137_21, p137_24, p137_25, p137_26, p137_27, p137_30, p137_33, p137_34, c1, b2_T, b2_F, Int.reduceEq, Int.reduceLT, Int.reduceLE, Int.reduceAdd, Int.reduceSub, Int.reduceMul, Int.reduceNeg, reduceIte, if_true, if_false, true_or, or_true, false_or, or_false, false_and, and_false, eq_self, not_false_eq_true, not_true_eq_false, true_and, and_true, List.cons_append, List.nil_append, List.append_nil, b2_0, b2_1, b2_01, Classical.not_not, Int.lt_irrefl]
  | succ j ih =>
    intro n hn
    have i1 := ih (n + 1) (by omega)
    have c1 : ((n + 1 : Nat) : Int) = (n : Int) + 1 := rfl
    have c2 : sm (fun c => b2 (¬ m 76 c = 0)) (n + 1) = sm (fun c => b2 (¬ m 76 c = 0)) n + b2 (¬ m 76 n = 0) := rfl
    have c3 := sm_b (f := fun c => b2 (¬ m 76 c = 0)) (fun c => b2_b _) n
    rw [c1, c2] at i1
    generalize sm (fun c => b2 (¬ m 76 c = 0)) n = v at *
    have w1 : w32 ((n : Int) + 1) = n + 1 := w32_id (by omega) (by omega)
    have w2 : w32 (v + 1) = v + 1 := w32_id (by omega) (by omega)
    have w3 : w32 (v + 0) = v + 0 := w32_id (by omega) (by omega)
    have h0 : 0 ≤ (n : Int) := by omega
    have h1 : (n : Int) < 96 := by omega
    rw [p137_4]
    by_cases hk : m 76 n = 0
    · rw [b2_f (by simpa using hk)] at i1
      simp only [p137_0, p137_1, p137_2, p137_3, p137_5, p137_7, p137_10, p137_11, p137_12, p137_15, p137_16, p137_17, p137_20, p137_21, p137_24, p137_25, p137_26, p137_27, p137_30, p137_33, p137_34, K_70, K_71, L_71, K_72, L_72, K_73, L_73, K_74, L_74, K_75, L_75, K_76, L_76, K_77, L_77, K_78, L_78, K_79, L_79, sh_70_0 S, sh_70_1 S, sh_70_2 S, sh_70_3 S, sh_70_4 S, sh_70_5 S, sh_70_7 S, sh_70_8 S, sh_70_9 S, h0, h1, hk, w1, w3, b2_T, b2_F, Int.reduceEq, Int.reduceLT, Int.reduceLE, Int.reduceAdd, Int.reduceSub, Int.reduceMul, Int.reduceNeg, reduceIte, if_true, if_false, true_or, or_true, false_or, or_false, false_and, and_false, eq_self, not_false_eq_true, not_true_eq_false, true_and, and_true, List.cons_append, List.nil_append, List.append_nil, b2_0, b2_1, b2_01, Classical.not_not]
      exact i1
    · rw [b2_t hk] at i1
      simp only [p137_0, p137_1, p137_2, p137_3, p137_5, p137_7, p137_10, p137_11, p137_12, p137_15, p137_16, p137_17, p137_20, p137_21, p137_24, p137_25, p137_26, p137_27, p137_30, p137_33, p137_34, K_70, K_71, L_71, K_72, L_72, K_73, L_73, K_74, L_74, K_75, L_75, K_76, L_76, K_77, L_77, K_78, L_78, K_79, L_79, sh_70_0 S, sh_70_1 S, sh_70_2 S, sh_70_3 S, sh_70_4 S, sh_70_5 S, sh_70_7 S, sh_70_8 S, sh_70_9 S, h0, h1, hk, w1, w2, b2_T, b2_F, Int.reduceEq, Int.reduceLT, Int.reduceLE, Int.reduceAdd, Int.reduceSub, Int.reduceMul, Int.reduceNeg, reduceIte, if_true, if_false, true_or, or_true, false_or, or_false, false_and, and_false, eq_self, not_false_eq_true, not_true_eq_false, true_and, and_true, List.cons_append, List.nil_append, List.append_nil, b2_0, b2_1, b2_01, Classical.not_not]
      exact i1
theorem e137 (S : Sh m) : WP 137 0 [(2, 70), (3, 0), (3, 0)] [] (dsB ++ tl) m Q = Q (dsB ++ tl) m [(0, sm (fun c => b2 (¬ m 76 c = 0)) 96)] := by
  refine Eq.trans ?_ (e137l S 96 0 rfl)
  simp only [p137_0, p137_1, p137_2, p137_3]
  rfl
end CALLS3
