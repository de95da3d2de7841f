/-! the reference's plan, small methods -/
/-- a refusal counted -/
def rf (m : Mm) (a i : Int) : Mm := up m a i (w32 (m a i + 1))
def nM (k a : Int) : Int := if k = 1 ∨ (k = 2 ∨ k = 4 ∨ k = 6) ∨ k = 9 ∨ k = 3 then a else 0
def ly (m : Mm) (c k a b : Int) : Mm := up (up (up (up m 72 c k) 73 c (nM k a)) 74 c (nB k b)) 75 c (-1)
theorem nM_nA {k a : Int} (h : 1 ≤ k ∧ k ≤ 9) : nM k a = nA k a := by
  unfold nM nA
  split <;> split <;> first | rfl | (exfalso; omega)
theorem b2_cg {p q : Prop} [Decidable p] [Decidable q] (h : p ↔ q) : b2 p = b2 q := by
  unfold b2
  by_cases hp : p
  · rw [if_pos hp, if_pos (h.1 hp)]
  · rw [if_neg hp, if_neg (fun x => hp (h.2 x))]
section MPLAN
variable {tl : Ds} {m : Mm} {Q : Ds → Mm → List MV → Prop} {c k a b w : Int}
theorem e121 (S : Sh m) (hw : -7 ≤ w ∧ w ≤ -1) : WP 121 0 [(2, 70), (0, w)] [] (dsB ++ tl) m Q = Q (dsB ++ tl) (rf m 71 (-w)) [(0, w)] := by
  have w1 : w32 (-w) = -w := w32_id (by omega) (by omega)
  have h1 : 0 ≤ -w := by omega
  have h2 : -w < 8 := by omega
  simp only [p121_0, p121_1, p121_4, p121_5, p121_6, p121_7, p121_8, p121_9, p121_10, p121_11, p121_12, K_70, K_71, L_71, K_72, L_72, K_73, L_73, K_74, L_74, K_75, L_75, K_76, L_76, K_77, L_77, K_78, L_78, K_79, L_79, sh_70_0 S, sh_70_1 S, sh_70_2 S, sh_70_3 S, sh_70_4 S, sh_70_5 S, sh_70_7 S, sh_70_8 S, sh_70_9 S, w1, h1, h2, rf, b2_T, b2_F, Int.reduceEq, Int.reduceLT, Int.reduceLE, Int.reduceAdd, Int.reduceSub, Int.reduceMul, Int.reduceNeg, reduceIte, if_true, if_false, true_or, or_true, false_or, or_false, false_and, and_false, eq_self, not_false_eq_true, not_true_eq_false, true_and, and_true, List.cons_append, List.nil_append, List.append_nil, b2_0, b2_1, b2_01, Classical.not_not]
theorem e95 (S : Sh m) (hw : -7 ≤ w ∧ w ≤ -1) : WP 95 0 [(2, 0), (0, w), (3, 0)] [] (dsB ++ tl) m Q = Q (dsB ++ tl) (rf m 3 (-w)) [(0, w)] := by
  have w1 : w32 (-w) = -w := w32_id (by omega) (by omega)
  have h1 : 0 ≤ -w := by omega
  have h2 : -w < 8 := by omega
  have h3 : ¬ -w < 0 := by omega
  have h4 : ¬ 8 ≤ -w := by omega
  simp only [p95_0, p95_1, p95_2, p95_3, p95_4, p95_7, p95_8, p95_10, p95_13, p95_14, p95_17, p95_18, p95_19, p95_20, p95_21, p95_22, p95_23, p95_24, K_0, K_3, L_3, sh_0_0 S, sh_0_1 S, sh_0_2 S, sh_0_3 S, sh_0_4 S, sh_0_5 S, sh_0_7 S, sh_0_8 S, sh_0_10 S, sh_0_12 S, sh_0_14 S, sh_0_15 S, w1, h1, h2, h3, h4, rf, b2_T, b2_F, Int.reduceEq, Int.reduceLT, Int.reduceLE, Int.reduceAdd, Int.reduceSub, Int.reduceMul, Int.reduceNeg, reduceIte, if_true, if_false, true_or, or_true, false_or, or_false, false_and, and_false, eq_self, not_false_eq_true, not_true_eq_false, true_and, and_true, List.cons_append, List.nil_append, List.append_nil, b2_0, b2_1, b2_01, Classical.not_not]
theorem e126 (S : Sh m) (hc : 0 ≤ c ∧ c < 96) : WP 126 0 [(2, 70), (0, c)] [] (dsB ++ tl) m Q = Q (dsB ++ tl) m [(0, b2 (m 72 c = 0 ∧ m 76 c = 0))] := by
  by_cases hk : m 72 c = 0 <;> by_cases hk2 : m 76 c = 0 <;> simp only [p126_0, p126_1, p126_4, p126_5, p126_6, p126_9, p126_10, p126_13, p126_14, p126_15, p126_18, p126_19, p126_22, p126_23, K_70, K_71, L_71, K_72, L_72, K_73, L_73, K_74, L_74, K_75, L_75, K_76, L_76, K_77, L_77, K_78, L_78, K_79, L_79, sh_70_0 S, sh_70_1 S, sh_70_2 S, sh_70_3 S, sh_70_4 S, sh_70_5 S, sh_70_7 S, sh_70_8 S, sh_70_9 S, hc, hk, hk2, b2_T, b2_F, Int.reduceEq, Int.reduceLT, Int.reduceLE, Int.reduceAdd, Int.reduceSub, Int.reduceMul, Int.reduceNeg, reduceIte, if_true, if_false, true_or, or_true, false_or, or_false, false_and, and_false, eq_self, not_false_eq_true, not_true_eq_false, true_and, and_true, List.cons_append, List.nil_append, List.append_nil, b2_0, b2_1, b2_01, Classical.not_not]
theorem e131 (S : Sh m) (hc : 0 ≤ c ∧ c < 96) : WP 131 0 [(2, 70), (0, c)] [] (dsB ++ tl) m Q = Q (dsB ++ tl) m [(0, b2 (m 76 c = 0 ∧ (m 72 c = 0 ∨ m 72 c = 9)))] := by
  simp only [p131_0, p131_1, p131_4, p131_5, p131_6, p131_9, p131_10, p131_13, p131_14, p131_15, p131_18, p131_19, p131_22, p131_23, p131_24, p131_26, p131_29, p131_30, p131_33, p131_34, K_70, K_71, L_71, K_72, L_72, K_73, L_73, K_74, L_74, K_75, L_75, K_76, L_76, K_77, L_77, K_78, L_78, K_79, L_79, sh_70_0 S, sh_70_1 S, sh_70_2 S, sh_70_3 S, sh_70_4 S, sh_70_5 S, sh_70_7 S, sh_70_8 S, sh_70_9 S, hc, b2_T, b2_F, Int.reduceEq, Int.reduceLT, Int.reduceLE, Int.reduceAdd, Int.reduceSub, Int.reduceMul, Int.reduceNeg, reduceIte, if_true, if_false, true_or, or_true, false_or, or_false, false_and, and_false, eq_self, not_false_eq_true, not_true_eq_false, true_and, and_true, List.cons_append, List.nil_append, List.append_nil, b2_0, b2_1, b2_01, Classical.not_not]
  generalize m 72 c = u
  generalize m 76 c = v
  repeat' split
  all_goals first | rfl | (exfalso; omega) | exact q_eq (b2_t (by omega)).symm | exact q_eq (b2_f (by omega)).symm | exact q_eq (b2_cg (by omega)) | exact q_eq (by omega)
theorem n_or {p : Prop} : (¬ p ∨ p) = True := eq_true (Or.symm (Classical.em p))
theorem e127 (S : Sh m) (hc : 0 ≤ c ∧ c < 96) : WP 127 0 [(2, 70), (0, c), (0, k), (0, a), (0, b)] [] (dsB ++ tl) m Q = Q (dsB ++ tl) m [(0, b2 (canP k a b (m 72 c) (m 76 c)))] := by
  by_cases hr : 1 ≤ k ∧ k ≤ 9
  · have hk : k = 1 ∨ k = 2 ∨ k = 3 ∨ k = 4 ∨ k = 5 ∨ k = 6 ∨ k = 7 ∨ k = 8 ∨ k = 9 := by omega
    by_cases h1 : m 72 c = 0 <;> by_cases h2 : m 76 c = 0
    all_goals
      rcases hk with rfl | rfl | rfl | rfl | rfl | rfl | rfl | rfl | rfl <;> (simp only [p127_0, p127_1, p127_2, p127_4, p127_7, p127_10, p127_11, p127_12, p127_15, p127_16, p127_19, p127_20, p127_21, p127_24, p127_25, p127_28, p127_29, p127_30, p127_33, p127_34, p127_36, p127_39, p127_40, p127_41, p127_42, p127_43, p127_46, p127_47, p127_48, p127_49, p127_52, p127_55, p127_56, p127_59, p127_62, p127_63, p127_64, p127_65, p127_68, p127_71, p127_72, p127_74, p127_77, p127_78, p127_81, p127_84, p127_85, p127_86, p127_87, p127_88, p127_91, p127_93, p127_94, p127_96, p127_99, p127_102, p127_103, p127_105, p127_108, p127_110, p127_111, p127_113, p127_116, p127_119, p127_120, p127_123, p127_124, e120, e124, e125, K_70, K_71, L_71, K_72, L_72, K_73, L_73, K_74, L_74, K_75, L_75, K_76, L_76, K_77, L_77, K_78, L_78, K_79, L_79, sh_70_0 S, sh_70_1 S, sh_70_2 S, sh_70_3 S, sh_70_4 S, sh_70_5 S, sh_70_7 S, sh_70_8 S, sh_70_9 S, hc, h1, h2, n_or, and_self, or_self, b2_T, b2_F, Int.reduceEq, Int.reduceLT, Int.reduceLE, Int.reduceAdd, Int.reduceSub, Int.reduceMul, Int.reduceNeg, reduceIte, if_true, if_false, true_or, or_true, false_or, or_false, false_and, and_false, eq_self, not_false_eq_true, not_true_eq_false, true_and, and_true, List.cons_append, List.nil_append, List.append_nil, b2_0, b2_1, b2_01, Classical.not_not]; try (repeat' split); all_goals (try (first | rfl | (exfalso; omega) | exact q_eq (b2_t (by omega)).symm | exact q_eq (b2_f (by omega)).symm | exact q_eq (b2_cg (by omega)) | exact q_eq (by omega))))
  · simp only [p127_0, p127_1, p127_2, p127_4, p127_7, p127_10, p127_11, p127_12, p127_15, p127_16, p127_19, p127_20, p127_21, p127_24, p127_25, p127_28, p127_29, p127_30, p127_33, p127_34, p127_36, p127_39, p127_40, p127_41, p127_42, p127_43, p127_46, p127_47, p127_48, p127_49, p127_52, p127_55, p127_56, p127_59, p127_62, p127_63, p127_64, p127_65, p127_68, p127_71, p127_72, p127_74, p127_77, p127_78, p127_81, p127_84, p127_85, p127_86, p127_87, p127_88, p127_91, p127_93, p127_94, p127_96, p127_99, p127_102, p127_103, p127_105, p127_108, p127_110, p127_111, p127_113, p127_116, p127_119, p127_120, p127_123, p127_124, e120, e124, e125, K_70, K_71, L_71, K_72, L_72, K_73, L_73, K_74, L_74, K_75, L_75, K_76, L_76, K_77, L_77, K_78, L_78, K_79, L_79, sh_70_0 S, sh_70_1 S, sh_70_2 S, sh_70_3 S, sh_70_4 S, sh_70_5 S, sh_70_7 S, sh_70_8 S, sh_70_9 S, hc, hr, b2_T, b2_F, Int.reduceEq, Int.reduceLT, Int.reduceLE, Int.reduceAdd, Int.reduceSub, Int.reduceMul, Int.reduceNeg, reduceIte, if_true, if_false, true_or, or_true, false_or, or_false, false_and, and_false, eq_self, not_false_eq_true, not_true_eq_false, true_and, and_true, List.cons_append, List.nil_append, List.append_nil, b2_0, b2_1, b2_01, Classical.not_not]
    exact q_eq (b2_f (by omega)).symm
theorem e128 (S : Sh m) (hc : 0 ≤ c ∧ c < 96) : WP 128 0 [(2, 70), (0, c), (0, k), (0, a), (0, b)] [] (dsB ++ tl) m Q = Q (dsB ++ tl) (ly m c k a b) [] := by
  unfold ly nM nB
  by_cases h1 : k = 1 <;> by_cases h2 : k = 2 <;> by_cases h3 : k = 9 <;> by_cases h4 : k = 3 <;> by_cases h5 : k = 4 <;> by_cases h6 : k = 6 <;> simp only [p128_0, p128_1, p128_4, p128_5, p128_6, p128_7, p128_8, p128_11, p128_12, p128_13, p128_14, p128_17, p128_18, p128_21, p128_24, p128_25, p128_27, p128_30, p128_31, p128_32, p128_35, p128_36, p128_39, p128_40, p128_41, p128_42, p128_45, p128_46, p128_47, p128_48, p128_51, p128_52, p128_54, p128_57, p128_59, p128_62, p128_63, p128_64, p128_65, p128_68, p128_69, p128_70, p128_71, e124, K_70, K_71, L_71, K_72, L_72, K_73, L_73, K_74, L_74, K_75, L_75, K_76, L_76, K_77, L_77, K_78, L_78, K_79, L_79, sh_70_0 S, sh_70_1 S, sh_70_2 S, sh_70_3 S, sh_70_4 S, sh_70_5 S, sh_70_7 S, sh_70_8 S, sh_70_9 S, hc, h1, h2, h3, h4, h5, h6, up_at, sn1, sn2, sn3, sn4, sn5, sn6, sn7, sn8, ns1, ns2, ns3, ns4, ns5, ns6, ns7, ns8, Int.add_right_inj, b2_T, b2_F, Int.reduceEq, Int.reduceLT, Int.reduceLE, Int.reduceAdd, Int.reduceSub, Int.reduceMul, Int.reduceNeg, reduceIte, if_true, if_false, true_or, or_true, false_or, or_false, false_and, and_false, eq_self, not_false_eq_true, not_true_eq_false, true_and, and_true, List.cons_append, List.nil_append, List.append_nil, b2_0, b2_1, b2_01, Classical.not_not]
end MPLAN
