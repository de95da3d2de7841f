/-! the class's Plan: writes -/
theorem sn1 {p : Int} : (p = p + 1) = False := by simp; omega
theorem sn2 {p : Int} : (p = p + 2) = False := by simp; omega
theorem sn3 {p : Int} : (p = p + 3) = False := by simp; omega
theorem sn4 {p : Int} : (p = p + 4) = False := by simp; omega
theorem sn5 {p : Int} : (p = p + 5) = False := by simp; omega
theorem sn6 {p : Int} : (p = p + 6) = False := by simp; omega
theorem sn7 {p : Int} : (p = p + 7) = False := by simp; omega
theorem sn8 {p : Int} : (p = p + 8) = False := by simp; omega
theorem ns1 {p : Int} : (p + 1 = p) = False := by simp; omega
theorem ns2 {p : Int} : (p + 2 = p) = False := by simp; omega
theorem ns3 {p : Int} : (p + 3 = p) = False := by simp; omega
theorem ns4 {p : Int} : (p + 4 = p) = False := by simp; omega
theorem ns5 {p : Int} : (p + 5 = p) = False := by simp; omega
theorem ns6 {p : Int} : (p + 6 = p) = False := by simp; omega
theorem ns7 {p : Int} : (p + 7 = p) = False := by simp; omega
theorem ns8 {p : Int} : (p + 8 = p) = False := by simp; omega
theorem PA_up {ds : Ds} {m : Mm} {p a i v : Int} (h : PA ds m p) (ha : ¬ p = a ∨ i = 8) : PA ds (up m a i v) p := by
  obtain ⟨g0, ⟨g1, g2, g3, g4, g5, g6, g7, g8⟩, ⟨k1, k2, k3, k4, k5, k6, k7, k8⟩, ⟨n1, n2, n3, n4, n5, n6, n7, n8⟩⟩ := h
  have hh : ∀ k : Int, k < 8 → up m a i v p k = m p k := fun k hk => by rw [up_at, if_neg (by omega)]
  refine ⟨g0, ⟨?_, ?_, ?_, ?_, ?_, ?_, ?_, ?_⟩, ⟨k1, k2, k3, k4, k5, k6, k7, k8⟩, ⟨n1, n2, n3, n4, n5, n6, n7, n8⟩⟩ <;> (rw [hh _ (by omega)]; assumption)
abbrev canP (k a b kd bl : Int) : Prop := (1 ≤ k ∧ k ≤ 9 ∧ ¬ k = 3) ∧ (k = 1 → 0 ≤ a ∧ a ≤ 1) ∧ (k = 2 ∨ k = 4 ∨ k = 6 → 0 ≤ a ∧ a ≤ 3) ∧ (k = 9 → a = 3 ∨ a = 5 ∨ a = 6 ∨ a = 9 ∨ a = 10 ∨ a = 12) ∧ (k = 4 → 1 ≤ b ∧ b ≤ 60) ∧ (k = 6 → 1 ≤ b ∧ b ≤ 9) ∧ kd = 0 ∧ (bl = 0 ∨ k = 9)
def nA (k a : Int) : Int := if k = 5 ∨ k = 7 ∨ k = 8 then 0 else a
def nB (k b : Int) : Int := if k = 4 ∨ k = 6 then b else 0
def plc (m : Mm) (p c k a b : Int) : Mm := up (up (up m (p + 1) c k) (p + 2) c (nA k a)) (p + 3) c (nB k b)
theorem mst_c (k : Int) : ((k = 5 ∨ k = 7 ∨ k = 8) ∧ mstA k = 0) ∨ (k = 1 ∧ mstA k = 1) ∨ (k = 9 ∧ mstA k = 15) ∨ (¬ (k = 5 ∨ k = 7 ∨ k = 8) ∧ ¬ k = 1 ∧ ¬ k = 9 ∧ mstA k = 3) := by
  unfold mstA
  repeat' split
  all_goals omega
section PLANW
variable {ds : Ds} {m : Mm} {Q : Ds → Mm → List MV → Prop} {p c k a b : Int}
theorem e32 (h : PA ds m p) : WP 32 0 [(2, p), (0, c), (0, k), (0, a), (0, b), (3, 0)] [] ds m Q = Q ds m [(0, b2 ((0 ≤ c ∧ c < 96) ∧ canP k a b (m (p + 1) c) (m (p + 5) c)))] := by
  have h0 := h
  obtain ⟨g0, ⟨g1, g2, g3, g4, g5, g6, g7, g8⟩, ⟨k1, k2, k3, k4, k5, k6, k7, k8⟩, ⟨n1, n2, n3, n4, n5, n6, n7, n8⟩⟩ := h
  have hm := mst_c k
  by_cases hc : 0 ≤ c ∧ c < 96
  · simp only [p32_0, p32_1, p32_2, p32_5, p32_6, p32_8, p32_11, p32_12, p32_13, p32_16, p32_17, p32_18, p32_21, p32_24, p32_25, p32_27, p32_30, p32_33, p32_34, p32_35, p32_36, p32_38, p32_41, p32_42, p32_43, p32_46, p32_49, p32_50, p32_51, p32_54, p32_57, p32_58, p32_61, p32_62, p32_64, p32_66, p32_69, p32_70, p32_71, p32_74, p32_77, p32_78, p32_81, p32_82, e24 h0, e28 h0, e29 h0, e114, e115, g0, g1, g2, g3, g4, g5, g6, g7, g8, k1, k2, k3, k4, k5, k6, k7, k8, n1, n2, n3, n4, n5, n6, n7, n8, hc, b2_T, b2_F, Int.reduceEq, Int.reduceLT, Int.reduceLE, Int.reduceAdd, Int.reduceSub, Int.reduceMul, Int.reduceNeg, reduceIte, if_true, if_false, true_or, or_true, false_or, or_false, false_and, and_false, eq_self, not_false_eq_true, not_true_eq_false, true_and, and_true, List.cons_append, List.nil_append, List.append_nil, b2_0, b2_1, b2_01, Classical.not_not]
    generalize mstA k = t at hm ⊢
    generalize m (p + 1) c = u
    generalize m (p + 5) c = v
    repeat' split
    all_goals first | rfl | (exfalso; omega) | exact q_eq (b2_t (by omega)).symm | exact q_eq (b2_f (by omega)).symm | exact q_eq (by omega)
  · simp only [p32_0, p32_1, p32_2, p32_5, p32_6, p32_8, p32_11, p32_12, p32_13, p32_16, p32_17, p32_18, p32_21, p32_24, p32_25, p32_27, p32_30, p32_33, p32_34, p32_35, p32_36, p32_38, p32_41, p32_42, p32_43, p32_46, p32_49, p32_50, p32_51, p32_54, p32_57, p32_58, p32_61, p32_62, p32_64, p32_66, p32_69, p32_70, p32_71, p32_74, p32_77, p32_78, p32_81, p32_82, e24 h0, e28 h0, e29 h0, e114, e115, g0, g1, g2, g3, g4, g5, g6, g7, g8, k1, k2, k3, k4, k5, k6, k7, k8, n1, n2, n3, n4, n5, n6, n7, n8, hc, b2_T, b2_F, Int.reduceEq, Int.reduceLT, Int.reduceLE, Int.reduceAdd, Int.reduceSub, Int.reduceMul, Int.reduceNeg, reduceIte, if_true, if_false, true_or, or_true, false_or, or_false, false_and, and_false, eq_self, not_false_eq_true, not_true_eq_false, true_and, and_true, List.cons_append, List.nil_append, List.append_nil, b2_0, b2_1, b2_01, Classical.not_not]
    repeat' split
    all_goals first | rfl | (exfalso; omega) | exact q_eq (b2_t (by omega)).symm | exact q_eq (b2_f (by omega)).symm | exact q_eq (by omega)
theorem e33 (h : PA ds m p) : WP 33 0 [(2, p), (0, c), (3, 0)] [] ds m Q = Q ds m [(0, b2 ((0 ≤ c ∧ c < 96) ∧ m (p + 5) c = 0 ∧ (m (p + 1) c = 0 ∨ m (p + 1) c = 9)))] := by
  have h0 := h
  obtain ⟨g0, ⟨g1, g2, g3, g4, g5, g6, g7, g8⟩, ⟨k1, k2, k3, k4, k5, k6, k7, k8⟩, ⟨n1, n2, n3, n4, n5, n6, n7, n8⟩⟩ := h
  by_cases hc : 0 ≤ c ∧ c < 96
  · simp only [p33_0, p33_1, p33_2, p33_5, p33_6, p33_7, p33_10, p33_13, p33_14, p33_17, p33_18, p33_19, p33_22, p33_23, p33_26, p33_27, p33_29, p33_32, p33_33, p33_36, p33_37, e24 h0, e107, g0, g1, g2, g3, g4, g5, g6, g7, g8, k1, k2, k3, k4, k5, k6, k7, k8, n1, n2, n3, n4, n5, n6, n7, n8, hc, b2_T, b2_F, Int.reduceEq, Int.reduceLT, Int.reduceLE, Int.reduceAdd, Int.reduceSub, Int.reduceMul, Int.reduceNeg, reduceIte, if_true, if_false, true_or, or_true, false_or, or_false, false_and, and_false, eq_self, not_false_eq_true, not_true_eq_false, true_and, and_true, List.cons_append, List.nil_append, List.append_nil, b2_0, b2_1, b2_01, Classical.not_not]
    generalize m (p + 1) c = u
    generalize m (p + 5) c = v
    repeat' split
    all_goals first | rfl | (exfalso; omega) | exact q_eq (b2_t (by omega)).symm | exact q_eq (b2_f (by omega)).symm | exact q_eq (by omega)
  · simp only [p33_0, p33_1, p33_2, p33_5, p33_6, p33_7, p33_10, p33_13, p33_14, p33_17, p33_18, p33_19, p33_22, p33_23, p33_26, p33_27, p33_29, p33_32, p33_33, p33_36, p33_37, e24 h0, e107, g0, g1, g2, g3, g4, g5, g6, g7, g8, k1, k2, k3, k4, k5, k6, k7, k8, n1, n2, n3, n4, n5, n6, n7, n8, hc, b2_T, b2_F, Int.reduceEq, Int.reduceLT, Int.reduceLE, Int.reduceAdd, Int.reduceSub, Int.reduceMul, Int.reduceNeg, reduceIte, if_true, if_false, true_or, or_true, false_or, or_false, false_and, and_false, eq_self, not_false_eq_true, not_true_eq_false, true_and, and_true, List.cons_append, List.nil_append, List.append_nil, b2_0, b2_1, b2_01, Classical.not_not]
theorem e34 (h : PA ds m p) : WP 34 0 [(2, p), (0, c), (0, k), (0, a), (0, b)] [] ds m Q = Q ds (if 0 ≤ c ∧ c < 96 then plc m p c k a b else m) [] := by
  obtain ⟨g0, ⟨g1, g2, g3, g4, g5, g6, g7, g8⟩, ⟨k1, k2, k3, k4, k5, k6, k7, k8⟩, ⟨n1, n2, n3, n4, n5, n6, n7, n8⟩⟩ := h
  by_cases hc : 0 ≤ c ∧ c < 96
  · by_cases hA : k = 5 ∨ k = 7 ∨ k = 8
    · have q1 : ¬ (¬ k = 5 ∧ ¬ k = 7 ∧ ¬ k = 8) := by omega
      by_cases hB : k = 4 ∨ k = 6 <;> simp only [p34_0, p34_1, p34_4, p34_7, p34_8, p34_11, p34_12, p34_13, p34_14, p34_15, p34_18, p34_19, p34_20, p34_23, p34_26, p34_27, p34_30, p34_31, p34_32, p34_33, p34_36, p34_37, p34_38, p34_41, p34_44, p34_46, p34_49, p34_50, p34_51, e107, e112, e113, g0, g1, g2, g3, g4, g5, g6, g7, g8, k1, k2, k3, k4, k5, k6, k7, k8, n1, n2, n3, n4, n5, n6, n7, n8, up_at, sn1, sn2, sn3, sn4, sn5, sn6, sn7, sn8, ns1, ns2, ns3, ns4, ns5, ns6, ns7, ns8, Int.add_right_inj, hc, plc, nA, nB, hA, hB, q1, b2_T, b2_F, Int.reduceEq, Int.reduceLT, Int.reduceLE, Int.reduceAdd, Int.reduceSub, Int.reduceMul, Int.reduceNeg, reduceIte, if_true, if_false, true_or, or_true, false_or, or_false, false_and, and_false, eq_self, not_false_eq_true, not_true_eq_false, true_and, and_true, List.cons_append, List.nil_append, List.append_nil, b2_0, b2_1, b2_01, Classical.not_not]
    · have q1 : ¬ k = 5 ∧ ¬ k = 7 ∧ ¬ k = 8 := by omega
      by_cases hB : k = 4 ∨ k = 6 <;> simp only [p34_0, p34_1, p34_4, p34_7, p34_8, p34_11, p34_12, p34_13, p34_14, p34_15, p34_18, p34_19, p34_20, p34_23, p34_26, p34_27, p34_30, p34_31, p34_32, p34_33, p34_36, p34_37, p34_38, p34_41, p34_44, p34_46, p34_49, p34_50, p34_51, e107, e112, e113, g0, g1, g2, g3, g4, g5, g6, g7, g8, k1, k2, k3, k4, k5, k6, k7, k8, n1, n2, n3, n4, n5, n6, n7, n8, up_at, sn1, sn2, sn3, sn4, sn5, sn6, sn7, sn8, ns1, ns2, ns3, ns4, ns5, ns6, ns7, ns8, Int.add_right_inj, hc, plc, nA, nB, hA, hB, q1, b2_T, b2_F, Int.reduceEq, Int.reduceLT, Int.reduceLE, Int.reduceAdd, Int.reduceSub, Int.reduceMul, Int.reduceNeg, reduceIte, if_true, if_false, true_or, or_true, false_or, or_false, false_and, and_false, eq_self, not_false_eq_true, not_true_eq_false, true_and, and_true, List.cons_append, List.nil_append, List.append_nil, b2_0, b2_1, b2_01, Classical.not_not]
  · simp only [p34_0, p34_1, p34_4, p34_7, p34_8, p34_11, p34_12, p34_13, p34_14, p34_15, p34_18, p34_19, p34_20, p34_23, p34_26, p34_27, p34_30, p34_31, p34_32, p34_33, p34_36, p34_37, p34_38, p34_41, p34_44, p34_46, p34_49, p34_50, p34_51, e107, g0, g1, g2, g3, g4, g5, g6, g7, g8, k1, k2, k3, k4, k5, k6, k7, k8, n1, n2, n3, n4, n5, n6, n7, n8, hc, b2_T, b2_F, Int.reduceEq, Int.reduceLT, Int.reduceLE, Int.reduceAdd, Int.reduceSub, Int.reduceMul, Int.reduceNeg, reduceIte, if_true, if_false, true_or, or_true, false_or, or_false, false_and, and_false, eq_self, not_false_eq_true, not_true_eq_false, true_and, and_true, List.cons_append, List.nil_append, List.append_nil, b2_0, b2_1, b2_01, Classical.not_not]
theorem PA_plc (h : PA ds m p) : PA ds (plc m p c k a b) p := PA_up (PA_up (PA_up h (by omega)) (by omega)) (by omega)
theorem e35 {s o : Int} (h : PA ds m p) (hc : 0 ≤ c ∧ c < 96) : WP 35 0 [(2, p), (0, c), (0, s), (0, o)] [] ds m Q = Q ds (up (plc m p c 3 s 0) (p + 4) c o) [] := by
  have h1 : PA ds (plc m p c 3 s 0) p := PA_plc h
  have h0 := h
  have h := h1
  obtain ⟨g0, ⟨g1, g2, g3, g4, g5, g6, g7, g8⟩, ⟨k1, k2, k3, k4, k5, k6, k7, k8⟩, ⟨n1, n2, n3, n4, n5, n6, n7, n8⟩⟩ := h
  simp only [p35_0, p35_1, p35_2, p35_3, p35_4, p35_5, p35_8, p35_9, p35_12, p35_15, p35_16, p35_19, p35_20, p35_21, p35_22, e34 h0, e107, hc, g0, g1, g2, g3, g4, g5, g6, g7, g8, k1, k2, k3, k4, k5, k6, k7, k8, n1, n2, n3, n4, n5, n6, n7, n8, h0.1, b2_T, b2_F, Int.reduceEq, Int.reduceLT, Int.reduceLE, Int.reduceAdd, Int.reduceSub, Int.reduceMul, Int.reduceNeg, reduceIte, if_true, if_false, true_or, or_true, false_or, or_false, false_and, and_false, eq_self, not_false_eq_true, not_true_eq_false, true_and, and_true, List.cons_append, List.nil_append, List.append_nil, b2_0, b2_1, b2_01, Classical.not_not]
theorem e36 (h : PA ds m p) (hc : 0 ≤ c ∧ c < 96) : WP 36 0 [(2, p), (0, c)] [] ds m Q = Q ds (up m (p + 5) c 1) [] := by
  obtain ⟨g0, ⟨g1, g2, g3, g4, g5, g6, g7, g8⟩, ⟨k1, k2, k3, k4, k5, k6, k7, k8⟩, ⟨n1, n2, n3, n4, n5, n6, n7, n8⟩⟩ := h
  simp only [p36_0, p36_1, p36_4, p36_7, p36_8, p36_11, p36_12, p36_13, p36_14, e107, hc, g0, g1, g2, g3, g4, g5, g6, g7, g8, k1, k2, k3, k4, k5, k6, k7, k8, n1, n2, n3, n4, n5, n6, n7, n8, b2_T, b2_F, Int.reduceEq, Int.reduceLT, Int.reduceLE, Int.reduceAdd, Int.reduceSub, Int.reduceMul, Int.reduceNeg, reduceIte, if_true, if_false, true_or, or_true, false_or, or_false, false_and, and_false, eq_self, not_false_eq_true, not_true_eq_false, true_and, and_true, List.cons_append, List.nil_append, List.append_nil, b2_0, b2_1, b2_01, Classical.not_not]
def clr (m : Mm) (p c : Int) : Mm := if 0 ≤ c ∧ c < 96 then up (plc m p c 0 0 0) (p + 5) c 0 else m
theorem e37 (h : PA ds m p) : WP 37 0 [(2, p), (0, c)] [] ds m Q = Q ds (clr m p c) [] := by
  have h1 : PA ds (plc m p c 0 0 0) p := PA_plc h
  have h0 := h
  have h := h1
  obtain ⟨g0, ⟨g1, g2, g3, g4, g5, g6, g7, g8⟩, ⟨k1, k2, k3, k4, k5, k6, k7, k8⟩, ⟨n1, n2, n3, n4, n5, n6, n7, n8⟩⟩ := h
  unfold clr
  by_cases hc : 0 ≤ c ∧ c < 96
  · simp only [p37_0, p37_1, p37_4, p37_7, p37_8, p37_9, p37_10, p37_11, p37_12, p37_15, p37_16, p37_19, p37_20, p37_21, p37_22, e34 h0, e107, hc, g0, g1, g2, g3, g4, g5, g6, g7, g8, k1, k2, k3, k4, k5, k6, k7, k8, n1, n2, n3, n4, n5, n6, n7, n8, h0.1, b2_T, b2_F, Int.reduceEq, Int.reduceLT, Int.reduceLE, Int.reduceAdd, Int.reduceSub, Int.reduceMul, Int.reduceNeg, reduceIte, if_true, if_false, true_or, or_true, false_or, or_false, false_and, and_false, eq_self, not_false_eq_true, not_true_eq_false, true_and, and_true, List.cons_append, List.nil_append, List.append_nil, b2_0, b2_1, b2_01, Classical.not_not]
  · simp only [p37_0, p37_1, p37_4, p37_7, p37_8, p37_9, p37_10, p37_11, p37_12, p37_15, p37_16, p37_19, p37_20, p37_21, p37_22, e107, hc, b2_T, b2_F, Int.reduceEq, Int.reduceLT, Int.reduceLE, Int.reduceAdd, Int.reduceSub, Int.reduceMul, Int.reduceNeg, reduceIte, if_true, if_false, true_or, or_true, false_or, or_false, false_and, and_false, eq_self, not_false_eq_true, not_true_eq_false, true_and, and_true, List.cons_append, List.nil_append, List.append_nil, b2_0, b2_1, b2_01, Classical.not_not]
theorem PA_clr (h : PA ds m p) : PA ds (clr m p c) p := by
  unfold clr
  split
  · exact PA_up (PA_plc h) (by omega)
  · exact h
def adS (m : Mm) (p c s t : Int) : Mm := up (up (up (up m (p + 6) (m p 8) c) (p + 7) (m p 8) s) (p + 8) (m p 8) t) p 8 (m p 8 + 1)
theorem e39 {s t : Int} (h : PA ds m p) (hs : 0 ≤ m p 8 ∧ m p 8 ≤ 4) : WP 39 0 [(2, p), (0, c), (0, s), (0, t)] [] ds m Q = Q ds (if m p 8 < 4 then adS m p c s t else m) [(0, b2 (m p 8 < 4))] := by
  obtain ⟨g0, ⟨g1, g2, g3, g4, g5, g6, g7, g8⟩, ⟨k1, k2, k3, k4, k5, k6, k7, k8⟩, ⟨n1, n2, n3, n4, n5, n6, n7, n8⟩⟩ := h
  have w1 : w32 (m p 8 + 1) = m p 8 + 1 := w32_id (by omega) (by omega)
  have q1 : ¬ m p 8 < 0 := by omega
  by_cases hq : m p 8 < 4
  · simp only [p39_0, p39_1, p39_4, p39_7, p39_8, p39_11, p39_12, p39_15, p39_16, p39_17, p39_18, p39_21, p39_22, p39_25, p39_26, p39_27, p39_28, p39_31, p39_32, p39_35, p39_36, p39_37, p39_38, p39_41, p39_42, p39_45, p39_46, p39_47, p39_48, p39_49, p39_52, p39_53, p39_54, p39_57, p39_58, g0, g1, g2, g3, g4, g5, g6, g7, g8, k1, k2, k3, k4, k5, k6, k7, k8, n1, n2, n3, n4, n5, n6, n7, n8, up_at, sn1, sn2, sn3, sn4, sn5, sn6, sn7, sn8, ns1, ns2, ns3, ns4, ns5, ns6, ns7, ns8, Int.add_right_inj, q1, hq, hs.1, w1, adS, b2_T, b2_F, Int.reduceEq, Int.reduceLT, Int.reduceLE, Int.reduceAdd, Int.reduceSub, Int.reduceMul, Int.reduceNeg, reduceIte, if_true, if_false, true_or, or_true, false_or, or_false, false_and, and_false, eq_self, not_false_eq_true, not_true_eq_false, true_and, and_true, List.cons_append, List.nil_append, List.append_nil, b2_0, b2_1, b2_01, Classical.not_not]
  · simp only [p39_0, p39_1, p39_4, p39_7, p39_8, p39_11, p39_12, p39_15, p39_16, p39_17, p39_18, p39_21, p39_22, p39_25, p39_26, p39_27, p39_28, p39_31, p39_32, p39_35, p39_36, p39_37, p39_38, p39_41, p39_42, p39_45, p39_46, p39_47, p39_48, p39_49, p39_52, p39_53, p39_54, p39_57, p39_58, g0, g1, g2, g3, g4, g5, g6, g7, g8, k1, k2, k3, k4, k5, k6, k7, k8, n1, n2, n3, n4, n5, n6, n7, n8, q1, hq, b2_T, b2_F, Int.reduceEq, Int.reduceLT, Int.reduceLE, Int.reduceAdd, Int.reduceSub, Int.reduceMul, Int.reduceNeg, reduceIte, if_true, if_false, true_or, or_true, false_or, or_false, false_and, and_false, eq_self, not_false_eq_true, not_true_eq_false, true_and, and_true, List.cons_append, List.nil_append, List.append_nil, b2_0, b2_1, b2_01, Classical.not_not]
end PLANW
