/-! become -/
theorem PA_ag {ds : Ds} {m k : Mm} {p : Int} (h : PA ds m p) (e : ∀ j : Int, j < 8 → k p j = m p j) : PA ds k p := by
  obtain ⟨g0, ⟨g1, g2, g3, g4, g5, g6, g7, g8⟩, ⟨k1, k2, k3, k4, k5, k6, k7, k8⟩, ⟨n1, n2, n3, n4, n5, n6, n7, n8⟩⟩ := h
  refine ⟨g0, ⟨?_, ?_, ?_, ?_, ?_, ?_, ?_, ?_⟩, ⟨k1, k2, k3, k4, k5, k6, k7, k8⟩, ⟨n1, n2, n3, n4, n5, n6, n7, n8⟩⟩ <;> (rw [e _ (by omega)]; assumption)
def bcg (m : Mm) (p q x y : Int) : Mm := fun a j => if (p + 1 ≤ a ∧ a ≤ p + 5 ∧ 0 ≤ j ∧ j < x) ∨ (p + 6 ≤ a ∧ a ≤ p + 8 ∧ 0 ≤ j ∧ j < y) then m (q + (a - p)) j else m a j
/-- what become leaves -/
def bec (m : Mm) (p q : Int) : Mm := up (bcg m p q 96 4) p 8 (m q 8)
theorem bcg_of {m : Mm} {p q x y a j : Int} (h : a < p + 1 ∨ p + 8 < a) : bcg m p q x y a j = m a j := if_neg (by omega)
theorem bcg_00 {m : Mm} {p q : Int} : bcg m p q 0 0 = m := by
  funext a j
  exact if_neg (by omega)
section BEC
variable {ds : Ds} {m : Mm} {Q : Ds → Mm → List MV → Prop} {p q n : Int}
theorem bec_1 (h : PA ds m p) (h2 : PA ds m q) (hd : p + 8 < q ∨ q + 8 < p) (hb : m (q + 5) n = 0 ∨ m (q + 5) n = 1) (h0 : 0 ≤ n) (h1 : n < 96) : WP 23 2 [(2, p), (2, q), (0, n)] [] ds m Q = WP 23 2 [(2, p), (2, q), (0, n + 1)] [] ds (up (up (up (up (up m (p + 1) n (m (q + 1) n)) (p + 2) n (m (q + 2) n)) (p + 3) n (m (q + 3) n)) (p + 4) n (m (q + 4) n)) (p + 5) n (m (q + 5) n)) Q := by
  have d0_1 : (q = p + 1) = False := eq_false (by omega)
  have d0_2 : (q = p + 2) = False := eq_false (by omega)
  have d0_3 : (q = p + 3) = False := eq_false (by omega)
  have d0_4 : (q = p + 4) = False := eq_false (by omega)
  have d0_5 : (q = p + 5) = False := eq_false (by omega)
  have d1_1 : (q + 1 = p + 1) = False := eq_false (by omega)
  have d1_2 : (q + 1 = p + 2) = False := eq_false (by omega)
  have d1_3 : (q + 1 = p + 3) = False := eq_false (by omega)
  have d1_4 : (q + 1 = p + 4) = False := eq_false (by omega)
  have d1_5 : (q + 1 = p + 5) = False := eq_false (by omega)
  have d2_1 : (q + 2 = p + 1) = False := eq_false (by omega)
  have d2_2 : (q + 2 = p + 2) = False := eq_false (by omega)
  have d2_3 : (q + 2 = p + 3) = False := eq_false (by omega)
  have d2_4 : (q + 2 = p + 4) = False := eq_false (by omega)
  have d2_5 : (q + 2 = p + 5) = False := eq_false (by omega)
  have d3_1 : (q + 3 = p + 1) = False := eq_false (by omega)
  have d3_2 : (q + 3 = p + 2) = False := eq_false (by omega)
  have d3_3 : (q + 3 = p + 3) = False := eq_false (by omega)
  have d3_4 : (q + 3 = p + 4) = False := eq_false (by omega)
  have d3_5 : (q + 3 = p + 5) = False := eq_false (by omega)
  have d4_1 : (q + 4 = p + 1) = False := eq_false (by omega)
  have d4_2 : (q + 4 = p + 2) = False := eq_false (by omega)
  have d4_3 : (q + 4 = p + 3) = False := eq_false (by omega)
  have d4_4 : (q + 4 = p + 4) = False := eq_false (by omega)
  have d4_5 : (q + 4 = p + 5) = False := eq_false (by omega)
  have d5_1 : (q + 5 = p + 1) = False := eq_false (by omega)
  have d5_2 : (q + 5 = p + 2) = False := eq_false (by omega)
  have d5_3 : (q + 5 = p + 3) = False := eq_false (by omega)
  have d5_4 : (q + 5 = p + 4) = False := eq_false (by omega)
  have d5_5 : (q + 5 = p + 5) = False := eq_false (by omega)
  obtain ⟨-, ⟨f1, f2, f3, f4, f5, -, -, -⟩, ⟨i1, i2, i3, i4, i5, -, -, -⟩, ⟨j1, j2, j3, j4, j5, -, -, -⟩⟩ := id h2
  have fk := h2.1
  obtain ⟨g0, ⟨g1, g2, g3, g4, g5, g6, g7, g8⟩, ⟨k1, k2, k3, k4, k5, k6, k7, k8⟩, ⟨n1, n2, n3, n4, n5, n6, n7, n8⟩⟩ := h
  have w1 : w32 (n + 1) = n + 1 := w32_id (by omega) (by omega)
  rw [p23_2]
  simp only [p23_3, p23_5, p23_8, p23_9, p23_12, p23_13, p23_14, p23_17, p23_18, p23_19, p23_20, p23_21, p23_24, p23_25, p23_26, p23_29, p23_30, p23_31, p23_32, p23_33, p23_36, p23_37, p23_38, p23_41, p23_42, p23_43, p23_44, p23_45, p23_48, p23_49, p23_50, p23_53, p23_54, p23_55, p23_56, p23_57, p23_60, p23_61, p23_62, p23_65, p23_66, p23_67, p23_68, p23_71, g0, g1, g2, g3, g4, g5, g6, g7, g8, k1, k2, k3, k4, k5, k6, k7, k8, n1, n2, n3, n4, n5, n6, n7, n8, fk, f1, f2, f3, f4, f5, i1, i2, i3, i4, i5, j1, j2, j3, j4, j5, h0, h1, hb, w1, d0_1, d0_2, d0_3, d0_4, d0_5, d1_1, d1_2, d1_3, d1_4, d1_5, d2_1, d2_2, d2_3, d2_4, d2_5, d3_1, d3_2, d3_3, d3_4, d3_5, d4_1, d4_2, d4_3, d4_4, d4_5, d5_1, d5_2, d5_3, d5_4, d5_5, up_at, sn1, sn2, sn3, sn4, sn5, sn6, sn7, sn8, ns1, ns2, ns3, ns4, ns5, ns6, ns7, ns8, Int.add_right_inj, b2_T, b2_F, Int.reduceEq, Int.reduceLT, Int.reduceLE, Int.reduceAdd, Int.reduceSub, Int.reduceMul, Int.reduceNeg, reduceIte, if_true, if_false, true_or, or_true, false_or, or_false, false_and, and_false, eq_self, not_false_eq_true, not_true_eq_false, true_and, and_true, List.cons_append, List.nil_append, List.append_nil, b2_0, b2_1, b2_01, Classical.not_not]
theorem bec_2 (h : PA ds m p) (h2 : PA ds m q) (hd : p + 8 < q ∨ q + 8 < p) (h0 : 0 ≤ n) (h1 : n < 4) : WP 23 76 [(2, p), (2, q), (0, n)] [] ds m Q = WP 23 76 [(2, p), (2, q), (0, n + 1)] [] ds (up (up (up m (p + 6) n (m (q + 6) n)) (p + 7) n (m (q + 7) n)) (p + 8) n (m (q + 8) n)) Q := by
  have d0_6 : (q = p + 6) = False := eq_false (by omega)
  have d0_7 : (q = p + 7) = False := eq_false (by omega)
  have d0_8 : (q = p + 8) = False := eq_false (by omega)
  have d6_6 : (q + 6 = p + 6) = False := eq_false (by omega)
  have d6_7 : (q + 6 = p + 7) = False := eq_false (by omega)
  have d6_8 : (q + 6 = p + 8) = False := eq_false (by omega)
  have d7_6 : (q + 7 = p + 6) = False := eq_false (by omega)
  have d7_7 : (q + 7 = p + 7) = False := eq_false (by omega)
  have d7_8 : (q + 7 = p + 8) = False := eq_false (by omega)
  have d8_6 : (q + 8 = p + 6) = False := eq_false (by omega)
  have d8_7 : (q + 8 = p + 7) = False := eq_false (by omega)
  have d8_8 : (q + 8 = p + 8) = False := eq_false (by omega)
  obtain ⟨-, ⟨-, -, -, -, -, f6, f7, f8⟩, ⟨-, -, -, -, -, i6, i7, i8⟩, ⟨-, -, -, -, -, j6, j7, j8⟩⟩ := id h2
  have fk := h2.1
  obtain ⟨g0, ⟨g1, g2, g3, g4, g5, g6, g7, g8⟩, ⟨k1, k2, k3, k4, k5, k6, k7, k8⟩, ⟨n1, n2, n3, n4, n5, n6, n7, n8⟩⟩ := h
  have w1 : w32 (n + 1) = n + 1 := w32_id (by omega) (by omega)
  rw [p23_76]
  simp only [p23_77, p23_78, p23_81, p23_82, p23_85, p23_86, p23_87, p23_90, p23_91, p23_92, p23_93, p23_94, p23_97, p23_98, p23_99, p23_102, p23_103, p23_104, p23_105, p23_106, p23_109, p23_110, p23_111, p23_114, p23_115, p23_116, p23_117, p23_120, g0, g1, g2, g3, g4, g5, g6, g7, g8, k1, k2, k3, k4, k5, k6, k7, k8, n1, n2, n3, n4, n5, n6, n7, n8, fk, f6, f7, f8, i6, i7, i8, j6, j7, j8, h0, h1, w1, d0_6, d0_7, d0_8, d6_6, d6_7, d6_8, d7_6, d7_7, d7_8, d8_6, d8_7, d8_8, up_at, sn1, sn2, sn3, sn4, sn5, sn6, sn7, sn8, ns1, ns2, ns3, ns4, ns5, ns6, ns7, ns8, Int.add_right_inj, b2_T, b2_F, Int.reduceEq, Int.reduceLT, Int.reduceLE, Int.reduceAdd, Int.reduceSub, Int.reduceMul, Int.reduceNeg, reduceIte, if_true, if_false, true_or, or_true, false_or, or_false, false_and, and_false, eq_self, not_false_eq_true, not_true_eq_false, true_and, and_true, List.cons_append, List.nil_append, List.append_nil, b2_0, b2_1, b2_01, Classical.not_not]
theorem bcg_s1 {y : Int} (hd : p + 8 < q ∨ q + 8 < p) (h0 : 0 ≤ n) : up (up (up (up (up (bcg m p q n y) (p + 1) n (bcg m p q n y (q + 1) n)) (p + 2) n (bcg m p q n y (q + 2) n)) (p + 3) n (bcg m p q n y (q + 3) n)) (p + 4) n (bcg m p q n y (q + 4) n)) (p + 5) n (bcg m p q n y (q + 5) n) = bcg m p q (n + 1) y := by
  funext a j
  rw [bcg_of (a := q + 1) (by omega), bcg_of (a := q + 2) (by omega), bcg_of (a := q + 3) (by omega), bcg_of (a := q + 4) (by omega), bcg_of (a := q + 5) (by omega)]
  by_cases hj : j = n
  · subst hj
    by_cases h5 : a = p + 5
    · subst h5
      rw [up_at, if_pos ⟨rfl, rfl⟩, bcg, if_pos (by omega), show q + (p + 5 - p) = q + 5 by omega]
    by_cases h4 : a = p + 4
    · subst h4
      rw [up_at, if_neg (by omega), up_at, if_pos ⟨rfl, rfl⟩, bcg, if_pos (by omega), show q + (p + 4 - p) = q + 4 by omega]
    by_cases h3 : a = p + 3
    · subst h3
      rw [up_at, if_neg (by omega), up_at, if_neg (by omega), up_at, if_pos ⟨rfl, rfl⟩, bcg, if_pos (by omega), show q + (p + 3 - p) = q + 3 by omega]
    by_cases h2 : a = p + 2
    · subst h2
      rw [up_at, if_neg (by omega), up_at, if_neg (by omega), up_at, if_neg (by omega), up_at, if_pos ⟨rfl, rfl⟩, bcg, if_pos (by omega), show q + (p + 2 - p) = q + 2 by omega]
    by_cases h1 : a = p + 1
    · subst h1
      rw [up_at, if_neg (by omega), up_at, if_neg (by omega), up_at, if_neg (by omega), up_at, if_neg (by omega), up_at, if_pos ⟨rfl, rfl⟩, bcg, if_pos (by omega), show q + (p + 1 - p) = q + 1 by omega]
    rw [up_at, if_neg (by omega), up_at, if_neg (by omega), up_at, if_neg (by omega), up_at, if_neg (by omega), up_at, if_neg (by omega)]
    unfold bcg
    by_cases h6 : (p + 1 ≤ a ∧ a ≤ p + 5 ∧ 0 ≤ j ∧ j < j) ∨ (p + 6 ≤ a ∧ a ≤ p + 8 ∧ 0 ≤ j ∧ j < y)
    · rw [if_pos h6, if_pos (by omega)]
    · rw [if_neg h6, if_neg (by omega)]
  · rw [up_at, if_neg (by omega), up_at, if_neg (by omega), up_at, if_neg (by omega), up_at, if_neg (by omega), up_at, if_neg (by omega)]
    unfold bcg
    by_cases h6 : (p + 1 ≤ a ∧ a ≤ p + 5 ∧ 0 ≤ j ∧ j < n) ∨ (p + 6 ≤ a ∧ a ≤ p + 8 ∧ 0 ≤ j ∧ j < y)
    · rw [if_pos h6, if_pos (by omega)]
    · rw [if_neg h6, if_neg (by omega)]
theorem bcg_s2 {x : Int} (hd : p + 8 < q ∨ q + 8 < p) (h0 : 0 ≤ n) : up (up (up (bcg m p q x n) (p + 6) n (bcg m p q x n (q + 6) n)) (p + 7) n (bcg m p q x n (q + 7) n)) (p + 8) n (bcg m p q x n (q + 8) n) = bcg m p q x (n + 1) := by
  funext a j
  rw [bcg_of (a := q + 6) (by omega), bcg_of (a := q + 7) (by omega), bcg_of (a := q + 8) (by omega)]
  by_cases hj : j = n
  · subst hj
    by_cases h5 : a = p + 8
    · subst h5
      rw [up_at, if_pos ⟨rfl, rfl⟩, bcg, if_pos (by omega), show q + (p + 8 - p) = q + 8 by omega]
    by_cases h4 : a = p + 7
    · subst h4
      rw [up_at, if_neg (by omega), up_at, if_pos ⟨rfl, rfl⟩, bcg, if_pos (by omega), show q + (p + 7 - p) = q + 7 by omega]
    by_cases h3 : a = p + 6
    · subst h3
      rw [up_at, if_neg (by omega), up_at, if_neg (by omega), up_at, if_pos ⟨rfl, rfl⟩, bcg, if_pos (by omega), show q + (p + 6 - p) = q + 6 by omega]
    rw [up_at, if_neg (by omega), up_at, if_neg (by omega), up_at, if_neg (by omega)]
    unfold bcg
    by_cases h6 : (p + 1 ≤ a ∧ a ≤ p + 5 ∧ 0 ≤ j ∧ j < x) ∨ (p + 6 ≤ a ∧ a ≤ p + 8 ∧ 0 ≤ j ∧ j < j)
    · rw [if_pos h6, if_pos (by omega)]
    · rw [if_neg h6, if_neg (by omega)]
  · rw [up_at, if_neg (by omega), up_at, if_neg (by omega), up_at, if_neg (by omega)]
    unfold bcg
    by_cases h6 : (p + 1 ≤ a ∧ a ≤ p + 5 ∧ 0 ≤ j ∧ j < x) ∨ (p + 6 ≤ a ∧ a ≤ p + 8 ∧ 0 ≤ j ∧ j < n)
    · rw [if_pos h6, if_pos (by omega)]
    · rw [if_neg h6, if_neg (by omega)]
theorem bcg_p {x y : Int} (h : PA ds m p) : PA ds (bcg m p q x y) p := PA_ag h (fun j _ => bcg_of (by omega))
theorem bcg_q {x y : Int} (h : PA ds m q) (hd : p + 8 < q ∨ q + 8 < p) : PA ds (bcg m p q x y) q := PA_ag h (fun j _ => bcg_of (by omega))
theorem bec_l1 (h : PA ds m p) (h2 : PA ds m q) (hd : p + 8 < q ∨ q + 8 < p) (hb : ∀ c : Int, 0 ≤ c → c < 96 → m (q + 5) c = 0 ∨ m (q + 5) c = 1) : ∀ (k : Nat) (n : Int), 0 ≤ n → n + k = 96 → WP 23 2 [(2, p), (2, q), (0, n)] [] ds (bcg m p q n 0) Q = WP 23 2 [(2, p), (2, q), (0, 96)] [] ds (bcg m p q 96 0) Q
  | 0, n, h0, hn => by
    have hn : n = 96 := by omega
    rw [hn]
  | k + 1, n, h0, hn => by
    rw [bec_1 (bcg_p h) (bcg_q h2 hd) hd (by rw [bcg_of (by omega)]; exact hb n h0 (by omega)) h0 (by omega), bcg_s1 hd h0]
    exact bec_l1 h h2 hd hb k (n + 1) (by omega) (by omega)
theorem bec_l2 (h : PA ds m p) (h2 : PA ds m q) (hd : p + 8 < q ∨ q + 8 < p) : ∀ (k : Nat) (n : Int), 0 ≤ n → n + k = 4 → WP 23 76 [(2, p), (2, q), (0, n)] [] ds (bcg m p q 96 n) Q = WP 23 76 [(2, p), (2, q), (0, 4)] [] ds (bcg m p q 96 4) Q
  | 0, n, h0, hn => by
    have hn : n = 4 := by omega
    rw [hn]
  | k + 1, n, h0, hn => by
    rw [bec_2 (bcg_p h) (bcg_q h2 hd) hd h0 (by omega), bcg_s2 hd h0]
    exact bec_l2 h h2 hd k (n + 1) (by omega) (by omega)
theorem e23 (h : PA ds m p) (h2 : PA ds m q) (hd : p + 8 < q ∨ q + 8 < p) (hb : ∀ c : Int, 0 ≤ c → c < 96 → m (q + 5) c = 0 ∨ m (q + 5) c = 1) : WP 23 0 [(2, p), (2, q), (3, 0)] [] ds m Q = Q ds (bec m p q) [] := by
  have a1 := bec_l1 (Q := Q) h h2 hd hb 96 0 (by omega) (by omega)
  have a2 := bec_l2 (Q := Q) h h2 hd 4 0 (by omega) (by omega)
  rw [bcg_00] at a1
  have b1 := (bcg_p (q := q) (x := 96) (y := 4) h).1
  have b2 := (bcg_q (p := p) (x := 96) (y := 4) h2 hd).1
  have b3 : bcg m p q 96 4 q 8 = m q 8 := bcg_of (by omega)
  simp only [p23_0, p23_1]
  rw [a1]
  simp only [p23_2, p23_3, p23_5, p23_74, p23_75, b2_T, b2_F, Int.reduceEq, Int.reduceLT, Int.reduceLE, Int.reduceAdd, Int.reduceSub, Int.reduceMul, Int.reduceNeg, reduceIte, if_true, if_false, true_or, or_true, false_or, or_false, false_and, and_false, eq_self, not_false_eq_true, not_true_eq_false, true_and, and_true, List.cons_append, List.nil_append, List.append_nil, b2_0, b2_1, b2_01, Classical.not_not, Int.lt_irrefl]
  rw [a2]
  simp only [p23_76, p23_77, p23_78, p23_123, p23_124, p23_125, p23_128, p23_131, b1, b2, b3, bec, b2_T, b2_F, Int.reduceEq, Int.reduceLT, Int.reduceLE, Int.reduceAdd, Int.reduceSub, Int.reduceMul, Int.reduceNeg, reduceIte, if_true, if_false, true_or, or_true, false_or, or_false, false_and, and_false, eq_self, not_false_eq_true, not_true_eq_false, true_and, and_true, List.cons_append, List.nil_append, List.append_nil, b2_0, b2_1, b2_01, Classical.not_not, Int.lt_irrefl]
end BEC
