/-! copy, both sides -/
def mv1 (Y : Mm) (p i n : Int) : Mm := fun a k => if a = 83 ∧ 0 ≤ k ∧ k < n then Y 82 (100 * p + i + k) else Y a k
def mv2 (Y : Mm) (q j n : Int) : Mm := fun a k => if a = 82 ∧ 100 * q + j ≤ k ∧ k < 100 * q + j + n then Y 83 (k - (100 * q + j)) else Y a k
abbrev twS (m : Mm) (p q : Int) : Prop := ¬ m 1 p < 0 ∧ ¬ m 1 q < 0 ∧ ¬ m (m 1 p) 0 = m (m 1 q) 0
abbrev prt (m : Mm) (p q i j n : Int) : Prop := (0 ≤ i ∧ n ≤ m 81 p - i) ∧ (0 ≤ j ∧ n ≤ m 81 q - j)
section COPY
variable {tl : Ds} {ds ds' : Ds} {m X Y Z X' Y' g h A B : Mm} {Q : Ds → Mm → List MV → Prop} {p q c k a b s o v i j d n nn w t r e u1 u2 : Int} {M M' : Nat} {as as' : List MV} {q6 q7 q8 : MV}
theorem e76_1 (S : Sh m) (h : ¬ (isH p ∧ isH q)) : WP 76 0 [(2, 0), (0, p), (0, q), (0, i), (0, j), (0, nn), (3, 0), (3, 0), (3, 0)] [] (dsB ++ tl) m Q = Q (dsB ++ tl) (rf m 3 1) [(0, -1)] := by
  by_cases hp : isH p
  · have hq : ¬ isH q := fun y => h ⟨hp, y⟩
    simp only [p76_0, p76_1, p76_4, p76_7, p76_8, p76_11, p76_14, p76_15, p76_16, p76_19, e109, b2_t hp, b2_f hq, K_0, K_3, L_3, sh_0_0 S, sh_0_1 S, sh_0_2 S, sh_0_3 S, sh_0_4 S, sh_0_5 S, sh_0_7 S, sh_0_8 S, sh_0_10 S, sh_0_12 S, sh_0_14 S, sh_0_15 S, e95 S (show -7 ≤ (-1 : Int) ∧ (-1 : Int) ≤ -1 by decide), b2_T, b2_F, Int.reduceEq, Int.reduceLT, Int.reduceLE, Int.reduceAdd, Int.reduceSub, Int.reduceMul, Int.reduceNeg, reduceIte, if_true, if_false, true_or, or_true, false_or, or_false, false_and, and_false, eq_self, not_false_eq_true, not_true_eq_false, true_and, and_true, List.cons_append, List.nil_append, List.append_nil, b2_0, b2_1, b2_01, Classical.not_not]
  · simp only [p76_0, p76_1, p76_4, p76_7, p76_8, p76_11, p76_14, p76_15, p76_16, p76_19, e109, b2_f hp, K_0, K_3, L_3, sh_0_0 S, sh_0_1 S, sh_0_2 S, sh_0_3 S, sh_0_4 S, sh_0_5 S, sh_0_7 S, sh_0_8 S, sh_0_10 S, sh_0_12 S, sh_0_14 S, sh_0_15 S, e95 S (show -7 ≤ (-1 : Int) ∧ (-1 : Int) ≤ -1 by decide), b2_T, b2_F, Int.reduceEq, Int.reduceLT, Int.reduceLE, Int.reduceAdd, Int.reduceSub, Int.reduceMul, Int.reduceNeg, reduceIte, if_true, if_false, true_or, or_true, false_or, or_false, false_and, and_false, eq_self, not_false_eq_true, not_true_eq_false, true_and, and_true, List.cons_append, List.nil_append, List.append_nil, b2_0, b2_1, b2_01, Classical.not_not]
theorem e76_2 (S : Sh m) (hp : isH p) (hq : isH q) (kp : ¬ m 1 p < 0 → dk (dsB ++ tl) (m 1 p) = 4) (kq : ¬ m 1 q < 0 → dk (dsB ++ tl) (m 1 q) = 4) : WP 76 0 [(2, 0), (0, p), (0, q), (0, i), (0, j), (0, nn), (3, 0), (3, 0), (3, 0)] [] (dsB ++ tl) m Q = WP 76 66 [(2, 0), (0, p), (0, q), (0, i), (0, j), (0, nn), (2, m 1 p), (2, m 1 q), (0, b2 (twS m p q))] [] (dsB ++ tl) m Q := by
  by_cases a1 : m 1 p < 0
  · rw [b2_f (fun y => y.1 a1)]
    simp only [p76_0, p76_1, p76_4, p76_7, p76_8, p76_11, p76_14, p76_15, p76_16, p76_19, p76_20, p76_21, p76_24, p76_25, p76_26, p76_28, p76_29, p76_32, p76_33, p76_34, p76_36, p76_38, p76_41, p76_43, p76_46, p76_48, p76_51, p76_53, p76_56, p76_59, p76_60, p76_63, p76_64, e109, b2_t hp, b2_t hq, K_0, K_3, L_3, sh_0_0 S, sh_0_1 S, sh_0_2 S, sh_0_3 S, sh_0_4 S, sh_0_5 S, sh_0_7 S, sh_0_8 S, sh_0_10 S, sh_0_12 S, sh_0_14 S, sh_0_15 S, K_1, L_1, hp.1, hp.2, hq.1, hq.2, a1, b2_T, b2_F, Int.reduceEq, Int.reduceLT, Int.reduceLE, Int.reduceAdd, Int.reduceSub, Int.reduceMul, Int.reduceNeg, reduceIte, if_true, if_false, true_or, or_true, false_or, or_false, false_and, and_false, eq_self, not_false_eq_true, not_true_eq_false, true_and, and_true, List.cons_append, List.nil_append, List.append_nil, b2_0, b2_1, b2_01, Classical.not_not]
  · have k1 := kp a1
    by_cases a2 : m 1 q < 0
    · rw [b2_f (fun y => y.2.1 a2)]
      simp only [p76_0, p76_1, p76_4, p76_7, p76_8, p76_11, p76_14, p76_15, p76_16, p76_19, p76_20, p76_21, p76_24, p76_25, p76_26, p76_28, p76_29, p76_32, p76_33, p76_34, p76_36, p76_38, p76_41, p76_43, p76_46, p76_48, p76_51, p76_53, p76_56, p76_59, p76_60, p76_63, p76_64, e109, b2_t hp, b2_t hq, K_0, K_3, L_3, sh_0_0 S, sh_0_1 S, sh_0_2 S, sh_0_3 S, sh_0_4 S, sh_0_5 S, sh_0_7 S, sh_0_8 S, sh_0_10 S, sh_0_12 S, sh_0_14 S, sh_0_15 S, K_1, L_1, hp.1, hp.2, hq.1, hq.2, a1, a2, b2_T, b2_F, Int.reduceEq, Int.reduceLT, Int.reduceLE, Int.reduceAdd, Int.reduceSub, Int.reduceMul, Int.reduceNeg, reduceIte, if_true, if_false, true_or, or_true, false_or, or_false, false_and, and_false, eq_self, not_false_eq_true, not_true_eq_false, true_and, and_true, List.cons_append, List.nil_append, List.append_nil, b2_0, b2_1, b2_01, Classical.not_not]
    · have k2 := kq a2
      by_cases a3 : m (m 1 p) 0 = m (m 1 q) 0
      · rw [b2_f (fun y => y.2.2 a3)]
        simp only [p76_0, p76_1, p76_4, p76_7, p76_8, p76_11, p76_14, p76_15, p76_16, p76_19, p76_20, p76_21, p76_24, p76_25, p76_26, p76_28, p76_29, p76_32, p76_33, p76_34, p76_36, p76_38, p76_41, p76_43, p76_46, p76_48, p76_51, p76_53, p76_56, p76_59, p76_60, p76_63, p76_64, e109, b2_t hp, b2_t hq, K_0, K_3, L_3, sh_0_0 S, sh_0_1 S, sh_0_2 S, sh_0_3 S, sh_0_4 S, sh_0_5 S, sh_0_7 S, sh_0_8 S, sh_0_10 S, sh_0_12 S, sh_0_14 S, sh_0_15 S, K_1, L_1, hp.1, hp.2, hq.1, hq.2, a1, a2, a3, k1, k2, b2_T, b2_F, Int.reduceEq, Int.reduceLT, Int.reduceLE, Int.reduceAdd, Int.reduceSub, Int.reduceMul, Int.reduceNeg, reduceIte, if_true, if_false, true_or, or_true, false_or, or_false, false_and, and_false, eq_self, not_false_eq_true, not_true_eq_false, true_and, and_true, List.cons_append, List.nil_append, List.append_nil, b2_0, b2_1, b2_01, Classical.not_not]
      · rw [b2_t ⟨a1, a2, a3⟩]
        simp only [p76_0, p76_1, p76_4, p76_7, p76_8, p76_11, p76_14, p76_15, p76_16, p76_19, p76_20, p76_21, p76_24, p76_25, p76_26, p76_28, p76_29, p76_32, p76_33, p76_34, p76_36, p76_38, p76_41, p76_43, p76_46, p76_48, p76_51, p76_53, p76_56, p76_59, p76_60, p76_63, p76_64, e109, b2_t hp, b2_t hq, K_0, K_3, L_3, sh_0_0 S, sh_0_1 S, sh_0_2 S, sh_0_3 S, sh_0_4 S, sh_0_5 S, sh_0_7 S, sh_0_8 S, sh_0_10 S, sh_0_12 S, sh_0_14 S, sh_0_15 S, K_1, L_1, hp.1, hp.2, hq.1, hq.2, a1, a2, a3, k1, k2, b2_T, b2_F, Int.reduceEq, Int.reduceLT, Int.reduceLE, Int.reduceAdd, Int.reduceSub, Int.reduceMul, Int.reduceNeg, reduceIte, if_true, if_false, true_or, or_true, false_or, or_false, false_and, and_false, eq_self, not_false_eq_true, not_true_eq_false, true_and, and_true, List.cons_append, List.nil_append, List.append_nil, b2_0, b2_1, b2_01, Classical.not_not]
theorem e76_3 (S : Sh m) (hp : isH p) (hq : isH q) : WP 76 66 [(2, 0), (0, p), (0, q), (0, i), (0, j), (0, nn), q6, q7, (0, b2 (twS m p q))] [] (dsB ++ tl) m Q = if ¬ m 2 p < 0 ∨ ¬ m 2 q < 0 ∨ twS m p q then Q (dsB ++ tl) (rf m 3 2) [(0, -2)] else WP 76 96 [(2, 0), (0, p), (0, q), (0, i), (0, j), (0, nn), q6, q7, (0, b2 (twS m p q))] [] (dsB ++ tl) m Q := by
  have y95 := fun (Q : Ds → Mm → List MV → Prop) => e95 (tl := tl) (Q := Q) S (show -7 ≤ (-2 : Int) ∧ (-2 : Int) ≤ -1 by decide)
  by_cases a4 : m 2 p < 0
  · by_cases a5 : m 2 q < 0
    · by_cases a6 : twS m p q
      · rw [if_pos (Or.inr (Or.inr a6)), b2_t a6]
        simp only [p76_66, p76_67, p76_70, p76_71, p76_72, p76_75, p76_76, p76_79, p76_80, p76_81, p76_84, p76_86, p76_89, p76_90, p76_92, p76_95, K_0, K_3, L_3, sh_0_0 S, sh_0_1 S, sh_0_2 S, sh_0_3 S, sh_0_4 S, sh_0_5 S, sh_0_7 S, sh_0_8 S, sh_0_10 S, sh_0_12 S, sh_0_14 S, sh_0_15 S, K_2, L_2, hp.1, hp.2, hq.1, hq.2, a4, a5, y95, b2_T, b2_F, Int.reduceEq, Int.reduceLT, Int.reduceLE, Int.reduceAdd, Int.reduceSub, Int.reduceMul, Int.reduceNeg, reduceIte, if_true, if_false, true_or, or_true, false_or, or_false, false_and, and_false, eq_self, not_false_eq_true, not_true_eq_false, true_and, and_true, List.cons_append, List.nil_append, List.append_nil, b2_0, b2_1, b2_01, Classical.not_not]
      · rw [if_neg (fun y => y.elim (fun z => z a4) (fun z => z.elim (fun z => z a5) a6)), b2_f a6]
        simp only [p76_66, p76_67, p76_70, p76_71, p76_72, p76_75, p76_76, p76_79, p76_80, p76_81, p76_84, p76_86, p76_89, p76_90, p76_92, p76_95, K_0, K_3, L_3, sh_0_0 S, sh_0_1 S, sh_0_2 S, sh_0_3 S, sh_0_4 S, sh_0_5 S, sh_0_7 S, sh_0_8 S, sh_0_10 S, sh_0_12 S, sh_0_14 S, sh_0_15 S, K_2, L_2, hp.1, hp.2, hq.1, hq.2, a4, a5, y95, b2_T, b2_F, Int.reduceEq, Int.reduceLT, Int.reduceLE, Int.reduceAdd, Int.reduceSub, Int.reduceMul, Int.reduceNeg, reduceIte, if_true, if_false, true_or, or_true, false_or, or_false, false_and, and_false, eq_self, not_false_eq_true, not_true_eq_false, true_and, and_true, List.cons_append, List.nil_append, List.append_nil, b2_0, b2_1, b2_01, Classical.not_not]
    · rw [if_pos (Or.inr (Or.inl a5))]
      simp only [p76_66, p76_67, p76_70, p76_71, p76_72, p76_75, p76_76, p76_79, p76_80, p76_81, p76_84, p76_86, p76_89, p76_90, p76_92, p76_95, K_0, K_3, L_3, sh_0_0 S, sh_0_1 S, sh_0_2 S, sh_0_3 S, sh_0_4 S, sh_0_5 S, sh_0_7 S, sh_0_8 S, sh_0_10 S, sh_0_12 S, sh_0_14 S, sh_0_15 S, K_2, L_2, hp.1, hp.2, hq.1, hq.2, a4, a5, y95, b2_T, b2_F, Int.reduceEq, Int.reduceLT, Int.reduceLE, Int.reduceAdd, Int.reduceSub, Int.reduceMul, Int.reduceNeg, reduceIte, if_true, if_false, true_or, or_true, false_or, or_false, false_and, and_false, eq_self, not_false_eq_true, not_true_eq_false, true_and, and_true, List.cons_append, List.nil_append, List.append_nil, b2_0, b2_1, b2_01, Classical.not_not]
  · rw [if_pos (Or.inl a4)]
    simp only [p76_66, p76_67, p76_70, p76_71, p76_72, p76_75, p76_76, p76_79, p76_80, p76_81, p76_84, p76_86, p76_89, p76_90, p76_92, p76_95, K_0, K_3, L_3, sh_0_0 S, sh_0_1 S, sh_0_2 S, sh_0_3 S, sh_0_4 S, sh_0_5 S, sh_0_7 S, sh_0_8 S, sh_0_10 S, sh_0_12 S, sh_0_14 S, sh_0_15 S, K_2, L_2, hp.1, hp.2, hq.1, hq.2, a4, y95, b2_T, b2_F, Int.reduceEq, Int.reduceLT, Int.reduceLE, Int.reduceAdd, Int.reduceSub, Int.reduceMul, Int.reduceNeg, reduceIte, if_true, if_false, true_or, or_true, false_or, or_false, false_and, and_false, eq_self, not_false_eq_true, not_true_eq_false, true_and, and_true, List.cons_append, List.nil_append, List.append_nil, b2_0, b2_1, b2_01, Classical.not_not]
theorem e76_4 (S : Sh m) (h : u1 < 0 ∨ u2 < 0) : WP 76 96 [(2, 0), (0, p), (0, q), (0, i), (0, j), (0, nn), (2, u1), (2, u2), q8] [] (dsB ++ tl) m Q = Q (dsB ++ tl) (rf m 3 3) [(0, -3)] := by
  have y95 := fun (Q : Ds → Mm → List MV → Prop) => e95 (tl := tl) (Q := Q) S (show -7 ≤ (-3 : Int) ∧ (-3 : Int) ≤ -1 by decide)
  by_cases a1 : u1 < 0
  · simp only [p76_96, p76_98, p76_101, p76_103, p76_106, p76_107, p76_109, p76_112, K_0, K_3, L_3, sh_0_0 S, sh_0_1 S, sh_0_2 S, sh_0_3 S, sh_0_4 S, sh_0_5 S, sh_0_7 S, sh_0_8 S, sh_0_10 S, sh_0_12 S, sh_0_14 S, sh_0_15 S, a1, y95, b2_T, b2_F, Int.reduceEq, Int.reduceLT, Int.reduceLE, Int.reduceAdd, Int.reduceSub, Int.reduceMul, Int.reduceNeg, reduceIte, if_true, if_false, true_or, or_true, false_or, or_false, false_and, and_false, eq_self, not_false_eq_true, not_true_eq_false, true_and, and_true, List.cons_append, List.nil_append, List.append_nil, b2_0, b2_1, b2_01, Classical.not_not]
  · have a2 : u2 < 0 := h.resolve_left a1
    simp only [p76_96, p76_98, p76_101, p76_103, p76_106, p76_107, p76_109, p76_112, K_0, K_3, L_3, sh_0_0 S, sh_0_1 S, sh_0_2 S, sh_0_3 S, sh_0_4 S, sh_0_5 S, sh_0_7 S, sh_0_8 S, sh_0_10 S, sh_0_12 S, sh_0_14 S, sh_0_15 S, a1, a2, y95, b2_T, b2_F, Int.reduceEq, Int.reduceLT, Int.reduceLE, Int.reduceAdd, Int.reduceSub, Int.reduceMul, Int.reduceNeg, reduceIte, if_true, if_false, true_or, or_true, false_or, or_false, false_and, and_false, eq_self, not_false_eq_true, not_true_eq_false, true_and, and_true, List.cons_append, List.nil_append, List.append_nil, b2_0, b2_1, b2_01, Classical.not_not]
theorem e76_5 (S : Sh m) (h1 : ¬ u1 < 0) (h2 : ¬ u2 < 0) (h : nn < 0) : WP 76 96 [(2, 0), (0, p), (0, q), (0, i), (0, j), (0, nn), (2, u1), (2, u2), q8] [] (dsB ++ tl) m Q = Q (dsB ++ tl) (rf m 3 4) [(0, -4)] := by
  have y95 := fun (Q : Ds → Mm → List MV → Prop) => e95 (tl := tl) (Q := Q) S (show -7 ≤ (-4 : Int) ∧ (-4 : Int) ≤ -1 by decide)
  simp only [p76_96, p76_98, p76_101, p76_103, p76_106, p76_107, p76_109, p76_112, p76_113, p76_115, p76_118, p76_119, p76_121, p76_124, K_0, K_3, L_3, sh_0_0 S, sh_0_1 S, sh_0_2 S, sh_0_3 S, sh_0_4 S, sh_0_5 S, sh_0_7 S, sh_0_8 S, sh_0_10 S, sh_0_12 S, sh_0_14 S, sh_0_15 S, h1, h2, h, y95, b2_T, b2_F, Int.reduceEq, Int.reduceLT, Int.reduceLE, Int.reduceAdd, Int.reduceSub, Int.reduceMul, Int.reduceNeg, reduceIte, if_true, if_false, true_or, or_true, false_or, or_false, false_and, and_false, eq_self, not_false_eq_true, not_true_eq_false, true_and, and_true, List.cons_append, List.nil_append, List.append_nil, b2_0, b2_1, b2_01, Classical.not_not]
theorem e76_6 (S : Sh m) (R1 : RA (dsB ++ tl) m u1 v) (R2 : RA (dsB ++ tl) m u2 w) (h1 : ¬ u1 < 0) (h2 : ¬ u2 < 0) (hn : 0 ≤ nn) (zv : 0 ≤ v ∧ v ≤ 100) (zw : 0 ≤ w ∧ w ≤ 100) (hi : i < 2147483648) (hj : j < 2147483648) : WP 76 96 [(2, 0), (0, p), (0, q), (0, i), (0, j), (0, nn), (2, u1), (2, u2), q8] [] (dsB ++ tl) m Q = if (0 ≤ i ∧ nn ≤ v - i) ∧ (0 ≤ j ∧ nn ≤ w - j) then Q (dsB ++ tl) (cpy m (m u1 1) i (m u2 1) j nn) [(0, 1)] else Q (dsB ++ tl) (rf m 3 5) [(0, -5)] := by
  have y95 := fun (Q : Ds → Mm → List MV → Prop) => e95 (tl := tl) (Q := Q) S (show -7 ≤ (-5 : Int) ∧ (-5 : Int) ≤ -1 by decide)
  have ya := fun (Q : Ds → Mm → List MV → Prop) => e45 (Q := Q) (i := i) (k := nn) R1 zv hi
  have yb := fun (Q : Ds → Mm → List MV → Prop) => e45 (Q := Q) (i := j) (k := nn) R2 zw hj
  have hn' : ¬ nn < 0 := by omega
  have r1 := R1
  have r2 := R2
  unfold RA at r1 r2
  by_cases a1 : 0 ≤ i ∧ nn ≤ v - i
  · simp only [b2_t (show 0 ≤ i ∧ 0 ≤ nn ∧ nn ≤ v - i from ⟨a1.1, hn, a1.2⟩)] at ya
    by_cases a2 : 0 ≤ j ∧ nn ≤ w - j
    · simp only [b2_t (show 0 ≤ j ∧ 0 ≤ nn ∧ nn ≤ w - j from ⟨a2.1, hn, a2.2⟩)] at yb
      rw [if_pos ⟨a1, a2⟩]
      have b1 : i + nn ≤ v := by omega
      have b2' : j + nn ≤ w := by omega
      simp only [p76_96, p76_98, p76_101, p76_103, p76_106, p76_107, p76_109, p76_112, p76_113, p76_115, p76_118, p76_119, p76_121, p76_124, p76_125, p76_127, p76_128, p76_130, p76_133, p76_136, p76_138, p76_140, p76_142, p76_145, p76_148, p76_149, p76_151, p76_154, p76_155, p76_157, p76_160, p76_161, p76_163, p76_166, p76_168, p76_170, p76_173, p76_174, K_0, K_3, L_3, sh_0_0 S, sh_0_1 S, sh_0_2 S, sh_0_3 S, sh_0_4 S, sh_0_5 S, sh_0_7 S, sh_0_8 S, sh_0_10 S, sh_0_12 S, sh_0_14 S, sh_0_15 S, h1, h2, hn', ya, yb, r1.1, r1.2.1, r1.2.2, r2.1, r2.2.1, r2.2.2, hn, a1.1, a2.1, b1, b2', n_m0, b2_T, b2_F, Int.reduceEq, Int.reduceLT, Int.reduceLE, Int.reduceAdd, Int.reduceSub, Int.reduceMul, Int.reduceNeg, reduceIte, if_true, if_false, true_or, or_true, false_or, or_false, false_and, and_false, eq_self, not_false_eq_true, not_true_eq_false, true_and, and_true, List.cons_append, List.nil_append, List.append_nil, b2_0, b2_1, b2_01, Classical.not_not]
    · simp only [b2_f (show ¬ (0 ≤ j ∧ 0 ≤ nn ∧ nn ≤ w - j) from fun y => a2 ⟨y.1, y.2.2⟩)] at yb
      rw [if_neg (fun y => a2 y.2)]
      simp only [p76_96, p76_98, p76_101, p76_103, p76_106, p76_107, p76_109, p76_112, p76_113, p76_115, p76_118, p76_119, p76_121, p76_124, p76_125, p76_127, p76_128, p76_130, p76_133, p76_136, p76_138, p76_140, p76_142, p76_145, p76_148, p76_149, p76_151, p76_154, K_0, K_3, L_3, sh_0_0 S, sh_0_1 S, sh_0_2 S, sh_0_3 S, sh_0_4 S, sh_0_5 S, sh_0_7 S, sh_0_8 S, sh_0_10 S, sh_0_12 S, sh_0_14 S, sh_0_15 S, h1, h2, hn', ya, yb, r1.1, r2.1, y95, b2_T, b2_F, Int.reduceEq, Int.reduceLT, Int.reduceLE, Int.reduceAdd, Int.reduceSub, Int.reduceMul, Int.reduceNeg, reduceIte, if_true, if_false, true_or, or_true, false_or, or_false, false_and, and_false, eq_self, not_false_eq_true, not_true_eq_false, true_and, and_true, List.cons_append, List.nil_append, List.append_nil, b2_0, b2_1, b2_01, Classical.not_not]
  · simp only [b2_f (show ¬ (0 ≤ i ∧ 0 ≤ nn ∧ nn ≤ v - i) from fun y => a1 ⟨y.1, y.2.2⟩)] at ya
    rw [if_neg (fun y => a1 y.1)]
    simp only [p76_96, p76_98, p76_101, p76_103, p76_106, p76_107, p76_109, p76_112, p76_113, p76_115, p76_118, p76_119, p76_121, p76_124, p76_125, p76_127, p76_128, p76_130, p76_133, p76_136, p76_138, p76_140, p76_142, p76_145, p76_148, p76_149, p76_151, p76_154, K_0, K_3, L_3, sh_0_0 S, sh_0_1 S, sh_0_2 S, sh_0_3 S, sh_0_4 S, sh_0_5 S, sh_0_7 S, sh_0_8 S, sh_0_10 S, sh_0_12 S, sh_0_14 S, sh_0_15 S, h1, h2, hn', ya, r1.1, y95, b2_T, b2_F, Int.reduceEq, Int.reduceLT, Int.reduceLE, Int.reduceAdd, Int.reduceSub, Int.reduceMul, Int.reduceNeg, reduceIte, if_true, if_false, true_or, or_true, false_or, or_false, false_and, and_false, eq_self, not_false_eq_true, not_true_eq_false, true_and, and_true, List.cons_append, List.nil_append, List.append_nil, b2_0, b2_1, b2_01, Classical.not_not]
abbrev tw2 (m : Mm) (p q : Int) : Prop := 100 ≤ m 80 p ∧ 100 ≤ m 80 q ∧ ¬ m 80 p = m 80 q
theorem e145_1 (S : Sh m) (h : ¬ (isH p ∧ isH q)) : WP 145 0 [(2, 70), (0, p), (0, q), (0, i), (0, j), (0, nn), (3, 0)] [] (dsB ++ tl) m Q = Q (dsB ++ tl) (rf m 71 1) [(0, -1)] := by
  by_cases hp : isH p
  · have hq : ¬ isH q := fun y => h ⟨hp, y⟩
    simp only [p145_0, p145_1, p145_4, p145_7, p145_8, p145_11, p145_14, p145_15, p145_16, p145_19, e139, b2_t hp, b2_f hq, K_70, e121 S (show -7 ≤ (-1 : Int) ∧ (-1 : Int) ≤ -1 by decide), b2_T, b2_F, Int.reduceEq, Int.reduceLT, Int.reduceLE, Int.reduceAdd, Int.reduceSub, Int.reduceMul, Int.reduceNeg, reduceIte, if_true, if_false, true_or, or_true, false_or, or_false, false_and, and_false, eq_self, not_false_eq_true, not_true_eq_false, true_and, and_true, List.cons_append, List.nil_append, List.append_nil, b2_0, b2_1, b2_01, Classical.not_not]
  · simp only [p145_0, p145_1, p145_4, p145_7, p145_8, p145_11, p145_14, p145_15, p145_16, p145_19, e139, b2_f hp, K_70, e121 S (show -7 ≤ (-1 : Int) ∧ (-1 : Int) ≤ -1 by decide), b2_T, b2_F, Int.reduceEq, Int.reduceLT, Int.reduceLE, Int.reduceAdd, Int.reduceSub, Int.reduceMul, Int.reduceNeg, reduceIte, if_true, if_false, true_or, or_true, false_or, or_false, false_and, and_false, eq_self, not_false_eq_true, not_true_eq_false, true_and, and_true, List.cons_append, List.nil_append, List.append_nil, b2_0, b2_1, b2_01, Classical.not_not]
theorem e145_2 (S : Sh m) (hp : isH p) (hq : isH q) : WP 145 0 [(2, 70), (0, p), (0, q), (0, i), (0, j), (0, nn), (3, 0)] [] (dsB ++ tl) m Q = if m 80 p = 0 ∨ m 80 q = 0 ∨ tw2 m p q then Q (dsB ++ tl) (rf m 71 2) [(0, -2)] else WP 145 76 [(2, 70), (0, p), (0, q), (0, i), (0, j), (0, nn), (3, 0)] [] (dsB ++ tl) m Q := by
  have y121 := fun (Q : Ds → Mm → List MV → Prop) => e121 (tl := tl) (Q := Q) S (show -7 ≤ (-2 : Int) ∧ (-2 : Int) ≤ -1 by decide)
  by_cases a1 : m 80 p = 0
  · rw [if_pos (Or.inl a1)]
    simp only [p145_0, p145_1, p145_4, p145_7, p145_8, p145_11, p145_14, p145_15, p145_16, p145_19, p145_20, p145_21, p145_24, p145_25, p145_26, p145_29, p145_30, p145_33, p145_34, p145_35, p145_38, p145_39, p145_40, p145_43, p145_46, p145_47, p145_48, p145_51, p145_54, p145_55, p145_58, p145_59, p145_60, p145_61, p145_64, p145_65, p145_66, p145_69, p145_70, p145_72, p145_75, e139, b2_t hp, b2_t hq, K_70, K_80, L_80, sh_70_11 S, hp.1, hp.2, hq.1, hq.2, a1, y121, b2_T, b2_F, Int.reduceEq, Int.reduceLT, Int.reduceLE, Int.reduceAdd, Int.reduceSub, Int.reduceMul, Int.reduceNeg, reduceIte, if_true, if_false, true_or, or_true, false_or, or_false, false_and, and_false, eq_self, not_false_eq_true, not_true_eq_false, true_and, and_true, List.cons_append, List.nil_append, List.append_nil, b2_0, b2_1, b2_01, Classical.not_not]
  · by_cases a2 : m 80 q = 0
    · rw [if_pos (Or.inr (Or.inl a2))]
      simp only [p145_0, p145_1, p145_4, p145_7, p145_8, p145_11, p145_14, p145_15, p145_16, p145_19, p145_20, p145_21, p145_24, p145_25, p145_26, p145_29, p145_30, p145_33, p145_34, p145_35, p145_38, p145_39, p145_40, p145_43, p145_46, p145_47, p145_48, p145_51, p145_54, p145_55, p145_58, p145_59, p145_60, p145_61, p145_64, p145_65, p145_66, p145_69, p145_70, p145_72, p145_75, e139, b2_t hp, b2_t hq, K_70, K_80, L_80, sh_70_11 S, hp.1, hp.2, hq.1, hq.2, a1, a2, y121, b2_T, b2_F, Int.reduceEq, Int.reduceLT, Int.reduceLE, Int.reduceAdd, Int.reduceSub, Int.reduceMul, Int.reduceNeg, reduceIte, if_true, if_false, true_or, or_true, false_or, or_false, false_and, and_false, eq_self, not_false_eq_true, not_true_eq_false, true_and, and_true, List.cons_append, List.nil_append, List.append_nil, b2_0, b2_1, b2_01, Classical.not_not]
    · by_cases a3 : 100 ≤ m 80 p
      · by_cases a4 : 100 ≤ m 80 q
        · by_cases a5 : m 80 p = m 80 q
          · rw [if_neg (fun y => y.elim a1 (fun z => z.elim a2 (fun z => z.2.2 a5)))]
            rw [a5] at a1 a3
            simp only [p145_0, p145_1, p145_4, p145_7, p145_8, p145_11, p145_14, p145_15, p145_16, p145_19, p145_20, p145_21, p145_24, p145_25, p145_26, p145_29, p145_30, p145_33, p145_34, p145_35, p145_38, p145_39, p145_40, p145_43, p145_46, p145_47, p145_48, p145_51, p145_54, p145_55, p145_58, p145_59, p145_60, p145_61, p145_64, p145_65, p145_66, p145_69, p145_70, p145_72, p145_75, e139, b2_t hp, b2_t hq, e140 S hp, e140 S hq, b2_t a4, K_70, K_80, L_80, sh_70_11 S, hp.1, hp.2, hq.1, hq.2, a5, a2, b2_T, b2_F, Int.reduceEq, Int.reduceLT, Int.reduceLE, Int.reduceAdd, Int.reduceSub, Int.reduceMul, Int.reduceNeg, reduceIte, if_true, if_false, true_or, or_true, false_or, or_false, false_and, and_false, eq_self, not_false_eq_true, not_true_eq_false, true_and, and_true, List.cons_append, List.nil_append, List.append_nil, b2_0, b2_1, b2_01, Classical.not_not]
          · rw [if_pos (Or.inr (Or.inr ⟨a3, a4, a5⟩))]
            simp only [p145_0, p145_1, p145_4, p145_7, p145_8, p145_11, p145_14, p145_15, p145_16, p145_19, p145_20, p145_21, p145_24, p145_25, p145_26, p145_29, p145_30, p145_33, p145_34, p145_35, p145_38, p145_39, p145_40, p145_43, p145_46, p145_47, p145_48, p145_51, p145_54, p145_55, p145_58, p145_59, p145_60, p145_61, p145_64, p145_65, p145_66, p145_69, p145_70, p145_72, p145_75, e139, b2_t hp, b2_t hq, e140 S hp, e140 S hq, b2_t a3, b2_t a4, K_70, K_80, L_80, sh_70_11 S, hp.1, hp.2, hq.1, hq.2, a1, a2, a5, y121, b2_T, b2_F, Int.reduceEq, Int.reduceLT, Int.reduceLE, Int.reduceAdd, Int.reduceSub, Int.reduceMul, Int.reduceNeg, reduceIte, if_true, if_false, true_or, or_true, false_or, or_false, false_and, and_false, eq_self, not_false_eq_true, not_true_eq_false, true_and, and_true, List.cons_append, List.nil_append, List.append_nil, b2_0, b2_1, b2_01, Classical.not_not]
        · rw [if_neg (fun y => y.elim a1 (fun z => z.elim a2 (fun z => a4 z.2.1)))]
          simp only [p145_0, p145_1, p145_4, p145_7, p145_8, p145_11, p145_14, p145_15, p145_16, p145_19, p145_20, p145_21, p145_24, p145_25, p145_26, p145_29, p145_30, p145_33, p145_34, p145_35, p145_38, p145_39, p145_40, p145_43, p145_46, p145_47, p145_48, p145_51, p145_54, p145_55, p145_58, p145_59, p145_60, p145_61, p145_64, p145_65, p145_66, p145_69, p145_70, p145_72, p145_75, e139, b2_t hp, b2_t hq, e140 S hp, e140 S hq, b2_t a3, b2_f a4, K_70, K_80, L_80, sh_70_11 S, hp.1, hp.2, hq.1, hq.2, a1, a2, b2_T, b2_F, Int.reduceEq, Int.reduceLT, Int.reduceLE, Int.reduceAdd, Int.reduceSub, Int.reduceMul, Int.reduceNeg, reduceIte, if_true, if_false, true_or, or_true, false_or, or_false, false_and, and_false, eq_self, not_false_eq_true, not_true_eq_false, true_and, and_true, List.cons_append, List.nil_append, List.append_nil, b2_0, b2_1, b2_01, Classical.not_not]
      · rw [if_neg (fun y => y.elim a1 (fun z => z.elim a2 (fun z => a3 z.1)))]
        simp only [p145_0, p145_1, p145_4, p145_7, p145_8, p145_11, p145_14, p145_15, p145_16, p145_19, p145_20, p145_21, p145_24, p145_25, p145_26, p145_29, p145_30, p145_33, p145_34, p145_35, p145_38, p145_39, p145_40, p145_43, p145_46, p145_47, p145_48, p145_51, p145_54, p145_55, p145_58, p145_59, p145_60, p145_61, p145_64, p145_65, p145_66, p145_69, p145_70, p145_72, p145_75, e139, b2_t hp, b2_t hq, e140 S hp, b2_f a3, K_70, K_80, L_80, sh_70_11 S, hp.1, hp.2, hq.1, hq.2, a1, a2, b2_T, b2_F, Int.reduceEq, Int.reduceLT, Int.reduceLE, Int.reduceAdd, Int.reduceSub, Int.reduceMul, Int.reduceNeg, reduceIte, if_true, if_false, true_or, or_true, false_or, or_false, false_and, and_false, eq_self, not_false_eq_true, not_true_eq_false, true_and, and_true, List.cons_append, List.nil_append, List.append_nil, b2_0, b2_1, b2_01, Classical.not_not]
theorem e145_4 (S : Sh m) (hp : isH p) (hq : isH q) (h : ¬ 100 ≤ m 80 p ∨ ¬ 100 ≤ m 80 q) : WP 145 76 [(2, 70), (0, p), (0, q), (0, i), (0, j), (0, nn), (3, 0)] [] (dsB ++ tl) m Q = Q (dsB ++ tl) (rf m 71 3) [(0, -3)] := by
  have y121 := fun (Q : Ds → Mm → List MV → Prop) => e121 (tl := tl) (Q := Q) S (show -7 ≤ (-3 : Int) ∧ (-3 : Int) ≤ -1 by decide)
  by_cases a1 : 100 ≤ m 80 p
  · have a2 : ¬ 100 ≤ m 80 q := h.resolve_left (fun y => y a1)
    simp only [p145_76, p145_77, p145_78, p145_81, p145_84, p145_85, p145_86, p145_89, p145_92, p145_93, p145_95, p145_98, e140 S hp, e140 S hq, b2_t a1, b2_f a2, K_70, y121, b2_T, b2_F, Int.reduceEq, Int.reduceLT, Int.reduceLE, Int.reduceAdd, Int.reduceSub, Int.reduceMul, Int.reduceNeg, reduceIte, if_true, if_false, true_or, or_true, false_or, or_false, false_and, and_false, eq_self, not_false_eq_true, not_true_eq_false, true_and, and_true, List.cons_append, List.nil_append, List.append_nil, b2_0, b2_1, b2_01, Classical.not_not]
  · simp only [p145_76, p145_77, p145_78, p145_81, p145_84, p145_85, p145_86, p145_89, p145_92, p145_93, p145_95, p145_98, e140 S hp, b2_f a1, K_70, y121, b2_T, b2_F, Int.reduceEq, Int.reduceLT, Int.reduceLE, Int.reduceAdd, Int.reduceSub, Int.reduceMul, Int.reduceNeg, reduceIte, if_true, if_false, true_or, or_true, false_or, or_false, false_and, and_false, eq_self, not_false_eq_true, not_true_eq_false, true_and, and_true, List.cons_append, List.nil_append, List.append_nil, b2_0, b2_1, b2_01, Classical.not_not]
theorem e145_5 (S : Sh m) (hp : isH p) (hq : isH q) (h1 : 100 ≤ m 80 p) (h2 : 100 ≤ m 80 q) (h : nn < 0) : WP 145 76 [(2, 70), (0, p), (0, q), (0, i), (0, j), (0, nn), (3, 0)] [] (dsB ++ tl) m Q = Q (dsB ++ tl) (rf m 71 4) [(0, -4)] := by
  have y121 := fun (Q : Ds → Mm → List MV → Prop) => e121 (tl := tl) (Q := Q) S (show -7 ≤ (-4 : Int) ∧ (-4 : Int) ≤ -1 by decide)
  simp only [p145_76, p145_77, p145_78, p145_81, p145_84, p145_85, p145_86, p145_89, p145_92, p145_93, p145_95, p145_98, p145_99, p145_101, p145_104, p145_105, p145_107, p145_110, e140 S hp, e140 S hq, b2_t h1, b2_t h2, h, K_70, y121, b2_T, b2_F, Int.reduceEq, Int.reduceLT, Int.reduceLE, Int.reduceAdd, Int.reduceSub, Int.reduceMul, Int.reduceNeg, reduceIte, if_true, if_false, true_or, or_true, false_or, or_false, false_and, and_false, eq_self, not_false_eq_true, not_true_eq_false, true_and, and_true, List.cons_append, List.nil_append, List.append_nil, b2_0, b2_1, b2_01, Classical.not_not]
theorem Sh_mv1 (S : Sh Y) : Sh (mv1 Y p i n) := fun q hq => by
  have h1 : ∀ q ∈ SL, ¬ q.1 = 83 := by decide
  have e : mv1 Y p i n q.1 q.2.1 = Y q.1 q.2.1 := if_neg (fun y => h1 q hq y.1)
  rw [e]
  exact S q hq
theorem Sh_mv2 (S : Sh Y) : Sh (mv2 Y p i n) := fun q hq => by
  have h1 : ∀ q ∈ SL, ¬ q.1 = 82 := by decide
  have e : mv2 Y p i n q.1 q.2.1 = Y q.1 q.2.1 := if_neg (fun y => h1 q hq y.1)
  rw [e]
  exact S q hq
theorem mv1_0 : mv1 Y p i 0 = Y := by
  apply fx
  intro a j
  exact if_neg (fun y => by omega)
theorem mv2_0 : mv2 Y p i 0 = Y := by
  apply fx
  intro a j
  exact if_neg (fun y => by omega)
theorem mv1_s (h0 : 0 ≤ n) : up (mv1 Y p i n) 83 n (Y 82 (100 * p + i + n)) = mv1 Y p i (n + 1) := by
  apply fx
  intro a j
  rw [up_at]
  unfold mv1
  by_cases h1 : a = 83 ∧ j = n
  · rw [if_pos h1, if_pos (by omega), h1.2]
  · rw [if_neg h1]
    by_cases h2 : a = 83 ∧ 0 ≤ j ∧ j < n
    · rw [if_pos h2, if_pos (by omega)]
    · rw [if_neg h2, if_neg (by omega)]
theorem mv2_s (h0 : 0 ≤ n) : up (mv2 Y q i n) 82 (100 * q + i + n) (Y 83 n) = mv2 Y q i (n + 1) := by
  apply fx
  intro a j
  rw [up_at]
  unfold mv2
  by_cases h1 : a = 82 ∧ j = 100 * q + i + n
  · rw [if_pos h1, if_pos (by omega), h1.2, show 100 * q + i + n - (100 * q + i) = n by omega]
  · rw [if_neg h1]
    by_cases h2 : a = 82 ∧ 100 * q + i ≤ j ∧ j < 100 * q + i + n
    · rw [if_pos h2, if_pos (by omega)]
    · rw [if_neg h2, if_neg (by omega)]
theorem e145a (S : Sh Y) (hp : isH p) (hi : 0 ≤ i ∧ i + nn ≤ 100) : ∀ (f : Nat) (n : Int), 0 ≤ n → n + f = nn → WP 145 178 [(2, 70), (0, p), (0, q), (0, i), (0, j), (0, nn), (0, n)] [] (dsB ++ tl) (mv1 Y p i n) Q = WP 145 215 [(2, 70), (0, p), (0, q), (0, i), (0, j), (0, nn), (0, 0)] [] (dsB ++ tl) (mv1 Y p i nn) Q := by
  intro f
  induction f with
  | zero =>
    intro n h0 h1
    have hn : n = nn := by omega
    subst hn
    rw [p145_178]
    simp only [p145_180, p145_182, p145_185, p145_186, p145_189, p145_191, p145_192, p145_195, p145_197, p145_198, p145_199, p145_200, p145_201, p145_203, p145_204, p145_205, p145_206, p145_209, p145_212, p145_213, b2_T, b2_F, Int.reduceEq, Int.reduceLT, Int.reduceLE, Int.reduceAdd, Int.reduceSub, Int.reduceMul, Int.reduceNeg, reduceIte, if_true, if_false, true_or, or_true, false_or, or_false, false_and, and_false, eq_self, not_false_eq_true, not_true_eq_false, true_and, and_true, List.cons_append, List.nil_append, List.append_nil, b2_0, b2_1, b2_01, Classical.not_not, Int.lt_irrefl]
  | succ f ih =>
    intro n h0 h1
    have n1 : n < nn := by omega
    have S' : Sh (mv1 Y p i n) := Sh_mv1 S
    have w0 : w32 (n + 1) = n + 1 := w32_id (by omega) (by omega)
    have w1 : w32 (100 * p) = 100 * p := w32_id (by omega) (by omega)
    have w2 : w32 (100 * p + i) = 100 * p + i := w32_id (by omega) (by omega)
    have w5 : w32 (100 * p + i + n) = 100 * p + i + n := w32_id (by omega) (by omega)
    have w3 : 0 ≤ 100 * p + i + n := by omega
    have w4 : 100 * p + i + n < 800 := by omega
    have w6 : n < 100 := by omega
    have e1 : mv1 Y p i n 82 (100 * p + i + n) = Y 82 (100 * p + i + n) := if_neg (fun y => absurd y.1 (by decide))
    have r := ih (n + 1) (by omega) (by omega)
    rw [← mv1_s h0] at r
    rw [p145_178]
    simp only [p145_180, p145_182, p145_185, p145_186, p145_189, p145_191, p145_192, p145_195, p145_197, p145_198, p145_199, p145_200, p145_201, p145_203, p145_204, p145_205, p145_206, p145_209, K_70, K_82, L_82, K_83, L_83, sh_70_13 S', sh_70_14 S', n1, h0, w0, w1, w2, w3, w4, w5, w6, e1, r, b2_T, b2_F, Int.reduceEq, Int.reduceLT, Int.reduceLE, Int.reduceAdd, Int.reduceSub, Int.reduceMul, Int.reduceNeg, reduceIte, if_true, if_false, true_or, or_true, false_or, or_false, false_and, and_false, eq_self, not_false_eq_true, not_true_eq_false, true_and, and_true, List.cons_append, List.nil_append, List.append_nil, b2_0, b2_1, b2_01, Classical.not_not]
theorem e145b (S : Sh Y) (hq : isH q) (hj : 0 ≤ j ∧ j + nn ≤ 100) (hn : nn ≤ 100) : ∀ (f : Nat) (n : Int), 0 ≤ n → n + f = nn → WP 145 215 [(2, 70), (0, p), (0, q), (0, i), (0, j), (0, nn), (0, n)] [] (dsB ++ tl) (mv2 Y q j n) Q = Q (dsB ++ tl) (mv2 Y q j nn) [(0, 1)] := by
  intro f
  induction f with
  | zero =>
    intro n h0 h1
    have hn : n = nn := by omega
    subst hn
    rw [p145_215]
    simp only [p145_217, p145_219, p145_222, p145_223, p145_226, p145_228, p145_229, p145_230, p145_232, p145_233, p145_235, p145_236, p145_237, p145_240, p145_242, p145_243, p145_244, p145_247, p145_250, p145_251, b2_T, b2_F, Int.reduceEq, Int.reduceLT, Int.reduceLE, Int.reduceAdd, Int.reduceSub, Int.reduceMul, Int.reduceNeg, reduceIte, if_true, if_false, true_or, or_true, false_or, or_false, false_and, and_false, eq_self, not_false_eq_true, not_true_eq_false, true_and, and_true, List.cons_append, List.nil_append, List.append_nil, b2_0, b2_1, b2_01, Classical.not_not, Int.lt_irrefl]
  | succ f ih =>
    intro n h0 h1
    have n1 : n < nn := by omega
    have S' : Sh (mv2 Y q j n) := Sh_mv2 S
    have w0 : w32 (n + 1) = n + 1 := w32_id (by omega) (by omega)
    have w1 : w32 (100 * q) = 100 * q := w32_id (by omega) (by omega)
    have w2 : w32 (100 * q + j) = 100 * q + j := w32_id (by omega) (by omega)
    have w5 : w32 (100 * q + j + n) = 100 * q + j + n := w32_id (by omega) (by omega)
    have w3 : 0 ≤ 100 * q + j + n := by omega
    have w4 : 100 * q + j + n < 800 := by omega
    have w6 : n < 100 := by omega
    have e1 : mv2 Y q j n 83 n = Y 83 n := if_neg (fun y => absurd y.1 (by decide))
    have r := ih (n + 1) (by omega) (by omega)
    rw [← mv2_s h0] at r
    rw [p145_215]
    simp only [p145_217, p145_219, p145_222, p145_223, p145_226, p145_228, p145_229, p145_230, p145_232, p145_233, p145_235, p145_236, p145_237, p145_240, p145_242, p145_243, p145_244, p145_247, K_70, K_82, L_82, K_83, L_83, sh_70_13 S', sh_70_14 S', n1, h0, w0, w1, w2, w3, w4, w5, w6, e1, r, b2_T, b2_F, Int.reduceEq, Int.reduceLT, Int.reduceLE, Int.reduceAdd, Int.reduceSub, Int.reduceMul, Int.reduceNeg, reduceIte, if_true, if_false, true_or, or_true, false_or, or_false, false_and, and_false, eq_self, not_false_eq_true, not_true_eq_false, true_and, and_true, List.cons_append, List.nil_append, List.append_nil, b2_0, b2_1, b2_01, Classical.not_not]
theorem e145_6 (S : Sh m) (hp : isH p) (hq : isH q) (h1 : 100 ≤ m 80 p) (h2 : 100 ≤ m 80 q) (hn : 0 ≤ nn) (zv : 0 ≤ m 81 p ∧ m 81 p ≤ 100) (zw : 0 ≤ m 81 q ∧ m 81 q ≤ 100) : WP 145 76 [(2, 70), (0, p), (0, q), (0, i), (0, j), (0, nn), (3, 0)] [] (dsB ++ tl) m Q = if prt m p q i j nn then Q (dsB ++ tl) (mv2 (mv1 m p i nn) q j nn) [(0, 1)] else Q (dsB ++ tl) (rf m 71 5) [(0, -5)] := by
  have y121 := fun (Q : Ds → Mm → List MV → Prop) => e121 (tl := tl) (Q := Q) S (show -7 ≤ (-5 : Int) ∧ (-5 : Int) ≤ -1 by decide)
  have hn' : ¬ nn < 0 := by omega
  by_cases a1 : i < 0
  · rw [if_neg (fun y => by have := y.1.1; omega)]
    simp only [p145_76, p145_77, p145_78, p145_81, p145_84, p145_85, p145_86, p145_89, p145_92, p145_93, p145_95, p145_98, p145_99, p145_101, p145_104, p145_105, p145_107, p145_110, p145_111, p145_112, p145_115, p145_117, p145_120, p145_121, p145_122, p145_125, p145_126, p145_127, p145_130, p145_132, p145_133, p145_136, p145_137, p145_138, p145_141, p145_143, p145_144, p145_147, p145_148, p145_149, p145_150, p145_151, p145_154, p145_156, p145_157, p145_160, p145_161, p145_162, p145_164, p145_165, p145_168, p145_169, p145_171, p145_174, e140 S hp, e140 S hq, b2_t h1, b2_t h2, hn', a1, K_70, y121, b2_T, b2_F, Int.reduceEq, Int.reduceLT, Int.reduceLE, Int.reduceAdd, Int.reduceSub, Int.reduceMul, Int.reduceNeg, reduceIte, if_true, if_false, true_or, or_true, false_or, or_false, false_and, and_false, eq_self, not_false_eq_true, not_true_eq_false, true_and, and_true, List.cons_append, List.nil_append, List.append_nil, b2_0, b2_1, b2_01, Classical.not_not]
  · by_cases a2 : j < 0
    · rw [if_neg (fun y => by have := y.2.1; omega)]
      simp only [p145_76, p145_77, p145_78, p145_81, p145_84, p145_85, p145_86, p145_89, p145_92, p145_93, p145_95, p145_98, p145_99, p145_101, p145_104, p145_105, p145_107, p145_110, p145_111, p145_112, p145_115, p145_117, p145_120, p145_121, p145_122, p145_125, p145_126, p145_127, p145_130, p145_132, p145_133, p145_136, p145_137, p145_138, p145_141, p145_143, p145_144, p145_147, p145_148, p145_149, p145_150, p145_151, p145_154, p145_156, p145_157, p145_160, p145_161, p145_162, p145_164, p145_165, p145_168, p145_169, p145_171, p145_174, e140 S hp, e140 S hq, b2_t h1, b2_t h2, hn', a1, a2, K_70, y121, b2_T, b2_F, Int.reduceEq, Int.reduceLT, Int.reduceLE, Int.reduceAdd, Int.reduceSub, Int.reduceMul, Int.reduceNeg, reduceIte, if_true, if_false, true_or, or_true, false_or, or_false, false_and, and_false, eq_self, not_false_eq_true, not_true_eq_false, true_and, and_true, List.cons_append, List.nil_append, List.append_nil, b2_0, b2_1, b2_01, Classical.not_not]
    · by_cases a3 : m 81 p < i
      · rw [if_neg (fun y => by have := y.1.2; omega)]
        simp only [p145_76, p145_77, p145_78, p145_81, p145_84, p145_85, p145_86, p145_89, p145_92, p145_93, p145_95, p145_98, p145_99, p145_101, p145_104, p145_105, p145_107, p145_110, p145_111, p145_112, p145_115, p145_117, p145_120, p145_121, p145_122, p145_125, p145_126, p145_127, p145_130, p145_132, p145_133, p145_136, p145_137, p145_138, p145_141, p145_143, p145_144, p145_147, p145_148, p145_149, p145_150, p145_151, p145_154, p145_156, p145_157, p145_160, p145_161, p145_162, p145_164, p145_165, p145_168, p145_169, p145_171, p145_174, e140 S hp, e140 S hq, b2_t h1, b2_t h2, hn', a1, a2, a3, K_70, K_81, L_81, sh_70_12 S, hp.1, hp.2, y121, b2_T, b2_F, Int.reduceEq, Int.reduceLT, Int.reduceLE, Int.reduceAdd, Int.reduceSub, Int.reduceMul, Int.reduceNeg, reduceIte, if_true, if_false, true_or, or_true, false_or, or_false, false_and, and_false, eq_self, not_false_eq_true, not_true_eq_false, true_and, and_true, List.cons_append, List.nil_append, List.append_nil, b2_0, b2_1, b2_01, Classical.not_not]
      · by_cases a4 : m 81 q < j
        · rw [if_neg (fun y => by have := y.2.2; omega)]
          simp only [p145_76, p145_77, p145_78, p145_81, p145_84, p145_85, p145_86, p145_89, p145_92, p145_93, p145_95, p145_98, p145_99, p145_101, p145_104, p145_105, p145_107, p145_110, p145_111, p145_112, p145_115, p145_117, p145_120, p145_121, p145_122, p145_125, p145_126, p145_127, p145_130, p145_132, p145_133, p145_136, p145_137, p145_138, p145_141, p145_143, p145_144, p145_147, p145_148, p145_149, p145_150, p145_151, p145_154, p145_156, p145_157, p145_160, p145_161, p145_162, p145_164, p145_165, p145_168, p145_169, p145_171, p145_174, e140 S hp, e140 S hq, b2_t h1, b2_t h2, hn', a1, a2, a3, a4, K_70, K_81, L_81, sh_70_12 S, hp.1, hp.2, hq.1, hq.2, y121, b2_T, b2_F, Int.reduceEq, Int.reduceLT, Int.reduceLE, Int.reduceAdd, Int.reduceSub, Int.reduceMul, Int.reduceNeg, reduceIte, if_true, if_false, true_or, or_true, false_or, or_false, false_and, and_false, eq_self, not_false_eq_true, not_true_eq_false, true_and, and_true, List.cons_append, List.nil_append, List.append_nil, b2_0, b2_1, b2_01, Classical.not_not]
        · have w1 : w32 (m 81 p - i) = m 81 p - i := w32_id (by omega) (by omega)
          have w2 : w32 (m 81 q - j) = m 81 q - j := w32_id (by omega) (by omega)
          by_cases a5 : m 81 p - i < nn
          · rw [if_neg (fun y => by have := y.1.2; omega)]
            simp only [p145_76, p145_77, p145_78, p145_81, p145_84, p145_85, p145_86, p145_89, p145_92, p145_93, p145_95, p145_98, p145_99, p145_101, p145_104, p145_105, p145_107, p145_110, p145_111, p145_112, p145_115, p145_117, p145_120, p145_121, p145_122, p145_125, p145_126, p145_127, p145_130, p145_132, p145_133, p145_136, p145_137, p145_138, p145_141, p145_143, p145_144, p145_147, p145_148, p145_149, p145_150, p145_151, p145_154, p145_156, p145_157, p145_160, p145_161, p145_162, p145_164, p145_165, p145_168, p145_169, p145_171, p145_174, e140 S hp, e140 S hq, b2_t h1, b2_t h2, hn', a1, a2, a3, a4, a5, w1, K_70, K_81, L_81, sh_70_12 S, hp.1, hp.2, hq.1, hq.2, y121, b2_T, b2_F, Int.reduceEq, Int.reduceLT, Int.reduceLE, Int.reduceAdd, Int.reduceSub, Int.reduceMul, Int.reduceNeg, reduceIte, if_true, if_false, true_or, or_true, false_or, or_false, false_and, and_false, eq_self, not_false_eq_true, not_true_eq_false, true_and, and_true, List.cons_append, List.nil_append, List.append_nil, b2_0, b2_1, b2_01, Classical.not_not]
          · by_cases a6 : m 81 q - j < nn
            · rw [if_neg (fun y => by have := y.2.2; omega)]
              simp only [p145_76, p145_77, p145_78, p145_81, p145_84, p145_85, p145_86, p145_89, p145_92, p145_93, p145_95, p145_98, p145_99, p145_101, p145_104, p145_105, p145_107, p145_110, p145_111, p145_112, p145_115, p145_117, p145_120, p145_121, p145_122, p145_125, p145_126, p145_127, p145_130, p145_132, p145_133, p145_136, p145_137, p145_138, p145_141, p145_143, p145_144, p145_147, p145_148, p145_149, p145_150, p145_151, p145_154, p145_156, p145_157, p145_160, p145_161, p145_162, p145_164, p145_165, p145_168, p145_169, p145_171, p145_174, e140 S hp, e140 S hq, b2_t h1, b2_t h2, hn', a1, a2, a3, a4, a5, a6, w1, w2, K_70, K_81, L_81, sh_70_12 S, hp.1, hp.2, hq.1, hq.2, y121, b2_T, b2_F, Int.reduceEq, Int.reduceLT, Int.reduceLE, Int.reduceAdd, Int.reduceSub, Int.reduceMul, Int.reduceNeg, reduceIte, if_true, if_false, true_or, or_true, false_or, or_false, false_and, and_false, eq_self, not_false_eq_true, not_true_eq_false, true_and, and_true, List.cons_append, List.nil_append, List.append_nil, b2_0, b2_1, b2_01, Classical.not_not]
            · rw [if_pos ⟨⟨by omega, by omega⟩, by omega, by omega⟩]
              have ra := e145a (tl := tl) (Q := Q) (q := q) (j := j) (nn := nn) (i := i) S hp (by omega) nn.toNat 0 (by omega) (by omega)
              have rb := e145b (tl := tl) (Q := Q) (p := p) (i := i) (nn := nn) (j := j) (Sh_mv1 (p := p) (i := i) (n := nn) S) hq (by omega) (by omega) nn.toNat 0 (by omega) (by omega)
              rw [mv1_0] at ra
              rw [mv2_0] at rb
              rw [← rb, ← ra]
              simp only [p145_76, p145_77, p145_78, p145_81, p145_84, p145_85, p145_86, p145_89, p145_92, p145_93, p145_95, p145_98, p145_99, p145_101, p145_104, p145_105, p145_107, p145_110, p145_111, p145_112, p145_115, p145_117, p145_120, p145_121, p145_122, p145_125, p145_126, p145_127, p145_130, p145_132, p145_133, p145_136, p145_137, p145_138, p145_141, p145_143, p145_144, p145_147, p145_148, p145_149, p145_150, p145_151, p145_154, p145_156, p145_157, p145_160, p145_161, p145_162, p145_164, p145_165, p145_168, p145_169, p145_171, p145_174, p145_175, p145_176, e140 S hp, e140 S hq, b2_t h1, b2_t h2, hn', a1, a2, a3, a4, a5, a6, w1, w2, K_70, K_81, L_81, sh_70_12 S, hp.1, hp.2, hq.1, hq.2, b2_T, b2_F, Int.reduceEq, Int.reduceLT, Int.reduceLE, Int.reduceAdd, Int.reduceSub, Int.reduceMul, Int.reduceNeg, reduceIte, if_true, if_false, true_or, or_true, false_or, or_false, false_and, and_false, eq_self, not_false_eq_true, not_true_eq_false, true_and, and_true, List.cons_append, List.nil_append, List.append_nil, b2_0, b2_1, b2_01, Classical.not_not]
theorem SK_f (H : SHV ds m m) (hs : isH s) : (¬ m 2 s < 0 ↔ m 80 s = 0) ∧ (¬ m 1 s < 0 ↔ 100 ≤ m 80 s) ∧ (¬ m 1 s < 0 → SRow ds m m s) := by
  rcases H.k s hs with h | h | h
  · unfold SNon at h
    refine ⟨by omega, by omega, fun y => absurd (show m 1 s < 0 by omega) y⟩
  · have n2 := h.n
    have l := h.l
    have k := h.k
    have o := h.o
    refine ⟨by omega, by omega, fun _ => h⟩
  · have n1 := h.n
    have l := h.l
    have k := h.k
    refine ⟨by omega, by omega, fun y => absurd (show m 1 s < 0 by omega) y⟩
theorem cpy_at {x y z u : Int} : cpy m x y z u n b k = if b = z ∧ u ≤ k ∧ k < u + n then m x (y + (k - u)) else m b k := rfl
theorem Sh_cpy {x y z u : Int} (S : Sh m) (h : 114 ≤ z) : Sh (cpy m x y z u n) := fun q hq => by
  have h1 := SL_lt q hq
  rw [cpy_at, if_neg (by omega)]
  exact S q hq
theorem call_copy (J : JS ds m m n) (hi : -2147483648 ≤ i ∧ i < 2147483648) (hj : -2147483648 ≤ j ∧ j < 2147483648) : CALL 76 145 [(2, 0), (0, p), (0, q), (0, i), (0, j), (0, nn), (3, 0), (3, 0), (3, 0)] [(2, 70), (0, p), (0, q), (0, i), (0, j), (0, nn), (3, 0)] ds m n := by
  obtain ⟨tl, rfl⟩ := J.Dt
  have S := J.S
  by_cases hh : isH p ∧ isH q
  · obtain ⟨hp, hq⟩ := hh
    have fp := SK_f J.Hv hp
    have fq := SK_f J.Hv hq
    have kp : ¬ m 1 p < 0 → dk (dsB ++ tl) (m 1 p) = 4 := fun y => (fp.2.2 y).r.1
    have kq : ¬ m 1 q < 0 → dk (dsB ++ tl) (m 1 q) = 4 := fun y => (fq.2.2 y).r.1
    have hA1 := fun (Q : Ds → Mm → List MV → Prop) => (e76_2 (Q := Q) (i := i) (j := j) (nn := nn) S hp hq kp kq).trans (e76_3 S hp hq)
    by_cases c2 : ¬ m 2 p < 0 ∨ ¬ m 2 q < 0 ∨ twS m p q
    · simp only [if_pos c2] at hA1
      have c3 : m 80 p = 0 ∨ m 80 q = 0 ∨ tw2 m p q := by
        rcases c2 with y | y | y
        · exact Or.inl (fp.1.1 y)
        · exact Or.inr (Or.inl (fq.1.1 y))
        · refine Or.inr (Or.inr ⟨fp.2.1.1 y.1, fq.2.1.1 y.2.1, fun z => y.2.2 ?_⟩)
          have k1 := (fp.2.2 y.1).k
          have k2 := (fq.2.2 y.2.1).k
          omega
      refine CALL_no (v := (0, -2)) (k := 2) J (by decide) hA1 (fun SA fA Q => ?_)
      have e80 : ∀ j, rf m 3 2 80 j = m 80 j := fun j => fA 80 j (by decide)
      rw [e145_2 SA hp hq, if_pos (by unfold tw2; rw [e80, e80]; exact c3)]
    · simp only [if_neg c2] at hA1
      have c3 : ¬ (m 80 p = 0 ∨ m 80 q = 0 ∨ tw2 m p q) := by
        intro c3
        refine c2 ?_
        rcases c3 with y | y | y
        · exact Or.inl (fp.1.2 y)
        · exact Or.inr (Or.inl (fq.1.2 y))
        · have y1 := fp.2.1.2 y.1
          have y2 := fq.2.1.2 y.2.1
          refine Or.inr (Or.inr ⟨y1, y2, fun z => y.2.2 ?_⟩)
          have k1 := (fp.2.2 y1).k
          have k2 := (fq.2.2 y2).k
          omega
      have nB : ∀ (k : Int) (Q : Ds → Mm → List MV → Prop), Sh (rf m 3 k) → (∀ x j, ¬ x = 3 → rf m 3 k x j = m x j) → WP 145 0 [(2, 70), (0, p), (0, q), (0, i), (0, j), (0, nn), (3, 0)] [] (dsB ++ tl) (rf m 3 k) Q = WP 145 76 [(2, 70), (0, p), (0, q), (0, i), (0, j), (0, nn), (3, 0)] [] (dsB ++ tl) (rf m 3 k) Q := fun k Q SA fA => by
        have e80 : ∀ j, rf m 3 k 80 j = m 80 j := fun j => fA 80 j (by decide)
        rw [e145_2 SA hp hq, if_neg (by unfold tw2; rw [e80, e80]; exact c3)]
      by_cases c4 : m 1 p < 0 ∨ m 1 q < 0
      · refine CALL_no (v := (0, -3)) (k := 3) J (by decide) (fun Q => (hA1 Q).trans (e76_4 S c4)) (fun SA fA Q => ?_)
        rw [nB 3 Q SA fA]
        refine e145_4 SA hp hq ?_
        rw [fA 80 p (by decide), fA 80 q (by decide)]
        rcases c4 with y | y
        · exact Or.inl (fun z => (fp.2.1.2 z) y)
        · exact Or.inr (fun z => (fq.2.1.2 z) y)
      · have u1 : ¬ m 1 p < 0 := fun y => c4 (Or.inl y)
        have u2 : ¬ m 1 q < 0 := fun y => c4 (Or.inr y)
        have k1 := fp.2.1.1 u1
        have k2 := fq.2.1.1 u2
        have Rp := fp.2.2 u1
        have Rq := fq.2.2 u2
        by_cases hn : nn < 0
        · refine CALL_no (v := (0, -4)) (k := 4) J (by decide) (fun Q => (hA1 Q).trans (e76_5 S u1 u2 hn)) (fun SA fA Q => ?_)
          rw [nB 4 Q SA fA]
          exact e145_5 SA hp hq (by rw [fA 80 p (by decide)]; exact k1) (by rw [fA 80 q (by decide)]; exact k2) hn
        · have hn' : 0 ≤ nn := by omega
          have hA := fun (Q : Ds → Mm → List MV → Prop) => (hA1 Q).trans (e76_6 S Rp.r Rq.r u1 u2 hn' Rp.z Rq.z hi.2 hj.2)
          rw [Rp.a, Rq.a] at hA
          by_cases hP : prt m p q i j nn
          · simp only [if_pos hP] at hA
            have lp := Rp.l
            have lq := Rq.l
            have zp := Rp.z
            have zq := Rq.z
            have SX : Sh (cpy m (m 1 p + 1) i (m 1 q + 1) j nn) := Sh_cpy S (by omega)
            have f : ∀ x k, ¬ x = m 1 q + 1 → cpy m (m 1 p + 1) i (m 1 q + 1) j nn x k = m x k := fun x k h => by rw [cpy_at, if_neg (fun y => h y.1)]
            have fe : ∀ k, cpy m (m 1 p + 1) i (m 1 q + 1) j nn (m 1 q + 1) k = if j ≤ k ∧ k < j + nn then m (m 1 p + 1) (i + (k - j)) else m (m 1 q + 1) k := fun k => by
              rw [cpy_at]
              by_cases h : j ≤ k ∧ k < j + nn
              · rw [if_pos ⟨rfl, h⟩, if_pos h]
              · rw [if_neg (fun y => h y.2), if_neg h]
            obtain ⟨X, hX⟩ : ∃ X, X = cpy m (m 1 p + 1) i (m 1 q + 1) j nn := ⟨_, rfl⟩
            rw [← hX] at SX f fe hA
            have e80 : ∀ j, X 80 j = m 80 j := fun j => f _ _ (by omega)
            have e81 : ∀ j, X 81 j = m 81 j := fun j => f _ _ (by omega)
            have hP2 : prt X p q i j nn := by
              unfold prt
              rw [e81, e81]
              exact hP
            have hB : ∀ Q, WP 145 0 [(2, 70), (0, p), (0, q), (0, i), (0, j), (0, nn), (3, 0)] [] (dsB ++ tl) X Q = Q (dsB ++ tl) (mv2 (mv1 X p i nn) q j nn) [(0, 1)] := fun Q => by
              rw [e145_2 SX hp hq, if_neg (by unfold tw2; rw [e80, e80]; exact c3), e145_6 SX hp hq (by rw [e80]; exact k1) (by rw [e80]; exact k2) hn' (by rw [e81]; exact zp) (by rw [e81]; exact zq), if_pos hP2]
            have SZ : Sh (mv2 (mv1 X p i nn) q j nn) := Sh_mv2 (Sh_mv1 SX)
            have g82 : ∀ k, mv2 (mv1 X p i nn) q j nn 82 (100 * q + k) = if j ≤ k ∧ k < j + nn then X 82 (100 * p + i + (k - j)) else X 82 (100 * q + k) := fun k => by
              unfold mv2
              by_cases h : j ≤ k ∧ k < j + nn
              · rw [if_pos (by omega), if_pos h]
                unfold mv1
                rw [if_pos (by omega), show 100 * q + k - (100 * q + j) = k - j by omega]
              · rw [if_neg (by omega), if_neg h]
                exact if_neg (fun y => absurd y.1 (by decide))
            have gZ : ∀ x k, ¬ x = 83 → ¬ (x = 82 ∧ 100 * q ≤ k ∧ k < 100 * q + 100) → mv2 (mv1 X p i nn) q j nn x k = X x k := fun x k h1 h2 => by
              unfold mv2
              rw [if_neg (by have := hP.2; omega)]
              exact if_neg (fun y => h1 y.1)
            obtain ⟨Z, hZ⟩ : ∃ Z, Z = mv2 (mv1 X p i nn) q j nn := ⟨_, rfl⟩
            rw [← hZ] at SZ g82 gZ hB
            refine CALL_of (v := (0, 1)) (X := X) (Z := Z) J hA (fun x k h => f x k (by omega)) SX (fun J1 => ?_) hB (fun x k h => gZ x k (by omega) (by omega))
            have H1 := J1.Hv
            have b0 := fun a h => H1.b q a hq h
            refine JS_s J1 SX SZ (fun x k h => f x k (by omega)) (fun x k h => gZ x k (by omega) (by omega)) ?_ J.Dt (by have := J.Ln; omega) (by have := J.Sl; omega)
            have fo : ∀ t a k, isH t → ¬ t = q → own m t a → X a k = m a k := fun t a k ht hn h => f a k (fun y => hn (H1.d t q a ht hq h (Or.inl ⟨by omega, by omega, by omega⟩)))
            have n1 : X 1 q = m 1 q := f _ _ (by omega)
            have n2 : X 2 q = m 2 q := f _ _ (by omega)
            have oX : ∀ a, own X q a ↔ own m q a := fun a => own_cg n1 n2
            refine SHV_s H1 hq ?_ (fun a h => ⟨b0 a ((oX a).1 h), fun t ht hn h2 => hn (H1.d t q a ht hq h2 ((oX a).1 h))⟩) (fun _ _ => ⟨rfl, rfl⟩) (Int.le_refl _) (fun t ht hn => ⟨f _ _ (by omega), f _ _ (by omega), fun a k h => fo t a k ht hn h, gZ _ _ (by omega) (by omega), gZ _ _ (by omega) (by omega), fun i' i0 i1 => gZ _ _ (by omega) (by omega), fun _ _ _ => gZ _ _ (by omega) (by omega), fun _ _ _ => gZ _ _ (by omega) (by omega)⟩)
            right; left
            have r := Rq.r
            have xr : ∀ k, X (m 1 q) k = m (m 1 q) k := fun k => f _ _ (by omega)
            refine ⟨by rw [n2]; exact Rq.n, by rw [n1]; exact lq, ?_, by rw [n1, xr]; exact Rq.a, ?_, by rw [n1, xr]; exact Rq.o, ?_, fun k i0 i1 => ?_⟩
            · rw [n1, gZ _ _ (by omega) (by omega), e81]
              unfold RA at r ⊢
              rw [xr]
              exact r
            · rw [n1, xr, gZ _ _ (by omega) (by omega), e80]; exact Rq.k
            · rw [gZ _ _ (by omega) (by omega), e81]; exact zq
            · rw [gZ _ _ (by omega) (by omega), e81] at i1
              rw [n1, fe, g82]
              by_cases h : j ≤ k ∧ k < j + nn
              · rw [if_pos h, if_pos h, f _ _ (by omega), show 100 * p + i + (k - j) = 100 * p + (i + (k - j)) by omega]
                exact Rp.e _ (by have := hP.1; omega) (by have := hP.1; omega)
              · rw [if_neg h, if_neg h, f _ _ (by omega)]
                exact Rq.e k i0 i1
          · simp only [if_neg hP] at hA
            refine CALL_no (v := (0, -5)) (k := 5) J (by decide) hA (fun SA fA Q => ?_)
            have e81 : ∀ j, rf m 3 5 81 j = m 81 j := fun j => fA 81 j (by decide)
            rw [nB 5 Q SA fA, e145_6 SA hp hq (by rw [fA 80 p (by decide)]; exact k1) (by rw [fA 80 q (by decide)]; exact k2) hn' (by rw [e81]; exact Rp.z) (by rw [e81]; exact Rq.z), if_neg (by unfold prt; rw [e81, e81]; exact hP)]
  · exact CALL_no (v := (0, -1)) (k := 1) J (by decide) (fun Q => e76_1 S hh) (fun SA fA Q => e145_1 SA hh)
end COPY
