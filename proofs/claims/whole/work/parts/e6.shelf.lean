/-! shelves: what both sides ask of a shelf; element, holds, set -/
def rlA (m : Mm) (s : Int) : Int := if isH s then (if 100 ≤ m 80 s then 0 else if m 80 s = 0 then -2 else -3) else -1
theorem SL_lt : ∀ q ∈ SL, q.1 < 114 := by decide
section SHELF
variable {tl : Ds} {ds ds' : Ds} {m X Y Z X' Y' g h A B : Mm} {Q : Ds → Mm → List MV → Prop} {p q c k a b s o v i j d n w t r e : Int} {M M' : Nat} {as as' : List MV}
theorem Sh_hi (S : Sh m) (h : 114 ≤ a) : Sh (up m a i v) := Sh_ar S (fun q hq y => by have := SL_lt q hq; omega)
theorem e96r (S : Sh m) (hs : isH s) (h : m 1 s = r) : WP 96 0 [(2, 0), (0, s)] [] (dsB ++ tl) m Q = Q (dsB ++ tl) m [(2, r)] := by
  simp only [p96_0, p96_1, p96_4, p96_7, p96_8, p96_11, p96_12, p96_13, p96_16, p96_17, e109, b2_t hs, K_0, K_3, L_3, sh_0_0 S, sh_0_1 S, sh_0_2 S, sh_0_3 S, sh_0_4 S, sh_0_5 S, sh_0_7 S, sh_0_8 S, sh_0_10 S, sh_0_12 S, sh_0_14 S, sh_0_15 S, K_1, L_1, hs.1, hs.2, h, b2_T, b2_F, Int.reduceEq, Int.reduceLT, Int.reduceLE, Int.reduceAdd, Int.reduceSub, Int.reduceMul, Int.reduceNeg, reduceIte, if_true, if_false, true_or, or_true, false_or, or_false, false_and, and_false, eq_self, not_false_eq_true, not_true_eq_false, true_and, and_true, List.cons_append, List.nil_append, List.append_nil, b2_0, b2_1, b2_01, Classical.not_not]
theorem e96n (S : Sh m) (h : ¬ isH s ∨ m 1 s = -1) : WP 96 0 [(2, 0), (0, s)] [] (dsB ++ tl) m Q = Q (dsB ++ tl) m [(2, -1)] := by
  by_cases hs : isH s
  · exact e96r S hs (h.resolve_left (fun y => y hs))
  · simp only [p96_0, p96_1, p96_4, p96_7, p96_8, p96_11, p96_12, p96_13, p96_16, p96_17, e109, b2_f hs, K_0, K_3, L_3, sh_0_0 S, sh_0_1 S, sh_0_2 S, sh_0_3 S, sh_0_4 S, sh_0_5 S, sh_0_7 S, sh_0_8 S, sh_0_10 S, sh_0_12 S, sh_0_14 S, sh_0_15 S, b2_T, b2_F, Int.reduceEq, Int.reduceLT, Int.reduceLE, Int.reduceAdd, Int.reduceSub, Int.reduceMul, Int.reduceNeg, reduceIte, if_true, if_false, true_or, or_true, false_or, or_false, false_and, and_false, eq_self, not_false_eq_true, not_true_eq_false, true_and, and_true, List.cons_append, List.nil_append, List.append_nil, b2_0, b2_1, b2_01, Classical.not_not]
def nrA (m : Mm) (s : Int) : Int := if isH s then (if m 2 s < 0 then -3 else -2) else -1
theorem e97 (S : Sh m) : WP 97 0 [(2, 0), (0, s)] [] (dsB ++ tl) m Q = Q (dsB ++ tl) m [(0, nrA m s)] := by
  unfold nrA
  by_cases hs : isH s
  · rw [if_pos hs]
    by_cases h : m 2 s < 0
    · simp only [p97_0, p97_1, p97_4, p97_7, p97_8, p97_9, p97_10, p97_13, p97_14, p97_15, p97_18, p97_20, p97_23, p97_25, e109, b2_t hs, K_0, K_3, L_3, sh_0_0 S, sh_0_1 S, sh_0_2 S, sh_0_3 S, sh_0_4 S, sh_0_5 S, sh_0_7 S, sh_0_8 S, sh_0_10 S, sh_0_12 S, sh_0_14 S, sh_0_15 S, K_2, L_2, hs.1, hs.2, hs, h, b2_T, b2_F, Int.reduceEq, Int.reduceLT, Int.reduceLE, Int.reduceAdd, Int.reduceSub, Int.reduceMul, Int.reduceNeg, reduceIte, if_true, if_false, true_or, or_true, false_or, or_false, false_and, and_false, eq_self, not_false_eq_true, not_true_eq_false, true_and, and_true, List.cons_append, List.nil_append, List.append_nil, b2_0, b2_1, b2_01, Classical.not_not]
    · simp only [p97_0, p97_1, p97_4, p97_7, p97_8, p97_9, p97_10, p97_13, p97_14, p97_15, p97_18, p97_20, p97_23, p97_25, e109, b2_t hs, K_0, K_3, L_3, sh_0_0 S, sh_0_1 S, sh_0_2 S, sh_0_3 S, sh_0_4 S, sh_0_5 S, sh_0_7 S, sh_0_8 S, sh_0_10 S, sh_0_12 S, sh_0_14 S, sh_0_15 S, K_2, L_2, hs.1, hs.2, hs, h, b2_T, b2_F, Int.reduceEq, Int.reduceLT, Int.reduceLE, Int.reduceAdd, Int.reduceSub, Int.reduceMul, Int.reduceNeg, reduceIte, if_true, if_false, true_or, or_true, false_or, or_false, false_and, and_false, eq_self, not_false_eq_true, not_true_eq_false, true_and, and_true, List.cons_append, List.nil_append, List.append_nil, b2_0, b2_1, b2_01, Classical.not_not]
  · rw [if_neg hs]
    simp only [p97_0, p97_1, p97_4, p97_7, p97_8, p97_9, p97_10, p97_13, p97_14, p97_15, p97_18, p97_20, p97_23, p97_25, e109, b2_f hs, K_0, K_3, L_3, sh_0_0 S, sh_0_1 S, sh_0_2 S, sh_0_3 S, sh_0_4 S, sh_0_5 S, sh_0_7 S, sh_0_8 S, sh_0_10 S, sh_0_12 S, sh_0_14 S, sh_0_15 S, b2_T, b2_F, Int.reduceEq, Int.reduceLT, Int.reduceLE, Int.reduceAdd, Int.reduceSub, Int.reduceMul, Int.reduceNeg, reduceIte, if_true, if_false, true_or, or_true, false_or, or_false, false_and, and_false, eq_self, not_false_eq_true, not_true_eq_false, true_and, and_true, List.cons_append, List.nil_append, List.append_nil, b2_0, b2_1, b2_01, Classical.not_not]
theorem e140 (S : Sh m) (hs : isH s) : WP 140 0 [(2, 70), (0, s)] [] (dsB ++ tl) m Q = Q (dsB ++ tl) m [(0, b2 (100 ≤ m 80 s))] := by
  by_cases h : 100 ≤ m 80 s
  · have h' : ¬ m 80 s < 100 := by omega
    simp only [p140_0, p140_1, p140_4, p140_5, p140_6, p140_8, p140_11, p140_12, p140_15, p140_16, b2_t h, K_70, K_80, L_80, sh_70_11 S, hs.1, hs.2, h, h', b2_T, b2_F, Int.reduceEq, Int.reduceLT, Int.reduceLE, Int.reduceAdd, Int.reduceSub, Int.reduceMul, Int.reduceNeg, reduceIte, if_true, if_false, true_or, or_true, false_or, or_false, false_and, and_false, eq_self, not_false_eq_true, not_true_eq_false, true_and, and_true, List.cons_append, List.nil_append, List.append_nil, b2_0, b2_1, b2_01, Classical.not_not]
  · have h' : m 80 s < 100 := by omega
    simp only [p140_0, p140_1, p140_4, p140_5, p140_6, p140_8, p140_11, p140_12, p140_15, p140_16, b2_f h, K_70, K_80, L_80, sh_70_11 S, hs.1, hs.2, h, h', b2_T, b2_F, Int.reduceEq, Int.reduceLT, Int.reduceLE, Int.reduceAdd, Int.reduceSub, Int.reduceMul, Int.reduceNeg, reduceIte, if_true, if_false, true_or, or_true, false_or, or_false, false_and, and_false, eq_self, not_false_eq_true, not_true_eq_false, true_and, and_true, List.cons_append, List.nil_append, List.append_nil, b2_0, b2_1, b2_01, Classical.not_not]
theorem e141 (S : Sh m) : WP 141 0 [(2, 70), (0, s)] [] (dsB ++ tl) m Q = Q (dsB ++ tl) m [(0, rlA m s)] := by
  unfold rlA
  by_cases hs : isH s
  · rw [if_pos hs]
    by_cases h : 100 ≤ m 80 s
    · simp only [p141_0, p141_1, p141_4, p141_7, p141_8, p141_11, p141_12, p141_13, p141_16, p141_19, p141_20, p141_23, p141_24, p141_27, p141_28, p141_29, p141_32, p141_34, p141_37, p141_39, e139, b2_t hs, e140 S hs, b2_t h, K_70, h, b2_T, b2_F, Int.reduceEq, Int.reduceLT, Int.reduceLE, Int.reduceAdd, Int.reduceSub, Int.reduceMul, Int.reduceNeg, reduceIte, if_true, if_false, true_or, or_true, false_or, or_false, false_and, and_false, eq_self, not_false_eq_true, not_true_eq_false, true_and, and_true, List.cons_append, List.nil_append, List.append_nil, b2_0, b2_1, b2_01, Classical.not_not]
    · by_cases h0 : m 80 s = 0
      · simp only [p141_0, p141_1, p141_4, p141_7, p141_8, p141_11, p141_12, p141_13, p141_16, p141_19, p141_20, p141_23, p141_24, p141_27, p141_28, p141_29, p141_32, p141_34, p141_37, p141_39, e139, b2_t hs, e140 S hs, b2_f h, K_70, K_80, L_80, sh_70_11 S, hs.1, hs.2, h, h0, b2_T, b2_F, Int.reduceEq, Int.reduceLT, Int.reduceLE, Int.reduceAdd, Int.reduceSub, Int.reduceMul, Int.reduceNeg, reduceIte, if_true, if_false, true_or, or_true, false_or, or_false, false_and, and_false, eq_self, not_false_eq_true, not_true_eq_false, true_and, and_true, List.cons_append, List.nil_append, List.append_nil, b2_0, b2_1, b2_01, Classical.not_not]
      · simp only [p141_0, p141_1, p141_4, p141_7, p141_8, p141_11, p141_12, p141_13, p141_16, p141_19, p141_20, p141_23, p141_24, p141_27, p141_28, p141_29, p141_32, p141_34, p141_37, p141_39, e139, b2_t hs, e140 S hs, b2_f h, K_70, K_80, L_80, sh_70_11 S, hs.1, hs.2, h, h0, b2_T, b2_F, Int.reduceEq, Int.reduceLT, Int.reduceLE, Int.reduceAdd, Int.reduceSub, Int.reduceMul, Int.reduceNeg, reduceIte, if_true, if_false, true_or, or_true, false_or, or_false, false_and, and_false, eq_self, not_false_eq_true, not_true_eq_false, true_and, and_true, List.cons_append, List.nil_append, List.append_nil, b2_0, b2_1, b2_01, Classical.not_not]
  · rw [if_neg hs]
    simp only [p141_0, p141_1, p141_4, p141_7, p141_8, p141_11, p141_12, p141_13, p141_16, p141_19, p141_20, p141_23, p141_24, p141_27, p141_28, p141_29, p141_32, p141_34, p141_37, p141_39, e139, b2_f hs, K_70, b2_T, b2_F, Int.reduceEq, Int.reduceLT, Int.reduceLE, Int.reduceAdd, Int.reduceSub, Int.reduceMul, Int.reduceNeg, reduceIte, if_true, if_false, true_or, or_true, false_or, or_false, false_and, and_false, eq_self, not_false_eq_true, not_true_eq_false, true_and, and_true, List.cons_append, List.nil_append, List.append_nil, b2_0, b2_1, b2_01, Classical.not_not]
/-- a shelf holds a row, or both sides tell why not -/
theorem SK_row (H : SHV ds m m) (s : Int) : (isH s ∧ SRow ds m m s) ∨ ((¬ isH s ∨ m 1 s = -1) ∧ ∃ w, (w = -1 ∨ w = -2 ∨ w = -3) ∧ nrA m s = w ∧ rlA m s = w) := by
  unfold nrA rlA
  by_cases hs : isH s
  · rcases H.k s hs with h | h | h
    · right
      unfold SNon at h
      refine ⟨Or.inr h.1, -3, by decide, ?_, ?_⟩
      · rw [if_pos hs, if_pos (by omega)]
      · rw [if_pos hs, if_neg (by omega), if_neg (by omega)]
    · exact Or.inl ⟨hs, h⟩
    · right
      have l := h.l
      have k := h.k
      refine ⟨Or.inr h.n, -2, by decide, ?_, ?_⟩
      · rw [if_pos hs, if_neg (by omega)]
      · rw [if_pos hs, if_neg (by omega), if_pos k]
  · right
    refine ⟨Or.inl hs, -1, by decide, ?_, ?_⟩
    · rw [if_neg hs]
    · rw [if_neg hs]
theorem rlA_row (hs : isH s) (R : SRow ds X m s) : rlA m s = 0 := by
  have k := R.k
  have o := R.o
  unfold rlA
  rw [if_pos hs, if_pos (by omega)]
theorem CALL_nr (J : JS ds m m n) (hw : w = -1 ∨ w = -2 ∨ w = -3) (hn : nrA m s = w) (hr : rlA m s = w) (hA : nrA m s = w → (∀ Q, WP M 0 as [] ds m Q = Q ds (rf m 3 (-w)) [(0, w)])) (hB : ∀ g : Mm, Sh g → rlA g s = w → ∀ Q, WP M' 0 as' [] ds g Q = Q ds (rf g 71 (-w)) [(0, w)]) (ht : 0 = tgM M := by rfl) : CALL M M' as as' ds m n := by
  have hk : 0 ≤ -w ∧ -w < 8 := by omega
  refine CALL_no (v := (0, w)) (k := -w) J hk (hA hn) (fun SA fA => hB _ SA ?_) ht
  have e1 : rlA (rf m 3 (-w)) s = rlA m s := by
    unfold rlA
    rw [fA 80 s (by decide)]
  rw [e1]
  exact hr
theorem call_holds (J : JS ds m m n) : CALL 78 147 [(2, 0), (0, s), (3, 0)] [(2, 70), (0, s)] ds m n := by
  obtain ⟨tl, rfl⟩ := J.Dt
  have S := J.S
  by_cases hs : isH s
  · have hB : ∀ Q, WP 147 0 [(2, 70), (0, s)] [] (dsB ++ tl) m Q = Q (dsB ++ tl) m [(0, m 80 s)] := fun Q => by
      simp only [p147_0, p147_1, p147_4, p147_7, p147_8, p147_11, p147_12, p147_13, p147_16, p147_17, e139, b2_t hs, K_70, K_80, L_80, sh_70_11 S, hs.1, hs.2, b2_T, b2_F, Int.reduceEq, Int.reduceLT, Int.reduceLE, Int.reduceAdd, Int.reduceSub, Int.reduceMul, Int.reduceNeg, reduceIte, if_true, if_false, true_or, or_true, false_or, or_false, false_and, and_false, eq_self, not_false_eq_true, not_true_eq_false, true_and, and_true, List.cons_append, List.nil_append, List.append_nil, b2_0, b2_1, b2_01, Classical.not_not]
    rcases J.Hv.k s hs with h | h | h
    · unfold SNon at h
      refine CALL_rd J (v := (0, m 80 s)) (fun Q => ?_) hB
      rw [h.2.2]
      simp only [p78_0, p78_1, p78_4, p78_7, p78_8, p78_9, p78_10, p78_13, p78_14, p78_15, p78_18, p78_19, p78_20, p78_21, p78_24, p78_25, p78_26, p78_27, p78_28, p78_31, p78_32, p78_35, p78_37, p78_38, p78_41, p78_42, e109, b2_t hs, K_0, K_3, L_3, sh_0_0 S, sh_0_1 S, sh_0_2 S, sh_0_3 S, sh_0_4 S, sh_0_5 S, sh_0_7 S, sh_0_8 S, sh_0_10 S, sh_0_12 S, sh_0_14 S, sh_0_15 S, K_1, L_1, K_2, L_2, hs.1, hs.2, h.1, h.2.1, b2_T, b2_F, Int.reduceEq, Int.reduceLT, Int.reduceLE, Int.reduceAdd, Int.reduceSub, Int.reduceMul, Int.reduceNeg, reduceIte, if_true, if_false, true_or, or_true, false_or, or_false, false_and, and_false, eq_self, not_false_eq_true, not_true_eq_false, true_and, and_true, List.cons_append, List.nil_append, List.append_nil, b2_0, b2_1, b2_01, Classical.not_not]
    · refine CALL_rd J (v := (0, m 80 s)) (fun Q => ?_) hB
      have k := h.k
      have l := h.l
      have o := h.o
      have n2 := h.n
      have r := h.r.1
      have l' : ¬ m 1 s < 0 := by omega
      have w1 : w32 (100 + m (m 1 s) 0) = 100 + m (m 1 s) 0 := w32_id (by omega) (by omega)
      rw [k]
      simp only [p78_0, p78_1, p78_4, p78_7, p78_8, p78_9, p78_10, p78_13, p78_14, p78_15, p78_18, p78_19, p78_20, p78_21, p78_24, p78_25, p78_26, p78_27, p78_28, p78_31, p78_32, p78_35, p78_37, p78_38, p78_41, p78_42, e109, b2_t hs, K_0, K_3, L_3, sh_0_0 S, sh_0_1 S, sh_0_2 S, sh_0_3 S, sh_0_4 S, sh_0_5 S, sh_0_7 S, sh_0_8 S, sh_0_10 S, sh_0_12 S, sh_0_14 S, sh_0_15 S, K_1, L_1, K_2, L_2, hs.1, hs.2, n2, r, l', w1, b2_T, b2_F, Int.reduceEq, Int.reduceLT, Int.reduceLE, Int.reduceAdd, Int.reduceSub, Int.reduceMul, Int.reduceNeg, reduceIte, if_true, if_false, true_or, or_true, false_or, or_false, false_and, and_false, eq_self, not_false_eq_true, not_true_eq_false, true_and, and_true, List.cons_append, List.nil_append, List.append_nil, b2_0, b2_1, b2_01, Classical.not_not]
    · refine CALL_rd J (v := (0, m 80 s)) (fun Q => ?_) hB
      have k := h.k
      have l := h.l
      have l' : ¬ m 2 s < 0 := by omega
      rw [k]
      simp only [p78_0, p78_1, p78_4, p78_7, p78_8, p78_9, p78_10, p78_13, p78_14, p78_15, p78_18, p78_19, p78_20, p78_21, p78_24, p78_25, p78_26, p78_27, p78_28, p78_31, p78_32, p78_35, p78_37, p78_38, p78_41, p78_42, e109, b2_t hs, K_0, K_3, L_3, sh_0_0 S, sh_0_1 S, sh_0_2 S, sh_0_3 S, sh_0_4 S, sh_0_5 S, sh_0_7 S, sh_0_8 S, sh_0_10 S, sh_0_12 S, sh_0_14 S, sh_0_15 S, K_1, L_1, K_2, L_2, hs.1, hs.2, l', b2_T, b2_F, Int.reduceEq, Int.reduceLT, Int.reduceLE, Int.reduceAdd, Int.reduceSub, Int.reduceMul, Int.reduceNeg, reduceIte, if_true, if_false, true_or, or_true, false_or, or_false, false_and, and_false, eq_self, not_false_eq_true, not_true_eq_false, true_and, and_true, List.cons_append, List.nil_append, List.append_nil, b2_0, b2_1, b2_01, Classical.not_not]
  · refine CALL_rd J (v := (0, -1)) (fun Q => ?_) (fun Q => ?_)
    · simp only [p78_0, p78_1, p78_4, p78_7, p78_8, p78_9, p78_10, p78_13, p78_14, p78_15, p78_18, p78_19, p78_20, p78_21, p78_24, p78_25, p78_26, p78_27, p78_28, p78_31, p78_32, p78_35, p78_37, p78_38, p78_41, p78_42, e109, b2_f hs, K_0, K_3, L_3, sh_0_0 S, sh_0_1 S, sh_0_2 S, sh_0_3 S, sh_0_4 S, sh_0_5 S, sh_0_7 S, sh_0_8 S, sh_0_10 S, sh_0_12 S, sh_0_14 S, sh_0_15 S, b2_T, b2_F, Int.reduceEq, Int.reduceLT, Int.reduceLE, Int.reduceAdd, Int.reduceSub, Int.reduceMul, Int.reduceNeg, reduceIte, if_true, if_false, true_or, or_true, false_or, or_false, false_and, and_false, eq_self, not_false_eq_true, not_true_eq_false, true_and, and_true, List.cons_append, List.nil_append, List.append_nil, b2_0, b2_1, b2_01, Classical.not_not]
    · simp only [p147_0, p147_1, p147_4, p147_7, p147_8, p147_11, p147_12, p147_13, p147_16, p147_17, e139, b2_f hs, K_70, b2_T, b2_F, Int.reduceEq, Int.reduceLT, Int.reduceLE, Int.reduceAdd, Int.reduceSub, Int.reduceMul, Int.reduceNeg, reduceIte, if_true, if_false, true_or, or_true, false_or, or_false, false_and, and_false, eq_self, not_false_eq_true, not_true_eq_false, true_and, and_true, List.cons_append, List.nil_append, List.append_nil, b2_0, b2_1, b2_01, Classical.not_not]
theorem call_element (J : JS ds m m n) (hi : -2147483648 ≤ i ∧ i < 2147483648) : CALL 77 146 [(2, 0), (0, s), (0, i), (3, 0)] [(2, 70), (0, s), (0, i)] ds m n := by
  obtain ⟨tl, rfl⟩ := J.Dt
  have S := J.S
  rcases SK_row J.Hv s with ⟨hs, R⟩ | ⟨h0, w, hw, hn, hr⟩
  · have z := R.z
    have l := R.l
    have k := R.k
    have o := R.o
    have l' : ¬ m 1 s < 0 := by omega
    have k' : 100 ≤ m 80 s := by omega
    have r := R.r
    have e45' := fun (Q : Ds → Mm → List MV → Prop) => e47 (Q := Q) (i := i) r z hi.2
    rw [R.a] at e45'
    have w9 : w32 (m 81 s - 1) = m 81 s - 1 := w32_id (by omega) (by omega)
    by_cases g : 0 ≤ i ∧ i < m 81 s
    · have e1 := R.e i g.1 g.2
      have g2 : 0 ≤ i ∧ i ≤ m 81 s - 1 := by omega
      have w1 : w32 (100 * s) = 100 * s := w32_id (by omega) (by omega)
      have w2 : w32 (100 * s + i) = 100 * s + i := w32_id (by omega) (by omega)
      have w3 : 0 ≤ 100 * s + i := by omega
      have w4 : 100 * s + i < 800 := by omega
      simp only [if_pos g, e1] at e45'
      refine CALL_rd J (v := (1, m 82 (100 * s + i))) (fun Q => ?_) (fun Q => ?_)
      · simp only [p77_0, p77_1, p77_2, p77_5, p77_6, p77_7, p77_10, p77_11, p77_14, p77_15, p77_16, p77_19, e96r S hs rfl, e45', K_0, K_3, L_3, sh_0_0 S, sh_0_1 S, sh_0_2 S, sh_0_3 S, sh_0_4 S, sh_0_5 S, sh_0_7 S, sh_0_8 S, sh_0_10 S, sh_0_12 S, sh_0_14 S, sh_0_15 S, r.1, l', b2_T, b2_F, Int.reduceEq, Int.reduceLT, Int.reduceLE, Int.reduceAdd, Int.reduceSub, Int.reduceMul, Int.reduceNeg, reduceIte, if_true, if_false, true_or, or_true, false_or, or_false, false_and, and_false, eq_self, not_false_eq_true, not_true_eq_false, true_and, and_true, List.cons_append, List.nil_append, List.append_nil, b2_0, b2_1, b2_01, Classical.not_not]
      · simp only [p146_0, p146_1, p146_4, p146_7, p146_8, p146_9, p146_12, p146_15, p146_16, p146_17, p146_18, p146_21, p146_22, p146_23, p146_24, p146_25, p146_28, p146_31, p146_32, p146_35, p146_37, p146_38, p146_39, p146_40, p146_41, p146_42, p146_45, p146_46, e139, e120, e140 S hs, b2_t hs, b2_t k', b2_t g2, K_70, K_81, L_81, K_82, L_82, sh_70_12 S, sh_70_13 S, hs.1, hs.2, w1, w2, w3, w4, w9, b2_T, b2_F, Int.reduceEq, Int.reduceLT, Int.reduceLE, Int.reduceAdd, Int.reduceSub, Int.reduceMul, Int.reduceNeg, reduceIte, if_true, if_false, true_or, or_true, false_or, or_false, false_and, and_false, eq_self, not_false_eq_true, not_true_eq_false, true_and, and_true, List.cons_append, List.nil_append, List.append_nil, b2_0, b2_1, b2_01, Classical.not_not]
    · have g2 : ¬ (0 ≤ i ∧ i ≤ m 81 s - 1) := by omega
      simp only [if_neg g] at e45'
      refine CALL_rd J (v := (1, 0)) (fun Q => ?_) (fun Q => ?_)
      · simp only [p77_0, p77_1, p77_2, p77_5, p77_6, p77_7, p77_10, p77_11, p77_14, p77_15, p77_16, p77_19, e96r S hs rfl, e45', K_0, K_3, L_3, sh_0_0 S, sh_0_1 S, sh_0_2 S, sh_0_3 S, sh_0_4 S, sh_0_5 S, sh_0_7 S, sh_0_8 S, sh_0_10 S, sh_0_12 S, sh_0_14 S, sh_0_15 S, r.1, l', b2_T, b2_F, Int.reduceEq, Int.reduceLT, Int.reduceLE, Int.reduceAdd, Int.reduceSub, Int.reduceMul, Int.reduceNeg, reduceIte, if_true, if_false, true_or, or_true, false_or, or_false, false_and, and_false, eq_self, not_false_eq_true, not_true_eq_false, true_and, and_true, List.cons_append, List.nil_append, List.append_nil, b2_0, b2_1, b2_01, Classical.not_not]
      · simp only [p146_0, p146_1, p146_4, p146_7, p146_8, p146_9, p146_12, p146_15, p146_16, p146_17, p146_18, p146_21, p146_22, p146_23, p146_24, p146_25, p146_28, p146_31, p146_32, p146_35, p146_37, p146_38, p146_39, p146_40, p146_41, p146_42, p146_45, p146_46, e139, e120, e140 S hs, b2_t hs, b2_t k', b2_f g2, K_70, K_81, L_81, sh_70_12 S, hs.1, hs.2, w9, b2_T, b2_F, Int.reduceEq, Int.reduceLT, Int.reduceLE, Int.reduceAdd, Int.reduceSub, Int.reduceMul, Int.reduceNeg, reduceIte, if_true, if_false, true_or, or_true, false_or, or_false, false_and, and_false, eq_self, not_false_eq_true, not_true_eq_false, true_and, and_true, List.cons_append, List.nil_append, List.append_nil, b2_0, b2_1, b2_01, Classical.not_not]
  · refine CALL_rd J (v := (1, 0)) (fun Q => ?_) (fun Q => ?_)
    · simp only [p77_0, p77_1, p77_2, p77_5, p77_6, p77_7, p77_10, p77_11, p77_14, p77_15, p77_16, p77_19, e96n S h0, K_0, K_3, L_3, sh_0_0 S, sh_0_1 S, sh_0_2 S, sh_0_3 S, sh_0_4 S, sh_0_5 S, sh_0_7 S, sh_0_8 S, sh_0_10 S, sh_0_12 S, sh_0_14 S, sh_0_15 S, b2_T, b2_F, Int.reduceEq, Int.reduceLT, Int.reduceLE, Int.reduceAdd, Int.reduceSub, Int.reduceMul, Int.reduceNeg, reduceIte, if_true, if_false, true_or, or_true, false_or, or_false, false_and, and_false, eq_self, not_false_eq_true, not_true_eq_false, true_and, and_true, List.cons_append, List.nil_append, List.append_nil, b2_0, b2_1, b2_01, Classical.not_not]
    · by_cases hs : isH s
      · have k' : ¬ 100 ≤ m 80 s := fun y => by
          unfold rlA at hr
          rw [if_pos hs, if_pos y] at hr
          omega
        simp only [p146_0, p146_1, p146_4, p146_7, p146_8, p146_9, p146_12, p146_15, p146_16, p146_17, p146_18, p146_21, p146_22, p146_23, p146_24, p146_25, p146_28, p146_31, p146_32, p146_35, p146_37, p146_38, p146_39, p146_40, p146_41, p146_42, p146_45, p146_46, e139, e140 S hs, b2_t hs, b2_f k', K_70, b2_T, b2_F, Int.reduceEq, Int.reduceLT, Int.reduceLE, Int.reduceAdd, Int.reduceSub, Int.reduceMul, Int.reduceNeg, reduceIte, if_true, if_false, true_or, or_true, false_or, or_false, false_and, and_false, eq_self, not_false_eq_true, not_true_eq_false, true_and, and_true, List.cons_append, List.nil_append, List.append_nil, b2_0, b2_1, b2_01, Classical.not_not]
      · simp only [p146_0, p146_1, p146_4, p146_7, p146_8, p146_9, p146_12, p146_15, p146_16, p146_17, p146_18, p146_21, p146_22, p146_23, p146_24, p146_25, p146_28, p146_31, p146_32, p146_35, p146_37, p146_38, p146_39, p146_40, p146_41, p146_42, p146_45, p146_46, e139, b2_f hs, K_70, b2_T, b2_F, Int.reduceEq, Int.reduceLT, Int.reduceLE, Int.reduceAdd, Int.reduceSub, Int.reduceMul, Int.reduceNeg, reduceIte, if_true, if_false, true_or, or_true, false_or, or_false, false_and, and_false, eq_self, not_false_eq_true, not_true_eq_false, true_and, and_true, List.cons_append, List.nil_append, List.append_nil, b2_0, b2_1, b2_01, Classical.not_not]
/-- a call that changes one shelf -/
theorem JS_s (J : JS ds A B n) (S' : Sh X') (SY : Sh Y') (f : ∀ x j, ¬ (x = 1 ∨ x = 2 ∨ 114 ≤ x) → X' x j = A x j) (g : ∀ x j, ¬ (80 ≤ x ∧ x ≤ 85) → Y' x j = B x j) (H : SHV ds' X' Y') (D : ∃ tl, ds' = dsB ++ tl) (Ln : (ds'.length : Int) ≤ 114 + 9 * (n + 1)) (Sl : (sl ds' : Int) ≤ (sl dsB : Int) + 501 * (n + 1)) : JS ds' X' Y' (n + 1) := by
  have W := J.W
  refine ⟨⟨SY, PV_cg W.p (fun j => g _ _ (by decide)) (fun j => g _ _ (by decide)) (fun j => g _ _ (by decide)) (fun j => g _ _ (by decide)) (fun j => g _ _ (by decide)), SV_cg W.v (fun x j h1 h2 => g _ _ (by omega)) (g _ _ (by decide)), PN_cg W.n (fun x j h1 h2 => g _ _ (by omega))⟩, S', ?_, ?_, ?_, ?_, ?_, ?_, ?_, ?_, H, D, Ln, Sl⟩
  · exact PR_pe (PR_m J.P (fun x j h1 h2 => f x j (by omega))) (PE_cg (fun x j h1 h2 => g x j (by omega)) (g _ _ (by decide)))
  · exact ZP_cg J.Z (fun x j h1 h2 => f x j (by omega))
  · rw [f _ _ (by decide), g _ _ (by decide)]
    have := J.Rn
    omega
  · intro i i0 i1
    rw [f _ _ (by decide), g _ _ (by decide)]
    exact J.Rf i i0 i1
  · exact LT0_cg J.Lt (fun x j h1 h2 => f x j (by omega)) (f _ _ (by decide)) (fun j _ => g _ _ (by decide)) (fun j _ => g _ _ (by decide)) (fun x j h1 h2 _ => g _ _ (by omega)) (fun j => ⟨g _ _ (by decide), g _ _ (by decide)⟩)
  · exact LSX_cg J.Wk (fun i => f _ _ (by decide)) (fun i => g _ _ (by decide)) (f _ _ (by decide)) (g _ _ (by decide))
  · exact LSX_cg J.Ft (fun i => f _ _ (by decide)) (fun i => g _ _ (by decide)) (f _ _ (by decide)) (g _ _ (by decide))
  · exact LSX_cg J.Fw (fun i => f _ _ (by decide)) (fun i => g _ _ (by decide)) (f _ _ (by decide)) (g _ _ (by decide))
theorem SHV_s (H : SHV ds A B) (hs : isH s) (hk : SK ds' X' Y' s) (ho : ∀ a, own X' s a → (114 ≤ a ∧ a < (ds'.length : Int)) ∧ ∀ t, isH t → ¬ t = s → ¬ own A t a) (dd : ∀ a, a < (ds.length : Int) → dk ds' a = dk ds a ∧ dl ds' a = dl ds a) (ln : (ds.length : Int) ≤ (ds'.length : Int)) (ot : ∀ t, isH t → ¬ t = s → X' 1 t = A 1 t ∧ X' 2 t = A 2 t ∧ (∀ a j, own A t a → X' a j = A a j) ∧ Y' 80 t = B 80 t ∧ Y' 81 t = B 81 t ∧ (∀ i, 0 ≤ i → i < 100 → Y' 82 (100 * t + i) = B 82 (100 * t + i)) ∧ (∀ i, 480 * t ≤ i → i < 480 * t + 480 → Y' 84 i = B 84 i) ∧ (∀ i, 13 * t ≤ i → i < 13 * t + 13 → Y' 85 i = B 85 i)) : SHV ds' X' Y' := by
  have oc : ∀ t a, isH t → ¬ t = s → (own X' t a ↔ own A t a) := fun t a ht hn => own_cg (ot t ht hn).1 (ot t ht hn).2.1
  refine ⟨fun t ht => ?_, fun t a ht h => ?_, fun t u a ht hu h1 h2 => ?_⟩
  · by_cases hn : t = s
    · rw [hn]; exact hk
    · obtain ⟨x1, x2, xo, y0, y1, y2, y4, y5⟩ := ot t ht hn
      exact SK_cg (H.k t ht) x1 x2 xo y0 y1 y2 y4 y5 (fun a h => dd a (H.b t a ht h).2)
  · by_cases hn : t = s
    · rw [hn] at h; exact (ho a h).1
    · have := H.b t a ht ((oc t a ht hn).1 h)
      omega
  · by_cases hn : t = s
    · by_cases hm : u = s
      · exact hn.trans hm.symm
      · rw [hn] at h1
        exact absurd ((oc u a hu hm).1 h2) ((ho a h1).2 u hu hm)
    · by_cases hm : u = s
      · rw [hm] at h2
        exact absurd ((oc t a ht hn).1 h1) ((ho a h2).2 t ht hn)
      · exact H.d t u a ht hu ((oc t a ht hn).1 h1) ((oc u a hu hm).1 h2)
theorem e75 (S : Sh m) (hs : isH s) (R : SRow (dsB ++ tl) m m s) (hi : i < 2147483648) : WP 75 0 [(2, 0), (0, s), (0, i), (1, v), (3, 0), (3, 0)] [] (dsB ++ tl) m Q = if 0 ≤ i ∧ i < m 81 s then Q (dsB ++ tl) (up m (m 1 s + 1) i (lw (m (m 1 s) 0) v)) [(0, 1)] else Q (dsB ++ tl) (rf m 3 5) [(0, -5)] := by
  have z := R.z
  have l := R.l
  have l' : ¬ m 1 s < 0 := by omega
  have r := R.r
  have y45 := fun (Q : Ds → Mm → List MV → Prop) => e45 (Q := Q) (i := i) (k := 1) r z hi
  have y46 := fun (Q : Ds → Mm → List MV → Prop) => e46 (Q := Q) (i := i) (v := v) r z hi
  rw [R.a] at y46
  by_cases g : 0 ≤ i ∧ i < m 81 s
  · rw [if_pos g]
    simp only [b2_t (show 0 ≤ i ∧ 0 ≤ (1 : Int) ∧ 1 ≤ m 81 s - i by omega)] at y45
    simp only [if_pos g] at y46
    simp only [p75_0, p75_1, p75_2, p75_5, p75_7, p75_9, p75_12, p75_13, p75_14, p75_15, p75_18, p75_21, p75_22, p75_24, p75_25, p75_26, p75_29, p75_32, p75_33, p75_35, p75_38, p75_39, p75_41, p75_42, p75_43, p75_46, p75_47, e96r S hs rfl, y45, y46, K_0, K_3, L_3, sh_0_0 S, sh_0_1 S, sh_0_2 S, sh_0_3 S, sh_0_4 S, sh_0_5 S, sh_0_7 S, sh_0_8 S, sh_0_10 S, sh_0_12 S, sh_0_14 S, sh_0_15 S, r.1, l', b2_T, b2_F, Int.reduceEq, Int.reduceLT, Int.reduceLE, Int.reduceAdd, Int.reduceSub, Int.reduceMul, Int.reduceNeg, reduceIte, if_true, if_false, true_or, or_true, false_or, or_false, false_and, and_false, eq_self, not_false_eq_true, not_true_eq_false, true_and, and_true, List.cons_append, List.nil_append, List.append_nil, b2_0, b2_1, b2_01, Classical.not_not]
  · rw [if_neg g]
    simp only [b2_f (show ¬ (0 ≤ i ∧ 0 ≤ (1 : Int) ∧ 1 ≤ m 81 s - i) by omega)] at y45
    simp only [p75_0, p75_1, p75_2, p75_5, p75_7, p75_9, p75_12, p75_13, p75_14, p75_15, p75_18, p75_21, p75_22, p75_24, p75_25, p75_26, p75_29, p75_32, p75_33, p75_35, p75_38, p75_39, p75_41, p75_42, p75_43, p75_46, p75_47, e96r S hs rfl, y45, e95 S (show -7 ≤ (-5 : Int) ∧ (-5 : Int) ≤ -1 by decide), K_0, K_3, L_3, sh_0_0 S, sh_0_1 S, sh_0_2 S, sh_0_3 S, sh_0_4 S, sh_0_5 S, sh_0_7 S, sh_0_8 S, sh_0_10 S, sh_0_12 S, sh_0_14 S, sh_0_15 S, r.1, l', b2_T, b2_F, Int.reduceEq, Int.reduceLT, Int.reduceLE, Int.reduceAdd, Int.reduceSub, Int.reduceMul, Int.reduceNeg, reduceIte, if_true, if_false, true_or, or_true, false_or, or_false, false_and, and_false, eq_self, not_false_eq_true, not_true_eq_false, true_and, and_true, List.cons_append, List.nil_append, List.append_nil, b2_0, b2_1, b2_01, Classical.not_not]
theorem e75n (S : Sh m) (h : ¬ isH s ∨ m 1 s = -1) (hw : w = -1 ∨ w = -2 ∨ w = -3) (hn : nrA m s = w) : WP 75 0 [(2, 0), (0, s), (0, i), (1, v), (3, 0), (3, 0)] [] (dsB ++ tl) m Q = Q (dsB ++ tl) (rf m 3 (-w)) [(0, w)] := by
  have y97 := fun (Q : Ds → Mm → List MV → Prop) => e97 (tl := tl) (Q := Q) (s := s) S
  rw [hn] at y97
  simp only [p75_0, p75_1, p75_2, p75_5, p75_7, p75_9, p75_12, p75_13, p75_14, p75_15, p75_18, p75_21, p75_22, p75_24, p75_25, p75_26, p75_29, p75_32, p75_33, p75_35, p75_38, p75_39, p75_41, p75_42, p75_43, p75_46, p75_47, e96n S h, y97, e95 S (show -7 ≤ w ∧ w ≤ -1 by omega), K_0, K_3, L_3, sh_0_0 S, sh_0_1 S, sh_0_2 S, sh_0_3 S, sh_0_4 S, sh_0_5 S, sh_0_7 S, sh_0_8 S, sh_0_10 S, sh_0_12 S, sh_0_14 S, sh_0_15 S, b2_T, b2_F, Int.reduceEq, Int.reduceLT, Int.reduceLE, Int.reduceAdd, Int.reduceSub, Int.reduceMul, Int.reduceNeg, reduceIte, if_true, if_false, true_or, or_true, false_or, or_false, false_and, and_false, eq_self, not_false_eq_true, not_true_eq_false, true_and, and_true, List.cons_append, List.nil_append, List.append_nil, b2_0, b2_1, b2_01, Classical.not_not]
theorem e144 (S : Sh m) (hs : isH s) (hr : rlA m s = 0) (z : 0 ≤ m 81 s ∧ m 81 s ≤ 100) (k : 100 ≤ m 80 s ∧ m 80 s ≤ 103) : WP 144 0 [(2, 70), (0, s), (0, i), (1, v), (3, 0), (3, 0)] [] (dsB ++ tl) m Q = if 0 ≤ i ∧ i < m 81 s then Q (dsB ++ tl) (up m 82 (100 * s + i) (lw (m 80 s - 100) v)) [(0, 1)] else Q (dsB ++ tl) (rf m 71 5) [(0, -5)] := by
  have y141 := fun (Q : Ds → Mm → List MV → Prop) => e141 (tl := tl) (Q := Q) (s := s) S
  rw [hr] at y141
  have w9 : w32 (m 81 s - 1) = m 81 s - 1 := w32_id (by omega) (by omega)
  by_cases g : 0 ≤ i ∧ i < m 81 s
  · rw [if_pos g]
    have g2 : 0 ≤ i ∧ i ≤ m 81 s - 1 := by omega
    have w1 : w32 (100 * s) = 100 * s := w32_id (by omega) (by omega)
    have w2 : w32 (100 * s + i) = 100 * s + i := w32_id (by omega) (by omega)
    have w3 : 0 ≤ 100 * s + i := by omega
    have w4 : 100 * s + i < 800 := by omega
    have w5 : w32 (m 80 s - 100) = m 80 s - 100 := w32_id (by omega) (by omega)
    simp only [p144_0, p144_1, p144_2, p144_5, p144_7, p144_9, p144_12, p144_13, p144_15, p144_18, p144_19, p144_20, p144_21, p144_22, p144_25, p144_26, p144_27, p144_28, p144_29, p144_32, p144_35, p144_36, p144_38, p144_41, p144_42, p144_43, p144_46, p144_48, p144_49, p144_50, p144_51, p144_52, p144_53, p144_56, p144_57, p144_58, p144_60, p144_61, p144_62, p144_65, p144_66, p144_67, y141, e120, e142, b2_t g2, K_70, K_80, L_80, K_81, L_81, K_82, L_82, sh_70_11 S, sh_70_12 S, sh_70_13 S, hs.1, hs.2, w1, w2, w3, w4, w5, w9, b2_T, b2_F, Int.reduceEq, Int.reduceLT, Int.reduceLE, Int.reduceAdd, Int.reduceSub, Int.reduceMul, Int.reduceNeg, reduceIte, if_true, if_false, true_or, or_true, false_or, or_false, false_and, and_false, eq_self, not_false_eq_true, not_true_eq_false, true_and, and_true, List.cons_append, List.nil_append, List.append_nil, b2_0, b2_1, b2_01, Classical.not_not]
  · rw [if_neg g]
    have g2 : ¬ (0 ≤ i ∧ i ≤ m 81 s - 1) := by omega
    simp only [p144_0, p144_1, p144_2, p144_5, p144_7, p144_9, p144_12, p144_13, p144_15, p144_18, p144_19, p144_20, p144_21, p144_22, p144_25, p144_26, p144_27, p144_28, p144_29, p144_32, p144_35, p144_36, p144_38, p144_41, p144_42, p144_43, p144_46, p144_48, p144_49, p144_50, p144_51, p144_52, p144_53, p144_56, p144_57, p144_58, p144_60, p144_61, p144_62, p144_65, p144_66, p144_67, y141, e120, b2_f g2, e121 S (show -7 ≤ (-5 : Int) ∧ (-5 : Int) ≤ -1 by decide), K_70, K_81, L_81, sh_70_12 S, hs.1, hs.2, w9, b2_T, b2_F, Int.reduceEq, Int.reduceLT, Int.reduceLE, Int.reduceAdd, Int.reduceSub, Int.reduceMul, Int.reduceNeg, reduceIte, if_true, if_false, true_or, or_true, false_or, or_false, false_and, and_false, eq_self, not_false_eq_true, not_true_eq_false, true_and, and_true, List.cons_append, List.nil_append, List.append_nil, b2_0, b2_1, b2_01, Classical.not_not]
theorem e144n (S : Sh m) (hw : w = -1 ∨ w = -2 ∨ w = -3) (hr : rlA m s = w) : WP 144 0 [(2, 70), (0, s), (0, i), (1, v), (3, 0), (3, 0)] [] (dsB ++ tl) m Q = Q (dsB ++ tl) (rf m 71 (-w)) [(0, w)] := by
  have y141 := fun (Q : Ds → Mm → List MV → Prop) => e141 (tl := tl) (Q := Q) (s := s) S
  rw [hr] at y141
  have w0 : ¬ w = 0 := by omega
  simp only [p144_0, p144_1, p144_2, p144_5, p144_7, p144_9, p144_12, p144_13, p144_15, p144_18, p144_19, p144_20, p144_21, p144_22, p144_25, p144_26, p144_27, p144_28, p144_29, p144_32, p144_35, p144_36, p144_38, p144_41, p144_42, p144_43, p144_46, p144_48, p144_49, p144_50, p144_51, p144_52, p144_53, p144_56, p144_57, p144_58, p144_60, p144_61, p144_62, p144_65, p144_66, p144_67, y141, e121 S (show -7 ≤ w ∧ w ≤ -1 by omega), K_70, w0, b2_T, b2_F, Int.reduceEq, Int.reduceLT, Int.reduceLE, Int.reduceAdd, Int.reduceSub, Int.reduceMul, Int.reduceNeg, reduceIte, if_true, if_false, true_or, or_true, false_or, or_false, false_and, and_false, eq_self, not_false_eq_true, not_true_eq_false, true_and, and_true, List.cons_append, List.nil_append, List.append_nil, b2_0, b2_1, b2_01, Classical.not_not]
theorem call_set (J : JS ds m m n) (hi : -2147483648 ≤ i ∧ i < 2147483648) : CALL 75 144 [(2, 0), (0, s), (0, i), (1, v), (3, 0), (3, 0)] [(2, 70), (0, s), (0, i), (1, v), (3, 0), (3, 0)] ds m n := by
  obtain ⟨tl, rfl⟩ := J.Dt
  have S := J.S
  rcases SK_row J.Hv s with ⟨hs, R⟩ | ⟨h0, w, hw, hn, hr⟩
  · have z := R.z
    have l := R.l
    have k := R.k
    have o := R.o
    by_cases g : 0 ≤ i ∧ i < m 81 s
    · obtain ⟨vv, hv⟩ : ∃ vv, vv = lw (m (m 1 s) 0) v := ⟨_, rfl⟩
      have f : ∀ x j, ¬ (x = m 1 s + 1 ∧ j = i) → up m (m 1 s + 1) i vv x j = m x j := fun x j h => by rw [up_at, if_neg h]
      have fl : ∀ x j, x < 114 → up m (m 1 s + 1) i vv x j = m x j := fun x j h => f x j (by omega)
      have S1 : Sh (up m (m 1 s + 1) i vv) := Sh_hi S (by omega)
      have hA := fun (Q : Ds → Mm → List MV → Prop) => e75 (tl := tl) (Q := Q) (v := v) S hs R hi.2
      simp only [if_pos g, ← hv] at hA
      obtain ⟨X, hX⟩ : ∃ X, X = up m (m 1 s + 1) i vv := ⟨_, rfl⟩
      rw [← hX] at f fl S1 hA
      have x1 : X (m 1 s + 1) i = vv := by rw [hX, up_at, if_pos ⟨rfl, rfl⟩]
      have k80 : X 80 s = m 80 s := fl _ _ (by decide)
      have k81 : X 81 s = m 81 s := fl _ _ (by decide)
      have hB := fun (Q : Ds → Mm → List MV → Prop) => e144 (tl := tl) (Q := Q) (v := v) (i := i) S1 hs (by unfold rlA; rw [k80]; exact rlA_row hs R) (by rw [k81]; exact z) (by rw [k80]; omega)
      rw [k80, k81, show m 80 s - 100 = m (m 1 s) 0 by omega, ← hv] at hB
      simp only [if_pos g] at hB
      have fZ : ∀ x j, ¬ (x = 82 ∧ j = 100 * s + i) → up X 82 (100 * s + i) vv x j = X x j := fun x j h => by rw [up_at, if_neg h]
      refine CALL_of (v := (0, 1)) (X := X) (Z := up X 82 (100 * s + i) vv) J hA (fun x j h => fl x j (by omega)) S1 (fun J1 => ?_) hB (fun x j h => fZ x j (by omega))
      have H1 := J1.Hv
      have b0 := fun a h => H1.b s a hs h
      refine JS_s J1 S1 (Sh_ar S1 (by decide)) (fun x j h => fl x j (by omega)) (fun x j h => fZ x j (by omega)) ?_ J.Dt (by have := J.Ln; omega) (by have := J.Sl; omega)
      have fo : ∀ t a j, isH t → ¬ t = s → own m t a → X a j = m a j := fun t a j ht hn h => f a j (fun y => hn (H1.d t s a ht hs h (Or.inl ⟨by omega, by omega, by omega⟩)))
      have oX : ∀ a, own X s a ↔ own m s a := fun a => own_cg (fl _ _ (by decide)) (fl _ _ (by decide))
      refine SHV_s H1 hs ?_ (fun a h => ⟨b0 a ((oX a).1 h), fun t ht hn h2 => hn (H1.d t s a ht hs h2 ((oX a).1 h))⟩) (fun _ _ => ⟨rfl, rfl⟩) (Int.le_refl _) (fun t ht hn => ⟨fl _ _ (by decide), fl _ _ (by decide), fun a j h => fo t a j ht hn h, fZ _ _ (by omega), fZ _ _ (by omega), fun i' i0 i1 => fZ _ _ (by omega), fun _ _ _ => fZ _ _ (by omega), fun _ _ _ => fZ _ _ (by omega)⟩)
      right; left
      have r := R.r
      have n1 : X 1 s = m 1 s := fl _ _ (by decide)
      have n2 : X 2 s = m 2 s := fl _ _ (by decide)
      have xr : ∀ j, X (m 1 s) j = m (m 1 s) j := fun j => f _ _ (by omega)
      refine ⟨by rw [n2]; exact R.n, by rw [n1]; exact l, ?_, by rw [n1, xr]; exact R.a, ?_, by rw [n1, xr]; exact o, ?_, fun i' i0 i1 => ?_⟩
      · rw [n1, fZ _ _ (by omega), k81]
        unfold RA at r ⊢
        rw [xr]
        exact r
      · rw [n1, xr, fZ _ _ (by omega), k80]; exact k
      · rw [fZ _ _ (by omega), k81]; exact z
      · rw [fZ _ _ (by omega), k81] at i1
        rw [n1]
        by_cases hii : i' = i
        · rw [hii, x1, up_at, if_pos ⟨rfl, rfl⟩]
        · rw [f _ _ (by omega), fZ _ _ (by omega), fl _ _ (by decide)]
          exact R.e i' i0 i1
    · refine CALL_no (v := (0, -5)) (k := 5) J (by decide) (fun Q => ?_) (fun SA fA Q => ?_)
      · rw [e75 S hs R hi.2, if_neg g]
      · rw [e144 SA hs (by unfold rlA; rw [fA 80 s (by decide)]; exact rlA_row hs R) (by rw [fA 81 s (by decide)]; exact z) (by rw [fA 80 s (by decide)]; omega), fA 81 s (by decide), if_neg g]
  · exact CALL_nr J hw hn hr (fun hn Q => e75n S h0 hw hn) (fun g Sg hg Q => e144n Sg hw hg)
end SHELF
