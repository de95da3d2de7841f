/-! the reference's run: queue's bounds, leads, other -/
/-- the queue keeps its bounds (b: how many strikes may have been set) -/
def QI (g : Mm) (b : Int) : Prop := (0 ≤ g 70 24 ∧ g 70 24 ≤ b) ∧ (-2000 ≤ g 70 25 ∧ g 70 25 ≤ b) ∧ ∀ t : Int, 0 ≤ t → t < 520 → ¬ g 91 t = -1 → 0 ≤ g 92 t ∧ g 92 t < b
def mLead (g : Mm) (c ti k : Int) : Mm := mAdd g (g 70 26 + ti) (nxt c (g 73 c)) (opp (g 73 c)) k 0
def oth (e f : Int) : Int := if jand e (jxor (jshl 1 f) (-1)) = 1 then 0 else if jand e (jxor (jshl 1 f) (-1)) = 2 then 1 else if jand e (jxor (jshl 1 f) (-1)) = 4 then 2 else 3
theorem QI_add {g : Mm} {b t c s k r : Int} (h : QI g b) (hb : b < 3000) : QI (mAdd g t c s k r) (b + 1) := by
  obtain ⟨⟨h1, h2⟩, ⟨h3, h4⟩, h5⟩ := h
  unfold mAdd
  split
  · exact ⟨⟨h1, by omega⟩, ⟨h3, by omega⟩, fun u a1 a2 a3 => by have := h5 u a1 a2 a3; omega⟩
  · dsimp only
    refine ⟨?_, ?_, ?_⟩
    · split <;> simp only [up_at, b2_T, b2_F, Int.reduceEq, Int.reduceLT, Int.reduceLE, Int.reduceAdd, Int.reduceSub, Int.reduceMul, Int.reduceNeg, reduceIte, if_true, if_false, true_or, or_true, false_or, or_false, false_and, and_false, eq_self, not_false_eq_true, not_true_eq_false, true_and, and_true, List.cons_append, List.nil_append, List.append_nil, b2_0, b2_1, b2_01, Classical.not_not] <;> omega
    · split <;> simp only [up_at, b2_T, b2_F, Int.reduceEq, Int.reduceLT, Int.reduceLE, Int.reduceAdd, Int.reduceSub, Int.reduceMul, Int.reduceNeg, reduceIte, if_true, if_false, true_or, or_true, false_or, or_false, false_and, and_false, eq_self, not_false_eq_true, not_true_eq_false, true_and, and_true, List.cons_append, List.nil_append, List.append_nil, b2_0, b2_1, b2_01, Classical.not_not] <;> omega
    · intro u a1 a2
      by_cases hu : u = t
      · subst hu
        split <;> simp only [up_at, b2_T, b2_F, Int.reduceEq, Int.reduceLT, Int.reduceLE, Int.reduceAdd, Int.reduceSub, Int.reduceMul, Int.reduceNeg, reduceIte, if_true, if_false, true_or, or_true, false_or, or_false, false_and, and_false, eq_self, not_false_eq_true, not_true_eq_false, true_and, and_true, List.cons_append, List.nil_append, List.append_nil, b2_0, b2_1, b2_01, Classical.not_not] <;> omega
      · have := h5 u a1 a2
        split <;> simp only [up_at, hu, b2_T, b2_F, Int.reduceEq, Int.reduceLT, Int.reduceLE, Int.reduceAdd, Int.reduceSub, Int.reduceMul, Int.reduceNeg, reduceIte, if_true, if_false, true_or, or_true, false_or, or_false, false_and, and_false, eq_self, not_false_eq_true, not_true_eq_false, true_and, and_true, List.cons_append, List.nil_append, List.append_nil, b2_0, b2_1, b2_01, Classical.not_not] <;> omega
section MRUN2
variable {tl : Ds} {m : Mm} {Q : Ds → Mm → List MV → Prop} {t c s k r n to i b e f : Int}
theorem e155q (S : Sh m) (q : QI m b) (hb : b < 2000) (ht : 0 ≤ t ∧ t < 520) (hr : r = 0 ∨ r = 1) : WP 155 0 [(2, 70), (0, t), (0, c), (0, s), (0, k), (0, r)] [] (dsB ++ tl) m Q = Q (dsB ++ tl) (mAdd m t c s k r) [] :=
  e155 S ht ⟨q.1.1, by have := q.1.2; omega⟩ (fun h => ⟨(q.2.2 t ht.1 ht.2 h).1, by have := (q.2.2 t ht.1 ht.2 h).2; omega⟩) hr ⟨by have := q.2.1.1; omega, by have := q.2.1.2; omega⟩
theorem e157 (S : Sh m) (q : QI m b) (hb : b < 2000) (hc : isC c) (ha : 0 ≤ m 73 c ∧ m 73 c < 4) (hn : 0 ≤ m 70 26 ∧ m 70 26 < 400) (hi : 0 ≤ i ∧ i ≤ 100) : WP 157 0 [(2, 70), (0, c), (0, i), (0, k)] [] (dsB ++ tl) m Q = Q (dsB ++ tl) (mLead m c i k) [] := by
  have g0 : 0 ≤ c := hc.1
  have g1 : c < 96 := hc.2
  have w1 : w32 (m 70 26 + i) = m 70 26 + i := w32_id (by omega) (by omega)
  have w2 : w32 (m 73 c + 2) = m 73 c + 2 := w32_id (by omega) (by omega)
  have w3 : jrem (m 73 c + 2) 4 = opp (m 73 c) := jrem_nn (by omega) (by omega) (by omega) (by omega)
  have ex : ∀ Q : Ds → Mm → List MV → Prop, WP 155 0 [(2, 70), (0, m 70 26 + i), (0, nxt c (m 73 c)), (0, opp (m 73 c)), (0, k), (0, 0)] [] (dsB ++ tl) m Q = Q (dsB ++ tl) (mAdd m (m 70 26 + i) (nxt c (m 73 c)) (opp (m 73 c)) k 0) [] := fun Q => e155q S q hb (⟨by omega, by omega⟩) (Or.inl rfl)
  unfold mLead
  simp only [p157_0, p157_1, p157_2, p157_5, p157_6, p157_7, p157_8, p157_9, p157_12, p157_13, p157_14, p157_17, p157_18, p157_21, p157_22, p157_23, p157_24, p157_25, p157_26, p157_27, p157_28, p157_29, p157_32, e123 g0 g1 ha.1 ha.2, K_70, K_72, L_72, K_73, L_73, K_74, L_74, K_75, L_75, K_76, L_76, K_86, L_86, K_87, L_87, K_88, L_88, K_89, L_89, K_90, L_90, K_91, L_91, K_92, L_92, K_93, L_93, K_94, L_94, K_95, L_95, K_96, L_96, K_97, L_97, K_98, L_98, K_99, L_99, K_100, L_100, K_101, L_101, K_102, L_102, K_103, L_103, K_104, L_104, K_105, L_105, K_106, L_106, K_107, L_107, K_108, L_108, K_109, L_109, sh_70_1 S, sh_70_2 S, sh_70_3 S, sh_70_4 S, sh_70_5 S, sh_70_17 S, sh_70_18 S, sh_70_19 S, sh_70_20 S, sh_70_21 S, sh_70_22 S, sh_70_23 S, sh_70_27 S, sh_70_28 S, sh_70_29 S, sh_70_31 S, sh_70_32 S, sh_70_33 S, sh_70_34 S, sh_70_35 S, sh_70_36 S, sh_70_37 S, sh_70_38 S, sh_70_39 S, sh_70_40 S, sh_70_41 S, sh_70_42 S, sh_70_43 S, sh_70_44 S, g0, g1, w1, w2, w3, ex, b2_T, b2_F, Int.reduceEq, Int.reduceLT, Int.reduceLE, Int.reduceAdd, Int.reduceSub, Int.reduceMul, Int.reduceNeg, reduceIte, if_true, if_false, true_or, or_true, false_or, or_false, false_and, and_false, eq_self, not_false_eq_true, not_true_eq_false, true_and, and_true, List.cons_append, List.nil_append, List.append_nil, b2_0, b2_1, b2_01, Classical.not_not]
theorem e162 : WP 162 0 [(0, e), (0, f), (3, 0)] [] (dsB ++ tl) m Q = Q (dsB ++ tl) m [(0, oth e f)] := by
  unfold oth
  simp only [p162_0, p162_1, p162_2, p162_3, p162_4, p162_5, p162_6, p162_7, p162_8, p162_9, p162_10, p162_13, p162_14, p162_17, p162_18, p162_19, p162_22, p162_23, p162_26, p162_27, p162_28, p162_31, p162_32, p162_35, p162_36, b2_T, b2_F, Int.reduceEq, Int.reduceLT, Int.reduceLE, Int.reduceAdd, Int.reduceSub, Int.reduceMul, Int.reduceNeg, reduceIte, if_true, if_false, true_or, or_true, false_or, or_false, false_and, and_false, eq_self, not_false_eq_true, not_true_eq_false, true_and, and_true, List.cons_append, List.nil_append, List.append_nil, b2_0, b2_1, b2_01, Classical.not_not]
  repeat' split
  all_goals rfl
end MRUN2
