/-! tune, both sides -/
def tuF (u T E : Int → Int) (n : Int) : Nat → Int → Int → Int
  | 0, _, a => if a = n then 1000 else a
  | f + 1, i, a => if u i = 0 then tuF u T E n f (i + 1) a else if a < n ∧ E a = T i then tuF u T E n f (i + 1) (a + 1) else a
section TUNE
variable {tl : Ds} {ds ds' : Ds} {m X Y Z X' Y' g h G A B : Mm} {Q : Ds → Mm → List MV → Prop} {p q c k a b s o v i j d n nn w t r e x : Int} {M M' : Nat} {as as' : List MV} {u u' T T' E : Int → Int}
theorem tuF_s (f : Nat) : tuF u T E n (f + 1) i a = if u i = 0 then tuF u T E n f (i + 1) a else if a < n ∧ E a = T i then tuF u T E n f (i + 1) (a + 1) else a := rfl
theorem tuF_cg : ∀ (f : Nat) (i a : Int), (∀ k, i ≤ k → k < i + f → (u k = 0 ↔ u' k = 0) ∧ T k = T' k) → tuF u T E n f i a = tuF u' T' E n f i a := by
  intro f
  induction f with
  | zero => exact fun _ _ _ => rfl
  | succ f ih =>
    intro i a h
    have h0 := h i (by omega) (by omega)
    have r := fun b => ih (i + 1) b (fun k k0 k1 => h k (by omega) (by omega))
    rw [tuF_s, tuF_s, r, r, h0.2]
    by_cases hu : u i = 0
    · rw [if_pos hu, if_pos (h0.1.1 hu)]
    · rw [if_neg hu, if_neg (fun y => hu (h0.1.2 y))]
theorem e87l (S : Sh m) (hc : 0 ≤ m 35 4 ∧ m 35 4 ≤ 1000) (R : RA (dsB ++ tl) m r n) (hn : 0 ≤ n ∧ n ≤ 100) (hE : ∀ k, 0 ≤ k → k < n → ji (m (m r 1) k) = E k) : ∀ (f : Nat) (i a : Int), 0 ≤ i → i + f = m 35 4 → 0 ≤ a → a ≤ i → WP 87 34 [(2, 0), (0, s), (2, r), (2, 35), (0, a), (0, i)] [] (dsB ++ tl) m Q = Q (dsB ++ tl) m [(0, tuF (fun i => jand (m 39 i) 4) (m 36) E n f i a)] := by
  intro f
  induction f with
  | zero =>
    intro i a h0 h1 h2 h3
    have hi : ¬ i < m 35 4 := by omega
    have y44 := fun (Q : Ds → Mm → List MV → Prop) => e44 (Q := Q) R
    have e : tuF (fun i => jand (m 39 i) 4) (m 36) E n 0 i a = if a = n then 1000 else a := rfl
    rw [e]
    by_cases ha : a = n
    · rw [if_pos ha]
      simp only [p87_34, p87_36, p87_37, p87_40, p87_43, p87_44, p87_46, p87_47, p87_50, p87_53, p87_55, p87_56, p87_59, p87_62, p87_63, p87_65, p87_68, p87_69, p87_72, p87_74, p87_75, p87_78, p87_80, p87_81, p87_84, p87_87, p87_90, p87_92, p87_93, p87_96, p87_99, p87_102, p87_105, p87_107, K_0, K_3, L_3, sh_0_0 S, sh_0_1 S, sh_0_2 S, sh_0_3 S, sh_0_4 S, sh_0_5 S, sh_0_7 S, sh_0_8 S, sh_0_10 S, sh_0_12 S, sh_0_14 S, sh_0_15 S, K_27, K_28, L_28, K_29, L_29, K_30, L_30, K_31, L_31, K_32, L_32, K_33, L_33, K_34, K_35, K_36, L_36, K_37, L_37, K_38, L_38, K_39, L_39, K_40, K_41, L_41, K_42, L_42, K_43, L_43, K_44, L_44, K_45, L_45, K_46, L_46, K_47, L_47, K_48, L_48, K_49, L_49, K_50, L_50, K_51, L_51, K_52, K_53, K_54, L_54, K_55, L_55, K_56, L_56, K_57, L_57, K_58, K_59, L_59, K_60, L_60, K_61, L_61, K_62, L_62, K_63, L_63, K_64, L_64, K_65, L_65, K_66, L_66, K_67, L_67, K_68, L_68, K_69, L_69, sh_27_0 S, sh_27_1 S, sh_27_2 S, sh_27_3 S, sh_27_4 S, sh_27_5 S, sh_34_0 S, sh_34_1 S, sh_34_2 S, sh_34_3 S, sh_34_4 S, sh_34_5 S, sh_34_6 S, sh_34_7 S, sh_35_0 S, sh_35_1 S, sh_35_2 S, sh_35_3 S, sh_40_0 S, sh_40_1 S, sh_40_2 S, sh_40_3 S, sh_40_4 S, sh_40_5 S, sh_52_0 S, sh_52_1 S, sh_52_2 S, sh_52_3 S, sh_52_4 S, sh_52_5 S, sh_52_6 S, sh_52_7 S, sh_53_0 S, sh_53_1 S, sh_53_2 S, sh_53_3 S, sh_58_0 S, sh_58_1 S, sh_58_2 S, sh_58_3 S, sh_58_4 S, sh_58_5 S, R.1, y44, hi, ha, b2_T, b2_F, Int.reduceEq, Int.reduceLT, Int.reduceLE, Int.reduceAdd, Int.reduceSub, Int.reduceMul, Int.reduceNeg, reduceIte, if_true, if_false, true_or, or_true, false_or, or_false, false_and, and_false, eq_self, not_false_eq_true, not_true_eq_false, true_and, and_true, List.cons_append, List.nil_append, List.append_nil, b2_0, b2_1, b2_01, Classical.not_not]
    · rw [if_neg ha]
      simp only [p87_34, p87_36, p87_37, p87_40, p87_43, p87_44, p87_46, p87_47, p87_50, p87_53, p87_55, p87_56, p87_59, p87_62, p87_63, p87_65, p87_68, p87_69, p87_72, p87_74, p87_75, p87_78, p87_80, p87_81, p87_84, p87_87, p87_90, p87_92, p87_93, p87_96, p87_99, p87_102, p87_105, p87_107, K_0, K_3, L_3, sh_0_0 S, sh_0_1 S, sh_0_2 S, sh_0_3 S, sh_0_4 S, sh_0_5 S, sh_0_7 S, sh_0_8 S, sh_0_10 S, sh_0_12 S, sh_0_14 S, sh_0_15 S, K_27, K_28, L_28, K_29, L_29, K_30, L_30, K_31, L_31, K_32, L_32, K_33, L_33, K_34, K_35, K_36, L_36, K_37, L_37, K_38, L_38, K_39, L_39, K_40, K_41, L_41, K_42, L_42, K_43, L_43, K_44, L_44, K_45, L_45, K_46, L_46, K_47, L_47, K_48, L_48, K_49, L_49, K_50, L_50, K_51, L_51, K_52, K_53, K_54, L_54, K_55, L_55, K_56, L_56, K_57, L_57, K_58, K_59, L_59, K_60, L_60, K_61, L_61, K_62, L_62, K_63, L_63, K_64, L_64, K_65, L_65, K_66, L_66, K_67, L_67, K_68, L_68, K_69, L_69, sh_27_0 S, sh_27_1 S, sh_27_2 S, sh_27_3 S, sh_27_4 S, sh_27_5 S, sh_34_0 S, sh_34_1 S, sh_34_2 S, sh_34_3 S, sh_34_4 S, sh_34_5 S, sh_34_6 S, sh_34_7 S, sh_35_0 S, sh_35_1 S, sh_35_2 S, sh_35_3 S, sh_40_0 S, sh_40_1 S, sh_40_2 S, sh_40_3 S, sh_40_4 S, sh_40_5 S, sh_52_0 S, sh_52_1 S, sh_52_2 S, sh_52_3 S, sh_52_4 S, sh_52_5 S, sh_52_6 S, sh_52_7 S, sh_53_0 S, sh_53_1 S, sh_53_2 S, sh_53_3 S, sh_58_0 S, sh_58_1 S, sh_58_2 S, sh_58_3 S, sh_58_4 S, sh_58_5 S, R.1, y44, hi, ha, b2_T, b2_F, Int.reduceEq, Int.reduceLT, Int.reduceLE, Int.reduceAdd, Int.reduceSub, Int.reduceMul, Int.reduceNeg, reduceIte, if_true, if_false, true_or, or_true, false_or, or_false, false_and, and_false, eq_self, not_false_eq_true, not_true_eq_false, true_and, and_true, List.cons_append, List.nil_append, List.append_nil, b2_0, b2_1, b2_01, Classical.not_not]
  | succ f ih =>
    intro i a h0 h1 h2 h3
    have hi : i < m 35 4 := by omega
    have hi2 : i < 1000 := by omega
    have hti : tls m i := ⟨h0, hi⟩
    have w1 : w32 (i + 1) = i + 1 := w32_id (by omega) (by omega)
    have w2 : w32 (a + 1) = a + 1 := w32_id (by omega) (by omega)
    have y44 := fun (Q : Ds → Mm → List MV → Prop) => e44 (Q := Q) R
    have y17 := fun (Q : Ds → Mm → List MV → Prop) => e17 (tl := tl) (Q := Q) (i := i) (f := 4) S hc
    rw [tuF_s]
    by_cases hu : jand (m 39 i) 4 = 0
    · rw [if_pos hu]
      simp only [b2_f (show ¬ (tls m i ∧ ¬ jand (m 39 i) 4 = 0) from fun y => y.2 hu)] at y17
      have r1 := ih (i + 1) a (by omega) (by omega) h2 (by omega)
      rw [p87_34]
      simp only [p87_36, p87_37, p87_40, p87_43, p87_44, p87_46, p87_47, p87_50, p87_53, p87_55, p87_56, p87_59, p87_62, p87_63, p87_65, p87_68, p87_69, p87_72, p87_74, p87_75, p87_78, p87_80, p87_81, p87_84, p87_87, K_0, K_3, L_3, sh_0_0 S, sh_0_1 S, sh_0_2 S, sh_0_3 S, sh_0_4 S, sh_0_5 S, sh_0_7 S, sh_0_8 S, sh_0_10 S, sh_0_12 S, sh_0_14 S, sh_0_15 S, K_27, K_28, L_28, K_29, L_29, K_30, L_30, K_31, L_31, K_32, L_32, K_33, L_33, K_34, K_35, K_36, L_36, K_37, L_37, K_38, L_38, K_39, L_39, K_40, K_41, L_41, K_42, L_42, K_43, L_43, K_44, L_44, K_45, L_45, K_46, L_46, K_47, L_47, K_48, L_48, K_49, L_49, K_50, L_50, K_51, L_51, K_52, K_53, K_54, L_54, K_55, L_55, K_56, L_56, K_57, L_57, K_58, K_59, L_59, K_60, L_60, K_61, L_61, K_62, L_62, K_63, L_63, K_64, L_64, K_65, L_65, K_66, L_66, K_67, L_67, K_68, L_68, K_69, L_69, sh_27_0 S, sh_27_1 S, sh_27_2 S, sh_27_3 S, sh_27_4 S, sh_27_5 S, sh_34_0 S, sh_34_1 S, sh_34_2 S, sh_34_3 S, sh_34_4 S, sh_34_5 S, sh_34_6 S, sh_34_7 S, sh_35_0 S, sh_35_1 S, sh_35_2 S, sh_35_3 S, sh_40_0 S, sh_40_1 S, sh_40_2 S, sh_40_3 S, sh_40_4 S, sh_40_5 S, sh_52_0 S, sh_52_1 S, sh_52_2 S, sh_52_3 S, sh_52_4 S, sh_52_5 S, sh_52_6 S, sh_52_7 S, sh_53_0 S, sh_53_1 S, sh_53_2 S, sh_53_3 S, sh_58_0 S, sh_58_1 S, sh_58_2 S, sh_58_3 S, sh_58_4 S, sh_58_5 S, R.1, y17, hi, w1, r1, b2_T, b2_F, Int.reduceEq, Int.reduceLT, Int.reduceLE, Int.reduceAdd, Int.reduceSub, Int.reduceMul, Int.reduceNeg, reduceIte, if_true, if_false, true_or, or_true, false_or, or_false, false_and, and_false, eq_self, not_false_eq_true, not_true_eq_false, true_and, and_true, List.cons_append, List.nil_append, List.append_nil, b2_0, b2_1, b2_01, Classical.not_not]
    · rw [if_neg hu]
      simp only [b2_t (show tls m i ∧ ¬ jand (m 39 i) 4 = 0 from ⟨hti, hu⟩)] at y17
      by_cases ha : a < n
      · have y48 := fun (Q : Ds → Mm → List MV → Prop) => e48 (Q := Q) (i := a) R hn (by omega)
        simp only [if_pos (show 0 ≤ a ∧ a < n from ⟨h2, ha⟩), hE a h2 ha] at y48
        by_cases he : E a = m 36 i
        · rw [if_pos ⟨ha, he⟩]
          have r1 := ih (i + 1) (a + 1) (by omega) (by omega) (by omega) (by omega)
          rw [p87_34]
          simp only [p87_36, p87_37, p87_40, p87_43, p87_44, p87_46, p87_47, p87_50, p87_53, p87_55, p87_56, p87_59, p87_62, p87_63, p87_65, p87_68, p87_69, p87_72, p87_74, p87_75, p87_78, p87_80, p87_81, p87_84, p87_87, K_0, K_3, L_3, sh_0_0 S, sh_0_1 S, sh_0_2 S, sh_0_3 S, sh_0_4 S, sh_0_5 S, sh_0_7 S, sh_0_8 S, sh_0_10 S, sh_0_12 S, sh_0_14 S, sh_0_15 S, K_27, K_28, L_28, K_29, L_29, K_30, L_30, K_31, L_31, K_32, L_32, K_33, L_33, K_34, K_35, K_36, L_36, K_37, L_37, K_38, L_38, K_39, L_39, K_40, K_41, L_41, K_42, L_42, K_43, L_43, K_44, L_44, K_45, L_45, K_46, L_46, K_47, L_47, K_48, L_48, K_49, L_49, K_50, L_50, K_51, L_51, K_52, K_53, K_54, L_54, K_55, L_55, K_56, L_56, K_57, L_57, K_58, K_59, L_59, K_60, L_60, K_61, L_61, K_62, L_62, K_63, L_63, K_64, L_64, K_65, L_65, K_66, L_66, K_67, L_67, K_68, L_68, K_69, L_69, sh_27_0 S, sh_27_1 S, sh_27_2 S, sh_27_3 S, sh_27_4 S, sh_27_5 S, sh_34_0 S, sh_34_1 S, sh_34_2 S, sh_34_3 S, sh_34_4 S, sh_34_5 S, sh_34_6 S, sh_34_7 S, sh_35_0 S, sh_35_1 S, sh_35_2 S, sh_35_3 S, sh_40_0 S, sh_40_1 S, sh_40_2 S, sh_40_3 S, sh_40_4 S, sh_40_5 S, sh_52_0 S, sh_52_1 S, sh_52_2 S, sh_52_3 S, sh_52_4 S, sh_52_5 S, sh_52_6 S, sh_52_7 S, sh_53_0 S, sh_53_1 S, sh_53_2 S, sh_53_3 S, sh_58_0 S, sh_58_1 S, sh_58_2 S, sh_58_3 S, sh_58_4 S, sh_58_5 S, R.1, y17, y44, y48, hi, hi2, h0, ha, he, w1, w2, r1, b2_T, b2_F, Int.reduceEq, Int.reduceLT, Int.reduceLE, Int.reduceAdd, Int.reduceSub, Int.reduceMul, Int.reduceNeg, reduceIte, if_true, if_false, true_or, or_true, false_or, or_false, false_and, and_false, eq_self, not_false_eq_true, not_true_eq_false, true_and, and_true, List.cons_append, List.nil_append, List.append_nil, b2_0, b2_1, b2_01, Classical.not_not]
        · rw [if_neg (fun y => he y.2)]
          rw [p87_34]
          simp only [p87_36, p87_37, p87_40, p87_43, p87_44, p87_46, p87_47, p87_50, p87_53, p87_55, p87_56, p87_59, p87_62, p87_63, p87_65, p87_68, p87_69, p87_72, p87_74, p87_75, p87_78, p87_80, p87_81, p87_84, p87_87, K_0, K_3, L_3, sh_0_0 S, sh_0_1 S, sh_0_2 S, sh_0_3 S, sh_0_4 S, sh_0_5 S, sh_0_7 S, sh_0_8 S, sh_0_10 S, sh_0_12 S, sh_0_14 S, sh_0_15 S, K_27, K_28, L_28, K_29, L_29, K_30, L_30, K_31, L_31, K_32, L_32, K_33, L_33, K_34, K_35, K_36, L_36, K_37, L_37, K_38, L_38, K_39, L_39, K_40, K_41, L_41, K_42, L_42, K_43, L_43, K_44, L_44, K_45, L_45, K_46, L_46, K_47, L_47, K_48, L_48, K_49, L_49, K_50, L_50, K_51, L_51, K_52, K_53, K_54, L_54, K_55, L_55, K_56, L_56, K_57, L_57, K_58, K_59, L_59, K_60, L_60, K_61, L_61, K_62, L_62, K_63, L_63, K_64, L_64, K_65, L_65, K_66, L_66, K_67, L_67, K_68, L_68, K_69, L_69, sh_27_0 S, sh_27_1 S, sh_27_2 S, sh_27_3 S, sh_27_4 S, sh_27_5 S, sh_34_0 S, sh_34_1 S, sh_34_2 S, sh_34_3 S, sh_34_4 S, sh_34_5 S, sh_34_6 S, sh_34_7 S, sh_35_0 S, sh_35_1 S, sh_35_2 S, sh_35_3 S, sh_40_0 S, sh_40_1 S, sh_40_2 S, sh_40_3 S, sh_40_4 S, sh_40_5 S, sh_52_0 S, sh_52_1 S, sh_52_2 S, sh_52_3 S, sh_52_4 S, sh_52_5 S, sh_52_6 S, sh_52_7 S, sh_53_0 S, sh_53_1 S, sh_53_2 S, sh_53_3 S, sh_58_0 S, sh_58_1 S, sh_58_2 S, sh_58_3 S, sh_58_4 S, sh_58_5 S, R.1, y17, y44, y48, hi, hi2, h0, ha, he, w1, b2_T, b2_F, Int.reduceEq, Int.reduceLT, Int.reduceLE, Int.reduceAdd, Int.reduceSub, Int.reduceMul, Int.reduceNeg, reduceIte, if_true, if_false, true_or, or_true, false_or, or_false, false_and, and_false, eq_self, not_false_eq_true, not_true_eq_false, true_and, and_true, List.cons_append, List.nil_append, List.append_nil, b2_0, b2_1, b2_01, Classical.not_not]
      · rw [if_neg (fun y => ha y.1)]
        rw [p87_34]
        simp only [p87_36, p87_37, p87_40, p87_43, p87_44, p87_46, p87_47, p87_50, p87_53, p87_55, p87_56, p87_59, p87_62, p87_63, p87_65, p87_68, p87_69, p87_72, p87_74, p87_75, p87_78, p87_80, p87_81, p87_84, p87_87, K_0, K_3, L_3, sh_0_0 S, sh_0_1 S, sh_0_2 S, sh_0_3 S, sh_0_4 S, sh_0_5 S, sh_0_7 S, sh_0_8 S, sh_0_10 S, sh_0_12 S, sh_0_14 S, sh_0_15 S, K_27, K_28, L_28, K_29, L_29, K_30, L_30, K_31, L_31, K_32, L_32, K_33, L_33, K_34, K_35, K_36, L_36, K_37, L_37, K_38, L_38, K_39, L_39, K_40, K_41, L_41, K_42, L_42, K_43, L_43, K_44, L_44, K_45, L_45, K_46, L_46, K_47, L_47, K_48, L_48, K_49, L_49, K_50, L_50, K_51, L_51, K_52, K_53, K_54, L_54, K_55, L_55, K_56, L_56, K_57, L_57, K_58, K_59, L_59, K_60, L_60, K_61, L_61, K_62, L_62, K_63, L_63, K_64, L_64, K_65, L_65, K_66, L_66, K_67, L_67, K_68, L_68, K_69, L_69, sh_27_0 S, sh_27_1 S, sh_27_2 S, sh_27_3 S, sh_27_4 S, sh_27_5 S, sh_34_0 S, sh_34_1 S, sh_34_2 S, sh_34_3 S, sh_34_4 S, sh_34_5 S, sh_34_6 S, sh_34_7 S, sh_35_0 S, sh_35_1 S, sh_35_2 S, sh_35_3 S, sh_40_0 S, sh_40_1 S, sh_40_2 S, sh_40_3 S, sh_40_4 S, sh_40_5 S, sh_52_0 S, sh_52_1 S, sh_52_2 S, sh_52_3 S, sh_52_4 S, sh_52_5 S, sh_52_6 S, sh_52_7 S, sh_53_0 S, sh_53_1 S, sh_53_2 S, sh_53_3 S, sh_58_0 S, sh_58_1 S, sh_58_2 S, sh_58_3 S, sh_58_4 S, sh_58_5 S, R.1, y17, y44, hi, ha, b2_T, b2_F, Int.reduceEq, Int.reduceLT, Int.reduceLE, Int.reduceAdd, Int.reduceSub, Int.reduceMul, Int.reduceNeg, reduceIte, if_true, if_false, true_or, or_true, false_or, or_false, false_and, and_false, eq_self, not_false_eq_true, not_true_eq_false, true_and, and_true, List.cons_append, List.nil_append, List.append_nil, b2_0, b2_1, b2_01, Classical.not_not]
theorem e188 (S : Sh m) (hi : 0 ≤ i ∧ i < 1000) (hc : isC (m 102 (6 * i + 1))) : WP 188 0 [(2, 70), (0, i), (3, 0)] [] (dsB ++ tl) m Q = Q (dsB ++ tl) m [(0, b2 (0 < m 105 (m 102 (6 * i + 1))))] := by
  have w1 : w32 (6 * i) = 6 * i := w32_id (by omega) (by omega)
  have w2 : w32 (6 * i + 1) = 6 * i + 1 := w32_id (by omega) (by omega)
  have w3 : 0 ≤ 6 * i + 1 := by omega
  have w4 : 6 * i + 1 < 18000 := by omega
  have c0 := hc.1
  have c1 : m 102 (6 * i + 1) < 288 := by
    have := hc.2
    omega
  by_cases h : 0 < m 105 (m 102 (6 * i + 1))
  · have h' : ¬ m 105 (m 102 (6 * i + 1)) ≤ 0 := by omega
    simp only [p188_0, p188_1, p188_4, p188_6, p188_7, p188_8, p188_9, p188_10, p188_11, p188_12, p188_13, p188_16, p188_17, p188_18, p188_21, p188_22, p188_25, p188_26, K_70, K_72, L_72, K_73, L_73, K_74, L_74, K_75, L_75, K_76, L_76, K_86, L_86, K_87, L_87, K_88, L_88, K_89, L_89, K_90, L_90, K_91, L_91, K_92, L_92, K_93, L_93, K_94, L_94, K_95, L_95, K_96, L_96, K_97, L_97, K_98, L_98, K_99, L_99, K_100, L_100, K_101, L_101, K_102, L_102, K_103, L_103, K_104, L_104, K_105, L_105, K_106, L_106, K_107, L_107, K_108, L_108, K_109, L_109, sh_70_1 S, sh_70_2 S, sh_70_3 S, sh_70_4 S, sh_70_5 S, sh_70_17 S, sh_70_18 S, sh_70_19 S, sh_70_20 S, sh_70_21 S, sh_70_22 S, sh_70_23 S, sh_70_27 S, sh_70_28 S, sh_70_29 S, sh_70_31 S, sh_70_32 S, sh_70_33 S, sh_70_34 S, sh_70_35 S, sh_70_36 S, sh_70_37 S, sh_70_38 S, sh_70_39 S, sh_70_40 S, sh_70_41 S, sh_70_42 S, sh_70_43 S, sh_70_44 S, b2_t h, w1, w2, w3, w4, c0, c1, h, h', b2_T, b2_F, Int.reduceEq, Int.reduceLT, Int.reduceLE, Int.reduceAdd, Int.reduceSub, Int.reduceMul, Int.reduceNeg, reduceIte, if_true, if_false, true_or, or_true, false_or, or_false, false_and, and_false, eq_self, not_false_eq_true, not_true_eq_false, true_and, and_true, List.cons_append, List.nil_append, List.append_nil, b2_0, b2_1, b2_01, Classical.not_not]
  · have h' : m 105 (m 102 (6 * i + 1)) ≤ 0 := by omega
    simp only [p188_0, p188_1, p188_4, p188_6, p188_7, p188_8, p188_9, p188_10, p188_11, p188_12, p188_13, p188_16, p188_17, p188_18, p188_21, p188_22, p188_25, p188_26, K_70, K_72, L_72, K_73, L_73, K_74, L_74, K_75, L_75, K_76, L_76, K_86, L_86, K_87, L_87, K_88, L_88, K_89, L_89, K_90, L_90, K_91, L_91, K_92, L_92, K_93, L_93, K_94, L_94, K_95, L_95, K_96, L_96, K_97, L_97, K_98, L_98, K_99, L_99, K_100, L_100, K_101, L_101, K_102, L_102, K_103, L_103, K_104, L_104, K_105, L_105, K_106, L_106, K_107, L_107, K_108, L_108, K_109, L_109, sh_70_1 S, sh_70_2 S, sh_70_3 S, sh_70_4 S, sh_70_5 S, sh_70_17 S, sh_70_18 S, sh_70_19 S, sh_70_20 S, sh_70_21 S, sh_70_22 S, sh_70_23 S, sh_70_27 S, sh_70_28 S, sh_70_29 S, sh_70_31 S, sh_70_32 S, sh_70_33 S, sh_70_34 S, sh_70_35 S, sh_70_36 S, sh_70_37 S, sh_70_38 S, sh_70_39 S, sh_70_40 S, sh_70_41 S, sh_70_42 S, sh_70_43 S, sh_70_44 S, b2_f h, w1, w2, w3, w4, c0, c1, h, h', b2_T, b2_F, Int.reduceEq, Int.reduceLT, Int.reduceLE, Int.reduceAdd, Int.reduceSub, Int.reduceMul, Int.reduceNeg, reduceIte, if_true, if_false, true_or, or_true, false_or, or_false, false_and, and_false, eq_self, not_false_eq_true, not_true_eq_false, true_and, and_true, List.cons_append, List.nil_append, List.append_nil, b2_0, b2_1, b2_01, Classical.not_not]
theorem e187n (S : Sh m) (ha : w32 a = a) (hr : 0 < m 70 10) (hc : m 101 2 ≤ 1000) (hC : ∀ i, 0 ≤ i → i < m 101 2 → isC (m 102 (6 * i + 1))) : ∀ (f : Nat) (i b : Int), 0 ≤ i → i + f = m 101 2 → 0 ≤ b → b ≤ i → WP 187 27 [(2, 70), (0, s), (0, 0), (0, b), (0, a), (0, 0), (0, i)] [] (dsB ++ tl) m Q = Q (dsB ++ tl) m [(0, a)] := by
  have hr' : ¬ m 70 10 ≤ 0 := by omega
  intro f
  induction f with
  | zero =>
    intro i b h0 h1 h2 h3
    have hi : ¬ i < m 101 2 := by omega
    simp only [p187_27, p187_28, p187_31, p187_34, p187_36, p187_37, p187_40, p187_41, p187_42, p187_119, p187_121, p187_124, p187_125, p187_126, p187_129, p187_130, p187_131, p187_134, p187_137, p187_140, p187_142, K_70, K_72, L_72, K_73, L_73, K_74, L_74, K_75, L_75, K_76, L_76, K_86, L_86, K_87, L_87, K_88, L_88, K_89, L_89, K_90, L_90, K_91, L_91, K_92, L_92, K_93, L_93, K_94, L_94, K_95, L_95, K_96, L_96, K_97, L_97, K_98, L_98, K_99, L_99, K_100, L_100, K_101, L_101, K_102, L_102, K_103, L_103, K_104, L_104, K_105, L_105, K_106, L_106, K_107, L_107, K_108, L_108, K_109, L_109, sh_70_1 S, sh_70_2 S, sh_70_3 S, sh_70_4 S, sh_70_5 S, sh_70_17 S, sh_70_18 S, sh_70_19 S, sh_70_20 S, sh_70_21 S, sh_70_22 S, sh_70_23 S, sh_70_27 S, sh_70_28 S, sh_70_29 S, sh_70_31 S, sh_70_32 S, sh_70_33 S, sh_70_34 S, sh_70_35 S, sh_70_36 S, sh_70_37 S, sh_70_38 S, sh_70_39 S, sh_70_40 S, sh_70_41 S, sh_70_42 S, sh_70_43 S, sh_70_44 S, hr, hr', hi, b2_T, b2_F, Int.reduceEq, Int.reduceLT, Int.reduceLE, Int.reduceAdd, Int.reduceSub, Int.reduceMul, Int.reduceNeg, reduceIte, if_true, if_false, true_or, or_true, false_or, or_false, false_and, and_false, eq_self, not_false_eq_true, not_true_eq_false, true_and, and_true, List.cons_append, List.nil_append, List.append_nil, b2_0, b2_1, b2_01, Classical.not_not]
  | succ f ih =>
    intro i b h0 h1 h2 h3
    have hi : i < m 101 2 := by omega
    have w1 : w32 (i + 1) = i + 1 := w32_id (by omega) (by omega)
    have w2 : w32 (b + 1) = b + 1 := w32_id (by omega) (by omega)
    have y188 := fun (Q : Ds → Mm → List MV → Prop) => e188 (tl := tl) (Q := Q) (i := i) S ⟨h0, by omega⟩ (hC i h0 hi)
    by_cases hu : 0 < m 105 (m 102 (6 * i + 1))
    · simp only [b2_t hu] at y188
      have r1 := ih (i + 1) (b + 1) (by omega) (by omega) (by omega) (by omega)
      rw [p187_27]
      simp only [p187_28, p187_31, p187_34, p187_36, p187_37, p187_40, p187_41, p187_42, p187_45, p187_46, p187_48, p187_51, p187_54, p187_56, p187_59, p187_60, p187_61, p187_64, p187_65, p187_66, p187_69, p187_70, p187_71, p187_72, p187_75, p187_76, p187_79, p187_81, p187_83, p187_84, p187_85, p187_88, p187_89, p187_92, p187_93, p187_95, p187_97, p187_99, p187_102, p187_103, p187_106, p187_107, p187_108, p187_110, p187_113, p187_116, K_70, K_72, L_72, K_73, L_73, K_74, L_74, K_75, L_75, K_76, L_76, K_86, L_86, K_87, L_87, K_88, L_88, K_89, L_89, K_90, L_90, K_91, L_91, K_92, L_92, K_93, L_93, K_94, L_94, K_95, L_95, K_96, L_96, K_97, L_97, K_98, L_98, K_99, L_99, K_100, L_100, K_101, L_101, K_102, L_102, K_103, L_103, K_104, L_104, K_105, L_105, K_106, L_106, K_107, L_107, K_108, L_108, K_109, L_109, sh_70_1 S, sh_70_2 S, sh_70_3 S, sh_70_4 S, sh_70_5 S, sh_70_17 S, sh_70_18 S, sh_70_19 S, sh_70_20 S, sh_70_21 S, sh_70_22 S, sh_70_23 S, sh_70_27 S, sh_70_28 S, sh_70_29 S, sh_70_31 S, sh_70_32 S, sh_70_33 S, sh_70_34 S, sh_70_35 S, sh_70_36 S, sh_70_37 S, sh_70_38 S, sh_70_39 S, sh_70_40 S, sh_70_41 S, sh_70_42 S, sh_70_43 S, sh_70_44 S, hr, hr', hi, y188, w1, w2, Int.add_zero, ha, r1, b2_T, b2_F, Int.reduceEq, Int.reduceLT, Int.reduceLE, Int.reduceAdd, Int.reduceSub, Int.reduceMul, Int.reduceNeg, reduceIte, if_true, if_false, true_or, or_true, false_or, or_false, false_and, and_false, eq_self, not_false_eq_true, not_true_eq_false, true_and, and_true, List.cons_append, List.nil_append, List.append_nil, b2_0, b2_1, b2_01, Classical.not_not]
    · simp only [b2_f hu] at y188
      have r1 := ih (i + 1) b (by omega) (by omega) (by omega) (by omega)
      rw [p187_27]
      simp only [p187_28, p187_31, p187_34, p187_36, p187_37, p187_40, p187_41, p187_42, p187_45, p187_46, p187_48, p187_51, p187_54, p187_56, p187_59, p187_60, p187_61, p187_64, p187_65, p187_66, p187_69, p187_70, p187_71, p187_72, p187_75, p187_76, p187_79, p187_81, p187_83, p187_84, p187_85, p187_88, p187_89, p187_92, p187_93, p187_95, p187_97, p187_99, p187_102, p187_103, p187_106, p187_107, p187_108, p187_110, p187_113, p187_116, K_70, K_72, L_72, K_73, L_73, K_74, L_74, K_75, L_75, K_76, L_76, K_86, L_86, K_87, L_87, K_88, L_88, K_89, L_89, K_90, L_90, K_91, L_91, K_92, L_92, K_93, L_93, K_94, L_94, K_95, L_95, K_96, L_96, K_97, L_97, K_98, L_98, K_99, L_99, K_100, L_100, K_101, L_101, K_102, L_102, K_103, L_103, K_104, L_104, K_105, L_105, K_106, L_106, K_107, L_107, K_108, L_108, K_109, L_109, sh_70_1 S, sh_70_2 S, sh_70_3 S, sh_70_4 S, sh_70_5 S, sh_70_17 S, sh_70_18 S, sh_70_19 S, sh_70_20 S, sh_70_21 S, sh_70_22 S, sh_70_23 S, sh_70_27 S, sh_70_28 S, sh_70_29 S, sh_70_31 S, sh_70_32 S, sh_70_33 S, sh_70_34 S, sh_70_35 S, sh_70_36 S, sh_70_37 S, sh_70_38 S, sh_70_39 S, sh_70_40 S, sh_70_41 S, sh_70_42 S, sh_70_43 S, sh_70_44 S, hr, hr', hi, y188, w1, r1, b2_T, b2_F, Int.reduceEq, Int.reduceLT, Int.reduceLE, Int.reduceAdd, Int.reduceSub, Int.reduceMul, Int.reduceNeg, reduceIte, if_true, if_false, true_or, or_true, false_or, or_false, false_and, and_false, eq_self, not_false_eq_true, not_true_eq_false, true_and, and_true, List.cons_append, List.nil_append, List.append_nil, b2_0, b2_1, b2_01, Classical.not_not]
theorem e187l (S : Sh m) (hs : isH s) (h81 : m 81 s = n) (hn : 0 ≤ n ∧ n ≤ 100) (hr : 0 < m 70 10) (hc : m 101 2 ≤ 1000) (hC : ∀ i, 0 ≤ i → i < m 101 2 → isC (m 102 (6 * i + 1)) ∧ 0 ≤ m 105 (m 102 (6 * i + 1))) (hE : ∀ k, 0 ≤ k → k < n → ji (m 82 (100 * s + k)) = E k) : ∀ (f : Nat) (i a : Int), 0 ≤ i → i + f = m 101 2 → 0 ≤ a → a ≤ i → WP 187 27 [(2, 70), (0, s), (0, 0), (0, a), (0, a), (0, 1), (0, i)] [] (dsB ++ tl) m Q = Q (dsB ++ tl) m [(0, tuF (fun i => m 105 (m 102 (6 * i + 1))) (fun i => m 102 (6 * i)) E n f i a)] := by
  have hr' : ¬ m 70 10 ≤ 0 := by omega
  intro f
  induction f with
  | zero =>
    intro i a h0 h1 h2 h3
    have hi : ¬ i < m 101 2 := by omega
    have e : tuF (fun i => m 105 (m 102 (6 * i + 1))) (fun i => m 102 (6 * i)) E n 0 i a = if a = n then 1000 else a := rfl
    rw [e]
    by_cases ha : a = n
    · rw [if_pos ha]
      simp only [p187_27, p187_28, p187_31, p187_34, p187_36, p187_37, p187_40, p187_41, p187_42, p187_119, p187_121, p187_124, p187_125, p187_126, p187_129, p187_130, p187_131, p187_134, p187_137, p187_140, p187_142, K_70, K_72, L_72, K_73, L_73, K_74, L_74, K_75, L_75, K_76, L_76, K_86, L_86, K_87, L_87, K_88, L_88, K_89, L_89, K_90, L_90, K_91, L_91, K_92, L_92, K_93, L_93, K_94, L_94, K_95, L_95, K_96, L_96, K_97, L_97, K_98, L_98, K_99, L_99, K_100, L_100, K_101, L_101, K_102, L_102, K_103, L_103, K_104, L_104, K_105, L_105, K_106, L_106, K_107, L_107, K_108, L_108, K_109, L_109, sh_70_1 S, sh_70_2 S, sh_70_3 S, sh_70_4 S, sh_70_5 S, sh_70_17 S, sh_70_18 S, sh_70_19 S, sh_70_20 S, sh_70_21 S, sh_70_22 S, sh_70_23 S, sh_70_27 S, sh_70_28 S, sh_70_29 S, sh_70_31 S, sh_70_32 S, sh_70_33 S, sh_70_34 S, sh_70_35 S, sh_70_36 S, sh_70_37 S, sh_70_38 S, sh_70_39 S, sh_70_40 S, sh_70_41 S, sh_70_42 S, sh_70_43 S, sh_70_44 S, K_81, L_81, sh_70_12 S, hs.1, hs.2, h81, hr, hr', hi, ha, b2_T, b2_F, Int.reduceEq, Int.reduceLT, Int.reduceLE, Int.reduceAdd, Int.reduceSub, Int.reduceMul, Int.reduceNeg, reduceIte, if_true, if_false, true_or, or_true, false_or, or_false, false_and, and_false, eq_self, not_false_eq_true, not_true_eq_false, true_and, and_true, List.cons_append, List.nil_append, List.append_nil, b2_0, b2_1, b2_01, Classical.not_not]
    · rw [if_neg ha]
      simp only [p187_27, p187_28, p187_31, p187_34, p187_36, p187_37, p187_40, p187_41, p187_42, p187_119, p187_121, p187_124, p187_125, p187_126, p187_129, p187_130, p187_131, p187_134, p187_137, p187_140, p187_142, K_70, K_72, L_72, K_73, L_73, K_74, L_74, K_75, L_75, K_76, L_76, K_86, L_86, K_87, L_87, K_88, L_88, K_89, L_89, K_90, L_90, K_91, L_91, K_92, L_92, K_93, L_93, K_94, L_94, K_95, L_95, K_96, L_96, K_97, L_97, K_98, L_98, K_99, L_99, K_100, L_100, K_101, L_101, K_102, L_102, K_103, L_103, K_104, L_104, K_105, L_105, K_106, L_106, K_107, L_107, K_108, L_108, K_109, L_109, sh_70_1 S, sh_70_2 S, sh_70_3 S, sh_70_4 S, sh_70_5 S, sh_70_17 S, sh_70_18 S, sh_70_19 S, sh_70_20 S, sh_70_21 S, sh_70_22 S, sh_70_23 S, sh_70_27 S, sh_70_28 S, sh_70_29 S, sh_70_31 S, sh_70_32 S, sh_70_33 S, sh_70_34 S, sh_70_35 S, sh_70_36 S, sh_70_37 S, sh_70_38 S, sh_70_39 S, sh_70_40 S, sh_70_41 S, sh_70_42 S, sh_70_43 S, sh_70_44 S, K_81, L_81, sh_70_12 S, hs.1, hs.2, h81, hr, hr', hi, ha, b2_T, b2_F, Int.reduceEq, Int.reduceLT, Int.reduceLE, Int.reduceAdd, Int.reduceSub, Int.reduceMul, Int.reduceNeg, reduceIte, if_true, if_false, true_or, or_true, false_or, or_false, false_and, and_false, eq_self, not_false_eq_true, not_true_eq_false, true_and, and_true, List.cons_append, List.nil_append, List.append_nil, b2_0, b2_1, b2_01, Classical.not_not]
  | succ f ih =>
    intro i a h0 h1 h2 h3
    have hi : i < m 101 2 := by omega
    have w1 : w32 (i + 1) = i + 1 := w32_id (by omega) (by omega)
    have w2 : w32 (a + 1) = a + 1 := w32_id (by omega) (by omega)
    have w3 : w32 (6 * i) = 6 * i := w32_id (by omega) (by omega)
    have w4 : w32 a = a := w32_id (by omega) (by omega)
    have v1 : 0 ≤ 6 * i := by omega
    have v2 : 6 * i < 18000 := by omega
    have hCi := hC i h0 hi
    have y188 := fun (Q : Ds → Mm → List MV → Prop) => e188 (tl := tl) (Q := Q) (i := i) S ⟨h0, by omega⟩ hCi.1
    have yn := fun (f' : Nat) (h : i + 1 + f' = m 101 2) (Q : Ds → Mm → List MV → Prop) => e187n (tl := tl) (Q := Q) (s := s) (a := a) S w4 hr hc (fun i i0 i1 => (hC i i0 i1).1) f' (i + 1) (a + 1) (by omega) h (by omega) (by omega)
    have yn2 := yn f (by omega)
    rw [tuF_s]
    by_cases hu : m 105 (m 102 (6 * i + 1)) = 0
    · rw [if_pos hu]
      simp only [b2_f (show ¬ 0 < m 105 (m 102 (6 * i + 1)) by omega)] at y188
      have r1 := ih (i + 1) a (by omega) (by omega) h2 (by omega)
      rw [p187_27]
      simp only [p187_28, p187_31, p187_34, p187_36, p187_37, p187_40, p187_41, p187_42, p187_45, p187_46, p187_48, p187_51, p187_54, p187_56, p187_59, p187_60, p187_61, p187_64, p187_65, p187_66, p187_69, p187_70, p187_71, p187_72, p187_75, p187_76, p187_79, p187_81, p187_83, p187_84, p187_85, p187_88, p187_89, p187_92, p187_93, p187_95, p187_97, p187_99, p187_102, p187_103, p187_106, p187_107, p187_108, p187_110, p187_113, p187_116, K_70, K_72, L_72, K_73, L_73, K_74, L_74, K_75, L_75, K_76, L_76, K_86, L_86, K_87, L_87, K_88, L_88, K_89, L_89, K_90, L_90, K_91, L_91, K_92, L_92, K_93, L_93, K_94, L_94, K_95, L_95, K_96, L_96, K_97, L_97, K_98, L_98, K_99, L_99, K_100, L_100, K_101, L_101, K_102, L_102, K_103, L_103, K_104, L_104, K_105, L_105, K_106, L_106, K_107, L_107, K_108, L_108, K_109, L_109, sh_70_1 S, sh_70_2 S, sh_70_3 S, sh_70_4 S, sh_70_5 S, sh_70_17 S, sh_70_18 S, sh_70_19 S, sh_70_20 S, sh_70_21 S, sh_70_22 S, sh_70_23 S, sh_70_27 S, sh_70_28 S, sh_70_29 S, sh_70_31 S, sh_70_32 S, sh_70_33 S, sh_70_34 S, sh_70_35 S, sh_70_36 S, sh_70_37 S, sh_70_38 S, sh_70_39 S, sh_70_40 S, sh_70_41 S, sh_70_42 S, sh_70_43 S, sh_70_44 S, hr, hr', hi, y188, w1, r1, b2_T, b2_F, Int.reduceEq, Int.reduceLT, Int.reduceLE, Int.reduceAdd, Int.reduceSub, Int.reduceMul, Int.reduceNeg, reduceIte, if_true, if_false, true_or, or_true, false_or, or_false, false_and, and_false, eq_self, not_false_eq_true, not_true_eq_false, true_and, and_true, List.cons_append, List.nil_append, List.append_nil, b2_0, b2_1, b2_01, Classical.not_not]
    · rw [if_neg hu]
      simp only [b2_t (show 0 < m 105 (m 102 (6 * i + 1)) by omega)] at y188
      by_cases ha : a < n
      · have y148 := fun (Q : Ds → Mm → List MV → Prop) => e148 (tl := tl) (Q := Q) (i := a) S hs ⟨h2, by omega⟩
        rw [hE a h2 ha] at y148
        by_cases he : E a = m 102 (6 * i)
        · rw [if_pos ⟨ha, he⟩]
          have r1 := ih (i + 1) (a + 1) (by omega) (by omega) (by omega) (by omega)
          rw [p187_27]
          simp only [p187_28, p187_31, p187_34, p187_36, p187_37, p187_40, p187_41, p187_42, p187_45, p187_46, p187_48, p187_51, p187_54, p187_56, p187_59, p187_60, p187_61, p187_64, p187_65, p187_66, p187_69, p187_70, p187_71, p187_72, p187_75, p187_76, p187_79, p187_81, p187_83, p187_84, p187_85, p187_88, p187_89, p187_92, p187_93, p187_95, p187_97, p187_99, p187_102, p187_103, p187_106, p187_107, p187_108, p187_110, p187_113, p187_116, K_70, K_72, L_72, K_73, L_73, K_74, L_74, K_75, L_75, K_76, L_76, K_86, L_86, K_87, L_87, K_88, L_88, K_89, L_89, K_90, L_90, K_91, L_91, K_92, L_92, K_93, L_93, K_94, L_94, K_95, L_95, K_96, L_96, K_97, L_97, K_98, L_98, K_99, L_99, K_100, L_100, K_101, L_101, K_102, L_102, K_103, L_103, K_104, L_104, K_105, L_105, K_106, L_106, K_107, L_107, K_108, L_108, K_109, L_109, sh_70_1 S, sh_70_2 S, sh_70_3 S, sh_70_4 S, sh_70_5 S, sh_70_17 S, sh_70_18 S, sh_70_19 S, sh_70_20 S, sh_70_21 S, sh_70_22 S, sh_70_23 S, sh_70_27 S, sh_70_28 S, sh_70_29 S, sh_70_31 S, sh_70_32 S, sh_70_33 S, sh_70_34 S, sh_70_35 S, sh_70_36 S, sh_70_37 S, sh_70_38 S, sh_70_39 S, sh_70_40 S, sh_70_41 S, sh_70_42 S, sh_70_43 S, sh_70_44 S, K_81, L_81, sh_70_12 S, hs.1, hs.2, h81, hr, hr', hi, y188, y148, ha, he, v1, v2, w1, w2, w3, r1, b2_T, b2_F, Int.reduceEq, Int.reduceLT, Int.reduceLE, Int.reduceAdd, Int.reduceSub, Int.reduceMul, Int.reduceNeg, reduceIte, if_true, if_false, true_or, or_true, false_or, or_false, false_and, and_false, eq_self, not_false_eq_true, not_true_eq_false, true_and, and_true, List.cons_append, List.nil_append, List.append_nil, b2_0, b2_1, b2_01, Classical.not_not]
        · rw [if_neg (fun y => he y.2)]
          rw [p187_27]
          simp only [p187_28, p187_31, p187_34, p187_36, p187_37, p187_40, p187_41, p187_42, p187_45, p187_46, p187_48, p187_51, p187_54, p187_56, p187_59, p187_60, p187_61, p187_64, p187_65, p187_66, p187_69, p187_70, p187_71, p187_72, p187_75, p187_76, p187_79, p187_81, p187_83, p187_84, p187_85, p187_88, p187_89, p187_92, p187_93, p187_95, p187_97, p187_99, p187_102, p187_103, p187_106, p187_107, p187_108, p187_110, p187_113, p187_116, K_70, K_72, L_72, K_73, L_73, K_74, L_74, K_75, L_75, K_76, L_76, K_86, L_86, K_87, L_87, K_88, L_88, K_89, L_89, K_90, L_90, K_91, L_91, K_92, L_92, K_93, L_93, K_94, L_94, K_95, L_95, K_96, L_96, K_97, L_97, K_98, L_98, K_99, L_99, K_100, L_100, K_101, L_101, K_102, L_102, K_103, L_103, K_104, L_104, K_105, L_105, K_106, L_106, K_107, L_107, K_108, L_108, K_109, L_109, sh_70_1 S, sh_70_2 S, sh_70_3 S, sh_70_4 S, sh_70_5 S, sh_70_17 S, sh_70_18 S, sh_70_19 S, sh_70_20 S, sh_70_21 S, sh_70_22 S, sh_70_23 S, sh_70_27 S, sh_70_28 S, sh_70_29 S, sh_70_31 S, sh_70_32 S, sh_70_33 S, sh_70_34 S, sh_70_35 S, sh_70_36 S, sh_70_37 S, sh_70_38 S, sh_70_39 S, sh_70_40 S, sh_70_41 S, sh_70_42 S, sh_70_43 S, sh_70_44 S, K_81, L_81, sh_70_12 S, hs.1, hs.2, h81, hr, hr', hi, y188, y148, ha, he, v1, v2, w1, w2, w3, w4, Int.add_zero, yn2, b2_T, b2_F, Int.reduceEq, Int.reduceLT, Int.reduceLE, Int.reduceAdd, Int.reduceSub, Int.reduceMul, Int.reduceNeg, reduceIte, if_true, if_false, true_or, or_true, false_or, or_false, false_and, and_false, eq_self, not_false_eq_true, not_true_eq_false, true_and, and_true, List.cons_append, List.nil_append, List.append_nil, b2_0, b2_1, b2_01, Classical.not_not]
      · rw [if_neg (fun y => ha y.1)]
        rw [p187_27]
        simp only [p187_28, p187_31, p187_34, p187_36, p187_37, p187_40, p187_41, p187_42, p187_45, p187_46, p187_48, p187_51, p187_54, p187_56, p187_59, p187_60, p187_61, p187_64, p187_65, p187_66, p187_69, p187_70, p187_71, p187_72, p187_75, p187_76, p187_79, p187_81, p187_83, p187_84, p187_85, p187_88, p187_89, p187_92, p187_93, p187_95, p187_97, p187_99, p187_102, p187_103, p187_106, p187_107, p187_108, p187_110, p187_113, p187_116, K_70, K_72, L_72, K_73, L_73, K_74, L_74, K_75, L_75, K_76, L_76, K_86, L_86, K_87, L_87, K_88, L_88, K_89, L_89, K_90, L_90, K_91, L_91, K_92, L_92, K_93, L_93, K_94, L_94, K_95, L_95, K_96, L_96, K_97, L_97, K_98, L_98, K_99, L_99, K_100, L_100, K_101, L_101, K_102, L_102, K_103, L_103, K_104, L_104, K_105, L_105, K_106, L_106, K_107, L_107, K_108, L_108, K_109, L_109, sh_70_1 S, sh_70_2 S, sh_70_3 S, sh_70_4 S, sh_70_5 S, sh_70_17 S, sh_70_18 S, sh_70_19 S, sh_70_20 S, sh_70_21 S, sh_70_22 S, sh_70_23 S, sh_70_27 S, sh_70_28 S, sh_70_29 S, sh_70_31 S, sh_70_32 S, sh_70_33 S, sh_70_34 S, sh_70_35 S, sh_70_36 S, sh_70_37 S, sh_70_38 S, sh_70_39 S, sh_70_40 S, sh_70_41 S, sh_70_42 S, sh_70_43 S, sh_70_44 S, K_81, L_81, sh_70_12 S, hs.1, hs.2, h81, hr, hr', hi, y188, ha, w1, w2, w4, Int.add_zero, yn2, b2_T, b2_F, Int.reduceEq, Int.reduceLT, Int.reduceLE, Int.reduceAdd, Int.reduceSub, Int.reduceMul, Int.reduceNeg, reduceIte, if_true, if_false, true_or, or_true, false_or, or_false, false_and, and_false, eq_self, not_false_eq_true, not_true_eq_false, true_and, and_true, List.cons_append, List.nil_append, List.append_nil, b2_0, b2_1, b2_01, Classical.not_not]
theorem e87n (S : Sh m) (h : ¬ isH s ∨ m 1 s = -1) (hw : w = -1 ∨ w = -2 ∨ w = -3) (hn : nrA m s = w) : WP 87 0 [(2, 0), (0, s), (3, 0), (3, 0), (3, 0), (3, 0)] [] (dsB ++ tl) m Q = Q (dsB ++ tl) (rf m 3 (-w)) [(0, w)] := by
  have y97 := fun (Q : Ds → Mm → List MV → Prop) => e97 (tl := tl) (Q := Q) (s := s) S
  rw [hn] at y97
  simp only [p87_0, p87_1, p87_2, p87_5, p87_6, p87_7, p87_10, p87_11, p87_12, p87_13, p87_16, p87_19, p87_20, e96n S h, y97, e95 S (show -7 ≤ w ∧ w ≤ -1 by omega), K_0, K_3, L_3, sh_0_0 S, sh_0_1 S, sh_0_2 S, sh_0_3 S, sh_0_4 S, sh_0_5 S, sh_0_7 S, sh_0_8 S, sh_0_10 S, sh_0_12 S, sh_0_14 S, sh_0_15 S, b2_T, b2_F, Int.reduceEq, Int.reduceLT, Int.reduceLE, Int.reduceAdd, Int.reduceSub, Int.reduceMul, Int.reduceNeg, reduceIte, if_true, if_false, true_or, or_true, false_or, or_false, false_and, and_false, eq_self, not_false_eq_true, not_true_eq_false, true_and, and_true, List.cons_append, List.nil_append, List.append_nil, b2_0, b2_1, b2_01, Classical.not_not]
theorem e187r (S : Sh m) (hw : w = -1 ∨ w = -2 ∨ w = -3) (hr : rlA m s = w) : WP 187 0 [(2, 70), (0, s), (3, 0), (3, 0), (3, 0), (3, 0), (3, 0)] [] (dsB ++ tl) m Q = Q (dsB ++ tl) (rf m 71 (-w)) [(0, w)] := by
  have y141 := fun (Q : Ds → Mm → List MV → Prop) => e141 (tl := tl) (Q := Q) (s := s) S
  rw [hr] at y141
  have w0 : ¬ w = 0 := by omega
  simp only [p187_0, p187_1, p187_2, p187_5, p187_6, p187_7, p187_10, p187_11, p187_12, p187_15, p187_16, y141, e121 S (show -7 ≤ w ∧ w ≤ -1 by omega), K_70, w0, b2_T, b2_F, Int.reduceEq, Int.reduceLT, Int.reduceLE, Int.reduceAdd, Int.reduceSub, Int.reduceMul, Int.reduceNeg, reduceIte, if_true, if_false, true_or, or_true, false_or, or_false, false_and, and_false, eq_self, not_false_eq_true, not_true_eq_false, true_and, and_true, List.cons_append, List.nil_append, List.append_nil, b2_0, b2_1, b2_01, Classical.not_not]
theorem call_tune (J : JS ds m m n) : CALL 87 187 [(2, 0), (0, s), (3, 0), (3, 0), (3, 0), (3, 0)] [(2, 70), (0, s), (3, 0), (3, 0), (3, 0), (3, 0), (3, 0)] ds m n := by
  obtain ⟨tl, rfl⟩ := J.Dt
  have S := J.S
  rcases SK_row J.Hv s with ⟨hs, R⟩ | ⟨h0, w, hw, hn, hr⟩
  · have zz := R.z
    have l := R.l
    have r := R.r
    have rl := rlA_row hs R
    have r0 : ¬ m 1 s < 0 := by omega
    have rn := J.Rn
    obtain ⟨E, hE⟩ : ∃ E : Int → Int, ∀ k, E k = ji (m 82 (100 * s + k)) := ⟨fun k => ji (m 82 (100 * s + k)), fun _ => rfl⟩
    have hE1 : ∀ k, 0 ≤ k → k < m 81 s → ji (m (m (m 1 s) 1) k) = E k := fun k k0 k1 => by
      rw [hE, R.a, R.e k k0 k1]
    have cn := lt_cn J.Lt
    have ya := fun (Q : Ds → Mm → List MV → Prop) => e87l (tl := tl) (Q := Q) (s := s) S cn r zz hE1 (m 35 4).toNat 0 0 (by omega) (by omega) (by omega) (by omega)
    have y96 := fun (Q : Ds → Mm → List MV → Prop) => e96r (tl := tl) (Q := Q) S hs rfl
    have hA : ∀ Q, WP 87 0 [(2, 0), (0, s), (3, 0), (3, 0), (3, 0), (3, 0)] [] (dsB ++ tl) m Q = Q (dsB ++ tl) m [(0, tuF (fun i => jand (m 39 i) 4) (m 36) E (m 81 s) (m 35 4).toNat 0 0)] := fun Q => by
      rw [← ya Q]
      simp only [p87_0, p87_1, p87_2, p87_5, p87_6, p87_7, p87_10, p87_11, p87_12, p87_13, p87_16, p87_19, p87_20, p87_21, p87_24, p87_27, p87_28, p87_29, p87_31, p87_32, K_0, K_3, L_3, sh_0_0 S, sh_0_1 S, sh_0_2 S, sh_0_3 S, sh_0_4 S, sh_0_5 S, sh_0_7 S, sh_0_8 S, sh_0_10 S, sh_0_12 S, sh_0_14 S, sh_0_15 S, K_27, K_28, L_28, K_29, L_29, K_30, L_30, K_31, L_31, K_32, L_32, K_33, L_33, K_34, K_35, K_36, L_36, K_37, L_37, K_38, L_38, K_39, L_39, K_40, K_41, L_41, K_42, L_42, K_43, L_43, K_44, L_44, K_45, L_45, K_46, L_46, K_47, L_47, K_48, L_48, K_49, L_49, K_50, L_50, K_51, L_51, K_52, K_53, K_54, L_54, K_55, L_55, K_56, L_56, K_57, L_57, K_58, K_59, L_59, K_60, L_60, K_61, L_61, K_62, L_62, K_63, L_63, K_64, L_64, K_65, L_65, K_66, L_66, K_67, L_67, K_68, L_68, K_69, L_69, sh_27_0 S, sh_27_1 S, sh_27_2 S, sh_27_3 S, sh_27_4 S, sh_27_5 S, sh_34_0 S, sh_34_1 S, sh_34_2 S, sh_34_3 S, sh_34_4 S, sh_34_5 S, sh_34_6 S, sh_34_7 S, sh_35_0 S, sh_35_1 S, sh_35_2 S, sh_35_3 S, sh_40_0 S, sh_40_1 S, sh_40_2 S, sh_40_3 S, sh_40_4 S, sh_40_5 S, sh_52_0 S, sh_52_1 S, sh_52_2 S, sh_52_3 S, sh_52_4 S, sh_52_5 S, sh_52_6 S, sh_52_7 S, sh_53_0 S, sh_53_1 S, sh_53_2 S, sh_53_3 S, sh_58_0 S, sh_58_1 S, sh_58_2 S, sh_58_3 S, sh_58_4 S, sh_58_5 S, y96, r0, b2_T, b2_F, Int.reduceEq, Int.reduceLT, Int.reduceLE, Int.reduceAdd, Int.reduceSub, Int.reduceMul, Int.reduceNeg, reduceIte, if_true, if_false, true_or, or_true, false_or, or_false, false_and, and_false, eq_self, not_false_eq_true, not_true_eq_false, true_and, and_true, List.cons_append, List.nil_append, List.append_nil, b2_0, b2_1, b2_01, Classical.not_not]
    have y141 := fun (Q : Ds → Mm → List MV → Prop) => e141 (tl := tl) (Q := Q) (s := s) S
    rw [rl] at y141
    have st : ∀ Q, WP 187 0 [(2, 70), (0, s), (3, 0), (3, 0), (3, 0), (3, 0), (3, 0)] [] (dsB ++ tl) m Q = WP 187 27 [(2, 70), (0, s), (0, 0), (0, 0), (0, 0), (0, 1), (0, 0)] [] (dsB ++ tl) m Q := fun Q => by
      simp only [p187_0, p187_1, p187_2, p187_5, p187_6, p187_7, p187_10, p187_11, p187_12, p187_15, p187_16, p187_17, p187_18, p187_19, p187_21, p187_22, p187_24, p187_25, y141, K_70, b2_T, b2_F, Int.reduceEq, Int.reduceLT, Int.reduceLE, Int.reduceAdd, Int.reduceSub, Int.reduceMul, Int.reduceNeg, reduceIte, if_true, if_false, true_or, or_true, false_or, or_false, false_and, and_false, eq_self, not_false_eq_true, not_true_eq_false, true_and, and_true, List.cons_append, List.nil_append, List.append_nil, b2_0, b2_1, b2_01, Classical.not_not]
    refine CALL_rd J hA (fun Q => ?_)
    rw [st Q]
    rcases J.Lt with ⟨h6, h35⟩ | ⟨h6, L⟩
    · have h10 : m 70 10 ≤ 0 := by omega
      have h10' : ¬ 0 < m 70 10 := by omega
      have e : tuF (fun i => jand (m 39 i) 4) (m 36) E (m 81 s) (m 35 4).toNat 0 0 = if 0 = m 81 s then 1000 else 0 := by
        rw [h35]
        rfl
      rw [e]
      by_cases ha : 0 = m 81 s
      · rw [if_pos ha]
        simp only [p187_27, p187_28, p187_31, p187_34, p187_36, p187_37, p187_40, p187_41, p187_42, p187_119, p187_121, p187_124, p187_125, p187_126, p187_129, p187_130, p187_131, p187_134, p187_137, p187_140, p187_142, K_70, K_72, L_72, K_73, L_73, K_74, L_74, K_75, L_75, K_76, L_76, K_86, L_86, K_87, L_87, K_88, L_88, K_89, L_89, K_90, L_90, K_91, L_91, K_92, L_92, K_93, L_93, K_94, L_94, K_95, L_95, K_96, L_96, K_97, L_97, K_98, L_98, K_99, L_99, K_100, L_100, K_101, L_101, K_102, L_102, K_103, L_103, K_104, L_104, K_105, L_105, K_106, L_106, K_107, L_107, K_108, L_108, K_109, L_109, sh_70_1 S, sh_70_2 S, sh_70_3 S, sh_70_4 S, sh_70_5 S, sh_70_17 S, sh_70_18 S, sh_70_19 S, sh_70_20 S, sh_70_21 S, sh_70_22 S, sh_70_23 S, sh_70_27 S, sh_70_28 S, sh_70_29 S, sh_70_31 S, sh_70_32 S, sh_70_33 S, sh_70_34 S, sh_70_35 S, sh_70_36 S, sh_70_37 S, sh_70_38 S, sh_70_39 S, sh_70_40 S, sh_70_41 S, sh_70_42 S, sh_70_43 S, sh_70_44 S, K_81, L_81, sh_70_12 S, hs.1, hs.2, h10, h10', ← ha, b2_T, b2_F, Int.reduceEq, Int.reduceLT, Int.reduceLE, Int.reduceAdd, Int.reduceSub, Int.reduceMul, Int.reduceNeg, reduceIte, if_true, if_false, true_or, or_true, false_or, or_false, false_and, and_false, eq_self, not_false_eq_true, not_true_eq_false, true_and, and_true, List.cons_append, List.nil_append, List.append_nil, b2_0, b2_1, b2_01, Classical.not_not]
      · rw [if_neg ha]
        simp only [p187_27, p187_28, p187_31, p187_34, p187_36, p187_37, p187_40, p187_41, p187_42, p187_119, p187_121, p187_124, p187_125, p187_126, p187_129, p187_130, p187_131, p187_134, p187_137, p187_140, p187_142, K_70, K_72, L_72, K_73, L_73, K_74, L_74, K_75, L_75, K_76, L_76, K_86, L_86, K_87, L_87, K_88, L_88, K_89, L_89, K_90, L_90, K_91, L_91, K_92, L_92, K_93, L_93, K_94, L_94, K_95, L_95, K_96, L_96, K_97, L_97, K_98, L_98, K_99, L_99, K_100, L_100, K_101, L_101, K_102, L_102, K_103, L_103, K_104, L_104, K_105, L_105, K_106, L_106, K_107, L_107, K_108, L_108, K_109, L_109, sh_70_1 S, sh_70_2 S, sh_70_3 S, sh_70_4 S, sh_70_5 S, sh_70_17 S, sh_70_18 S, sh_70_19 S, sh_70_20 S, sh_70_21 S, sh_70_22 S, sh_70_23 S, sh_70_27 S, sh_70_28 S, sh_70_29 S, sh_70_31 S, sh_70_32 S, sh_70_33 S, sh_70_34 S, sh_70_35 S, sh_70_36 S, sh_70_37 S, sh_70_38 S, sh_70_39 S, sh_70_40 S, sh_70_41 S, sh_70_42 S, sh_70_43 S, sh_70_44 S, K_81, L_81, sh_70_12 S, hs.1, hs.2, h10, h10', ha, b2_T, b2_F, Int.reduceEq, Int.reduceLT, Int.reduceLE, Int.reduceAdd, Int.reduceSub, Int.reduceMul, Int.reduceNeg, reduceIte, if_true, if_false, true_or, or_true, false_or, or_false, false_and, and_false, eq_self, not_false_eq_true, not_true_eq_false, true_and, and_true, List.cons_append, List.nil_append, List.append_nil, b2_0, b2_1, b2_01, Classical.not_not]
    · have hr : 0 < m 70 10 := by omega
      have cc := L.cn
      have yb := e187l (tl := tl) (Q := Q) (E := E) S hs rfl zz hr cc.2 (fun i i0 i1 => ⟨(L.lb i i0 i1).1, (L.ri _ (L.lb i i0 i1).1).2⟩) (fun k _ _ => (hE k).symm) (m 101 2).toNat 0 0 (by omega) (by omega) (by omega) (by omega)
      rw [yb]
      refine q_eq ?_
      rw [L.lc]
      refine (tuF_cg _ _ _ (fun k k0 k1 => ?_)).symm
      have k1' : k < m 101 2 := by omega
      have l1 := L.lg k k0 k1'
      have l2 := L.lb k k0 k1'
      have jn := jnd (r := if m 105 (m 102 (6 * k + 1)) = 0 then 0 else 4) l2.2.2.2.1 l2.2.2.2.2 (by split <;> simp)
      refine ⟨?_, l1.1⟩
      show jand (m 39 k) 4 = 0 ↔ m 105 (m 102 (6 * k + 1)) = 0
      rw [l1.2.2.2, jn.2.2]
      by_cases hz : m 105 (m 102 (6 * k + 1)) = 0
      · rw [if_pos hz]
        exact ⟨fun _ => hz, fun _ => rfl⟩
      · rw [if_neg hz]
        exact ⟨fun y => absurd y (by decide), fun y => absurd y hz⟩
  · exact CALL_nr J hw hn hr (fun hn Q => e87n S h0 hw hn) (fun g Sg hg Q => e187r Sg hw hg)
end TUNE
