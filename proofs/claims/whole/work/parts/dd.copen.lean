/-! the class's run: balls roll: what is open, where they go on -/
def opn (g : Mm) (o f : Int) : Int := if ¬ g 95 o = -1 then 0 else if g 72 o = 0 then 1 else if g 72 o = 7 then g 94 o else if g 72 o = 9 then b2 (jand (jshr (g 73 o) f) 1 = 1) else 0
section COPEN
variable {tl : Ds} {m h g q G X : Mm} {Q : Ds → Mm → List MV → Prop} {r p n w v k j c s o f i t l ti wy b u a x : Int}
theorem opn_e : opn g o f = 0 ↔ (¬ g 95 o = -1 ∨ ¬ fre g o f) := by
  unfold opn fre
  by_cases h1 : g 95 o = -1
  · rw [if_neg (not_not_intro h1)]
    by_cases h2 : g 72 o = 0
    · rw [if_pos h2]
      constructor
      · intro y; omega
      · intro y
        rcases y with y | y
        · exact absurd h1 y
        · exact absurd (Or.inl h2) y
    · rw [if_neg h2]
      by_cases h3 : g 72 o = 7
      · rw [if_pos h3]
        constructor
        · intro y
          right
          intro z
          rcases z with z | z | z
          · exact h2 z
          · exact z.2 y
          · omega
        · intro y
          rcases y with y | y
          · exact absurd h1 y
          · exact Classical.byContradiction fun z => y (Or.inr (Or.inl ⟨h3, z⟩))
      · rw [if_neg h3]
        by_cases h4 : g 72 o = 9
        · rw [if_pos h4]
          by_cases h5 : jand (jshr (g 73 o) f) 1 = 1
          · rw [b2_t h5]
            constructor
            · intro y; omega
            · intro y
              rcases y with y | y
              · exact absurd h1 y
              · exact absurd (Or.inr (Or.inr ⟨h4, h5⟩)) y
          · rw [b2_f h5]
            constructor
            · intro y
              right
              intro z
              rcases z with z | z | z
              · exact h2 z
              · exact h3 z.1
              · exact h5 z.2
            · intro y; rfl
        · rw [if_neg h4]
          constructor
          · intro y
            right
            intro z
            rcases z with z | z | z
            · exact h2 z
            · exact h3 z.1
            · exact h4 z.1
          · intro y; rfl
  · rw [if_pos h1]
    constructor
    · intro y; left; exact h1
    · intro y; rfl
theorem e60_34 (R : RR m 34 p g w v) (T : GT g) (hp : p = 9 ∨ p = 18) (hc : isC o) : WP 60 0 [(2, 34), (0, o), (0, f)] [] (dsB ++ tl) m Q = Q (dsB ++ tl) m [(0, opn g o f)] := by
  have S := R.S
  have pp := R.pp
  have h := PAp (tl := tl) S hp
  have kp := h.1
  have e1 := R.P.k o hc
  have e2 := R.B.nu o hc
  have ea := R.P.a o hc
  have e5 := R.C.ch o hc
  have dn := T.dn o hc
  simp only [Int.reduceAdd] at e2 e5
  have c0 := hc.1
  have c1 := hc.2
  have x3 : ∀ Q : Ds → Mm → List MV → Prop, WP 3 0 [(2, 40), (0, o)] [] (dsB ++ tl) m Q = Q (dsB ++ tl) m [(0, g 95 o)] := fun Q => by
    rw [e3 (B := 40) S (by decide), if_pos hc]
    simp only [Int.reduceAdd]
    rw [e2]
  have e24' : ∀ Q : Ds → Mm → List MV → Prop, WP 24 0 [(2, p), (0, o)] [] (dsB ++ tl) m Q = Q (dsB ++ tl) m [(0, g 72 o)] := fun Q => by
    rw [e24 h, if_pos hc, e1]
  unfold opn
  by_cases h1 : g 95 o = -1
  · rw [if_neg (not_not_intro h1)]
    by_cases h2 : g 72 o = 0
    · rw [if_pos h2]
      simp only [p60_0, p60_1, p60_4, p60_7, p60_8, p60_11, p60_12, p60_15, p60_16, p60_19, p60_20, p60_21, p60_22, p60_25, p60_26, p60_29, p60_64, p60_65, p60_66, p60_67, p60_70, p60_71, p60_72, p60_73, p60_74, p60_77, p60_78, p60_79, p60_82, p60_83, p60_84, K_27, K_28, L_28, K_29, L_29, K_30, L_30, K_31, L_31, K_32, L_32, K_33, L_33, K_34, K_35, K_36, L_36, K_37, L_37, K_38, L_38, K_39, L_39, K_40, K_41, L_41, K_42, L_42, K_43, L_43, K_44, L_44, K_45, L_45, K_46, L_46, K_47, L_47, K_48, L_48, K_49, L_49, K_50, L_50, K_51, L_51, K_52, K_53, K_54, L_54, K_55, L_55, K_56, L_56, K_57, L_57, K_58, K_59, L_59, K_60, L_60, K_61, L_61, K_62, L_62, K_63, L_63, K_64, L_64, K_65, L_65, K_66, L_66, K_67, L_67, K_68, L_68, K_69, L_69, sh_27_0 S, sh_27_1 S, sh_27_2 S, sh_27_3 S, sh_27_4 S, sh_27_5 S, sh_34_0 S, sh_34_1 S, sh_34_2 S, sh_34_3 S, sh_34_4 S, sh_34_5 S, sh_34_6 S, sh_34_7 S, sh_35_0 S, sh_35_1 S, sh_35_2 S, sh_35_3 S, sh_40_0 S, sh_40_1 S, sh_40_2 S, sh_40_3 S, sh_40_4 S, sh_40_5 S, sh_52_0 S, sh_52_1 S, sh_52_2 S, sh_52_3 S, sh_52_4 S, sh_52_5 S, sh_52_6 S, sh_52_7 S, sh_53_0 S, sh_53_1 S, sh_53_2 S, sh_53_3 S, sh_58_0 S, sh_58_1 S, sh_58_2 S, sh_58_3 S, sh_58_4 S, sh_58_5 S, e107, b2_t hc, x3, pp, kp, e24', h1, h2, b2_T, b2_F, Int.reduceEq, Int.reduceLT, Int.reduceLE, Int.reduceAdd, Int.reduceSub, Int.reduceMul, Int.reduceNeg, reduceIte, if_true, if_false, true_or, or_true, false_or, or_false, false_and, and_false, eq_self, not_false_eq_true, not_true_eq_false, true_and, and_true, List.cons_append, List.nil_append, List.append_nil, b2_0, b2_1, b2_01, Classical.not_not]
    · rw [if_neg h2]
      by_cases h3 : g 72 o = 7
      · rw [if_pos h3]
        simp only [p60_0, p60_1, p60_4, p60_7, p60_8, p60_11, p60_12, p60_15, p60_16, p60_19, p60_20, p60_21, p60_22, p60_25, p60_26, p60_29, p60_64, p60_65, p60_66, p60_67, p60_70, p60_71, p60_72, p60_73, p60_74, p60_77, p60_78, p60_79, p60_82, p60_83, p60_84, K_27, K_28, L_28, K_29, L_29, K_30, L_30, K_31, L_31, K_32, L_32, K_33, L_33, K_34, K_35, K_36, L_36, K_37, L_37, K_38, L_38, K_39, L_39, K_40, K_41, L_41, K_42, L_42, K_43, L_43, K_44, L_44, K_45, L_45, K_46, L_46, K_47, L_47, K_48, L_48, K_49, L_49, K_50, L_50, K_51, L_51, K_52, K_53, K_54, L_54, K_55, L_55, K_56, L_56, K_57, L_57, K_58, K_59, L_59, K_60, L_60, K_61, L_61, K_62, L_62, K_63, L_63, K_64, L_64, K_65, L_65, K_66, L_66, K_67, L_67, K_68, L_68, K_69, L_69, sh_27_0 S, sh_27_1 S, sh_27_2 S, sh_27_3 S, sh_27_4 S, sh_27_5 S, sh_34_0 S, sh_34_1 S, sh_34_2 S, sh_34_3 S, sh_34_4 S, sh_34_5 S, sh_34_6 S, sh_34_7 S, sh_35_0 S, sh_35_1 S, sh_35_2 S, sh_35_3 S, sh_40_0 S, sh_40_1 S, sh_40_2 S, sh_40_3 S, sh_40_4 S, sh_40_5 S, sh_52_0 S, sh_52_1 S, sh_52_2 S, sh_52_3 S, sh_52_4 S, sh_52_5 S, sh_52_6 S, sh_52_7 S, sh_53_0 S, sh_53_1 S, sh_53_2 S, sh_53_3 S, sh_58_0 S, sh_58_1 S, sh_58_2 S, sh_58_3 S, sh_58_4 S, sh_58_5 S, e107, b2_t hc, x3, pp, kp, e24', h1, h3, e5, c0, c1, dn, b2_T, b2_F, Int.reduceEq, Int.reduceLT, Int.reduceLE, Int.reduceAdd, Int.reduceSub, Int.reduceMul, Int.reduceNeg, reduceIte, if_true, if_false, true_or, or_true, false_or, or_false, false_and, and_false, eq_self, not_false_eq_true, not_true_eq_false, true_and, and_true, List.cons_append, List.nil_append, List.append_nil, b2_0, b2_1, b2_01, Classical.not_not]
      · rw [if_neg h3]
        by_cases h4 : g 72 o = 9
        · rw [if_pos h4]
          have e31' : ∀ Q : Ds → Mm → List MV → Prop, WP 31 0 [(2, p), (0, o), (0, f)] [] (dsB ++ tl) m Q = Q (dsB ++ tl) m [(0, b2 (jand (jshr (g 73 o) f) 1 = 1))] := fun Q => by
            rw [e31 h, (ea (by omega)).1]
            exact q_eq (b2_cg ⟨fun x => x.2, fun x => ⟨hc, x⟩⟩)
          by_cases h5 : jand (jshr (g 73 o) f) 1 = 1
          · rw [b2_t h5]
            simp only [b2_t h5] at e31'
            simp only [p60_0, p60_1, p60_4, p60_7, p60_8, p60_11, p60_12, p60_15, p60_16, p60_19, p60_20, p60_21, p60_22, p60_25, p60_26, p60_29, p60_64, p60_65, p60_66, p60_67, p60_70, p60_71, p60_72, p60_73, p60_74, p60_77, p60_78, p60_79, p60_82, p60_83, p60_84, K_27, K_28, L_28, K_29, L_29, K_30, L_30, K_31, L_31, K_32, L_32, K_33, L_33, K_34, K_35, K_36, L_36, K_37, L_37, K_38, L_38, K_39, L_39, K_40, K_41, L_41, K_42, L_42, K_43, L_43, K_44, L_44, K_45, L_45, K_46, L_46, K_47, L_47, K_48, L_48, K_49, L_49, K_50, L_50, K_51, L_51, K_52, K_53, K_54, L_54, K_55, L_55, K_56, L_56, K_57, L_57, K_58, K_59, L_59, K_60, L_60, K_61, L_61, K_62, L_62, K_63, L_63, K_64, L_64, K_65, L_65, K_66, L_66, K_67, L_67, K_68, L_68, K_69, L_69, sh_27_0 S, sh_27_1 S, sh_27_2 S, sh_27_3 S, sh_27_4 S, sh_27_5 S, sh_34_0 S, sh_34_1 S, sh_34_2 S, sh_34_3 S, sh_34_4 S, sh_34_5 S, sh_34_6 S, sh_34_7 S, sh_35_0 S, sh_35_1 S, sh_35_2 S, sh_35_3 S, sh_40_0 S, sh_40_1 S, sh_40_2 S, sh_40_3 S, sh_40_4 S, sh_40_5 S, sh_52_0 S, sh_52_1 S, sh_52_2 S, sh_52_3 S, sh_52_4 S, sh_52_5 S, sh_52_6 S, sh_52_7 S, sh_53_0 S, sh_53_1 S, sh_53_2 S, sh_53_3 S, sh_58_0 S, sh_58_1 S, sh_58_2 S, sh_58_3 S, sh_58_4 S, sh_58_5 S, e107, b2_t hc, x3, pp, kp, e24', h1, h4, e31', b2_T, b2_F, Int.reduceEq, Int.reduceLT, Int.reduceLE, Int.reduceAdd, Int.reduceSub, Int.reduceMul, Int.reduceNeg, reduceIte, if_true, if_false, true_or, or_true, false_or, or_false, false_and, and_false, eq_self, not_false_eq_true, not_true_eq_false, true_and, and_true, List.cons_append, List.nil_append, List.append_nil, b2_0, b2_1, b2_01, Classical.not_not]
          · rw [b2_f h5]
            simp only [b2_f h5] at e31'
            simp only [p60_0, p60_1, p60_4, p60_7, p60_8, p60_11, p60_12, p60_15, p60_16, p60_19, p60_20, p60_21, p60_22, p60_25, p60_26, p60_29, p60_64, p60_65, p60_66, p60_67, p60_70, p60_71, p60_72, p60_73, p60_74, p60_77, p60_78, p60_79, p60_82, p60_83, p60_84, K_27, K_28, L_28, K_29, L_29, K_30, L_30, K_31, L_31, K_32, L_32, K_33, L_33, K_34, K_35, K_36, L_36, K_37, L_37, K_38, L_38, K_39, L_39, K_40, K_41, L_41, K_42, L_42, K_43, L_43, K_44, L_44, K_45, L_45, K_46, L_46, K_47, L_47, K_48, L_48, K_49, L_49, K_50, L_50, K_51, L_51, K_52, K_53, K_54, L_54, K_55, L_55, K_56, L_56, K_57, L_57, K_58, K_59, L_59, K_60, L_60, K_61, L_61, K_62, L_62, K_63, L_63, K_64, L_64, K_65, L_65, K_66, L_66, K_67, L_67, K_68, L_68, K_69, L_69, sh_27_0 S, sh_27_1 S, sh_27_2 S, sh_27_3 S, sh_27_4 S, sh_27_5 S, sh_34_0 S, sh_34_1 S, sh_34_2 S, sh_34_3 S, sh_34_4 S, sh_34_5 S, sh_34_6 S, sh_34_7 S, sh_35_0 S, sh_35_1 S, sh_35_2 S, sh_35_3 S, sh_40_0 S, sh_40_1 S, sh_40_2 S, sh_40_3 S, sh_40_4 S, sh_40_5 S, sh_52_0 S, sh_52_1 S, sh_52_2 S, sh_52_3 S, sh_52_4 S, sh_52_5 S, sh_52_6 S, sh_52_7 S, sh_53_0 S, sh_53_1 S, sh_53_2 S, sh_53_3 S, sh_58_0 S, sh_58_1 S, sh_58_2 S, sh_58_3 S, sh_58_4 S, sh_58_5 S, e107, b2_t hc, x3, pp, kp, e24', h1, h4, e31', b2_T, b2_F, Int.reduceEq, Int.reduceLT, Int.reduceLE, Int.reduceAdd, Int.reduceSub, Int.reduceMul, Int.reduceNeg, reduceIte, if_true, if_false, true_or, or_true, false_or, or_false, false_and, and_false, eq_self, not_false_eq_true, not_true_eq_false, true_and, and_true, List.cons_append, List.nil_append, List.append_nil, b2_0, b2_1, b2_01, Classical.not_not]
        · rw [if_neg h4]
          simp only [p60_0, p60_1, p60_4, p60_7, p60_8, p60_11, p60_12, p60_15, p60_16, p60_19, p60_20, p60_21, p60_22, p60_25, p60_26, p60_29, p60_64, p60_65, p60_66, p60_67, p60_70, p60_71, p60_72, p60_73, p60_74, p60_77, p60_78, p60_79, p60_82, p60_83, p60_84, K_27, K_28, L_28, K_29, L_29, K_30, L_30, K_31, L_31, K_32, L_32, K_33, L_33, K_34, K_35, K_36, L_36, K_37, L_37, K_38, L_38, K_39, L_39, K_40, K_41, L_41, K_42, L_42, K_43, L_43, K_44, L_44, K_45, L_45, K_46, L_46, K_47, L_47, K_48, L_48, K_49, L_49, K_50, L_50, K_51, L_51, K_52, K_53, K_54, L_54, K_55, L_55, K_56, L_56, K_57, L_57, K_58, K_59, L_59, K_60, L_60, K_61, L_61, K_62, L_62, K_63, L_63, K_64, L_64, K_65, L_65, K_66, L_66, K_67, L_67, K_68, L_68, K_69, L_69, sh_27_0 S, sh_27_1 S, sh_27_2 S, sh_27_3 S, sh_27_4 S, sh_27_5 S, sh_34_0 S, sh_34_1 S, sh_34_2 S, sh_34_3 S, sh_34_4 S, sh_34_5 S, sh_34_6 S, sh_34_7 S, sh_35_0 S, sh_35_1 S, sh_35_2 S, sh_35_3 S, sh_40_0 S, sh_40_1 S, sh_40_2 S, sh_40_3 S, sh_40_4 S, sh_40_5 S, sh_52_0 S, sh_52_1 S, sh_52_2 S, sh_52_3 S, sh_52_4 S, sh_52_5 S, sh_52_6 S, sh_52_7 S, sh_53_0 S, sh_53_1 S, sh_53_2 S, sh_53_3 S, sh_58_0 S, sh_58_1 S, sh_58_2 S, sh_58_3 S, sh_58_4 S, sh_58_5 S, e107, b2_t hc, x3, pp, kp, e24', h1, h2, h3, h4, b2_T, b2_F, Int.reduceEq, Int.reduceLT, Int.reduceLE, Int.reduceAdd, Int.reduceSub, Int.reduceMul, Int.reduceNeg, reduceIte, if_true, if_false, true_or, or_true, false_or, or_false, false_and, and_false, eq_self, not_false_eq_true, not_true_eq_false, true_and, and_true, List.cons_append, List.nil_append, List.append_nil, b2_0, b2_1, b2_01, Classical.not_not]
  · rw [if_pos h1]
    simp only [p60_0, p60_1, p60_4, p60_7, p60_8, p60_11, p60_12, p60_15, p60_16, p60_19, p60_20, p60_21, p60_22, p60_25, p60_26, p60_29, p60_64, p60_65, p60_66, p60_67, p60_70, p60_71, p60_72, p60_73, p60_74, p60_77, p60_78, p60_79, p60_82, p60_83, p60_84, K_27, K_28, L_28, K_29, L_29, K_30, L_30, K_31, L_31, K_32, L_32, K_33, L_33, K_34, K_35, K_36, L_36, K_37, L_37, K_38, L_38, K_39, L_39, K_40, K_41, L_41, K_42, L_42, K_43, L_43, K_44, L_44, K_45, L_45, K_46, L_46, K_47, L_47, K_48, L_48, K_49, L_49, K_50, L_50, K_51, L_51, K_52, K_53, K_54, L_54, K_55, L_55, K_56, L_56, K_57, L_57, K_58, K_59, L_59, K_60, L_60, K_61, L_61, K_62, L_62, K_63, L_63, K_64, L_64, K_65, L_65, K_66, L_66, K_67, L_67, K_68, L_68, K_69, L_69, sh_27_0 S, sh_27_1 S, sh_27_2 S, sh_27_3 S, sh_27_4 S, sh_27_5 S, sh_34_0 S, sh_34_1 S, sh_34_2 S, sh_34_3 S, sh_34_4 S, sh_34_5 S, sh_34_6 S, sh_34_7 S, sh_35_0 S, sh_35_1 S, sh_35_2 S, sh_35_3 S, sh_40_0 S, sh_40_1 S, sh_40_2 S, sh_40_3 S, sh_40_4 S, sh_40_5 S, sh_52_0 S, sh_52_1 S, sh_52_2 S, sh_52_3 S, sh_52_4 S, sh_52_5 S, sh_52_6 S, sh_52_7 S, sh_53_0 S, sh_53_1 S, sh_53_2 S, sh_53_3 S, sh_58_0 S, sh_58_1 S, sh_58_2 S, sh_58_3 S, sh_58_4 S, sh_58_5 S, e107, b2_t hc, x3, h1, b2_T, b2_F, Int.reduceEq, Int.reduceLT, Int.reduceLE, Int.reduceAdd, Int.reduceSub, Int.reduceMul, Int.reduceNeg, reduceIte, if_true, if_false, true_or, or_true, false_or, or_false, false_and, and_false, eq_self, not_false_eq_true, not_true_eq_false, true_and, and_true, List.cons_append, List.nil_append, List.append_nil, b2_0, b2_1, b2_01, Classical.not_not]
theorem e60_52 (R : RR m 52 p g w v) (T : GT g) (hp : p = 9 ∨ p = 18) (hc : isC o) : WP 60 0 [(2, 52), (0, o), (0, f)] [] (dsB ++ tl) m Q = Q (dsB ++ tl) m [(0, opn g o f)] := by
  have S := R.S
  have pp := R.pp
  have h := PAp (tl := tl) S hp
  have kp := h.1
  have e1 := R.P.k o hc
  have e2 := R.B.nu o hc
  have ea := R.P.a o hc
  have e5 := R.C.ch o hc
  have dn := T.dn o hc
  simp only [Int.reduceAdd] at e2 e5
  have c0 := hc.1
  have c1 := hc.2
  have x3 : ∀ Q : Ds → Mm → List MV → Prop, WP 3 0 [(2, 58), (0, o)] [] (dsB ++ tl) m Q = Q (dsB ++ tl) m [(0, g 95 o)] := fun Q => by
    rw [e3 (B := 58) S (by decide), if_pos hc]
    simp only [Int.reduceAdd]
    rw [e2]
  have e24' : ∀ Q : Ds → Mm → List MV → Prop, WP 24 0 [(2, p), (0, o)] [] (dsB ++ tl) m Q = Q (dsB ++ tl) m [(0, g 72 o)] := fun Q => by
    rw [e24 h, if_pos hc, e1]
  unfold opn
  by_cases h1 : g 95 o = -1
  · rw [if_neg (not_not_intro h1)]
    by_cases h2 : g 72 o = 0
    · rw [if_pos h2]
      simp only [p60_0, p60_1, p60_4, p60_7, p60_8, p60_11, p60_12, p60_15, p60_16, p60_19, p60_20, p60_21, p60_22, p60_25, p60_26, p60_29, p60_64, p60_65, p60_66, p60_67, p60_70, p60_71, p60_72, p60_73, p60_74, p60_77, p60_78, p60_79, p60_82, p60_83, p60_84, K_27, K_28, L_28, K_29, L_29, K_30, L_30, K_31, L_31, K_32, L_32, K_33, L_33, K_34, K_35, K_36, L_36, K_37, L_37, K_38, L_38, K_39, L_39, K_40, K_41, L_41, K_42, L_42, K_43, L_43, K_44, L_44, K_45, L_45, K_46, L_46, K_47, L_47, K_48, L_48, K_49, L_49, K_50, L_50, K_51, L_51, K_52, K_53, K_54, L_54, K_55, L_55, K_56, L_56, K_57, L_57, K_58, K_59, L_59, K_60, L_60, K_61, L_61, K_62, L_62, K_63, L_63, K_64, L_64, K_65, L_65, K_66, L_66, K_67, L_67, K_68, L_68, K_69, L_69, sh_27_0 S, sh_27_1 S, sh_27_2 S, sh_27_3 S, sh_27_4 S, sh_27_5 S, sh_34_0 S, sh_34_1 S, sh_34_2 S, sh_34_3 S, sh_34_4 S, sh_34_5 S, sh_34_6 S, sh_34_7 S, sh_35_0 S, sh_35_1 S, sh_35_2 S, sh_35_3 S, sh_40_0 S, sh_40_1 S, sh_40_2 S, sh_40_3 S, sh_40_4 S, sh_40_5 S, sh_52_0 S, sh_52_1 S, sh_52_2 S, sh_52_3 S, sh_52_4 S, sh_52_5 S, sh_52_6 S, sh_52_7 S, sh_53_0 S, sh_53_1 S, sh_53_2 S, sh_53_3 S, sh_58_0 S, sh_58_1 S, sh_58_2 S, sh_58_3 S, sh_58_4 S, sh_58_5 S, e107, b2_t hc, x3, pp, kp, e24', h1, h2, b2_T, b2_F, Int.reduceEq, Int.reduceLT, Int.reduceLE, Int.reduceAdd, Int.reduceSub, Int.reduceMul, Int.reduceNeg, reduceIte, if_true, if_false, true_or, or_true, false_or, or_false, false_and, and_false, eq_self, not_false_eq_true, not_true_eq_false, true_and, and_true, List.cons_append, List.nil_append, List.append_nil, b2_0, b2_1, b2_01, Classical.not_not]
    · rw [if_neg h2]
      by_cases h3 : g 72 o = 7
      · rw [if_pos h3]
        simp only [p60_0, p60_1, p60_4, p60_7, p60_8, p60_11, p60_12, p60_15, p60_16, p60_19, p60_20, p60_21, p60_22, p60_25, p60_26, p60_29, p60_64, p60_65, p60_66, p60_67, p60_70, p60_71, p60_72, p60_73, p60_74, p60_77, p60_78, p60_79, p60_82, p60_83, p60_84, K_27, K_28, L_28, K_29, L_29, K_30, L_30, K_31, L_31, K_32, L_32, K_33, L_33, K_34, K_35, K_36, L_36, K_37, L_37, K_38, L_38, K_39, L_39, K_40, K_41, L_41, K_42, L_42, K_43, L_43, K_44, L_44, K_45, L_45, K_46, L_46, K_47, L_47, K_48, L_48, K_49, L_49, K_50, L_50, K_51, L_51, K_52, K_53, K_54, L_54, K_55, L_55, K_56, L_56, K_57, L_57, K_58, K_59, L_59, K_60, L_60, K_61, L_61, K_62, L_62, K_63, L_63, K_64, L_64, K_65, L_65, K_66, L_66, K_67, L_67, K_68, L_68, K_69, L_69, sh_27_0 S, sh_27_1 S, sh_27_2 S, sh_27_3 S, sh_27_4 S, sh_27_5 S, sh_34_0 S, sh_34_1 S, sh_34_2 S, sh_34_3 S, sh_34_4 S, sh_34_5 S, sh_34_6 S, sh_34_7 S, sh_35_0 S, sh_35_1 S, sh_35_2 S, sh_35_3 S, sh_40_0 S, sh_40_1 S, sh_40_2 S, sh_40_3 S, sh_40_4 S, sh_40_5 S, sh_52_0 S, sh_52_1 S, sh_52_2 S, sh_52_3 S, sh_52_4 S, sh_52_5 S, sh_52_6 S, sh_52_7 S, sh_53_0 S, sh_53_1 S, sh_53_2 S, sh_53_3 S, sh_58_0 S, sh_58_1 S, sh_58_2 S, sh_58_3 S, sh_58_4 S, sh_58_5 S, e107, b2_t hc, x3, pp, kp, e24', h1, h3, e5, c0, c1, dn, b2_T, b2_F, Int.reduceEq, Int.reduceLT, Int.reduceLE, Int.reduceAdd, Int.reduceSub, Int.reduceMul, Int.reduceNeg, reduceIte, if_true, if_false, true_or, or_true, false_or, or_false, false_and, and_false, eq_self, not_false_eq_true, not_true_eq_false, true_and, and_true, List.cons_append, List.nil_append, List.append_nil, b2_0, b2_1, b2_01, Classical.not_not]
      · rw [if_neg h3]
        by_cases h4 : g 72 o = 9
        · rw [if_pos h4]
          have e31' : ∀ Q : Ds → Mm → List MV → Prop, WP 31 0 [(2, p), (0, o), (0, f)] [] (dsB ++ tl) m Q = Q (dsB ++ tl) m [(0, b2 (jand (jshr (g 73 o) f) 1 = 1))] := fun Q => by
            rw [e31 h, (ea (by omega)).1]
            exact q_eq (b2_cg ⟨fun x => x.2, fun x => ⟨hc, x⟩⟩)
          by_cases h5 : jand (jshr (g 73 o) f) 1 = 1
          · rw [b2_t h5]
            simp only [b2_t h5] at e31'
            simp only [p60_0, p60_1, p60_4, p60_7, p60_8, p60_11, p60_12, p60_15, p60_16, p60_19, p60_20, p60_21, p60_22, p60_25, p60_26, p60_29, p60_64, p60_65, p60_66, p60_67, p60_70, p60_71, p60_72, p60_73, p60_74, p60_77, p60_78, p60_79, p60_82, p60_83, p60_84, K_27, K_28, L_28, K_29, L_29, K_30, L_30, K_31, L_31, K_32, L_32, K_33, L_33, K_34, K_35, K_36, L_36, K_37, L_37, K_38, L_38, K_39, L_39, K_40, K_41, L_41, K_42, L_42, K_43, L_43, K_44, L_44, K_45, L_45, K_46, L_46, K_47, L_47, K_48, L_48, K_49, L_49, K_50, L_50, K_51, L_51, K_52, K_53, K_54, L_54, K_55, L_55, K_56, L_56, K_57, L_57, K_58, K_59, L_59, K_60, L_60, K_61, L_61, K_62, L_62, K_63, L_63, K_64, L_64, K_65, L_65, K_66, L_66, K_67, L_67, K_68, L_68, K_69, L_69, sh_27_0 S, sh_27_1 S, sh_27_2 S, sh_27_3 S, sh_27_4 S, sh_27_5 S, sh_34_0 S, sh_34_1 S, sh_34_2 S, sh_34_3 S, sh_34_4 S, sh_34_5 S, sh_34_6 S, sh_34_7 S, sh_35_0 S, sh_35_1 S, sh_35_2 S, sh_35_3 S, sh_40_0 S, sh_40_1 S, sh_40_2 S, sh_40_3 S, sh_40_4 S, sh_40_5 S, sh_52_0 S, sh_52_1 S, sh_52_2 S, sh_52_3 S, sh_52_4 S, sh_52_5 S, sh_52_6 S, sh_52_7 S, sh_53_0 S, sh_53_1 S, sh_53_2 S, sh_53_3 S, sh_58_0 S, sh_58_1 S, sh_58_2 S, sh_58_3 S, sh_58_4 S, sh_58_5 S, e107, b2_t hc, x3, pp, kp, e24', h1, h4, e31', b2_T, b2_F, Int.reduceEq, Int.reduceLT, Int.reduceLE, Int.reduceAdd, Int.reduceSub, Int.reduceMul, Int.reduceNeg, reduceIte, if_true, if_false, true_or, or_true, false_or, or_false, false_and, and_false, eq_self, not_false_eq_true, not_true_eq_false, true_and, and_true, List.cons_append, List.nil_append, List.append_nil, b2_0, b2_1, b2_01, Classical.not_not]
          · rw [b2_f h5]
            simp only [b2_f h5] at e31'
            simp only [p60_0, p60_1, p60_4, p60_7, p60_8, p60_11, p60_12, p60_15, p60_16, p60_19, p60_20, p60_21, p60_22, p60_25, p60_26, p60_29, p60_64, p60_65, p60_66, p60_67, p60_70, p60_71, p60_72, p60_73, p60_74, p60_77, p60_78, p60_79, p60_82, p60_83, p60_84, K_27, K_28, L_28, K_29, L_29, K_30, L_30, K_31, L_31, K_32, L_32, K_33, L_33, K_34, K_35, K_36, L_36, K_37, L_37, K_38, L_38, K_39, L_39, K_40, K_41, L_41, K_42, L_42, K_43, L_43, K_44, L_44, K_45, L_45, K_46, L_46, K_47, L_47, K_48, L_48, K_49, L_49, K_50, L_50, K_51, L_51, K_52, K_53, K_54, L_54, K_55, L_55, K_56, L_56, K_57, L_57, K_58, K_59, L_59, K_60, L_60, K_61, L_61, K_62, L_62, K_63, L_63, K_64, L_64, K_65, L_65, K_66, L_66, K_67, L_67, K_68, L_68, K_69, L_69, sh_27_0 S, sh_27_1 S, sh_27_2 S, sh_27_3 S, sh_27_4 S, sh_27_5 S, sh_34_0 S, sh_34_1 S, sh_34_2 S, sh_34_3 S, sh_34_4 S, sh_34_5 S, sh_34_6 S, sh_34_7 S, sh_35_0 S, sh_35_1 S, sh_35_2 S, sh_35_3 S, sh_40_0 S, sh_40_1 S, sh_40_2 S, sh_40_3 S, sh_40_4 S, sh_40_5 S, sh_52_0 S, sh_52_1 S, sh_52_2 S, sh_52_3 S, sh_52_4 S, sh_52_5 S, sh_52_6 S, sh_52_7 S, sh_53_0 S, sh_53_1 S, sh_53_2 S, sh_53_3 S, sh_58_0 S, sh_58_1 S, sh_58_2 S, sh_58_3 S, sh_58_4 S, sh_58_5 S, e107, b2_t hc, x3, pp, kp, e24', h1, h4, e31', b2_T, b2_F, Int.reduceEq, Int.reduceLT, Int.reduceLE, Int.reduceAdd, Int.reduceSub, Int.reduceMul, Int.reduceNeg, reduceIte, if_true, if_false, true_or, or_true, false_or, or_false, false_and, and_false, eq_self, not_false_eq_true, not_true_eq_false, true_and, and_true, List.cons_append, List.nil_append, List.append_nil, b2_0, b2_1, b2_01, Classical.not_not]
        · rw [if_neg h4]
          simp only [p60_0, p60_1, p60_4, p60_7, p60_8, p60_11, p60_12, p60_15, p60_16, p60_19, p60_20, p60_21, p60_22, p60_25, p60_26, p60_29, p60_64, p60_65, p60_66, p60_67, p60_70, p60_71, p60_72, p60_73, p60_74, p60_77, p60_78, p60_79, p60_82, p60_83, p60_84, K_27, K_28, L_28, K_29, L_29, K_30, L_30, K_31, L_31, K_32, L_32, K_33, L_33, K_34, K_35, K_36, L_36, K_37, L_37, K_38, L_38, K_39, L_39, K_40, K_41, L_41, K_42, L_42, K_43, L_43, K_44, L_44, K_45, L_45, K_46, L_46, K_47, L_47, K_48, L_48, K_49, L_49, K_50, L_50, K_51, L_51, K_52, K_53, K_54, L_54, K_55, L_55, K_56, L_56, K_57, L_57, K_58, K_59, L_59, K_60, L_60, K_61, L_61, K_62, L_62, K_63, L_63, K_64, L_64, K_65, L_65, K_66, L_66, K_67, L_67, K_68, L_68, K_69, L_69, sh_27_0 S, sh_27_1 S, sh_27_2 S, sh_27_3 S, sh_27_4 S, sh_27_5 S, sh_34_0 S, sh_34_1 S, sh_34_2 S, sh_34_3 S, sh_34_4 S, sh_34_5 S, sh_34_6 S, sh_34_7 S, sh_35_0 S, sh_35_1 S, sh_35_2 S, sh_35_3 S, sh_40_0 S, sh_40_1 S, sh_40_2 S, sh_40_3 S, sh_40_4 S, sh_40_5 S, sh_52_0 S, sh_52_1 S, sh_52_2 S, sh_52_3 S, sh_52_4 S, sh_52_5 S, sh_52_6 S, sh_52_7 S, sh_53_0 S, sh_53_1 S, sh_53_2 S, sh_53_3 S, sh_58_0 S, sh_58_1 S, sh_58_2 S, sh_58_3 S, sh_58_4 S, sh_58_5 S, e107, b2_t hc, x3, pp, kp, e24', h1, h2, h3, h4, b2_T, b2_F, Int.reduceEq, Int.reduceLT, Int.reduceLE, Int.reduceAdd, Int.reduceSub, Int.reduceMul, Int.reduceNeg, reduceIte, if_true, if_false, true_or, or_true, false_or, or_false, false_and, and_false, eq_self, not_false_eq_true, not_true_eq_false, true_and, and_true, List.cons_append, List.nil_append, List.append_nil, b2_0, b2_1, b2_01, Classical.not_not]
  · rw [if_pos h1]
    simp only [p60_0, p60_1, p60_4, p60_7, p60_8, p60_11, p60_12, p60_15, p60_16, p60_19, p60_20, p60_21, p60_22, p60_25, p60_26, p60_29, p60_64, p60_65, p60_66, p60_67, p60_70, p60_71, p60_72, p60_73, p60_74, p60_77, p60_78, p60_79, p60_82, p60_83, p60_84, K_27, K_28, L_28, K_29, L_29, K_30, L_30, K_31, L_31, K_32, L_32, K_33, L_33, K_34, K_35, K_36, L_36, K_37, L_37, K_38, L_38, K_39, L_39, K_40, K_41, L_41, K_42, L_42, K_43, L_43, K_44, L_44, K_45, L_45, K_46, L_46, K_47, L_47, K_48, L_48, K_49, L_49, K_50, L_50, K_51, L_51, K_52, K_53, K_54, L_54, K_55, L_55, K_56, L_56, K_57, L_57, K_58, K_59, L_59, K_60, L_60, K_61, L_61, K_62, L_62, K_63, L_63, K_64, L_64, K_65, L_65, K_66, L_66, K_67, L_67, K_68, L_68, K_69, L_69, sh_27_0 S, sh_27_1 S, sh_27_2 S, sh_27_3 S, sh_27_4 S, sh_27_5 S, sh_34_0 S, sh_34_1 S, sh_34_2 S, sh_34_3 S, sh_34_4 S, sh_34_5 S, sh_34_6 S, sh_34_7 S, sh_35_0 S, sh_35_1 S, sh_35_2 S, sh_35_3 S, sh_40_0 S, sh_40_1 S, sh_40_2 S, sh_40_3 S, sh_40_4 S, sh_40_5 S, sh_52_0 S, sh_52_1 S, sh_52_2 S, sh_52_3 S, sh_52_4 S, sh_52_5 S, sh_52_6 S, sh_52_7 S, sh_53_0 S, sh_53_1 S, sh_53_2 S, sh_53_3 S, sh_58_0 S, sh_58_1 S, sh_58_2 S, sh_58_3 S, sh_58_4 S, sh_58_5 S, e107, b2_t hc, x3, h1, b2_T, b2_F, Int.reduceEq, Int.reduceLT, Int.reduceLE, Int.reduceAdd, Int.reduceSub, Int.reduceMul, Int.reduceNeg, reduceIte, if_true, if_false, true_or, or_true, false_or, or_false, false_and, and_false, eq_self, not_false_eq_true, not_true_eq_false, true_and, and_true, List.cons_append, List.nil_append, List.append_nil, b2_0, b2_1, b2_01, Classical.not_not]
theorem e60 (R : RR m r p g w v) (T : GT g) (hr : r = 34 ∨ r = 52) (hp : p = 9 ∨ p = 18) (hc : isC o) : WP 60 0 [(2, r), (0, o), (0, f)] [] (dsB ++ tl) m Q = Q (dsB ++ tl) m [(0, opn g o f)] := by
  rcases hr with rfl | rfl
  · exact e60_34 R T hp hc
  · exact e60_52 R T hp hc
theorem way_t : ∀ e ∈ [3, 5, 6, 9, 10, 12], ∀ w ∈ [0, 1, 2, (3 : Int)], jand (jshr e (opp w)) 1 = 1 → (if ¬ (0 : Int) = opp w ∧ jand (jshr e 0) 1 = 1 then 0 else if ¬ (1 : Int) = opp w ∧ jand (jshr e 1) 1 = 1 then 1 else if ¬ (2 : Int) = opp w ∧ jand (jshr e 2) 1 = 1 then 2 else if ¬ (3 : Int) = opp w ∧ jand (jshr e 3) 1 = 1 then 3 else w) = oth e (opp w) := by decide
theorem e61 (R : RR m r p g w v) (hr : r = 34 ∨ r = 52) (hp : p = 9 ∨ p = 18) (hc : isC o) (hw : okS wy) (he : g 72 o = 9 → (g 73 o = 3 ∨ g 73 o = 5 ∨ g 73 o = 6 ∨ g 73 o = 9 ∨ g 73 o = 10 ∨ g 73 o = 12)) (hj : g 72 o = 9 → jand (jshr (g 73 o) (opp wy)) 1 = 1) : WP 61 0 [(2, r), (0, o), (0, wy), (3, 0)] [] (dsB ++ tl) m Q = Q (dsB ++ tl) m [(0, if g 72 o = 9 then oth (g 73 o) (opp wy) else wy)] := by
  have S := R.S
  have pp := R.pp
  have h := PAp (tl := tl) S hp
  have kp := h.1
  have e1 := R.P.k o hc
  have ea := R.P.a o hc
  have kr : dk (dsB ++ tl) r = 5 := by
    rcases hr with rfl | rfl
    · exact K_34
    · exact K_52
  have e24' : ∀ Q : Ds → Mm → List MV → Prop, WP 24 0 [(2, p), (0, o)] [] (dsB ++ tl) m Q = Q (dsB ++ tl) m [(0, g 72 o)] := fun Q => by
    rw [e24 h, if_pos hc, e1]
  by_cases h4 : g 72 o = 9
  · rw [if_pos h4]
    have e31' : ∀ (Q : Ds → Mm → List MV → Prop) (f : Int), WP 31 0 [(2, p), (0, o), (0, f)] [] (dsB ++ tl) m Q = Q (dsB ++ tl) m [(0, b2 (jand (jshr (g 73 o) f) 1 = 1))] := fun Q f => by
      rw [e31 h, (ea (by omega)).1]
      exact q_eq (b2_cg ⟨fun x => x.2, fun x => ⟨hc, x⟩⟩)
    have wm : wy ∈ [0, 1, 2, (3 : Int)] := by
      have w0 : wy = 0 ∨ wy = 1 ∨ wy = 2 ∨ wy = 3 := by have := hw.1; have := hw.2; omega
      rcases w0 with rfl | rfl | rfl | rfl <;> decide
    have em : g 73 o ∈ [3, 5, 6, 9, 10, 12] := by
      rcases he h4 with y | y | y | y | y | y <;> (rw [y]; decide)
    have wt := way_t _ em _ wm (hj h4)
    rw [h4] at e24'
    have pr : m r 8 = p := pp
    have st : ∀ f : Int, 0 ≤ f → f < 4 → WP 61 17 [(2, r), (0, o), (0, wy), (0, f)] [] (dsB ++ tl) m Q = if ¬ f = opp wy ∧ jand (jshr (g 73 o) f) 1 = 1 then Q (dsB ++ tl) m [(0, f)] else WP 61 17 [(2, r), (0, o), (0, wy), (0, f + 1)] [] (dsB ++ tl) m Q := by
      intro f f0 f1
      have w1 : w32 (f + 1) = f + 1 := w32_id (by omega) (by omega)
      rw [p61_17]
      by_cases hf : f = opp wy
      · rw [if_neg (fun x => x.1 hf)]
        simp only [p61_18, p61_19, p61_22, p61_23, p61_24, p61_27, p61_30, p61_31, p61_34, p61_35, p61_36, p61_39, p61_42, p61_43, p61_44, p61_47, f1, e110 hw.1 hw.2, hf.symm, w1, b2_T, b2_F, Int.reduceEq, Int.reduceLT, Int.reduceLE, Int.reduceAdd, Int.reduceSub, Int.reduceMul, Int.reduceNeg, reduceIte, if_true, if_false, true_or, or_true, false_or, or_false, false_and, and_false, eq_self, not_false_eq_true, not_true_eq_false, true_and, and_true, List.cons_append, List.nil_append, List.append_nil, b2_0, b2_1, b2_01, Classical.not_not]
      · by_cases h5 : jand (jshr (g 73 o) f) 1 = 1
        · rw [if_pos ⟨hf, h5⟩]
          simp only [p61_18, p61_19, p61_22, p61_23, p61_24, p61_27, p61_30, p61_31, p61_34, p61_35, p61_36, p61_39, p61_42, p61_43, p61_44, p61_47, f1, e110 hw.1 hw.2, hf, pp, kp, kr, e31', b2_t h5, w1, b2_T, b2_F, Int.reduceEq, Int.reduceLT, Int.reduceLE, Int.reduceAdd, Int.reduceSub, Int.reduceMul, Int.reduceNeg, reduceIte, if_true, if_false, true_or, or_true, false_or, or_false, false_and, and_false, eq_self, not_false_eq_true, not_true_eq_false, true_and, and_true, List.cons_append, List.nil_append, List.append_nil, b2_0, b2_1, b2_01, Classical.not_not]
        · rw [if_neg (fun x => h5 x.2)]
          simp only [p61_18, p61_19, p61_22, p61_23, p61_24, p61_27, p61_30, p61_31, p61_34, p61_35, p61_36, p61_39, p61_42, p61_43, p61_44, p61_47, f1, e110 hw.1 hw.2, hf, pp, kp, kr, e31', b2_f h5, w1, b2_T, b2_F, Int.reduceEq, Int.reduceLT, Int.reduceLE, Int.reduceAdd, Int.reduceSub, Int.reduceMul, Int.reduceNeg, reduceIte, if_true, if_false, true_or, or_true, false_or, or_false, false_and, and_false, eq_self, not_false_eq_true, not_true_eq_false, true_and, and_true, List.cons_append, List.nil_append, List.append_nil, b2_0, b2_1, b2_01, Classical.not_not]
    have s0 := st 0 (by decide) (by decide)
    have s1 := st 1 (by decide) (by decide)
    have s2 := st 2 (by decide) (by decide)
    have s3 := st 3 (by decide) (by decide)
    simp only [Int.reduceAdd] at s0 s1 s2 s3
    have s4 : WP 61 17 [(2, r), (0, o), (0, wy), (0, 4)] [] (dsB ++ tl) m Q = Q (dsB ++ tl) m [(0, wy)] := by
      rw [p61_17]
      simp only [p61_18, p61_19, p61_50, p61_51, b2_T, b2_F, Int.reduceEq, Int.reduceLT, Int.reduceLE, Int.reduceAdd, Int.reduceSub, Int.reduceMul, Int.reduceNeg, reduceIte, if_true, if_false, true_or, or_true, false_or, or_false, false_and, and_false, eq_self, not_false_eq_true, not_true_eq_false, true_and, and_true, List.cons_append, List.nil_append, List.append_nil, b2_0, b2_1, b2_01, Classical.not_not]
    have s5 : WP 61 0 [(2, r), (0, o), (0, wy), (3, 0)] [] (dsB ++ tl) m Q = WP 61 17 [(2, r), (0, o), (0, wy), (0, 0)] [] (dsB ++ tl) m Q := by
      simp only [p61_0, p61_1, p61_4, p61_5, p61_8, p61_10, p61_13, p61_14, p61_15, p61_16, pp, kp, kr, e24', b2_T, b2_F, Int.reduceEq, Int.reduceLT, Int.reduceLE, Int.reduceAdd, Int.reduceSub, Int.reduceMul, Int.reduceNeg, reduceIte, if_true, if_false, true_or, or_true, false_or, or_false, false_and, and_false, eq_self, not_false_eq_true, not_true_eq_false, true_and, and_true, List.cons_append, List.nil_append, List.append_nil, b2_0, b2_1, b2_01, Classical.not_not]
    rw [s5, s0, s1, s2, s3, s4, ← wt]
    repeat' split
    all_goals first | rfl | (exfalso; contradiction) | skip
  · rw [if_neg h4]
    simp only [p61_0, p61_1, p61_4, p61_5, p61_8, p61_10, p61_13, p61_14, p61_15, p61_16, p61_17, p61_18, p61_19, p61_22, p61_23, p61_24, p61_27, p61_30, p61_31, p61_34, p61_35, p61_36, p61_39, p61_42, p61_43, p61_44, p61_47, p61_50, p61_51, pp, kp, kr, e24', h4, b2_T, b2_F, Int.reduceEq, Int.reduceLT, Int.reduceLE, Int.reduceAdd, Int.reduceSub, Int.reduceMul, Int.reduceNeg, reduceIte, if_true, if_false, true_or, or_true, false_or, or_false, false_and, and_false, eq_self, not_false_eq_true, not_true_eq_false, true_and, and_true, List.cons_append, List.nil_append, List.append_nil, b2_0, b2_1, b2_01, Classical.not_not]
end COPEN
