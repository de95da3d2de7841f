/-! the class's run: a strike is noted -/
def xH (m : Mm) (r c : Int) : Mm := up m (r + 13) c (m (r + 13) c + 1)
def xR (m : Mm) (r c : Int) : Mm := up (up (xH m r c) (r + 14) c (m (r + 14) c + 1)) r 12 (m r 12 + 1)
def xNote (m : Mm) (r : Int) (g : Mm) (c s k f : Int) : Mm :=
  if ¬ hsm g c then xLog (up (up (xH m r c) (r + 17) c 1) r 11 (m r 11 + 1)) r (m r 9) (4 * c + s) k (f + 1)
  else if g 72 c = 8 then xLog (if g 105 (96 * g 70 45 + c) = 0 then up (xR m r c) (r + 15) c (m r 9) else xR m r c) r (m r 9) (4 * c + s) k (f + 4)
  else xLog (xH m r c) r (m r 9) (4 * c + s) k f
section CNOTE
variable {tl : Ds} {m h g : Mm} {Q : Ds → Mm → List MV → Prop} {r p n w v k j c s o f i t l ti wy b u : Int}
theorem e62_34 (R : RR m 34 p g w v) (hp : p = 9 ∨ p = 18) (T : GT g) (A : GA g n) (hn : n ≤ 1000) (e4c : 0 ≤ m 35 4 ∧ m 35 4 ≤ 1000) (hc : isC c) (hs : okS s) (hf : f = 0 ∨ f = 2) : WP 62 0 [(2, 34), (0, c), (0, s), (0, k), (0, f), (3, 0), (3, 0)] [] (dsB ++ tl) m Q = Q (dsB ++ tl) (xNote m 34 g c s k f) [(0, m 35 4)] := by
  have S := R.S
  have pp := R.pp
  have kp := (PAp (tl := tl) S hp).1
  have e1 := R.P.k c hc
  have e2 := R.B.nu c hc
  have eh := R.C.hi c hc
  have er := R.C.ri c hc
  have ef := R.C.fr c hc
  have tg := T.rg c hc
  have bh := A.hs c hc
  have br := A.rg c hc
  have xl := R.X.ls
  have xr := R.X.rg
  have lb := A.lc
  have rb := A.rc
  have c0 := hc.1
  have c1 := hc.2
  simp only [Int.reduceAdd] at e2 eh er ef
  have w1 : w32 (m 47 c + 1) = m 47 c + 1 := w32_id (by omega) (by omega)
  have w2 : w32 (m 34 11 + 1) = m 34 11 + 1 := w32_id (by omega) (by omega)
  have w3 : w32 (m 48 c + 1) = m 48 c + 1 := w32_id (by omega) (by omega)
  have w4 : w32 (m 34 12 + 1) = m 34 12 + 1 := w32_id (by omega) (by omega)
  have w5 : w32 (c * 4) = c * 4 := w32_id (by omega) (by omega)
  have w6 : w32 (c * 4 + s) = 4 * c + s := by
    have := hs.1
    have := hs.2
    rw [w32_id (by omega) (by omega)]
    omega
  have S1 : Sh (xH m 34 c) := Sh_ar S (by decide)
  have pp1 : xH m 34 c 34 8 = p := pp
  have eH : up m 47 c (m 47 c + 1) = xH m 34 c := rfl
  have ey : ∀ Q : Ds → Mm → List MV → Prop, WP 58 0 [(2, 34), (0, c)] [] (dsB ++ tl) (xH m 34 c) Q = Q (dsB ++ tl) (xH m 34 c) [(0, b2 (¬ hsm g c))] := fun Q => e58x S1 pp ((show xH m 34 c (p + 1) c = m (p + 1) c by rcases hp with rfl | rfl <;> rfl).trans e1) e2 (by decide) hp hc
  have z : ∀ H : Mm, Sh H → H (p + 1) c = m (p + 1) c → ∀ Q : Ds → Mm → List MV → Prop, WP 24 0 [(2, p), (0, c)] [] (dsB ++ tl) H Q = Q (dsB ++ tl) H [(0, g 72 c)] := fun H SH eq Q => by
    rw [e24 (PAp SH hp), if_pos hc, eq, e1]
  have zl : ∀ H : Mm, Sh H → H 35 4 = m 35 4 → ∀ (Q : Ds → Mm → List MV → Prop) (w p k f : Int), WP 18 0 [(2, 35), (0, w), (0, p), (0, k), (0, f), (3, 0)] [] (dsB ++ tl) H Q = Q (dsB ++ tl) (xLog H 34 w p k f) [] := fun H SH eq Q w p k f => e18 (r := 34) SH (by decide) (by show 0 ≤ H 35 4 ∧ H 35 4 ≤ 1000; rw [eq]; exact e4c)
  unfold xNote
  by_cases h1 : hsm g c
  · rw [if_neg (not_not_intro h1)]
    by_cases h2 : g 72 c = 8
    · rw [if_pos h2]
      have j1 : jor 0 4 = 0 + 4 := by decide
      have j2 : jor 2 4 = 2 + 4 := by decide
      have jj : jor f 4 = f + 4 := by
        rcases hf with rfl | rfl
        · exact j1
        · exact j2
      have S2 : Sh (xR m 34 c) := Sh.up (Sh_ar S1 (by decide)) (by decide)
      have eR : up (up (xH m 34 c) 48 c (m 48 c + 1)) 34 12 (m 34 12 + 1) = xR m 34 c := rfl
      have zz := z (xH m 34 c) S1 (by rcases hp with rfl | rfl <;> rfl)
      rw [h2] at zz
      have yb : xH m 34 c 48 c = m 48 c := rfl
      have ya : xH m 34 c 34 12 = m 34 12 := rfl
      have y1 : xR m 34 c 34 9 = m 34 9 := rfl
      have y2 : xR m 34 c 49 c = m 49 c := rfl
      by_cases h3 : g 105 (96 * g 70 45 + c) = 0
      · rw [if_pos h3]
        have S3 : Sh (up (xR m 34 c) 49 c (m 34 9)) := Sh_ar S2 (by decide)
        have zq := zl _ S3 rfl
        have ef' : m 49 c = -1 := ef.trans (tg.1 h3)
        simp only [p62_0, p62_1, p62_4, p62_7, p62_9, p62_11, p62_13, p62_14, p62_17, p62_20, p62_21, p62_24, p62_25, p62_26, p62_27, p62_28, p62_29, p62_30, p62_31, p62_32, p62_35, p62_38, p62_40, p62_41, p62_42, p62_44, p62_45, p62_48, p62_49, p62_50, p62_51, p62_52, p62_53, p62_56, p62_57, p62_58, p62_61, p62_62, p62_65, p62_66, p62_69, p62_71, p62_74, p62_76, p62_77, p62_78, p62_80, p62_81, p62_84, p62_85, p62_86, p62_87, p62_88, p62_89, p62_90, p62_91, p62_92, p62_95, p62_96, p62_97, p62_100, p62_101, p62_104, p62_105, p62_106, p62_107, p62_110, p62_111, p62_114, p62_115, p62_116, p62_119, p62_120, p62_121, p62_124, p62_125, p62_128, p62_129, p62_130, p62_131, p62_132, p62_133, p62_134, p62_136, p62_139, p62_141, K_27, K_28, L_28, K_29, L_29, K_30, L_30, K_31, L_31, K_32, L_32, K_33, L_33, K_34, K_35, K_36, L_36, K_37, L_37, K_38, L_38, K_39, L_39, K_40, K_41, L_41, K_42, L_42, K_43, L_43, K_44, L_44, K_45, L_45, K_46, L_46, K_47, L_47, K_48, L_48, K_49, L_49, K_50, L_50, K_51, L_51, K_52, K_53, K_54, L_54, K_55, L_55, K_56, L_56, K_57, L_57, K_58, K_59, L_59, K_60, L_60, K_61, L_61, K_62, L_62, K_63, L_63, K_64, L_64, K_65, L_65, K_66, L_66, K_67, L_67, K_68, L_68, K_69, L_69, sh_27_0 S, sh_27_1 S, sh_27_2 S, sh_27_3 S, sh_27_4 S, sh_27_5 S, sh_34_0 S, sh_34_1 S, sh_34_2 S, sh_34_3 S, sh_34_4 S, sh_34_5 S, sh_34_6 S, sh_34_7 S, sh_35_0 S, sh_35_1 S, sh_35_2 S, sh_35_3 S, sh_40_0 S, sh_40_1 S, sh_40_2 S, sh_40_3 S, sh_40_4 S, sh_40_5 S, sh_52_0 S, sh_52_1 S, sh_52_2 S, sh_52_3 S, sh_52_4 S, sh_52_5 S, sh_52_6 S, sh_52_7 S, sh_53_0 S, sh_53_1 S, sh_53_2 S, sh_53_3 S, sh_58_0 S, sh_58_1 S, sh_58_2 S, sh_58_3 S, sh_58_4 S, sh_58_5 S, e107, b2_t hc, pp, pp1, kp, eH, ey, sh_34_0 S1, sh_34_1 S1, sh_34_2 S1, sh_34_3 S1, sh_34_4 S1, sh_34_5 S1, sh_34_6 S1, sh_34_7 S1,  b2_f (not_not_intro h1), zz, jj, sh_34_0 S2, sh_34_1 S2, sh_34_2 S2, sh_34_3 S2, sh_34_4 S2, sh_34_5 S2, sh_34_6 S2, sh_34_7 S2,  w1, w3, w4, w5, w6, c0, c1, up_at, yb, ya, eR, y1, y2, ef', zq, b2_T, b2_F, Int.reduceEq, Int.reduceLT, Int.reduceLE, Int.reduceAdd, Int.reduceSub, Int.reduceMul, Int.reduceNeg, reduceIte, if_true, if_false, true_or, or_true, false_or, or_false, false_and, and_false, eq_self, not_false_eq_true, not_true_eq_false, true_and, and_true, List.cons_append, List.nil_append, List.append_nil, b2_0, b2_1, b2_01, Classical.not_not]
      · rw [if_neg h3]
        have zq := zl _ S2 rfl
        have ef' : ¬ m 49 c = -1 := fun x => h3 (tg.2 (ef.symm.trans x))
        simp only [p62_0, p62_1, p62_4, p62_7, p62_9, p62_11, p62_13, p62_14, p62_17, p62_20, p62_21, p62_24, p62_25, p62_26, p62_27, p62_28, p62_29, p62_30, p62_31, p62_32, p62_35, p62_38, p62_40, p62_41, p62_42, p62_44, p62_45, p62_48, p62_49, p62_50, p62_51, p62_52, p62_53, p62_56, p62_57, p62_58, p62_61, p62_62, p62_65, p62_66, p62_69, p62_71, p62_74, p62_76, p62_77, p62_78, p62_80, p62_81, p62_84, p62_85, p62_86, p62_87, p62_88, p62_89, p62_90, p62_91, p62_92, p62_95, p62_96, p62_97, p62_100, p62_101, p62_104, p62_105, p62_106, p62_107, p62_110, p62_111, p62_114, p62_115, p62_116, p62_119, p62_120, p62_121, p62_124, p62_125, p62_128, p62_129, p62_130, p62_131, p62_132, p62_133, p62_134, p62_136, p62_139, p62_141, K_27, K_28, L_28, K_29, L_29, K_30, L_30, K_31, L_31, K_32, L_32, K_33, L_33, K_34, K_35, K_36, L_36, K_37, L_37, K_38, L_38, K_39, L_39, K_40, K_41, L_41, K_42, L_42, K_43, L_43, K_44, L_44, K_45, L_45, K_46, L_46, K_47, L_47, K_48, L_48, K_49, L_49, K_50, L_50, K_51, L_51, K_52, K_53, K_54, L_54, K_55, L_55, K_56, L_56, K_57, L_57, K_58, K_59, L_59, K_60, L_60, K_61, L_61, K_62, L_62, K_63, L_63, K_64, L_64, K_65, L_65, K_66, L_66, K_67, L_67, K_68, L_68, K_69, L_69, sh_27_0 S, sh_27_1 S, sh_27_2 S, sh_27_3 S, sh_27_4 S, sh_27_5 S, sh_34_0 S, sh_34_1 S, sh_34_2 S, sh_34_3 S, sh_34_4 S, sh_34_5 S, sh_34_6 S, sh_34_7 S, sh_35_0 S, sh_35_1 S, sh_35_2 S, sh_35_3 S, sh_40_0 S, sh_40_1 S, sh_40_2 S, sh_40_3 S, sh_40_4 S, sh_40_5 S, sh_52_0 S, sh_52_1 S, sh_52_2 S, sh_52_3 S, sh_52_4 S, sh_52_5 S, sh_52_6 S, sh_52_7 S, sh_53_0 S, sh_53_1 S, sh_53_2 S, sh_53_3 S, sh_58_0 S, sh_58_1 S, sh_58_2 S, sh_58_3 S, sh_58_4 S, sh_58_5 S, e107, b2_t hc, pp, pp1, kp, eH, ey, sh_34_0 S1, sh_34_1 S1, sh_34_2 S1, sh_34_3 S1, sh_34_4 S1, sh_34_5 S1, sh_34_6 S1, sh_34_7 S1,  b2_f (not_not_intro h1), zz, jj, sh_34_0 S2, sh_34_1 S2, sh_34_2 S2, sh_34_3 S2, sh_34_4 S2, sh_34_5 S2, sh_34_6 S2, sh_34_7 S2,  w1, w3, w4, w5, w6, c0, c1, up_at, yb, ya, eR, y1, y2, ef', zq, b2_T, b2_F, Int.reduceEq, Int.reduceLT, Int.reduceLE, Int.reduceAdd, Int.reduceSub, Int.reduceMul, Int.reduceNeg, reduceIte, if_true, if_false, true_or, or_true, false_or, or_false, false_and, and_false, eq_self, not_false_eq_true, not_true_eq_false, true_and, and_true, List.cons_append, List.nil_append, List.append_nil, b2_0, b2_1, b2_01, Classical.not_not]
    · rw [if_neg h2]
      have zz := z (xH m 34 c) S1 (by rcases hp with rfl | rfl <;> rfl)
      have zq := zl _ S1 rfl
      simp only [p62_0, p62_1, p62_4, p62_7, p62_9, p62_11, p62_13, p62_14, p62_17, p62_20, p62_21, p62_24, p62_25, p62_26, p62_27, p62_28, p62_29, p62_30, p62_31, p62_32, p62_35, p62_38, p62_40, p62_41, p62_42, p62_44, p62_45, p62_48, p62_49, p62_50, p62_51, p62_52, p62_53, p62_56, p62_57, p62_58, p62_61, p62_62, p62_65, p62_66, p62_69, p62_71, p62_74, p62_76, p62_77, p62_78, p62_80, p62_81, p62_84, p62_85, p62_86, p62_87, p62_88, p62_89, p62_90, p62_91, p62_92, p62_95, p62_96, p62_97, p62_100, p62_101, p62_104, p62_105, p62_106, p62_107, p62_110, p62_111, p62_114, p62_115, p62_116, p62_119, p62_120, p62_121, p62_124, p62_125, p62_128, p62_129, p62_130, p62_131, p62_132, p62_133, p62_134, p62_136, p62_139, p62_141, K_27, K_28, L_28, K_29, L_29, K_30, L_30, K_31, L_31, K_32, L_32, K_33, L_33, K_34, K_35, K_36, L_36, K_37, L_37, K_38, L_38, K_39, L_39, K_40, K_41, L_41, K_42, L_42, K_43, L_43, K_44, L_44, K_45, L_45, K_46, L_46, K_47, L_47, K_48, L_48, K_49, L_49, K_50, L_50, K_51, L_51, K_52, K_53, K_54, L_54, K_55, L_55, K_56, L_56, K_57, L_57, K_58, K_59, L_59, K_60, L_60, K_61, L_61, K_62, L_62, K_63, L_63, K_64, L_64, K_65, L_65, K_66, L_66, K_67, L_67, K_68, L_68, K_69, L_69, sh_27_0 S, sh_27_1 S, sh_27_2 S, sh_27_3 S, sh_27_4 S, sh_27_5 S, sh_34_0 S, sh_34_1 S, sh_34_2 S, sh_34_3 S, sh_34_4 S, sh_34_5 S, sh_34_6 S, sh_34_7 S, sh_35_0 S, sh_35_1 S, sh_35_2 S, sh_35_3 S, sh_40_0 S, sh_40_1 S, sh_40_2 S, sh_40_3 S, sh_40_4 S, sh_40_5 S, sh_52_0 S, sh_52_1 S, sh_52_2 S, sh_52_3 S, sh_52_4 S, sh_52_5 S, sh_52_6 S, sh_52_7 S, sh_53_0 S, sh_53_1 S, sh_53_2 S, sh_53_3 S, sh_58_0 S, sh_58_1 S, sh_58_2 S, sh_58_3 S, sh_58_4 S, sh_58_5 S, e107, b2_t hc, pp, pp1, kp, eH, ey, sh_34_0 S1, sh_34_1 S1, sh_34_2 S1, sh_34_3 S1, sh_34_4 S1, sh_34_5 S1, sh_34_6 S1, sh_34_7 S1,  b2_f (not_not_intro h1), zz, h2, w1, w5, w6, c0, c1, up_at, show xH m 34 c 34 9 = m 34 9 from rfl, zq, b2_T, b2_F, Int.reduceEq, Int.reduceLT, Int.reduceLE, Int.reduceAdd, Int.reduceSub, Int.reduceMul, Int.reduceNeg, reduceIte, if_true, if_false, true_or, or_true, false_or, or_false, false_and, and_false, eq_self, not_false_eq_true, not_true_eq_false, true_and, and_true, List.cons_append, List.nil_append, List.append_nil, b2_0, b2_1, b2_01, Classical.not_not]
  · rw [if_pos h1]
    have j1 : jor 0 1 = 0 + 1 := by decide
    have j2 : jor 2 1 = 2 + 1 := by decide
    have jj : jor f 1 = f + 1 := by
      rcases hf with rfl | rfl
      · exact j1
      · exact j2
    have h2 : ¬ g 72 c = 8 := fun x => h1 ⟨by omega, Or.inl (by omega)⟩
    have S2 : Sh (up (up (xH m 34 c) 51 c 1) 34 11 (m 34 11 + 1)) := Sh.up (Sh_ar S1 (by decide)) (by decide)
    have zz := z _ S2 (by rcases hp with rfl | rfl <;> rfl)
    have zq := zl _ S2 rfl
    simp only [p62_0, p62_1, p62_4, p62_7, p62_9, p62_11, p62_13, p62_14, p62_17, p62_20, p62_21, p62_24, p62_25, p62_26, p62_27, p62_28, p62_29, p62_30, p62_31, p62_32, p62_35, p62_38, p62_40, p62_41, p62_42, p62_44, p62_45, p62_48, p62_49, p62_50, p62_51, p62_52, p62_53, p62_56, p62_57, p62_58, p62_61, p62_62, p62_65, p62_66, p62_69, p62_71, p62_74, p62_76, p62_77, p62_78, p62_80, p62_81, p62_84, p62_85, p62_86, p62_87, p62_88, p62_89, p62_90, p62_91, p62_92, p62_95, p62_96, p62_97, p62_100, p62_101, p62_104, p62_105, p62_106, p62_107, p62_110, p62_111, p62_114, p62_115, p62_116, p62_119, p62_120, p62_121, p62_124, p62_125, p62_128, p62_129, p62_130, p62_131, p62_132, p62_133, p62_134, p62_136, p62_139, p62_141, K_27, K_28, L_28, K_29, L_29, K_30, L_30, K_31, L_31, K_32, L_32, K_33, L_33, K_34, K_35, K_36, L_36, K_37, L_37, K_38, L_38, K_39, L_39, K_40, K_41, L_41, K_42, L_42, K_43, L_43, K_44, L_44, K_45, L_45, K_46, L_46, K_47, L_47, K_48, L_48, K_49, L_49, K_50, L_50, K_51, L_51, K_52, K_53, K_54, L_54, K_55, L_55, K_56, L_56, K_57, L_57, K_58, K_59, L_59, K_60, L_60, K_61, L_61, K_62, L_62, K_63, L_63, K_64, L_64, K_65, L_65, K_66, L_66, K_67, L_67, K_68, L_68, K_69, L_69, sh_27_0 S, sh_27_1 S, sh_27_2 S, sh_27_3 S, sh_27_4 S, sh_27_5 S, sh_34_0 S, sh_34_1 S, sh_34_2 S, sh_34_3 S, sh_34_4 S, sh_34_5 S, sh_34_6 S, sh_34_7 S, sh_35_0 S, sh_35_1 S, sh_35_2 S, sh_35_3 S, sh_40_0 S, sh_40_1 S, sh_40_2 S, sh_40_3 S, sh_40_4 S, sh_40_5 S, sh_52_0 S, sh_52_1 S, sh_52_2 S, sh_52_3 S, sh_52_4 S, sh_52_5 S, sh_52_6 S, sh_52_7 S, sh_53_0 S, sh_53_1 S, sh_53_2 S, sh_53_3 S, sh_58_0 S, sh_58_1 S, sh_58_2 S, sh_58_3 S, sh_58_4 S, sh_58_5 S, e107, b2_t hc, pp, pp1, kp, eH, ey, sh_34_0 S1, sh_34_1 S1, sh_34_2 S1, sh_34_3 S1, sh_34_4 S1, sh_34_5 S1, sh_34_6 S1, sh_34_7 S1,  b2_t h1, zz, h2, jj, sh_34_0 S2, sh_34_1 S2, sh_34_2 S2, sh_34_3 S2, sh_34_4 S2, sh_34_5 S2, sh_34_6 S2, sh_34_7 S2,  w1, w2, w5, w6, c0, c1, up_at, show xH m 34 c 34 11 = m 34 11 from rfl, show xH m 34 c 34 9 = m 34 9 from rfl, show (up (up (xH m 34 c) 51 c 1) 34 11 (m 34 11 + 1)) 34 9 = m 34 9 from rfl, zq, b2_T, b2_F, Int.reduceEq, Int.reduceLT, Int.reduceLE, Int.reduceAdd, Int.reduceSub, Int.reduceMul, Int.reduceNeg, reduceIte, if_true, if_false, true_or, or_true, false_or, or_false, false_and, and_false, eq_self, not_false_eq_true, not_true_eq_false, true_and, and_true, List.cons_append, List.nil_append, List.append_nil, b2_0, b2_1, b2_01, Classical.not_not]
theorem e62_52 (R : RR m 52 p g w v) (hp : p = 9 ∨ p = 18) (T : GT g) (A : GA g n) (hn : n ≤ 1000) (e4c : 0 ≤ m 53 4 ∧ m 53 4 ≤ 1000) (hc : isC c) (hs : okS s) (hf : f = 0 ∨ f = 2) : WP 62 0 [(2, 52), (0, c), (0, s), (0, k), (0, f), (3, 0), (3, 0)] [] (dsB ++ tl) m Q = Q (dsB ++ tl) (xNote m 52 g c s k f) [(0, m 53 4)] := by
  have S := R.S
  have pp := R.pp
  have kp := (PAp (tl := tl) S hp).1
  have e1 := R.P.k c hc
  have e2 := R.B.nu c hc
  have eh := R.C.hi c hc
  have er := R.C.ri c hc
  have ef := R.C.fr c hc
  have tg := T.rg c hc
  have bh := A.hs c hc
  have br := A.rg c hc
  have xl := R.X.ls
  have xr := R.X.rg
  have lb := A.lc
  have rb := A.rc
  have c0 := hc.1
  have c1 := hc.2
  simp only [Int.reduceAdd] at e2 eh er ef
  have w1 : w32 (m 65 c + 1) = m 65 c + 1 := w32_id (by omega) (by omega)
  have w2 : w32 (m 52 11 + 1) = m 52 11 + 1 := w32_id (by omega) (by omega)
  have w3 : w32 (m 66 c + 1) = m 66 c + 1 := w32_id (by omega) (by omega)
  have w4 : w32 (m 52 12 + 1) = m 52 12 + 1 := w32_id (by omega) (by omega)
  have w5 : w32 (c * 4) = c * 4 := w32_id (by omega) (by omega)
  have w6 : w32 (c * 4 + s) = 4 * c + s := by
    have := hs.1
    have := hs.2
    rw [w32_id (by omega) (by omega)]
    omega
  have S1 : Sh (xH m 52 c) := Sh_ar S (by decide)
  have pp1 : xH m 52 c 52 8 = p := pp
  have eH : up m 65 c (m 65 c + 1) = xH m 52 c := rfl
  have ey : ∀ Q : Ds → Mm → List MV → Prop, WP 58 0 [(2, 52), (0, c)] [] (dsB ++ tl) (xH m 52 c) Q = Q (dsB ++ tl) (xH m 52 c) [(0, b2 (¬ hsm g c))] := fun Q => e58x S1 pp ((show xH m 52 c (p + 1) c = m (p + 1) c by rcases hp with rfl | rfl <;> rfl).trans e1) e2 (by decide) hp hc
  have z : ∀ H : Mm, Sh H → H (p + 1) c = m (p + 1) c → ∀ Q : Ds → Mm → List MV → Prop, WP 24 0 [(2, p), (0, c)] [] (dsB ++ tl) H Q = Q (dsB ++ tl) H [(0, g 72 c)] := fun H SH eq Q => by
    rw [e24 (PAp SH hp), if_pos hc, eq, e1]
  have zl : ∀ H : Mm, Sh H → H 53 4 = m 53 4 → ∀ (Q : Ds → Mm → List MV → Prop) (w p k f : Int), WP 18 0 [(2, 53), (0, w), (0, p), (0, k), (0, f), (3, 0)] [] (dsB ++ tl) H Q = Q (dsB ++ tl) (xLog H 52 w p k f) [] := fun H SH eq Q w p k f => e18 (r := 52) SH (by decide) (by show 0 ≤ H 53 4 ∧ H 53 4 ≤ 1000; rw [eq]; exact e4c)
  unfold xNote
  by_cases h1 : hsm g c
  · rw [if_neg (not_not_intro h1)]
    by_cases h2 : g 72 c = 8
    · rw [if_pos h2]
      have j1 : jor 0 4 = 0 + 4 := by decide
      have j2 : jor 2 4 = 2 + 4 := by decide
      have jj : jor f 4 = f + 4 := by
        rcases hf with rfl | rfl
        · exact j1
        · exact j2
      have S2 : Sh (xR m 52 c) := Sh.up (Sh_ar S1 (by decide)) (by decide)
      have eR : up (up (xH m 52 c) 66 c (m 66 c + 1)) 52 12 (m 52 12 + 1) = xR m 52 c := rfl
      have zz := z (xH m 52 c) S1 (by rcases hp with rfl | rfl <;> rfl)
      rw [h2] at zz
      have yb : xH m 52 c 66 c = m 66 c := rfl
      have ya : xH m 52 c 52 12 = m 52 12 := rfl
      have y1 : xR m 52 c 52 9 = m 52 9 := rfl
      have y2 : xR m 52 c 67 c = m 67 c := rfl
      by_cases h3 : g 105 (96 * g 70 45 + c) = 0
      · rw [if_pos h3]
        have S3 : Sh (up (xR m 52 c) 67 c (m 52 9)) := Sh_ar S2 (by decide)
        have zq := zl _ S3 rfl
        have ef' : m 67 c = -1 := ef.trans (tg.1 h3)
        simp only [p62_0, p62_1, p62_4, p62_7, p62_9, p62_11, p62_13, p62_14, p62_17, p62_20, p62_21, p62_24, p62_25, p62_26, p62_27, p62_28, p62_29, p62_30, p62_31, p62_32, p62_35, p62_38, p62_40, p62_41, p62_42, p62_44, p62_45, p62_48, p62_49, p62_50, p62_51, p62_52, p62_53, p62_56, p62_57, p62_58, p62_61, p62_62, p62_65, p62_66, p62_69, p62_71, p62_74, p62_76, p62_77, p62_78, p62_80, p62_81, p62_84, p62_85, p62_86, p62_87, p62_88, p62_89, p62_90, p62_91, p62_92, p62_95, p62_96, p62_97, p62_100, p62_101, p62_104, p62_105, p62_106, p62_107, p62_110, p62_111, p62_114, p62_115, p62_116, p62_119, p62_120, p62_121, p62_124, p62_125, p62_128, p62_129, p62_130, p62_131, p62_132, p62_133, p62_134, p62_136, p62_139, p62_141, K_27, K_28, L_28, K_29, L_29, K_30, L_30, K_31, L_31, K_32, L_32, K_33, L_33, K_34, K_35, K_36, L_36, K_37, L_37, K_38, L_38, K_39, L_39, K_40, K_41, L_41, K_42, L_42, K_43, L_43, K_44, L_44, K_45, L_45, K_46, L_46, K_47, L_47, K_48, L_48, K_49, L_49, K_50, L_50, K_51, L_51, K_52, K_53, K_54, L_54, K_55, L_55, K_56, L_56, K_57, L_57, K_58, K_59, L_59, K_60, L_60, K_61, L_61, K_62, L_62, K_63, L_63, K_64, L_64, K_65, L_65, K_66, L_66, K_67, L_67, K_68, L_68, K_69, L_69, sh_27_0 S, sh_27_1 S, sh_27_2 S, sh_27_3 S, sh_27_4 S, sh_27_5 S, sh_34_0 S, sh_34_1 S, sh_34_2 S, sh_34_3 S, sh_34_4 S, sh_34_5 S, sh_34_6 S, sh_34_7 S, sh_35_0 S, sh_35_1 S, sh_35_2 S, sh_35_3 S, sh_40_0 S, sh_40_1 S, sh_40_2 S, sh_40_3 S, sh_40_4 S, sh_40_5 S, sh_52_0 S, sh_52_1 S, sh_52_2 S, sh_52_3 S, sh_52_4 S, sh_52_5 S, sh_52_6 S, sh_52_7 S, sh_53_0 S, sh_53_1 S, sh_53_2 S, sh_53_3 S, sh_58_0 S, sh_58_1 S, sh_58_2 S, sh_58_3 S, sh_58_4 S, sh_58_5 S, e107, b2_t hc, pp, pp1, kp, eH, ey, sh_52_0 S1, sh_52_1 S1, sh_52_2 S1, sh_52_3 S1, sh_52_4 S1, sh_52_5 S1, sh_52_6 S1, sh_52_7 S1,  b2_f (not_not_intro h1), zz, jj, sh_52_0 S2, sh_52_1 S2, sh_52_2 S2, sh_52_3 S2, sh_52_4 S2, sh_52_5 S2, sh_52_6 S2, sh_52_7 S2,  w1, w3, w4, w5, w6, c0, c1, up_at, yb, ya, eR, y1, y2, ef', zq, b2_T, b2_F, Int.reduceEq, Int.reduceLT, Int.reduceLE, Int.reduceAdd, Int.reduceSub, Int.reduceMul, Int.reduceNeg, reduceIte, if_true, if_false, true_or, or_true, false_or, or_false, false_and, and_false, eq_self, not_false_eq_true, not_true_eq_false, true_and, and_true, List.cons_append, List.nil_append, List.append_nil, b2_0, b2_1, b2_01, Classical.not_not]
      · rw [if_neg h3]
        have zq := zl _ S2 rfl
        have ef' : ¬ m 67 c = -1 := fun x => h3 (tg.2 (ef.symm.trans x))
        simp only [p62_0, p62_1, p62_4, p62_7, p62_9, p62_11, p62_13, p62_14, p62_17, p62_20, p62_21, p62_24, p62_25, p62_26, p62_27, p62_28, p62_29, p62_30, p62_31, p62_32, p62_35, p62_38, p62_40, p62_41, p62_42, p62_44, p62_45, p62_48, p62_49, p62_50, p62_51, p62_52, p62_53, p62_56, p62_57, p62_58, p62_61, p62_62, p62_65, p62_66, p62_69, p62_71, p62_74, p62_76, p62_77, p62_78, p62_80, p62_81, p62_84, p62_85, p62_86, p62_87, p62_88, p62_89, p62_90, p62_91, p62_92, p62_95, p62_96, p62_97, p62_100, p62_101, p62_104, p62_105, p62_106, p62_107, p62_110, p62_111, p62_114, p62_115, p62_116, p62_119, p62_120, p62_121, p62_124, p62_125, p62_128, p62_129, p62_130, p62_131, p62_132, p62_133, p62_134, p62_136, p62_139, p62_141, K_27, K_28, L_28, K_29, L_29, K_30, L_30, K_31, L_31, K_32, L_32, K_33, L_33, K_34, K_35, K_36, L_36, K_37, L_37, K_38, L_38, K_39, L_39, K_40, K_41, L_41, K_42, L_42, K_43, L_43, K_44, L_44, K_45, L_45, K_46, L_46, K_47, L_47, K_48, L_48, K_49, L_49, K_50, L_50, K_51, L_51, K_52, K_53, K_54, L_54, K_55, L_55, K_56, L_56, K_57, L_57, K_58, K_59, L_59, K_60, L_60, K_61, L_61, K_62, L_62, K_63, L_63, K_64, L_64, K_65, L_65, K_66, L_66, K_67, L_67, K_68, L_68, K_69, L_69, sh_27_0 S, sh_27_1 S, sh_27_2 S, sh_27_3 S, sh_27_4 S, sh_27_5 S, sh_34_0 S, sh_34_1 S, sh_34_2 S, sh_34_3 S, sh_34_4 S, sh_34_5 S, sh_34_6 S, sh_34_7 S, sh_35_0 S, sh_35_1 S, sh_35_2 S, sh_35_3 S, sh_40_0 S, sh_40_1 S, sh_40_2 S, sh_40_3 S, sh_40_4 S, sh_40_5 S, sh_52_0 S, sh_52_1 S, sh_52_2 S, sh_52_3 S, sh_52_4 S, sh_52_5 S, sh_52_6 S, sh_52_7 S, sh_53_0 S, sh_53_1 S, sh_53_2 S, sh_53_3 S, sh_58_0 S, sh_58_1 S, sh_58_2 S, sh_58_3 S, sh_58_4 S, sh_58_5 S, e107, b2_t hc, pp, pp1, kp, eH, ey, sh_52_0 S1, sh_52_1 S1, sh_52_2 S1, sh_52_3 S1, sh_52_4 S1, sh_52_5 S1, sh_52_6 S1, sh_52_7 S1,  b2_f (not_not_intro h1), zz, jj, sh_52_0 S2, sh_52_1 S2, sh_52_2 S2, sh_52_3 S2, sh_52_4 S2, sh_52_5 S2, sh_52_6 S2, sh_52_7 S2,  w1, w3, w4, w5, w6, c0, c1, up_at, yb, ya, eR, y1, y2, ef', zq, b2_T, b2_F, Int.reduceEq, Int.reduceLT, Int.reduceLE, Int.reduceAdd, Int.reduceSub, Int.reduceMul, Int.reduceNeg, reduceIte, if_true, if_false, true_or, or_true, false_or, or_false, false_and, and_false, eq_self, not_false_eq_true, not_true_eq_false, true_and, and_true, List.cons_append, List.nil_append, List.append_nil, b2_0, b2_1, b2_01, Classical.not_not]
    · rw [if_neg h2]
      have zz := z (xH m 52 c) S1 (by rcases hp with rfl | rfl <;> rfl)
      have zq := zl _ S1 rfl
      simp only [p62_0, p62_1, p62_4, p62_7, p62_9, p62_11, p62_13, p62_14, p62_17, p62_20, p62_21, p62_24, p62_25, p62_26, p62_27, p62_28, p62_29, p62_30, p62_31, p62_32, p62_35, p62_38, p62_40, p62_41, p62_42, p62_44, p62_45, p62_48, p62_49, p62_50, p62_51, p62_52, p62_53, p62_56, p62_57, p62_58, p62_61, p62_62, p62_65, p62_66, p62_69, p62_71, p62_74, p62_76, p62_77, p62_78, p62_80, p62_81, p62_84, p62_85, p62_86, p62_87, p62_88, p62_89, p62_90, p62_91, p62_92, p62_95, p62_96, p62_97, p62_100, p62_101, p62_104, p62_105, p62_106, p62_107, p62_110, p62_111, p62_114, p62_115, p62_116, p62_119, p62_120, p62_121, p62_124, p62_125, p62_128, p62_129, p62_130, p62_131, p62_132, p62_133, p62_134, p62_136, p62_139, p62_141, K_27, K_28, L_28, K_29, L_29, K_30, L_30, K_31, L_31, K_32, L_32, K_33, L_33, K_34, K_35, K_36, L_36, K_37, L_37, K_38, L_38, K_39, L_39, K_40, K_41, L_41, K_42, L_42, K_43, L_43, K_44, L_44, K_45, L_45, K_46, L_46, K_47, L_47, K_48, L_48, K_49, L_49, K_50, L_50, K_51, L_51, K_52, K_53, K_54, L_54, K_55, L_55, K_56, L_56, K_57, L_57, K_58, K_59, L_59, K_60, L_60, K_61, L_61, K_62, L_62, K_63, L_63, K_64, L_64, K_65, L_65, K_66, L_66, K_67, L_67, K_68, L_68, K_69, L_69, sh_27_0 S, sh_27_1 S, sh_27_2 S, sh_27_3 S, sh_27_4 S, sh_27_5 S, sh_34_0 S, sh_34_1 S, sh_34_2 S, sh_34_3 S, sh_34_4 S, sh_34_5 S, sh_34_6 S, sh_34_7 S, sh_35_0 S, sh_35_1 S, sh_35_2 S, sh_35_3 S, sh_40_0 S, sh_40_1 S, sh_40_2 S, sh_40_3 S, sh_40_4 S, sh_40_5 S, sh_52_0 S, sh_52_1 S, sh_52_2 S, sh_52_3 S, sh_52_4 S, sh_52_5 S, sh_52_6 S, sh_52_7 S, sh_53_0 S, sh_53_1 S, sh_53_2 S, sh_53_3 S, sh_58_0 S, sh_58_1 S, sh_58_2 S, sh_58_3 S, sh_58_4 S, sh_58_5 S, e107, b2_t hc, pp, pp1, kp, eH, ey, sh_52_0 S1, sh_52_1 S1, sh_52_2 S1, sh_52_3 S1, sh_52_4 S1, sh_52_5 S1, sh_52_6 S1, sh_52_7 S1,  b2_f (not_not_intro h1), zz, h2, w1, w5, w6, c0, c1, up_at, show xH m 52 c 52 9 = m 52 9 from rfl, zq, b2_T, b2_F, Int.reduceEq, Int.reduceLT, Int.reduceLE, Int.reduceAdd, Int.reduceSub, Int.reduceMul, Int.reduceNeg, reduceIte, if_true, if_false, true_or, or_true, false_or, or_false, false_and, and_false, eq_self, not_false_eq_true, not_true_eq_false, true_and, and_true, List.cons_append, List.nil_append, List.append_nil, b2_0, b2_1, b2_01, Classical.not_not]
  · rw [if_pos h1]
    have j1 : jor 0 1 = 0 + 1 := by decide
    have j2 : jor 2 1 = 2 + 1 := by decide
    have jj : jor f 1 = f + 1 := by
      rcases hf with rfl | rfl
      · exact j1
      · exact j2
    have h2 : ¬ g 72 c = 8 := fun x => h1 ⟨by omega, Or.inl (by omega)⟩
    have S2 : Sh (up (up (xH m 52 c) 69 c 1) 52 11 (m 52 11 + 1)) := Sh.up (Sh_ar S1 (by decide)) (by decide)
    have zz := z _ S2 (by rcases hp with rfl | rfl <;> rfl)
    have zq := zl _ S2 rfl
    simp only [p62_0, p62_1, p62_4, p62_7, p62_9, p62_11, p62_13, p62_14, p62_17, p62_20, p62_21, p62_24, p62_25, p62_26, p62_27, p62_28, p62_29, p62_30, p62_31, p62_32, p62_35, p62_38, p62_40, p62_41, p62_42, p62_44, p62_45, p62_48, p62_49, p62_50, p62_51, p62_52, p62_53, p62_56, p62_57, p62_58, p62_61, p62_62, p62_65, p62_66, p62_69, p62_71, p62_74, p62_76, p62_77, p62_78, p62_80, p62_81, p62_84, p62_85, p62_86, p62_87, p62_88, p62_89, p62_90, p62_91, p62_92, p62_95, p62_96, p62_97, p62_100, p62_101, p62_104, p62_105, p62_106, p62_107, p62_110, p62_111, p62_114, p62_115, p62_116, p62_119, p62_120, p62_121, p62_124, p62_125, p62_128, p62_129, p62_130, p62_131, p62_132, p62_133, p62_134, p62_136, p62_139, p62_141, K_27, K_28, L_28, K_29, L_29, K_30, L_30, K_31, L_31, K_32, L_32, K_33, L_33, K_34, K_35, K_36, L_36, K_37, L_37, K_38, L_38, K_39, L_39, K_40, K_41, L_41, K_42, L_42, K_43, L_43, K_44, L_44, K_45, L_45, K_46, L_46, K_47, L_47, K_48, L_48, K_49, L_49, K_50, L_50, K_51, L_51, K_52, K_53, K_54, L_54, K_55, L_55, K_56, L_56, K_57, L_57, K_58, K_59, L_59, K_60, L_60, K_61, L_61, K_62, L_62, K_63, L_63, K_64, L_64, K_65, L_65, K_66, L_66, K_67, L_67, K_68, L_68, K_69, L_69, sh_27_0 S, sh_27_1 S, sh_27_2 S, sh_27_3 S, sh_27_4 S, sh_27_5 S, sh_34_0 S, sh_34_1 S, sh_34_2 S, sh_34_3 S, sh_34_4 S, sh_34_5 S, sh_34_6 S, sh_34_7 S, sh_35_0 S, sh_35_1 S, sh_35_2 S, sh_35_3 S, sh_40_0 S, sh_40_1 S, sh_40_2 S, sh_40_3 S, sh_40_4 S, sh_40_5 S, sh_52_0 S, sh_52_1 S, sh_52_2 S, sh_52_3 S, sh_52_4 S, sh_52_5 S, sh_52_6 S, sh_52_7 S, sh_53_0 S, sh_53_1 S, sh_53_2 S, sh_53_3 S, sh_58_0 S, sh_58_1 S, sh_58_2 S, sh_58_3 S, sh_58_4 S, sh_58_5 S, e107, b2_t hc, pp, pp1, kp, eH, ey, sh_52_0 S1, sh_52_1 S1, sh_52_2 S1, sh_52_3 S1, sh_52_4 S1, sh_52_5 S1, sh_52_6 S1, sh_52_7 S1,  b2_t h1, zz, h2, jj, sh_52_0 S2, sh_52_1 S2, sh_52_2 S2, sh_52_3 S2, sh_52_4 S2, sh_52_5 S2, sh_52_6 S2, sh_52_7 S2,  w1, w2, w5, w6, c0, c1, up_at, show xH m 52 c 52 11 = m 52 11 from rfl, show xH m 52 c 52 9 = m 52 9 from rfl, show (up (up (xH m 52 c) 69 c 1) 52 11 (m 52 11 + 1)) 52 9 = m 52 9 from rfl, zq, b2_T, b2_F, Int.reduceEq, Int.reduceLT, Int.reduceLE, Int.reduceAdd, Int.reduceSub, Int.reduceMul, Int.reduceNeg, reduceIte, if_true, if_false, true_or, or_true, false_or, or_false, false_and, and_false, eq_self, not_false_eq_true, not_true_eq_false, true_and, and_true, List.cons_append, List.nil_append, List.append_nil, b2_0, b2_1, b2_01, Classical.not_not]
end CNOTE
