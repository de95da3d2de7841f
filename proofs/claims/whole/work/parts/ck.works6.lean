/-! the reference's run: works: splits; all kinds -/
section WORKS6
variable {tl : Ds} {m : Mm} {Q : Ds → Mm → List MV → Prop} {c s i o b : Int}
theorem Sh_si {m : Mm} (S : Sh m) {i v : Int} (h : i = 24 ∨ i = 25 ∨ i = 26 ∨ i = 30 ∨ i = 45) : Sh (up m 70 i v) := by
  rcases h with rfl | rfl | rfl | rfl | rfl
  · exact Sh.up S (by decide)
  · exact Sh.up S (by decide)
  · exact Sh.up S (by decide)
  · exact Sh.up S (by decide)
  · exact Sh.up S (by decide)
theorem Sh_add {m : Mm} {t c s k r : Int} (S : Sh m) : Sh (mAdd m t c s k r) := by
  unfold mAdd
  split
  · exact S
  · have h1 : Sh (up (up (up (up (up m 86 (m 70 24) c) 87 (m 70 24) s) 88 (m 70 24) k) 89 (m 70 24) r) 90 (m 70 24) (-1)) := Sh_ar (Sh_ar (Sh_ar (Sh_ar (Sh_ar S (by decide)) (by decide)) (by decide)) (by decide)) (by decide)
    dsimp only
    refine Sh_si (Sh_si (Sh_ar ?_ (by decide)) (by decide)) (by decide)
    split
    · exact Sh_ar h1 (by decide)
    · exact Sh_ar h1 (by decide)
theorem Sh_sp1 (S : Sh m) : Sh (mSp1 m c s i o) := by
  unfold mSp1
  split
  · exact S
  · exact Sh_add S
theorem QI_mono {b d : Int} (q : QI m b) (h : b ≤ d) : QI m d := ⟨⟨q.1.1, by have := q.1.2; omega⟩, ⟨q.2.1.1, by have := q.2.1.2; omega⟩, fun t h1 h2 h3 => ⟨(q.2.2 t h1 h2 h3).1, by have := (q.2.2 t h1 h2 h3).2; omega⟩⟩
theorem QI_sp1 (q : QI m b) (hb : b < 3000) : QI (mSp1 m c s i o) (b + 1) := by
  unfold mSp1
  split
  · exact QI_mono q (by omega)
  · exact QI_add q hb
theorem add_26 {m : Mm} {t c s k r : Int} : mAdd m t c s k r 70 26 = m 70 26 := by
  unfold mAdd
  split
  · rfl
  · dsimp only
    split <;> simp only [up_at, b2_T, b2_F, Int.reduceEq, Int.reduceLT, Int.reduceLE, Int.reduceAdd, Int.reduceSub, Int.reduceMul, Int.reduceNeg, reduceIte, if_true, if_false, true_or, or_true, false_or, or_false, false_and, and_false, eq_self, not_false_eq_true, not_true_eq_false, true_and, and_true, List.cons_append, List.nil_append, List.append_nil, b2_0, b2_1, b2_01, Classical.not_not]
theorem sp1_26 : mSp1 m c s i o 70 26 = m 70 26 := by
  unfold mSp1
  split
  · rfl
  · exact add_26
theorem sp_o {q4 q5 : MV} (S : Sh m) (q : QI m b) (hb : b < 2000) (hc : isC c) (ho : 0 ≤ o ∧ o < 4) (hn : 0 ≤ m 70 26 ∧ m 70 26 < 400) : WP 160 200 [(2, 70), (0, c), (0, s), (0, i), q4, q5, (0, o)] [] (dsB ++ tl) m Q = WP 160 200 [(2, 70), (0, c), (0, s), (0, i), q4, q5, (0, o + 1)] [] (dsB ++ tl) (mSp1 m c s i o) Q := by
  have g0 : 0 ≤ c := hc.1
  have g1 : c < 96 := hc.2
  have w1 : w32 (m 70 26 + 1) = m 70 26 + 1 := w32_id (by omega) (by omega)
  have w2 : w32 (o + 2) = o + 2 := w32_id (by omega) (by omega)
  have w3 : jrem (o + 2) 4 = opp o := jrem_nn (by omega) (by omega) (by omega) (by omega)
  have w4 : w32 (o + 1) = o + 1 := w32_id (by omega) (by omega)
  have w5 : o < 4 := ho.2
  have ex : ∀ Q : Ds → Mm → List MV → Prop, WP 155 0 [(2, 70), (0, m 70 26 + 1), (0, nxt c o), (0, opp o), (0, i), (0, 0)] [] (dsB ++ tl) m Q = Q (dsB ++ tl) (mAdd m (m 70 26 + 1) (nxt c o) (opp o) i 0) [] := fun Q => e155q S q hb (⟨by omega, by omega⟩) (Or.inl rfl)
  rw [p160_200]
  unfold mSp1
  by_cases h1 : o = s
  · simp only [if_pos h1]
    simp only [p160_202, p160_203, p160_206, p160_208, p160_209, p160_212, p160_213, p160_214, p160_217, p160_218, p160_219, p160_220, p160_222, p160_225, p160_227, p160_228, p160_229, p160_230, p160_231, p160_232, p160_233, p160_236, p160_239, h1.symm, w5, w4, b2_T, b2_F, Int.reduceEq, Int.reduceLT, Int.reduceLE, Int.reduceAdd, Int.reduceSub, Int.reduceMul, Int.reduceNeg, reduceIte, if_true, if_false, true_or, or_true, false_or, or_false, false_and, and_false, eq_self, not_false_eq_true, not_true_eq_false, true_and, and_true, List.cons_append, List.nil_append, List.append_nil, b2_0, b2_1, b2_01, Classical.not_not]
  · simp only [if_neg h1]
    simp only [p160_202, p160_203, p160_206, p160_208, p160_209, p160_212, p160_213, p160_214, p160_217, p160_218, p160_219, p160_220, p160_222, p160_225, p160_227, p160_228, p160_229, p160_230, p160_231, p160_232, p160_233, p160_236, p160_239, e123 g0 g1 ho.1 ho.2, K_70, K_72, L_72, K_73, L_73, K_74, L_74, K_75, L_75, K_76, L_76, K_86, L_86, K_87, L_87, K_88, L_88, K_89, L_89, K_90, L_90, K_91, L_91, K_92, L_92, K_93, L_93, K_94, L_94, K_95, L_95, K_96, L_96, K_97, L_97, K_98, L_98, K_99, L_99, K_100, L_100, K_101, L_101, K_102, L_102, K_103, L_103, K_104, L_104, K_105, L_105, K_106, L_106, K_107, L_107, K_108, L_108, K_109, L_109, sh_70_1 S, sh_70_2 S, sh_70_3 S, sh_70_4 S, sh_70_5 S, sh_70_17 S, sh_70_18 S, sh_70_19 S, sh_70_20 S, sh_70_21 S, sh_70_22 S, sh_70_23 S, sh_70_27 S, sh_70_28 S, sh_70_29 S, sh_70_31 S, sh_70_32 S, sh_70_33 S, sh_70_34 S, sh_70_35 S, sh_70_36 S, sh_70_37 S, sh_70_38 S, sh_70_39 S, sh_70_40 S, sh_70_41 S, sh_70_42 S, sh_70_43 S, sh_70_44 S, h1, w1, w2, w3, w4, w5, ex, b2_T, b2_F, Int.reduceEq, Int.reduceLT, Int.reduceLE, Int.reduceAdd, Int.reduceSub, Int.reduceMul, Int.reduceNeg, reduceIte, if_true, if_false, true_or, or_true, false_or, or_false, false_and, and_false, eq_self, not_false_eq_true, not_true_eq_false, true_and, and_true, List.cons_append, List.nil_append, List.append_nil, b2_0, b2_1, b2_01, Classical.not_not]
theorem e160_5 (S : Sh m) (q : QI m b) (hb : b < 1990) (hc : isC c) (hk : m 72 c = 5) (hn : 0 ≤ m 70 26 ∧ m 70 26 < 400) (ht : 0 ≤ m 93 c ∧ m 93 c < 2000) : WP 160 0 [(2, 70), (0, c), (0, s), (0, i), (3, 0), (3, 0), (3, 0)] [] (dsB ++ tl) m Q = Q (dsB ++ tl) (mWork m c s i) [] := by
  have g0 : 0 ≤ c := hc.1
  have g1 : c < 96 := hc.2
  have w1 : w32 (m 93 c + 1) = m 93 c + 1 := w32_id (by omega) (by omega)
  have eu : up m 93 c (m 93 c + 1) = mTm m c := rfl
  have v1 : ∀ j, mTm m c 72 j = m 72 j := fun j => rfl
  have v3 : mTm m c 93 c = m 93 c + 1 := by simp only [mTm, up_at, and_self, b2_T, b2_F, Int.reduceEq, Int.reduceLT, Int.reduceLE, Int.reduceAdd, Int.reduceSub, Int.reduceMul, Int.reduceNeg, reduceIte, if_true, if_false, true_or, or_true, false_or, or_false, false_and, and_false, eq_self, not_false_eq_true, not_true_eq_false, true_and, and_true, List.cons_append, List.nil_append, List.append_nil, b2_0, b2_1, b2_01, Classical.not_not]
  have v4 : ∀ j, mTm m c 70 j = m 70 j := fun j => rfl
  unfold mWork
  by_cases h1 : m 93 c = 0
  · have hs : ∀ (q4 q5 : MV), WP 160 200 [(2, 70), (0, c), (0, s), (0, i), q4, q5, (0, 0)] [] (dsB ++ tl) (mTm m c) Q = Q (dsB ++ tl) (mSpl (mTm m c) c s i) [] := by
      intro q4 q5
      have S0 : Sh (mTm m c) := Sh_tm S
      have q0 : QI (mTm m c) b := QI_tm q
      rw [sp_o S0 q0 (by omega) hc (by omega) hn]
      rw [sp_o (Sh_sp1 S0) (QI_sp1 q0 (by omega)) (by omega) hc (by omega) (by rw [sp1_26]; exact hn)]
      rw [sp_o (Sh_sp1 (Sh_sp1 S0)) (QI_sp1 (QI_sp1 q0 (by omega)) (by omega)) (by omega) hc (by omega) (by rw [sp1_26, sp1_26]; exact hn)]
      rw [sp_o (Sh_sp1 (Sh_sp1 (Sh_sp1 S0))) (QI_sp1 (QI_sp1 (QI_sp1 q0 (by omega)) (by omega)) (by omega)) (by omega) hc (by omega) (by rw [sp1_26, sp1_26, sp1_26]; exact hn)]
      rw [p160_200]
      unfold mSpl
      simp only [p160_202, p160_203, p160_242, p160_370, b2_T, b2_F, Int.reduceEq, Int.reduceLT, Int.reduceLE, Int.reduceAdd, Int.reduceSub, Int.reduceMul, Int.reduceNeg, reduceIte, if_true, if_false, true_or, or_true, false_or, or_false, false_and, and_false, eq_self, not_false_eq_true, not_true_eq_false, true_and, and_true, List.cons_append, List.nil_append, List.append_nil, b2_0, b2_1, b2_01, Classical.not_not]
    simp only [if_pos h1, hk, b2_T, b2_F, Int.reduceEq, Int.reduceLT, Int.reduceLE, Int.reduceAdd, Int.reduceSub, Int.reduceMul, Int.reduceNeg, reduceIte, if_true, if_false, true_or, or_true, false_or, or_false, false_and, and_false, eq_self, not_false_eq_true, not_true_eq_false, true_and, and_true, List.cons_append, List.nil_append, List.append_nil, b2_0, b2_1, b2_01, Classical.not_not]
    simp only [p160_0, p160_1, p160_4, p160_5, p160_6, p160_8, p160_9, p160_12, p160_13, p160_14, p160_15, p160_16, p160_17, p160_18, p160_19, p160_22, p160_23, p160_24, p160_25, p160_28, p160_29, p160_32, p160_33, p160_35, p160_37, p160_38, p160_41, p160_42, p160_45, p160_46, p160_47, p160_50, p160_51, p160_52, p160_53, p160_54, p160_57, p160_58, p160_59, p160_62, p160_63, p160_66, p160_67, p160_68, p160_69, p160_70, p160_71, p160_74, p160_75, p160_76, p160_77, p160_78, p160_79, p160_80, p160_81, p160_82, p160_85, p160_86, p160_87, p160_88, p160_91, p160_94, p160_96, p160_97, p160_100, p160_101, p160_102, p160_105, p160_106, p160_107, p160_110, p160_111, p160_112, p160_113, p160_114, p160_117, p160_120, p160_122, p160_123, p160_126, p160_128, p160_131, p160_132, p160_135, p160_136, p160_139, p160_140, p160_141, p160_142, p160_145, p160_146, p160_147, p160_150, p160_151, p160_152, p160_153, p160_154, p160_157, p160_160, p160_162, p160_163, p160_166, p160_168, p160_171, p160_172, p160_173, p160_174, p160_177, p160_178, p160_179, p160_180, p160_183, p160_186, p160_188, p160_189, p160_192, p160_194, p160_197, p160_198, p160_245, p160_247, p160_249, p160_252, p160_253, p160_256, p160_257, p160_258, p160_259, p160_262, p160_263, p160_264, p160_267, p160_268, p160_269, p160_270, p160_271, p160_274, p160_277, p160_279, p160_281, p160_284, p160_285, p160_288, p160_289, p160_290, p160_291, p160_294, p160_296, p160_298, p160_301, p160_303, p160_304, p160_307, p160_308, p160_309, p160_310, p160_312, p160_313, p160_316, p160_318, p160_319, p160_322, p160_323, p160_326, p160_328, p160_329, p160_332, p160_333, p160_334, p160_337, p160_339, p160_340, p160_341, p160_342, p160_345, p160_347, p160_348, p160_349, p160_350, p160_351, p160_352, p160_353, p160_356, p160_358, p160_359, p160_362, p160_363, p160_364, p160_365, p160_366, p160_367, p160_368, p160_369, p160_370, K_70, K_72, L_72, K_73, L_73, K_74, L_74, K_75, L_75, K_76, L_76, K_86, L_86, K_87, L_87, K_88, L_88, K_89, L_89, K_90, L_90, K_91, L_91, K_92, L_92, K_93, L_93, K_94, L_94, K_95, L_95, K_96, L_96, K_97, L_97, K_98, L_98, K_99, L_99, K_100, L_100, K_101, L_101, K_102, L_102, K_103, L_103, K_104, L_104, K_105, L_105, K_106, L_106, K_107, L_107, K_108, L_108, K_109, L_109, sh_70_1 S, sh_70_2 S, sh_70_3 S, sh_70_4 S, sh_70_5 S, sh_70_17 S, sh_70_18 S, sh_70_19 S, sh_70_20 S, sh_70_21 S, sh_70_22 S, sh_70_23 S, sh_70_27 S, sh_70_28 S, sh_70_29 S, sh_70_31 S, sh_70_32 S, sh_70_33 S, sh_70_34 S, sh_70_35 S, sh_70_36 S, sh_70_37 S, sh_70_38 S, sh_70_39 S, sh_70_40 S, sh_70_41 S, sh_70_42 S, sh_70_43 S, sh_70_44 S, g0, g1, w1, hk, eu, v1, v3, v4, tm_eq, eq_true h1, hs, b2_T, b2_F, Int.reduceEq, Int.reduceLT, Int.reduceLE, Int.reduceAdd, Int.reduceSub, Int.reduceMul, Int.reduceNeg, reduceIte, if_true, if_false, true_or, or_true, false_or, or_false, false_and, and_false, eq_self, not_false_eq_true, not_true_eq_false, true_and, and_true, List.cons_append, List.nil_append, List.append_nil, b2_0, b2_1, b2_01, Classical.not_not]
  · simp only [p160_0, p160_1, p160_4, p160_5, p160_6, p160_8, p160_9, p160_12, p160_13, p160_14, p160_15, p160_16, p160_17, p160_18, p160_19, p160_22, p160_23, p160_24, p160_25, p160_28, p160_29, p160_32, p160_33, p160_35, p160_37, p160_38, p160_41, p160_42, p160_45, p160_46, p160_47, p160_50, p160_51, p160_52, p160_53, p160_54, p160_57, p160_58, p160_59, p160_62, p160_63, p160_66, p160_67, p160_68, p160_69, p160_70, p160_71, p160_74, p160_75, p160_76, p160_77, p160_78, p160_79, p160_80, p160_81, p160_82, p160_85, p160_86, p160_87, p160_88, p160_91, p160_94, p160_96, p160_97, p160_100, p160_101, p160_102, p160_105, p160_106, p160_107, p160_110, p160_111, p160_112, p160_113, p160_114, p160_117, p160_120, p160_122, p160_123, p160_126, p160_128, p160_131, p160_132, p160_135, p160_136, p160_139, p160_140, p160_141, p160_142, p160_145, p160_146, p160_147, p160_150, p160_151, p160_152, p160_153, p160_154, p160_157, p160_160, p160_162, p160_163, p160_166, p160_168, p160_171, p160_172, p160_173, p160_174, p160_177, p160_178, p160_179, p160_180, p160_183, p160_186, p160_188, p160_189, p160_192, p160_194, p160_245, p160_247, p160_249, p160_252, p160_253, p160_256, p160_257, p160_258, p160_259, p160_262, p160_263, p160_264, p160_267, p160_268, p160_269, p160_270, p160_271, p160_274, p160_277, p160_279, p160_281, p160_284, p160_285, p160_288, p160_289, p160_290, p160_291, p160_294, p160_296, p160_298, p160_301, p160_303, p160_304, p160_307, p160_308, p160_309, p160_310, p160_312, p160_313, p160_316, p160_318, p160_319, p160_322, p160_323, p160_326, p160_328, p160_329, p160_332, p160_333, p160_334, p160_337, p160_339, p160_340, p160_341, p160_342, p160_345, p160_347, p160_348, p160_349, p160_350, p160_351, p160_352, p160_353, p160_356, p160_358, p160_359, p160_362, p160_363, p160_364, p160_365, p160_366, p160_367, p160_368, p160_369, p160_370, K_70, K_72, L_72, K_73, L_73, K_74, L_74, K_75, L_75, K_76, L_76, K_86, L_86, K_87, L_87, K_88, L_88, K_89, L_89, K_90, L_90, K_91, L_91, K_92, L_92, K_93, L_93, K_94, L_94, K_95, L_95, K_96, L_96, K_97, L_97, K_98, L_98, K_99, L_99, K_100, L_100, K_101, L_101, K_102, L_102, K_103, L_103, K_104, L_104, K_105, L_105, K_106, L_106, K_107, L_107, K_108, L_108, K_109, L_109, sh_70_1 S, sh_70_2 S, sh_70_3 S, sh_70_4 S, sh_70_5 S, sh_70_17 S, sh_70_18 S, sh_70_19 S, sh_70_20 S, sh_70_21 S, sh_70_22 S, sh_70_23 S, sh_70_27 S, sh_70_28 S, sh_70_29 S, sh_70_31 S, sh_70_32 S, sh_70_33 S, sh_70_34 S, sh_70_35 S, sh_70_36 S, sh_70_37 S, sh_70_38 S, sh_70_39 S, sh_70_40 S, sh_70_41 S, sh_70_42 S, sh_70_43 S, sh_70_44 S, g0, g1, w1, hk, eu, v1, v3, v4, tm_eq, h1, b2_T, b2_F, Int.reduceEq, Int.reduceLT, Int.reduceLE, Int.reduceAdd, Int.reduceSub, Int.reduceMul, Int.reduceNeg, reduceIte, if_true, if_false, true_or, or_true, false_or, or_false, false_and, and_false, eq_self, not_false_eq_true, not_true_eq_false, true_and, and_true, List.cons_append, List.nil_append, List.append_nil, b2_0, b2_1, b2_01, Classical.not_not]
end WORKS6
