/-! the law's loop: every call of a script is answered alike on both sides -/
theorem jcmp_s {x : Int} : jcmp x x = 0 := by
  unfold jcmp
  rw [if_neg (by omega), if_pos rfl]
def QL : Ds → Mm → List MV → Prop := fun ds' _ r => r = [(0, 1)] ∧ ds'.length ≤ 600000 ∧ sl ds' ≤ 7302250
abbrev rng (v : Int) : Prop := -2147483648 ≤ v ∧ v < 2147483648
section LAW
variable {ds : Ds} {m : Mm} {Q : Ds → Mm → List MV → Prop} {i n s : Int}
theorem lw_0 (J : JS ds m m n) (h0 : 0 ≤ i) (h6 : i + 6 ≤ m (-3) 0) (h3 : m (-3) 0 ≤ 3072) (hr : ∀ j, 0 ≤ j → j < m (-3) 0 → rng (m (-2) j)) (hn : n < 1000000) (nx : ∀ ds' Z, JS ds' Z Z (n + 1) → (∀ x j, x < 0 → Z x j = m x j) → WP 191 1102 [(4, 0), (2, 0), (2, 70), (0, i)] [] ds' Z Q) : WP 191 164 [(4, 0), (2, 0), (2, 70), (0, i)] [] ds m Q := by
  obtain ⟨tl, rfl⟩ := J.Dt
  obtain ⟨ds2, X, Z, ⟨t, v⟩, hA, hB, J2, fZ, fX, ht⟩ := call_put (c := (m (-2) (i + 1))) (k := (m (-2) (i + 2))) (a := (m (-2) (i + 3))) (b := (m (-2) (i + 4))) J 
  have ht2 : t = 0 := ht
  subst ht2
  have y := nx ds2 Z J2 fZ
  obtain ⟨t2, rfl⟩ := J2.Dt
  have x2 : ∀ j, X (-2) j = m (-2) j := fun j => fX _ _ (by decide)
  have x3 : X (-3) 0 = m (-3) 0 := fX _ _ (by decide)
  have w1 : w32 (i + 1) = i + 1 := w32_id (by omega) (by omega)
  have b1 : 0 ≤ i + 1 ∧ i + 1 < m (-3) 0 := by omega
  have w2 : w32 (i + 2) = i + 2 := w32_id (by omega) (by omega)
  have b2 : 0 ≤ i + 2 ∧ i + 2 < m (-3) 0 := by omega
  have w3 : w32 (i + 3) = i + 3 := w32_id (by omega) (by omega)
  have b3 : 0 ≤ i + 3 ∧ i + 3 < m (-3) 0 := by omega
  have w4 : w32 (i + 4) = i + 4 := w32_id (by omega) (by omega)
  have b4 : 0 ≤ i + 4 ∧ i + 4 < m (-3) 0 := by omega
  simp only [p191_164, p191_165, p191_166, p191_167, p191_168, p191_169, p191_170, p191_171, p191_172, p191_173, p191_174, p191_175, p191_176, p191_177, p191_178, p191_179, p191_180, p191_181, p191_182, p191_183, p191_184, p191_185, p191_188, p191_189, p191_190, p191_191, p191_192, p191_193, p191_194, p191_195, p191_196, p191_197, p191_198, p191_199, p191_200, p191_201, p191_202, p191_203, p191_204, p191_205, p191_206, p191_207, p191_208, p191_209, p191_212, p191_215, p191_216, K_0, K_70, hA, hB, x2, x3, w1, b1, w2, b2, w3, b3, w4, b4, jcmp_s, y, b2_T, b2_F, Int.reduceEq, Int.reduceLT, Int.reduceLE, Int.reduceAdd, Int.reduceSub, Int.reduceMul, Int.reduceNeg, reduceIte, if_true, if_false, true_or, or_true, false_or, or_false, false_and, and_false, eq_self, not_false_eq_true, not_true_eq_false, true_and, and_true, List.cons_append, List.nil_append, List.append_nil, b2_0, b2_1, b2_01, Classical.not_not]
theorem lw_1 (J : JS ds m m n) (h0 : 0 ≤ i) (h6 : i + 6 ≤ m (-3) 0) (h3 : m (-3) 0 ≤ 3072) (hr : ∀ j, 0 ≤ j → j < m (-3) 0 → rng (m (-2) j)) (hn : n < 1000000) (nx : ∀ ds' Z, JS ds' Z Z (n + 1) → (∀ x j, x < 0 → Z x j = m x j) → WP 191 1102 [(4, 0), (2, 0), (2, 70), (0, i)] [] ds' Z Q) : WP 191 217 [(4, 0), (2, 0), (2, 70), (0, i)] [] ds m Q := by
  obtain ⟨tl, rfl⟩ := J.Dt
  obtain ⟨ds2, X, Z, ⟨t, v⟩, hA, hB, J2, fZ, fX, ht⟩ := call_cords (c1 := (m (-2) (i + 1))) (s1 := (m (-2) (i + 2))) (c2 := (m (-2) (i + 3))) (s2 := (m (-2) (i + 4))) J 
  have ht2 : t = 0 := ht
  subst ht2
  have y := nx ds2 Z J2 fZ
  obtain ⟨t2, rfl⟩ := J2.Dt
  have x2 : ∀ j, X (-2) j = m (-2) j := fun j => fX _ _ (by decide)
  have x3 : X (-3) 0 = m (-3) 0 := fX _ _ (by decide)
  have w1 : w32 (i + 1) = i + 1 := w32_id (by omega) (by omega)
  have b1 : 0 ≤ i + 1 ∧ i + 1 < m (-3) 0 := by omega
  have w2 : w32 (i + 2) = i + 2 := w32_id (by omega) (by omega)
  have b2 : 0 ≤ i + 2 ∧ i + 2 < m (-3) 0 := by omega
  have w3 : w32 (i + 3) = i + 3 := w32_id (by omega) (by omega)
  have b3 : 0 ≤ i + 3 ∧ i + 3 < m (-3) 0 := by omega
  have w4 : w32 (i + 4) = i + 4 := w32_id (by omega) (by omega)
  have b4 : 0 ≤ i + 4 ∧ i + 4 < m (-3) 0 := by omega
  simp only [p191_217, p191_218, p191_219, p191_220, p191_221, p191_222, p191_223, p191_224, p191_225, p191_226, p191_227, p191_228, p191_229, p191_230, p191_231, p191_232, p191_233, p191_234, p191_235, p191_236, p191_237, p191_238, p191_241, p191_242, p191_243, p191_244, p191_245, p191_246, p191_247, p191_248, p191_249, p191_250, p191_251, p191_252, p191_253, p191_254, p191_255, p191_256, p191_257, p191_258, p191_259, p191_260, p191_261, p191_262, p191_265, p191_268, p191_269, K_0, K_70, hA, hB, x2, x3, w1, b1, w2, b2, w3, b3, w4, b4, jcmp_s, y, b2_T, b2_F, Int.reduceEq, Int.reduceLT, Int.reduceLE, Int.reduceAdd, Int.reduceSub, Int.reduceMul, Int.reduceNeg, reduceIte, if_true, if_false, true_or, or_true, false_or, or_false, false_and, and_false, eq_self, not_false_eq_true, not_true_eq_false, true_and, and_true, List.cons_append, List.nil_append, List.append_nil, b2_0, b2_1, b2_01, Classical.not_not]
theorem lw_2 (J : JS ds m m n) (h0 : 0 ≤ i) (h6 : i + 6 ≤ m (-3) 0) (h3 : m (-3) 0 ≤ 3072) (hr : ∀ j, 0 ≤ j → j < m (-3) 0 → rng (m (-2) j)) (hn : n < 1000000) (nx : ∀ ds' Z, JS ds' Z Z (n + 1) → (∀ x j, x < 0 → Z x j = m x j) → WP 191 1102 [(4, 0), (2, 0), (2, 70), (0, i)] [] ds' Z Q) : WP 191 270 [(4, 0), (2, 0), (2, 70), (0, i)] [] ds m Q := by
  obtain ⟨tl, rfl⟩ := J.Dt
  obtain ⟨ds2, X, Z, ⟨t, v⟩, hA, hB, J2, fZ, fX, ht⟩ := call_ball (c := (m (-2) (i + 1))) J 
  have ht2 : t = 0 := ht
  subst ht2
  have y := nx ds2 Z J2 fZ
  obtain ⟨t2, rfl⟩ := J2.Dt
  have x2 : ∀ j, X (-2) j = m (-2) j := fun j => fX _ _ (by decide)
  have x3 : X (-3) 0 = m (-3) 0 := fX _ _ (by decide)
  have w1 : w32 (i + 1) = i + 1 := w32_id (by omega) (by omega)
  have b1 : 0 ≤ i + 1 ∧ i + 1 < m (-3) 0 := by omega
  simp only [p191_270, p191_271, p191_272, p191_273, p191_274, p191_275, p191_276, p191_279, p191_280, p191_281, p191_282, p191_283, p191_284, p191_285, p191_288, p191_291, p191_292, K_0, K_70, hA, hB, x2, x3, w1, b1, jcmp_s, y, b2_T, b2_F, Int.reduceEq, Int.reduceLT, Int.reduceLE, Int.reduceAdd, Int.reduceSub, Int.reduceMul, Int.reduceNeg, reduceIte, if_true, if_false, true_or, or_true, false_or, or_false, false_and, and_false, eq_self, not_false_eq_true, not_true_eq_false, true_and, and_true, List.cons_append, List.nil_append, List.append_nil, b2_0, b2_1, b2_01, Classical.not_not]
theorem lw_3 (J : JS ds m m n) (h0 : 0 ≤ i) (h6 : i + 6 ≤ m (-3) 0) (h3 : m (-3) 0 ≤ 3072) (hr : ∀ j, 0 ≤ j → j < m (-3) 0 → rng (m (-2) j)) (hn : n < 1000000) (nx : ∀ ds' Z, JS ds' Z Z (n + 1) → (∀ x j, x < 0 → Z x j = m x j) → WP 191 1102 [(4, 0), (2, 0), (2, 70), (0, i)] [] ds' Z Q) : WP 191 293 [(4, 0), (2, 0), (2, 70), (0, i)] [] ds m Q := by
  obtain ⟨tl, rfl⟩ := J.Dt
  obtain ⟨ds2, X, Z, ⟨t, v⟩, hA, hB, J2, fZ, fX, ht⟩ := call_raze (c := (m (-2) (i + 1))) J 
  have ht2 : t = 0 := ht
  subst ht2
  have y := nx ds2 Z J2 fZ
  obtain ⟨t2, rfl⟩ := J2.Dt
  have x2 : ∀ j, X (-2) j = m (-2) j := fun j => fX _ _ (by decide)
  have x3 : X (-3) 0 = m (-3) 0 := fX _ _ (by decide)
  have w1 : w32 (i + 1) = i + 1 := w32_id (by omega) (by omega)
  have b1 : 0 ≤ i + 1 ∧ i + 1 < m (-3) 0 := by omega
  simp only [p191_293, p191_294, p191_295, p191_296, p191_297, p191_298, p191_299, p191_302, p191_303, p191_304, p191_305, p191_306, p191_307, p191_308, p191_311, p191_314, p191_315, K_0, K_70, hA, hB, x2, x3, w1, b1, jcmp_s, y, b2_T, b2_F, Int.reduceEq, Int.reduceLT, Int.reduceLE, Int.reduceAdd, Int.reduceSub, Int.reduceMul, Int.reduceNeg, reduceIte, if_true, if_false, true_or, or_true, false_or, or_false, false_and, and_false, eq_self, not_false_eq_true, not_true_eq_false, true_and, and_true, List.cons_append, List.nil_append, List.append_nil, b2_0, b2_1, b2_01, Classical.not_not]
theorem lw_4 (J : JS ds m m n) (h0 : 0 ≤ i) (h6 : i + 6 ≤ m (-3) 0) (h3 : m (-3) 0 ≤ 3072) (hr : ∀ j, 0 ≤ j → j < m (-3) 0 → rng (m (-2) j)) (hn : n < 1000000) (nx : ∀ ds' Z, JS ds' Z Z (n + 1) → (∀ x j, x < 0 → Z x j = m x j) → WP 191 1102 [(4, 0), (2, 0), (2, 70), (0, i)] [] ds' Z Q) : WP 191 316 [(4, 0), (2, 0), (2, 70), (0, i)] [] ds m Q := by
  obtain ⟨tl, rfl⟩ := J.Dt
  obtain ⟨ds2, X, Z, ⟨t, v⟩, hA, hB, J2, fZ, fX, ht⟩ := call_start (c := (m (-2) (i + 1))) (s := (m (-2) (i + 2))) (t := (m (-2) (i + 3))) J 
  have ht2 : t = 0 := ht
  subst ht2
  have y := nx ds2 Z J2 fZ
  obtain ⟨t2, rfl⟩ := J2.Dt
  have x2 : ∀ j, X (-2) j = m (-2) j := fun j => fX _ _ (by decide)
  have x3 : X (-3) 0 = m (-3) 0 := fX _ _ (by decide)
  have w1 : w32 (i + 1) = i + 1 := w32_id (by omega) (by omega)
  have b1 : 0 ≤ i + 1 ∧ i + 1 < m (-3) 0 := by omega
  have w2 : w32 (i + 2) = i + 2 := w32_id (by omega) (by omega)
  have b2 : 0 ≤ i + 2 ∧ i + 2 < m (-3) 0 := by omega
  have w3 : w32 (i + 3) = i + 3 := w32_id (by omega) (by omega)
  have b3 : 0 ≤ i + 3 ∧ i + 3 < m (-3) 0 := by omega
  simp only [p191_316, p191_317, p191_318, p191_319, p191_320, p191_321, p191_322, p191_323, p191_324, p191_325, p191_326, p191_327, p191_328, p191_329, p191_330, p191_331, p191_332, p191_335, p191_336, p191_337, p191_338, p191_339, p191_340, p191_341, p191_342, p191_343, p191_344, p191_345, p191_346, p191_347, p191_348, p191_349, p191_350, p191_351, p191_354, p191_357, p191_358, K_0, K_70, hA, hB, x2, x3, w1, b1, w2, b2, w3, b3, jcmp_s, y, b2_T, b2_F, Int.reduceEq, Int.reduceLT, Int.reduceLE, Int.reduceAdd, Int.reduceSub, Int.reduceMul, Int.reduceNeg, reduceIte, if_true, if_false, true_or, or_true, false_or, or_false, false_and, and_false, eq_self, not_false_eq_true, not_true_eq_false, true_and, and_true, List.cons_append, List.nil_append, List.append_nil, b2_0, b2_1, b2_01, Classical.not_not]
theorem lw_5 (J : JS ds m m n) (h0 : 0 ≤ i) (h6 : i + 6 ≤ m (-3) 0) (h3 : m (-3) 0 ≤ 3072) (hr : ∀ j, 0 ≤ j → j < m (-3) 0 → rng (m (-2) j)) (hn : n < 1000000) (nx : ∀ ds' Z, JS ds' Z Z (n + 1) → (∀ x j, x < 0 → Z x j = m x j) → WP 191 1102 [(4, 0), (2, 0), (2, 70), (0, i)] [] ds' Z Q) : WP 191 359 [(4, 0), (2, 0), (2, 70), (0, i)] [] ds m Q := by
  obtain ⟨tl, rfl⟩ := J.Dt
  obtain ⟨ds2, X, Z, ⟨t, v⟩, hA, hB, J2, fZ, fX, ht⟩ := call_noStarts  J 
  have ht2 : t = 0 := ht
  subst ht2
  have y := nx ds2 Z J2 fZ
  obtain ⟨t2, rfl⟩ := J2.Dt
  have x2 : ∀ j, X (-2) j = m (-2) j := fun j => fX _ _ (by decide)
  have x3 : X (-3) 0 = m (-3) 0 := fX _ _ (by decide)
  simp only [p191_359, p191_360, p191_363, p191_364, p191_367, p191_370, p191_371, K_0, K_70, hA, hB, x2, x3, jcmp_s, y, b2_T, b2_F, Int.reduceEq, Int.reduceLT, Int.reduceLE, Int.reduceAdd, Int.reduceSub, Int.reduceMul, Int.reduceNeg, reduceIte, if_true, if_false, true_or, or_true, false_or, or_false, false_and, and_false, eq_self, not_false_eq_true, not_true_eq_false, true_and, and_true, List.cons_append, List.nil_append, List.append_nil, b2_0, b2_1, b2_01, Classical.not_not]
theorem lw_6 (J : JS ds m m n) (h0 : 0 ≤ i) (h6 : i + 6 ≤ m (-3) 0) (h3 : m (-3) 0 ≤ 3072) (hr : ∀ j, 0 ≤ j → j < m (-3) 0 → rng (m (-2) j)) (hn : n < 1000000) (nx : ∀ ds' Z, JS ds' Z Z (n + 1) → (∀ x j, x < 0 → Z x j = m x j) → WP 191 1102 [(4, 0), (2, 0), (2, 70), (0, i)] [] ds' Z Q) : WP 191 372 [(4, 0), (2, 0), (2, 70), (0, i)] [] ds m Q := by
  obtain ⟨tl, rfl⟩ := J.Dt
  obtain ⟨ds2, X, Z, ⟨t, v⟩, hA, hB, J2, fZ, fX, ht⟩ := call_row (s := (m (-2) (i + 1))) (so := (m (-2) (i + 2))) (nn := (m (-2) (i + 3))) J 
  have ht2 : t = 0 := ht
  subst ht2
  have y := nx ds2 Z J2 fZ
  obtain ⟨t2, rfl⟩ := J2.Dt
  have x2 : ∀ j, X (-2) j = m (-2) j := fun j => fX _ _ (by decide)
  have x3 : X (-3) 0 = m (-3) 0 := fX _ _ (by decide)
  have w1 : w32 (i + 1) = i + 1 := w32_id (by omega) (by omega)
  have b1 : 0 ≤ i + 1 ∧ i + 1 < m (-3) 0 := by omega
  have w2 : w32 (i + 2) = i + 2 := w32_id (by omega) (by omega)
  have b2 : 0 ≤ i + 2 ∧ i + 2 < m (-3) 0 := by omega
  have w3 : w32 (i + 3) = i + 3 := w32_id (by omega) (by omega)
  have b3 : 0 ≤ i + 3 ∧ i + 3 < m (-3) 0 := by omega
  simp only [p191_372, p191_373, p191_374, p191_375, p191_376, p191_377, p191_378, p191_379, p191_380, p191_381, p191_382, p191_383, p191_384, p191_385, p191_386, p191_387, p191_388, p191_391, p191_392, p191_393, p191_394, p191_395, p191_396, p191_397, p191_398, p191_399, p191_400, p191_401, p191_402, p191_403, p191_404, p191_405, p191_406, p191_407, p191_410, p191_413, p191_414, K_0, K_70, hA, hB, x2, x3, w1, b1, w2, b2, w3, b3, jcmp_s, y, b2_T, b2_F, Int.reduceEq, Int.reduceLT, Int.reduceLE, Int.reduceAdd, Int.reduceSub, Int.reduceMul, Int.reduceNeg, reduceIte, if_true, if_false, true_or, or_true, false_or, or_false, false_and, and_false, eq_self, not_false_eq_true, not_true_eq_false, true_and, and_true, List.cons_append, List.nil_append, List.append_nil, b2_0, b2_1, b2_01, Classical.not_not]
theorem lw_7 (J : JS ds m m n) (h0 : 0 ≤ i) (h6 : i + 6 ≤ m (-3) 0) (h3 : m (-3) 0 ≤ 3072) (hr : ∀ j, 0 ≤ j → j < m (-3) 0 → rng (m (-2) j)) (hn : n < 1000000) (nx : ∀ ds' Z, JS ds' Z Z (n + 1) → (∀ x j, x < 0 → Z x j = m x j) → WP 191 1102 [(4, 0), (2, 0), (2, 70), (0, i)] [] ds' Z Q) : WP 191 415 [(4, 0), (2, 0), (2, 70), (0, i)] [] ds m Q := by
  obtain ⟨tl, rfl⟩ := J.Dt
  obtain ⟨ds2, X, Z, ⟨t, v⟩, hA, hB, J2, fZ, fX, ht⟩ := call_set (s := (m (-2) (i + 1))) (i := (m (-2) (i + 2))) (v := (jlor (jlshl (m (-2) (i + 3)) 32) (jland (m (-2) (i + 4)) 4294967295))) J (hr _ (by omega) (by omega))
  have ht2 : t = 0 := ht
  subst ht2
  have y := nx ds2 Z J2 fZ
  obtain ⟨t2, rfl⟩ := J2.Dt
  have x2 : ∀ j, X (-2) j = m (-2) j := fun j => fX _ _ (by decide)
  have x3 : X (-3) 0 = m (-3) 0 := fX _ _ (by decide)
  have w1 : w32 (i + 1) = i + 1 := w32_id (by omega) (by omega)
  have b1 : 0 ≤ i + 1 ∧ i + 1 < m (-3) 0 := by omega
  have w2 : w32 (i + 2) = i + 2 := w32_id (by omega) (by omega)
  have b2 : 0 ≤ i + 2 ∧ i + 2 < m (-3) 0 := by omega
  have w3 : w32 (i + 3) = i + 3 := w32_id (by omega) (by omega)
  have b3 : 0 ≤ i + 3 ∧ i + 3 < m (-3) 0 := by omega
  have w4 : w32 (i + 4) = i + 4 := w32_id (by omega) (by omega)
  have b4 : 0 ≤ i + 4 ∧ i + 4 < m (-3) 0 := by omega
  simp only [p191_415, p191_416, p191_417, p191_418, p191_419, p191_420, p191_421, p191_422, p191_423, p191_424, p191_425, p191_426, p191_427, p191_428, p191_429, p191_430, p191_431, p191_432, p191_434, p191_435, p191_436, p191_437, p191_438, p191_439, p191_440, p191_441, p191_444, p191_445, p191_446, p191_449, p191_450, p191_451, p191_452, p191_453, p191_454, p191_455, p191_456, p191_457, p191_458, p191_459, p191_460, p191_461, p191_462, p191_463, p191_464, p191_465, p191_466, p191_468, p191_469, p191_470, p191_471, p191_472, p191_473, p191_474, p191_475, p191_478, p191_479, p191_480, p191_483, p191_486, p191_487, K_0, K_70, hA, hB, x2, x3, w1, b1, w2, b2, w3, b3, w4, b4, jcmp_s, y, b2_T, b2_F, Int.reduceEq, Int.reduceLT, Int.reduceLE, Int.reduceAdd, Int.reduceSub, Int.reduceMul, Int.reduceNeg, reduceIte, if_true, if_false, true_or, or_true, false_or, or_false, false_and, and_false, eq_self, not_false_eq_true, not_true_eq_false, true_and, and_true, List.cons_append, List.nil_append, List.append_nil, b2_0, b2_1, b2_01, Classical.not_not]
theorem lw_8 (J : JS ds m m n) (h0 : 0 ≤ i) (h6 : i + 6 ≤ m (-3) 0) (h3 : m (-3) 0 ≤ 3072) (hr : ∀ j, 0 ≤ j → j < m (-3) 0 → rng (m (-2) j)) (hn : n < 1000000) (nx : ∀ ds' Z, JS ds' Z Z (n + 1) → (∀ x j, x < 0 → Z x j = m x j) → WP 191 1102 [(4, 0), (2, 0), (2, 70), (0, i)] [] ds' Z Q) : WP 191 488 [(4, 0), (2, 0), (2, 70), (0, i)] [] ds m Q := by
  obtain ⟨tl, rfl⟩ := J.Dt
  obtain ⟨ds2, X, Z, ⟨t, v⟩, hA, hB, J2, fZ, fX, ht⟩ := call_copy (p := (m (-2) (i + 1))) (q := (m (-2) (i + 2))) (i := (m (-2) (i + 3))) (j := (m (-2) (i + 4))) (nn := (m (-2) (i + 5))) J (hr _ (by omega) (by omega)) (hr _ (by omega) (by omega))
  have ht2 : t = 0 := ht
  subst ht2
  have y := nx ds2 Z J2 fZ
  obtain ⟨t2, rfl⟩ := J2.Dt
  have x2 : ∀ j, X (-2) j = m (-2) j := fun j => fX _ _ (by decide)
  have x3 : X (-3) 0 = m (-3) 0 := fX _ _ (by decide)
  have w1 : w32 (i + 1) = i + 1 := w32_id (by omega) (by omega)
  have b1 : 0 ≤ i + 1 ∧ i + 1 < m (-3) 0 := by omega
  have w2 : w32 (i + 2) = i + 2 := w32_id (by omega) (by omega)
  have b2 : 0 ≤ i + 2 ∧ i + 2 < m (-3) 0 := by omega
  have w3 : w32 (i + 3) = i + 3 := w32_id (by omega) (by omega)
  have b3 : 0 ≤ i + 3 ∧ i + 3 < m (-3) 0 := by omega
  have w4 : w32 (i + 4) = i + 4 := w32_id (by omega) (by omega)
  have b4 : 0 ≤ i + 4 ∧ i + 4 < m (-3) 0 := by omega
  have w5 : w32 (i + 5) = i + 5 := w32_id (by omega) (by omega)
  have b5 : 0 ≤ i + 5 ∧ i + 5 < m (-3) 0 := by omega
  simp only [p191_488, p191_489, p191_490, p191_491, p191_492, p191_493, p191_494, p191_495, p191_496, p191_497, p191_498, p191_499, p191_500, p191_501, p191_502, p191_503, p191_504, p191_505, p191_506, p191_507, p191_508, p191_509, p191_510, p191_511, p191_512, p191_513, p191_514, p191_517, p191_518, p191_519, p191_520, p191_521, p191_522, p191_523, p191_524, p191_525, p191_526, p191_527, p191_528, p191_529, p191_530, p191_531, p191_532, p191_533, p191_534, p191_535, p191_536, p191_537, p191_538, p191_539, p191_540, p191_541, p191_542, p191_543, p191_546, p191_549, p191_550, K_0, K_70, hA, hB, x2, x3, w1, b1, w2, b2, w3, b3, w4, b4, w5, b5, jcmp_s, y, b2_T, b2_F, Int.reduceEq, Int.reduceLT, Int.reduceLE, Int.reduceAdd, Int.reduceSub, Int.reduceMul, Int.reduceNeg, reduceIte, if_true, if_false, true_or, or_true, false_or, or_false, false_and, and_false, eq_self, not_false_eq_true, not_true_eq_false, true_and, and_true, List.cons_append, List.nil_append, List.append_nil, b2_0, b2_1, b2_01, Classical.not_not]
theorem lw_9 (J : JS ds m m n) (h0 : 0 ≤ i) (h6 : i + 6 ≤ m (-3) 0) (h3 : m (-3) 0 ≤ 3072) (hr : ∀ j, 0 ≤ j → j < m (-3) 0 → rng (m (-2) j)) (hn : n < 1000000) (nx : ∀ ds' Z, JS ds' Z Z (n + 1) → (∀ x j, x < 0 → Z x j = m x j) → WP 191 1102 [(4, 0), (2, 0), (2, 70), (0, i)] [] ds' Z Q) : WP 191 551 [(4, 0), (2, 0), (2, 70), (0, i)] [] ds m Q := by
  obtain ⟨tl, rfl⟩ := J.Dt
  obtain ⟨ds2, X, Z, ⟨t, v⟩, hA, hB, J2, fZ, fX, ht⟩ := call_element (s := (m (-2) (i + 1))) (i := (m (-2) (i + 2))) J (hr _ (by omega) (by omega))
  have ht2 : t = 1 := ht
  subst ht2
  have y := nx ds2 Z J2 fZ
  obtain ⟨t2, rfl⟩ := J2.Dt
  have x2 : ∀ j, X (-2) j = m (-2) j := fun j => fX _ _ (by decide)
  have x3 : X (-3) 0 = m (-3) 0 := fX _ _ (by decide)
  have w1 : w32 (i + 1) = i + 1 := w32_id (by omega) (by omega)
  have b1 : 0 ≤ i + 1 ∧ i + 1 < m (-3) 0 := by omega
  have w2 : w32 (i + 2) = i + 2 := w32_id (by omega) (by omega)
  have b2 : 0 ≤ i + 2 ∧ i + 2 < m (-3) 0 := by omega
  simp only [p191_551, p191_552, p191_553, p191_554, p191_555, p191_556, p191_557, p191_558, p191_559, p191_560, p191_561, p191_562, p191_565, p191_566, p191_567, p191_568, p191_569, p191_570, p191_571, p191_572, p191_573, p191_574, p191_575, p191_576, p191_579, p191_580, p191_583, p191_584, K_0, K_70, hA, hB, x2, x3, w1, b1, w2, b2, jcmp_s, y, b2_T, b2_F, Int.reduceEq, Int.reduceLT, Int.reduceLE, Int.reduceAdd, Int.reduceSub, Int.reduceMul, Int.reduceNeg, reduceIte, if_true, if_false, true_or, or_true, false_or, or_false, false_and, and_false, eq_self, not_false_eq_true, not_true_eq_false, true_and, and_true, List.cons_append, List.nil_append, List.append_nil, b2_0, b2_1, b2_01, Classical.not_not]
theorem lw_10 (J : JS ds m m n) (h0 : 0 ≤ i) (h6 : i + 6 ≤ m (-3) 0) (h3 : m (-3) 0 ≤ 3072) (hr : ∀ j, 0 ≤ j → j < m (-3) 0 → rng (m (-2) j)) (hn : n < 1000000) (nx : ∀ ds' Z, JS ds' Z Z (n + 1) → (∀ x j, x < 0 → Z x j = m x j) → WP 191 1102 [(4, 0), (2, 0), (2, 70), (0, i)] [] ds' Z Q) : WP 191 585 [(4, 0), (2, 0), (2, 70), (0, i)] [] ds m Q := by
  obtain ⟨tl, rfl⟩ := J.Dt
  obtain ⟨ds2, X, Z, ⟨t, v⟩, hA, hB, J2, fZ, fX, ht⟩ := call_holds (s := (m (-2) (i + 1))) J 
  have ht2 : t = 0 := ht
  subst ht2
  have y := nx ds2 Z J2 fZ
  obtain ⟨t2, rfl⟩ := J2.Dt
  have x2 : ∀ j, X (-2) j = m (-2) j := fun j => fX _ _ (by decide)
  have x3 : X (-3) 0 = m (-3) 0 := fX _ _ (by decide)
  have w1 : w32 (i + 1) = i + 1 := w32_id (by omega) (by omega)
  have b1 : 0 ≤ i + 1 ∧ i + 1 < m (-3) 0 := by omega
  simp only [p191_585, p191_586, p191_587, p191_588, p191_589, p191_590, p191_591, p191_594, p191_595, p191_596, p191_597, p191_598, p191_599, p191_600, p191_603, p191_606, p191_607, K_0, K_70, hA, hB, x2, x3, w1, b1, jcmp_s, y, b2_T, b2_F, Int.reduceEq, Int.reduceLT, Int.reduceLE, Int.reduceAdd, Int.reduceSub, Int.reduceMul, Int.reduceNeg, reduceIte, if_true, if_false, true_or, or_true, false_or, or_false, false_and, and_false, eq_self, not_false_eq_true, not_true_eq_false, true_and, and_true, List.cons_append, List.nil_append, List.append_nil, b2_0, b2_1, b2_01, Classical.not_not]
theorem lw_11 (J : JS ds m m n) (h0 : 0 ≤ i) (h6 : i + 6 ≤ m (-3) 0) (h3 : m (-3) 0 ≤ 3072) (hr : ∀ j, 0 ≤ j → j < m (-3) 0 → rng (m (-2) j)) (hn : n < 1000000) (nx : ∀ ds' Z, JS ds' Z Z (n + 1) → (∀ x j, x < 0 → Z x j = m x j) → WP 191 1102 [(4, 0), (2, 0), (2, 70), (0, i)] [] ds' Z Q) : WP 191 608 [(4, 0), (2, 0), (2, 70), (0, i)] [] ds m Q := by
  obtain ⟨tl, rfl⟩ := J.Dt
  obtain ⟨ds2, X, Z, ⟨t, v⟩, hA, hB, J2, fZ, fX, ht⟩ := call_puts (s := (m (-2) (i + 1))) J 
  have ht2 : t = 0 := ht
  subst ht2
  have y := nx ds2 Z J2 fZ
  obtain ⟨t2, rfl⟩ := J2.Dt
  have x2 : ∀ j, X (-2) j = m (-2) j := fun j => fX _ _ (by decide)
  have x3 : X (-3) 0 = m (-3) 0 := fX _ _ (by decide)
  have w1 : w32 (i + 1) = i + 1 := w32_id (by omega) (by omega)
  have b1 : 0 ≤ i + 1 ∧ i + 1 < m (-3) 0 := by omega
  simp only [p191_608, p191_609, p191_610, p191_611, p191_612, p191_613, p191_614, p191_617, p191_618, p191_619, p191_620, p191_621, p191_622, p191_623, p191_626, p191_629, p191_630, K_0, K_70, hA, hB, x2, x3, w1, b1, jcmp_s, y, b2_T, b2_F, Int.reduceEq, Int.reduceLT, Int.reduceLE, Int.reduceAdd, Int.reduceSub, Int.reduceMul, Int.reduceNeg, reduceIte, if_true, if_false, true_or, or_true, false_or, or_false, false_and, and_false, eq_self, not_false_eq_true, not_true_eq_false, true_and, and_true, List.cons_append, List.nil_append, List.append_nil, b2_0, b2_1, b2_01, Classical.not_not]
theorem lw_12 (J : JS ds m m n) (h0 : 0 ≤ i) (h6 : i + 6 ≤ m (-3) 0) (h3 : m (-3) 0 ≤ 3072) (hr : ∀ j, 0 ≤ j → j < m (-3) 0 → rng (m (-2) j)) (hn : n < 1000000) (nx : ∀ ds' Z, JS ds' Z Z (n + 1) → (∀ x j, x < 0 → Z x j = m x j) → WP 191 1102 [(4, 0), (2, 0), (2, 70), (0, i)] [] ds' Z Q) : WP 191 631 [(4, 0), (2, 0), (2, 70), (0, i)] [] ds m Q := by
  obtain ⟨tl, rfl⟩ := J.Dt
  obtain ⟨ds2, X, Z, ⟨t, v⟩, hA, hB, J2, fZ, fX, ht⟩ := call_keep (s := (m (-2) (i + 1))) J 
  have ht2 : t = 0 := ht
  subst ht2
  have y := nx ds2 Z J2 fZ
  obtain ⟨t2, rfl⟩ := J2.Dt
  have x2 : ∀ j, X (-2) j = m (-2) j := fun j => fX _ _ (by decide)
  have x3 : X (-3) 0 = m (-3) 0 := fX _ _ (by decide)
  have w1 : w32 (i + 1) = i + 1 := w32_id (by omega) (by omega)
  have b1 : 0 ≤ i + 1 ∧ i + 1 < m (-3) 0 := by omega
  simp only [p191_631, p191_632, p191_633, p191_634, p191_635, p191_636, p191_637, p191_640, p191_641, p191_642, p191_643, p191_644, p191_645, p191_646, p191_649, p191_652, p191_653, K_0, K_70, hA, hB, x2, x3, w1, b1, jcmp_s, y, b2_T, b2_F, Int.reduceEq, Int.reduceLT, Int.reduceLE, Int.reduceAdd, Int.reduceSub, Int.reduceMul, Int.reduceNeg, reduceIte, if_true, if_false, true_or, or_true, false_or, or_false, false_and, and_false, eq_self, not_false_eq_true, not_true_eq_false, true_and, and_true, List.cons_append, List.nil_append, List.append_nil, b2_0, b2_1, b2_01, Classical.not_not]
theorem lw_13 (J : JS ds m m n) (h0 : 0 ≤ i) (h6 : i + 6 ≤ m (-3) 0) (h3 : m (-3) 0 ≤ 3072) (hr : ∀ j, 0 ≤ j → j < m (-3) 0 → rng (m (-2) j)) (hn : n < 1000000) (nx : ∀ ds' Z, JS ds' Z Z (n + 1) → (∀ x j, x < 0 → Z x j = m x j) → WP 191 1102 [(4, 0), (2, 0), (2, 70), (0, i)] [] ds' Z Q) : WP 191 654 [(4, 0), (2, 0), (2, 70), (0, i)] [] ds m Q := by
  obtain ⟨tl, rfl⟩ := J.Dt
  obtain ⟨ds2, X, Z, ⟨t, v⟩, hA, hB, J2, fZ, fX, ht⟩ := call_load (s := (m (-2) (i + 1))) J 
  have ht2 : t = 0 := ht
  subst ht2
  have y := nx ds2 Z J2 fZ
  obtain ⟨t2, rfl⟩ := J2.Dt
  have x2 : ∀ j, X (-2) j = m (-2) j := fun j => fX _ _ (by decide)
  have x3 : X (-3) 0 = m (-3) 0 := fX _ _ (by decide)
  have w1 : w32 (i + 1) = i + 1 := w32_id (by omega) (by omega)
  have b1 : 0 ≤ i + 1 ∧ i + 1 < m (-3) 0 := by omega
  simp only [p191_654, p191_655, p191_656, p191_657, p191_658, p191_659, p191_660, p191_663, p191_664, p191_665, p191_666, p191_667, p191_668, p191_669, p191_672, p191_675, p191_676, K_0, K_70, hA, hB, x2, x3, w1, b1, jcmp_s, y, b2_T, b2_F, Int.reduceEq, Int.reduceLT, Int.reduceLE, Int.reduceAdd, Int.reduceSub, Int.reduceMul, Int.reduceNeg, reduceIte, if_true, if_false, true_or, or_true, false_or, or_false, false_and, and_false, eq_self, not_false_eq_true, not_true_eq_false, true_and, and_true, List.cons_append, List.nil_append, List.append_nil, b2_0, b2_1, b2_01, Classical.not_not]
theorem lw_14 (J : JS ds m m n) (h0 : 0 ≤ i) (h6 : i + 6 ≤ m (-3) 0) (h3 : m (-3) 0 ≤ 3072) (hr : ∀ j, 0 ≤ j → j < m (-3) 0 → rng (m (-2) j)) (hn : n < 1000000) (nx : ∀ ds' Z, JS ds' Z Z (n + 1) → (∀ x j, x < 0 → Z x j = m x j) → WP 191 1102 [(4, 0), (2, 0), (2, 70), (0, i)] [] ds' Z Q) : WP 191 677 [(4, 0), (2, 0), (2, 70), (0, i)] [] ds m Q := by
  obtain ⟨tl, rfl⟩ := J.Dt
  obtain ⟨ds2, X, Z, ⟨t, v⟩, hA, hB, J2, fZ, fX, ht⟩ := call_at (c := (m (-2) (i + 1))) (w := (m (-2) (i + 2))) J 
  have ht2 : t = 0 := ht
  subst ht2
  have y := nx ds2 Z J2 fZ
  obtain ⟨t2, rfl⟩ := J2.Dt
  have x2 : ∀ j, X (-2) j = m (-2) j := fun j => fX _ _ (by decide)
  have x3 : X (-3) 0 = m (-3) 0 := fX _ _ (by decide)
  have w1 : w32 (i + 1) = i + 1 := w32_id (by omega) (by omega)
  have b1 : 0 ≤ i + 1 ∧ i + 1 < m (-3) 0 := by omega
  have w2 : w32 (i + 2) = i + 2 := w32_id (by omega) (by omega)
  have b2 : 0 ≤ i + 2 ∧ i + 2 < m (-3) 0 := by omega
  simp only [p191_677, p191_678, p191_679, p191_680, p191_681, p191_682, p191_683, p191_684, p191_685, p191_686, p191_687, p191_688, p191_691, p191_692, p191_693, p191_694, p191_695, p191_696, p191_697, p191_698, p191_699, p191_700, p191_701, p191_702, p191_705, p191_708, p191_709, K_0, K_70, hA, hB, x2, x3, w1, b1, w2, b2, jcmp_s, y, b2_T, b2_F, Int.reduceEq, Int.reduceLT, Int.reduceLE, Int.reduceAdd, Int.reduceSub, Int.reduceMul, Int.reduceNeg, reduceIte, if_true, if_false, true_or, or_true, false_or, or_false, false_and, and_false, eq_self, not_false_eq_true, not_true_eq_false, true_and, and_true, List.cons_append, List.nil_append, List.append_nil, b2_0, b2_1, b2_01, Classical.not_not]
theorem lw_15 (J : JS ds m m n) (h0 : 0 ≤ i) (h6 : i + 6 ≤ m (-3) 0) (h3 : m (-3) 0 ≤ 3072) (hr : ∀ j, 0 ≤ j → j < m (-3) 0 → rng (m (-2) j)) (hn : n < 1000000) (nx : ∀ ds' Z, JS ds' Z Z (n + 1) → (∀ x j, x < 0 → Z x j = m x j) → WP 191 1102 [(4, 0), (2, 0), (2, 70), (0, i)] [] ds' Z Q) : WP 191 710 [(4, 0), (2, 0), (2, 70), (0, i)] [] ds m Q := by
  obtain ⟨tl, rfl⟩ := J.Dt
  obtain ⟨ds2, X, Z, ⟨t, v⟩, hA, hB, J2, fZ, fX, ht⟩ := call_run  J hn
  have ht2 : t = 0 := ht
  subst ht2
  have y := nx ds2 Z J2 fZ
  obtain ⟨t2, rfl⟩ := J2.Dt
  have x2 : ∀ j, X (-2) j = m (-2) j := fun j => fX _ _ (by decide)
  have x3 : X (-3) 0 = m (-3) 0 := fX _ _ (by decide)
  simp only [p191_710, p191_711, p191_714, p191_715, p191_718, p191_721, p191_722, K_0, K_70, hA, hB, x2, x3, jcmp_s, y, b2_T, b2_F, Int.reduceEq, Int.reduceLT, Int.reduceLE, Int.reduceAdd, Int.reduceSub, Int.reduceMul, Int.reduceNeg, reduceIte, if_true, if_false, true_or, or_true, false_or, or_false, false_and, and_false, eq_self, not_false_eq_true, not_true_eq_false, true_and, and_true, List.cons_append, List.nil_append, List.append_nil, b2_0, b2_1, b2_01, Classical.not_not]
theorem lw_16 (J : JS ds m m n) (h0 : 0 ≤ i) (h6 : i + 6 ≤ m (-3) 0) (h3 : m (-3) 0 ≤ 3072) (hr : ∀ j, 0 ≤ j → j < m (-3) 0 → rng (m (-2) j)) (hn : n < 1000000) (nx : ∀ ds' Z, JS ds' Z Z (n + 1) → (∀ x j, x < 0 → Z x j = m x j) → WP 191 1102 [(4, 0), (2, 0), (2, 70), (0, i)] [] ds' Z Q) : WP 191 723 [(4, 0), (2, 0), (2, 70), (0, i)] [] ds m Q := by
  obtain ⟨tl, rfl⟩ := J.Dt
  obtain ⟨ds2, X, Z, ⟨t, v⟩, hA, hB, J2, fZ, fX, ht⟩ := call_ran (w := (m (-2) (i + 1))) J 
  have ht2 : t = 0 := ht
  subst ht2
  have y := nx ds2 Z J2 fZ
  obtain ⟨t2, rfl⟩ := J2.Dt
  have x2 : ∀ j, X (-2) j = m (-2) j := fun j => fX _ _ (by decide)
  have x3 : X (-3) 0 = m (-3) 0 := fX _ _ (by decide)
  have w1 : w32 (i + 1) = i + 1 := w32_id (by omega) (by omega)
  have b1 : 0 ≤ i + 1 ∧ i + 1 < m (-3) 0 := by omega
  simp only [p191_723, p191_724, p191_725, p191_726, p191_727, p191_728, p191_729, p191_732, p191_733, p191_734, p191_735, p191_736, p191_737, p191_738, p191_741, p191_744, p191_745, K_0, K_70, hA, hB, x2, x3, w1, b1, jcmp_s, y, b2_T, b2_F, Int.reduceEq, Int.reduceLT, Int.reduceLE, Int.reduceAdd, Int.reduceSub, Int.reduceMul, Int.reduceNeg, reduceIte, if_true, if_false, true_or, or_true, false_or, or_false, false_and, and_false, eq_self, not_false_eq_true, not_true_eq_false, true_and, and_true, List.cons_append, List.nil_append, List.append_nil, b2_0, b2_1, b2_01, Classical.not_not]
theorem lw_17 (J : JS ds m m n) (h0 : 0 ≤ i) (h6 : i + 6 ≤ m (-3) 0) (h3 : m (-3) 0 ≤ 3072) (hr : ∀ j, 0 ≤ j → j < m (-3) 0 → rng (m (-2) j)) (hn : n < 1000000) (nx : ∀ ds' Z, JS ds' Z Z (n + 1) → (∀ x j, x < 0 → Z x j = m x j) → WP 191 1102 [(4, 0), (2, 0), (2, 70), (0, i)] [] ds' Z Q) : WP 191 746 [(4, 0), (2, 0), (2, 70), (0, i)] [] ds m Q := by
  obtain ⟨tl, rfl⟩ := J.Dt
  obtain ⟨ds2, X, Z, ⟨t, v⟩, hA, hB, J2, fZ, fX, ht⟩ := call_strike (i := (m (-2) (i + 1))) (w := (m (-2) (i + 2))) J 
  have ht2 : t = 0 := ht
  subst ht2
  have y := nx ds2 Z J2 fZ
  obtain ⟨t2, rfl⟩ := J2.Dt
  have x2 : ∀ j, X (-2) j = m (-2) j := fun j => fX _ _ (by decide)
  have x3 : X (-3) 0 = m (-3) 0 := fX _ _ (by decide)
  have w1 : w32 (i + 1) = i + 1 := w32_id (by omega) (by omega)
  have b1 : 0 ≤ i + 1 ∧ i + 1 < m (-3) 0 := by omega
  have w2 : w32 (i + 2) = i + 2 := w32_id (by omega) (by omega)
  have b2 : 0 ≤ i + 2 ∧ i + 2 < m (-3) 0 := by omega
  simp only [p191_746, p191_747, p191_748, p191_749, p191_750, p191_751, p191_752, p191_753, p191_754, p191_755, p191_756, p191_757, p191_760, p191_761, p191_762, p191_763, p191_764, p191_765, p191_766, p191_767, p191_768, p191_769, p191_770, p191_771, p191_774, p191_777, p191_778, K_0, K_70, hA, hB, x2, x3, w1, b1, w2, b2, jcmp_s, y, b2_T, b2_F, Int.reduceEq, Int.reduceLT, Int.reduceLE, Int.reduceAdd, Int.reduceSub, Int.reduceMul, Int.reduceNeg, reduceIte, if_true, if_false, true_or, or_true, false_or, or_false, false_and, and_false, eq_self, not_false_eq_true, not_true_eq_false, true_and, and_true, List.cons_append, List.nil_append, List.append_nil, b2_0, b2_1, b2_01, Classical.not_not]
theorem lw_18 (J : JS ds m m n) (h0 : 0 ≤ i) (h6 : i + 6 ≤ m (-3) 0) (h3 : m (-3) 0 ≤ 3072) (hr : ∀ j, 0 ≤ j → j < m (-3) 0 → rng (m (-2) j)) (hn : n < 1000000) (nx : ∀ ds' Z, JS ds' Z Z (n + 1) → (∀ x j, x < 0 → Z x j = m x j) → WP 191 1102 [(4, 0), (2, 0), (2, 70), (0, i)] [] ds' Z Q) : WP 191 779 [(4, 0), (2, 0), (2, 70), (0, i)] [] ds m Q := by
  obtain ⟨tl, rfl⟩ := J.Dt
  obtain ⟨ds2, X, Z, ⟨t, v⟩, hA, hB, J2, fZ, fX, ht⟩ := call_ended (c := (m (-2) (i + 1))) (w := (m (-2) (i + 2))) J 
  have ht2 : t = 0 := ht
  subst ht2
  have y := nx ds2 Z J2 fZ
  obtain ⟨t2, rfl⟩ := J2.Dt
  have x2 : ∀ j, X (-2) j = m (-2) j := fun j => fX _ _ (by decide)
  have x3 : X (-3) 0 = m (-3) 0 := fX _ _ (by decide)
  have w1 : w32 (i + 1) = i + 1 := w32_id (by omega) (by omega)
  have b1 : 0 ≤ i + 1 ∧ i + 1 < m (-3) 0 := by omega
  have w2 : w32 (i + 2) = i + 2 := w32_id (by omega) (by omega)
  have b2 : 0 ≤ i + 2 ∧ i + 2 < m (-3) 0 := by omega
  simp only [p191_779, p191_780, p191_781, p191_782, p191_783, p191_784, p191_785, p191_786, p191_787, p191_788, p191_789, p191_790, p191_793, p191_794, p191_795, p191_796, p191_797, p191_798, p191_799, p191_800, p191_801, p191_802, p191_803, p191_804, p191_807, p191_810, p191_811, K_0, K_70, hA, hB, x2, x3, w1, b1, w2, b2, jcmp_s, y, b2_T, b2_F, Int.reduceEq, Int.reduceLT, Int.reduceLE, Int.reduceAdd, Int.reduceSub, Int.reduceMul, Int.reduceNeg, reduceIte, if_true, if_false, true_or, or_true, false_or, or_false, false_and, and_false, eq_self, not_false_eq_true, not_true_eq_false, true_and, and_true, List.cons_append, List.nil_append, List.append_nil, b2_0, b2_1, b2_01, Classical.not_not]
theorem lw_19 (J : JS ds m m n) (h0 : 0 ≤ i) (h6 : i + 6 ≤ m (-3) 0) (h3 : m (-3) 0 ≤ 3072) (hr : ∀ j, 0 ≤ j → j < m (-3) 0 → rng (m (-2) j)) (hn : n < 1000000) (nx : ∀ ds' Z, JS ds' Z Z (n + 1) → (∀ x j, x < 0 → Z x j = m x j) → WP 191 1102 [(4, 0), (2, 0), (2, 70), (0, i)] [] ds' Z Q) : WP 191 812 [(4, 0), (2, 0), (2, 70), (0, i)] [] ds m Q := by
  obtain ⟨tl, rfl⟩ := J.Dt
  obtain ⟨ds2, X, Z, ⟨t, v⟩, hA, hB, J2, fZ, fX, ht⟩ := call_why (d := (m (-2) (i + 1))) (i := (m (-2) (i + 2))) J (hr _ (by omega) (by omega))
  have ht2 : t = 0 := ht
  subst ht2
  have y := nx ds2 Z J2 fZ
  obtain ⟨t2, rfl⟩ := J2.Dt
  have x2 : ∀ j, X (-2) j = m (-2) j := fun j => fX _ _ (by decide)
  have x3 : X (-3) 0 = m (-3) 0 := fX _ _ (by decide)
  have w1 : w32 (i + 1) = i + 1 := w32_id (by omega) (by omega)
  have b1 : 0 ≤ i + 1 ∧ i + 1 < m (-3) 0 := by omega
  have w2 : w32 (i + 2) = i + 2 := w32_id (by omega) (by omega)
  have b2 : 0 ≤ i + 2 ∧ i + 2 < m (-3) 0 := by omega
  simp only [p191_812, p191_813, p191_814, p191_815, p191_816, p191_817, p191_818, p191_819, p191_820, p191_821, p191_822, p191_823, p191_826, p191_827, p191_828, p191_829, p191_830, p191_831, p191_832, p191_833, p191_834, p191_835, p191_836, p191_837, p191_840, p191_843, p191_844, K_0, K_70, hA, hB, x2, x3, w1, b1, w2, b2, jcmp_s, y, b2_T, b2_F, Int.reduceEq, Int.reduceLT, Int.reduceLE, Int.reduceAdd, Int.reduceSub, Int.reduceMul, Int.reduceNeg, reduceIte, if_true, if_false, true_or, or_true, false_or, or_false, false_and, and_false, eq_self, not_false_eq_true, not_true_eq_false, true_and, and_true, List.cons_append, List.nil_append, List.append_nil, b2_0, b2_1, b2_01, Classical.not_not]
theorem lw_20 (J : JS ds m m n) (h0 : 0 ≤ i) (h6 : i + 6 ≤ m (-3) 0) (h3 : m (-3) 0 ≤ 3072) (hr : ∀ j, 0 ≤ j → j < m (-3) 0 → rng (m (-2) j)) (hn : n < 1000000) (nx : ∀ ds' Z, JS ds' Z Z (n + 1) → (∀ x j, x < 0 → Z x j = m x j) → WP 191 1102 [(4, 0), (2, 0), (2, 70), (0, i)] [] ds' Z Q) : WP 191 845 [(4, 0), (2, 0), (2, 70), (0, i)] [] ds m Q := by
  obtain ⟨tl, rfl⟩ := J.Dt
  obtain ⟨ds2, X, Z, ⟨t, v⟩, hA, hB, J2, fZ, fX, ht⟩ := call_met (bell := (m (-2) (i + 1))) (tick := (m (-2) (i + 2))) J 
  have ht2 : t = 0 := ht
  subst ht2
  have y := nx ds2 Z J2 fZ
  obtain ⟨t2, rfl⟩ := J2.Dt
  have x2 : ∀ j, X (-2) j = m (-2) j := fun j => fX _ _ (by decide)
  have x3 : X (-3) 0 = m (-3) 0 := fX _ _ (by decide)
  have w1 : w32 (i + 1) = i + 1 := w32_id (by omega) (by omega)
  have b1 : 0 ≤ i + 1 ∧ i + 1 < m (-3) 0 := by omega
  have w2 : w32 (i + 2) = i + 2 := w32_id (by omega) (by omega)
  have b2 : 0 ≤ i + 2 ∧ i + 2 < m (-3) 0 := by omega
  simp only [p191_845, p191_846, p191_847, p191_848, p191_849, p191_850, p191_851, p191_852, p191_853, p191_854, p191_855, p191_856, p191_859, p191_860, p191_861, p191_862, p191_863, p191_864, p191_865, p191_866, p191_867, p191_868, p191_869, p191_870, p191_873, p191_876, p191_877, K_0, K_70, hA, hB, x2, x3, w1, b1, w2, b2, jcmp_s, y, b2_T, b2_F, Int.reduceEq, Int.reduceLT, Int.reduceLE, Int.reduceAdd, Int.reduceSub, Int.reduceMul, Int.reduceNeg, reduceIte, if_true, if_false, true_or, or_true, false_or, or_false, false_and, and_false, eq_self, not_false_eq_true, not_true_eq_false, true_and, and_true, List.cons_append, List.nil_append, List.append_nil, b2_0, b2_1, b2_01, Classical.not_not]
theorem lw_21 (J : JS ds m m n) (h0 : 0 ≤ i) (h6 : i + 6 ≤ m (-3) 0) (h3 : m (-3) 0 ≤ 3072) (hr : ∀ j, 0 ≤ j → j < m (-3) 0 → rng (m (-2) j)) (hn : n < 1000000) (nx : ∀ ds' Z, JS ds' Z Z (n + 1) → (∀ x j, x < 0 → Z x j = m x j) → WP 191 1102 [(4, 0), (2, 0), (2, 70), (0, i)] [] ds' Z Q) : WP 191 878 [(4, 0), (2, 0), (2, 70), (0, i)] [] ds m Q := by
  obtain ⟨tl, rfl⟩ := J.Dt
  obtain ⟨ds2, X, Z, ⟨t, v⟩, hA, hB, J2, fZ, fX, ht⟩ := call_fragile (bell := (m (-2) (i + 1))) (tick := (m (-2) (i + 2))) J 
  have ht2 : t = 0 := ht
  subst ht2
  have y := nx ds2 Z J2 fZ
  obtain ⟨t2, rfl⟩ := J2.Dt
  have x2 : ∀ j, X (-2) j = m (-2) j := fun j => fX _ _ (by decide)
  have x3 : X (-3) 0 = m (-3) 0 := fX _ _ (by decide)
  have w1 : w32 (i + 1) = i + 1 := w32_id (by omega) (by omega)
  have b1 : 0 ≤ i + 1 ∧ i + 1 < m (-3) 0 := by omega
  have w2 : w32 (i + 2) = i + 2 := w32_id (by omega) (by omega)
  have b2 : 0 ≤ i + 2 ∧ i + 2 < m (-3) 0 := by omega
  simp only [p191_878, p191_879, p191_880, p191_881, p191_882, p191_883, p191_884, p191_885, p191_886, p191_887, p191_888, p191_889, p191_892, p191_893, p191_894, p191_895, p191_896, p191_897, p191_898, p191_899, p191_900, p191_901, p191_902, p191_903, p191_906, p191_909, p191_910, K_0, K_70, hA, hB, x2, x3, w1, b1, w2, b2, jcmp_s, y, b2_T, b2_F, Int.reduceEq, Int.reduceLT, Int.reduceLE, Int.reduceAdd, Int.reduceSub, Int.reduceMul, Int.reduceNeg, reduceIte, if_true, if_false, true_or, or_true, false_or, or_false, false_and, and_false, eq_self, not_false_eq_true, not_true_eq_false, true_and, and_true, List.cons_append, List.nil_append, List.append_nil, b2_0, b2_1, b2_01, Classical.not_not]
theorem lw_22 (J : JS ds m m n) (h0 : 0 ≤ i) (h6 : i + 6 ≤ m (-3) 0) (h3 : m (-3) 0 ≤ 3072) (hr : ∀ j, 0 ≤ j → j < m (-3) 0 → rng (m (-2) j)) (hn : n < 1000000) (nx : ∀ ds' Z, JS ds' Z Z (n + 1) → (∀ x j, x < 0 → Z x j = m x j) → WP 191 1102 [(4, 0), (2, 0), (2, 70), (0, i)] [] ds' Z Q) : WP 191 911 [(4, 0), (2, 0), (2, 70), (0, i)] [] ds m Q := by
  obtain ⟨tl, rfl⟩ := J.Dt
  obtain ⟨ds2, X, Z, ⟨t, v⟩, hA, hB, J2, fZ, fX, ht⟩ := call_weak (i := (m (-2) (i + 1))) J 
  have ht2 : t = 0 := ht
  subst ht2
  have y := nx ds2 Z J2 fZ
  obtain ⟨t2, rfl⟩ := J2.Dt
  have x2 : ∀ j, X (-2) j = m (-2) j := fun j => fX _ _ (by decide)
  have x3 : X (-3) 0 = m (-3) 0 := fX _ _ (by decide)
  have w1 : w32 (i + 1) = i + 1 := w32_id (by omega) (by omega)
  have b1 : 0 ≤ i + 1 ∧ i + 1 < m (-3) 0 := by omega
  simp only [p191_911, p191_912, p191_913, p191_914, p191_915, p191_916, p191_917, p191_920, p191_921, p191_922, p191_923, p191_924, p191_925, p191_926, p191_929, p191_932, p191_933, K_0, K_70, hA, hB, x2, x3, w1, b1, jcmp_s, y, b2_T, b2_F, Int.reduceEq, Int.reduceLT, Int.reduceLE, Int.reduceAdd, Int.reduceSub, Int.reduceMul, Int.reduceNeg, reduceIte, if_true, if_false, true_or, or_true, false_or, or_false, false_and, and_false, eq_self, not_false_eq_true, not_true_eq_false, true_and, and_true, List.cons_append, List.nil_append, List.append_nil, b2_0, b2_1, b2_01, Classical.not_not]
theorem lw_23 (J : JS ds m m n) (h0 : 0 ≤ i) (h6 : i + 6 ≤ m (-3) 0) (h3 : m (-3) 0 ≤ 3072) (hr : ∀ j, 0 ≤ j → j < m (-3) 0 → rng (m (-2) j)) (hn : n < 1000000) (nx : ∀ ds' Z, JS ds' Z Z (n + 1) → (∀ x j, x < 0 → Z x j = m x j) → WP 191 1102 [(4, 0), (2, 0), (2, 70), (0, i)] [] ds' Z Q) : WP 191 934 [(4, 0), (2, 0), (2, 70), (0, i)] [] ds m Q := by
  obtain ⟨tl, rfl⟩ := J.Dt
  obtain ⟨ds2, X, Z, ⟨t, v⟩, hA, hB, J2, fZ, fX, ht⟩ := call_fits (c := (m (-2) (i + 1))) (bell := (m (-2) (i + 2))) (tick := (m (-2) (i + 3))) J 
  have ht2 : t = 0 := ht
  subst ht2
  have y := nx ds2 Z J2 fZ
  obtain ⟨t2, rfl⟩ := J2.Dt
  have x2 : ∀ j, X (-2) j = m (-2) j := fun j => fX _ _ (by decide)
  have x3 : X (-3) 0 = m (-3) 0 := fX _ _ (by decide)
  have w1 : w32 (i + 1) = i + 1 := w32_id (by omega) (by omega)
  have b1 : 0 ≤ i + 1 ∧ i + 1 < m (-3) 0 := by omega
  have w2 : w32 (i + 2) = i + 2 := w32_id (by omega) (by omega)
  have b2 : 0 ≤ i + 2 ∧ i + 2 < m (-3) 0 := by omega
  have w3 : w32 (i + 3) = i + 3 := w32_id (by omega) (by omega)
  have b3 : 0 ≤ i + 3 ∧ i + 3 < m (-3) 0 := by omega
  simp only [p191_934, p191_935, p191_936, p191_937, p191_938, p191_939, p191_940, p191_941, p191_942, p191_943, p191_944, p191_945, p191_946, p191_947, p191_948, p191_949, p191_950, p191_953, p191_954, p191_955, p191_956, p191_957, p191_958, p191_959, p191_960, p191_961, p191_962, p191_963, p191_964, p191_965, p191_966, p191_967, p191_968, p191_969, p191_972, p191_975, p191_976, K_0, K_70, hA, hB, x2, x3, w1, b1, w2, b2, w3, b3, jcmp_s, y, b2_T, b2_F, Int.reduceEq, Int.reduceLT, Int.reduceLE, Int.reduceAdd, Int.reduceSub, Int.reduceMul, Int.reduceNeg, reduceIte, if_true, if_false, true_or, or_true, false_or, or_false, false_and, and_false, eq_self, not_false_eq_true, not_true_eq_false, true_and, and_true, List.cons_append, List.nil_append, List.append_nil, b2_0, b2_1, b2_01, Classical.not_not]
theorem lw_24 (J : JS ds m m n) (h0 : 0 ≤ i) (h6 : i + 6 ≤ m (-3) 0) (h3 : m (-3) 0 ≤ 3072) (hr : ∀ j, 0 ≤ j → j < m (-3) 0 → rng (m (-2) j)) (hn : n < 1000000) (nx : ∀ ds' Z, JS ds' Z Z (n + 1) → (∀ x j, x < 0 → Z x j = m x j) → WP 191 1102 [(4, 0), (2, 0), (2, 70), (0, i)] [] ds' Z Q) : WP 191 977 [(4, 0), (2, 0), (2, 70), (0, i)] [] ds m Q := by
  obtain ⟨tl, rfl⟩ := J.Dt
  obtain ⟨ds2, X, Z, ⟨t, v⟩, hA, hB, J2, fZ, fX, ht⟩ := call_fit (i := (m (-2) (i + 1))) J 
  have ht2 : t = 0 := ht
  subst ht2
  have y := nx ds2 Z J2 fZ
  obtain ⟨t2, rfl⟩ := J2.Dt
  have x2 : ∀ j, X (-2) j = m (-2) j := fun j => fX _ _ (by decide)
  have x3 : X (-3) 0 = m (-3) 0 := fX _ _ (by decide)
  have w1 : w32 (i + 1) = i + 1 := w32_id (by omega) (by omega)
  have b1 : 0 ≤ i + 1 ∧ i + 1 < m (-3) 0 := by omega
  simp only [p191_977, p191_978, p191_979, p191_980, p191_981, p191_982, p191_983, p191_986, p191_987, p191_988, p191_989, p191_990, p191_991, p191_992, p191_995, p191_998, p191_999, K_0, K_70, hA, hB, x2, x3, w1, b1, jcmp_s, y, b2_T, b2_F, Int.reduceEq, Int.reduceLT, Int.reduceLE, Int.reduceAdd, Int.reduceSub, Int.reduceMul, Int.reduceNeg, reduceIte, if_true, if_false, true_or, or_true, false_or, or_false, false_and, and_false, eq_self, not_false_eq_true, not_true_eq_false, true_and, and_true, List.cons_append, List.nil_append, List.append_nil, b2_0, b2_1, b2_01, Classical.not_not]
theorem lw_25 (J : JS ds m m n) (h0 : 0 ≤ i) (h6 : i + 6 ≤ m (-3) 0) (h3 : m (-3) 0 ≤ 3072) (hr : ∀ j, 0 ≤ j → j < m (-3) 0 → rng (m (-2) j)) (hn : n < 1000000) (nx : ∀ ds' Z, JS ds' Z Z (n + 1) → (∀ x j, x < 0 → Z x j = m x j) → WP 191 1102 [(4, 0), (2, 0), (2, 70), (0, i)] [] ds' Z Q) : WP 191 1000 [(4, 0), (2, 0), (2, 70), (0, i)] [] ds m Q := by
  obtain ⟨tl, rfl⟩ := J.Dt
  obtain ⟨ds2, X, Z, ⟨t, v⟩, hA, hB, J2, fZ, fX, ht⟩ := call_fewest (bell := (m (-2) (i + 1))) (tick := (m (-2) (i + 2))) J 
  have ht2 : t = 0 := ht
  subst ht2
  have y := nx ds2 Z J2 fZ
  obtain ⟨t2, rfl⟩ := J2.Dt
  have x2 : ∀ j, X (-2) j = m (-2) j := fun j => fX _ _ (by decide)
  have x3 : X (-3) 0 = m (-3) 0 := fX _ _ (by decide)
  have w1 : w32 (i + 1) = i + 1 := w32_id (by omega) (by omega)
  have b1 : 0 ≤ i + 1 ∧ i + 1 < m (-3) 0 := by omega
  have w2 : w32 (i + 2) = i + 2 := w32_id (by omega) (by omega)
  have b2 : 0 ≤ i + 2 ∧ i + 2 < m (-3) 0 := by omega
  simp only [p191_1000, p191_1001, p191_1002, p191_1003, p191_1004, p191_1005, p191_1006, p191_1007, p191_1008, p191_1009, p191_1010, p191_1011, p191_1014, p191_1015, p191_1016, p191_1017, p191_1018, p191_1019, p191_1020, p191_1021, p191_1022, p191_1023, p191_1024, p191_1025, p191_1028, p191_1031, p191_1032, K_0, K_70, hA, hB, x2, x3, w1, b1, w2, b2, jcmp_s, y, b2_T, b2_F, Int.reduceEq, Int.reduceLT, Int.reduceLE, Int.reduceAdd, Int.reduceSub, Int.reduceMul, Int.reduceNeg, reduceIte, if_true, if_false, true_or, or_true, false_or, or_false, false_and, and_false, eq_self, not_false_eq_true, not_true_eq_false, true_and, and_true, List.cons_append, List.nil_append, List.append_nil, b2_0, b2_1, b2_01, Classical.not_not]
theorem lw_26 (J : JS ds m m n) (h0 : 0 ≤ i) (h6 : i + 6 ≤ m (-3) 0) (h3 : m (-3) 0 ≤ 3072) (hr : ∀ j, 0 ≤ j → j < m (-3) 0 → rng (m (-2) j)) (hn : n < 1000000) (nx : ∀ ds' Z, JS ds' Z Z (n + 1) → (∀ x j, x < 0 → Z x j = m x j) → WP 191 1102 [(4, 0), (2, 0), (2, 70), (0, i)] [] ds' Z Q) : WP 191 1033 [(4, 0), (2, 0), (2, 70), (0, i)] [] ds m Q := by
  obtain ⟨tl, rfl⟩ := J.Dt
  obtain ⟨ds2, X, Z, ⟨t, v⟩, hA, hB, J2, fZ, fX, ht⟩ := call_piece (i := (m (-2) (i + 1))) J 
  have ht2 : t = 0 := ht
  subst ht2
  have y := nx ds2 Z J2 fZ
  obtain ⟨t2, rfl⟩ := J2.Dt
  have x2 : ∀ j, X (-2) j = m (-2) j := fun j => fX _ _ (by decide)
  have x3 : X (-3) 0 = m (-3) 0 := fX _ _ (by decide)
  have w1 : w32 (i + 1) = i + 1 := w32_id (by omega) (by omega)
  have b1 : 0 ≤ i + 1 ∧ i + 1 < m (-3) 0 := by omega
  simp only [p191_1033, p191_1034, p191_1035, p191_1036, p191_1037, p191_1038, p191_1039, p191_1042, p191_1043, p191_1044, p191_1045, p191_1046, p191_1047, p191_1048, p191_1051, p191_1054, p191_1055, K_0, K_70, hA, hB, x2, x3, w1, b1, jcmp_s, y, b2_T, b2_F, Int.reduceEq, Int.reduceLT, Int.reduceLE, Int.reduceAdd, Int.reduceSub, Int.reduceMul, Int.reduceNeg, reduceIte, if_true, if_false, true_or, or_true, false_or, or_false, false_and, and_false, eq_self, not_false_eq_true, not_true_eq_false, true_and, and_true, List.cons_append, List.nil_append, List.append_nil, b2_0, b2_1, b2_01, Classical.not_not]
theorem lw_27 (J : JS ds m m n) (h0 : 0 ≤ i) (h6 : i + 6 ≤ m (-3) 0) (h3 : m (-3) 0 ≤ 3072) (hr : ∀ j, 0 ≤ j → j < m (-3) 0 → rng (m (-2) j)) (hn : n < 1000000) (nx : ∀ ds' Z, JS ds' Z Z (n + 1) → (∀ x j, x < 0 → Z x j = m x j) → WP 191 1102 [(4, 0), (2, 0), (2, 70), (0, i)] [] ds' Z Q) : WP 191 1056 [(4, 0), (2, 0), (2, 70), (0, i)] [] ds m Q := by
  obtain ⟨tl, rfl⟩ := J.Dt
  obtain ⟨ds2, X, Z, ⟨t, v⟩, hA, hB, J2, fZ, fX, ht⟩ := call_tune (s := (m (-2) (i + 1))) J 
  have ht2 : t = 0 := ht
  subst ht2
  have y := nx ds2 Z J2 fZ
  obtain ⟨t2, rfl⟩ := J2.Dt
  have x2 : ∀ j, X (-2) j = m (-2) j := fun j => fX _ _ (by decide)
  have x3 : X (-3) 0 = m (-3) 0 := fX _ _ (by decide)
  have w1 : w32 (i + 1) = i + 1 := w32_id (by omega) (by omega)
  have b1 : 0 ≤ i + 1 ∧ i + 1 < m (-3) 0 := by omega
  simp only [p191_1056, p191_1057, p191_1058, p191_1059, p191_1060, p191_1061, p191_1062, p191_1065, p191_1066, p191_1067, p191_1068, p191_1069, p191_1070, p191_1071, p191_1074, p191_1077, p191_1078, K_0, K_70, hA, hB, x2, x3, w1, b1, jcmp_s, y, b2_T, b2_F, Int.reduceEq, Int.reduceLT, Int.reduceLE, Int.reduceAdd, Int.reduceSub, Int.reduceMul, Int.reduceNeg, reduceIte, if_true, if_false, true_or, or_true, false_or, or_false, false_and, and_false, eq_self, not_false_eq_true, not_true_eq_false, true_and, and_true, List.cons_append, List.nil_append, List.append_nil, b2_0, b2_1, b2_01, Classical.not_not]
theorem lw_28 (J : JS ds m m n) (h0 : 0 ≤ i) (h6 : i + 6 ≤ m (-3) 0) (h3 : m (-3) 0 ≤ 3072) (hr : ∀ j, 0 ≤ j → j < m (-3) 0 → rng (m (-2) j)) (hn : n < 1000000) (nx : ∀ ds' Z, JS ds' Z Z (n + 1) → (∀ x j, x < 0 → Z x j = m x j) → WP 191 1102 [(4, 0), (2, 0), (2, 70), (0, i)] [] ds' Z Q) : WP 191 1079 [(4, 0), (2, 0), (2, 70), (0, i)] [] ds m Q := by
  obtain ⟨tl, rfl⟩ := J.Dt
  obtain ⟨ds2, X, Z, ⟨t, v⟩, hA, hB, J2, fZ, fX, ht⟩ := call_status (w := (m (-2) (i + 1))) J (hr _ (by omega) (by omega))
  have ht2 : t = 0 := ht
  subst ht2
  have y := nx ds2 Z J2 fZ
  obtain ⟨t2, rfl⟩ := J2.Dt
  have x2 : ∀ j, X (-2) j = m (-2) j := fun j => fX _ _ (by decide)
  have x3 : X (-3) 0 = m (-3) 0 := fX _ _ (by decide)
  have w1 : w32 (i + 1) = i + 1 := w32_id (by omega) (by omega)
  have b1 : 0 ≤ i + 1 ∧ i + 1 < m (-3) 0 := by omega
  simp only [p191_1079, p191_1080, p191_1081, p191_1082, p191_1083, p191_1084, p191_1085, p191_1088, p191_1089, p191_1090, p191_1091, p191_1092, p191_1093, p191_1094, p191_1097, p191_1100, p191_1101, K_0, K_70, hA, hB, x2, x3, w1, b1, jcmp_s, y, b2_T, b2_F, Int.reduceEq, Int.reduceLT, Int.reduceLE, Int.reduceAdd, Int.reduceSub, Int.reduceMul, Int.reduceNeg, reduceIte, if_true, if_false, true_or, or_true, false_or, or_false, false_and, and_false, eq_self, not_false_eq_true, not_true_eq_false, true_and, and_true, List.cons_append, List.nil_append, List.append_nil, b2_0, b2_1, b2_01, Classical.not_not]
theorem lw_body (J : JS ds m m n) (h0 : 0 ≤ i) (h6 : i + 6 ≤ m (-3) 0) (h3 : m (-3) 0 ≤ 3072) (hr : ∀ j, 0 ≤ j → j < m (-3) 0 → rng (m (-2) j)) (hn : n < 1000000) (nx : ∀ ds' Z, JS ds' Z Z (n + 1) → (∀ x j, x < 0 → Z x j = m x j) → WP 191 1102 [(4, 0), (2, 0), (2, 70), (0, i)] [] ds' Z Q) : WP 191 27 [(4, 0), (2, 0), (2, 70), (0, i)] [] ds m Q := by
  have b0 : 0 ≤ i ∧ i < m (-3) 0 := by omega
  have st : WP 191 27 [(4, 0), (2, 0), (2, 70), (0, i)] [] ds m Q = WP 191 33 [(4, 0), (2, 0), (2, 70), (0, i)] [(0, jand (m (-2) i) 31)] ds m Q := by
    simp only [p191_27, p191_28, p191_29, p191_30, p191_32, b0, b2_T, b2_F, Int.reduceEq, Int.reduceLT, Int.reduceLE, Int.reduceAdd, Int.reduceSub, Int.reduceMul, Int.reduceNeg, reduceIte, if_true, if_false, true_or, or_true, false_or, or_false, false_and, and_false, eq_self, not_false_eq_true, not_true_eq_false, true_and, and_true, List.cons_append, List.nil_append, List.append_nil, b2_0, b2_1, b2_01, Classical.not_not]
  rw [st]
  generalize jand (m (-2) i) 31 = u
  rw [p191_33]
  by_cases c0 : u = 0
  · rw [if_pos c0]
    exact lw_0 J h0 h6 h3 hr hn nx
  rw [if_neg c0]
  by_cases c1 : u = 1
  · rw [if_pos c1]
    exact lw_1 J h0 h6 h3 hr hn nx
  rw [if_neg c1]
  by_cases c2 : u = 2
  · rw [if_pos c2]
    exact lw_2 J h0 h6 h3 hr hn nx
  rw [if_neg c2]
  by_cases c3 : u = 3
  · rw [if_pos c3]
    exact lw_3 J h0 h6 h3 hr hn nx
  rw [if_neg c3]
  by_cases c4 : u = 4
  · rw [if_pos c4]
    exact lw_4 J h0 h6 h3 hr hn nx
  rw [if_neg c4]
  by_cases c5 : u = 5
  · rw [if_pos c5]
    exact lw_5 J h0 h6 h3 hr hn nx
  rw [if_neg c5]
  by_cases c6 : u = 6
  · rw [if_pos c6]
    exact lw_6 J h0 h6 h3 hr hn nx
  rw [if_neg c6]
  by_cases c7 : u = 7
  · rw [if_pos c7]
    exact lw_7 J h0 h6 h3 hr hn nx
  rw [if_neg c7]
  by_cases c8 : u = 8
  · rw [if_pos c8]
    exact lw_8 J h0 h6 h3 hr hn nx
  rw [if_neg c8]
  by_cases c9 : u = 9
  · rw [if_pos c9]
    exact lw_9 J h0 h6 h3 hr hn nx
  rw [if_neg c9]
  by_cases c10 : u = 10
  · rw [if_pos c10]
    exact lw_10 J h0 h6 h3 hr hn nx
  rw [if_neg c10]
  by_cases c11 : u = 11
  · rw [if_pos c11]
    exact lw_11 J h0 h6 h3 hr hn nx
  rw [if_neg c11]
  by_cases c12 : u = 12
  · rw [if_pos c12]
    exact lw_12 J h0 h6 h3 hr hn nx
  rw [if_neg c12]
  by_cases c13 : u = 13
  · rw [if_pos c13]
    exact lw_13 J h0 h6 h3 hr hn nx
  rw [if_neg c13]
  by_cases c14 : u = 14
  · rw [if_pos c14]
    exact lw_14 J h0 h6 h3 hr hn nx
  rw [if_neg c14]
  by_cases c15 : u = 15
  · rw [if_pos c15]
    exact lw_15 J h0 h6 h3 hr hn nx
  rw [if_neg c15]
  by_cases c16 : u = 16
  · rw [if_pos c16]
    exact lw_16 J h0 h6 h3 hr hn nx
  rw [if_neg c16]
  by_cases c17 : u = 17
  · rw [if_pos c17]
    exact lw_17 J h0 h6 h3 hr hn nx
  rw [if_neg c17]
  by_cases c18 : u = 18
  · rw [if_pos c18]
    exact lw_18 J h0 h6 h3 hr hn nx
  rw [if_neg c18]
  by_cases c19 : u = 19
  · rw [if_pos c19]
    exact lw_19 J h0 h6 h3 hr hn nx
  rw [if_neg c19]
  by_cases c20 : u = 20
  · rw [if_pos c20]
    exact lw_20 J h0 h6 h3 hr hn nx
  rw [if_neg c20]
  by_cases c21 : u = 21
  · rw [if_pos c21]
    exact lw_21 J h0 h6 h3 hr hn nx
  rw [if_neg c21]
  by_cases c22 : u = 22
  · rw [if_pos c22]
    exact lw_22 J h0 h6 h3 hr hn nx
  rw [if_neg c22]
  by_cases c23 : u = 23
  · rw [if_pos c23]
    exact lw_23 J h0 h6 h3 hr hn nx
  rw [if_neg c23]
  by_cases c24 : u = 24
  · rw [if_pos c24]
    exact lw_24 J h0 h6 h3 hr hn nx
  rw [if_neg c24]
  by_cases c25 : u = 25
  · rw [if_pos c25]
    exact lw_25 J h0 h6 h3 hr hn nx
  rw [if_neg c25]
  by_cases c26 : u = 26
  · rw [if_pos c26]
    exact lw_26 J h0 h6 h3 hr hn nx
  rw [if_neg c26]
  by_cases c27 : u = 27
  · rw [if_pos c27]
    exact lw_27 J h0 h6 h3 hr hn nx
  rw [if_neg c27]
  by_cases c28 : u = 28
  · rw [if_pos c28]
    exact lw_28 J h0 h6 h3 hr hn nx
  rw [if_neg c28]
  exact nx ds m (JS_n J (by omega)) (fun _ _ _ => rfl)
theorem sl_B : sl dsB ≤ 100000 := by decide +kernel
theorem lw_loop (L : Int) (hL : L ≤ 3072) (hL0 : 0 ≤ L) : ∀ (f : Nat) (i n : Int) (ds : Ds) (m : Mm), JS ds m m n → i = 6 * n → 0 ≤ n → m (-3) 0 = L → (∀ j, 0 ≤ j → j < L → rng (m (-2) j)) → i ≤ L → L - i < 6 * f + 6 → WP 191 18 [(4, 0), (2, 0), (2, 70), (0, i)] [] ds m QL := by
  intro f
  induction f with
  | zero =>
    intro i n ds m J hi hn h3 hr hiL hf
    have w1 : w32 (L - 6) = L - 6 := w32_id (by omega) (by omega)
    have c : L - 6 < i := by omega
    have q : QL ds m [(0, 1)] := by
      have a1 := J.Ln
      have a2 := J.Sl
      have a3 := sl_B
      exact ⟨rfl, by omega, by omega⟩
    simp only [p191_18, p191_19, p191_20, p191_21, p191_23, p191_24, p191_1108, p191_1109, h3, w1, c, q, b2_T, b2_F, Int.reduceEq, Int.reduceLT, Int.reduceLE, Int.reduceAdd, Int.reduceSub, Int.reduceMul, Int.reduceNeg, reduceIte, if_true, if_false, true_or, or_true, false_or, or_false, false_and, and_false, eq_self, not_false_eq_true, not_true_eq_false, true_and, and_true, List.cons_append, List.nil_append, List.append_nil, b2_0, b2_1, b2_01, Classical.not_not]
  | succ f ih =>
    intro i n ds m J hi hn h3 hr hiL hf
    have w1 : w32 (L - 6) = L - 6 := w32_id (by omega) (by omega)
    by_cases c : L - 6 < i
    · have q : QL ds m [(0, 1)] := by
        have a1 := J.Ln
        have a2 := J.Sl
        have a3 := sl_B
        exact ⟨rfl, by omega, by omega⟩
      simp only [p191_18, p191_19, p191_20, p191_21, p191_23, p191_24, p191_1108, p191_1109, h3, w1, c, q, b2_T, b2_F, Int.reduceEq, Int.reduceLT, Int.reduceLE, Int.reduceAdd, Int.reduceSub, Int.reduceMul, Int.reduceNeg, reduceIte, if_true, if_false, true_or, or_true, false_or, or_false, false_and, and_false, eq_self, not_false_eq_true, not_true_eq_false, true_and, and_true, List.cons_append, List.nil_append, List.append_nil, b2_0, b2_1, b2_01, Classical.not_not]
    · have y := lw_body (Q := QL) J (show 0 ≤ i by omega) (by omega) (by omega) (by rw [h3]; exact hr) (by omega) (fun ds' Z J' fZ => by
        have w6 : w32 (i + 6) = i + 6 := w32_id (by omega) (by omega)
        have r := ih (i + 6) (n + 1) ds' Z J' (by omega) (by omega) ((fZ _ _ (by decide)).trans h3) (fun j j0 j1 => by rw [fZ _ _ (by decide)]; exact hr j j0 j1) (by omega) (by omega)
        simp only [p191_1102, p191_1105, w6, r, b2_T, b2_F, Int.reduceEq, Int.reduceLT, Int.reduceLE, Int.reduceAdd, Int.reduceSub, Int.reduceMul, Int.reduceNeg, reduceIte, if_true, if_false, true_or, or_true, false_or, or_false, false_and, and_false, eq_self, not_false_eq_true, not_true_eq_false, true_and, and_true, List.cons_append, List.nil_append, List.append_nil, b2_0, b2_1, b2_01, Classical.not_not])
      simp only [p191_18, p191_19, p191_20, p191_21, p191_23, p191_24, h3, w1, c, y, b2_T, b2_F, Int.reduceEq, Int.reduceLT, Int.reduceLE, Int.reduceAdd, Int.reduceSub, Int.reduceMul, Int.reduceNeg, reduceIte, if_true, if_false, true_or, or_true, false_or, or_false, false_and, and_false, eq_self, not_false_eq_true, not_true_eq_false, true_and, and_true, List.cons_append, List.nil_append, List.append_nil, b2_0, b2_1, b2_01, Classical.not_not]
end LAW
theorem law_goal : LawGoal := by
  intro L mm hL h3 hr
  show WP 191 0 [(4, 0), (3, 0), (3, 0), (3, 0)] [] [] mm QL
  rw [s191]
  have y := lw_loop (L : Int) (by omega) (by omega) 512 0 0 dsB (m0 mm) JS_0 (by decide) (by decide) ((m0_neg (by decide)).trans h3) (fun j j0 j1 => by rw [m0_neg (by decide)]; exact hr j j0 j1) (by omega) (by omega)
  simp only [p191_16, p191_17, y]
