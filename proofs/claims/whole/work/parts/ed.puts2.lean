/-! puts: the calls of both sides -/
section PUTS2
variable {tl : Ds} {ds ds' : Ds} {m X Y Z X' Y' g h G A B : Mm} {Q : Ds → Mm → List MV → Prop} {p q c k a b s o v i j d n nn w t r e x : Int} {M M' : Nat} {as as' : List MV} {E : Int → Int}
theorem JS_pl0 (J : JS ds A B n) (W' : WG Y') (S' : Sh X') (P' : PR X' 9 Y') (Z' : ZP X' 9) (f : ∀ x j, ¬ (9 ≤ x ∧ x ≤ 26) → X' x j = A x j) (g : ∀ x j, ¬ (72 ≤ x ∧ x ≤ 79) → ¬ (x = 70 ∧ j = 6) → ¬ (x = 84 ∧ 3840 ≤ j) → ¬ (x = 85 ∧ 104 ≤ j) → Y' x j = B x j) : JS ds X' Y' n := by
  refine ⟨W', S', P', Z', ?_, ?_, ?_, ?_, ?_, ?_, ?_, J.Dt, by have := J.Ln; omega, by have := J.Sl; omega⟩
  · rw [f _ _ (by decide), g _ _ (by decide) (by decide) (by omega) (by omega)]
    have := J.Rn
    omega
  · intro i i0 i1
    rw [f _ _ (by decide), g _ _ (by decide) (by omega) (by omega) (by omega)]
    exact J.Rf i i0 i1
  · exact LT0_cg J.Lt (fun x j h1 h2 => f x j (by omega)) (f _ _ (by decide)) (fun j _ => g _ _ (by decide) (by omega) (by omega) (by omega)) (fun j _ => g _ _ (by decide) (by omega) (by omega) (by omega)) (fun x j h1 h2 _ => g _ _ (by omega) (by omega) (by omega) (by omega)) (fun j => ⟨g _ _ (by decide) (by omega) (by omega) (by omega), g _ _ (by decide) (by omega) (by omega) (by omega)⟩)
  · exact LSX_cg J.Wk (fun i => f _ _ (by decide)) (fun i => g _ _ (by decide) (by omega) (by omega) (by omega)) (f _ _ (by decide)) (g _ _ (by decide) (by decide) (by omega) (by omega))
  · exact LSX_cg J.Ft (fun i => f _ _ (by decide)) (fun i => g _ _ (by decide) (by omega) (by omega) (by omega)) (f _ _ (by decide)) (g _ _ (by decide) (by decide) (by omega) (by omega))
  · exact LSX_cg J.Fw (fun i => f _ _ (by decide)) (fun i => g _ _ (by decide) (by omega) (by omega) (by omega)) (f _ _ (by decide)) (g _ _ (by decide) (by decide) (by omega) (by omega))
  · exact SHV_fr2 J.Hv (fun x j h => f x j (by omega)) (fun x j h1 h2 => g x j (by omega) (by omega) (by omega) (by omega)) (fun j h => g _ _ (by decide) (by omega) (by omega) (by omega)) (fun j h => g _ _ (by decide) (by omega) (by omega) (by omega))
/-- what puts does on the class's side, for a plan g of the reference -/
theorem e79g (hs : isH s) (S : Sh m) (W : WG g) (P : PR m 9 g) (z : ZP m 9) (R : RA (dsB ++ tl) m r nn) (h1 : m 1 s = r) (hn : 0 ≤ nn ∧ nn ≤ 100) (ra : m r 1 = r + 1) (hr : 114 ≤ r) (hE : ∀ k, 0 ≤ k → k < nn → ji (m (r + 1) k) = E k) (h4 : nn % 4 = 0) : (∃ X g', psG E (nn / 4).toNat 0 g = some g' ∧ WG g' ∧ Sh X ∧ PR X 9 g' ∧ ZP X 9 ∧ (∀ x j, ¬ (9 ≤ x ∧ x ≤ 26) → X x j = m x j) ∧ ∀ Q, WP 79 0 [(2, 0), (0, s), (3, 0), (3, 0), (3, 0)] [] (dsB ++ tl) m Q = Q (dsB ++ tl) X [(0, nn / 4)]) ∨ (psG E (nn / 4).toNat 0 g = none ∧ ∃ X, Sh X ∧ (∀ x j, ¬ (18 ≤ x ∧ x ≤ 26) → X x j = m x j) ∧ ∀ Q, WP 79 0 [(2, 0), (0, s), (3, 0), (3, 0), (3, 0)] [] (dsB ++ tl) m Q = Q (dsB ++ tl) (rf X 3 6) [(0, -6)]) := by
  have j1 : jrem nn 4 = 0 := (jrem_nn (by omega) (by omega) (by omega) (by omega)).trans h4
  have j2 : jdiv nn 4 = nn / 4 := jdiv_nn (by omega) (by omega) (by omega) (by omega)
  have r0 : ¬ r < 0 := by omega
  have hb : ∀ c : Int, 0 ≤ c → c < 96 → m (9 + 5) c = 0 ∨ m (9 + 5) c = 1 := fun c c0 c1 => by
    rw [P.b c ⟨c0, c1⟩]
    exact (W.p c ⟨c0, c1⟩).l
  have y23 := fun (Q : Ds → Mm → List MV → Prop) => e23 (Q := Q) (PA_18 (tl := tl) S) (PA_9 (tl := tl) S) (Or.inr (by decide)) hb
  have S1 : Sh (bec m 18 9) := Sh_bec S
  have F1 : ∀ x j, ¬ (18 ≤ x ∧ x ≤ 26) → bec m 18 9 x j = m x j := fun x j h => bec_f (by omega)
  have P1 : PR (bec m 18 9) 18 g := PR_bec P W.v
  have z1 : ZP (bec m 18 9) 18 := ZP_bec z
  have y96 := fun (Q : Ds → Mm → List MV → Prop) => e96r (tl := tl) (Q := Q) S hs h1
  have y44 := fun (Q : Ds → Mm → List MV → Prop) => e44 (Q := Q) R
  have st : ∀ Q, WP 79 0 [(2, 0), (0, s), (3, 0), (3, 0), (3, 0)] [] (dsB ++ tl) m Q = WP 79 52 [(2, 0), (0, s), (2, r), (0, nn), (0, 0)] [] (dsB ++ tl) (bec m 18 9) Q := fun Q => by
    simp only [p79_0, p79_1, p79_2, p79_5, p79_6, p79_7, p79_10, p79_11, p79_12, p79_13, p79_16, p79_19, p79_20, p79_21, p79_24, p79_25, p79_26, p79_27, p79_28, p79_31, p79_32, p79_34, p79_37, p79_38, p79_39, p79_42, p79_43, p79_46, p79_49, p79_50, K_0, K_3, L_3, sh_0_0 S, sh_0_1 S, sh_0_2 S, sh_0_3 S, sh_0_4 S, sh_0_5 S, sh_0_7 S, sh_0_8 S, sh_0_10 S, sh_0_12 S, sh_0_14 S, sh_0_15 S, K_9, K_18, R.1, r0, j1, y23, y96, y44, b2_T, b2_F, Int.reduceEq, Int.reduceLT, Int.reduceLE, Int.reduceAdd, Int.reduceSub, Int.reduceMul, Int.reduceNeg, reduceIte, if_true, if_false, true_or, or_true, false_or, or_false, false_and, and_false, eq_self, not_false_eq_true, not_true_eq_false, true_and, and_true, List.cons_append, List.nil_append, List.append_nil, b2_0, b2_1, b2_01, Classical.not_not]
  rcases e79l (s := s) hn R ra hr hE (nn / 4).toNat 0 (bec m 18 9) g (by omega) (by omega) W S1 P1 z1 F1 with ⟨X', g', a1, a2, a3, a4, a5, a6, a7⟩ | ⟨a1, X', a2, a3, a4⟩
  · refine Or.inl ⟨bec X' 9 18, g', a1, a2, Sh_bec9 a3, PR_bec a4 a2.v, ZP_bec a5, fun x j h => (bec_f (by omega)).trans (a6 x j (by omega)), fun Q => ?_⟩
    have hb2 : ∀ c : Int, 0 ≤ c → c < 96 → X' (18 + 5) c = 0 ∨ X' (18 + 5) c = 1 := fun c c0 c1 => by
      rw [a4.b c ⟨c0, c1⟩]
      exact (a2.p c ⟨c0, c1⟩).l
    have yb := fun (Q : Ds → Mm → List MV → Prop) => e23 (Q := Q) (PA_9 (tl := tl) a3) (PA_18 (tl := tl) a3) (Or.inl (by decide)) hb2
    rw [st Q, a7 Q]
    simp only [p79_108, p79_109, p79_112, p79_113, p79_116, p79_119, p79_120, p79_121, p79_122, K_0, K_9, K_18, sh_0_0 a3, sh_0_1 a3, yb, j2, b2_T, b2_F, Int.reduceEq, Int.reduceLT, Int.reduceLE, Int.reduceAdd, Int.reduceSub, Int.reduceMul, Int.reduceNeg, reduceIte, if_true, if_false, true_or, or_true, false_or, or_false, false_and, and_false, eq_self, not_false_eq_true, not_true_eq_false, true_and, and_true, List.cons_append, List.nil_append, List.append_nil, b2_0, b2_1, b2_01, Classical.not_not]
  · exact Or.inr ⟨a1, X', a2, a3, fun Q => (st Q).trans (a4 Q)⟩
theorem e79b (hs : isH s) (S : Sh m) (R : RA (dsB ++ tl) m r nn) (h1 : m 1 s = r) (hn : 0 ≤ nn ∧ nn ≤ 100) (hr : 114 ≤ r) (h4 : ¬ nn % 4 = 0) : WP 79 0 [(2, 0), (0, s), (3, 0), (3, 0), (3, 0)] [] (dsB ++ tl) m Q = Q (dsB ++ tl) (rf m 3 6) [(0, -6)] := by
  have j1 : jrem nn 4 = nn % 4 := jrem_nn (by omega) (by omega) (by omega) (by omega)
  have r0 : ¬ r < 0 := by omega
  have y96 := fun (Q : Ds → Mm → List MV → Prop) => e96r (tl := tl) (Q := Q) S hs h1
  have y44 := fun (Q : Ds → Mm → List MV → Prop) => e44 (Q := Q) R
  simp only [p79_0, p79_1, p79_2, p79_5, p79_6, p79_7, p79_10, p79_11, p79_12, p79_13, p79_16, p79_19, p79_20, p79_21, p79_24, p79_25, p79_26, p79_27, p79_28, p79_31, p79_32, p79_34, p79_37, K_0, K_3, L_3, sh_0_0 S, sh_0_1 S, sh_0_2 S, sh_0_3 S, sh_0_4 S, sh_0_5 S, sh_0_7 S, sh_0_8 S, sh_0_10 S, sh_0_12 S, sh_0_14 S, sh_0_15 S, R.1, r0, j1, h4, y96, y44, e95 S (show -7 ≤ (-6 : Int) ∧ (-6 : Int) ≤ -1 by decide), b2_T, b2_F, Int.reduceEq, Int.reduceLT, Int.reduceLE, Int.reduceAdd, Int.reduceSub, Int.reduceMul, Int.reduceNeg, reduceIte, if_true, if_false, true_or, or_true, false_or, or_false, false_and, and_false, eq_self, not_false_eq_true, not_true_eq_false, true_and, and_true, List.cons_append, List.nil_append, List.append_nil, b2_0, b2_1, b2_01, Classical.not_not]
theorem e79n (S : Sh m) (h : ¬ isH s ∨ m 1 s = -1) (hw : w = -1 ∨ w = -2 ∨ w = -3) (hn : nrA m s = w) : WP 79 0 [(2, 0), (0, s), (3, 0), (3, 0), (3, 0)] [] (dsB ++ tl) m Q = Q (dsB ++ tl) (rf m 3 (-w)) [(0, w)] := by
  have y97 := fun (Q : Ds → Mm → List MV → Prop) => e97 (tl := tl) (Q := Q) (s := s) S
  rw [hn] at y97
  simp only [p79_0, p79_1, p79_2, p79_5, p79_6, p79_7, p79_10, p79_11, p79_12, p79_13, p79_16, p79_19, p79_20, e96n S h, y97, e95 S (show -7 ≤ w ∧ w ≤ -1 by omega), K_0, K_3, L_3, sh_0_0 S, sh_0_1 S, sh_0_2 S, sh_0_3 S, sh_0_4 S, sh_0_5 S, sh_0_7 S, sh_0_8 S, sh_0_10 S, sh_0_12 S, sh_0_14 S, sh_0_15 S, b2_T, b2_F, Int.reduceEq, Int.reduceLT, Int.reduceLE, Int.reduceAdd, Int.reduceSub, Int.reduceMul, Int.reduceNeg, reduceIte, if_true, if_false, true_or, or_true, false_or, or_false, false_and, and_false, eq_self, not_false_eq_true, not_true_eq_false, true_and, and_true, List.cons_append, List.nil_append, List.append_nil, b2_0, b2_1, b2_01, Classical.not_not]
theorem e152n (S : Sh m) (hw : w = -1 ∨ w = -2 ∨ w = -3) (hr : rlA m s = w) : WP 152 0 [(2, 70), (0, s), (3, 0), (3, 0), (3, 0)] [] (dsB ++ tl) m Q = Q (dsB ++ tl) (rf m 71 (-w)) [(0, w)] := by
  have y141 := fun (Q : Ds → Mm → List MV → Prop) => e141 (tl := tl) (Q := Q) (s := s) S
  rw [hr] at y141
  have w0 : ¬ w = 0 := by omega
  simp only [p152_0, p152_1, p152_2, p152_5, p152_6, p152_7, p152_10, p152_11, p152_12, p152_15, p152_16, y141, e121 S (show -7 ≤ w ∧ w ≤ -1 by omega), K_70, w0, b2_T, b2_F, Int.reduceEq, Int.reduceLT, Int.reduceLE, Int.reduceAdd, Int.reduceSub, Int.reduceMul, Int.reduceNeg, reduceIte, if_true, if_false, true_or, or_true, false_or, or_false, false_and, and_false, eq_self, not_false_eq_true, not_true_eq_false, true_and, and_true, List.cons_append, List.nil_append, List.append_nil, b2_0, b2_1, b2_01, Classical.not_not]
theorem e152s (S : Sh m) (hs : isH s) (hr : rlA m s = 0) (h81 : m 81 s = nn) (hn : 0 ≤ nn ∧ nn ≤ 100) : WP 152 0 [(2, 70), (0, s), (3, 0), (3, 0), (3, 0)] [] (dsB ++ tl) m Q = WP 152 42 [(2, 70), (0, s), (0, 0), (0, if nn % 4 = 0 then 1 else 0), (0, 0)] [] (dsB ++ tl) (mSav m 8) Q := by
  have y141 := fun (Q : Ds → Mm → List MV → Prop) => e141 (tl := tl) (Q := Q) (s := s) S
  rw [hr] at y141
  have S1 : Sh (mSav m 8) := mSav_Sh S
  have k81 : mSav m 8 81 s = nn := (mSav_f (by omega) (by omega)).trans h81
  have j1 : jrem nn 4 = nn % 4 := jrem_nn (by omega) (by omega) (by omega) (by omega)
  by_cases h4 : nn % 4 = 0
  · rw [if_pos h4]
    simp only [p152_0, p152_1, p152_2, p152_5, p152_6, p152_7, p152_10, p152_11, p152_12, p152_15, p152_16, p152_17, p152_19, p152_22, p152_23, p152_26, p152_27, p152_28, p152_29, p152_30, p152_33, p152_34, p152_37, p152_38, p152_39, p152_40, y141, e149 S (show 0 ≤ (8 : Int) ∧ (8 : Int) ≤ 8 by decide), K_70, K_81, L_81, sh_70_12 S1, hs.1, hs.2, k81, j1, h4, b2_T, b2_F, Int.reduceEq, Int.reduceLT, Int.reduceLE, Int.reduceAdd, Int.reduceSub, Int.reduceMul, Int.reduceNeg, reduceIte, if_true, if_false, true_or, or_true, false_or, or_false, false_and, and_false, eq_self, not_false_eq_true, not_true_eq_false, true_and, and_true, List.cons_append, List.nil_append, List.append_nil, b2_0, b2_1, b2_01, Classical.not_not]
  · rw [if_neg h4]
    simp only [p152_0, p152_1, p152_2, p152_5, p152_6, p152_7, p152_10, p152_11, p152_12, p152_15, p152_16, p152_17, p152_19, p152_22, p152_23, p152_26, p152_27, p152_28, p152_29, p152_30, p152_33, p152_34, p152_37, p152_38, p152_39, p152_40, y141, e149 S (show 0 ≤ (8 : Int) ∧ (8 : Int) ≤ 8 by decide), K_70, K_81, L_81, sh_70_12 S1, hs.1, hs.2, k81, j1, h4, b2_T, b2_F, Int.reduceEq, Int.reduceLT, Int.reduceLE, Int.reduceAdd, Int.reduceSub, Int.reduceMul, Int.reduceNeg, reduceIte, if_true, if_false, true_or, or_true, false_or, or_false, false_and, and_false, eq_self, not_false_eq_true, not_true_eq_false, true_and, and_true, List.cons_append, List.nil_append, List.append_nil, b2_0, b2_1, b2_01, Classical.not_not]
theorem e152f {u : MV} (S : Sh Y) : WP 152 102 [(2, 70), (0, s), (0, 0), (0, 0), u] [] (dsB ++ tl) Y Q = Q (dsB ++ tl) (rf (mLod Y 8) 71 6) [(0, -6)] := by
  have S1 : Sh (mLod Y 8) := mLod_Sh S
  simp only [p152_102, p152_103, p152_106, p152_107, p152_109, p152_112, p152_113, p152_115, p152_118, e150 S (show 0 ≤ (8 : Int) ∧ (8 : Int) ≤ 8 by decide), e121 S1 (show -7 ≤ (-6 : Int) ∧ (-6 : Int) ≤ -1 by decide), K_70, b2_T, b2_F, Int.reduceEq, Int.reduceLT, Int.reduceLE, Int.reduceAdd, Int.reduceSub, Int.reduceMul, Int.reduceNeg, reduceIte, if_true, if_false, true_or, or_true, false_or, or_false, false_and, and_false, eq_self, not_false_eq_true, not_true_eq_false, true_and, and_true, List.cons_append, List.nil_append, List.append_nil, b2_0, b2_1, b2_01, Classical.not_not]
theorem e152t {u : MV} (S : Sh Y) (hs : isH s) (h81 : Y 81 s = nn) (hn : 0 ≤ nn ∧ nn ≤ 100) : WP 152 102 [(2, 70), (0, s), (0, 0), (0, 1), u] [] (dsB ++ tl) Y Q = Q (dsB ++ tl) Y [(0, nn / 4)] := by
  have j2 : jdiv nn 4 = nn / 4 := jdiv_nn (by omega) (by omega) (by omega) (by omega)
  simp only [p152_102, p152_103, p152_106, p152_107, p152_109, p152_112, p152_113, p152_115, p152_118, p152_119, p152_120, p152_123, p152_124, p152_125, p152_126, p152_127, K_70, K_81, L_81, sh_70_12 S, hs.1, hs.2, h81, j2, b2_T, b2_F, Int.reduceEq, Int.reduceLT, Int.reduceLE, Int.reduceAdd, Int.reduceSub, Int.reduceMul, Int.reduceNeg, reduceIte, if_true, if_false, true_or, or_true, false_or, or_false, false_and, and_false, eq_self, not_false_eq_true, not_true_eq_false, true_and, and_true, List.cons_append, List.nil_append, List.append_nil, b2_0, b2_1, b2_01, Classical.not_not]
/-- a puts that is refused behind its savings -/
theorem puts_no (J : JS ds m m n) (D : ∃ tl, ds = dsB ++ tl) (SX : Sh X) (F : ∀ x j, ¬ (18 ≤ x ∧ x ≤ 26) → X x j = m x j) (hA : ∀ Q, WP 79 0 [(2, 0), (0, s), (3, 0), (3, 0), (3, 0)] [] ds m Q = Q ds (rf X 3 6) [(0, -6)]) (SY : Sh Y) (FY : ∀ x j, ¬ (72 ≤ x ∧ x ≤ 76) → Y x j = mSav (rf X 3 6) 8 x j) (hB : ∀ Q, WP 152 0 [(2, 70), (0, s), (3, 0), (3, 0), (3, 0)] [] ds (rf X 3 6) Q = Q ds (rf (mLod Y 8) 71 6) [(0, -6)]) : CALL 79 152 [(2, 0), (0, s), (3, 0), (3, 0), (3, 0)] [(2, 70), (0, s), (3, 0), (3, 0), (3, 0)] ds m n := by
  have S1 : Sh (rf X 3 6) := Sh_ar SX (by decide)
  have f1 : ∀ x j, ¬ x = 3 → rf X 3 6 x j = X x j := fun x j h => by rw [rf_at, if_neg (fun y => h y.1)]
  have fm : ∀ x j, 70 ≤ x → x ≤ 113 → rf X 3 6 x j = m x j := fun x j a0 a1 => (f1 x j (by omega)).trans (F x j (by omega))
  have fZ : ∀ x j, ¬ (72 ≤ x ∧ x ≤ 79) → ¬ (x = 70 ∧ j = 6) → ¬ (x = 84 ∧ 3840 ≤ j) → ¬ (x = 85 ∧ 104 ≤ j) → mLod Y 8 x j = rf X 3 6 x j := fun x j a0 a1 a2 a3 => by
    rw [mLod_f a0 a1, FY x j (by omega), mSav_f (by omega) (by omega)]
  have SZ : Sh (mLod Y 8) := mLod_Sh SY
  have e8 : pG Y 8 = pG (mSav (rf X 3 6) 8) 8 := pG_cg (fun i _ _ => FY _ _ (by decide)) (fun i _ _ => FY _ _ (by decide))
  have pE : ∀ g, WG g → (∀ x j, 70 ≤ x → x ≤ 113 → rf X 3 6 x j = g x j) → PE (rf X 3 6) (mLod Y 8) := fun g W hg => by
    have E1 : PE (rf X 3 6) (pG Y 8) := by
      rw [e8]
      refine PE_sav (fun c hc => ?_) ?_
      · rw [hg _ _ (by decide) (by decide)]; exact (W.p c hc).l
      · rw [hg _ _ (by decide) (by decide)]; exact W.v.n.2
    refine PE_tr E1 (PE_lod ?_)
    rw [E1.s, hg _ _ (by decide) (by decide)]
    exact W.v.n.2
  obtain ⟨Z, hZ⟩ : ∃ Z, Z = mLod Y 8 := ⟨_, rfl⟩
  rw [← hZ] at fZ SZ pE hB
  refine CALL_of (v := (0, -6)) (X := rf X 3 6) (Z := rf Z 71 6) J hA (fun x j h => (f1 x j (by omega)).trans (F x j (by omega))) S1 (fun J1 => ?_) hB (fun x j h => by rw [rf_at, if_neg (by omega)]; exact fZ x j (by omega) (by omega) (by omega) (by omega))
  have E := pE (rf X 3 6) J1.W (fun _ _ _ _ => rfl)
  have J2 : JS ds X Z n := JS_pl0 J1 ⟨SZ, PV_pe J1.W.p E, SV_pe J1.W.v E, PN_pe J1.W.n E⟩ SX (PR_pe (PR_m J1.P (fun x j a0 a1 => F x j (by omega))) E) (ZP_cg J1.Z (fun x j a0 a1 => F x j (by omega))) (fun x j h => F x j (by omega)) fZ
  exact JS_rf J2 (by decide)
theorem call_puts (J : JS ds m m n) : CALL 79 152 [(2, 0), (0, s), (3, 0), (3, 0), (3, 0)] [(2, 70), (0, s), (3, 0), (3, 0), (3, 0)] ds m n := by
  obtain ⟨tl, rfl⟩ := J.Dt
  have S := J.S
  rcases SK_row J.Hv s with ⟨hs, R⟩ | ⟨h0, w, hw, hn, hr⟩
  · have zz := R.z
    have l := R.l
    obtain ⟨nn, hnn⟩ : ∃ nn, nn = m 81 s := ⟨_, rfl⟩
    have r := R.r
    have rl := rlA_row hs R
    rw [← hnn] at zz r
    have rlg : ∀ g : Mm, (∀ j, g 80 j = m 80 j) → rlA g s = 0 := fun g hg => by
      unfold rlA
      rw [hg]
      exact rl
    by_cases h4 : nn % 4 = 0
    · obtain ⟨E, hE⟩ : ∃ E : Int → Int, ∀ k, E k = ji (m 82 (100 * s + k)) := ⟨fun k => ji (m 82 (100 * s + k)), fun _ => rfl⟩
      have hEm : ∀ k, 0 ≤ k → k < nn → ji (m (m 1 s + 1) k) = E k := fun k k0 k1 => by
        rw [hE, R.e k k0 (by omega)]
      have key := fun (g : Mm) (W : WG g) (P : PR m 9 g) => e79g (s := s) (E := E) hs S W P J.Z r rfl zz R.a l hEm h4
      -- what the class leaves serves as the reference's memory
      have fin : ∀ X, (∀ x j, 70 ≤ x → x ≤ 113 → X x j = m x j) → Sh X → WG (mSav X 8) ∧ PR m 9 (mSav X 8) := fun X fX SX => by
        have WX : WG X := WG_rf J.W SX fX
        have E1 : PE X (mSav X 8) := PE_cg (fun x j a0 a1 => mSav_f (by omega) (by omega)) (mSav_f (by omega) (by omega))
        exact ⟨WG_pe WX E1 (mSav_Sh SX), PR_pe (PR_pe J.P (PE_cg (fun x j a0 a1 => fX x j (by omega) (by omega)) (fX _ _ (by decide) (by decide)))) E1⟩
      have refl : ∀ X, (∀ x j, 70 ≤ x → x ≤ 113 → X x j = m x j) → Sh X → (∃ Y', psG E (nn / 4).toNat 0 (mSav X 8) = some Y' ∧ WG Y' ∧ (∀ x j, ¬ (72 ≤ x ∧ x ≤ 76) → Y' x j = mSav X 8 x j) ∧ ∀ Q, WP 152 0 [(2, 70), (0, s), (3, 0), (3, 0), (3, 0)] [] (dsB ++ tl) X Q = Q (dsB ++ tl) Y' [(0, nn / 4)]) ∨ (psG E (nn / 4).toNat 0 (mSav X 8) = none ∧ ∃ Y', Sh Y' ∧ (∀ x j, ¬ (72 ≤ x ∧ x ≤ 76) → Y' x j = mSav X 8 x j) ∧ ∀ Q, WP 152 0 [(2, 70), (0, s), (3, 0), (3, 0), (3, 0)] [] (dsB ++ tl) X Q = Q (dsB ++ tl) (rf (mLod Y' 8) 71 6) [(0, -6)]) := fun X fX SX => by
        have k81 : X 81 s = nn := (fX _ _ (by decide) (by decide)).trans hnn.symm
        have k81' : mSav X 8 81 s = nn := (mSav_f (by omega) (by omega)).trans k81
        have hE2 : ∀ k, 0 ≤ k → k < nn → ji (mSav X 8 82 (100 * s + k)) = E k := fun k _ _ => by
          rw [hE, mSav_f (by omega) (by omega), fX _ _ (by decide) (by decide)]
        have st := fun (Q : Ds → Mm → List MV → Prop) => e152s (tl := tl) (Q := Q) SX hs (rlg X (fun j => fX _ _ (by decide) (by decide))) k81 zz
        simp only [if_pos h4] at st
        rcases e152l (tl := tl) (G := mSav X 8) (E := E) hs zz k81' hE2 (nn / 4).toNat 0 (mSav X 8) (by omega) (by omega) (fin X fX SX).1 (fun _ _ _ => rfl) with ⟨Y', a1, a2, a3, a4⟩ | ⟨a1, Y', u, a2, a3, a4⟩
        · exact Or.inl ⟨Y', a1, a2, a3, fun Q => (st Q).trans ((a4 Q).trans (e152t a2.S hs ((a3 81 s (by decide)).trans k81') zz))⟩
        · exact Or.inr ⟨a1, Y', a2, a3, fun Q => (st Q).trans ((a4 Q).trans (e152f a2))⟩
      rcases key m J.W J.P with ⟨X, _, _, _, a3, _, a5, a6, a7⟩ | ⟨_, X, a2, a3, a4⟩
      · have fX : ∀ x j, 70 ≤ x → x ≤ 113 → X x j = m x j := fun x j b0 b1 => a6 x j (by omega)
        obtain ⟨W8, P8⟩ := fin X fX a3
        rcases key (mSav X 8) W8 P8 with ⟨X2, g2, c1, c2, c3, c4, c5, c6, c7⟩ | ⟨_, X2, _, _, c4⟩
        · have e2 : X = X2 := by
            have y := (c7 (fun _ q _ => q = X2)).symm.trans (a7 (fun _ q _ => q = X2))
            exact y.mp rfl
          rw [← e2] at c4
          rcases refl X fX a3 with ⟨Y', d1, d2, d3, d4⟩ | ⟨d1, _⟩
          · have eg : g2 = Y' := by
              rw [c1] at d1
              exact Option.some.inj d1
            rw [eg] at c4
            refine CALL_pl (v := (0, nn / 4)) (X := X) (Z := Y') J a7 a3 (fun x j h => a6 x j h) d4 (fun x j b0 b1 b2 b3 => (d3 x j (by omega)).trans (mSav_f (by omega) (by omega))) (fun J1 => ⟨d2, c4, a5⟩)
          · rw [c1] at d1
            cases d1
        · have y := (c4 (fun _ _ v => v = [(0, -6)])).symm.trans (a7 (fun _ _ v => v = [(0, -6)]))
          have y2 : [(0, nn / 4)] = [((0 : Nat), (-6 : Int))] := y.mp rfl
          have y3 : nn / 4 = -6 := congrArg (fun u : List MV => (u.headD (0, 0)).2) y2
          omega
      · have S1 : Sh (rf X 3 6) := Sh_ar a2 (by decide)
        have fX : ∀ x j, 70 ≤ x → x ≤ 113 → rf X 3 6 x j = m x j := fun x j b0 b1 => by
          rw [rf_at, if_neg (by omega)]
          exact a3 x j (by omega)
        obtain ⟨W8, P8⟩ := fin (rf X 3 6) fX S1
        rcases key (mSav (rf X 3 6) 8) W8 P8 with ⟨X2, g2, c1, c2, c3, c4', c5, c6, c7⟩ | ⟨c1, X2, _, _, c4⟩
        · have y := (c7 (fun _ _ v => v = [(0, nn / 4)])).symm.trans (a4 (fun _ _ v => v = [(0, nn / 4)]))
          have y2 : [((0 : Nat), (-6 : Int))] = [(0, nn / 4)] := y.mp rfl
          have y3 : (-6 : Int) = nn / 4 := congrArg (fun u : List MV => (u.headD (0, 0)).2) y2
          omega
        · rcases refl (rf X 3 6) fX S1 with ⟨Y', d1, _⟩ | ⟨_, Y', d2, d3, d4⟩
          · rw [c1] at d1
            cases d1
          · exact puts_no J ⟨tl, rfl⟩ a2 a3 a4 d2 d3 d4
    · have hA := fun (Q : Ds → Mm → List MV → Prop) => e79b (Q := Q) hs S r rfl zz l h4
      have S1 : Sh (rf m 3 6) := Sh_ar S (by decide)
      have f1 : ∀ x j, ¬ x = 3 → rf m 3 6 x j = m x j := fun x j h => by rw [rf_at, if_neg (fun y => h y.1)]
      have k81 : rf m 3 6 81 s = nn := (f1 _ _ (by decide)).trans hnn.symm
      have k81' : mSav (rf m 3 6) 8 81 s = nn := (mSav_f (by omega) (by omega)).trans k81
      have st := fun (Q : Ds → Mm → List MV → Prop) => e152s (tl := tl) (Q := Q) S1 hs (rlg _ (fun j => f1 _ _ (by decide))) k81 zz
      simp only [if_neg h4] at st
      refine puts_no J ⟨tl, rfl⟩ S (fun _ _ _ => rfl) hA (mSav_Sh S1) (fun _ _ _ => rfl) (fun Q => (st Q).trans ?_)
      rw [p152_42]
      simp only [p152_43, b2_T, b2_F, Int.reduceEq, Int.reduceLT, Int.reduceLE, Int.reduceAdd, Int.reduceSub, Int.reduceMul, Int.reduceNeg, reduceIte, if_true, if_false, true_or, or_true, false_or, or_false, false_and, and_false, eq_self, not_false_eq_true, not_true_eq_false, true_and, and_true, List.cons_append, List.nil_append, List.append_nil, b2_0, b2_1, b2_01, Classical.not_not]
      exact e152f (mSav_Sh S1)
  · exact CALL_nr J hw hn hr (fun hn Q => e79n S h0 hw hn) (fun g Sg hg Q => e152n Sg hw hg)
end PUTS2
