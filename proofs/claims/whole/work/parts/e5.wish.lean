/-! the wishes' calls, both sides -/
section CALLS6
variable {tl : Ds} {ds ds' : Ds} {m X Y Z X' Y' g h A B : Mm} {Q : Ds → Mm → List MV → Prop} {p q c k a b s o v i j d n w t f bell tick : Int} {M M' : Nat} {as as' : List MV}
theorem e88g (S : Sh m) (W : WG g) (P : PR m 9 g) : ∃ m', Sh m' ∧ FW m m' 52 ∧ ∀ (tl : Ds) (Q : Ds → Mm → List MV → Prop), WP 88 0 [(2, 0), (0, bell), (0, tick)] [] (dsB ++ tl) m Q = Q (dsB ++ tl) m' [(0, b2 (MT g bell tick))] := by
  obtain ⟨m1, s1, f1, _, h1⟩ := c51_52 (m := m) (g := g) (w := 1) (p := 9) (Or.inl rfl) bell tick S W.S P W.p W.v (by decide)
  refine ⟨m1, s1, f1, fun tl Q => ?_⟩
  have e := fun (Q : Ds → Mm → List MV → Prop) => h1 tl Q
  by_cases hm : metP (mRuns g 1 103 (96 * 1 + bell)) bell tick
  · simp only [b2_t hm] at e ⊢
    simp only [p88_0, p88_1, p88_4, p88_5, p88_8, p88_9, p88_10, p88_13, K_0, sh_0_0 S, sh_0_5 S, K_52, e, b2_T, b2_F, Int.reduceEq, Int.reduceLT, Int.reduceLE, Int.reduceAdd, Int.reduceSub, Int.reduceMul, Int.reduceNeg, reduceIte, if_true, if_false, true_or, or_true, false_or, or_false, false_and, and_false, eq_self, not_false_eq_true, not_true_eq_false, true_and, and_true, List.cons_append, List.nil_append, List.append_nil, b2_0, b2_1, b2_01, Classical.not_not]
  · simp only [b2_f hm] at e ⊢
    simp only [p88_0, p88_1, p88_4, p88_5, p88_8, p88_9, p88_10, p88_13, K_0, sh_0_0 S, sh_0_5 S, K_52, e, b2_T, b2_F, Int.reduceEq, Int.reduceLT, Int.reduceLE, Int.reduceAdd, Int.reduceSub, Int.reduceMul, Int.reduceNeg, reduceIte, if_true, if_false, true_or, or_true, false_or, or_false, false_and, and_false, eq_self, not_false_eq_true, not_true_eq_false, true_and, and_true, List.cons_append, List.nil_append, List.append_nil, b2_0, b2_1, b2_01, Classical.not_not]
theorem e89g (S : Sh m) (W : WG g) (P : PR m 9 g) : ∃ X, Sh X ∧ FC m X 4 9 ∧ (LSq X 4 (X 0 9) (if MT g bell tick then wkR g bell tick 384 else (0, fun _ => 0))) ∧ ∀ (tl : Ds) (Q : Ds → Mm → List MV → Prop), WP 89 0 [(2, 0), (0, bell), (0, tick), (3, 0), (3, 0), (3, 0)] [] (dsB ++ tl) m Q = Q (dsB ++ tl) X [(0, if MT g bell tick then X 0 9 else -1)] := by
  have S0 : Sh (up m 0 9 0) := Sh.up S (by decide)
  have P0 : PR (up m 0 9 0) 9 g := PR_m P (fun x j h1 h2 => by rw [up_at, if_neg (by omega)])
  obtain ⟨m1, S1, F1, _, h1⟩ := c51_52 (m := up m 0 9 0) (g := g) (w := 1) (p := 9) (Or.inl rfl) bell tick S0 W.S P0 W.p W.v (by decide)
  have f1 : FC m m1 4 9 := by
    intro x j a b c d
    rw [F1 x j (by omega) (by omega), up_at, if_neg d]
  have c9 : m1 0 9 = 0 := by
    rw [F1 0 9 (by decide) (by decide)]
    simp only [up_at, b2_T, b2_F, Int.reduceEq, Int.reduceLT, Int.reduceLE, Int.reduceAdd, Int.reduceSub, Int.reduceMul, Int.reduceNeg, reduceIte, if_true, if_false, true_or, or_true, false_or, or_false, false_and, and_false, eq_self, not_false_eq_true, not_true_eq_false, true_and, and_true, List.cons_append, List.nil_append, List.append_nil, b2_0, b2_1, b2_01, Classical.not_not]
  by_cases hT : MT g bell tick
  · obtain ⟨X, S2, F2, L2, h2⟩ := frag_l (bell := bell) (tick := tick) W 96 0 m1 (by omega) S1 (PR_FC P f1 (by decide)) ⟨c9, fun i i0 i1 => absurd i1 (by show ¬ i < 0; omega)⟩
    refine ⟨X, S2, FC_tr f1 F2, by rw [if_pos hT]; exact L2, fun tl Q => ?_⟩
    have y51 := h1 tl
    simp only [b2_t hT] at y51
    have y2 := h2 tl Q (3, 0) (3, 0) (Or.inr rfl)
    have n0 : ((0 : Nat) : Int) = 0 := rfl
    rw [n0] at y2
    rw [if_pos hT, ← y2]
    simp only [p89_0, p89_1, p89_2, p89_5, p89_6, p89_9, p89_10, p89_13, p89_14, p89_15, p89_18, p89_21, p89_22, p89_23, p89_24, K_0, K_52, sh_0_0 S0, sh_0_5 S0, y51, b2_T, b2_F, Int.reduceEq, Int.reduceLT, Int.reduceLE, Int.reduceAdd, Int.reduceSub, Int.reduceMul, Int.reduceNeg, reduceIte, if_true, if_false, true_or, or_true, false_or, or_false, false_and, and_false, eq_self, not_false_eq_true, not_true_eq_false, true_and, and_true, List.cons_append, List.nil_append, List.append_nil, b2_0, b2_1, b2_01, Classical.not_not]
  · refine ⟨m1, S1, f1, by rw [if_neg hT]; exact ⟨c9, fun i i0 i1 => absurd i1 (by show ¬ i < 0; omega)⟩, fun tl Q => ?_⟩
    have y51 := h1 tl
    simp only [b2_f hT] at y51
    rw [if_neg hT]
    simp only [p89_0, p89_1, p89_2, p89_5, p89_6, p89_9, p89_10, p89_13, p89_14, p89_15, p89_18, p89_21, p89_22, p89_23, p89_24, K_0, K_52, sh_0_0 S0, sh_0_5 S0, y51, b2_T, b2_F, Int.reduceEq, Int.reduceLT, Int.reduceLE, Int.reduceAdd, Int.reduceSub, Int.reduceMul, Int.reduceNeg, reduceIte, if_true, if_false, true_or, or_true, false_or, or_false, false_and, and_false, eq_self, not_false_eq_true, not_true_eq_false, true_and, and_true, List.cons_append, List.nil_append, List.append_nil, b2_0, b2_1, b2_01, Classical.not_not]
theorem e91g (S : Sh m) (W : WG g) (P : PR m 9 g) (hc : isC c) (h6 : g 72 c = 0 ∧ g 76 c = 0) : ∃ X, Sh X ∧ FC m X 5 11 ∧ (LSq X 5 (X 0 11) (if isC bell ∧ g 72 bell = 8 then ftR g c bell tick 1440 else (0, fun _ => 0))) ∧ ∀ (tl : Ds) (Q : Ds → Mm → List MV → Prop), WP 91 0 [(2, 0), (0, c), (0, bell), (0, tick), (3, 0), (3, 0), (3, 0)] [] (dsB ++ tl) m Q = Q (dsB ++ tl) X [(0, X 0 11)] := by
  have S0 : Sh (up m 0 11 0) := Sh.up S (by decide)
  have P0 : PR (up m 0 11 0) 9 g := PR_m P (fun x j h1 h2 => by rw [up_at, if_neg (by omega)])
  have f0 : FC m (up m 0 11 0) 5 11 := fun x j y1 y2 y3 y4 => by rw [up_at, if_neg y4]
  have z11 : up m 0 11 0 0 11 = 0 := by simp only [up_at, b2_T, b2_F, Int.reduceEq, Int.reduceLT, Int.reduceLE, Int.reduceAdd, Int.reduceSub, Int.reduceMul, Int.reduceNeg, reduceIte, if_true, if_false, true_or, or_true, false_or, or_false, false_and, and_false, eq_self, not_false_eq_true, not_true_eq_false, true_and, and_true, List.cons_append, List.nil_append, List.append_nil, b2_0, b2_1, b2_01, Classical.not_not]
  have kc := P.k c hc
  have bc := P.b c hc
  simp only [Int.reduceAdd] at kc bc
  have y29 : (0 ≤ c ∧ c < 96) ∧ m 10 c = 0 ∧ m 14 c = 0 := ⟨hc, by rw [kc]; exact h6.1, by rw [bc]; exact h6.2⟩
  have e29' := fun (tl : Ds) (Q : Ds → Mm → List MV → Prop) => e29 (c := c) (Q := Q) (PA_9 (tl := tl) S)
  simp only [Int.reduceAdd, b2_t y29] at e29'
  have e24' := fun (tl : Ds) (Q : Ds → Mm → List MV → Prop) => e24 (c := bell) (Q := Q) (PA_9 (tl := tl) S0)
  simp only [Int.reduceAdd] at e24'
  have k10 : up m 0 11 0 10 bell = m 10 bell := rfl
  by_cases h8 : isC bell ∧ g 72 bell = 8
  · have kb := P.k bell h8.1
    simp only [Int.reduceAdd] at kb
    have S1 := Sh_bec S0
    have P1 : PR (bec (up m 0 11 0) 18 9) 18 g := PR_bec P0 W.v
    have f1 : FC m (bec (up m 0 11 0) 18 9) 5 11 := FC_tr f0 (FC_18 (fun x j h => bec_f (by omega)))
    have c11 : bec (up m 0 11 0) 18 9 0 11 = 0 := by rw [bec_f (by decide)]; exact z11
    have i0 : ix 1 0 0 = 0 := rfl
    obtain ⟨X, S2, F2, L2, h2⟩ := fit_k (bell := bell) (tick := tick) W hc h6 9 1 (bec (up m 0 11 0) 18 9) (by decide) (by decide) S1 P1 (by rw [i0]; exact ⟨c11, fun i i0 i1 => absurd i1 (by show ¬ i < 0; omega)⟩)
    have e23' := fun (tl : Ds) (Q : Ds → Mm → List MV → Prop) => e23 (Q := Q) (PA_18 (tl := tl) S0) (PA_9 (tl := tl) S0) (Or.inr (by decide)) (fun d d0 d1 => by
      have := P0.b d ⟨d0, d1⟩
      rw [this]
      exact (W.p d ⟨d0, d1⟩).l)
    simp only [if_pos h8.1, k10, kb, h8.2] at e24'
    refine ⟨X, S2, FC_tr f1 F2, by rw [if_pos h8]; exact L2, fun tl Q => ?_⟩
    have y29' := e29' tl
    have y24 := e24' tl
    have y23 := e23' tl
    rw [← h2 tl Q (3, 0) (3, 0) (Or.inr rfl) (Or.inr rfl)]
    simp only [p91_0, p91_1, p91_4, p91_7, p91_8, p91_9, p91_12, p91_13, p91_14, p91_17, p91_18, p91_21, p91_24, p91_25, p91_27, p91_30, p91_31, p91_32, p91_33, p91_36, p91_37, p91_40, p91_41, p91_44, p91_46, p91_49, p91_50, p91_51, p91_52, p91_55, p91_56, p91_59, p91_62, p91_63, K_0, K_9, K_18, sh_0_0 S, sh_0_0 S0, sh_0_1 S0, e107, b2_t hc, y29', y24, y23, b2_T, b2_F, Int.reduceEq, Int.reduceLT, Int.reduceLE, Int.reduceAdd, Int.reduceSub, Int.reduceMul, Int.reduceNeg, reduceIte, if_true, if_false, true_or, or_true, false_or, or_false, false_and, and_false, eq_self, not_false_eq_true, not_true_eq_false, true_and, and_true, List.cons_append, List.nil_append, List.append_nil, b2_0, b2_1, b2_01, Classical.not_not]
  · refine ⟨up m 0 11 0, S0, f0, by rw [if_neg h8]; exact ⟨z11, fun i i0 i1 => absurd i1 (by show ¬ i < 0; omega)⟩, fun tl Q => ?_⟩
    have y29' := e29' tl
    have y24 := e24' tl
    have nk : ¬ (if 0 ≤ bell ∧ bell < 96 then up m 0 11 0 10 bell else 0) = 8 := by
      by_cases hb : isC bell
      · rw [if_pos hb, k10]
        have kb := P.k bell hb
        simp only [Int.reduceAdd] at kb
        rw [kb]
        exact fun y => h8 ⟨hb, y⟩
      · rw [if_neg hb]
        decide
    rw [z11]
    generalize (if 0 ≤ bell ∧ bell < 96 then up m 0 11 0 10 bell else 0) = kk at y24 nk
    simp only [p91_0, p91_1, p91_4, p91_7, p91_8, p91_9, p91_12, p91_13, p91_14, p91_17, p91_18, p91_21, p91_24, p91_25, p91_27, p91_30, p91_31, p91_32, p91_33, p91_36, p91_37, p91_40, p91_41, p91_44, p91_46, p91_49, p91_50, K_0, K_9, sh_0_0 S, sh_0_0 S0, e107, b2_t hc, y29', y24, nk, b2_T, b2_F, Int.reduceEq, Int.reduceLT, Int.reduceLE, Int.reduceAdd, Int.reduceSub, Int.reduceMul, Int.reduceNeg, reduceIte, if_true, if_false, true_or, or_true, false_or, or_false, false_and, and_false, eq_self, not_false_eq_true, not_true_eq_false, true_and, and_true, List.cons_append, List.nil_append, List.append_nil, b2_0, b2_1, b2_01, Classical.not_not]
theorem e93g (S : Sh m) (W : WG g) (P : PR m 9 g) : ∃ X, Sh X ∧ FC3 m X ∧ LSq X 6 (X 0 13) (fwR g bell tick).2 ∧ ∀ (tl : Ds) (Q : Ds → Mm → List MV → Prop), WP 93 0 [(2, 0), (0, bell), (0, tick), (3, 0), (3, 0), (3, 0)] [] (dsB ++ tl) m Q = Q (dsB ++ tl) X [(0, (fwR g bell tick).1)] := by
  have S0 : Sh (up m 0 13 0) := Sh.up S (by decide)
  have P0 : PR (up m 0 13 0) 9 g := PR_m P (fun x j h1 h2 => by rw [up_at, if_neg (by omega)])
  have f0 : FC3 m (up m 0 13 0) := fun x j y1 y2 y3 y4 => by rw [up_at, if_neg y4]
  have z13 : up m 0 13 0 0 13 = 0 := by simp only [up_at, b2_T, b2_F, Int.reduceEq, Int.reduceLT, Int.reduceLE, Int.reduceAdd, Int.reduceSub, Int.reduceMul, Int.reduceNeg, reduceIte, if_true, if_false, true_or, or_true, false_or, or_false, false_and, and_false, eq_self, not_false_eq_true, not_true_eq_false, true_and, and_true, List.cons_append, List.nil_append, List.append_nil, b2_0, b2_1, b2_01, Classical.not_not]
  have e24' := fun (tl : Ds) (Q : Ds → Mm → List MV → Prop) => e24 (c := bell) (Q := Q) (PA_9 (tl := tl) S0)
  simp only [Int.reduceAdd] at e24'
  have k10 : up m 0 13 0 10 bell = m 10 bell := rfl
  by_cases h8 : isC bell ∧ g 72 bell = 8
  · have kb := P.k bell h8.1
    simp only [Int.reduceAdd] at kb
    simp only [if_pos h8.1, k10, kb, h8.2] at e24'
    have S1 := Sh_bec S0
    have P1 : PR (bec (up m 0 13 0) 18 9) 18 g := PR_bec P0 W.v
    have f1 : FT (up m 0 13 0) (bec (up m 0 13 0) 18 9) := FT_18 (fun x j h => bec_f (by omega))
    have e23' := fun (tl : Ds) (Q : Ds → Mm → List MV → Prop) => e23 (Q := Q) (PA_18 (tl := tl) S0) (PA_9 (tl := tl) S0) (Or.inr (by decide)) (fun d d0 d1 => by
      have := P0.b d ⟨d0, d1⟩
      rw [this]
      exact (W.p d ⟨d0, d1⟩).l)
    obtain ⟨X2, S2, P2, F2, L2, h2⟩ := e101 (bell := bell) (tick := tick) (A := 7) W S1 P1 (Or.inl rfl)
    have fX2 : FC3 m X2 := FC3_tr (FC3_tr f0 (FC3_T f1)) (FC3_L F2 (Or.inl rfl))
    have z2 : X2 0 13 = 0 := by
      rw [F2 0 13 (by decide) (by decide) (by decide), f1 0 13 (by decide) (by decide)]
      exact z13
    -- up to the question whether the plan meets the wish
    have run : ∀ (tl : Ds) (Q : Ds → Mm → List MV → Prop), WP 93 0 [(2, 0), (0, bell), (0, tick), (3, 0), (3, 0), (3, 0)] [] (dsB ++ tl) m Q = WP 93 41 [(2, 0), (0, bell), (0, tick), (3, 0), (3, 0), (3, 0)] [(0, b2 (MT g bell tick))] (dsB ++ tl) X2 Q := by
      intro tl Q
      have y24 := e24' tl
      have y23 := e23' tl
      have y2 := h2 tl
      generalize b2 (MT g bell tick) = bb at y2 ⊢
      simp only [p93_0, p93_1, p93_2, p93_5, p93_6, p93_9, p93_10, p93_13, p93_15, p93_18, p93_19, p93_20, p93_21, p93_24, p93_25, p93_28, p93_31, p93_32, p93_33, p93_36, p93_37, p93_38, K_0, K_9, K_18, sh_0_0 S0, sh_0_1 S0, sh_0_14 S1, y24, y23, y2, b2_T, b2_F, Int.reduceEq, Int.reduceLT, Int.reduceLE, Int.reduceAdd, Int.reduceSub, Int.reduceMul, Int.reduceNeg, reduceIte, if_true, if_false, true_or, or_true, false_or, or_false, false_and, and_false, eq_self, not_false_eq_true, not_true_eq_false, true_and, and_true, List.cons_append, List.nil_append, List.append_nil, b2_0, b2_1, b2_01, Classical.not_not]
    by_cases hm : MT g bell tick
    · have er : fwR g bell tick = (0, (0, fun _ => 0)) := by
        unfold fwR
        rw [if_pos h8]
        exact if_pos hm
      rw [er]
      refine ⟨X2, S2, fX2, ⟨z2, fun i i0 i1 => absurd i1 (by show ¬ i < 0; omega)⟩, fun tl Q => ?_⟩
      rw [run tl Q, b2_t hm]
      simp only [p93_41, p93_44, p93_45, b2_T, b2_F, Int.reduceEq, Int.reduceLT, Int.reduceLE, Int.reduceAdd, Int.reduceSub, Int.reduceMul, Int.reduceNeg, reduceIte, if_true, if_false, true_or, or_true, false_or, or_false, false_and, and_false, eq_self, not_false_eq_true, not_true_eq_false, true_and, and_true, List.cons_append, List.nil_append, List.append_nil, b2_0, b2_1, b2_01, Classical.not_not]
    · obtain ⟨X3, S3, P3, F3, h3⟩ := e102 (bell := bell) (tick := tick) (A := 7) W (Or.inl rfl) S2 P2 L2
      have fX3 : FC3 m X3 := FC3_tr fX2 (FC3_T F3)
      have z3 : X3 0 13 = 0 := by
        rw [F3 0 13 (by decide) (by decide)]
        exact z2
      have L3 : LA X3 7 g := LA_FT L2 F3 (Or.inl rfl)
      by_cases ho : FO g bell tick = -1
      · obtain ⟨X4, S4, F4, R4, h4⟩ := e93l (bell := bell) (tick := tick) W 576 0 X3 (by omega) (by omega) S3 P3 L3 z3
        have st : ∀ (tl : Ds) (Q : Ds → Mm → List MV → Prop), WP 93 0 [(2, 0), (0, bell), (0, tick), (3, 0), (3, 0), (3, 0)] [] (dsB ++ tl) m Q = WP 93 75 [(2, 0), (0, bell), (0, tick), (0, -1), (0, 0), (3, 0)] [] (dsB ++ tl) X3 Q := by
          intro tl Q
          have y3 := h3 tl
          rw [ho] at y3
          rw [run tl Q, b2_f hm]
          simp only [p93_41, p93_44, p93_45, p93_46, p93_47, p93_48, p93_51, p93_52, p93_53, p93_56, p93_57, p93_58, p93_59, p93_62, p93_63, p93_64, p93_67, p93_68, p93_71, p93_72, p93_73, K_0, sh_0_14 S2, y3, b2_T, b2_F, Int.reduceEq, Int.reduceLT, Int.reduceLE, Int.reduceAdd, Int.reduceSub, Int.reduceMul, Int.reduceNeg, reduceIte, if_true, if_false, true_or, or_true, false_or, or_false, false_and, and_false, eq_self, not_false_eq_true, not_true_eq_false, true_and, and_true, List.cons_append, List.nil_append, List.append_nil, b2_0, b2_1, b2_01, Classical.not_not]
        obtain ⟨sr, hsr⟩ : ∃ sr, sr = srch2 g bell tick 576 0 := ⟨_, rfl⟩
        rw [← hsr] at R4 h4
        by_cases h2' : sr = -1
        · have er : fwR g bell tick = (-1, (0, fun _ => 0)) := by
            unfold fwR
            rw [if_pos h8, ← hsr]
            refine (if_neg hm).trans ((if_neg (fun y => y ho)).trans (if_neg (fun y => y h2')))
          rw [er]
          rw [if_pos h2'] at R4
          refine ⟨X4, S4, FC3_tr fX3 F4, ⟨R4, fun i i0 i1 => absurd i1 (by show ¬ i < 0; omega)⟩, fun tl Q => ?_⟩
          rw [st tl Q, h4 tl Q, if_pos h2']
        · have er : fwR g bell tick = (2, (2, fun i => if i = 0 then chC sr else chC (FO (chL g sr) bell tick))) := by
            unfold fwR
            rw [if_pos h8, ← hsr]
            refine (if_neg hm).trans ((if_neg (fun y => y ho)).trans (if_pos h2'))
          rw [er]
          rw [if_neg h2'] at R4
          refine ⟨X4, S4, FC3_tr fX3 F4, ⟨R4.1, fun i i0 i1 => ?_⟩, fun tl Q => ?_⟩
          · have i1' : i < 2 := i1
            show X4 6 i = if i = 0 then chC sr else chC (FO (chL g sr) bell tick)
            have i2 : i = 0 ∨ i = 1 := by omega
            rcases i2 with rfl | rfl
            · rw [if_pos rfl]; exact R4.2.1
            · rw [if_neg (by decide)]; exact R4.2.2
          · rw [st tl Q, h4 tl Q, if_neg h2']
      · have fb := (FO_b (g := g) (bell := bell) (tick := tick)).resolve_left ho
        have er : fwR g bell tick = (1, (1, fun _ => chC (FO g bell tick))) := by
          unfold fwR
          rw [if_pos h8]
          refine (if_neg hm).trans (if_pos ho)
        rw [er]
        have b1 : 0 ≤ X3 0 13 ∧ X3 0 13 < 2 := by rw [z3]; decide
        have S4 : Sh (up (up X3 6 (X3 0 13) (chC (FO g bell tick))) 0 13 (X3 0 13 + 1)) := Sh.up (Sh_ar S3 (by decide)) (by decide)
        have y104 := fun (tl : Ds) (Q : Ds → Mm → List MV → Prop) => e104 (tl := tl) (Q := Q) S3 b1 fb
        rw [z3] at S4 y104
        refine ⟨up (up X3 6 0 (chC (FO g bell tick))) 0 13 (0 + 1), S4, ?_, ⟨?_, fun i i0 i1 => ?_⟩, fun tl Q => ?_⟩
        · intro x j a b c d
          rw [up_at, if_neg d, up_at, if_neg (fun y => c (by rw [y.1]; decide))]
          exact fX3 x j a b c d
        · simp only [up_at, b2_T, b2_F, Int.reduceEq, Int.reduceLT, Int.reduceLE, Int.reduceAdd, Int.reduceSub, Int.reduceMul, Int.reduceNeg, reduceIte, if_true, if_false, true_or, or_true, false_or, or_false, false_and, and_false, eq_self, not_false_eq_true, not_true_eq_false, true_and, and_true, List.cons_append, List.nil_append, List.append_nil, b2_0, b2_1, b2_01, Classical.not_not]
        · have i1' : i < 1 := i1
          have i2 : i = 0 := by omega
          subst i2
          show up (up X3 6 0 (chC (FO g bell tick))) 0 13 (0 + 1) 6 0 = chC (FO g bell tick)
          simp only [up_at, b2_T, b2_F, Int.reduceEq, Int.reduceLT, Int.reduceLE, Int.reduceAdd, Int.reduceSub, Int.reduceMul, Int.reduceNeg, reduceIte, if_true, if_false, true_or, or_true, false_or, or_false, false_and, and_false, eq_self, not_false_eq_true, not_true_eq_false, true_and, and_true, List.cons_append, List.nil_append, List.append_nil, b2_0, b2_1, b2_01, Classical.not_not]
        · have y3 := h3 tl
          have y5 := y104 tl
          rw [run tl Q, b2_f hm]
          generalize FO g bell tick = fo at ho y3 y5 ⊢
          simp only [Int.reduceAdd] at y5
          simp only [p93_41, p93_44, p93_45, p93_46, p93_47, p93_48, p93_51, p93_52, p93_53, p93_56, p93_57, p93_58, p93_59, p93_62, p93_63, p93_64, p93_67, p93_68, p93_71, K_0, sh_0_14 S2, y3, ho, y5, up_at, b2_T, b2_F, Int.reduceEq, Int.reduceLT, Int.reduceLE, Int.reduceAdd, Int.reduceSub, Int.reduceMul, Int.reduceNeg, reduceIte, if_true, if_false, true_or, or_true, false_or, or_false, false_and, and_false, eq_self, not_false_eq_true, not_true_eq_false, true_and, and_true, List.cons_append, List.nil_append, List.append_nil, b2_0, b2_1, b2_01, Classical.not_not]
  · have er : fwR g bell tick = (-1, (0, fun _ => 0)) := by
      unfold fwR
      exact if_neg h8
    rw [er]
    have nk : ¬ (if 0 ≤ bell ∧ bell < 96 then up m 0 13 0 10 bell else 0) = 8 := by
      by_cases hb : isC bell
      · rw [if_pos hb, k10]
        have kb := P.k bell hb
        simp only [Int.reduceAdd] at kb
        rw [kb]
        exact fun y => h8 ⟨hb, y⟩
      · rw [if_neg hb]
        decide
    refine ⟨up m 0 13 0, S0, f0, ⟨z13, fun i i0 i1 => absurd i1 (by show ¬ i < 0; omega)⟩, fun tl Q => ?_⟩
    have y24 := e24' tl
    generalize (if 0 ≤ bell ∧ bell < 96 then up m 0 13 0 10 bell else 0) = kk at y24 nk
    simp only [p93_0, p93_1, p93_2, p93_5, p93_6, p93_9, p93_10, p93_13, p93_15, p93_18, p93_19, K_0, K_9, sh_0_0 S0, y24, nk, b2_T, b2_F, Int.reduceEq, Int.reduceLT, Int.reduceLE, Int.reduceAdd, Int.reduceSub, Int.reduceMul, Int.reduceNeg, reduceIte, if_true, if_false, true_or, or_true, false_or, or_false, false_and, and_false, eq_self, not_false_eq_true, not_true_eq_false, true_and, and_true, List.cons_append, List.nil_append, List.append_nil, b2_0, b2_1, b2_01, Classical.not_not]
theorem fwR_n : 0 ≤ (fwR g bell tick).2.1 ∧ (fwR g bell tick).2.1 ≤ 2 := by
  have z0 : (0 : Int) ≤ 0 ∧ (0 : Int) ≤ 2 := by decide
  have z1 : (0 : Int) ≤ 1 ∧ (1 : Int) ≤ 2 := by decide
  have z2 : (0 : Int) ≤ 2 ∧ (2 : Int) ≤ 2 := by decide
  unfold fwR
  split
  · split
    · exact z0
    · split
      · exact z1
      · split
        · exact z2
        · exact z0
  · exact z0
theorem LSX_of {L : Int × (Int → Int)} {e r u : Int} (h1 : LSq X p e L) (h2 : LSq Y q r L) (hb : 0 ≤ L.1 ∧ L.1 ≤ u) : LSX X p e Y q r u := ⟨h1.1.trans h2.1.symm, by rw [h1.1]; exact hb, fun i i0 i1 => by
  rw [h1.1] at i1
  rw [h1.2 i i0 i1, h2.2 i i0 i1]⟩
theorem JS_w (J : JS ds A B n) (W' : WG Y') (E : PE B Y') (S' : Sh X') (f : ∀ x j, ¬ (18 ≤ x ∧ x ≤ 33) → ¬ (52 ≤ x ∧ x ≤ 69) → ¬ (4 ≤ x ∧ x ≤ 8) → ¬ (x = 0 ∧ (j = 9 ∨ j = 11 ∨ j = 13)) → X' x j = A x j) (g : ∀ x j, ¬ (72 ≤ x ∧ x ≤ 76) → ¬ (86 ≤ x ∧ x ≤ 100) → ¬ (x = 70 ∧ (j = 24 ∨ j = 25 ∨ j = 26 ∨ j = 30 ∨ j = 45 ∨ j = 47 ∨ j = 49 ∨ j = 51)) → ¬ (x = 101 ∧ 6 ≤ j) → ¬ (x = 102 ∧ 6000 ≤ j) → ¬ ((x = 103 ∨ x = 104 ∨ x = 105 ∨ x = 106 ∨ x = 109) ∧ 96 ≤ j) → ¬ (110 ≤ x ∧ x ≤ 113) → Y' x j = B x j) (l1 : LSX X' 4 (X' 0 9) Y' 110 (Y' 70 47) 384) (l2 : LSX X' 5 (X' 0 11) Y' 111 (Y' 70 49) 62) (l3 : LSX X' 6 (X' 0 13) Y' 112 (Y' 70 51) 2) : JS ds X' Y' (n + 1) := by
  refine ⟨W', S', ?_, ?_, ?_, ?_, ?_, l1, l2, l3, ?_, J.Dt, by have := J.Ln; omega, by have := J.Sl; omega⟩
  · exact PR_pe (PR_m J.P (fun x j h1 h2 => f x j (by omega) (by omega) (by omega) (by omega))) E
  · exact ZP_cg J.Z (fun x j h1 h2 => f x j (by omega) (by omega) (by omega) (by omega))
  · rw [f _ _ (by decide) (by decide) (by decide) (by decide), g _ _ (by decide) (by decide) (by decide) (by omega) (by omega) (by omega) (by decide)]
    have := J.Rn
    omega
  · intro i i0 i1
    rw [f _ _ (by decide) (by decide) (by decide) (by omega), g _ _ (by decide) (by decide) (by omega) (by omega) (by omega) (by omega) (by decide)]
    exact J.Rf i i0 i1
  · exact LT0_cg J.Lt (fun x j h1 h2 => f x j (by omega) (by omega) (by omega) (by omega)) (f _ _ (by decide) (by decide) (by decide) (by decide)) (fun j _ => g _ _ (by decide) (by decide) (by omega) (by omega) (by omega) (by omega) (by decide)) (fun j _ => g _ _ (by decide) (by decide) (by omega) (by omega) (by omega) (by omega) (by decide)) (fun x j h1 h2 _ => g _ _ (by omega) (by omega) (by omega) (by omega) (by omega) (by omega) (by omega)) (fun j => ⟨g _ _ (by decide) (by decide) (by omega) (by omega) (by omega) (by omega) (by decide), g _ _ (by decide) (by decide) (by omega) (by omega) (by omega) (by omega) (by decide)⟩)
  · exact SHV_fr J.Hv (fun x j h => f x j (by omega) (by omega) (by omega) (by omega)) (fun x j h1 h2 => g x j (by omega) (by omega) (by omega) (by omega) (by omega) (by omega) (by omega))
theorem call_met (J : JS ds m m n) : CALL 88 174 [(2, 0), (0, bell), (0, tick)] [(2, 70), (0, bell), (0, tick)] ds m n := by
  obtain ⟨tl, rfl⟩ := J.Dt
  obtain ⟨X, SX, FX, hX⟩ := e88g (bell := bell) (tick := tick) J.S J.W J.P
  have fr : ∀ x j, 70 ≤ x → x ≤ 113 → X x j = m x j := fun x j h1 h2 => FX x j (by omega) (by omega)
  have WX : WG X := WG_rf J.W SX fr
  have PX : PE m X := PE_cg (fun x j h1 h2 => fr x j (by omega) (by omega)) (fr 70 6 (by decide) (by decide))
  have det : MT m bell tick ↔ MT X bell tick := met_det J.W WX PX (by decide) (by decide)
  obtain ⟨Z, hZ⟩ : ∃ Z, Z = if isC bell ∧ X 72 bell = 8 then mRuns X 1 else X := ⟨_, rfl⟩
  have pz : WG Z ∧ PE X Z ∧ FG X Z 1 := by
    have rw' := runs_w (w := 1) WX (by decide)
    rw [hZ]
    split
    · exact rw'
    · exact ⟨WX, PE_refl, FG_refl⟩
  have hB := fun (Q : Ds → Mm → List MV → Prop) => e174 (tl := tl) (Q := Q) (bell := bell) (tick := tick) WX
  rw [← hZ] at hB
  obtain ⟨WZ, EZ, FZ⟩ := pz
  have gZ : ∀ x j, ¬ (86 ≤ x ∧ x ≤ 100) → ¬ (x = 70 ∧ (j = 24 ∨ j = 25 ∨ j = 26 ∨ j = 30 ∨ j = 45)) → ¬ (x = 101 ∧ 6 ≤ j) → ¬ (x = 102 ∧ 6000 ≤ j) → ¬ ((x = 103 ∨ x = 104 ∨ x = 105 ∨ x = 106 ∨ x = 109) ∧ 96 ≤ j) → Z x j = X x j := fun x j h1 h2 h3 h4 h5 => FZ x j h1 h2 (by omega) (by omega) (by omega)
  refine CALL_of (v := (0, b2 (MT m bell tick))) (X := X) (Z := Z) J (fun Q => hX tl Q) (fun x j h => FX x j (by omega) (by omega)) SX (fun J1 => ?_) (fun Q => by rw [b2_cg det]; exact hB Q) (fun x j h => gZ x j (by omega) (by omega) (by omega) (by omega) (by omega))
  refine JS_w J1 WZ EZ SX (fun x j h1 h2 h3 h4 => FX x j (by omega) (by omega)) (fun x j h1 h2 h3 h4 h5 h6 h7 => gZ x j h2 (by omega) h4 h5 h6) ?_ ?_ ?_
  · exact LSX_cg J1.Wk (fun i => FX _ _ (by omega) (by omega)) (fun i => gZ _ _ (by omega) (by omega) (by omega) (by omega) (by omega)) (FX _ _ (by omega) (by omega)) (gZ _ _ (by omega) (by omega) (by omega) (by omega) (by omega))
  · exact LSX_cg J1.Ft (fun i => FX _ _ (by omega) (by omega)) (fun i => gZ _ _ (by omega) (by omega) (by omega) (by omega) (by omega)) (FX _ _ (by omega) (by omega)) (gZ _ _ (by omega) (by omega) (by omega) (by omega) (by omega))
  · exact LSX_cg J1.Fw (fun i => FX _ _ (by omega) (by omega)) (fun i => gZ _ _ (by omega) (by omega) (by omega) (by omega) (by omega)) (FX _ _ (by omega) (by omega)) (gZ _ _ (by omega) (by omega) (by omega) (by omega) (by omega))
theorem call_fragile (J : JS ds m m n) : CALL 89 177 [(2, 0), (0, bell), (0, tick), (3, 0), (3, 0), (3, 0)] [(2, 70), (0, bell), (0, tick), (3, 0), (3, 0)] ds m n := by
  obtain ⟨tl, rfl⟩ := J.Dt
  obtain ⟨X, SX, FX, _, hX⟩ := e89g (bell := bell) (tick := tick) J.S J.W J.P
  have fr : ∀ x j, 70 ≤ x → x ≤ 113 → X x j = m x j := fun x j h1 h2 => FX x j (by omega) (by omega) (by omega) (by omega)
  have WX : WG X := WG_rf J.W SX fr
  have PX : PE m X := PE_cg (fun x j h1 h2 => fr x j (by omega) (by omega)) (fr 70 6 (by decide) (by decide))
  obtain ⟨X2, _, _, L2, h2⟩ := e89g (bell := bell) (tick := tick) J.S WX (PR_pe J.P PX)
  have e2X : X = X2 := by
    have y := (h2 [] (fun _ q _ => q = X2)).symm.trans (hX [] (fun _ q _ => q = X2))
    exact y.mp rfl
  rw [← e2X] at L2 h2
  obtain ⟨Z, WZ, EZ, FZ, LZ, hB⟩ := e177 (bell := bell) (tick := tick) WX
  have hl : 0 ≤ (if MT X bell tick then wkR X bell tick 384 else (0, fun _ => 0)).1 ∧ (if MT X bell tick then wkR X bell tick 384 else (0, fun _ => 0)).1 ≤ 384 := by
    split
    · exact wkR_b 384
    · decide
  have e9 : X 0 9 = Z 70 47 := L2.1.trans LZ.1.symm
  refine CALL_of (v := (0, if MT X bell tick then X 0 9 else -1)) (X := X) (Z := Z) J (fun Q => h2 tl Q) (fun x j h => FX x j (by omega) (by omega) (by omega) (by omega)) SX (fun J1 => ?_) (fun Q => by rw [e9]; exact hB tl Q) (fun x j h => FZ x j (by omega) (by omega) (by omega) (by omega) (by omega) (by omega) (by omega) (by omega))
  refine JS_w J1 WZ EZ SX (fun x j h1 h2 h3 h4 => FX x j h1 h2 (by omega) (by omega)) (fun x j h1 h2 h3 h4 h5 h6 h7 => FZ x j h1 h2 (by omega) h4 h5 h6 (by omega) (by omega)) ?_ ?_ ?_
  · exact LSX_of L2 LZ hl
  · exact LSX_cg J1.Ft (fun i => FX _ _ (by omega) (by omega) (by omega) (by omega)) (fun i => FZ _ _ (by omega) (by omega) (by omega) (by omega) (by omega) (by omega) (by omega) (by omega)) (FX _ _ (by omega) (by omega) (by omega) (by omega)) (FZ _ _ (by omega) (by omega) (by omega) (by omega) (by omega) (by omega) (by omega) (by omega))
  · exact LSX_cg J1.Fw (fun i => FX _ _ (by omega) (by omega) (by omega) (by omega)) (fun i => FZ _ _ (by omega) (by omega) (by omega) (by omega) (by omega) (by omega) (by omega) (by omega)) (FX _ _ (by omega) (by omega) (by omega) (by omega)) (FZ _ _ (by omega) (by omega) (by omega) (by omega) (by omega) (by omega) (by omega) (by omega))
theorem e91no (S : Sh m) (hc : ¬ isC c) : WP 91 0 [(2, 0), (0, c), (0, bell), (0, tick), (3, 0), (3, 0), (3, 0)] [] (dsB ++ tl) m Q = Q (dsB ++ tl) (rf m 3 1) [(0, -1)] := by
  simp only [p91_0, p91_1, p91_4, p91_7, p91_8, p91_9, p91_12, p91_13, p91_14, p91_17, p91_18, p91_21, p91_24, p91_25, p91_27, p91_30, e107, K_0, K_3, L_3, sh_0_0 S, sh_0_1 S, sh_0_2 S, sh_0_3 S, sh_0_4 S, sh_0_5 S, sh_0_7 S, sh_0_8 S, sh_0_10 S, sh_0_12 S, sh_0_14 S, sh_0_15 S, e95 S (show -7 ≤ (-1 : Int) ∧ (-1 : Int) ≤ -1 by decide), b2_f hc, b2_T, b2_F, Int.reduceEq, Int.reduceLT, Int.reduceLE, Int.reduceAdd, Int.reduceSub, Int.reduceMul, Int.reduceNeg, reduceIte, if_true, if_false, true_or, or_true, false_or, or_false, false_and, and_false, eq_self, not_false_eq_true, not_true_eq_false, true_and, and_true, List.cons_append, List.nil_append, List.append_nil, b2_0, b2_1, b2_01, Classical.not_not]
theorem e91fr (S : Sh m) (hc : isC c) (h : ¬ (m 10 c = 0 ∧ m 14 c = 0)) : WP 91 0 [(2, 0), (0, c), (0, bell), (0, tick), (3, 0), (3, 0), (3, 0)] [] (dsB ++ tl) m Q = Q (dsB ++ tl) (rf m 3 6) [(0, -6)] := by
  have h9 : PA (dsB ++ tl) m 9 := PA_9 S
  have hq : ¬ ((0 ≤ c ∧ c < 96) ∧ m (9 + 1) c = 0 ∧ m (9 + 5) c = 0) := fun y => h y.2
  have e29' := fun (Q : Ds → Mm → List MV → Prop) => e29 (c := c) (Q := Q) h9
  simp only [b2_f hq] at e29'
  simp only [p91_0, p91_1, p91_4, p91_7, p91_8, p91_9, p91_12, p91_13, p91_14, p91_17, p91_18, p91_21, p91_24, p91_25, p91_27, p91_30, e107, e29', K_9, K_0, K_3, L_3, sh_0_0 S, sh_0_1 S, sh_0_2 S, sh_0_3 S, sh_0_4 S, sh_0_5 S, sh_0_7 S, sh_0_8 S, sh_0_10 S, sh_0_12 S, sh_0_14 S, sh_0_15 S, e95 S (show -7 ≤ (-6 : Int) ∧ (-6 : Int) ≤ -1 by decide), b2_t hc, b2_T, b2_F, Int.reduceEq, Int.reduceLT, Int.reduceLE, Int.reduceAdd, Int.reduceSub, Int.reduceMul, Int.reduceNeg, reduceIte, if_true, if_false, true_or, or_true, false_or, or_false, false_and, and_false, eq_self, not_false_eq_true, not_true_eq_false, true_and, and_true, List.cons_append, List.nil_append, List.append_nil, b2_0, b2_1, b2_01, Classical.not_not]
theorem e180no (S : Sh m) (hc : ¬ isC c) : WP 180 0 [(2, 70), (0, c), (0, bell), (0, tick), (3, 0), (3, 0), (3, 0), (3, 0), (3, 0)] [] (dsB ++ tl) m Q = Q (dsB ++ tl) (rf m 71 1) [(0, -1)] := by
  simp only [p180_0, p180_1, p180_4, p180_7, p180_8, p180_9, p180_12, p180_13, p180_14, p180_15, p180_18, p180_21, p180_22, p180_24, p180_27, K_70, e122, e121 S (show -7 ≤ (-1 : Int) ∧ (-1 : Int) ≤ -1 by decide), b2_f hc, b2_T, b2_F, Int.reduceEq, Int.reduceLT, Int.reduceLE, Int.reduceAdd, Int.reduceSub, Int.reduceMul, Int.reduceNeg, reduceIte, if_true, if_false, true_or, or_true, false_or, or_false, false_and, and_false, eq_self, not_false_eq_true, not_true_eq_false, true_and, and_true, List.cons_append, List.nil_append, List.append_nil, b2_0, b2_1, b2_01, Classical.not_not]
theorem e180fr (S : Sh m) (hc : isC c) (h : ¬ (m 72 c = 0 ∧ m 76 c = 0)) : WP 180 0 [(2, 70), (0, c), (0, bell), (0, tick), (3, 0), (3, 0), (3, 0), (3, 0), (3, 0)] [] (dsB ++ tl) m Q = Q (dsB ++ tl) (rf m 71 6) [(0, -6)] := by
  simp only [p180_0, p180_1, p180_4, p180_7, p180_8, p180_9, p180_12, p180_13, p180_14, p180_15, p180_18, p180_21, p180_22, p180_24, p180_27, K_70, e122, e126 S hc, b2_f h, e121 S (show -7 ≤ (-6 : Int) ∧ (-6 : Int) ≤ -1 by decide), b2_t hc, b2_T, b2_F, Int.reduceEq, Int.reduceLT, Int.reduceLE, Int.reduceAdd, Int.reduceSub, Int.reduceMul, Int.reduceNeg, reduceIte, if_true, if_false, true_or, or_true, false_or, or_false, false_and, and_false, eq_self, not_false_eq_true, not_true_eq_false, true_and, and_true, List.cons_append, List.nil_append, List.append_nil, b2_0, b2_1, b2_01, Classical.not_not]
theorem call_fits (J : JS ds m m n) : CALL 91 180 [(2, 0), (0, c), (0, bell), (0, tick), (3, 0), (3, 0), (3, 0)] [(2, 70), (0, c), (0, bell), (0, tick), (3, 0), (3, 0), (3, 0), (3, 0), (3, 0)] ds m n := by
  obtain ⟨tl, rfl⟩ := J.Dt
  by_cases hc : isC c
  · have kc := J.P.k c hc
    have bc := J.P.b c hc
    simp only [Int.reduceAdd] at kc bc
    by_cases h6 : m 72 c = 0 ∧ m 76 c = 0
    · obtain ⟨X, SX, FX, _, hX⟩ := e91g (bell := bell) (tick := tick) J.S J.W J.P hc h6
      have fr : ∀ x j, 70 ≤ x → x ≤ 113 → X x j = m x j := fun x j h1 h2 => FX x j (by omega) (by omega) (by omega) (by omega)
      have WX : WG X := WG_rf J.W SX fr
      have PX : PE m X := PE_cg (fun x j h1 h2 => fr x j (by omega) (by omega)) (fr 70 6 (by decide) (by decide))
      have h6X : X 72 c = 0 ∧ X 76 c = 0 := by
        rw [fr 72 c (by decide) (by decide), fr 76 c (by decide) (by decide)]
        exact h6
      obtain ⟨X2, _, _, L2, h2⟩ := e91g (bell := bell) (tick := tick) J.S WX (PR_pe J.P PX) hc h6X
      have e2X : X = X2 := by
        have y := (h2 [] (fun _ q _ => q = X2)).symm.trans (hX [] (fun _ q _ => q = X2))
        exact y.mp rfl
      rw [← e2X] at L2 h2
      obtain ⟨Z, WZ, EZ, FZ, LZ, hB⟩ := e180 (bell := bell) (tick := tick) WX hc h6X
      have hl : 0 ≤ (if isC bell ∧ X 72 bell = 8 then ftR X c bell tick 1440 else (0, fun _ => 0)).1 ∧ (if isC bell ∧ X 72 bell = 8 then ftR X c bell tick 1440 else (0, fun _ => 0)).1 ≤ 62 := by
        split
        · have y := ftR_b (g := X) (c := c) (bell := bell) (tick := tick) 1440
          rw [ftN_62] at y
          exact y
        · decide
      have e11 : X 0 11 = Z 70 49 := L2.1.trans LZ.1.symm
      refine CALL_of (v := (0, X 0 11)) (X := X) (Z := Z) J (fun Q => h2 tl Q) (fun x j h => FX x j (by omega) (by omega) (by omega) (by omega)) SX (fun J1 => ?_) (fun Q => by rw [e11]; exact hB tl Q) (fun x j h => FZ x j (by omega) (by omega) (by omega) (by omega) (by omega) (by omega) (by omega) (by omega))
      refine JS_w J1 WZ EZ SX (fun x j h1 h2 h3 h4 => FX x j h1 h2 (by omega) (by omega)) (fun x j h1 h2 h3 h4 h5 h6 h7 => FZ x j h1 h2 (by omega) h4 h5 h6 (by omega) (by omega)) ?_ ?_ ?_
      · exact LSX_cg J1.Wk (fun i => FX _ _ (by omega) (by omega) (by omega) (by omega)) (fun i => FZ _ _ (by omega) (by omega) (by omega) (by omega) (by omega) (by omega) (by omega) (by omega)) (FX _ _ (by omega) (by omega) (by omega) (by omega)) (FZ _ _ (by omega) (by omega) (by omega) (by omega) (by omega) (by omega) (by omega) (by omega))
      · exact LSX_of L2 LZ hl
      · exact LSX_cg J1.Fw (fun i => FX _ _ (by omega) (by omega) (by omega) (by omega)) (fun i => FZ _ _ (by omega) (by omega) (by omega) (by omega) (by omega) (by omega) (by omega) (by omega)) (FX _ _ (by omega) (by omega) (by omega) (by omega)) (FZ _ _ (by omega) (by omega) (by omega) (by omega) (by omega) (by omega) (by omega) (by omega))
    · refine CALL_no (v := (0, -6)) (k := 6) J (by decide) (fun Q => e91fr J.S hc (by rw [kc, bc]; exact h6)) (fun SA fA Q => e180fr SA hc (by rw [fA 72 c (by decide), fA 76 c (by decide)]; exact h6))
  · exact CALL_no (v := (0, -1)) (k := 1) J (by decide) (fun Q => e91no J.S hc) (fun SA fA Q => e180no SA hc)
theorem call_fewest (J : JS ds m m n) : CALL 93 185 [(2, 0), (0, bell), (0, tick), (3, 0), (3, 0), (3, 0)] [(2, 70), (0, bell), (0, tick)] ds m n := by
  obtain ⟨tl, rfl⟩ := J.Dt
  obtain ⟨X, SX, FX, _, hX⟩ := e93g (bell := bell) (tick := tick) J.S J.W J.P
  have fr : ∀ x j, 70 ≤ x → x ≤ 113 → X x j = m x j := fun x j h1 h2 => FX x j (by omega) (by omega) (by omega) (by omega)
  have WX : WG X := WG_rf J.W SX fr
  have PX : PE m X := PE_cg (fun x j h1 h2 => fr x j (by omega) (by omega)) (fr 70 6 (by decide) (by decide))
  obtain ⟨X2, _, _, L2, h2⟩ := e93g (bell := bell) (tick := tick) J.S WX (PR_pe J.P PX)
  have e2X : X = X2 := by
    have y := (h2 [] (fun _ q _ => q = X2)).symm.trans (hX [] (fun _ q _ => q = X2))
    exact y.mp rfl
  rw [← e2X] at L2
  obtain ⟨Z, WZ, EZ, FZ, LZ, hB⟩ := e185 (bell := bell) (tick := tick) WX
  refine CALL_of (v := (0, (fwR X bell tick).1)) (X := X) (Z := Z) J (fun Q => by rw [e2X] at h2 ⊢; exact h2 tl Q) (fun x j h => FX x j (by omega) (by omega) (by omega) (by omega)) SX (fun J1 => ?_) (fun Q => hB tl Q) (fun x j h => FZ x j (by omega) (by omega) (by omega) (by omega) (by omega) (by omega) (by omega) (by omega) (by omega))
  refine JS_w J1 WZ EZ SX (fun x j h1 h2 h3 h4 => FX x j h1 h2 (by omega) (by omega)) (fun x j h1 h2 h3 h4 h5 h6 h7 => FZ x j h1 h2 (by omega) h4 h5 h6 (by omega) (by omega) (by omega)) ?_ ?_ ?_
  · exact LSX_cg J1.Wk (fun i => FX _ _ (by omega) (by omega) (by omega) (by omega)) (fun i => FZ _ _ (by omega) (by omega) (by omega) (by omega) (by omega) (by omega) (by omega) (by omega) (by omega)) (FX _ _ (by omega) (by omega) (by omega) (by omega)) (FZ _ _ (by omega) (by omega) (by omega) (by omega) (by omega) (by omega) (by omega) (by omega) (by omega))
  · exact LSX_cg J1.Ft (fun i => FX _ _ (by omega) (by omega) (by omega) (by omega)) (fun i => FZ _ _ (by omega) (by omega) (by omega) (by omega) (by omega) (by omega) (by omega) (by omega) (by omega)) (FX _ _ (by omega) (by omega) (by omega) (by omega)) (FZ _ _ (by omega) (by omega) (by omega) (by omega) (by omega) (by omega) (by omega) (by omega) (by omega))
  · exact LSX_of L2 LZ fwR_n
end CALLS6
