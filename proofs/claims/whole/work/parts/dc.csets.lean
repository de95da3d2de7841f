/-! the class's run: the strikes that are set are done -/
section CSETS
variable {tl : Ds} {m h g q : Mm} {Q : Ds → Mm → List MV → Prop} {r p n w v k j c s o f i t l ti wy b u a x : Int}
theorem RR_dec (R : RR m r p g w v) (hr : r = 34 ∨ r = 52) (hp : p = 9 ∨ p = 18) : RR (up m 27 7 (m 27 7 - 1)) r p (mDec g) w v := by
  have f : ∀ x j, ¬ x = 27 → up m 27 7 (m 27 7 - 1) x j = m x j := fun x j hx => by simp only [up_at, hx, b2_T, b2_F, Int.reduceEq, Int.reduceLT, Int.reduceLE, Int.reduceAdd, Int.reduceSub, Int.reduceMul, Int.reduceNeg, reduceIte, if_true, if_false, true_or, or_true, false_or, or_false, false_and, and_false, eq_self, not_false_eq_true, not_true_eq_false, true_and, and_true, List.cons_append, List.nil_append, List.append_nil, b2_0, b2_1, b2_01, Classical.not_not]
  have e : ∀ x j, ¬ x = 70 → mDec g x j = g x j := fun x j hx => by
    unfold mDec
    simp only [up_at, hx, b2_T, b2_F, Int.reduceEq, Int.reduceLT, Int.reduceLE, Int.reduceAdd, Int.reduceSub, Int.reduceMul, Int.reduceNeg, reduceIte, if_true, if_false, true_or, or_true, false_or, or_false, false_and, and_false, eq_self, not_false_eq_true, not_true_eq_false, true_and, and_true, List.cons_append, List.nil_append, List.append_nil, b2_0, b2_1, b2_01, Classical.not_not]
  have e70 : ∀ j, ¬ j = 25 → mDec g 70 j = g 70 j := fun j hj => by
    unfold mDec
    simp only [up_at, hj, b2_T, b2_F, Int.reduceEq, Int.reduceLT, Int.reduceLE, Int.reduceAdd, Int.reduceSub, Int.reduceMul, Int.reduceNeg, reduceIte, if_true, if_false, true_or, or_true, false_or, or_false, false_and, and_false, eq_self, not_false_eq_true, not_true_eq_false, true_and, and_true, List.cons_append, List.nil_append, List.append_nil, b2_0, b2_1, b2_01, Classical.not_not]
  have e25 : mDec g 70 25 = g 70 25 - 1 := by
    unfold mDec
    simp only [up_at, b2_T, b2_F, Int.reduceEq, Int.reduceLT, Int.reduceLE, Int.reduceAdd, Int.reduceSub, Int.reduceMul, Int.reduceNeg, reduceIte, if_true, if_false, true_or, or_true, false_or, or_false, false_and, and_false, eq_self, not_false_eq_true, not_true_eq_false, true_and, and_true, List.cons_append, List.nil_append, List.append_nil, b2_0, b2_1, b2_01, Classical.not_not]
  have f7 : up m 27 7 (m 27 7 - 1) 27 7 = m 27 7 - 1 := by simp only [up_at, b2_T, b2_F, Int.reduceEq, Int.reduceLT, Int.reduceLE, Int.reduceAdd, Int.reduceSub, Int.reduceMul, Int.reduceNeg, reduceIte, if_true, if_false, true_or, or_true, false_or, or_false, false_and, and_false, eq_self, not_false_eq_true, not_true_eq_false, true_and, and_true, List.cons_append, List.nil_append, List.append_nil, b2_0, b2_1, b2_01, Classical.not_not]
  have f6 : up m 27 7 (m 27 7 - 1) 27 6 = m 27 6 := by simp only [up_at, b2_T, b2_F, Int.reduceEq, Int.reduceLT, Int.reduceLE, Int.reduceAdd, Int.reduceSub, Int.reduceMul, Int.reduceNeg, reduceIte, if_true, if_false, true_or, or_true, false_or, or_false, false_and, and_false, eq_self, not_false_eq_true, not_true_eq_false, true_and, and_true, List.cons_append, List.nil_append, List.append_nil, b2_0, b2_1, b2_01, Classical.not_not]
  refine ⟨Sh.up R.S (by decide), ?_, ?_, ?_, ?_, ?_, ?_, ?_⟩
  · rw [f _ _ (by omega)]; exact R.pp
  · exact PR_g (PR_m R.P (fun x j h1 h2 => f x j (by omega))) (fun x j h1 h2 => e x j (by omega)) (e70 6 (by decide))
  · exact RC_g (RC_m R.C (fun x j h1 h2 => f x j (by omega))) (fun x j hx => e x j (by omega)) (e70 45 (by decide))
  · exact RB_g (RB_m R.B (fun x j h1 h2 => f x j (by omega))) (fun x j hx => e x j (by omega)) rfl rfl
  · exact RS_g (RS_m R.X (f _ _ (by omega)) (f _ _ (by omega)) (f _ _ (by omega)) (f _ _ (by omega)) (f _ _ (by omega))) rfl rfl rfl rfl
  · exact RLo_g (RLo_m R.L (fun x j h1 h2 => f x j (by omega))) rfl rfl (fun j => rfl) (fun j => rfl)
  · obtain ⟨φ, a, z⟩ := R.Q
    refine ⟨φ, ⟨?_, ?_, fun y y0 y1 => ?_, fun y y1 => ?_, fun t => ?_, fun t => ?_⟩, by rw [f6]; exact z⟩
    · rw [f6]; exact a.sz
    · rw [f7, e25, a.wt]
    · rw [f6] at y1 ⊢
      rw [f 31 y (by decide), f 32 y (by decide), f 33 y (by decide), f 30 y (by decide)]
      exact a.nd y y0 y1
    · rw [f6]; exact a.ij y y1
    · rw [f6, f 28 t (by decide), f 29 t (by decide)]; exact a.ts t
    · rw [f6]; exact a.tb t
theorem GT_dec (T : GT g) : GT (mDec g) := ⟨T.tm, T.rg, T.lo, T.dn, T.k8, T.hr, T.rs, T.fl⟩
theorem does_e : mDoes g k = mStrike g (mLand g k) (g 87 k) (g 88 k) 0 := rfl
theorem setL_s (f : Nat) : mSetL (f + 1) g k = if k = -1 ∨ cnt g = 1000 then g else mSetL f (mSet1 g k) (mSet1 g k 90 k) := rfl
theorem c56_34 (hp : p = 9 ∨ p = 18) : ∀ (f : Nat) (m g : Mm) (i w v : Int), RR m 34 p g w v → TI g 0 → GT g → (0 ≤ i ∧ i ≤ cnt g) → 1000 - cnt g < f → ∃ m', RR m' 34 p (mSetL f g v) (-1) (-1) ∧ FR m m' 34 ∧ GT (mSetL f g v) ∧ ∀ (tl : Ds) (Q : Ds → Mm → List MV → Prop) (q3 q4 q5 : MV), WP 56 14 [(2, 34), (0, w), (0, i), q3, q4, q5] [] (dsB ++ tl) m Q = Q (dsB ++ tl) m' [] := by
  intro f
  induction f with
  | zero =>
    intro m g i w v R t T hi hf
    have cn := t.a.cn
    omega
  | succ f ih =>
    intro m g i w v R t T hi hf
    have cn := t.a.cn
    have tw := t.w
    have S := R.S
    have lc := R.X.lc
    simp only [Int.reduceAdd] at lc
    obtain ⟨φ, a, z⟩ := R.Q
    have sz := a.sz
    have wt := a.wt
    have q1 := t.a.q.1
    have q2 := t.a.q.2.1
    have nb := nsp_b (g := g)
    have i0 := hi.1
    have i1 : i < 1196 := by omega
    rw [setL_s]
    by_cases h1 : v = -1
    · rw [if_pos (Or.inl h1)]
      have hw : ¬ (0 ≤ w ∧ w < m 27 6 ∧ w < 1196) := by
        rcases z with z | z
        · omega
        · have := (a.nd w z.1 z.2.1).1
          omega
      refine ⟨m, ⟨S, R.pp, R.P, R.C, R.B, R.X, R.L, RQ_nil R.Q⟩, FR_refl, T, fun tl Q q3 q4 q5 => ?_⟩
      rw [p56_14]
      simp only [p56_15, p56_18, p56_21, p56_22, p56_25, p56_26, p56_29, p56_141, K_27, K_28, L_28, K_29, L_29, K_30, L_30, K_31, L_31, K_32, L_32, K_33, L_33, K_34, K_35, K_36, L_36, K_37, L_37, K_38, L_38, K_39, L_39, K_40, K_41, L_41, K_42, L_42, K_43, L_43, K_44, L_44, K_45, L_45, K_46, L_46, K_47, L_47, K_48, L_48, K_49, L_49, K_50, L_50, K_51, L_51, K_52, K_53, K_54, L_54, K_55, L_55, K_56, L_56, K_57, L_57, K_58, K_59, L_59, K_60, L_60, K_61, L_61, K_62, L_62, K_63, L_63, K_64, L_64, K_65, L_65, K_66, L_66, K_67, L_67, K_68, L_68, K_69, L_69, sh_27_0 S, sh_27_1 S, sh_27_2 S, sh_27_3 S, sh_27_4 S, sh_27_5 S, sh_34_0 S, sh_34_1 S, sh_34_2 S, sh_34_3 S, sh_34_4 S, sh_34_5 S, sh_34_6 S, sh_34_7 S, sh_35_0 S, sh_35_1 S, sh_35_2 S, sh_35_3 S, sh_40_0 S, sh_40_1 S, sh_40_2 S, sh_40_3 S, sh_40_4 S, sh_40_5 S, sh_52_0 S, sh_52_1 S, sh_52_2 S, sh_52_3 S, sh_52_4 S, sh_52_5 S, sh_52_6 S, sh_52_7 S, sh_53_0 S, sh_53_1 S, sh_53_2 S, sh_53_3 S, sh_58_0 S, sh_58_1 S, sh_58_2 S, sh_58_3 S, sh_58_4 S, sh_58_5 S, i1, e14 S, b2_f hw, b2_T, b2_F, Int.reduceEq, Int.reduceLT, Int.reduceLE, Int.reduceAdd, Int.reduceSub, Int.reduceMul, Int.reduceNeg, reduceIte, if_true, if_false, true_or, or_true, false_or, or_false, false_and, and_false, eq_self, not_false_eq_true, not_true_eq_false, true_and, and_true, List.cons_append, List.nil_append, List.append_nil, b2_0, b2_1, b2_01, Classical.not_not]
    · have z := z.resolve_left (fun x => h1 x.2)
      have n1 := a.nd w z.1 z.2.1
      rw [z.2.2] at n1
      have hw : 0 ≤ w ∧ w < m 27 6 ∧ w < 1196 := by omega
      by_cases h2 : cnt g = 1000
      · rw [if_pos (Or.inr h2)]
        rw [h2] at lc
        refine ⟨m, ⟨S, R.pp, R.P, R.C, R.B, R.X, R.L, RQ_nil R.Q⟩, FR_refl, T, fun tl Q q3 q4 q5 => ?_⟩
        rw [p56_14]
        simp only [p56_15, p56_18, p56_21, p56_22, p56_25, p56_26, p56_29, p56_32, p56_33, p56_36, p56_39, p56_42, p56_141, K_27, K_28, L_28, K_29, L_29, K_30, L_30, K_31, L_31, K_32, L_32, K_33, L_33, K_34, K_35, K_36, L_36, K_37, L_37, K_38, L_38, K_39, L_39, K_40, K_41, L_41, K_42, L_42, K_43, L_43, K_44, L_44, K_45, L_45, K_46, L_46, K_47, L_47, K_48, L_48, K_49, L_49, K_50, L_50, K_51, L_51, K_52, K_53, K_54, L_54, K_55, L_55, K_56, L_56, K_57, L_57, K_58, K_59, L_59, K_60, L_60, K_61, L_61, K_62, L_62, K_63, L_63, K_64, L_64, K_65, L_65, K_66, L_66, K_67, L_67, K_68, L_68, K_69, L_69, sh_27_0 S, sh_27_1 S, sh_27_2 S, sh_27_3 S, sh_27_4 S, sh_27_5 S, sh_34_0 S, sh_34_1 S, sh_34_2 S, sh_34_3 S, sh_34_4 S, sh_34_5 S, sh_34_6 S, sh_34_7 S, sh_35_0 S, sh_35_1 S, sh_35_2 S, sh_35_3 S, sh_40_0 S, sh_40_1 S, sh_40_2 S, sh_40_3 S, sh_40_4 S, sh_40_5 S, sh_52_0 S, sh_52_1 S, sh_52_2 S, sh_52_3 S, sh_52_4 S, sh_52_5 S, sh_52_6 S, sh_52_7 S, sh_53_0 S, sh_53_1 S, sh_53_2 S, sh_53_3 S, sh_58_0 S, sh_58_1 S, sh_58_2 S, sh_58_3 S, sh_58_4 S, sh_58_5 S, i1, e14 S, b2_t hw, lc, b2_T, b2_F, Int.reduceEq, Int.reduceLT, Int.reduceLE, Int.reduceAdd, Int.reduceSub, Int.reduceMul, Int.reduceNeg, reduceIte, if_true, if_false, true_or, or_true, false_or, or_false, false_and, and_false, eq_self, not_false_eq_true, not_true_eq_false, true_and, and_true, List.cons_append, List.nil_append, List.append_nil, b2_0, b2_1, b2_01, Classical.not_not]
      · rw [if_neg (fun x => x.elim h1 h2)]
        have h3 : 0 ≤ v ∧ v < g 70 24 := n1.1
        have h4 : cnt g < 1000 := by omega
        have nd := t.a.a.nd v h3.1 h3.2
        have t1 := TI_set1 t h4 h3
        have a1 := GI_dec t.a (by omega)
        have R1 := RR_dec R (by decide) hp
        have T1 := GT_dec T
        have CC := CS (c := mLand (mDec g) v) (s := g 87 v) (k := g 88 v) (u := 0) R1 (by decide) hp a1 T1 h4 (land_c a1 h3) nd.2.1 nd.2.2.1 (Or.inl rfl)
        have R2 := CC.2.2.1
        have S2 := R2.S
        have T2 : GT (mSet1 g v) := GT_strike T1 a1.a (land_c a1 h3) (Or.inl rfl)
        have w30 : ¬ w = -1 := by omega
        obtain ⟨X, hX⟩ : ∃ X, X = xStr (up m 27 7 (m 27 7 - 1)) 34 (mDec g) (mLand (mDec g) v) (g 87 v) (g 88 v) 0 := ⟨_, rfl⟩
        rw [← hX] at CC R2 S2
        have R3 : RR X 34 p (mSet1 g v) (X 30 w) (mSet1 g v 90 v) := ⟨S2, R2.pp, R2.P, R2.C, R2.B, R2.X, R2.L, RQ_next R2.Q w30⟩
        obtain ⟨m', r1, r2, r3, r4⟩ := ih X (mSet1 g v) (i + 1) (X 30 w) (mSet1 g v 90 v) R3 t1.1 T2 (by omega) (by omega)
        refine ⟨m', r1, ?_, r3, fun tl Q q3 q4 q5 => ?_⟩
        · have fu : FR m (up m 27 7 (m 27 7 - 1)) 34 := fun a j h1 h2 => by rw [up_at, if_neg (fun x => h1 (by omega))]
          exact FR_trans fu (FR_trans CC.2.2.2 r2)
        · have c1 := CC.1
          have c2 := CC.2.1
          simp only [Int.reduceMul] at c1 c2
          have s0 := nd.2.1.1
          have s1 := nd.2.1.2
          have k0 := nd.1.1
          have k1 := nd.1.2
          have n31 := n1.2.1
          have n32 := n1.2.2.1
          have n33 := n1.2.2.2.1
          have j1 : jrem (4 * g 86 v + g 87 v) 4 = g 87 v := by
            rw [jrem_nn (by omega) (by omega) (by omega) (by omega)]
            omega
          have j2 : jdiv (4 * g 86 v + g 87 v) 4 = g 86 v := by
            rw [jdiv_nn (by omega) (by omega) (by omega) (by omega)]
            omega
          have w1 : w32 (m 27 7 - 1) = m 27 7 - 1 := w32_id (by omega) (by omega)
          have w2 : w32 (i + 1) = i + 1 := w32_id (by omega) (by omega)
          have w0 := z.1
          have w3 := hw.2.2
          have w4 := hw.2.1
          have e57' := fun (Q : Ds → Mm → List MV → Prop) => e57 (tl := tl) (Q := Q) (k := v) R1 (by decide) hp nd.1 nd.2.1
          have d86 : mDec g 86 v = g 86 v := rfl
          have d87 : mDec g 87 v = g 87 v := rfl
          have d89 : mDec g 89 v = g 89 v := rfl
          rw [d86, d87, d89] at e57'
          have e62' := fun (Q : Ds → Mm → List MV → Prop) => c1 tl Q
          have e63' := fun (Q : Ds → Mm → List MV → Prop) => c2 tl Q
          have dc : cnt (mDec g) = cnt g := rfl
          rw [dc] at e62' e63'
          rw [p56_14]
          simp only [p56_15, p56_18, p56_21, p56_22, p56_25, p56_26, p56_29, p56_32, p56_33, p56_36, p56_39, p56_42, p56_45, p56_46, p56_49, p56_50, p56_53, p56_54, p56_55, p56_58, p56_59, p56_62, p56_65, p56_66, p56_67, p56_68, p56_69, p56_70, p56_71, p56_72, p56_75, p56_78, p56_79, p56_80, p56_81, p56_82, p56_83, p56_84, p56_87, p56_90, p56_91, p56_92, p56_95, p56_97, p56_98, p56_100, p56_101, p56_102, p56_105, p56_108, p56_109, p56_110, p56_111, p56_114, p56_116, p56_117, p56_119, p56_120, p56_122, p56_125, p56_126, p56_129, p56_132, p56_133, p56_134, p56_135, p56_138, K_27, K_28, L_28, K_29, L_29, K_30, L_30, K_31, L_31, K_32, L_32, K_33, L_33, K_34, K_35, K_36, L_36, K_37, L_37, K_38, L_38, K_39, L_39, K_40, K_41, L_41, K_42, L_42, K_43, L_43, K_44, L_44, K_45, L_45, K_46, L_46, K_47, L_47, K_48, L_48, K_49, L_49, K_50, L_50, K_51, L_51, K_52, K_53, K_54, L_54, K_55, L_55, K_56, L_56, K_57, L_57, K_58, K_59, L_59, K_60, L_60, K_61, L_61, K_62, L_62, K_63, L_63, K_64, L_64, K_65, L_65, K_66, L_66, K_67, L_67, K_68, L_68, K_69, L_69, sh_27_0 S, sh_27_1 S, sh_27_2 S, sh_27_3 S, sh_27_4 S, sh_27_5 S, sh_34_0 S, sh_34_1 S, sh_34_2 S, sh_34_3 S, sh_34_4 S, sh_34_5 S, sh_34_6 S, sh_34_7 S, sh_35_0 S, sh_35_1 S, sh_35_2 S, sh_35_3 S, sh_40_0 S, sh_40_1 S, sh_40_2 S, sh_40_3 S, sh_40_4 S, sh_40_5 S, sh_52_0 S, sh_52_1 S, sh_52_2 S, sh_52_3 S, sh_52_4 S, sh_52_5 S, sh_52_6 S, sh_52_7 S, sh_53_0 S, sh_53_1 S, sh_53_2 S, sh_53_3 S, sh_58_0 S, sh_58_1 S, sh_58_2 S, sh_58_3 S, sh_58_4 S, sh_58_5 S, sh_34_0 S2, sh_27_2 S2, i1, e14 S, b2_t hw, lc, h4, w0, w1, w2, w3, w4, n31, n32, n33, j1, j2, up_at, e57', e62', e63', r4, b2_T, b2_F, Int.reduceEq, Int.reduceLT, Int.reduceLE, Int.reduceAdd, Int.reduceSub, Int.reduceMul, Int.reduceNeg, reduceIte, if_true, if_false, true_or, or_true, false_or, or_false, false_and, and_false, eq_self, not_false_eq_true, not_true_eq_false, true_and, and_true, List.cons_append, List.nil_append, List.append_nil, b2_0, b2_1, b2_01, Classical.not_not]
theorem c56_52 (hp : p = 9 ∨ p = 18) : ∀ (f : Nat) (m g : Mm) (i w v : Int), RR m 52 p g w v → TI g 0 → GT g → (0 ≤ i ∧ i ≤ cnt g) → 1000 - cnt g < f → ∃ m', RR m' 52 p (mSetL f g v) (-1) (-1) ∧ FR m m' 52 ∧ GT (mSetL f g v) ∧ ∀ (tl : Ds) (Q : Ds → Mm → List MV → Prop) (q3 q4 q5 : MV), WP 56 14 [(2, 52), (0, w), (0, i), q3, q4, q5] [] (dsB ++ tl) m Q = Q (dsB ++ tl) m' [] := by
  intro f
  induction f with
  | zero =>
    intro m g i w v R t T hi hf
    have cn := t.a.cn
    omega
  | succ f ih =>
    intro m g i w v R t T hi hf
    have cn := t.a.cn
    have tw := t.w
    have S := R.S
    have lc := R.X.lc
    simp only [Int.reduceAdd] at lc
    obtain ⟨φ, a, z⟩ := R.Q
    have sz := a.sz
    have wt := a.wt
    have q1 := t.a.q.1
    have q2 := t.a.q.2.1
    have nb := nsp_b (g := g)
    have i0 := hi.1
    have i1 : i < 1196 := by omega
    rw [setL_s]
    by_cases h1 : v = -1
    · rw [if_pos (Or.inl h1)]
      have hw : ¬ (0 ≤ w ∧ w < m 27 6 ∧ w < 1196) := by
        rcases z with z | z
        · omega
        · have := (a.nd w z.1 z.2.1).1
          omega
      refine ⟨m, ⟨S, R.pp, R.P, R.C, R.B, R.X, R.L, RQ_nil R.Q⟩, FR_refl, T, fun tl Q q3 q4 q5 => ?_⟩
      rw [p56_14]
      simp only [p56_15, p56_18, p56_21, p56_22, p56_25, p56_26, p56_29, p56_141, K_27, K_28, L_28, K_29, L_29, K_30, L_30, K_31, L_31, K_32, L_32, K_33, L_33, K_34, K_35, K_36, L_36, K_37, L_37, K_38, L_38, K_39, L_39, K_40, K_41, L_41, K_42, L_42, K_43, L_43, K_44, L_44, K_45, L_45, K_46, L_46, K_47, L_47, K_48, L_48, K_49, L_49, K_50, L_50, K_51, L_51, K_52, K_53, K_54, L_54, K_55, L_55, K_56, L_56, K_57, L_57, K_58, K_59, L_59, K_60, L_60, K_61, L_61, K_62, L_62, K_63, L_63, K_64, L_64, K_65, L_65, K_66, L_66, K_67, L_67, K_68, L_68, K_69, L_69, sh_27_0 S, sh_27_1 S, sh_27_2 S, sh_27_3 S, sh_27_4 S, sh_27_5 S, sh_34_0 S, sh_34_1 S, sh_34_2 S, sh_34_3 S, sh_34_4 S, sh_34_5 S, sh_34_6 S, sh_34_7 S, sh_35_0 S, sh_35_1 S, sh_35_2 S, sh_35_3 S, sh_40_0 S, sh_40_1 S, sh_40_2 S, sh_40_3 S, sh_40_4 S, sh_40_5 S, sh_52_0 S, sh_52_1 S, sh_52_2 S, sh_52_3 S, sh_52_4 S, sh_52_5 S, sh_52_6 S, sh_52_7 S, sh_53_0 S, sh_53_1 S, sh_53_2 S, sh_53_3 S, sh_58_0 S, sh_58_1 S, sh_58_2 S, sh_58_3 S, sh_58_4 S, sh_58_5 S, i1, e14 S, b2_f hw, b2_T, b2_F, Int.reduceEq, Int.reduceLT, Int.reduceLE, Int.reduceAdd, Int.reduceSub, Int.reduceMul, Int.reduceNeg, reduceIte, if_true, if_false, true_or, or_true, false_or, or_false, false_and, and_false, eq_self, not_false_eq_true, not_true_eq_false, true_and, and_true, List.cons_append, List.nil_append, List.append_nil, b2_0, b2_1, b2_01, Classical.not_not]
    · have z := z.resolve_left (fun x => h1 x.2)
      have n1 := a.nd w z.1 z.2.1
      rw [z.2.2] at n1
      have hw : 0 ≤ w ∧ w < m 27 6 ∧ w < 1196 := by omega
      by_cases h2 : cnt g = 1000
      · rw [if_pos (Or.inr h2)]
        rw [h2] at lc
        refine ⟨m, ⟨S, R.pp, R.P, R.C, R.B, R.X, R.L, RQ_nil R.Q⟩, FR_refl, T, fun tl Q q3 q4 q5 => ?_⟩
        rw [p56_14]
        simp only [p56_15, p56_18, p56_21, p56_22, p56_25, p56_26, p56_29, p56_32, p56_33, p56_36, p56_39, p56_42, p56_141, K_27, K_28, L_28, K_29, L_29, K_30, L_30, K_31, L_31, K_32, L_32, K_33, L_33, K_34, K_35, K_36, L_36, K_37, L_37, K_38, L_38, K_39, L_39, K_40, K_41, L_41, K_42, L_42, K_43, L_43, K_44, L_44, K_45, L_45, K_46, L_46, K_47, L_47, K_48, L_48, K_49, L_49, K_50, L_50, K_51, L_51, K_52, K_53, K_54, L_54, K_55, L_55, K_56, L_56, K_57, L_57, K_58, K_59, L_59, K_60, L_60, K_61, L_61, K_62, L_62, K_63, L_63, K_64, L_64, K_65, L_65, K_66, L_66, K_67, L_67, K_68, L_68, K_69, L_69, sh_27_0 S, sh_27_1 S, sh_27_2 S, sh_27_3 S, sh_27_4 S, sh_27_5 S, sh_34_0 S, sh_34_1 S, sh_34_2 S, sh_34_3 S, sh_34_4 S, sh_34_5 S, sh_34_6 S, sh_34_7 S, sh_35_0 S, sh_35_1 S, sh_35_2 S, sh_35_3 S, sh_40_0 S, sh_40_1 S, sh_40_2 S, sh_40_3 S, sh_40_4 S, sh_40_5 S, sh_52_0 S, sh_52_1 S, sh_52_2 S, sh_52_3 S, sh_52_4 S, sh_52_5 S, sh_52_6 S, sh_52_7 S, sh_53_0 S, sh_53_1 S, sh_53_2 S, sh_53_3 S, sh_58_0 S, sh_58_1 S, sh_58_2 S, sh_58_3 S, sh_58_4 S, sh_58_5 S, i1, e14 S, b2_t hw, lc, b2_T, b2_F, Int.reduceEq, Int.reduceLT, Int.reduceLE, Int.reduceAdd, Int.reduceSub, Int.reduceMul, Int.reduceNeg, reduceIte, if_true, if_false, true_or, or_true, false_or, or_false, false_and, and_false, eq_self, not_false_eq_true, not_true_eq_false, true_and, and_true, List.cons_append, List.nil_append, List.append_nil, b2_0, b2_1, b2_01, Classical.not_not]
      · rw [if_neg (fun x => x.elim h1 h2)]
        have h3 : 0 ≤ v ∧ v < g 70 24 := n1.1
        have h4 : cnt g < 1000 := by omega
        have nd := t.a.a.nd v h3.1 h3.2
        have t1 := TI_set1 t h4 h3
        have a1 := GI_dec t.a (by omega)
        have R1 := RR_dec R (by decide) hp
        have T1 := GT_dec T
        have CC := CS (c := mLand (mDec g) v) (s := g 87 v) (k := g 88 v) (u := 0) R1 (by decide) hp a1 T1 h4 (land_c a1 h3) nd.2.1 nd.2.2.1 (Or.inl rfl)
        have R2 := CC.2.2.1
        have S2 := R2.S
        have T2 : GT (mSet1 g v) := GT_strike T1 a1.a (land_c a1 h3) (Or.inl rfl)
        have w30 : ¬ w = -1 := by omega
        obtain ⟨X, hX⟩ : ∃ X, X = xStr (up m 27 7 (m 27 7 - 1)) 52 (mDec g) (mLand (mDec g) v) (g 87 v) (g 88 v) 0 := ⟨_, rfl⟩
        rw [← hX] at CC R2 S2
        have R3 : RR X 52 p (mSet1 g v) (X 30 w) (mSet1 g v 90 v) := ⟨S2, R2.pp, R2.P, R2.C, R2.B, R2.X, R2.L, RQ_next R2.Q w30⟩
        obtain ⟨m', r1, r2, r3, r4⟩ := ih X (mSet1 g v) (i + 1) (X 30 w) (mSet1 g v 90 v) R3 t1.1 T2 (by omega) (by omega)
        refine ⟨m', r1, ?_, r3, fun tl Q q3 q4 q5 => ?_⟩
        · have fu : FR m (up m 27 7 (m 27 7 - 1)) 52 := fun a j h1 h2 => by rw [up_at, if_neg (fun x => h1 (by omega))]
          exact FR_trans fu (FR_trans CC.2.2.2 r2)
        · have c1 := CC.1
          have c2 := CC.2.1
          simp only [Int.reduceMul] at c1 c2
          have s0 := nd.2.1.1
          have s1 := nd.2.1.2
          have k0 := nd.1.1
          have k1 := nd.1.2
          have n31 := n1.2.1
          have n32 := n1.2.2.1
          have n33 := n1.2.2.2.1
          have j1 : jrem (4 * g 86 v + g 87 v) 4 = g 87 v := by
            rw [jrem_nn (by omega) (by omega) (by omega) (by omega)]
            omega
          have j2 : jdiv (4 * g 86 v + g 87 v) 4 = g 86 v := by
            rw [jdiv_nn (by omega) (by omega) (by omega) (by omega)]
            omega
          have w1 : w32 (m 27 7 - 1) = m 27 7 - 1 := w32_id (by omega) (by omega)
          have w2 : w32 (i + 1) = i + 1 := w32_id (by omega) (by omega)
          have w0 := z.1
          have w3 := hw.2.2
          have w4 := hw.2.1
          have e57' := fun (Q : Ds → Mm → List MV → Prop) => e57 (tl := tl) (Q := Q) (k := v) R1 (by decide) hp nd.1 nd.2.1
          have d86 : mDec g 86 v = g 86 v := rfl
          have d87 : mDec g 87 v = g 87 v := rfl
          have d89 : mDec g 89 v = g 89 v := rfl
          rw [d86, d87, d89] at e57'
          have e62' := fun (Q : Ds → Mm → List MV → Prop) => c1 tl Q
          have e63' := fun (Q : Ds → Mm → List MV → Prop) => c2 tl Q
          have dc : cnt (mDec g) = cnt g := rfl
          rw [dc] at e62' e63'
          rw [p56_14]
          simp only [p56_15, p56_18, p56_21, p56_22, p56_25, p56_26, p56_29, p56_32, p56_33, p56_36, p56_39, p56_42, p56_45, p56_46, p56_49, p56_50, p56_53, p56_54, p56_55, p56_58, p56_59, p56_62, p56_65, p56_66, p56_67, p56_68, p56_69, p56_70, p56_71, p56_72, p56_75, p56_78, p56_79, p56_80, p56_81, p56_82, p56_83, p56_84, p56_87, p56_90, p56_91, p56_92, p56_95, p56_97, p56_98, p56_100, p56_101, p56_102, p56_105, p56_108, p56_109, p56_110, p56_111, p56_114, p56_116, p56_117, p56_119, p56_120, p56_122, p56_125, p56_126, p56_129, p56_132, p56_133, p56_134, p56_135, p56_138, K_27, K_28, L_28, K_29, L_29, K_30, L_30, K_31, L_31, K_32, L_32, K_33, L_33, K_34, K_35, K_36, L_36, K_37, L_37, K_38, L_38, K_39, L_39, K_40, K_41, L_41, K_42, L_42, K_43, L_43, K_44, L_44, K_45, L_45, K_46, L_46, K_47, L_47, K_48, L_48, K_49, L_49, K_50, L_50, K_51, L_51, K_52, K_53, K_54, L_54, K_55, L_55, K_56, L_56, K_57, L_57, K_58, K_59, L_59, K_60, L_60, K_61, L_61, K_62, L_62, K_63, L_63, K_64, L_64, K_65, L_65, K_66, L_66, K_67, L_67, K_68, L_68, K_69, L_69, sh_27_0 S, sh_27_1 S, sh_27_2 S, sh_27_3 S, sh_27_4 S, sh_27_5 S, sh_34_0 S, sh_34_1 S, sh_34_2 S, sh_34_3 S, sh_34_4 S, sh_34_5 S, sh_34_6 S, sh_34_7 S, sh_35_0 S, sh_35_1 S, sh_35_2 S, sh_35_3 S, sh_40_0 S, sh_40_1 S, sh_40_2 S, sh_40_3 S, sh_40_4 S, sh_40_5 S, sh_52_0 S, sh_52_1 S, sh_52_2 S, sh_52_3 S, sh_52_4 S, sh_52_5 S, sh_52_6 S, sh_52_7 S, sh_53_0 S, sh_53_1 S, sh_53_2 S, sh_53_3 S, sh_58_0 S, sh_58_1 S, sh_58_2 S, sh_58_3 S, sh_58_4 S, sh_58_5 S, sh_52_0 S2, sh_27_2 S2, i1, e14 S, b2_t hw, lc, h4, w0, w1, w2, w3, w4, n31, n32, n33, j1, j2, up_at, e57', e62', e63', r4, b2_T, b2_F, Int.reduceEq, Int.reduceLT, Int.reduceLE, Int.reduceAdd, Int.reduceSub, Int.reduceMul, Int.reduceNeg, reduceIte, if_true, if_false, true_or, or_true, false_or, or_false, false_and, and_false, eq_self, not_false_eq_true, not_true_eq_false, true_and, and_true, List.cons_append, List.nil_append, List.append_nil, b2_0, b2_1, b2_01, Classical.not_not]
theorem c56 (hr : r = 34 ∨ r = 52) (hp : p = 9 ∨ p = 18) (R : RR m r p g (-1) (-1)) (t : TI g 0) (T : GT g) : ∃ m', RR m' r p (mSetL 1001 g (g 91 (g 70 26))) (-1) (-1) ∧ FR m m' r ∧ GT (mSetL 1001 g (g 91 (g 70 26))) ∧ ∀ (tl : Ds) (Q : Ds → Mm → List MV → Prop), WP 56 0 [(2, r), (3, 0), (3, 0), (3, 0), (3, 0), (3, 0)] [] (dsB ++ tl) m Q = Q (dsB ++ tl) m' [] := by
  have cn := t.a.cn
  have nw := t.a.a.nw
  have S := R.S
  have ti := R.X.ti
  have R1 : RR m r p g (m 28 (g 70 26)) (g 91 (g 70 26)) := ⟨S, R.pp, R.P, R.C, R.B, R.X, R.L, RQ_first R.Q nw.1 nw.2⟩
  rcases hr with rfl | rfl
  · obtain ⟨m', r1, r2, r3, r4⟩ := c56_34 hp 1001 m g 0 _ _ R1 t T ⟨Int.le_refl _, cn.1⟩ (by omega)
    refine ⟨m', r1, r2, r3, fun tl Q => ?_⟩
    simp only [p56_0, p56_1, p56_4, p56_5, p56_8, p56_11, p56_12, p56_13, K_27, K_28, L_28, K_29, L_29, K_30, L_30, K_31, L_31, K_32, L_32, K_33, L_33, K_34, K_35, K_36, L_36, K_37, L_37, K_38, L_38, K_39, L_39, K_40, K_41, L_41, K_42, L_42, K_43, L_43, K_44, L_44, K_45, L_45, K_46, L_46, K_47, L_47, K_48, L_48, K_49, L_49, K_50, L_50, K_51, L_51, K_52, K_53, K_54, L_54, K_55, L_55, K_56, L_56, K_57, L_57, K_58, K_59, L_59, K_60, L_60, K_61, L_61, K_62, L_62, K_63, L_63, K_64, L_64, K_65, L_65, K_66, L_66, K_67, L_67, K_68, L_68, K_69, L_69, sh_27_0 S, sh_27_1 S, sh_27_2 S, sh_27_3 S, sh_27_4 S, sh_27_5 S, sh_34_0 S, sh_34_1 S, sh_34_2 S, sh_34_3 S, sh_34_4 S, sh_34_5 S, sh_34_6 S, sh_34_7 S, sh_35_0 S, sh_35_1 S, sh_35_2 S, sh_35_3 S, sh_40_0 S, sh_40_1 S, sh_40_2 S, sh_40_3 S, sh_40_4 S, sh_40_5 S, sh_52_0 S, sh_52_1 S, sh_52_2 S, sh_52_3 S, sh_52_4 S, sh_52_5 S, sh_52_6 S, sh_52_7 S, sh_53_0 S, sh_53_1 S, sh_53_2 S, sh_53_3 S, sh_58_0 S, sh_58_1 S, sh_58_2 S, sh_58_3 S, sh_58_4 S, sh_58_5 S, ti, e13 S nw, r4, b2_T, b2_F, Int.reduceEq, Int.reduceLT, Int.reduceLE, Int.reduceAdd, Int.reduceSub, Int.reduceMul, Int.reduceNeg, reduceIte, if_true, if_false, true_or, or_true, false_or, or_false, false_and, and_false, eq_self, not_false_eq_true, not_true_eq_false, true_and, and_true, List.cons_append, List.nil_append, List.append_nil, b2_0, b2_1, b2_01, Classical.not_not]
  · obtain ⟨m', r1, r2, r3, r4⟩ := c56_52 hp 1001 m g 0 _ _ R1 t T ⟨Int.le_refl _, cn.1⟩ (by omega)
    refine ⟨m', r1, r2, r3, fun tl Q => ?_⟩
    simp only [p56_0, p56_1, p56_4, p56_5, p56_8, p56_11, p56_12, p56_13, K_27, K_28, L_28, K_29, L_29, K_30, L_30, K_31, L_31, K_32, L_32, K_33, L_33, K_34, K_35, K_36, L_36, K_37, L_37, K_38, L_38, K_39, L_39, K_40, K_41, L_41, K_42, L_42, K_43, L_43, K_44, L_44, K_45, L_45, K_46, L_46, K_47, L_47, K_48, L_48, K_49, L_49, K_50, L_50, K_51, L_51, K_52, K_53, K_54, L_54, K_55, L_55, K_56, L_56, K_57, L_57, K_58, K_59, L_59, K_60, L_60, K_61, L_61, K_62, L_62, K_63, L_63, K_64, L_64, K_65, L_65, K_66, L_66, K_67, L_67, K_68, L_68, K_69, L_69, sh_27_0 S, sh_27_1 S, sh_27_2 S, sh_27_3 S, sh_27_4 S, sh_27_5 S, sh_34_0 S, sh_34_1 S, sh_34_2 S, sh_34_3 S, sh_34_4 S, sh_34_5 S, sh_34_6 S, sh_34_7 S, sh_35_0 S, sh_35_1 S, sh_35_2 S, sh_35_3 S, sh_40_0 S, sh_40_1 S, sh_40_2 S, sh_40_3 S, sh_40_4 S, sh_40_5 S, sh_52_0 S, sh_52_1 S, sh_52_2 S, sh_52_3 S, sh_52_4 S, sh_52_5 S, sh_52_6 S, sh_52_7 S, sh_53_0 S, sh_53_1 S, sh_53_2 S, sh_53_3 S, sh_58_0 S, sh_58_1 S, sh_58_2 S, sh_58_3 S, sh_58_4 S, sh_58_5 S, ti, e13 S nw, r4, b2_T, b2_F, Int.reduceEq, Int.reduceLT, Int.reduceLE, Int.reduceAdd, Int.reduceSub, Int.reduceMul, Int.reduceNeg, reduceIte, if_true, if_false, true_or, or_true, false_or, or_false, false_and, and_false, eq_self, not_false_eq_true, not_true_eq_false, true_and, and_true, List.cons_append, List.nil_append, List.append_nil, b2_0, b2_1, b2_01, Classical.not_not]
end CSETS
