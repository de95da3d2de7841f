/-! calls, both sides: what is told, run -/
section CALLS5
variable {tl : Ds} {ds ds' : Ds} {m X Y Z X' Y' g h A B : Mm} {Q : Ds → Mm → List MV → Prop} {p q c k a b s o v i j d n w t : Int} {M M' : Nat} {as as' : List MV}
theorem call_status (J : JS ds m m n) (hw : -2147483648 ≤ w ∧ w < 2147483648) : CALL 73 189 [(2, 0), (0, w), (3, 0)] [(2, 70), (0, w)] ds m n := by
  obtain ⟨tl, rfl⟩ := J.Dt
  refine CALL_rd J (fun Q => e73 J.S hw) (fun Q => ?_)
  rw [e189 J.W.S hw]
  refine q_eq ?_
  have r0 : sm (fun c => b2 (isK 0 (m 72 c))) 96 = sm (fun c => b2 (¬ m 10 c = 0)) 96 := sm_cg 96 (fun c c0 c1 => by
    have kc := J.P.k c ⟨c0, by omega⟩
    simp only [Int.reduceAdd] at kc
    refine b2_cg ?_
    rw [kc]
    constructor
    · intro y
      rcases y with y | y
      · exact y.2
      · exact absurd rfl y.1
    · exact fun y => Or.inl ⟨rfl, y⟩)
  have r1 : sm (fun c => b2 (¬ m 76 c = 0)) 96 = sm (fun c => b2 (¬ m 14 c = 0)) 96 := sm_cg 96 (fun c c0 c1 => by
    have bc := J.P.b c ⟨c0, by omega⟩
    simp only [Int.reduceAdd] at bc
    refine b2_cg ?_
    rw [bc])
  have r3 : sm (fun c => b2 (isK 8 (m 72 c))) 96 = sm (fun c => b2 (m 10 c = 8)) 96 := sm_cg 96 (fun c c0 c1 => by
    have kc := J.P.k c ⟨c0, by omega⟩
    simp only [Int.reduceAdd] at kc
    refine b2_cg ?_
    rw [kc]
    constructor
    · intro y
      rcases y with y | y
      · exact absurd y.1 (by decide)
      · exact y.2
    · exact fun y => Or.inr ⟨by decide, y⟩)
  have r2 := J.P.s
  have r4 := J.Rn.1
  unfold mStat xStat
  rw [r0, r1, r2, r3, r4]
  by_cases h6 : 11 ≤ w ∧ w ≤ 17
  · rw [J.Rf (w - 10) (by omega) (by omega)]
  · simp only [if_neg h6]
theorem call_ran (J : JS ds m m n) : CALL 83 168 [(2, 0), (0, w)] [(2, 70), (0, w)] ds m n := by
  obtain ⟨tl, rfl⟩ := J.Dt
  refine CALL_rd J (fun Q => e83 J.S) (fun Q => ?_)
  rw [e168 J.W.S, lt_ran J.Lt ⟨J.Rn.1, J.Rn.2.1⟩]
theorem lr_of (J : JS ds m m n) (h : 0 < m 70 10) : LR m m := by
  rcases J.Lt with y | y
  · have := J.Rn.1
    omega
  · exact y.2
theorem call_strike (J : JS ds m m n) : CALL 84 169 [(2, 0), (0, i), (0, w), (3, 0)] [(2, 70), (0, i), (0, w)] ds m n := by
  obtain ⟨tl, rfl⟩ := J.Dt
  refine CALL_rd J (fun Q => e84 J.S (lt_cn J.Lt) (lt_pl J.Lt)) (fun Q => ?_)
  rw [e169 J.W.S (fun y => (lr_of J y).cn), lt_stk J.Lt ⟨J.Rn.1, J.Rn.2.1⟩]
theorem call_ended (J : JS ds m m n) : CALL 85 170 [(2, 0), (0, c), (0, w)] [(2, 70), (0, c), (0, w)] ds m n := by
  obtain ⟨tl, rfl⟩ := J.Dt
  refine CALL_rd J (fun Q => e85 J.S) (fun Q => ?_)
  rw [e170 J.W.S, lt_end J.Lt ⟨J.Rn.1, J.Rn.2.1⟩]
theorem call_why (J : JS ds m m n) (hi : -2147483648 ≤ i ∧ i < 2147483648) : CALL 86 171 [(2, 0), (0, d), (0, i), (3, 0), (3, 0)] [(2, 70), (0, d), (0, i), (3, 0), (3, 0), (3, 0)] ds m n := by
  obtain ⟨tl, rfl⟩ := J.Dt
  have r := J.Rn
  have w1 := lt_why (v := if 0 < m 70 10 ∧ isC d ∧ ¬ m 105 d = 0 then m 104 d else -1) (d := d) (i := i) J.Lt ⟨r.1, r.2.1⟩ rfl
  refine CALL_rd J (fun Q => e86 J.S (lt_cn J.Lt) (lt_pl J.Lt) (lt_ch J.Lt) hi w1.1) (fun Q => ?_)
  rw [e171 J.W.S (fun y => (lr_of J y).cn.2) (fun y => fun i i0 i1 => ((lr_of J y).lb i i0 i1).2.2.1) (by omega) (fun y hd h5 => ((lr_of J y).rs d hd h5).1), w1.2]
theorem gtL_cg (l : LSX m p a m q b w) : gtL m p a i = gtL m q b i := by
  unfold gtL
  by_cases h : 0 ≤ i ∧ i < a
  · rw [if_pos h, if_pos (by rw [← l.1]; exact h), l.2.2 i h.1 h.2]
  · rw [if_neg h, if_neg (by rw [← l.1]; exact h)]
theorem call_weak (J : JS ds m m n) : CALL 90 178 [(2, 0), (0, i)] [(2, 70), (0, i)] ds m n := by
  obtain ⟨tl, rfl⟩ := J.Dt
  have l := J.Wk
  refine CALL_rd J (fun Q => e90 J.S l.2.1) (fun Q => ?_)
  rw [e178 J.W.S (by rw [← l.1]; exact l.2.1), gtL_cg l]
theorem call_fit (J : JS ds m m n) : CALL 92 181 [(2, 0), (0, i)] [(2, 70), (0, i)] ds m n := by
  obtain ⟨tl, rfl⟩ := J.Dt
  have l := J.Ft
  refine CALL_rd J (fun Q => e92 J.S l.2.1) (fun Q => ?_)
  rw [e181 J.W.S (by rw [← l.1]; exact l.2.1), gtL_cg l]
theorem call_piece (J : JS ds m m n) : CALL 94 186 [(2, 0), (0, i)] [(2, 70), (0, i)] ds m n := by
  obtain ⟨tl, rfl⟩ := J.Dt
  have l := J.Fw
  refine CALL_rd J (fun Q => e94 J.S l.2.1) (fun Q => ?_)
  rw [e186 J.W.S (by rw [← l.1]; exact l.2.1), gtL_cg l]
theorem e82g (S : Sh m) (W : WG g) (P : PR m 9 g) (hr : 0 ≤ m 0 6 ∧ m 0 6 < 1000000) : ∃ X, Sh X ∧ (∀ x j, ¬ (27 ≤ x ∧ x ≤ 51) → ¬ (x = 0 ∧ j = 6) → X x j = m x j) ∧ X 0 6 = m 0 6 + 1 ∧ RF X 34 (mRuns g 0) ∧ ∀ (tl : Ds) (Q : Ds → Mm → List MV → Prop), WP 82 0 [(2, 0)] [] (dsB ++ tl) m Q = Q (dsB ++ tl) X [(0, X 34 9)] := by
  have w1 : w32 (m 0 6 + 1) = m 0 6 + 1 := w32_id (by omega) (by omega)
  have S0 : Sh (up m 0 6 (m 0 6 + 1)) := Sh.up S (by decide)
  have P0 : PR (up m 0 6 (m 0 6 + 1)) 9 g := PR_m P (fun x j h1 h2 => by rw [up_at, if_neg (by omega)])
  obtain ⟨X, S1, F1, R1, h1⟩ := c51_34 (m := up m 0 6 (m 0 6 + 1)) (g := g) (w := 0) (p := 9) (Or.inl rfl) (-1) (-1) S0 W.S P0 W.p W.v (by decide)
  refine ⟨X, S1, fun x j h2 h3 => by rw [F1 x j (by omega) (by omega), up_at, if_neg h3], ?_, R1 (by omega), fun tl Q => ?_⟩
  · rw [F1 0 6 (by decide) (by decide)]
    simp only [up_at, b2_T, b2_F, Int.reduceEq, Int.reduceLT, Int.reduceLE, Int.reduceAdd, Int.reduceSub, Int.reduceMul, Int.reduceNeg, reduceIte, if_true, if_false, true_or, or_true, false_or, or_false, false_and, and_false, eq_self, not_false_eq_true, not_true_eq_false, true_and, and_true, List.cons_append, List.nil_append, List.append_nil, b2_0, b2_1, b2_01, Classical.not_not]
  · have y1 := h1 tl
    generalize b2 (metP (mRuns g 0 103 (96 * 0 + -1)) (-1) (-1)) = zz at y1
    simp only [p82_0, p82_1, p82_2, p82_5, p82_6, p82_7, p82_10, p82_11, p82_14, p82_15, p82_18, p82_19, p82_20, p82_23, p82_24, p82_25, p82_28, p82_31, K_0, K_34, sh_0_0 S0, sh_0_4 S0, sh_0_4 S1, w1, y1, b2_T, b2_F, Int.reduceEq, Int.reduceLT, Int.reduceLE, Int.reduceAdd, Int.reduceSub, Int.reduceMul, Int.reduceNeg, reduceIte, if_true, if_false, true_or, or_true, false_or, or_false, false_and, and_false, eq_self, not_false_eq_true, not_true_eq_false, true_and, and_true, List.cons_append, List.nil_append, List.append_nil, b2_0, b2_1, b2_01, Classical.not_not]
theorem call_run (J : JS ds m m n) (hn : n < 1000000) : CALL 82 167 [(2, 0)] [(2, 70), (3, 0)] ds m n := by
  obtain ⟨tl, rfl⟩ := J.Dt
  have r := J.Rn
  obtain ⟨X, SX, FX, x6, RX, hX⟩ := e82 J.W J.P ⟨r.2.1, by omega⟩
  have fr : ∀ x j, 70 ≤ x → x ≤ 113 → X x j = m x j := fun x j h1 h2 => FX x j (by omega) (by omega)
  have WX : WG X := WG_rf J.W SX fr
  have PX : PE m X := PE_cg (fun x j h1 h2 => fr x j (by omega) (by omega)) (fr 70 6 (by decide) (by decide))
  have x10 : X 70 10 = m 70 10 := fr 70 10 (by decide) (by decide)
  have fX : ∀ x j, (9 ≤ x ∧ x ≤ 17) → X x j = m x j := fun x j h => FX x j (by omega) (by omega)
  -- the class's run against the memory that it leaves
  obtain ⟨X2, _, _, _, R2, h2⟩ := e82g J.S WX (PR_pe J.P PX) ⟨r.2.1, by omega⟩
  have e2X : X = X2 := by
    have y := (h2 [] (fun _ q _ => q = X2)).symm.trans (hX [] (fun _ q _ => q = X2))
    exact y.mp rfl
  have RF2 : RF X 34 (mRuns X 0) := by
    rw [← e2X] at R2
    exact R2
  have LRX : LR X (mRun X (X 70 10 + 1)) := LR_run WX RF2
  obtain ⟨Fz, Sz, z10⟩ := mRun_f (v := X 70 10 + 1) WX
  have ans : X 34 9 = mRuns X 0 101 1 := by
    have t1 := RF2.ti
    rw [runs_45 WX (by decide)] at t1
    exact t1
  obtain ⟨Z, hZ⟩ : ∃ Z, Z = mRun X (X 70 10 + 1) := ⟨_, rfl⟩
  have e167' := fun (Q : Ds → Mm → List MV → Prop) => e167 (tl := tl) (Q := Q) WX (by rw [x10, ← r.1]; omega)
  rw [← hZ] at LRX Fz Sz z10 e167'
  refine CALL_of (v := (0, X 34 9)) (X := X) (Z := Z) J (fun Q => hX tl Q) (fun x j h => FX x j (by omega) (by omega)) SX (fun J1 => ?_) (fun Q => by rw [ans]; exact e167' Q) (fun x j h => Fz x j (by omega) (by omega))
  have g7 : ∀ x j, 72 ≤ x → x ≤ 79 → Z x j = X x j := fun x j h1 h2 => Fz x j (by omega) (by omega)
  have g6 : Z 70 6 = X 70 6 := Fz 70 6 (by decide) (by omega)
  refine ⟨⟨Sz, PV_cg WX.p (fun j => g7 _ _ (by decide) (by decide)) (fun j => g7 _ _ (by decide) (by decide)) (fun j => g7 _ _ (by decide) (by decide)) (fun j => g7 _ _ (by decide) (by decide)) (fun j => g7 _ _ (by decide) (by decide)), SV_cg WX.v (fun x j h1 h2 => g7 x j (by omega) h2) g6, PN_cg WX.n (fun x j h1 h2 => g7 x j h1 (by omega))⟩, SX, ?_, ?_, ?_, ?_, ?_, ?_, ?_, ?_, ?_, J.Dt, by have := J.Ln; omega, by have := J.Sl; omega⟩
  · exact PR_pe (PR_m J1.P (fun x j h1 h2 => fX x j (by omega))) (PE_cg g7 g6)
  · exact ZP_cg J.Z (fun x j h1 h2 => fX x j (by omega))
  · rw [x6, z10, x10]
    omega
  · intro i i0 i1
    rw [FX 3 i (by omega) (by omega), Fz 71 i (by omega) (by omega)]
    exact J1.Rf i i0 i1
  · right
    exact ⟨by rw [x6]; omega, LRX⟩
  · exact LSX_cg J1.Wk (fun i => FX _ _ (by omega) (by omega)) (fun i => Fz _ _ (by omega) (by omega)) (FX _ _ (by omega) (by omega)) (Fz _ _ (by omega) (by omega))
  · exact LSX_cg J1.Ft (fun i => FX _ _ (by omega) (by omega)) (fun i => Fz _ _ (by omega) (by omega)) (FX _ _ (by omega) (by omega)) (Fz _ _ (by omega) (by omega))
  · exact LSX_cg J1.Fw (fun i => FX _ _ (by omega) (by omega)) (fun i => Fz _ _ (by omega) (by omega)) (FX _ _ (by omega) (by omega)) (Fz _ _ (by omega) (by omega))
  · exact SHV_fr J1.Hv (fun x j h => FX x j (by omega) (by omega)) (fun x j h1 h2 => Fz x j (by omega) (by omega))
end CALLS5
