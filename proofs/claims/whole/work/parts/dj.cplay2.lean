/-! the class's run: played to its end, or to where its wish is known -/
section CPLAY2
variable {m h g q G X : Mm} {r p n w v k j c s o f i t l ti wy b u a x bell wished : Int}
theorem em2 {P : Prop} : (¬ P ∨ P) = True := eq_true ((Classical.em P).symm)
theorem FW_up (hk : 0 ≤ k ∧ k ≤ 17) : FW m (up m (r + k) i l) r := fun a j h1 h2 => by
  rw [up_at, if_neg (fun x => h2 (by omega))]
theorem mEnd_A (h : cnt g = 1000) : mEnd g = 2 := if_pos h
theorem mEnd_B (h : ¬ cnt g = 1000) (h2 : g 70 25 = 0 ∧ rlc g = 0) : mEnd g = 0 := by
  unfold mEnd
  rw [if_neg h, if_pos h2]
theorem mEnd_C (h : ¬ cnt g = 1000) (h2 : ¬ (g 70 25 = 0 ∧ rlc g = 0)) : mEnd g = if g 70 26 = 399 then 1 else -1 := by
  unfold mEnd
  rw [if_neg h, if_neg h2]
theorem stop_103 {e : Int} : mStop g e 103 x = g 103 x := by
  unfold mStop
  rw [up_at, if_neg (by omega), up_at, if_neg (by omega)]
theorem c51f_34 (S : Sh X) {tl : Ds} {Q : Ds → Mm → List MV → Prop} {q1 q4 : MV} : WP 51 62 [(2, 34), q1, (0, bell), (0, wished), q4] [] (dsB ++ tl) X Q = Q (dsB ++ tl) X [(0, b2 (metP (X (34 + 15) bell) bell wished))] := by
  simp only [p51_62, p51_63, p51_64, p51_65, K_34, e52 S (show (34 : Int) = 34 ∨ (34 : Int) = 52 by decide), p51_68, b2_T, b2_F, Int.reduceEq, Int.reduceLT, Int.reduceLE, Int.reduceAdd, Int.reduceSub, Int.reduceMul, Int.reduceNeg, reduceIte, if_true, if_false, true_or, or_true, false_or, or_false, false_and, and_false, eq_self, not_false_eq_true, not_true_eq_false, true_and, and_true, List.cons_append, List.nil_append, List.append_nil, b2_0, b2_1, b2_01, Classical.not_not]
  by_cases h : metP (X 49 bell) bell wished
  · simp only [b2_t h, em2, b2_T, b2_F, Int.reduceEq, Int.reduceLT, Int.reduceLE, Int.reduceAdd, Int.reduceSub, Int.reduceMul, Int.reduceNeg, reduceIte, if_true, if_false, true_or, or_true, false_or, or_false, false_and, and_false, eq_self, not_false_eq_true, not_true_eq_false, true_and, and_true, List.cons_append, List.nil_append, List.append_nil, b2_0, b2_1, b2_01, Classical.not_not]
  · simp only [b2_f h, em2, b2_T, b2_F, Int.reduceEq, Int.reduceLT, Int.reduceLE, Int.reduceAdd, Int.reduceSub, Int.reduceMul, Int.reduceNeg, reduceIte, if_true, if_false, true_or, or_true, false_or, or_false, false_and, and_false, eq_self, not_false_eq_true, not_true_eq_false, true_and, and_true, List.cons_append, List.nil_append, List.append_nil, b2_0, b2_1, b2_01, Classical.not_not]
theorem c51l_34 (hp : p = 9 ∨ p = 18) (bell wished : Int) : ∀ (f : Nat) (m g : Mm), g 70 26 + f = 400 → Sh m → RR (up m 34 9 (g 70 26)) 34 p g (-1) (-1) → GI g → -(cnt g) ≤ g 70 25 → GT g → ∃ m', Sh m' ∧ FW m m' 34 ∧ (¬ isC bell → RF m' 34 (mLoop f g)) ∧ ∀ (tl : Ds) (Q : Ds → Mm → List MV → Prop), WP 51 8 [(2, 34), (2, p), (0, bell), (0, wished), (0, g 70 26)] [] (dsB ++ tl) m Q = Q (dsB ++ tl) m' [(0, b2 (metP (mLoop f g 103 (96 * g 70 45 + bell)) bell wished))] := by
  intro f
  induction f with
  | zero =>
    intro m g hf S R a hw T
    have nw := a.a.nw
    omega
  | succ f ih =>
    intro m g hf S R a hw T
    have nw := a.a.nw
    obtain ⟨m1, m2, m3, x1, x2, x3, R3, T3, F3⟩ := ctick R (by decide) hp a hw T
    have tk := tick_i a hw
    have sp := step_i a hw
    have A3 := tk.1.1
    have lt := LT_tick (d := 0) a hw T ⟨by decide, by decide⟩
    have e45 := lt.2.2
    have S3 := R3.S
    have eS : mStep g = mT1 (mTick g) := rfl
    have eE : mEnd (mStep g) = mEnd (mTick g) := by rw [eS, mEnd1]
    have f0 : FW m (up m 34 9 (g 70 26)) 34 := fun a j h1 h2 => by rw [up_at, if_neg (fun x => h2 (by omega))]
    have f3 : FW m m3 34 := FW_trans f0 F3
    have fr : ∀ c, isC c → m3 (34 + 15) c = mTick g 103 (96 * g 70 45 + c) := fun c hc => by rw [R3.C.fr c hc, e45]
    have nw0 := nw.1
    have nw1 := nw.2
    have x54 := fun (tl : Ds) (Q : Ds → Mm → List MV → Prop) => e54 (tl := tl) (Q := Q) R3 (by decide) A3.cn
    have x55 := fun (tl : Ds) (Q : Ds → Mm → List MV → Prop) => e55 (tl := tl) (Q := Q) (bell := bell) (wished := wished) S3 (show (34 : Int) = 34 ∨ (34 : Int) = 52 by decide)
    have t9 : m3 34 9 = g 70 26 := R3.X.ti.trans tk.2
    have en := R3.X.en
    simp only [Int.reduceAdd] at x1 x55
    rw [mLoop_s, eE]
    -- up to the question whether it is over
    have run : ∀ (tl : Ds) (Q : Ds → Mm → List MV → Prop), WP 51 8 [(2, 34), (2, p), (0, bell), (0, wished), (0, g 70 26)] [] (dsB ++ tl) m Q = WP 54 0 [(2, 34)] [] (dsB ++ tl) m3 (fun d2 m2 r2 => WP 51 41 [(2, 34), (2, p), (0, bell), (0, wished), (0, g 70 26)] r2 d2 m2 Q) := by
      intro tl Q
      have y1 := x1 tl
      have y2 := x2 tl
      have y3 := x3 tl
      rw [p51_8]
      simp only [p51_10, p51_13, p51_16, p51_17, p51_19, p51_22, p51_23, p51_26, p51_29, p51_30, p51_33, p51_34, p51_37, p51_38, K_27, K_28, L_28, K_29, L_29, K_30, L_30, K_31, L_31, K_32, L_32, K_33, L_33, K_34, K_35, K_36, L_36, K_37, L_37, K_38, L_38, K_39, L_39, K_40, K_41, L_41, K_42, L_42, K_43, L_43, K_44, L_44, K_45, L_45, K_46, L_46, K_47, L_47, K_48, L_48, K_49, L_49, K_50, L_50, K_51, L_51, K_52, K_53, K_54, L_54, K_55, L_55, K_56, L_56, K_57, L_57, K_58, K_59, L_59, K_60, L_60, K_61, L_61, K_62, L_62, K_63, L_63, K_64, L_64, K_65, L_65, K_66, L_66, K_67, L_67, K_68, L_68, K_69, L_69, sh_27_0 S, sh_27_1 S, sh_27_2 S, sh_27_3 S, sh_27_4 S, sh_27_5 S, sh_34_0 S, sh_34_1 S, sh_34_2 S, sh_34_3 S, sh_34_4 S, sh_34_5 S, sh_34_6 S, sh_34_7 S, sh_35_0 S, sh_35_1 S, sh_35_2 S, sh_35_3 S, sh_40_0 S, sh_40_1 S, sh_40_2 S, sh_40_3 S, sh_40_4 S, sh_40_5 S, sh_52_0 S, sh_52_1 S, sh_52_2 S, sh_52_3 S, sh_52_4 S, sh_52_5 S, sh_52_6 S, sh_52_7 S, sh_53_0 S, sh_53_1 S, sh_53_2 S, sh_53_3 S, sh_58_0 S, sh_58_1 S, sh_58_2 S, sh_58_3 S, sh_58_4 S, sh_58_5 S, nw1, up_at, y1, y2, y3, b2_T, b2_F, Int.reduceEq, Int.reduceLT, Int.reduceLE, Int.reduceAdd, Int.reduceSub, Int.reduceMul, Int.reduceNeg, reduceIte, if_true, if_false, true_or, or_true, false_or, or_false, false_and, and_false, eq_self, not_false_eq_true, not_true_eq_false, true_and, and_true, List.cons_append, List.nil_append, List.append_nil, b2_0, b2_1, b2_01, Classical.not_not]
    -- what is told where the run stops in this tick
    have stop : ∀ e : Int, mEnd (mTick g) = e → ¬ e = -1 → (∀ (tl : Ds) (Q : Ds → Mm → List MV → Prop), ∃ q4, WP 51 8 [(2, 34), (2, p), (0, bell), (0, wished), (0, g 70 26)] [] (dsB ++ tl) m Q = WP 51 62 [(2, 34), (2, p), (0, bell), (0, wished), q4] [] (dsB ++ tl) (up m3 34 10 e) Q) → ∃ m', Sh m' ∧ FW m m' 34 ∧ (¬ isC bell → RF m' 34 (if e = -1 then mLoop f (mNext (mStep g)) else mStop (mStep g) e)) ∧ ∀ (tl : Ds) (Q : Ds → Mm → List MV → Prop), WP 51 8 [(2, 34), (2, p), (0, bell), (0, wished), (0, g 70 26)] [] (dsB ++ tl) m Q = Q (dsB ++ tl) m' [(0, b2 (metP ((if e = -1 then mLoop f (mNext (mStep g)) else mStop (mStep g) e) 103 (96 * g 70 45 + bell)) bell wished))] := by
      intro e he hne hx
      have S4 : Sh (up m3 34 10 e) := Sh.up S3 (by decide)
      refine ⟨up m3 34 10 e, S4, ?_, ?_, ?_⟩
      · exact FW_trans f3 (fun a j h1 h2 => by rw [up_at, if_neg (fun x => h2 (by omega))])
      · intro hb
        rw [if_neg hne, eS]
        exact RF_stop R3 (by decide)
      · intro tl Q
        obtain ⟨q4, hx⟩ := hx tl Q
        rw [hx, c51f_34 S4, if_neg hne, stop_103, eS]
        apply q_eq
        apply b2_cg
        have e1 : up m3 34 10 e (34 + 15) bell = m3 (34 + 15) bell := rfl
        have e2 : mT1 (mTick g) 103 (96 * g 70 45 + bell) = mTick g 103 (96 * g 70 45 + bell) := rfl
        rw [e1, e2]
        constructor
        · intro y
          rw [fr bell y.1] at y
          exact y
        · intro y
          rw [← fr bell y.1] at y
          exact y
    by_cases hA : cnt (mTick g) = 1000
    · have hE := mEnd_A hA
      rw [hE]
      simp only [if_pos hA] at x54
      apply stop 2 hE (by decide)
      intro tl Q
      refine ⟨(0, g 70 26), ?_⟩
      rw [run tl Q, x54 tl]
      simp only [p51_41, b2_T, b2_F, Int.reduceEq, Int.reduceLT, Int.reduceLE, Int.reduceAdd, Int.reduceSub, Int.reduceMul, Int.reduceNeg, reduceIte, if_true, if_false, true_or, or_true, false_or, or_false, false_and, and_false, eq_self, not_false_eq_true, not_true_eq_false, true_and, and_true, List.cons_append, List.nil_append, List.append_nil, b2_0, b2_1, b2_01, Classical.not_not]
    · by_cases hB : mTick g 70 25 = 0 ∧ rlc (mTick g) = 0
      · have hE := mEnd_B hA hB
        rw [hE]
        simp only [if_neg hA, if_pos hB] at x54
        apply stop 0 hE (by decide)
        intro tl Q
        refine ⟨(0, g 70 26), ?_⟩
        rw [run tl Q, x54 tl]
        simp only [p51_41, b2_T, b2_F, Int.reduceEq, Int.reduceLT, Int.reduceLE, Int.reduceAdd, Int.reduceSub, Int.reduceMul, Int.reduceNeg, reduceIte, if_true, if_false, true_or, or_true, false_or, or_false, false_and, and_false, eq_self, not_false_eq_true, not_true_eq_false, true_and, and_true, List.cons_append, List.nil_append, List.append_nil, b2_0, b2_1, b2_01, Classical.not_not]
      · have hE := mEnd_C hA hB
        rw [tk.2] at hE
        simp only [if_neg hA, if_neg hB] at x54
        have e3 : up m3 34 10 1 = m3 := by
          apply fx
          intro x j
          rw [up_at]
          split
          · rename_i h
            rw [h.1, h.2, en]
          · rfl
        by_cases hN : g 70 26 = 399
        · rw [if_pos hN] at hE
          rw [hE]
          apply stop 1 hE (by decide)
          intro tl Q
          rw [e3]
          have w1 : w32 (399 + 1) = 400 := by decide
          by_cases hK : isC bell ∧ (¬ m3 49 bell = -1 ∨ (¬ wished = -1 ∧ wished ≤ m3 34 9))
          · refine ⟨(0, g 70 26), ?_⟩
            have y5 := x55 tl
            simp only [b2_t hK] at y5
            rw [run tl Q, x54 tl]
            simp only [p51_41, p51_44, p51_45, p51_46, p51_47, p51_50, p51_53, K_34, y5, b2_T, b2_F, Int.reduceEq, Int.reduceLT, Int.reduceLE, Int.reduceAdd, Int.reduceSub, Int.reduceMul, Int.reduceNeg, reduceIte, if_true, if_false, true_or, or_true, false_or, or_false, false_and, and_false, eq_self, not_false_eq_true, not_true_eq_false, true_and, and_true, List.cons_append, List.nil_append, List.append_nil, b2_0, b2_1, b2_01, Classical.not_not]
          · refine ⟨(0, 400), ?_⟩
            have y5 := x55 tl
            simp only [b2_f hK] at y5
            rw [run tl Q, x54 tl]
            simp only [p51_41, p51_44, p51_45, p51_46, p51_47, p51_50, p51_53, p51_56, p51_59, K_34, y5, hN, w1, show w32 400 = 400 by decide, b2_T, b2_F, Int.reduceEq, Int.reduceLT, Int.reduceLE, Int.reduceAdd, Int.reduceSub, Int.reduceMul, Int.reduceNeg, reduceIte, if_true, if_false, true_or, or_true, false_or, or_false, false_and, and_false, eq_self, not_false_eq_true, not_true_eq_false, true_and, and_true, List.cons_append, List.nil_append, List.append_nil, b2_0, b2_1, b2_01, Classical.not_not]
            rw [p51_8]
            simp only [p51_10, p51_13, b2_T, b2_F, Int.reduceEq, Int.reduceLT, Int.reduceLE, Int.reduceAdd, Int.reduceSub, Int.reduceMul, Int.reduceNeg, reduceIte, if_true, if_false, true_or, or_true, false_or, or_false, false_and, and_false, eq_self, not_false_eq_true, not_true_eq_false, true_and, and_true, List.cons_append, List.nil_append, List.append_nil, b2_0, b2_1, b2_01, Classical.not_not, Int.lt_irrefl]
        · rw [if_neg hN] at hE
          rw [hE, if_pos rfl]
          have Rn : RR (up m3 34 9 (g 70 26 + 1)) 34 p (mNext (mStep g)) (-1) (-1) := by
            have z := RR_next (RR_t1 R3 (by decide) hp) (by decide) hp
            rw [← eS] at z
            have e4 : mStep g 70 26 = g 70 26 := sp.2
            rw [e4] at z
            exact z
          have en26 : mNext (mStep g) 70 26 = g 70 26 + 1 := by
            unfold mNext
            simp only [up_at, b2_T, b2_F, Int.reduceEq, Int.reduceLT, Int.reduceLE, Int.reduceAdd, Int.reduceSub, Int.reduceMul, Int.reduceNeg, reduceIte, if_true, if_false, true_or, or_true, false_or, or_false, false_and, and_false, eq_self, not_false_eq_true, not_true_eq_false, true_and, and_true, List.cons_append, List.nil_append, List.append_nil, b2_0, b2_1, b2_01, Classical.not_not]
            rw [sp.2]
          have en45 : mNext (mStep g) 70 45 = g 70 45 := by
            show mStep g 70 45 = g 70 45
            rw [eS]
            exact e45
          have gn := GI_next sp.1.1 (by rw [sp.2]; omega)
          have Tn : GT (mNext (mStep g)) := GT_next (GT_t1 T3)
          by_cases hK : isC bell ∧ (¬ m3 49 bell = -1 ∨ (¬ wished = -1 ∧ wished ≤ m3 34 9))
          · -- the wish is known
            refine ⟨m3, S3, f3, fun hb => absurd hK.1 hb, fun tl Q => ?_⟩
            have y5 := x55 tl
            simp only [b2_t hK] at y5
            rw [run tl Q, x54 tl]
            simp only [p51_41, p51_44, p51_45, p51_46, p51_47, p51_50, p51_53, K_34, y5, b2_T, b2_F, Int.reduceEq, Int.reduceLT, Int.reduceLE, Int.reduceAdd, Int.reduceSub, Int.reduceMul, Int.reduceNeg, reduceIte, if_true, if_false, true_or, or_true, false_or, or_false, false_and, and_false, eq_self, not_false_eq_true, not_true_eq_false, true_and, and_true, List.cons_append, List.nil_append, List.append_nil, b2_0, b2_1, b2_01, Classical.not_not]
            rw [c51f_34 S3]
            apply q_eq
            apply b2_cg
            have ll := (LT_loop hK.1 f (mNext (mStep g)) gn sp.1.2 Tn (by rw [en26]; omega)).1
            rw [en45, en26] at ll
            have e5 : mNext (mStep g) 103 (96 * g 70 45 + bell) = m3 49 bell := by
              have z := fr bell hK.1
              simp only [Int.reduceAdd] at z
              rw [z]
              rfl
            unfold LT at ll
            rw [e5] at ll
            simp only [Int.reduceAdd]
            constructor
            · intro y
              refine ⟨y.1, ?_, ?_⟩
              · rw [ll.1 y.2.1]; exact y.2.1
              · rw [ll.1 y.2.1]; exact y.2.2
            · intro y
              by_cases h9 : m3 49 bell = -1
              · exfalso
                have k2 := hK.2.resolve_left (fun z => z h9)
                rw [t9] at k2
                rcases ll.2 h9 with z | z
                · exact y.2.1 z
                · rcases y.2.2 with z2 | z2
                  · exact k2.1 z2
                  · omega
              · rw [ll.1 h9] at y
                exact y
          · obtain ⟨m', r1, r2, r3, r4⟩ := ih m3 (mNext (mStep g)) (by rw [en26]; omega) S3 (by rw [en26]; exact Rn) gn sp.1.2 Tn
            refine ⟨m', r1, FW_trans f3 r2, r3, fun tl Q => ?_⟩
            have y5 := x55 tl
            simp only [b2_f hK] at y5
            have y6 := r4 tl Q
            rw [en26, en45] at y6
            have w1 : w32 (g 70 26 + 1) = g 70 26 + 1 := w32_id (by omega) (by omega)
            rw [← y6, run tl Q, x54 tl]
            simp only [p51_41, p51_44, p51_45, p51_46, p51_47, p51_50, p51_53, p51_56, p51_59, K_34, y5, w1, b2_T, b2_F, Int.reduceEq, Int.reduceLT, Int.reduceLE, Int.reduceAdd, Int.reduceSub, Int.reduceMul, Int.reduceNeg, reduceIte, if_true, if_false, true_or, or_true, false_or, or_false, false_and, and_false, eq_self, not_false_eq_true, not_true_eq_false, true_and, and_true, List.cons_append, List.nil_append, List.append_nil, b2_0, b2_1, b2_01, Classical.not_not]
theorem c51_34 (hp : p = 9 ∨ p = 18) (bell wished : Int) (S : Sh m) (Sg : Sh g) (P : PR m p g) (pv : PV g) (V : SV g) (bk : 0 ≤ w ∧ w ≤ 2) : ∃ m', Sh m' ∧ FW m m' 34 ∧ (¬ isC bell → RF m' 34 (mRuns g w)) ∧ ∀ (tl : Ds) (Q : Ds → Mm → List MV → Prop), WP 51 0 [(2, 34), (2, p), (0, bell), (0, wished), (3, 0)] [] (dsB ++ tl) m Q = Q (dsB ++ tl) m' [(0, b2 (metP (mRuns g w 103 (96 * w + bell)) bell wished))] := by
  have S1 : Sh (up g 70 45 w) := Sh_si Sg (by decide)
  have p1 : PV (up g 70 45 w) := PV_cg pv (fun j => rfl) (fun j => rfl) (fun j => rfl) (fun j => rfl) (fun j => rfl)
  have v1 : SV (up g 70 45 w) := ⟨V.n, V.v⟩
  have e45 : up g 70 45 w 70 45 = w := by simp only [up_at, b2_T, b2_F, Int.reduceEq, Int.reduceLT, Int.reduceLE, Int.reduceAdd, Int.reduceSub, Int.reduceMul, Int.reduceNeg, reduceIte, if_true, if_false, true_or, or_true, false_or, or_false, false_and, and_false, eq_self, not_false_eq_true, not_true_eq_false, true_and, and_true, List.cons_append, List.nil_append, List.append_nil, b2_0, b2_1, b2_01, Classical.not_not]
  have P1 : PR m p (up g 70 45 w) := PR_g P (fun x j h1 h2 => by rw [up_at, if_neg (by omega)]) rfl
  have bk1 : 0 ≤ up g 70 45 w 70 45 ∧ up g 70 45 w 70 45 ≤ 2 := by rw [e45]; exact bk
  have gb := GI_begin S1 p1 v1 bk1
  obtain ⟨h, u0, u1, u2, u3, u4⟩ := c53_34 hp S S1 P1 p1 v1 bk1
  obtain ⟨k0, hk0⟩ : ∃ k0, k0 = mBegin (up g 70 45 w) := ⟨_, rfl⟩
  have eb45 : mBegin (up g 70 45 w) 70 45 = w := by
    unfold mBegin
    rw [bs_70 (by decide) (by decide), b4_70 S1 (by decide) (by decide) (by decide) (by decide), e45]
  have er : mRuns g w = mLoop 400 k0 := by rw [hk0]; rfl
  rw [← hk0] at gb u1 u2 eb45
  obtain ⟨m', r1, r2, r3, r4⟩ := c51l_34 hp bell wished 400 h k0 (by rw [gb.2.2.2]; rfl) u0 (by rw [gb.2.2.2]; exact u1) gb.1 (by rw [gb.2.2.1]; have := gb.2.1; omega) u2
  refine ⟨m', r1, FW_trans (FR_W u3) r2, by rw [er]; exact r3, fun tl Q => ?_⟩
  have y4 := fun (Q : Ds → Mm → List MV → Prop) => u4 tl Q
  have y6 := r4 tl Q
  rw [gb.2.2.2, eb45] at y6
  rw [er, ← y6]
  simp only [p51_0, p51_1, p51_2, p51_5, p51_6, K_34, y4, b2_T, b2_F, Int.reduceEq, Int.reduceLT, Int.reduceLE, Int.reduceAdd, Int.reduceSub, Int.reduceMul, Int.reduceNeg, reduceIte, if_true, if_false, true_or, or_true, false_or, or_false, false_and, and_false, eq_self, not_false_eq_true, not_true_eq_false, true_and, and_true, List.cons_append, List.nil_append, List.append_nil, b2_0, b2_1, b2_01, Classical.not_not]
theorem c51f_52 (S : Sh X) {tl : Ds} {Q : Ds → Mm → List MV → Prop} {q1 q4 : MV} : WP 51 62 [(2, 52), q1, (0, bell), (0, wished), q4] [] (dsB ++ tl) X Q = Q (dsB ++ tl) X [(0, b2 (metP (X (52 + 15) bell) bell wished))] := by
  simp only [p51_62, p51_63, p51_64, p51_65, K_52, e52 S (show (52 : Int) = 34 ∨ (52 : Int) = 52 by decide), p51_68, b2_T, b2_F, Int.reduceEq, Int.reduceLT, Int.reduceLE, Int.reduceAdd, Int.reduceSub, Int.reduceMul, Int.reduceNeg, reduceIte, if_true, if_false, true_or, or_true, false_or, or_false, false_and, and_false, eq_self, not_false_eq_true, not_true_eq_false, true_and, and_true, List.cons_append, List.nil_append, List.append_nil, b2_0, b2_1, b2_01, Classical.not_not]
  by_cases h : metP (X 67 bell) bell wished
  · simp only [b2_t h, em2, b2_T, b2_F, Int.reduceEq, Int.reduceLT, Int.reduceLE, Int.reduceAdd, Int.reduceSub, Int.reduceMul, Int.reduceNeg, reduceIte, if_true, if_false, true_or, or_true, false_or, or_false, false_and, and_false, eq_self, not_false_eq_true, not_true_eq_false, true_and, and_true, List.cons_append, List.nil_append, List.append_nil, b2_0, b2_1, b2_01, Classical.not_not]
  · simp only [b2_f h, em2, b2_T, b2_F, Int.reduceEq, Int.reduceLT, Int.reduceLE, Int.reduceAdd, Int.reduceSub, Int.reduceMul, Int.reduceNeg, reduceIte, if_true, if_false, true_or, or_true, false_or, or_false, false_and, and_false, eq_self, not_false_eq_true, not_true_eq_false, true_and, and_true, List.cons_append, List.nil_append, List.append_nil, b2_0, b2_1, b2_01, Classical.not_not]
theorem c51l_52 (hp : p = 9 ∨ p = 18) (bell wished : Int) : ∀ (f : Nat) (m g : Mm), g 70 26 + f = 400 → Sh m → RR (up m 52 9 (g 70 26)) 52 p g (-1) (-1) → GI g → -(cnt g) ≤ g 70 25 → GT g → ∃ m', Sh m' ∧ FW m m' 52 ∧ (¬ isC bell → RF m' 52 (mLoop f g)) ∧ ∀ (tl : Ds) (Q : Ds → Mm → List MV → Prop), WP 51 8 [(2, 52), (2, p), (0, bell), (0, wished), (0, g 70 26)] [] (dsB ++ tl) m Q = Q (dsB ++ tl) m' [(0, b2 (metP (mLoop f g 103 (96 * g 70 45 + bell)) bell wished))] := by
  intro f
  induction f with
  | zero =>
    intro m g hf S R a hw T
    have nw := a.a.nw
    omega
  | succ f ih =>
    intro m g hf S R a hw T
    have nw := a.a.nw
    obtain ⟨m1, m2, m3, x1, x2, x3, R3, T3, F3⟩ := ctick R (by decide) hp a hw T
    have tk := tick_i a hw
    have sp := step_i a hw
    have A3 := tk.1.1
    have lt := LT_tick (d := 0) a hw T ⟨by decide, by decide⟩
    have e45 := lt.2.2
    have S3 := R3.S
    have eS : mStep g = mT1 (mTick g) := rfl
    have eE : mEnd (mStep g) = mEnd (mTick g) := by rw [eS, mEnd1]
    have f0 : FW m (up m 52 9 (g 70 26)) 52 := fun a j h1 h2 => by rw [up_at, if_neg (fun x => h2 (by omega))]
    have f3 : FW m m3 52 := FW_trans f0 F3
    have fr : ∀ c, isC c → m3 (52 + 15) c = mTick g 103 (96 * g 70 45 + c) := fun c hc => by rw [R3.C.fr c hc, e45]
    have nw0 := nw.1
    have nw1 := nw.2
    have x54 := fun (tl : Ds) (Q : Ds → Mm → List MV → Prop) => e54 (tl := tl) (Q := Q) R3 (by decide) A3.cn
    have x55 := fun (tl : Ds) (Q : Ds → Mm → List MV → Prop) => e55 (tl := tl) (Q := Q) (bell := bell) (wished := wished) S3 (show (52 : Int) = 34 ∨ (52 : Int) = 52 by decide)
    have t9 : m3 52 9 = g 70 26 := R3.X.ti.trans tk.2
    have en := R3.X.en
    simp only [Int.reduceAdd] at x1 x55
    rw [mLoop_s, eE]
    -- up to the question whether it is over
    have run : ∀ (tl : Ds) (Q : Ds → Mm → List MV → Prop), WP 51 8 [(2, 52), (2, p), (0, bell), (0, wished), (0, g 70 26)] [] (dsB ++ tl) m Q = WP 54 0 [(2, 52)] [] (dsB ++ tl) m3 (fun d2 m2 r2 => WP 51 41 [(2, 52), (2, p), (0, bell), (0, wished), (0, g 70 26)] r2 d2 m2 Q) := by
      intro tl Q
      have y1 := x1 tl
      have y2 := x2 tl
      have y3 := x3 tl
      rw [p51_8]
      simp only [p51_10, p51_13, p51_16, p51_17, p51_19, p51_22, p51_23, p51_26, p51_29, p51_30, p51_33, p51_34, p51_37, p51_38, K_27, K_28, L_28, K_29, L_29, K_30, L_30, K_31, L_31, K_32, L_32, K_33, L_33, K_34, K_35, K_36, L_36, K_37, L_37, K_38, L_38, K_39, L_39, K_40, K_41, L_41, K_42, L_42, K_43, L_43, K_44, L_44, K_45, L_45, K_46, L_46, K_47, L_47, K_48, L_48, K_49, L_49, K_50, L_50, K_51, L_51, K_52, K_53, K_54, L_54, K_55, L_55, K_56, L_56, K_57, L_57, K_58, K_59, L_59, K_60, L_60, K_61, L_61, K_62, L_62, K_63, L_63, K_64, L_64, K_65, L_65, K_66, L_66, K_67, L_67, K_68, L_68, K_69, L_69, sh_27_0 S, sh_27_1 S, sh_27_2 S, sh_27_3 S, sh_27_4 S, sh_27_5 S, sh_34_0 S, sh_34_1 S, sh_34_2 S, sh_34_3 S, sh_34_4 S, sh_34_5 S, sh_34_6 S, sh_34_7 S, sh_35_0 S, sh_35_1 S, sh_35_2 S, sh_35_3 S, sh_40_0 S, sh_40_1 S, sh_40_2 S, sh_40_3 S, sh_40_4 S, sh_40_5 S, sh_52_0 S, sh_52_1 S, sh_52_2 S, sh_52_3 S, sh_52_4 S, sh_52_5 S, sh_52_6 S, sh_52_7 S, sh_53_0 S, sh_53_1 S, sh_53_2 S, sh_53_3 S, sh_58_0 S, sh_58_1 S, sh_58_2 S, sh_58_3 S, sh_58_4 S, sh_58_5 S, nw1, up_at, y1, y2, y3, b2_T, b2_F, Int.reduceEq, Int.reduceLT, Int.reduceLE, Int.reduceAdd, Int.reduceSub, Int.reduceMul, Int.reduceNeg, reduceIte, if_true, if_false, true_or, or_true, false_or, or_false, false_and, and_false, eq_self, not_false_eq_true, not_true_eq_false, true_and, and_true, List.cons_append, List.nil_append, List.append_nil, b2_0, b2_1, b2_01, Classical.not_not]
    -- what is told where the run stops in this tick
    have stop : ∀ e : Int, mEnd (mTick g) = e → ¬ e = -1 → (∀ (tl : Ds) (Q : Ds → Mm → List MV → Prop), ∃ q4, WP 51 8 [(2, 52), (2, p), (0, bell), (0, wished), (0, g 70 26)] [] (dsB ++ tl) m Q = WP 51 62 [(2, 52), (2, p), (0, bell), (0, wished), q4] [] (dsB ++ tl) (up m3 52 10 e) Q) → ∃ m', Sh m' ∧ FW m m' 52 ∧ (¬ isC bell → RF m' 52 (if e = -1 then mLoop f (mNext (mStep g)) else mStop (mStep g) e)) ∧ ∀ (tl : Ds) (Q : Ds → Mm → List MV → Prop), WP 51 8 [(2, 52), (2, p), (0, bell), (0, wished), (0, g 70 26)] [] (dsB ++ tl) m Q = Q (dsB ++ tl) m' [(0, b2 (metP ((if e = -1 then mLoop f (mNext (mStep g)) else mStop (mStep g) e) 103 (96 * g 70 45 + bell)) bell wished))] := by
      intro e he hne hx
      have S4 : Sh (up m3 52 10 e) := Sh.up S3 (by decide)
      refine ⟨up m3 52 10 e, S4, ?_, ?_, ?_⟩
      · exact FW_trans f3 (fun a j h1 h2 => by rw [up_at, if_neg (fun x => h2 (by omega))])
      · intro hb
        rw [if_neg hne, eS]
        exact RF_stop R3 (by decide)
      · intro tl Q
        obtain ⟨q4, hx⟩ := hx tl Q
        rw [hx, c51f_52 S4, if_neg hne, stop_103, eS]
        apply q_eq
        apply b2_cg
        have e1 : up m3 52 10 e (52 + 15) bell = m3 (52 + 15) bell := rfl
        have e2 : mT1 (mTick g) 103 (96 * g 70 45 + bell) = mTick g 103 (96 * g 70 45 + bell) := rfl
        rw [e1, e2]
        constructor
        · intro y
          rw [fr bell y.1] at y
          exact y
        · intro y
          rw [← fr bell y.1] at y
          exact y
    by_cases hA : cnt (mTick g) = 1000
    · have hE := mEnd_A hA
      rw [hE]
      simp only [if_pos hA] at x54
      apply stop 2 hE (by decide)
      intro tl Q
      refine ⟨(0, g 70 26), ?_⟩
      rw [run tl Q, x54 tl]
      simp only [p51_41, b2_T, b2_F, Int.reduceEq, Int.reduceLT, Int.reduceLE, Int.reduceAdd, Int.reduceSub, Int.reduceMul, Int.reduceNeg, reduceIte, if_true, if_false, true_or, or_true, false_or, or_false, false_and, and_false, eq_self, not_false_eq_true, not_true_eq_false, true_and, and_true, List.cons_append, List.nil_append, List.append_nil, b2_0, b2_1, b2_01, Classical.not_not]
    · by_cases hB : mTick g 70 25 = 0 ∧ rlc (mTick g) = 0
      · have hE := mEnd_B hA hB
        rw [hE]
        simp only [if_neg hA, if_pos hB] at x54
        apply stop 0 hE (by decide)
        intro tl Q
        refine ⟨(0, g 70 26), ?_⟩
        rw [run tl Q, x54 tl]
        simp only [p51_41, b2_T, b2_F, Int.reduceEq, Int.reduceLT, Int.reduceLE, Int.reduceAdd, Int.reduceSub, Int.reduceMul, Int.reduceNeg, reduceIte, if_true, if_false, true_or, or_true, false_or, or_false, false_and, and_false, eq_self, not_false_eq_true, not_true_eq_false, true_and, and_true, List.cons_append, List.nil_append, List.append_nil, b2_0, b2_1, b2_01, Classical.not_not]
      · have hE := mEnd_C hA hB
        rw [tk.2] at hE
        simp only [if_neg hA, if_neg hB] at x54
        have e3 : up m3 52 10 1 = m3 := by
          apply fx
          intro x j
          rw [up_at]
          split
          · rename_i h
            rw [h.1, h.2, en]
          · rfl
        by_cases hN : g 70 26 = 399
        · rw [if_pos hN] at hE
          rw [hE]
          apply stop 1 hE (by decide)
          intro tl Q
          rw [e3]
          have w1 : w32 (399 + 1) = 400 := by decide
          by_cases hK : isC bell ∧ (¬ m3 67 bell = -1 ∨ (¬ wished = -1 ∧ wished ≤ m3 52 9))
          · refine ⟨(0, g 70 26), ?_⟩
            have y5 := x55 tl
            simp only [b2_t hK] at y5
            rw [run tl Q, x54 tl]
            simp only [p51_41, p51_44, p51_45, p51_46, p51_47, p51_50, p51_53, K_52, y5, b2_T, b2_F, Int.reduceEq, Int.reduceLT, Int.reduceLE, Int.reduceAdd, Int.reduceSub, Int.reduceMul, Int.reduceNeg, reduceIte, if_true, if_false, true_or, or_true, false_or, or_false, false_and, and_false, eq_self, not_false_eq_true, not_true_eq_false, true_and, and_true, List.cons_append, List.nil_append, List.append_nil, b2_0, b2_1, b2_01, Classical.not_not]
          · refine ⟨(0, 400), ?_⟩
            have y5 := x55 tl
            simp only [b2_f hK] at y5
            rw [run tl Q, x54 tl]
            simp only [p51_41, p51_44, p51_45, p51_46, p51_47, p51_50, p51_53, p51_56, p51_59, K_52, y5, hN, w1, show w32 400 = 400 by decide, b2_T, b2_F, Int.reduceEq, Int.reduceLT, Int.reduceLE, Int.reduceAdd, Int.reduceSub, Int.reduceMul, Int.reduceNeg, reduceIte, if_true, if_false, true_or, or_true, false_or, or_false, false_and, and_false, eq_self, not_false_eq_true, not_true_eq_false, true_and, and_true, List.cons_append, List.nil_append, List.append_nil, b2_0, b2_1, b2_01, Classical.not_not]
            rw [p51_8]
            simp only [p51_10, p51_13, b2_T, b2_F, Int.reduceEq, Int.reduceLT, Int.reduceLE, Int.reduceAdd, Int.reduceSub, Int.reduceMul, Int.reduceNeg, reduceIte, if_true, if_false, true_or, or_true, false_or, or_false, false_and, and_false, eq_self, not_false_eq_true, not_true_eq_false, true_and, and_true, List.cons_append, List.nil_append, List.append_nil, b2_0, b2_1, b2_01, Classical.not_not, Int.lt_irrefl]
        · rw [if_neg hN] at hE
          rw [hE, if_pos rfl]
          have Rn : RR (up m3 52 9 (g 70 26 + 1)) 52 p (mNext (mStep g)) (-1) (-1) := by
            have z := RR_next (RR_t1 R3 (by decide) hp) (by decide) hp
            rw [← eS] at z
            have e4 : mStep g 70 26 = g 70 26 := sp.2
            rw [e4] at z
            exact z
          have en26 : mNext (mStep g) 70 26 = g 70 26 + 1 := by
            unfold mNext
            simp only [up_at, b2_T, b2_F, Int.reduceEq, Int.reduceLT, Int.reduceLE, Int.reduceAdd, Int.reduceSub, Int.reduceMul, Int.reduceNeg, reduceIte, if_true, if_false, true_or, or_true, false_or, or_false, false_and, and_false, eq_self, not_false_eq_true, not_true_eq_false, true_and, and_true, List.cons_append, List.nil_append, List.append_nil, b2_0, b2_1, b2_01, Classical.not_not]
            rw [sp.2]
          have en45 : mNext (mStep g) 70 45 = g 70 45 := by
            show mStep g 70 45 = g 70 45
            rw [eS]
            exact e45
          have gn := GI_next sp.1.1 (by rw [sp.2]; omega)
          have Tn : GT (mNext (mStep g)) := GT_next (GT_t1 T3)
          by_cases hK : isC bell ∧ (¬ m3 67 bell = -1 ∨ (¬ wished = -1 ∧ wished ≤ m3 52 9))
          · -- the wish is known
            refine ⟨m3, S3, f3, fun hb => absurd hK.1 hb, fun tl Q => ?_⟩
            have y5 := x55 tl
            simp only [b2_t hK] at y5
            rw [run tl Q, x54 tl]
            simp only [p51_41, p51_44, p51_45, p51_46, p51_47, p51_50, p51_53, K_52, y5, b2_T, b2_F, Int.reduceEq, Int.reduceLT, Int.reduceLE, Int.reduceAdd, Int.reduceSub, Int.reduceMul, Int.reduceNeg, reduceIte, if_true, if_false, true_or, or_true, false_or, or_false, false_and, and_false, eq_self, not_false_eq_true, not_true_eq_false, true_and, and_true, List.cons_append, List.nil_append, List.append_nil, b2_0, b2_1, b2_01, Classical.not_not]
            rw [c51f_52 S3]
            apply q_eq
            apply b2_cg
            have ll := (LT_loop hK.1 f (mNext (mStep g)) gn sp.1.2 Tn (by rw [en26]; omega)).1
            rw [en45, en26] at ll
            have e5 : mNext (mStep g) 103 (96 * g 70 45 + bell) = m3 67 bell := by
              have z := fr bell hK.1
              simp only [Int.reduceAdd] at z
              rw [z]
              rfl
            unfold LT at ll
            rw [e5] at ll
            simp only [Int.reduceAdd]
            constructor
            · intro y
              refine ⟨y.1, ?_, ?_⟩
              · rw [ll.1 y.2.1]; exact y.2.1
              · rw [ll.1 y.2.1]; exact y.2.2
            · intro y
              by_cases h9 : m3 67 bell = -1
              · exfalso
                have k2 := hK.2.resolve_left (fun z => z h9)
                rw [t9] at k2
                rcases ll.2 h9 with z | z
                · exact y.2.1 z
                · rcases y.2.2 with z2 | z2
                  · exact k2.1 z2
                  · omega
              · rw [ll.1 h9] at y
                exact y
          · obtain ⟨m', r1, r2, r3, r4⟩ := ih m3 (mNext (mStep g)) (by rw [en26]; omega) S3 (by rw [en26]; exact Rn) gn sp.1.2 Tn
            refine ⟨m', r1, FW_trans f3 r2, r3, fun tl Q => ?_⟩
            have y5 := x55 tl
            simp only [b2_f hK] at y5
            have y6 := r4 tl Q
            rw [en26, en45] at y6
            have w1 : w32 (g 70 26 + 1) = g 70 26 + 1 := w32_id (by omega) (by omega)
            rw [← y6, run tl Q, x54 tl]
            simp only [p51_41, p51_44, p51_45, p51_46, p51_47, p51_50, p51_53, p51_56, p51_59, K_52, y5, w1, b2_T, b2_F, Int.reduceEq, Int.reduceLT, Int.reduceLE, Int.reduceAdd, Int.reduceSub, Int.reduceMul, Int.reduceNeg, reduceIte, if_true, if_false, true_or, or_true, false_or, or_false, false_and, and_false, eq_self, not_false_eq_true, not_true_eq_false, true_and, and_true, List.cons_append, List.nil_append, List.append_nil, b2_0, b2_1, b2_01, Classical.not_not]
theorem c51_52 (hp : p = 9 ∨ p = 18) (bell wished : Int) (S : Sh m) (Sg : Sh g) (P : PR m p g) (pv : PV g) (V : SV g) (bk : 0 ≤ w ∧ w ≤ 2) : ∃ m', Sh m' ∧ FW m m' 52 ∧ (¬ isC bell → RF m' 52 (mRuns g w)) ∧ ∀ (tl : Ds) (Q : Ds → Mm → List MV → Prop), WP 51 0 [(2, 52), (2, p), (0, bell), (0, wished), (3, 0)] [] (dsB ++ tl) m Q = Q (dsB ++ tl) m' [(0, b2 (metP (mRuns g w 103 (96 * w + bell)) bell wished))] := by
  have S1 : Sh (up g 70 45 w) := Sh_si Sg (by decide)
  have p1 : PV (up g 70 45 w) := PV_cg pv (fun j => rfl) (fun j => rfl) (fun j => rfl) (fun j => rfl) (fun j => rfl)
  have v1 : SV (up g 70 45 w) := ⟨V.n, V.v⟩
  have e45 : up g 70 45 w 70 45 = w := by simp only [up_at, b2_T, b2_F, Int.reduceEq, Int.reduceLT, Int.reduceLE, Int.reduceAdd, Int.reduceSub, Int.reduceMul, Int.reduceNeg, reduceIte, if_true, if_false, true_or, or_true, false_or, or_false, false_and, and_false, eq_self, not_false_eq_true, not_true_eq_false, true_and, and_true, List.cons_append, List.nil_append, List.append_nil, b2_0, b2_1, b2_01, Classical.not_not]
  have P1 : PR m p (up g 70 45 w) := PR_g P (fun x j h1 h2 => by rw [up_at, if_neg (by omega)]) rfl
  have bk1 : 0 ≤ up g 70 45 w 70 45 ∧ up g 70 45 w 70 45 ≤ 2 := by rw [e45]; exact bk
  have gb := GI_begin S1 p1 v1 bk1
  obtain ⟨h, u0, u1, u2, u3, u4⟩ := c53_52 hp S S1 P1 p1 v1 bk1
  obtain ⟨k0, hk0⟩ : ∃ k0, k0 = mBegin (up g 70 45 w) := ⟨_, rfl⟩
  have eb45 : mBegin (up g 70 45 w) 70 45 = w := by
    unfold mBegin
    rw [bs_70 (by decide) (by decide), b4_70 S1 (by decide) (by decide) (by decide) (by decide), e45]
  have er : mRuns g w = mLoop 400 k0 := by rw [hk0]; rfl
  rw [← hk0] at gb u1 u2 eb45
  obtain ⟨m', r1, r2, r3, r4⟩ := c51l_52 hp bell wished 400 h k0 (by rw [gb.2.2.2]; rfl) u0 (by rw [gb.2.2.2]; exact u1) gb.1 (by rw [gb.2.2.1]; have := gb.2.1; omega) u2
  refine ⟨m', r1, FW_trans (FR_W u3) r2, by rw [er]; exact r3, fun tl Q => ?_⟩
  have y4 := fun (Q : Ds → Mm → List MV → Prop) => u4 tl Q
  have y6 := r4 tl Q
  rw [gb.2.2.2, eb45] at y6
  rw [er, ← y6]
  simp only [p51_0, p51_1, p51_2, p51_5, p51_6, K_52, y4, b2_T, b2_F, Int.reduceEq, Int.reduceLT, Int.reduceLE, Int.reduceAdd, Int.reduceSub, Int.reduceMul, Int.reduceNeg, reduceIte, if_true, if_false, true_or, or_true, false_or, or_false, false_and, and_false, eq_self, not_false_eq_true, not_true_eq_false, true_and, and_true, List.cons_append, List.nil_append, List.append_nil, b2_0, b2_1, b2_01, Classical.not_not]
end CPLAY2
