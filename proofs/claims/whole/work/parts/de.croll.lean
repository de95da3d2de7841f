/-! the class's run: balls roll, related -/
section CROLL
variable {tl : Ds} {m h g q G X : Mm} {Q : Ds → Mm → List MV → Prop} {r p n w v k j c s o f i t l ti wy b u a x : Int}
theorem RR_bal (R : RR m r p g w v) (hr : r = 34 ∨ r = 52) (hp : p = 9 ∨ p = 18) (S : Sh X) (B : RB X r G) (fm : ∀ x j, ¬ (r + 6 ≤ x ∧ x ≤ r + 11) → X x j = m x j) (fg : ∀ x j, ¬ (95 ≤ x ∧ x ≤ 99) → ¬ x = 101 → G x j = g x j) (f1 : ∀ j, ¬ j = 5 → G 101 (6 * g 70 45 + j) = g 101 (6 * g 70 45 + j)) : RR X r p G w v := by
  have e45 := fg 70 45 (by decide) (by decide)
  have ec : cnt G = cnt g := by
    unfold cnt
    rw [e45, f1 2 (by decide)]
  refine ⟨S, ?_, ?_, ?_, B, ?_, ?_, ?_⟩
  · rw [fm _ _ (by omega)]; exact R.pp
  · exact PR_g (PR_m R.P (fun x j h1 h2 => fm x j (by omega))) (fun x j h1 h2 => fg x j (by omega) (by omega)) (fg 70 6 (by decide) (by decide))
  · exact RC_g (RC_m R.C (fun x j h1 h2 => fm x j (by omega))) (fun x j hx => fg x j (by omega) (by omega)) e45
  · exact RS_g (RS_m R.X (fm _ _ (by omega)) (fm _ _ (by omega)) (fm _ _ (by omega)) (fm _ _ (by omega)) (fm _ _ (by omega))) (fg 70 26 (by decide) (by decide)) (by rw [e45, f1 3 (by decide)]) (by rw [e45, f1 4 (by decide)]) ec
  · exact RLo_g (RLo_m R.L (fun x j h1 h2 => fm x j (by omega))) e45 ec (fun j => fg 102 j (by decide) (by decide)) (fun j => fg 72 j (by decide) (by decide))
  · exact RQ_g (RQ_m R.Q (fun x j h1 h2 => fm x j (by omega))) (fun x j h1 h2 => fg x j (by omega) (by omega)) (fg 70 24 (by decide) (by decide)) (fg 70 25 (by decide) (by decide))
theorem RR_lie (R : RR m r p g w v) (hr : r = 34 ∨ r = 52) (hp : p = 9 ∨ p = 18) (hn : 0 ≤ n ∧ n < 96) (hb : n < g 70 30) (h1 : ¬ g 97 n = -1) : RR (xLie m (r + 6) n) r p (up g 97 n (-1)) w v :=
  RR_bal R hr hp (Sh_xlie R.S (by omega)) (RB_lie R.B hr hn hb h1) (fun x j hx => xlie_f (by omega) (by omega)) (fun x j h1 h2 => by rw [up_at, if_neg (fun y => h1 (by omega))]) (fun j _ => rfl)
theorem Sh_leave (S : Sh m) (hr : r = 34 ∨ r = 52) : Sh (xLeave m (r + 6) n) := by
  have S1 : Sh (xLie m (r + 6) n) := Sh_xlie S (by omega)
  unfold xLeave
  rcases hr with rfl | rfl
  · exact Sh.up (Sh_ar S1 (by decide)) (by decide)
  · exact Sh.up (Sh_ar S1 (by decide)) (by decide)
theorem leave_f (hx : ¬ (r + 6 ≤ x ∧ x ≤ r + 11)) : xLeave m (r + 6) n x j = m x j := by
  unfold xLeave
  rw [up_at, if_neg (by omega), up_at, if_neg (by omega), xlie_f (by omega) (by omega)]
theorem RR_leave (R : RR m r p g w v) (hr : r = 34 ∨ r = 52) (hp : p = 9 ∨ p = 18) (hn : 0 ≤ n ∧ n < 96) (hb : n < g 70 30) (h1 : ¬ g 97 n = -1) : RR (xLeave m (r + 6) n) r p (mGone g n (g 96 n)) w v :=
  RR_bal R hr hp (Sh_leave R.S hr) (RB_leave R.B hr hn hb h1) (fun x j hx => leave_f hx) (fun x j h1 h2 => by
    unfold mGone
    rw [up_at, if_neg (by omega), up_at, if_neg (by omega), up_at, if_neg (by omega)]) (fun j hj => by
    unfold mGone
    rw [up_at, if_neg (by omega), up_at, if_neg (by omega), up_at, if_neg (by omega)])
theorem ent1_f {B : Int} (hx : ¬ (B ≤ x ∧ x ≤ B + 5)) : xEnt1 m B n c w x j = m x j := by
  unfold xEnt1
  rw [up_at, if_neg (by omega), up_at, if_neg (by omega), up_at, if_neg (by omega), up_at, if_neg (by omega), up_at, if_neg (by omega)]
theorem enter_f (hx : ¬ (r + 6 ≤ x ∧ x ≤ r + 11)) : xEnter m (r + 6) n c w x j = m x j := by
  unfold xEnter
  split
  · rw [xlie_f (by omega) (by omega), ent1_f (by omega)]
  · exact ent1_f (by omega)
theorem Sh_enter (S : Sh m) (hr : r = 34 ∨ r = 52) : Sh (xEnter m (r + 6) n c w) := by
  have S1 : Sh (xEnt1 m (r + 6) n c w) := by
    unfold xEnt1
    rcases hr with rfl | rfl
    · exact Sh_ar (Sh_ar (Sh_ar (Sh_ar (Sh_ar S (by decide)) (by decide)) (by decide)) (by decide)) (by decide)
    · exact Sh_ar (Sh_ar (Sh_ar (Sh_ar (Sh_ar S (by decide)) (by decide)) (by decide)) (by decide)) (by decide)
  unfold xEnter
  split
  · exact Sh_xlie S1 (by omega)
  · exact S1
theorem RR_enter {z : Int} (R : RR m r p g w v) (hr : r = 34 ∨ r = 52) (hp : p = 9 ∨ p = 18) (hn : 0 ≤ n ∧ n < 96) (hb : n < g 70 30) (h1 : ¬ g 97 n = -1) (hs : 1 ≤ g 98 n) (hw : z = if g 72 o = 9 then oth (g 73 o) f else g 97 n) (hw1 : ¬ z = -1) : RR (xEnter m (r + 6) n o z) r p (mGo g n (g 96 n) o f) w v :=
  RR_bal R hr hp (Sh_enter R.S hr) (RB_enter R.B hr hn hb h1 hs hw hw1) (fun x j hx => enter_f hx) (fun x j h1 h2 => go_f (by omega) (by omega) (by omega) (by omega)) (fun j hj => go_f (by decide) (by decide) (by decide) (by decide))
theorem GT_cg (T : GT g) (f : ∀ x j, ¬ (95 ≤ x ∧ x ≤ 99) → ¬ x = 101 → G x j = g x j) (fc : cnt G = cnt g) : GT G := by
  have e45 := f 70 45 (by decide) (by decide)
  have e2 : ∀ j, G 102 j = g 102 j := fun j => f 102 j (by decide) (by decide)
  have e5 : ∀ j, G 105 j = g 105 j := fun j => f 105 j (by decide) (by decide)
  have e4 : ∀ j, G 104 j = g 104 j := fun j => f 104 j (by decide) (by decide)
  have e7 : ∀ j, G 72 j = g 72 j := fun j => f 72 j (by decide) (by decide)
  refine ⟨fun d hd => ?_, fun d hd => ?_, fun d hd => ?_, fun d hd => ?_, fun d hd => ?_, fun i i0 i1 => ?_, fun d hd => ?_, fun i i0 i1 => ?_⟩
  · rw [f 72 d (by decide) (by decide), f 93 d (by decide) (by decide), f 106 _ (by decide) (by decide), e45]; exact T.tm d hd
  · rw [f 105 _ (by decide) (by decide), f 103 _ (by decide) (by decide), e45]; exact T.rg d hd
  · rw [f 109 _ (by decide) (by decide), e45]; exact T.lo d hd
  · rw [f 94 _ (by decide) (by decide)]; exact T.dn d hd
  · rw [e45, e5, e7]; exact T.k8 d hd
  · rw [fc] at i1
    rw [e45, e2, e5, e7]; exact T.hr i i0 i1
  · simp only [e45, e2, e5, e4, fc]; exact T.rs d hd
  · rw [fc] at i1
    rw [e45, e2, e2]; exact T.fl i i0 i1
theorem FR_bal (fm : ∀ x j, ¬ (r + 6 ≤ x ∧ x ≤ r + 11) → X x j = m x j) : FR m X r := fun a j h1 h2 => fm a j (by omega)
theorem c59_34 (hp : p = 9 ∨ p = 18) : ∀ (f : Nat) (m g : Mm) (n : Int), RR m 34 p g (-1) (-1) → TI g n → GT g → (∀ j, n ≤ j → j < g 70 30 → m 46 j = g 100 j) → 0 ≤ n → 96 - n < f → ∃ m', RR m' 34 p (mRollL f g n) (-1) (-1) ∧ FR m m' 34 ∧ GT (mRollL f g n) ∧ ∀ (tl : Ds) (Q : Ds → Mm → List MV → Prop) (q2 q3 q4 : MV), WP 59 2 [(2, 34), (0, n), q2, q3, q4] [] (dsB ++ tl) m Q = Q (dsB ++ tl) m' [] := by
  intro f
  induction f with
  | zero =>
    intro m g n R t T hd hn hf
    have bm := t.a.a.bm
    have S := R.S
    have ct := R.B.ct
    simp only [Int.reduceAdd] at ct
    have h1 : ¬ n < g 70 30 := by omega
    refine ⟨m, R, FR_refl, T, fun tl Q q2 q3 q4 => ?_⟩
    rw [p59_2]
    simp only [p59_3, p59_4, p59_7, p59_10, p59_153, K_27, K_28, L_28, K_29, L_29, K_30, L_30, K_31, L_31, K_32, L_32, K_33, L_33, K_34, K_35, K_36, L_36, K_37, L_37, K_38, L_38, K_39, L_39, K_40, K_41, L_41, K_42, L_42, K_43, L_43, K_44, L_44, K_45, L_45, K_46, L_46, K_47, L_47, K_48, L_48, K_49, L_49, K_50, L_50, K_51, L_51, K_52, K_53, K_54, L_54, K_55, L_55, K_56, L_56, K_57, L_57, K_58, K_59, L_59, K_60, L_60, K_61, L_61, K_62, L_62, K_63, L_63, K_64, L_64, K_65, L_65, K_66, L_66, K_67, L_67, K_68, L_68, K_69, L_69, sh_27_0 S, sh_27_1 S, sh_27_2 S, sh_27_3 S, sh_27_4 S, sh_27_5 S, sh_34_0 S, sh_34_1 S, sh_34_2 S, sh_34_3 S, sh_34_4 S, sh_34_5 S, sh_34_6 S, sh_34_7 S, sh_35_0 S, sh_35_1 S, sh_35_2 S, sh_35_3 S, sh_40_0 S, sh_40_1 S, sh_40_2 S, sh_40_3 S, sh_40_4 S, sh_40_5 S, sh_52_0 S, sh_52_1 S, sh_52_2 S, sh_52_3 S, sh_52_4 S, sh_52_5 S, sh_52_6 S, sh_52_7 S, sh_53_0 S, sh_53_1 S, sh_53_2 S, sh_53_3 S, sh_58_0 S, sh_58_1 S, sh_58_2 S, sh_58_3 S, sh_58_4 S, sh_58_5 S, ct, h1, b2_T, b2_F, Int.reduceEq, Int.reduceLT, Int.reduceLE, Int.reduceAdd, Int.reduceSub, Int.reduceMul, Int.reduceNeg, reduceIte, if_true, if_false, true_or, or_true, false_or, or_false, false_and, and_false, eq_self, not_false_eq_true, not_true_eq_false, true_and, and_true, List.cons_append, List.nil_append, List.append_nil, b2_0, b2_1, b2_01, Classical.not_not]
  | succ f ih =>
    intro m g n R t T hd hn hf
    have bm := t.a.a.bm
    have S := R.S
    have ct := R.B.ct
    have lc := R.X.lc
    have cn := t.a.cn
    simp only [Int.reduceAdd] at ct lc
    rw [rollL_s]
    by_cases h1 : n < g 70 30
    · by_cases h2 : cnt g = 1000
      · rw [if_neg (fun x => x.2 h2)]
        rw [h2] at lc
        refine ⟨m, R, FR_refl, T, fun tl Q q2 q3 q4 => ?_⟩
        rw [p59_2]
        simp only [p59_3, p59_4, p59_7, p59_10, p59_13, p59_14, p59_17, p59_20, p59_23, p59_153, K_27, K_28, L_28, K_29, L_29, K_30, L_30, K_31, L_31, K_32, L_32, K_33, L_33, K_34, K_35, K_36, L_36, K_37, L_37, K_38, L_38, K_39, L_39, K_40, K_41, L_41, K_42, L_42, K_43, L_43, K_44, L_44, K_45, L_45, K_46, L_46, K_47, L_47, K_48, L_48, K_49, L_49, K_50, L_50, K_51, L_51, K_52, K_53, K_54, L_54, K_55, L_55, K_56, L_56, K_57, L_57, K_58, K_59, L_59, K_60, L_60, K_61, L_61, K_62, L_62, K_63, L_63, K_64, L_64, K_65, L_65, K_66, L_66, K_67, L_67, K_68, L_68, K_69, L_69, sh_27_0 S, sh_27_1 S, sh_27_2 S, sh_27_3 S, sh_27_4 S, sh_27_5 S, sh_34_0 S, sh_34_1 S, sh_34_2 S, sh_34_3 S, sh_34_4 S, sh_34_5 S, sh_34_6 S, sh_34_7 S, sh_35_0 S, sh_35_1 S, sh_35_2 S, sh_35_3 S, sh_40_0 S, sh_40_1 S, sh_40_2 S, sh_40_3 S, sh_40_4 S, sh_40_5 S, sh_52_0 S, sh_52_1 S, sh_52_2 S, sh_52_3 S, sh_52_4 S, sh_52_5 S, sh_52_6 S, sh_52_7 S, sh_53_0 S, sh_53_1 S, sh_53_2 S, sh_53_3 S, sh_58_0 S, sh_58_1 S, sh_58_2 S, sh_58_3 S, sh_58_4 S, sh_58_5 S, ct, h1, lc, b2_T, b2_F, Int.reduceEq, Int.reduceLT, Int.reduceLE, Int.reduceAdd, Int.reduceSub, Int.reduceMul, Int.reduceNeg, reduceIte, if_true, if_false, true_or, or_true, false_or, or_false, false_and, and_false, eq_self, not_false_eq_true, not_true_eq_false, true_and, and_true, List.cons_append, List.nil_append, List.append_nil, b2_0, b2_1, b2_01, Classical.not_not]
      · rw [if_pos ⟨h1, h2⟩]
        have h4 : cnt g < 1000 := by omega
        have hn1 : 0 ≤ n ∧ n < m 40 6 ∧ n < 96 := by rw [ct]; omega
        have g2 := hn1.2.2
        have w1 : w32 (n + 1) = n + 1 := w32_id (by omega) (by omega)
        have t1 := TI_roll1 t h4 ⟨hn, h1⟩
        have bn := R.B.ba n hn h1
        simp only [Int.reduceAdd] at bn
        have hdn := hd n (Int.le_refl _) h1
        have d5 := fun (tl : Ds) (Q : Ds → Mm → List MV → Prop) => e5 (tl := tl) (Q := Q) (B := 40) S (by decide) hn1
        simp only [Int.reduceAdd, bn.2.1, hdn] at d5
        have go : ∀ X, RR X 34 p (mRoll1 g n) (-1) (-1) → FR m X 34 → GT (mRoll1 g n) → (∀ (tl : Ds) (Q : Ds → Mm → List MV → Prop) (q2 q3 q4 : MV), ∃ q2' q3' q4' : MV, WP 59 2 [(2, 34), (0, n), q2, q3, q4] [] (dsB ++ tl) m Q = WP 59 2 [(2, 34), (0, n + 1), q2', q3', q4'] [] (dsB ++ tl) X Q) → ∃ m', RR m' 34 p (mRollL f (mRoll1 g n) (n + 1)) (-1) (-1) ∧ FR m m' 34 ∧ GT (mRollL f (mRoll1 g n) (n + 1)) ∧ ∀ (tl : Ds) (Q : Ds → Mm → List MV → Prop) (q2 q3 q4 : MV), WP 59 2 [(2, 34), (0, n), q2, q3, q4] [] (dsB ++ tl) m Q = Q (dsB ++ tl) m' [] := by
          intro X RX FX TX HX
          have hd' : ∀ j, n + 1 ≤ j → j < mRoll1 g n 70 30 → X 46 j = mRoll1 g n 100 j := by
            intro j j0 j1
            rw [t1.2.2] at j1
            have e100 : mRoll1 g n 100 j = g 100 j := by
              unfold mRoll1
              split
              · rfl
              · exact roll_100
            rw [e100, FX _ _ (by omega) (by omega)]
            exact hd j (by omega) j1
          obtain ⟨m', r1, r2, r3, r4⟩ := ih X (mRoll1 g n) (n + 1) RX t1.1 TX hd' (by omega) (by omega)
          refine ⟨m', r1, FR_trans FX r2, r3, fun tl Q q2 q3 q4 => ?_⟩
          obtain ⟨q2', q3', q4', e⟩ := HX tl Q q2 q3 q4
          rw [e, r4]
        by_cases h3 : g 100 n = 0
        · have e1 : mRoll1 g n = g := if_pos h3
          apply go m (by rw [e1]; exact R) FR_refl (by rw [e1]; exact T)
          intro tl Q q2 q3 q4
          refine ⟨q2, q3, q4, ?_⟩
          have d5' := d5 tl
          simp only [b2_f (show ¬ (¬ g 100 n = 0 ∧ ¬ g 97 n = -1) from fun x => x.1 h3)] at d5'
          rw [p59_2]
          simp only [p59_3, p59_4, p59_7, p59_10, p59_13, p59_14, p59_17, p59_20, p59_23, p59_26, p59_27, p59_30, p59_31, p59_34, p59_37, p59_38, p59_41, p59_44, p59_45, p59_46, p59_47, p59_48, p59_51, p59_54, p59_55, p59_56, p59_57, p59_60, p59_61, p59_62, p59_63, p59_66, p59_67, p59_70, p59_71, p59_74, p59_77, p59_78, p59_79, p59_80, p59_83, p59_86, p59_89, p59_90, p59_93, p59_94, p59_95, p59_96, p59_97, p59_98, p59_101, p59_104, p59_107, p59_108, p59_111, p59_112, p59_115, p59_116, p59_117, p59_118, p59_121, p59_122, p59_125, p59_128, p59_129, p59_130, p59_131, p59_134, p59_136, p59_137, p59_138, p59_139, p59_142, p59_144, p59_147, p59_150, K_27, K_28, L_28, K_29, L_29, K_30, L_30, K_31, L_31, K_32, L_32, K_33, L_33, K_34, K_35, K_36, L_36, K_37, L_37, K_38, L_38, K_39, L_39, K_40, K_41, L_41, K_42, L_42, K_43, L_43, K_44, L_44, K_45, L_45, K_46, L_46, K_47, L_47, K_48, L_48, K_49, L_49, K_50, L_50, K_51, L_51, K_52, K_53, K_54, L_54, K_55, L_55, K_56, L_56, K_57, L_57, K_58, K_59, L_59, K_60, L_60, K_61, L_61, K_62, L_62, K_63, L_63, K_64, L_64, K_65, L_65, K_66, L_66, K_67, L_67, K_68, L_68, K_69, L_69, sh_27_0 S, sh_27_1 S, sh_27_2 S, sh_27_3 S, sh_27_4 S, sh_27_5 S, sh_34_0 S, sh_34_1 S, sh_34_2 S, sh_34_3 S, sh_34_4 S, sh_34_5 S, sh_34_6 S, sh_34_7 S, sh_35_0 S, sh_35_1 S, sh_35_2 S, sh_35_3 S, sh_40_0 S, sh_40_1 S, sh_40_2 S, sh_40_3 S, sh_40_4 S, sh_40_5 S, sh_52_0 S, sh_52_1 S, sh_52_2 S, sh_52_3 S, sh_52_4 S, sh_52_5 S, sh_52_6 S, sh_52_7 S, sh_53_0 S, sh_53_1 S, sh_53_2 S, sh_53_3 S, sh_58_0 S, sh_58_1 S, sh_58_2 S, sh_58_3 S, sh_58_4 S, sh_58_5 S, ct, h1, lc, h4, d5', w1, b2_T, b2_F, Int.reduceEq, Int.reduceLT, Int.reduceLE, Int.reduceAdd, Int.reduceSub, Int.reduceMul, Int.reduceNeg, reduceIte, if_true, if_false, true_or, or_true, false_or, or_false, false_and, and_false, eq_self, not_false_eq_true, not_true_eq_false, true_and, and_true, List.cons_append, List.nil_append, List.append_nil, b2_0, b2_1, b2_01, Classical.not_not]
        · have e1 : mRoll1 g n = mRoll g n := if_neg h3
          have hr := t.r n (Int.le_refl _) h1 h3
          have at1 := t.a.a.at' n hn h1
          have at2 := at1.2.resolve_left hr
          obtain ⟨b1, b2', b3⟩ := bn
          have b3 := b3.resolve_left hr
          have ro := R.B.ro
          have rb := sm_b (f := rlf g) rlf_b 96
          have rd : rlc g = sm (rlf g) 96 := rfl
          have hB : -2000 ≤ m 40 7 ∧ m 40 7 ≤ 2000 := by
            simp only [Int.reduceAdd] at ro
            omega
          have d5' := fun tl => d5 tl
          simp only [b2_t (show ¬ g 100 n = 0 ∧ ¬ g 97 n = -1 from ⟨h3, hr⟩)] at d5'
          have e96 : m 42 n = g 96 n := b1
          have e97 : m 43 n = g 97 n := b2'
          have hcc : isC (m (40 + 2) n) := by
            simp only [Int.reduceAdd]
            rw [e96]; exact at1.1
          have T' : ∀ G : Mm, (∀ x j, ¬ (95 ≤ x ∧ x ≤ 99) → ¬ x = 101 → G x j = g x j) → cnt G = cnt g → GT G := fun G hG hc => GT_cg T hG hc
          rw [e1] at go ⊢
          have em : mRoll g n = if nxt (g 96 n) (g 97 n) = -1 then mGone g n (g 96 n) else if ¬ g 95 (nxt (g 96 n) (g 97 n)) = -1 ∨ ¬ fre g (nxt (g 96 n) (g 97 n)) (opp (g 97 n)) then mStrike (up g 97 n (-1)) (nxt (g 96 n) (g 97 n)) (opp (g 97 n)) (g 99 n) 1 else mGo g n (g 96 n) (nxt (g 96 n) (g 97 n)) (opp (g 97 n)) := rfl
          have f111 := fun (Q : Ds → Mm → List MV → Prop) (tl : Ds) => e111 (ds := dsB ++ tl) (m := m) (Q := Q) (s := g 97 n) at1.1.1 at1.1.2
          have f110 := fun (Q : Ds → Mm → List MV → Prop) (ds : Ds) (m : Mm) => e110 (ds := ds) (m := m) (Q := Q) at2.1.1 at2.1.2
          by_cases h5 : nxt (g 96 n) (g 97 n) = -1
          · rw [if_pos h5] at em
            have RX := RR_leave R (by decide) hp ⟨hn, g2⟩ h1 hr
            simp only [Int.reduceAdd] at RX
            apply go (xLeave m 40 n) (by rw [em]; exact RX) (FR_bal (fun x j hx => leave_f (r := 34) hx))
            · rw [em]
              exact T' _ (fun x j h1 h2 => by
                unfold mGone
                rw [up_at, if_neg (by omega), up_at, if_neg (by omega), up_at, if_neg (by omega)]) gone_n
            · intro tl Q q2 q3 q4
              have d8 := fun (Q : Ds → Mm → List MV → Prop) => e8 (tl := tl) (Q := Q) (B := 40) S (by decide) hn1 hB hcc
              refine ⟨(0, g 97 n), (0, -1), q4, ?_⟩
              rw [p59_2]
              simp only [p59_3, p59_4, p59_7, p59_10, p59_13, p59_14, p59_17, p59_20, p59_23, p59_26, p59_27, p59_30, p59_31, p59_34, p59_37, p59_38, p59_41, p59_44, p59_45, p59_46, p59_47, p59_48, p59_51, p59_54, p59_55, p59_56, p59_57, p59_60, p59_61, p59_62, p59_63, p59_66, p59_67, p59_70, p59_71, p59_74, p59_77, p59_78, p59_79, p59_80, p59_83, p59_86, p59_89, p59_90, p59_93, p59_94, p59_95, p59_96, p59_97, p59_98, p59_101, p59_104, p59_107, p59_108, p59_111, p59_112, p59_115, p59_116, p59_117, p59_118, p59_121, p59_122, p59_125, p59_128, p59_129, p59_130, p59_131, p59_134, p59_136, p59_137, p59_138, p59_139, p59_142, p59_144, p59_147, p59_150, K_27, K_28, L_28, K_29, L_29, K_30, L_30, K_31, L_31, K_32, L_32, K_33, L_33, K_34, K_35, K_36, L_36, K_37, L_37, K_38, L_38, K_39, L_39, K_40, K_41, L_41, K_42, L_42, K_43, L_43, K_44, L_44, K_45, L_45, K_46, L_46, K_47, L_47, K_48, L_48, K_49, L_49, K_50, L_50, K_51, L_51, K_52, K_53, K_54, L_54, K_55, L_55, K_56, L_56, K_57, L_57, K_58, K_59, L_59, K_60, L_60, K_61, L_61, K_62, L_62, K_63, L_63, K_64, L_64, K_65, L_65, K_66, L_66, K_67, L_67, K_68, L_68, K_69, L_69, sh_27_0 S, sh_27_1 S, sh_27_2 S, sh_27_3 S, sh_27_4 S, sh_27_5 S, sh_34_0 S, sh_34_1 S, sh_34_2 S, sh_34_3 S, sh_34_4 S, sh_34_5 S, sh_34_6 S, sh_34_7 S, sh_35_0 S, sh_35_1 S, sh_35_2 S, sh_35_3 S, sh_40_0 S, sh_40_1 S, sh_40_2 S, sh_40_3 S, sh_40_4 S, sh_40_5 S, sh_52_0 S, sh_52_1 S, sh_52_2 S, sh_52_3 S, sh_52_4 S, sh_52_5 S, sh_52_6 S, sh_52_7 S, sh_53_0 S, sh_53_1 S, sh_53_2 S, sh_53_3 S, sh_58_0 S, sh_58_1 S, sh_58_2 S, sh_58_3 S, sh_58_4 S, sh_58_5 S, ct, h1, lc, h4, hn, g2, d5', e96, e97, f111, h5, d8, w1, b2_T, b2_F, Int.reduceEq, Int.reduceLT, Int.reduceLE, Int.reduceAdd, Int.reduceSub, Int.reduceMul, Int.reduceNeg, reduceIte, if_true, if_false, true_or, or_true, false_or, or_false, false_and, and_false, eq_self, not_false_eq_true, not_true_eq_false, true_and, and_true, List.cons_append, List.nil_append, List.append_nil, b2_0, b2_1, b2_01, Classical.not_not]
          · rw [if_neg h5] at em
            obtain ⟨o, ho⟩ : ∃ o, o = nxt (g 96 n) (g 97 n) := ⟨_, rfl⟩
            have oc : isC o := by rw [ho]; exact (nxt_c at1.1).resolve_left h5
            rw [← ho] at em h5
            have ho' := ho.symm
            by_cases h6 : ¬ g 95 o = -1 ∨ ¬ fre g o (opp (g 97 n))
            · rw [if_pos h6] at em
              have h7 : opn g o (opp (g 97 n)) = 0 := opn_e.2 h6
              have RX := RR_lie R (by decide) hp ⟨hn, g2⟩ h1 hr
              simp only [Int.reduceAdd] at RX
              have aX : GI (up g 97 n (-1)) := GI_stop t.a
              have TX : GT (up g 97 n (-1)) := T' _ (fun x j h1 h2 => by rw [up_at, if_neg (by omega)]) rfl
              have CC := CS (c := o) (s := opp (g 97 n)) (k := g 99 n) (u := 1) RX (by decide) hp aX TX h4 oc opp_s (by show -1 ≤ g 99 n ∧ g 99 n < cnt g; omega) (Or.inr rfl)
              apply go (xStr (xLie m 40 n) 34 (up g 97 n (-1)) o (opp (g 97 n)) (g 99 n) 1) (by rw [em]; exact CC.2.2.1)
              · have fl : FR m (xLie m 40 n) 34 := fun a j h1 h2 => xlie_f (by omega) (by omega)
                exact FR_trans fl CC.2.2.2
              · rw [em]
                exact GT_strike TX aX.a oc (Or.inr rfl)
              · intro tl Q q2 q3 q4
                have d7 := fun (Q : Ds → Mm → List MV → Prop) => e7 (tl := tl) (Q := Q) (B := 40) S (by decide) hn1 hB
                have c1 := fun (Q : Ds → Mm → List MV → Prop) => CC.1 tl Q
                have c2 := fun (Q : Ds → Mm → List MV → Prop) => CC.2.1 tl Q
                simp only [Int.reduceMul] at c1 c2
                have SX := RX.S
                have k99 : xLie m 40 n 45 n = g 99 n := by
                  rw [xlie_f (by decide) (by decide)]
                  exact b3.2
                have d60 := fun (Q : Ds → Mm → List MV → Prop) => e60 (tl := tl) (Q := Q) (f := opp (g 97 n)) R T (by decide) hp oc
                rw [h7] at d60
                refine ⟨(0, g 97 n), (0, o), (0, cnt g), ?_⟩
                have dcn : cnt (up g 97 n (-1)) = cnt g := rfl
                rw [dcn] at c1 c2
                rw [p59_2]
                simp only [p59_3, p59_4, p59_7, p59_10, p59_13, p59_14, p59_17, p59_20, p59_23, p59_26, p59_27, p59_30, p59_31, p59_34, p59_37, p59_38, p59_41, p59_44, p59_45, p59_46, p59_47, p59_48, p59_51, p59_54, p59_55, p59_56, p59_57, p59_60, p59_61, p59_62, p59_63, p59_66, p59_67, p59_70, p59_71, p59_74, p59_77, p59_78, p59_79, p59_80, p59_83, p59_86, p59_89, p59_90, p59_93, p59_94, p59_95, p59_96, p59_97, p59_98, p59_101, p59_104, p59_107, p59_108, p59_111, p59_112, p59_115, p59_116, p59_117, p59_118, p59_121, p59_122, p59_125, p59_128, p59_129, p59_130, p59_131, p59_134, p59_136, p59_137, p59_138, p59_139, p59_142, p59_144, p59_147, p59_150, K_27, K_28, L_28, K_29, L_29, K_30, L_30, K_31, L_31, K_32, L_32, K_33, L_33, K_34, K_35, K_36, L_36, K_37, L_37, K_38, L_38, K_39, L_39, K_40, K_41, L_41, K_42, L_42, K_43, L_43, K_44, L_44, K_45, L_45, K_46, L_46, K_47, L_47, K_48, L_48, K_49, L_49, K_50, L_50, K_51, L_51, K_52, K_53, K_54, L_54, K_55, L_55, K_56, L_56, K_57, L_57, K_58, K_59, L_59, K_60, L_60, K_61, L_61, K_62, L_62, K_63, L_63, K_64, L_64, K_65, L_65, K_66, L_66, K_67, L_67, K_68, L_68, K_69, L_69, sh_27_0 S, sh_27_1 S, sh_27_2 S, sh_27_3 S, sh_27_4 S, sh_27_5 S, sh_34_0 S, sh_34_1 S, sh_34_2 S, sh_34_3 S, sh_34_4 S, sh_34_5 S, sh_34_6 S, sh_34_7 S, sh_35_0 S, sh_35_1 S, sh_35_2 S, sh_35_3 S, sh_40_0 S, sh_40_1 S, sh_40_2 S, sh_40_3 S, sh_40_4 S, sh_40_5 S, sh_52_0 S, sh_52_1 S, sh_52_2 S, sh_52_3 S, sh_52_4 S, sh_52_5 S, sh_52_6 S, sh_52_7 S, sh_53_0 S, sh_53_1 S, sh_53_2 S, sh_53_3 S, sh_58_0 S, sh_58_1 S, sh_58_2 S, sh_58_3 S, sh_58_4 S, sh_58_5 S, sh_34_2 SX, sh_40_4 SX, ct, h1, lc, h4, hn, g2, d5', e96, e97, f111, f110, ho', h5, d60, d7, k99, c1, c2, w1, b2_T, b2_F, Int.reduceEq, Int.reduceLT, Int.reduceLE, Int.reduceAdd, Int.reduceSub, Int.reduceMul, Int.reduceNeg, reduceIte, if_true, if_false, true_or, or_true, false_or, or_false, false_and, and_false, eq_self, not_false_eq_true, not_true_eq_false, true_and, and_true, List.cons_append, List.nil_append, List.append_nil, b2_0, b2_1, b2_01, Classical.not_not]
            · rw [if_neg h6] at em
              have h7 : ¬ opn g o (opp (g 97 n)) = 0 := fun x => h6 (opn_e.1 x)
              have h8 : fre g o (opp (g 97 n)) := Classical.byContradiction fun x => h6 (Or.inr x)
              have j9 : g 72 o = 9 → jand (jshr (g 73 o) (opp (g 97 n))) 1 = 1 := by
                intro k9
                rcases h8 with y | y | y
                · omega
                · omega
                · exact y.2
              have z1 : ¬ (if g 72 o = 9 then oth (g 73 o) (opp (g 97 n)) else g 97 n) = -1 := by
                split
                · have := (oth_s (e := g 73 o) (f := opp (g 97 n))).1
                  omega
                · exact hr
              have RX := RR_enter (o := o) (f := opp (g 97 n)) R (by decide) hp ⟨hn, g2⟩ h1 hr at2.2.1 rfl z1
              simp only [Int.reduceAdd] at RX
              apply go (xEnter m 40 n o (if g 72 o = 9 then oth (g 73 o) (opp (g 97 n)) else g 97 n)) (by rw [em]; exact RX) (FR_bal (fun x j hx => enter_f (r := 34) hx))
              · rw [em]
                exact T' _ (fun x j h1 h2 => go_f (by omega) (by omega) (by omega) (by omega)) go_n
              · intro tl Q q2 q3 q4
                have d60 := fun (Q : Ds → Mm → List MV → Prop) => e60 (tl := tl) (Q := Q) (f := opp (g 97 n)) R T (by decide) hp oc
                have d61 := fun (Q : Ds → Mm → List MV → Prop) => e61 (tl := tl) (Q := Q) (wy := g 97 n) R (by decide) hp oc at2.1 (t.a.a.p o oc).e j9
                have d9 := fun (Q : Ds → Mm → List MV → Prop) (z : Int) => e9 (tl := tl) (Q := Q) (w := z) (c := o) (B := 40) S (by decide) hn1 hB hcc oc (by
                  have := b3.1
                  simp only [Int.reduceAdd]
                  omega)
                refine ⟨(0, g 97 n), (0, o), q4, ?_⟩
                rw [p59_2]
                simp only [p59_3, p59_4, p59_7, p59_10, p59_13, p59_14, p59_17, p59_20, p59_23, p59_26, p59_27, p59_30, p59_31, p59_34, p59_37, p59_38, p59_41, p59_44, p59_45, p59_46, p59_47, p59_48, p59_51, p59_54, p59_55, p59_56, p59_57, p59_60, p59_61, p59_62, p59_63, p59_66, p59_67, p59_70, p59_71, p59_74, p59_77, p59_78, p59_79, p59_80, p59_83, p59_86, p59_89, p59_90, p59_93, p59_94, p59_95, p59_96, p59_97, p59_98, p59_101, p59_104, p59_107, p59_108, p59_111, p59_112, p59_115, p59_116, p59_117, p59_118, p59_121, p59_122, p59_125, p59_128, p59_129, p59_130, p59_131, p59_134, p59_136, p59_137, p59_138, p59_139, p59_142, p59_144, p59_147, p59_150, K_27, K_28, L_28, K_29, L_29, K_30, L_30, K_31, L_31, K_32, L_32, K_33, L_33, K_34, K_35, K_36, L_36, K_37, L_37, K_38, L_38, K_39, L_39, K_40, K_41, L_41, K_42, L_42, K_43, L_43, K_44, L_44, K_45, L_45, K_46, L_46, K_47, L_47, K_48, L_48, K_49, L_49, K_50, L_50, K_51, L_51, K_52, K_53, K_54, L_54, K_55, L_55, K_56, L_56, K_57, L_57, K_58, K_59, L_59, K_60, L_60, K_61, L_61, K_62, L_62, K_63, L_63, K_64, L_64, K_65, L_65, K_66, L_66, K_67, L_67, K_68, L_68, K_69, L_69, sh_27_0 S, sh_27_1 S, sh_27_2 S, sh_27_3 S, sh_27_4 S, sh_27_5 S, sh_34_0 S, sh_34_1 S, sh_34_2 S, sh_34_3 S, sh_34_4 S, sh_34_5 S, sh_34_6 S, sh_34_7 S, sh_35_0 S, sh_35_1 S, sh_35_2 S, sh_35_3 S, sh_40_0 S, sh_40_1 S, sh_40_2 S, sh_40_3 S, sh_40_4 S, sh_40_5 S, sh_52_0 S, sh_52_1 S, sh_52_2 S, sh_52_3 S, sh_52_4 S, sh_52_5 S, sh_52_6 S, sh_52_7 S, sh_53_0 S, sh_53_1 S, sh_53_2 S, sh_53_3 S, sh_58_0 S, sh_58_1 S, sh_58_2 S, sh_58_3 S, sh_58_4 S, sh_58_5 S, ct, h1, lc, h4, hn, g2, d5', e96, e97, f111, f110, ho', h5, d60, h7, d61, d9, w1, b2_T, b2_F, Int.reduceEq, Int.reduceLT, Int.reduceLE, Int.reduceAdd, Int.reduceSub, Int.reduceMul, Int.reduceNeg, reduceIte, if_true, if_false, true_or, or_true, false_or, or_false, false_and, and_false, eq_self, not_false_eq_true, not_true_eq_false, true_and, and_true, List.cons_append, List.nil_append, List.append_nil, b2_0, b2_1, b2_01, Classical.not_not]
    · rw [if_neg (fun x => h1 x.1)]
      refine ⟨m, R, FR_refl, T, fun tl Q q2 q3 q4 => ?_⟩
      rw [p59_2]
      simp only [p59_3, p59_4, p59_7, p59_10, p59_153, K_27, K_28, L_28, K_29, L_29, K_30, L_30, K_31, L_31, K_32, L_32, K_33, L_33, K_34, K_35, K_36, L_36, K_37, L_37, K_38, L_38, K_39, L_39, K_40, K_41, L_41, K_42, L_42, K_43, L_43, K_44, L_44, K_45, L_45, K_46, L_46, K_47, L_47, K_48, L_48, K_49, L_49, K_50, L_50, K_51, L_51, K_52, K_53, K_54, L_54, K_55, L_55, K_56, L_56, K_57, L_57, K_58, K_59, L_59, K_60, L_60, K_61, L_61, K_62, L_62, K_63, L_63, K_64, L_64, K_65, L_65, K_66, L_66, K_67, L_67, K_68, L_68, K_69, L_69, sh_27_0 S, sh_27_1 S, sh_27_2 S, sh_27_3 S, sh_27_4 S, sh_27_5 S, sh_34_0 S, sh_34_1 S, sh_34_2 S, sh_34_3 S, sh_34_4 S, sh_34_5 S, sh_34_6 S, sh_34_7 S, sh_35_0 S, sh_35_1 S, sh_35_2 S, sh_35_3 S, sh_40_0 S, sh_40_1 S, sh_40_2 S, sh_40_3 S, sh_40_4 S, sh_40_5 S, sh_52_0 S, sh_52_1 S, sh_52_2 S, sh_52_3 S, sh_52_4 S, sh_52_5 S, sh_52_6 S, sh_52_7 S, sh_53_0 S, sh_53_1 S, sh_53_2 S, sh_53_3 S, sh_58_0 S, sh_58_1 S, sh_58_2 S, sh_58_3 S, sh_58_4 S, sh_58_5 S, ct, h1, b2_T, b2_F, Int.reduceEq, Int.reduceLT, Int.reduceLE, Int.reduceAdd, Int.reduceSub, Int.reduceMul, Int.reduceNeg, reduceIte, if_true, if_false, true_or, or_true, false_or, or_false, false_and, and_false, eq_self, not_false_eq_true, not_true_eq_false, true_and, and_true, List.cons_append, List.nil_append, List.append_nil, b2_0, b2_1, b2_01, Classical.not_not]
theorem c59_52 (hp : p = 9 ∨ p = 18) : ∀ (f : Nat) (m g : Mm) (n : Int), RR m 52 p g (-1) (-1) → TI g n → GT g → (∀ j, n ≤ j → j < g 70 30 → m 64 j = g 100 j) → 0 ≤ n → 96 - n < f → ∃ m', RR m' 52 p (mRollL f g n) (-1) (-1) ∧ FR m m' 52 ∧ GT (mRollL f g n) ∧ ∀ (tl : Ds) (Q : Ds → Mm → List MV → Prop) (q2 q3 q4 : MV), WP 59 2 [(2, 52), (0, n), q2, q3, q4] [] (dsB ++ tl) m Q = Q (dsB ++ tl) m' [] := by
  intro f
  induction f with
  | zero =>
    intro m g n R t T hd hn hf
    have bm := t.a.a.bm
    have S := R.S
    have ct := R.B.ct
    simp only [Int.reduceAdd] at ct
    have h1 : ¬ n < g 70 30 := by omega
    refine ⟨m, R, FR_refl, T, fun tl Q q2 q3 q4 => ?_⟩
    rw [p59_2]
    simp only [p59_3, p59_4, p59_7, p59_10, p59_153, K_27, K_28, L_28, K_29, L_29, K_30, L_30, K_31, L_31, K_32, L_32, K_33, L_33, K_34, K_35, K_36, L_36, K_37, L_37, K_38, L_38, K_39, L_39, K_40, K_41, L_41, K_42, L_42, K_43, L_43, K_44, L_44, K_45, L_45, K_46, L_46, K_47, L_47, K_48, L_48, K_49, L_49, K_50, L_50, K_51, L_51, K_52, K_53, K_54, L_54, K_55, L_55, K_56, L_56, K_57, L_57, K_58, K_59, L_59, K_60, L_60, K_61, L_61, K_62, L_62, K_63, L_63, K_64, L_64, K_65, L_65, K_66, L_66, K_67, L_67, K_68, L_68, K_69, L_69, sh_27_0 S, sh_27_1 S, sh_27_2 S, sh_27_3 S, sh_27_4 S, sh_27_5 S, sh_34_0 S, sh_34_1 S, sh_34_2 S, sh_34_3 S, sh_34_4 S, sh_34_5 S, sh_34_6 S, sh_34_7 S, sh_35_0 S, sh_35_1 S, sh_35_2 S, sh_35_3 S, sh_40_0 S, sh_40_1 S, sh_40_2 S, sh_40_3 S, sh_40_4 S, sh_40_5 S, sh_52_0 S, sh_52_1 S, sh_52_2 S, sh_52_3 S, sh_52_4 S, sh_52_5 S, sh_52_6 S, sh_52_7 S, sh_53_0 S, sh_53_1 S, sh_53_2 S, sh_53_3 S, sh_58_0 S, sh_58_1 S, sh_58_2 S, sh_58_3 S, sh_58_4 S, sh_58_5 S, ct, h1, b2_T, b2_F, Int.reduceEq, Int.reduceLT, Int.reduceLE, Int.reduceAdd, Int.reduceSub, Int.reduceMul, Int.reduceNeg, reduceIte, if_true, if_false, true_or, or_true, false_or, or_false, false_and, and_false, eq_self, not_false_eq_true, not_true_eq_false, true_and, and_true, List.cons_append, List.nil_append, List.append_nil, b2_0, b2_1, b2_01, Classical.not_not]
  | succ f ih =>
    intro m g n R t T hd hn hf
    have bm := t.a.a.bm
    have S := R.S
    have ct := R.B.ct
    have lc := R.X.lc
    have cn := t.a.cn
    simp only [Int.reduceAdd] at ct lc
    rw [rollL_s]
    by_cases h1 : n < g 70 30
    · by_cases h2 : cnt g = 1000
      · rw [if_neg (fun x => x.2 h2)]
        rw [h2] at lc
        refine ⟨m, R, FR_refl, T, fun tl Q q2 q3 q4 => ?_⟩
        rw [p59_2]
        simp only [p59_3, p59_4, p59_7, p59_10, p59_13, p59_14, p59_17, p59_20, p59_23, p59_153, K_27, K_28, L_28, K_29, L_29, K_30, L_30, K_31, L_31, K_32, L_32, K_33, L_33, K_34, K_35, K_36, L_36, K_37, L_37, K_38, L_38, K_39, L_39, K_40, K_41, L_41, K_42, L_42, K_43, L_43, K_44, L_44, K_45, L_45, K_46, L_46, K_47, L_47, K_48, L_48, K_49, L_49, K_50, L_50, K_51, L_51, K_52, K_53, K_54, L_54, K_55, L_55, K_56, L_56, K_57, L_57, K_58, K_59, L_59, K_60, L_60, K_61, L_61, K_62, L_62, K_63, L_63, K_64, L_64, K_65, L_65, K_66, L_66, K_67, L_67, K_68, L_68, K_69, L_69, sh_27_0 S, sh_27_1 S, sh_27_2 S, sh_27_3 S, sh_27_4 S, sh_27_5 S, sh_34_0 S, sh_34_1 S, sh_34_2 S, sh_34_3 S, sh_34_4 S, sh_34_5 S, sh_34_6 S, sh_34_7 S, sh_35_0 S, sh_35_1 S, sh_35_2 S, sh_35_3 S, sh_40_0 S, sh_40_1 S, sh_40_2 S, sh_40_3 S, sh_40_4 S, sh_40_5 S, sh_52_0 S, sh_52_1 S, sh_52_2 S, sh_52_3 S, sh_52_4 S, sh_52_5 S, sh_52_6 S, sh_52_7 S, sh_53_0 S, sh_53_1 S, sh_53_2 S, sh_53_3 S, sh_58_0 S, sh_58_1 S, sh_58_2 S, sh_58_3 S, sh_58_4 S, sh_58_5 S, ct, h1, lc, b2_T, b2_F, Int.reduceEq, Int.reduceLT, Int.reduceLE, Int.reduceAdd, Int.reduceSub, Int.reduceMul, Int.reduceNeg, reduceIte, if_true, if_false, true_or, or_true, false_or, or_false, false_and, and_false, eq_self, not_false_eq_true, not_true_eq_false, true_and, and_true, List.cons_append, List.nil_append, List.append_nil, b2_0, b2_1, b2_01, Classical.not_not]
      · rw [if_pos ⟨h1, h2⟩]
        have h4 : cnt g < 1000 := by omega
        have hn1 : 0 ≤ n ∧ n < m 58 6 ∧ n < 96 := by rw [ct]; omega
        have g2 := hn1.2.2
        have w1 : w32 (n + 1) = n + 1 := w32_id (by omega) (by omega)
        have t1 := TI_roll1 t h4 ⟨hn, h1⟩
        have bn := R.B.ba n hn h1
        simp only [Int.reduceAdd] at bn
        have hdn := hd n (Int.le_refl _) h1
        have d5 := fun (tl : Ds) (Q : Ds → Mm → List MV → Prop) => e5 (tl := tl) (Q := Q) (B := 58) S (by decide) hn1
        simp only [Int.reduceAdd, bn.2.1, hdn] at d5
        have go : ∀ X, RR X 52 p (mRoll1 g n) (-1) (-1) → FR m X 52 → GT (mRoll1 g n) → (∀ (tl : Ds) (Q : Ds → Mm → List MV → Prop) (q2 q3 q4 : MV), ∃ q2' q3' q4' : MV, WP 59 2 [(2, 52), (0, n), q2, q3, q4] [] (dsB ++ tl) m Q = WP 59 2 [(2, 52), (0, n + 1), q2', q3', q4'] [] (dsB ++ tl) X Q) → ∃ m', RR m' 52 p (mRollL f (mRoll1 g n) (n + 1)) (-1) (-1) ∧ FR m m' 52 ∧ GT (mRollL f (mRoll1 g n) (n + 1)) ∧ ∀ (tl : Ds) (Q : Ds → Mm → List MV → Prop) (q2 q3 q4 : MV), WP 59 2 [(2, 52), (0, n), q2, q3, q4] [] (dsB ++ tl) m Q = Q (dsB ++ tl) m' [] := by
          intro X RX FX TX HX
          have hd' : ∀ j, n + 1 ≤ j → j < mRoll1 g n 70 30 → X 64 j = mRoll1 g n 100 j := by
            intro j j0 j1
            rw [t1.2.2] at j1
            have e100 : mRoll1 g n 100 j = g 100 j := by
              unfold mRoll1
              split
              · rfl
              · exact roll_100
            rw [e100, FX _ _ (by omega) (by omega)]
            exact hd j (by omega) j1
          obtain ⟨m', r1, r2, r3, r4⟩ := ih X (mRoll1 g n) (n + 1) RX t1.1 TX hd' (by omega) (by omega)
          refine ⟨m', r1, FR_trans FX r2, r3, fun tl Q q2 q3 q4 => ?_⟩
          obtain ⟨q2', q3', q4', e⟩ := HX tl Q q2 q3 q4
          rw [e, r4]
        by_cases h3 : g 100 n = 0
        · have e1 : mRoll1 g n = g := if_pos h3
          apply go m (by rw [e1]; exact R) FR_refl (by rw [e1]; exact T)
          intro tl Q q2 q3 q4
          refine ⟨q2, q3, q4, ?_⟩
          have d5' := d5 tl
          simp only [b2_f (show ¬ (¬ g 100 n = 0 ∧ ¬ g 97 n = -1) from fun x => x.1 h3)] at d5'
          rw [p59_2]
          simp only [p59_3, p59_4, p59_7, p59_10, p59_13, p59_14, p59_17, p59_20, p59_23, p59_26, p59_27, p59_30, p59_31, p59_34, p59_37, p59_38, p59_41, p59_44, p59_45, p59_46, p59_47, p59_48, p59_51, p59_54, p59_55, p59_56, p59_57, p59_60, p59_61, p59_62, p59_63, p59_66, p59_67, p59_70, p59_71, p59_74, p59_77, p59_78, p59_79, p59_80, p59_83, p59_86, p59_89, p59_90, p59_93, p59_94, p59_95, p59_96, p59_97, p59_98, p59_101, p59_104, p59_107, p59_108, p59_111, p59_112, p59_115, p59_116, p59_117, p59_118, p59_121, p59_122, p59_125, p59_128, p59_129, p59_130, p59_131, p59_134, p59_136, p59_137, p59_138, p59_139, p59_142, p59_144, p59_147, p59_150, K_27, K_28, L_28, K_29, L_29, K_30, L_30, K_31, L_31, K_32, L_32, K_33, L_33, K_34, K_35, K_36, L_36, K_37, L_37, K_38, L_38, K_39, L_39, K_40, K_41, L_41, K_42, L_42, K_43, L_43, K_44, L_44, K_45, L_45, K_46, L_46, K_47, L_47, K_48, L_48, K_49, L_49, K_50, L_50, K_51, L_51, K_52, K_53, K_54, L_54, K_55, L_55, K_56, L_56, K_57, L_57, K_58, K_59, L_59, K_60, L_60, K_61, L_61, K_62, L_62, K_63, L_63, K_64, L_64, K_65, L_65, K_66, L_66, K_67, L_67, K_68, L_68, K_69, L_69, sh_27_0 S, sh_27_1 S, sh_27_2 S, sh_27_3 S, sh_27_4 S, sh_27_5 S, sh_34_0 S, sh_34_1 S, sh_34_2 S, sh_34_3 S, sh_34_4 S, sh_34_5 S, sh_34_6 S, sh_34_7 S, sh_35_0 S, sh_35_1 S, sh_35_2 S, sh_35_3 S, sh_40_0 S, sh_40_1 S, sh_40_2 S, sh_40_3 S, sh_40_4 S, sh_40_5 S, sh_52_0 S, sh_52_1 S, sh_52_2 S, sh_52_3 S, sh_52_4 S, sh_52_5 S, sh_52_6 S, sh_52_7 S, sh_53_0 S, sh_53_1 S, sh_53_2 S, sh_53_3 S, sh_58_0 S, sh_58_1 S, sh_58_2 S, sh_58_3 S, sh_58_4 S, sh_58_5 S, ct, h1, lc, h4, d5', w1, b2_T, b2_F, Int.reduceEq, Int.reduceLT, Int.reduceLE, Int.reduceAdd, Int.reduceSub, Int.reduceMul, Int.reduceNeg, reduceIte, if_true, if_false, true_or, or_true, false_or, or_false, false_and, and_false, eq_self, not_false_eq_true, not_true_eq_false, true_and, and_true, List.cons_append, List.nil_append, List.append_nil, b2_0, b2_1, b2_01, Classical.not_not]
        · have e1 : mRoll1 g n = mRoll g n := if_neg h3
          have hr := t.r n (Int.le_refl _) h1 h3
          have at1 := t.a.a.at' n hn h1
          have at2 := at1.2.resolve_left hr
          obtain ⟨b1, b2', b3⟩ := bn
          have b3 := b3.resolve_left hr
          have ro := R.B.ro
          have rb := sm_b (f := rlf g) rlf_b 96
          have rd : rlc g = sm (rlf g) 96 := rfl
          have hB : -2000 ≤ m 58 7 ∧ m 58 7 ≤ 2000 := by
            simp only [Int.reduceAdd] at ro
            omega
          have d5' := fun tl => d5 tl
          simp only [b2_t (show ¬ g 100 n = 0 ∧ ¬ g 97 n = -1 from ⟨h3, hr⟩)] at d5'
          have e96 : m 60 n = g 96 n := b1
          have e97 : m 61 n = g 97 n := b2'
          have hcc : isC (m (58 + 2) n) := by
            simp only [Int.reduceAdd]
            rw [e96]; exact at1.1
          have T' : ∀ G : Mm, (∀ x j, ¬ (95 ≤ x ∧ x ≤ 99) → ¬ x = 101 → G x j = g x j) → cnt G = cnt g → GT G := fun G hG hc => GT_cg T hG hc
          rw [e1] at go ⊢
          have em : mRoll g n = if nxt (g 96 n) (g 97 n) = -1 then mGone g n (g 96 n) else if ¬ g 95 (nxt (g 96 n) (g 97 n)) = -1 ∨ ¬ fre g (nxt (g 96 n) (g 97 n)) (opp (g 97 n)) then mStrike (up g 97 n (-1)) (nxt (g 96 n) (g 97 n)) (opp (g 97 n)) (g 99 n) 1 else mGo g n (g 96 n) (nxt (g 96 n) (g 97 n)) (opp (g 97 n)) := rfl
          have f111 := fun (Q : Ds → Mm → List MV → Prop) (tl : Ds) => e111 (ds := dsB ++ tl) (m := m) (Q := Q) (s := g 97 n) at1.1.1 at1.1.2
          have f110 := fun (Q : Ds → Mm → List MV → Prop) (ds : Ds) (m : Mm) => e110 (ds := ds) (m := m) (Q := Q) at2.1.1 at2.1.2
          by_cases h5 : nxt (g 96 n) (g 97 n) = -1
          · rw [if_pos h5] at em
            have RX := RR_leave R (by decide) hp ⟨hn, g2⟩ h1 hr
            simp only [Int.reduceAdd] at RX
            apply go (xLeave m 58 n) (by rw [em]; exact RX) (FR_bal (fun x j hx => leave_f (r := 52) hx))
            · rw [em]
              exact T' _ (fun x j h1 h2 => by
                unfold mGone
                rw [up_at, if_neg (by omega), up_at, if_neg (by omega), up_at, if_neg (by omega)]) gone_n
            · intro tl Q q2 q3 q4
              have d8 := fun (Q : Ds → Mm → List MV → Prop) => e8 (tl := tl) (Q := Q) (B := 58) S (by decide) hn1 hB hcc
              refine ⟨(0, g 97 n), (0, -1), q4, ?_⟩
              rw [p59_2]
              simp only [p59_3, p59_4, p59_7, p59_10, p59_13, p59_14, p59_17, p59_20, p59_23, p59_26, p59_27, p59_30, p59_31, p59_34, p59_37, p59_38, p59_41, p59_44, p59_45, p59_46, p59_47, p59_48, p59_51, p59_54, p59_55, p59_56, p59_57, p59_60, p59_61, p59_62, p59_63, p59_66, p59_67, p59_70, p59_71, p59_74, p59_77, p59_78, p59_79, p59_80, p59_83, p59_86, p59_89, p59_90, p59_93, p59_94, p59_95, p59_96, p59_97, p59_98, p59_101, p59_104, p59_107, p59_108, p59_111, p59_112, p59_115, p59_116, p59_117, p59_118, p59_121, p59_122, p59_125, p59_128, p59_129, p59_130, p59_131, p59_134, p59_136, p59_137, p59_138, p59_139, p59_142, p59_144, p59_147, p59_150, K_27, K_28, L_28, K_29, L_29, K_30, L_30, K_31, L_31, K_32, L_32, K_33, L_33, K_34, K_35, K_36, L_36, K_37, L_37, K_38, L_38, K_39, L_39, K_40, K_41, L_41, K_42, L_42, K_43, L_43, K_44, L_44, K_45, L_45, K_46, L_46, K_47, L_47, K_48, L_48, K_49, L_49, K_50, L_50, K_51, L_51, K_52, K_53, K_54, L_54, K_55, L_55, K_56, L_56, K_57, L_57, K_58, K_59, L_59, K_60, L_60, K_61, L_61, K_62, L_62, K_63, L_63, K_64, L_64, K_65, L_65, K_66, L_66, K_67, L_67, K_68, L_68, K_69, L_69, sh_27_0 S, sh_27_1 S, sh_27_2 S, sh_27_3 S, sh_27_4 S, sh_27_5 S, sh_34_0 S, sh_34_1 S, sh_34_2 S, sh_34_3 S, sh_34_4 S, sh_34_5 S, sh_34_6 S, sh_34_7 S, sh_35_0 S, sh_35_1 S, sh_35_2 S, sh_35_3 S, sh_40_0 S, sh_40_1 S, sh_40_2 S, sh_40_3 S, sh_40_4 S, sh_40_5 S, sh_52_0 S, sh_52_1 S, sh_52_2 S, sh_52_3 S, sh_52_4 S, sh_52_5 S, sh_52_6 S, sh_52_7 S, sh_53_0 S, sh_53_1 S, sh_53_2 S, sh_53_3 S, sh_58_0 S, sh_58_1 S, sh_58_2 S, sh_58_3 S, sh_58_4 S, sh_58_5 S, ct, h1, lc, h4, hn, g2, d5', e96, e97, f111, h5, d8, w1, b2_T, b2_F, Int.reduceEq, Int.reduceLT, Int.reduceLE, Int.reduceAdd, Int.reduceSub, Int.reduceMul, Int.reduceNeg, reduceIte, if_true, if_false, true_or, or_true, false_or, or_false, false_and, and_false, eq_self, not_false_eq_true, not_true_eq_false, true_and, and_true, List.cons_append, List.nil_append, List.append_nil, b2_0, b2_1, b2_01, Classical.not_not]
          · rw [if_neg h5] at em
            obtain ⟨o, ho⟩ : ∃ o, o = nxt (g 96 n) (g 97 n) := ⟨_, rfl⟩
            have oc : isC o := by rw [ho]; exact (nxt_c at1.1).resolve_left h5
            rw [← ho] at em h5
            have ho' := ho.symm
            by_cases h6 : ¬ g 95 o = -1 ∨ ¬ fre g o (opp (g 97 n))
            · rw [if_pos h6] at em
              have h7 : opn g o (opp (g 97 n)) = 0 := opn_e.2 h6
              have RX := RR_lie R (by decide) hp ⟨hn, g2⟩ h1 hr
              simp only [Int.reduceAdd] at RX
              have aX : GI (up g 97 n (-1)) := GI_stop t.a
              have TX : GT (up g 97 n (-1)) := T' _ (fun x j h1 h2 => by rw [up_at, if_neg (by omega)]) rfl
              have CC := CS (c := o) (s := opp (g 97 n)) (k := g 99 n) (u := 1) RX (by decide) hp aX TX h4 oc opp_s (by show -1 ≤ g 99 n ∧ g 99 n < cnt g; omega) (Or.inr rfl)
              apply go (xStr (xLie m 58 n) 52 (up g 97 n (-1)) o (opp (g 97 n)) (g 99 n) 1) (by rw [em]; exact CC.2.2.1)
              · have fl : FR m (xLie m 58 n) 52 := fun a j h1 h2 => xlie_f (by omega) (by omega)
                exact FR_trans fl CC.2.2.2
              · rw [em]
                exact GT_strike TX aX.a oc (Or.inr rfl)
              · intro tl Q q2 q3 q4
                have d7 := fun (Q : Ds → Mm → List MV → Prop) => e7 (tl := tl) (Q := Q) (B := 58) S (by decide) hn1 hB
                have c1 := fun (Q : Ds → Mm → List MV → Prop) => CC.1 tl Q
                have c2 := fun (Q : Ds → Mm → List MV → Prop) => CC.2.1 tl Q
                simp only [Int.reduceMul] at c1 c2
                have SX := RX.S
                have k99 : xLie m 58 n 63 n = g 99 n := by
                  rw [xlie_f (by decide) (by decide)]
                  exact b3.2
                have d60 := fun (Q : Ds → Mm → List MV → Prop) => e60 (tl := tl) (Q := Q) (f := opp (g 97 n)) R T (by decide) hp oc
                rw [h7] at d60
                refine ⟨(0, g 97 n), (0, o), (0, cnt g), ?_⟩
                have dcn : cnt (up g 97 n (-1)) = cnt g := rfl
                rw [dcn] at c1 c2
                rw [p59_2]
                simp only [p59_3, p59_4, p59_7, p59_10, p59_13, p59_14, p59_17, p59_20, p59_23, p59_26, p59_27, p59_30, p59_31, p59_34, p59_37, p59_38, p59_41, p59_44, p59_45, p59_46, p59_47, p59_48, p59_51, p59_54, p59_55, p59_56, p59_57, p59_60, p59_61, p59_62, p59_63, p59_66, p59_67, p59_70, p59_71, p59_74, p59_77, p59_78, p59_79, p59_80, p59_83, p59_86, p59_89, p59_90, p59_93, p59_94, p59_95, p59_96, p59_97, p59_98, p59_101, p59_104, p59_107, p59_108, p59_111, p59_112, p59_115, p59_116, p59_117, p59_118, p59_121, p59_122, p59_125, p59_128, p59_129, p59_130, p59_131, p59_134, p59_136, p59_137, p59_138, p59_139, p59_142, p59_144, p59_147, p59_150, K_27, K_28, L_28, K_29, L_29, K_30, L_30, K_31, L_31, K_32, L_32, K_33, L_33, K_34, K_35, K_36, L_36, K_37, L_37, K_38, L_38, K_39, L_39, K_40, K_41, L_41, K_42, L_42, K_43, L_43, K_44, L_44, K_45, L_45, K_46, L_46, K_47, L_47, K_48, L_48, K_49, L_49, K_50, L_50, K_51, L_51, K_52, K_53, K_54, L_54, K_55, L_55, K_56, L_56, K_57, L_57, K_58, K_59, L_59, K_60, L_60, K_61, L_61, K_62, L_62, K_63, L_63, K_64, L_64, K_65, L_65, K_66, L_66, K_67, L_67, K_68, L_68, K_69, L_69, sh_27_0 S, sh_27_1 S, sh_27_2 S, sh_27_3 S, sh_27_4 S, sh_27_5 S, sh_34_0 S, sh_34_1 S, sh_34_2 S, sh_34_3 S, sh_34_4 S, sh_34_5 S, sh_34_6 S, sh_34_7 S, sh_35_0 S, sh_35_1 S, sh_35_2 S, sh_35_3 S, sh_40_0 S, sh_40_1 S, sh_40_2 S, sh_40_3 S, sh_40_4 S, sh_40_5 S, sh_52_0 S, sh_52_1 S, sh_52_2 S, sh_52_3 S, sh_52_4 S, sh_52_5 S, sh_52_6 S, sh_52_7 S, sh_53_0 S, sh_53_1 S, sh_53_2 S, sh_53_3 S, sh_58_0 S, sh_58_1 S, sh_58_2 S, sh_58_3 S, sh_58_4 S, sh_58_5 S, sh_52_2 SX, sh_58_4 SX, ct, h1, lc, h4, hn, g2, d5', e96, e97, f111, f110, ho', h5, d60, d7, k99, c1, c2, w1, b2_T, b2_F, Int.reduceEq, Int.reduceLT, Int.reduceLE, Int.reduceAdd, Int.reduceSub, Int.reduceMul, Int.reduceNeg, reduceIte, if_true, if_false, true_or, or_true, false_or, or_false, false_and, and_false, eq_self, not_false_eq_true, not_true_eq_false, true_and, and_true, List.cons_append, List.nil_append, List.append_nil, b2_0, b2_1, b2_01, Classical.not_not]
            · rw [if_neg h6] at em
              have h7 : ¬ opn g o (opp (g 97 n)) = 0 := fun x => h6 (opn_e.1 x)
              have h8 : fre g o (opp (g 97 n)) := Classical.byContradiction fun x => h6 (Or.inr x)
              have j9 : g 72 o = 9 → jand (jshr (g 73 o) (opp (g 97 n))) 1 = 1 := by
                intro k9
                rcases h8 with y | y | y
                · omega
                · omega
                · exact y.2
              have z1 : ¬ (if g 72 o = 9 then oth (g 73 o) (opp (g 97 n)) else g 97 n) = -1 := by
                split
                · have := (oth_s (e := g 73 o) (f := opp (g 97 n))).1
                  omega
                · exact hr
              have RX := RR_enter (o := o) (f := opp (g 97 n)) R (by decide) hp ⟨hn, g2⟩ h1 hr at2.2.1 rfl z1
              simp only [Int.reduceAdd] at RX
              apply go (xEnter m 58 n o (if g 72 o = 9 then oth (g 73 o) (opp (g 97 n)) else g 97 n)) (by rw [em]; exact RX) (FR_bal (fun x j hx => enter_f (r := 52) hx))
              · rw [em]
                exact T' _ (fun x j h1 h2 => go_f (by omega) (by omega) (by omega) (by omega)) go_n
              · intro tl Q q2 q3 q4
                have d60 := fun (Q : Ds → Mm → List MV → Prop) => e60 (tl := tl) (Q := Q) (f := opp (g 97 n)) R T (by decide) hp oc
                have d61 := fun (Q : Ds → Mm → List MV → Prop) => e61 (tl := tl) (Q := Q) (wy := g 97 n) R (by decide) hp oc at2.1 (t.a.a.p o oc).e j9
                have d9 := fun (Q : Ds → Mm → List MV → Prop) (z : Int) => e9 (tl := tl) (Q := Q) (w := z) (c := o) (B := 58) S (by decide) hn1 hB hcc oc (by
                  have := b3.1
                  simp only [Int.reduceAdd]
                  omega)
                refine ⟨(0, g 97 n), (0, o), q4, ?_⟩
                rw [p59_2]
                simp only [p59_3, p59_4, p59_7, p59_10, p59_13, p59_14, p59_17, p59_20, p59_23, p59_26, p59_27, p59_30, p59_31, p59_34, p59_37, p59_38, p59_41, p59_44, p59_45, p59_46, p59_47, p59_48, p59_51, p59_54, p59_55, p59_56, p59_57, p59_60, p59_61, p59_62, p59_63, p59_66, p59_67, p59_70, p59_71, p59_74, p59_77, p59_78, p59_79, p59_80, p59_83, p59_86, p59_89, p59_90, p59_93, p59_94, p59_95, p59_96, p59_97, p59_98, p59_101, p59_104, p59_107, p59_108, p59_111, p59_112, p59_115, p59_116, p59_117, p59_118, p59_121, p59_122, p59_125, p59_128, p59_129, p59_130, p59_131, p59_134, p59_136, p59_137, p59_138, p59_139, p59_142, p59_144, p59_147, p59_150, K_27, K_28, L_28, K_29, L_29, K_30, L_30, K_31, L_31, K_32, L_32, K_33, L_33, K_34, K_35, K_36, L_36, K_37, L_37, K_38, L_38, K_39, L_39, K_40, K_41, L_41, K_42, L_42, K_43, L_43, K_44, L_44, K_45, L_45, K_46, L_46, K_47, L_47, K_48, L_48, K_49, L_49, K_50, L_50, K_51, L_51, K_52, K_53, K_54, L_54, K_55, L_55, K_56, L_56, K_57, L_57, K_58, K_59, L_59, K_60, L_60, K_61, L_61, K_62, L_62, K_63, L_63, K_64, L_64, K_65, L_65, K_66, L_66, K_67, L_67, K_68, L_68, K_69, L_69, sh_27_0 S, sh_27_1 S, sh_27_2 S, sh_27_3 S, sh_27_4 S, sh_27_5 S, sh_34_0 S, sh_34_1 S, sh_34_2 S, sh_34_3 S, sh_34_4 S, sh_34_5 S, sh_34_6 S, sh_34_7 S, sh_35_0 S, sh_35_1 S, sh_35_2 S, sh_35_3 S, sh_40_0 S, sh_40_1 S, sh_40_2 S, sh_40_3 S, sh_40_4 S, sh_40_5 S, sh_52_0 S, sh_52_1 S, sh_52_2 S, sh_52_3 S, sh_52_4 S, sh_52_5 S, sh_52_6 S, sh_52_7 S, sh_53_0 S, sh_53_1 S, sh_53_2 S, sh_53_3 S, sh_58_0 S, sh_58_1 S, sh_58_2 S, sh_58_3 S, sh_58_4 S, sh_58_5 S, ct, h1, lc, h4, hn, g2, d5', e96, e97, f111, f110, ho', h5, d60, h7, d61, d9, w1, b2_T, b2_F, Int.reduceEq, Int.reduceLT, Int.reduceLE, Int.reduceAdd, Int.reduceSub, Int.reduceMul, Int.reduceNeg, reduceIte, if_true, if_false, true_or, or_true, false_or, or_false, false_and, and_false, eq_self, not_false_eq_true, not_true_eq_false, true_and, and_true, List.cons_append, List.nil_append, List.append_nil, b2_0, b2_1, b2_01, Classical.not_not]
    · rw [if_neg (fun x => h1 x.1)]
      refine ⟨m, R, FR_refl, T, fun tl Q q2 q3 q4 => ?_⟩
      rw [p59_2]
      simp only [p59_3, p59_4, p59_7, p59_10, p59_153, K_27, K_28, L_28, K_29, L_29, K_30, L_30, K_31, L_31, K_32, L_32, K_33, L_33, K_34, K_35, K_36, L_36, K_37, L_37, K_38, L_38, K_39, L_39, K_40, K_41, L_41, K_42, L_42, K_43, L_43, K_44, L_44, K_45, L_45, K_46, L_46, K_47, L_47, K_48, L_48, K_49, L_49, K_50, L_50, K_51, L_51, K_52, K_53, K_54, L_54, K_55, L_55, K_56, L_56, K_57, L_57, K_58, K_59, L_59, K_60, L_60, K_61, L_61, K_62, L_62, K_63, L_63, K_64, L_64, K_65, L_65, K_66, L_66, K_67, L_67, K_68, L_68, K_69, L_69, sh_27_0 S, sh_27_1 S, sh_27_2 S, sh_27_3 S, sh_27_4 S, sh_27_5 S, sh_34_0 S, sh_34_1 S, sh_34_2 S, sh_34_3 S, sh_34_4 S, sh_34_5 S, sh_34_6 S, sh_34_7 S, sh_35_0 S, sh_35_1 S, sh_35_2 S, sh_35_3 S, sh_40_0 S, sh_40_1 S, sh_40_2 S, sh_40_3 S, sh_40_4 S, sh_40_5 S, sh_52_0 S, sh_52_1 S, sh_52_2 S, sh_52_3 S, sh_52_4 S, sh_52_5 S, sh_52_6 S, sh_52_7 S, sh_53_0 S, sh_53_1 S, sh_53_2 S, sh_53_3 S, sh_58_0 S, sh_58_1 S, sh_58_2 S, sh_58_3 S, sh_58_4 S, sh_58_5 S, ct, h1, b2_T, b2_F, Int.reduceEq, Int.reduceLT, Int.reduceLE, Int.reduceAdd, Int.reduceSub, Int.reduceMul, Int.reduceNeg, reduceIte, if_true, if_false, true_or, or_true, false_or, or_false, false_and, and_false, eq_self, not_false_eq_true, not_true_eq_false, true_and, and_true, List.cons_append, List.nil_append, List.append_nil, b2_0, b2_1, b2_01, Classical.not_not]
theorem c59 (hr : r = 34 ∨ r = 52) (hp : p = 9 ∨ p = 18) (R : RR m r p g (-1) (-1)) (t : TI g 0) (T : GT g) (hd : ∀ j, 0 ≤ j → j < g 70 30 → m (r + 12) j = g 100 j) : ∃ m', RR m' r p (mRollL 97 g 0) (-1) (-1) ∧ FR m m' r ∧ GT (mRollL 97 g 0) ∧ ∀ (tl : Ds) (Q : Ds → Mm → List MV → Prop), WP 59 0 [(2, r), (3, 0), (3, 0), (3, 0), (3, 0)] [] (dsB ++ tl) m Q = Q (dsB ++ tl) m' [] := by
  rcases hr with rfl | rfl
  · obtain ⟨m', r1, r2, r3, r4⟩ := c59_34 hp 97 m g 0 R t T hd (Int.le_refl _) (by omega)
    refine ⟨m', r1, r2, r3, fun tl Q => ?_⟩
    simp only [p59_0, p59_1, r4]
  · obtain ⟨m', r1, r2, r3, r4⟩ := c59_52 hp 97 m g 0 R t T hd (Int.le_refl _) (by omega)
    refine ⟨m', r1, r2, r3, fun tl Q => ?_⟩
    simp only [p59_0, p59_1, r4]
end CROLL
