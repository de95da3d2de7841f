/-! fewest: the reference's side -/
/-- all but the plan, the second bank, fewest and lostFirst -/
def FB (m Y : Mm) : Prop := ∀ x j, ¬ (72 ≤ x ∧ x ≤ 76) → ¬ (86 ≤ x ∧ x ≤ 100) → ¬ (x = 70 ∧ (j = 24 ∨ j = 25 ∨ j = 26 ∨ j = 30 ∨ j = 45)) → ¬ (x = 101 ∧ 12 ≤ j) → ¬ (x = 102 ∧ 12000 ≤ j) → ¬ ((x = 103 ∨ x = 104 ∨ x = 105 ∨ x = 106 ∨ x = 109) ∧ 192 ≤ j) → ¬ x = 112 → Y x j = m x j
def LB (Y G : Mm) : Prop := ∀ c, isC c → Y 109 (96 + c) = LO G c
section FEWEST3
variable {tl : Ds} {m X Y Z g h G : Mm} {Q : Ds → Mm → List MV → Prop} {p q c k a b s o t v i j d A bell tick n pl : Int}
theorem FB_refl : FB m m := fun _ _ _ _ _ _ _ _ _ => rfl
theorem FB_tr (h1 : FB m X) (h2 : FB X Y) : FB m Y := fun x j a b c d e f g' => (h2 x j a b c d e f g').trans (h1 x j a b c d e f g')
theorem FB_G (F : FG m X 2) : FB m X := fun x j a b c d e f g' => F x j b c (by omega) (by omega) (by omega)
theorem FB_7 (F : ∀ x j, ¬ (72 ≤ x ∧ x ≤ 76) → X x j = m x j) : FB m X := fun x j a b c d e f g' => F x j a
theorem FB_112 : FB m (up m 112 i v) := fun x j a b c d e f g' => by rw [up_at, if_neg (fun y => g' y.1)]
theorem LB_FB (L : LB X G) (F : FB X Y) : LB Y G := fun c hc => by
  rw [F 109 (96 + c) (by omega) (by omega) (by omega) (by omega) (by omega) (by have := hc.2; omega) (by omega)]
  exact L c hc
theorem e182 (S : Sh m) (hn : 0 ≤ n ∧ n < 576) : WP 182 0 [(2, 70), (0, n / 6), (0, n % 6), (3, 0), (3, 0)] [] (dsB ++ tl) m Q = Q (dsB ++ tl) (chL m n) [(0, chC n)] := by
  have cc := n6 hn
  have ar : 0 ≤ chA n ∧ chA n < 6 := by
    unfold chA
    split <;> omega
  have kr := chK_r (n := n)
  have w2 : w32 (100 * (n / 6)) = 100 * (n / 6) := w32_id (by omega) (by omega)
  have y128 := fun (Q : Ds → Mm → List MV → Prop) => e128 (tl := tl) (Q := Q) (k := chK n) (a := chA n) (b := 0) S cc
  unfold chL chC
  by_cases h : n % 6 < 2
  · have k1 : chK n = 1 := if_pos h
    have a1 : chA n = n % 6 := if_pos h
    rw [k1, a1] at y128
    rw [a1] at ar
    rw [k1, a1]
    have w3 : w32 (100 * (n / 6) + 10) = 100 * (n / 6) + 10 := w32_id (by omega) (by omega)
    have w4 : w32 (100 * (n / 6) + 10 + n % 6) = 100 * (n / 6) + 10 + n % 6 := w32_id (by omega) (by omega)
    simp only [p182_0, p182_1, p182_2, p182_5, p182_6, p182_9, p182_10, p182_11, p182_12, p182_13, p182_16, p182_17, p182_20, p182_21, p182_22, p182_23, p182_25, p182_26, p182_27, p182_28, p182_30, p182_31, p182_34, p182_36, p182_37, p182_38, p182_40, p182_41, p182_42, p182_43, p182_45, p182_46, K_70, h, y128, w2, w3, w4, show w32 10 = 10 by decide, b2_T, b2_F, Int.reduceEq, Int.reduceLT, Int.reduceLE, Int.reduceAdd, Int.reduceSub, Int.reduceMul, Int.reduceNeg, reduceIte, if_true, if_false, true_or, or_true, false_or, or_false, false_and, and_false, eq_self, not_false_eq_true, not_true_eq_false, true_and, and_true, List.cons_append, List.nil_append, List.append_nil, b2_0, b2_1, b2_01, Classical.not_not]
  · have k1 : chK n = 2 := if_neg h
    have a1 : chA n = n % 6 - 2 := if_neg h
    rw [k1, a1] at y128
    rw [a1] at ar
    rw [k1, a1]
    have w1 : w32 (n % 6 - 2) = n % 6 - 2 := w32_id (by omega) (by omega)
    have w3 : w32 (100 * (n / 6) + 20) = 100 * (n / 6) + 20 := w32_id (by omega) (by omega)
    have w4 : w32 (100 * (n / 6) + 20 + (n % 6 - 2)) = 100 * (n / 6) + 20 + (n % 6 - 2) := w32_id (by omega) (by omega)
    simp only [p182_0, p182_1, p182_2, p182_5, p182_6, p182_9, p182_10, p182_11, p182_12, p182_13, p182_16, p182_17, p182_20, p182_21, p182_22, p182_23, p182_25, p182_26, p182_27, p182_28, p182_30, p182_31, p182_34, p182_36, p182_37, p182_38, p182_40, p182_41, p182_42, p182_43, p182_45, p182_46, K_70, h, y128, w1, w2, w3, w4, show w32 20 = 20 by decide, b2_T, b2_F, Int.reduceEq, Int.reduceLT, Int.reduceLE, Int.reduceAdd, Int.reduceSub, Int.reduceMul, Int.reduceNeg, reduceIte, if_true, if_false, true_or, or_true, false_or, or_false, false_and, and_false, eq_self, not_false_eq_true, not_true_eq_false, true_and, and_true, List.cons_append, List.nil_append, List.append_nil, b2_0, b2_1, b2_01, Classical.not_not]
/-- what a search of one tells -/
def one1 (f : Nat) (n : Int) (G Y Y' : Mm) (bell tick pl : Int) : Prop := if srch G bell tick f n = -1 then (∀ j, Y' 112 j = Y 112 j) else Y' 112 pl = chC (srch G bell tick f n) ∧ ∀ j, ¬ j = pl → Y' 112 j = Y 112 j
theorem one_b (W : WG G) (hB : isC bell) (hp : pl = 0 ∨ pl = 1) (hn : 0 ≤ n ∧ n < 576) {f : Nat} (WY : WG Y) (E : PE G Y) (L : LB Y G) (ih : ∀ Y1 : Mm, WG Y1 → PE G Y1 → LB Y1 G → ∃ Y', WG Y' ∧ PE G Y' ∧ FB Y1 Y' ∧ one1 f (n + 1) G Y1 Y' bell tick pl ∧ ∀ (tl : Ds) (Q : Ds → Mm → List MV → Prop) (q7 q8 : MV), (q7.1 = 0 ∨ q7.1 = 3) → (q8.1 = 0 ∨ q8.1 = 3) → WP 183 89 [(2, 70), (0, bell), (0, tick), (0, 1), (0, pl), (0, n / 6), (0, n % 6), q7, q8] [] (dsB ++ tl) Y1 Q = Q (dsB ++ tl) Y' [(0, if srch G bell tick f (n + 1) = -1 then 0 else 1)]) : ∃ Y', WG Y' ∧ PE G Y' ∧ FB Y Y' ∧ one1 (f + 1) n G Y Y' bell tick pl ∧ ∀ (tl : Ds) (Q : Ds → Mm → List MV → Prop) (q7 q8 : MV), (q7.1 = 0 ∨ q7.1 = 3) → (q8.1 = 0 ∨ q8.1 = 3) → WP 183 20 [(2, 70), (0, bell), (0, tick), (0, 1), (0, pl), (0, n / 6), (0, n % 6), q7, q8] [] (dsB ++ tl) Y Q = Q (dsB ++ tl) Y' [(0, if srch G bell tick (f + 1) n = -1 then 0 else 1)] := by
  have cc := n6 hn
  have c0 := cc.1
  have c1 := cc.2
  have S := WY.S
  have lc := L _ cc
  have nne : ¬ n = -1 := by omega
  have x0 : 0 ≤ 96 + n / 6 := by omega
  have x1 : 96 + n / 6 < 288 := by omega
  have w1 : w32 (96 + n / 6) = 96 + n / 6 := w32_id (by omega) (by omega)
  have w96 : w32 96 = 96 := by decide
  have w2 : w32 2 = 2 := by decide
  have fq : (Y 72 (n / 6) = 0 ∧ Y 76 (n / 6) = 0) ↔ fre6 G n := by
    unfold fre6
    rw [E.k _ cc, E.b _ cc]
  by_cases hl : LO G (n / 6) = 0
  · have hc : ¬ cnd G n := fun y => y.1 hl
    have e1 : srch G bell tick (f + 1) n = srch G bell tick f (n + 1) := by
      rw [srch_s]
      exact if_neg (fun y => hc y.1)
    obtain ⟨Y', r1, r2, r3, r4, r5⟩ := ih Y WY E L
    refine ⟨Y', r1, r2, r3, by unfold one1; rw [e1]; exact r4, fun tl Q q7 q8 h7 h8 => ?_⟩
    rw [hl] at lc
    rw [e1, ← r5 tl Q q7 q8 h7 h8]
    simp only [p183_20, p183_21, p183_24, p183_26, p183_27, p183_28, p183_30, p183_31, p183_32, K_70, K_109, L_109, sh_70_44 S, w96, w1, x0, x1, lc, b2_T, b2_F, Int.reduceEq, Int.reduceLT, Int.reduceLE, Int.reduceAdd, Int.reduceSub, Int.reduceMul, Int.reduceNeg, reduceIte, if_true, if_false, true_or, or_true, false_or, or_false, false_and, and_false, eq_self, not_false_eq_true, not_true_eq_false, true_and, and_true, List.cons_append, List.nil_append, List.append_nil, b2_0, b2_1, b2_01, Classical.not_not]
  · by_cases hf : fre6 G n
    · have hc : cnd G n := ⟨hl, hf⟩
      have hfY := fq.2 hf
      have W1 : WG (chL Y n) := WG_ch WY hn hfY
      have WGg : WG (chL G n) := WG_ch W hn hf
      have EG : PE (chL G n) (chL Y n) := PE_ly E
      have rw' := runs_w (w := 2) W1 (by decide)
      have det : MT (chL G n) bell tick ↔ metP (mRuns (chL Y n) 2 103 (96 * 2 + bell)) bell tick := met_det (w1 := 1) (w2 := 2) WGg W1 EG (by decide) (by decide)
      have x172 := fun (tl : Ds) (Q : Ds → Mm → List MV → Prop) => e172 (tl := tl) (Q := Q) (w := 2) (bell := bell) (tick := tick) W1 (by decide) hB
      obtain ⟨Z, hZ⟩ : ∃ Z, Z = mRuns (chL Y n) 2 := ⟨_, rfl⟩
      rw [← hZ] at rw' x172 det
      have SZ := rw'.1.S
      have EZ : PE (chL G n) Z := PE_tr EG rw'.2.1
      have fZ : FB Y Z := FB_tr (FB_7 (fun x j h => ly_f (by omega))) (FB_G rw'.2.2)
      have S5 : Sh (up Z 72 (n / 6) 0) := Sh_ar SZ (by decide)
      have E5 : PE G (up Z 72 (n / 6) 0) := PE_of2 EZ cc hf
      have F5 : FB Y (up Z 72 (n / 6) 0) := FB_tr fZ (FB_7 (fun x j h => by rw [up_at, if_neg (fun y => h (by rw [y.1]; decide))]))
      have f112 : ∀ j, up Z 72 (n / 6) 0 112 j = Y 112 j := fun j => by
        rw [up_at, if_neg (fun y => absurd y.1 (by decide)), rw'.2.2 112 j (by decide) (fun y => absurd y.1 (by decide)) (fun y => absurd y.1 (by decide)) (fun y => absurd y.1 (by decide)) (fun y => absurd y.1 (by decide))]
        exact ly_f (by decide)
      have y126 := fun (tl : Ds) (Q : Ds → Mm → List MV → Prop) => e126 (tl := tl) (Q := Q) (c := n / 6) S cc
      simp only [b2_t hfY] at y126
      by_cases hm : MT (chL G n) bell tick
      · have e1 : srch G bell tick (f + 1) n = n := by
          rw [srch_s]
          exact if_pos ⟨hc, hm⟩
        have S6 : Sh (up (up Z 72 (n / 6) 0) 112 pl (chC n)) := Sh_ar S5 (by decide)
        have E6 : PE G (up (up Z 72 (n / 6) 0) 112 pl (chC n)) := PE_tr E5 (PE_cg (fun x j h1 h2 => by rw [up_at, if_neg (fun y => absurd (y.1 ▸ h2) (by decide))]) rfl)
        refine ⟨up (up Z 72 (n / 6) 0) 112 pl (chC n), WG_pe W E6 S6, E6, FB_tr F5 FB_112, ?_, fun tl Q q7 q8 h7 h8 => ?_⟩
        · unfold one1
          rw [e1, if_neg nne]
          refine ⟨by simp only [up_at, b2_T, b2_F, Int.reduceEq, Int.reduceLT, Int.reduceLE, Int.reduceAdd, Int.reduceSub, Int.reduceMul, Int.reduceNeg, reduceIte, if_true, if_false, true_or, or_true, false_or, or_false, false_and, and_false, eq_self, not_false_eq_true, not_true_eq_false, true_and, and_true, List.cons_append, List.nil_append, List.append_nil, b2_0, b2_1, b2_01, Classical.not_not], fun j hj => ?_⟩
          rw [up_at, if_neg (fun y => hj y.2), f112]
        · have y1 := y126 tl
          have y2 := x172 tl
          simp only [b2_t (det.1 hm)] at y2
          have y3 := fun (Q : Ds → Mm → List MV → Prop) => e182 (tl := tl) (Q := Q) S hn
          have p0 : 0 ≤ pl := by omega
          have p1 : pl < 2 := by omega
          rw [e1, if_neg nne]
          rcases q7 with ⟨t7, v7⟩
          rcases q8 with ⟨t8, v8⟩
          rcases h7 with h7 | h7 <;> rcases h8 with h8 | h8
          all_goals (simp only at h7 h8; subst h7; subst h8)
          all_goals simp only [p183_20, p183_21, p183_24, p183_26, p183_27, p183_28, p183_30, p183_31, p183_32, p183_35, p183_36, p183_38, p183_41, p183_44, p183_45, p183_47, p183_49, p183_52, p183_54, p183_55, p183_56, p183_57, p183_58, p183_59, p183_60, p183_63, p183_65, p183_66, p183_69, p183_71, p183_72, p183_73, p183_75, p183_78, p183_79, p183_82, p183_84, p183_86, p183_87, p183_88, K_70, K_72, L_72, K_109, L_109, K_112, L_112, sh_70_44 S, sh_70_1 SZ, sh_70_50 S5, w96, w1, w2, x0, x1, lc, hl, y1, y2, y3, c0, c1, p0, p1, b2_T, b2_F, Int.reduceEq, Int.reduceLT, Int.reduceLE, Int.reduceAdd, Int.reduceSub, Int.reduceMul, Int.reduceNeg, reduceIte, if_true, if_false, true_or, or_true, false_or, or_false, false_and, and_false, eq_self, not_false_eq_true, not_true_eq_false, true_and, and_true, List.cons_append, List.nil_append, List.append_nil, b2_0, b2_1, b2_01, Classical.not_not]
      · have e1 : srch G bell tick (f + 1) n = srch G bell tick f (n + 1) := by
          rw [srch_s]
          exact if_neg (fun y => hm y.2)
        obtain ⟨Y', r1, r2, r3, r4, r5⟩ := ih (up Z 72 (n / 6) 0) (WG_pe W E5 S5) E5 (LB_FB L F5)
        refine ⟨Y', r1, r2, FB_tr F5 r3, ?_, fun tl Q q7 q8 h7 h8 => ?_⟩
        · unfold one1 at r4 ⊢
          rw [e1]
          simp only [f112] at r4
          exact r4
        · have y1 := y126 tl
          have y2 := x172 tl
          simp only [b2_f (fun y => hm (det.2 y))] at y2
          have y3 := fun (Q : Ds → Mm → List MV → Prop) => e182 (tl := tl) (Q := Q) S hn
          rw [e1, ← r5 tl Q (0, chC n) (0, 0) (Or.inl rfl) (Or.inl rfl)]
          rcases q7 with ⟨t7, v7⟩
          rcases q8 with ⟨t8, v8⟩
          rcases h7 with h7 | h7 <;> rcases h8 with h8 | h8
          all_goals (simp only at h7 h8; subst h7; subst h8)
          all_goals simp only [p183_20, p183_21, p183_24, p183_26, p183_27, p183_28, p183_30, p183_31, p183_32, p183_35, p183_36, p183_38, p183_41, p183_44, p183_45, p183_47, p183_49, p183_52, p183_54, p183_55, p183_56, p183_57, p183_58, p183_59, p183_60, p183_63, p183_65, p183_66, p183_69, p183_71, p183_72, p183_73, p183_75, p183_78, p183_79, p183_82, p183_84, p183_86, p183_87, p183_88, K_70, K_72, L_72, K_109, L_109, sh_70_44 S, sh_70_1 SZ, w96, w1, w2, x0, x1, lc, hl, y1, y2, y3, c0, c1, b2_T, b2_F, Int.reduceEq, Int.reduceLT, Int.reduceLE, Int.reduceAdd, Int.reduceSub, Int.reduceMul, Int.reduceNeg, reduceIte, if_true, if_false, true_or, or_true, false_or, or_false, false_and, and_false, eq_self, not_false_eq_true, not_true_eq_false, true_and, and_true, List.cons_append, List.nil_append, List.append_nil, b2_0, b2_1, b2_01, Classical.not_not]
    · have hc : ¬ cnd G n := fun y => hf y.2
      have e1 : srch G bell tick (f + 1) n = srch G bell tick f (n + 1) := by
        rw [srch_s]
        exact if_neg (fun y => hc y.1)
      obtain ⟨Y', r1, r2, r3, r4, r5⟩ := ih Y WY E L
      refine ⟨Y', r1, r2, r3, by unfold one1; rw [e1]; exact r4, fun tl Q q7 q8 h7 h8 => ?_⟩
      have y1 := fun (Q : Ds → Mm → List MV → Prop) => e126 (tl := tl) (Q := Q) (c := n / 6) S cc
      simp only [b2_f (fun y => hf (fq.1 y))] at y1
      rw [e1, ← r5 tl Q q7 q8 h7 h8]
      simp only [p183_20, p183_21, p183_24, p183_26, p183_27, p183_28, p183_30, p183_31, p183_32, p183_35, p183_36, p183_38, p183_41, K_70, K_109, L_109, sh_70_44 S, w96, w1, x0, x1, lc, hl, y1, b2_T, b2_F, Int.reduceEq, Int.reduceLT, Int.reduceLE, Int.reduceAdd, Int.reduceSub, Int.reduceMul, Int.reduceNeg, reduceIte, if_true, if_false, true_or, or_true, false_or, or_false, false_and, and_false, eq_self, not_false_eq_true, not_true_eq_false, true_and, and_true, List.cons_append, List.nil_append, List.append_nil, b2_0, b2_1, b2_01, Classical.not_not]
end FEWEST3
