/-! fewest: the reference's side, in full -/
section FEWEST4
variable {tl : Ds} {m X Y Z g h G : Mm} {Q : Ds → Mm → List MV → Prop} {p q c k a b s o t v i j d A bell tick n pl : Int}
theorem one_l (W : WG G) (hB : isC bell) (hp : pl = 0 ∨ pl = 1) : ∀ (f : Nat) (n : Int) (Y : Mm), 0 ≤ n → n + 1 + f = 576 → WG Y → PE G Y → LB Y G → ∃ Y', WG Y' ∧ PE G Y' ∧ FB Y Y' ∧ one1 f (n + 1) G Y Y' bell tick pl ∧ ∀ (tl : Ds) (Q : Ds → Mm → List MV → Prop) (q7 q8 : MV), (q7.1 = 0 ∨ q7.1 = 3) → (q8.1 = 0 ∨ q8.1 = 3) → WP 183 89 [(2, 70), (0, bell), (0, tick), (0, 1), (0, pl), (0, n / 6), (0, n % 6), q7, q8] [] (dsB ++ tl) Y Q = Q (dsB ++ tl) Y' [(0, if srch G bell tick f (n + 1) = -1 then 0 else 1)] := by
  intro f
  induction f with
  | zero =>
    intro n Y h0 h1 WY E L
    have hn : n = 575 := by omega
    subst hn
    have e0 : srch G bell tick 0 (575 + 1) = -1 := rfl
    refine ⟨Y, WY, E, FB_refl, by unfold one1; rw [e0, if_pos rfl]; exact fun _ => rfl, fun tl Q q7 q8 _ _ => ?_⟩
    have n1 : (575 : Int) / 6 = 95 := by decide
    have n2 : (575 : Int) % 6 = 5 := by decide
    rw [e0, if_pos rfl, n1, n2, p183_89]
    simp only [show w32 6 = 6 by decide, Int.reduceAdd]
    rw [p183_92, p183_13]
    simp only [p183_15, p183_17, p183_95, p183_98, show w32 96 = 96 by decide, b2_T, b2_F, Int.reduceEq, Int.reduceLT, Int.reduceLE, Int.reduceAdd, Int.reduceSub, Int.reduceMul, Int.reduceNeg, reduceIte, if_true, if_false, true_or, or_true, false_or, or_false, false_and, and_false, eq_self, not_false_eq_true, not_true_eq_false, true_and, and_true, List.cons_append, List.nil_append, List.append_nil, b2_0, b2_1, b2_01, Classical.not_not, Int.lt_irrefl]
    rw [p183_3]
    simp only [p183_5, p183_7, p183_101, p183_102, b2_T, b2_F, Int.reduceEq, Int.reduceLT, Int.reduceLE, Int.reduceAdd, Int.reduceSub, Int.reduceMul, Int.reduceNeg, reduceIte, if_true, if_false, true_or, or_true, false_or, or_false, false_and, and_false, eq_self, not_false_eq_true, not_true_eq_false, true_and, and_true, List.cons_append, List.nil_append, List.append_nil, b2_0, b2_1, b2_01, Classical.not_not, Int.lt_irrefl]
  | succ f ih =>
    intro n Y h0 h1 WY E L
    have hn1 : 0 ≤ n + 1 ∧ n + 1 < 576 := ⟨by omega, by omega⟩
    obtain ⟨Y', r1, r2, r3, r4, r5⟩ := one_b W hB hp hn1 (f := f) (tick := tick) WY E L (fun Y1 W1 E1 L1 => ih (n + 1) Y1 (by omega) (by omega) W1 E1 L1)
    refine ⟨Y', r1, r2, r3, r4, fun tl Q q7 q8 h7 h8 => ?_⟩
    rw [← r5 tl Q q7 q8 h7 h8, p183_89, p183_92]
    have w1 : w32 (n % 6 + 1) = n % 6 + 1 := w32_id (by omega) (by omega)
    by_cases h : n % 6 + 1 < 6
    · have e1 : (n + 1) / 6 = n / 6 := by omega
      have e2 : (n + 1) % 6 = n % 6 + 1 := by omega
      rw [e1, e2, w1, p183_13]
      simp only [p183_15, p183_17, h, b2_T, b2_F, Int.reduceEq, Int.reduceLT, Int.reduceLE, Int.reduceAdd, Int.reduceSub, Int.reduceMul, Int.reduceNeg, reduceIte, if_true, if_false, true_or, or_true, false_or, or_false, false_and, and_false, eq_self, not_false_eq_true, not_true_eq_false, true_and, and_true, List.cons_append, List.nil_append, List.append_nil, b2_0, b2_1, b2_01, Classical.not_not]
    · have e1 : (n + 1) / 6 = n / 6 + 1 := by omega
      have e2 : (n + 1) % 6 = 0 := by omega
      have e3 : n % 6 + 1 = 6 := by omega
      have w2 : w32 (n / 6 + 1) = n / 6 + 1 := w32_id (by omega) (by omega)
      have c9 : n / 6 + 1 < 96 := by omega
      rw [e1, e2, w1, e3, p183_13]
      simp only [p183_15, p183_17, p183_95, p183_98, w2, b2_T, b2_F, Int.reduceEq, Int.reduceLT, Int.reduceLE, Int.reduceAdd, Int.reduceSub, Int.reduceMul, Int.reduceNeg, reduceIte, if_true, if_false, true_or, or_true, false_or, or_false, false_and, and_false, eq_self, not_false_eq_true, not_true_eq_false, true_and, and_true, List.cons_append, List.nil_append, List.append_nil, b2_0, b2_1, b2_01, Classical.not_not, Int.lt_irrefl]
      rw [p183_3]
      simp only [p183_5, p183_7, p183_10, p183_11, c9, b2_T, b2_F, Int.reduceEq, Int.reduceLT, Int.reduceLE, Int.reduceAdd, Int.reduceSub, Int.reduceMul, Int.reduceNeg, reduceIte, if_true, if_false, true_or, or_true, false_or, or_false, false_and, and_false, eq_self, not_false_eq_true, not_true_eq_false, true_and, and_true, List.cons_append, List.nil_append, List.append_nil, b2_0, b2_1, b2_01, Classical.not_not]
      rw [p183_13]
      simp only [p183_15, p183_17, b2_T, b2_F, Int.reduceEq, Int.reduceLT, Int.reduceLE, Int.reduceAdd, Int.reduceSub, Int.reduceMul, Int.reduceNeg, reduceIte, if_true, if_false, true_or, or_true, false_or, or_false, false_and, and_false, eq_self, not_false_eq_true, not_true_eq_false, true_and, and_true, List.cons_append, List.nil_append, List.append_nil, b2_0, b2_1, b2_01, Classical.not_not]
theorem e183 (W : WG G) (hB : isC bell) (hp : pl = 0 ∨ pl = 1) (WY : WG Y) (E : PE G Y) (L : LB Y G) : ∃ Y', WG Y' ∧ PE G Y' ∧ FB Y Y' ∧ (if FO G bell tick = -1 then (∀ j, Y' 112 j = Y 112 j) else Y' 112 pl = chC (FO G bell tick) ∧ ∀ j, ¬ j = pl → Y' 112 j = Y 112 j) ∧ ∀ (tl : Ds) (Q : Ds → Mm → List MV → Prop), WP 183 0 [(2, 70), (0, bell), (0, tick), (0, 1), (0, pl), (3, 0), (3, 0), (3, 0), (3, 0)] [] (dsB ++ tl) Y Q = Q (dsB ++ tl) Y' [(0, if FO G bell tick = -1 then 0 else 1)] := by
  obtain ⟨Y', r1, r2, r3, r4, r5⟩ := one_b W hB hp (n := 0) (by decide) (f := 575) (tick := tick) WY E L (fun Y1 W1 E1 L1 => one_l W hB hp 575 0 Y1 (by decide) (by omega) W1 E1 L1)
  refine ⟨Y', r1, r2, r3, r4, fun tl Q => ?_⟩
  have y := r5 tl Q (3, 0) (3, 0) (Or.inr rfl) (Or.inr rfl)
  have n1 : (0 : Int) / 6 = 0 := by decide
  have n2 : (0 : Int) % 6 = 0 := by decide
  rw [n1, n2] at y
  unfold FO
  rw [← y]
  simp only [p183_0, p183_1]
  rw [p183_3]
  simp only [p183_5, p183_7, p183_10, p183_11, b2_T, b2_F, Int.reduceEq, Int.reduceLT, Int.reduceLE, Int.reduceAdd, Int.reduceSub, Int.reduceMul, Int.reduceNeg, reduceIte, if_true, if_false, true_or, or_true, false_or, or_false, false_and, and_false, eq_self, not_false_eq_true, not_true_eq_false, true_and, and_true, List.cons_append, List.nil_append, List.append_nil, b2_0, b2_1, b2_01, Classical.not_not]
  rw [p183_13]
  simp only [p183_15, p183_17, b2_T, b2_F, Int.reduceEq, Int.reduceLT, Int.reduceLE, Int.reduceAdd, Int.reduceSub, Int.reduceMul, Int.reduceNeg, reduceIte, if_true, if_false, true_or, or_true, false_or, or_false, false_and, and_false, eq_self, not_false_eq_true, not_true_eq_false, true_and, and_true, List.cons_append, List.nil_append, List.append_nil, b2_0, b2_1, b2_01, Classical.not_not]
/-- all but what a search for two may change -/
def FK2 (m Y : Mm) : Prop := ∀ x j, ¬ (72 ≤ x ∧ x ≤ 76) → ¬ (86 ≤ x ∧ x ≤ 100) → ¬ (x = 70 ∧ (j = 24 ∨ j = 25 ∨ j = 26 ∨ j = 30 ∨ j = 45)) → ¬ (x = 101 ∧ 6 ≤ j) → ¬ (x = 102 ∧ 6000 ≤ j) → ¬ ((x = 103 ∨ x = 104 ∨ x = 105 ∨ x = 106 ∨ x = 109) ∧ 96 ≤ j) → ¬ x = 112 → ¬ x = 113 → Y x j = m x j
theorem FK2_refl : FK2 m m := fun _ _ _ _ _ _ _ _ _ _ => rfl
theorem FK2_tr (h1 : FK2 m X) (h2 : FK2 X Y) : FK2 m Y := fun x j a b c d e f g' h' => (h2 x j a b c d e f g' h').trans (h1 x j a b c d e f g' h')
theorem FK2_B (F : FB m X) : FK2 m X := fun x j a b c d e f g' h' => F x j a b c (by omega) (by omega) (by omega) g'
theorem FK2_G (F : FG m X 1) : FK2 m X := fun x j a b c d e f g' h' => F x j b c (by omega) (by omega) (by omega)
theorem FK2_7 (F : ∀ x j, ¬ (72 ≤ x ∧ x ≤ 76) → X x j = m x j) : FK2 m X := fun x j a b c d e f g' h' => F x j a
theorem FK2_112 : FK2 m (up m 112 i v) := fun x j a b c d e f g' h' => by rw [up_at, if_neg (fun y => g' y.1)]
def LC (Y G : Mm) : Prop := ∀ c, isC c → Y 113 c = LO G c
theorem LC_FK (L : LC X G) (F : ∀ j, Y 113 j = X 113 j) : LC Y G := fun c hc => by
  rw [F]
  exact L c hc
theorem LB_runs (W : WG G) (WY : WG Y) (E : PE G Y) : LB (mRuns Y 1) G := fun c hc => by
  have e := LO_pe W WY E hc
  unfold LO at e ⊢
  exact e
/-- what a search for two tells -/
def two1 (f : Nat) (n : Int) (G Y' : Mm) (bell tick : Int) : Prop := ¬ srch2 G bell tick f n = -1 → Y' 112 0 = chC (srch2 G bell tick f n) ∧ Y' 112 1 = chC (FO (chL G (srch2 G bell tick f n)) bell tick)
theorem two_b (W : WG G) (hB : isC bell) (hn : 0 ≤ n ∧ n < 576) {f : Nat} (WY : WG Y) (E : PE G Y) (L : LC Y G) (ih : ∀ Y1 : Mm, WG Y1 → PE G Y1 → LC Y1 G → ∃ Y', WG Y' ∧ PE G Y' ∧ FK2 Y1 Y' ∧ two1 f (n + 1) G Y' bell tick ∧ ∀ (tl : Ds) (Q : Ds → Mm → List MV → Prop) (q5 : MV), WP 184 106 [(2, 70), (0, bell), (0, tick), (0, n / 6), (0, n % 6), q5] [] (dsB ++ tl) Y1 Q = Q (dsB ++ tl) Y' [(0, if srch2 G bell tick f (n + 1) = -1 then 0 else 1)]) : ∃ Y', WG Y' ∧ PE G Y' ∧ FK2 Y Y' ∧ two1 (f + 1) n G Y' bell tick ∧ ∀ (tl : Ds) (Q : Ds → Mm → List MV → Prop) (q5 : MV), WP 184 47 [(2, 70), (0, bell), (0, tick), (0, n / 6), (0, n % 6), q5] [] (dsB ++ tl) Y Q = Q (dsB ++ tl) Y' [(0, if srch2 G bell tick (f + 1) n = -1 then 0 else 1)] := by
  have cc := n6 hn
  have c0 := cc.1
  have c1 := cc.2
  have S := WY.S
  have lc := L _ cc
  have nne : ¬ n = -1 := by omega
  have fq : (Y 72 (n / 6) = 0 ∧ Y 76 (n / 6) = 0) ↔ fre6 G n := by
    unfold fre6
    rw [E.k _ cc, E.b _ cc]
  by_cases hl : LO G (n / 6) = 0
  · have hc : ¬ cnd G n := fun y => y.1 hl
    have e1 : srch2 G bell tick (f + 1) n = srch2 G bell tick f (n + 1) := by
      rw [srch2_s]
      exact if_neg (fun y => hc y.1)
    obtain ⟨Y', r1, r2, r3, r4, r5⟩ := ih Y WY E L
    refine ⟨Y', r1, r2, r3, by unfold two1; rw [e1]; exact r4, fun tl Q q5 => ?_⟩
    rw [hl] at lc
    rw [e1, ← r5 tl Q q5]
    simp only [p184_47, p184_48, p184_51, p184_52, p184_53, K_70, K_113, L_113, sh_70_52 S, c0, c1, lc, b2_T, b2_F, Int.reduceEq, Int.reduceLT, Int.reduceLE, Int.reduceAdd, Int.reduceSub, Int.reduceMul, Int.reduceNeg, reduceIte, if_true, if_false, true_or, or_true, false_or, or_false, false_and, and_false, eq_self, not_false_eq_true, not_true_eq_false, true_and, and_true, List.cons_append, List.nil_append, List.append_nil, b2_0, b2_1, b2_01, Classical.not_not]
  · by_cases hf : fre6 G n
    · have hc : cnd G n := ⟨hl, hf⟩
      have hfY := fq.2 hf
      have W1 : WG (chL Y n) := WG_ch WY hn hfY
      have WGg : WG (chL G n) := WG_ch W hn hf
      have EG : PE (chL G n) (chL Y n) := PE_ly E
      have S2 : Sh (up (chL Y n) 112 0 (chC n)) := Sh_ar W1.S (by decide)
      have E2 : PE (chL Y n) (up (chL Y n) 112 0 (chC n)) := PE_cg (fun x j h1 h2 => by rw [up_at, if_neg (fun y => absurd (y.1 ▸ h2) (by decide))]) rfl
      have W2 := WG_pe W1 E2 S2
      have EG2 : PE (chL G n) (up (chL Y n) 112 0 (chC n)) := PE_tr EG E2
      have rw' := runs_w (w := 1) W2 (by decide)
      have lb := LB_runs WGg W2 EG2
      have x166 := fun (tl : Ds) (Q : Ds → Mm → List MV → Prop) => e166 (tl := tl) (Q := Q) (w := 1) W2.S W2.p W2.v (by decide)
      obtain ⟨Z, hZ⟩ : ∃ Z, Z = mRuns (up (chL Y n) 112 0 (chC n)) 1 := ⟨_, rfl⟩
      rw [← hZ] at rw' x166 lb
      have EZ : PE (chL G n) Z := PE_tr EG2 rw'.2.1
      obtain ⟨Y3, W3, E3, F3, O3, h3⟩ := e183 (tick := tick) (pl := 1) WGg hB (Or.inr rfl) rw'.1 EZ lb
      have S4 : Sh (up Y3 72 (n / 6) 0) := Sh_ar W3.S (by decide)
      have E4 : PE G (up Y3 72 (n / 6) 0) := PE_of2 E3 cc hf
      have Z112 : ∀ j, Z 112 j = if j = 0 then chC n else Y 112 j := fun j => by
        rw [rw'.2.2 112 j (by decide) (fun y => absurd y.1 (by decide)) (fun y => absurd y.1 (by decide)) (fun y => absurd y.1 (by decide)) (fun y => absurd y.1 (by decide)), up_at]
        by_cases hj : j = 0
        · rw [if_pos ⟨rfl, hj⟩, if_pos hj]
        · rw [if_neg (fun y => hj y.2), if_neg hj]
          exact ly_f (by decide)
      have Z113 : ∀ j, up Y3 72 (n / 6) 0 113 j = Y 113 j := fun j => by
        rw [up_at, if_neg (fun y => absurd y.1 (by decide)), F3 113 j (by decide) (by decide) (fun y => absurd y.1 (by decide)) (fun y => absurd y.1 (by decide)) (fun y => absurd y.1 (by decide)) (fun y => absurd y.1 (by decide)) (by decide), rw'.2.2 113 j (by decide) (fun y => absurd y.1 (by decide)) (fun y => absurd y.1 (by decide)) (fun y => absurd y.1 (by decide)) (fun y => absurd y.1 (by decide)), up_at, if_neg (fun y => absurd y.1 (by decide))]
        exact ly_f (by decide)
      have F4 : FK2 Y (up Y3 72 (n / 6) 0) := FK2_tr (FK2_tr (FK2_tr (FK2_tr (FK2_7 (fun x j h => ly_f (by omega))) FK2_112) (FK2_G rw'.2.2)) (FK2_B F3)) (FK2_7 (fun x j h => by rw [up_at, if_neg (fun y => h (by rw [y.1]; decide))]))
      have y126 := fun (tl : Ds) (Q : Ds → Mm → List MV → Prop) => e126 (tl := tl) (Q := Q) (c := n / 6) S cc
      simp only [b2_t hfY] at y126
      by_cases hm : FO (chL G n) bell tick = -1
      · have e1 : srch2 G bell tick (f + 1) n = srch2 G bell tick f (n + 1) := by
          rw [srch2_s]
          exact if_neg (fun y => y.2 hm)
        obtain ⟨Y', r1, r2, r3, r4, r5⟩ := ih (up Y3 72 (n / 6) 0) (WG_pe W E4 S4) E4 (LC_FK L Z113)
        refine ⟨Y', r1, r2, FK2_tr F4 r3, by unfold two1; rw [e1]; exact r4, fun tl Q q5 => ?_⟩
        have y1 := y126 tl
        have y2 := x166 tl
        have y3 := h3 tl
        rw [if_pos hm] at y3
        have y4 := fun (Q : Ds → Mm → List MV → Prop) => e182 (tl := tl) (Q := Q) S hn
        have SL2 := W1.S
        rw [e1, ← r5 tl Q (0, 0)]
        simp only [p184_47, p184_48, p184_51, p184_52, p184_53, p184_56, p184_57, p184_58, p184_61, p184_64, p184_65, p184_68, p184_69, p184_70, p184_71, p184_73, p184_76, p184_77, p184_78, p184_79, p184_82, p184_83, p184_84, p184_85, p184_86, p184_87, p184_90, p184_92, p184_93, p184_96, p184_97, p184_98, p184_99, p184_101, K_70, K_72, L_72, K_112, L_112, K_113, L_113, sh_70_52 S, sh_70_50 S, sh_70_1 W3.S, c0, c1, lc, hl, y1, y2, y3, y4, b2_T, b2_F, Int.reduceEq, Int.reduceLT, Int.reduceLE, Int.reduceAdd, Int.reduceSub, Int.reduceMul, Int.reduceNeg, reduceIte, if_true, if_false, true_or, or_true, false_or, or_false, false_and, and_false, eq_self, not_false_eq_true, not_true_eq_false, true_and, and_true, List.cons_append, List.nil_append, List.append_nil, b2_0, b2_1, b2_01, Classical.not_not]
      · have e1 : srch2 G bell tick (f + 1) n = n := by
          rw [srch2_s]
          exact if_pos ⟨hc, hm⟩
        rw [if_neg hm] at O3
        refine ⟨up Y3 72 (n / 6) 0, WG_pe W E4 S4, E4, F4, ?_, fun tl Q q5 => ?_⟩
        · unfold two1
          rw [e1]
          intro _
          constructor
          · rw [up_at, if_neg (fun y => absurd y.1 (by decide)), O3.2 0 (by decide), Z112, if_pos rfl]
          · rw [up_at, if_neg (fun y => absurd y.1 (by decide)), O3.1]
        · have y1 := y126 tl
          have y2 := x166 tl
          have y3 := h3 tl
          rw [if_neg hm] at y3
          have y4 := fun (Q : Ds → Mm → List MV → Prop) => e182 (tl := tl) (Q := Q) S hn
          rw [e1, if_neg nne]
          simp only [p184_47, p184_48, p184_51, p184_52, p184_53, p184_56, p184_57, p184_58, p184_61, p184_64, p184_65, p184_68, p184_69, p184_70, p184_71, p184_73, p184_76, p184_77, p184_78, p184_79, p184_82, p184_83, p184_84, p184_85, p184_86, p184_87, p184_90, p184_92, p184_93, p184_96, p184_97, p184_98, p184_99, p184_101, p184_104, p184_105, K_70, K_72, L_72, K_112, L_112, K_113, L_113, sh_70_52 S, sh_70_50 S, sh_70_1 W3.S, c0, c1, lc, hl, y1, y2, y3, y4, b2_T, b2_F, Int.reduceEq, Int.reduceLT, Int.reduceLE, Int.reduceAdd, Int.reduceSub, Int.reduceMul, Int.reduceNeg, reduceIte, if_true, if_false, true_or, or_true, false_or, or_false, false_and, and_false, eq_self, not_false_eq_true, not_true_eq_false, true_and, and_true, List.cons_append, List.nil_append, List.append_nil, b2_0, b2_1, b2_01, Classical.not_not]
    · have hc : ¬ cnd G n := fun y => hf y.2
      have e1 : srch2 G bell tick (f + 1) n = srch2 G bell tick f (n + 1) := by
        rw [srch2_s]
        exact if_neg (fun y => hc y.1)
      obtain ⟨Y', r1, r2, r3, r4, r5⟩ := ih Y WY E L
      refine ⟨Y', r1, r2, r3, by unfold two1; rw [e1]; exact r4, fun tl Q q5 => ?_⟩
      have y1 := fun (Q : Ds → Mm → List MV → Prop) => e126 (tl := tl) (Q := Q) (c := n / 6) S cc
      simp only [b2_f (fun y => hf (fq.1 y))] at y1
      rw [e1, ← r5 tl Q q5]
      simp only [p184_47, p184_48, p184_51, p184_52, p184_53, p184_56, p184_57, p184_58, p184_61, K_70, K_113, L_113, sh_70_52 S, c0, c1, lc, hl, y1, b2_T, b2_F, Int.reduceEq, Int.reduceLT, Int.reduceLE, Int.reduceAdd, Int.reduceSub, Int.reduceMul, Int.reduceNeg, reduceIte, if_true, if_false, true_or, or_true, false_or, or_false, false_and, and_false, eq_self, not_false_eq_true, not_true_eq_false, true_and, and_true, List.cons_append, List.nil_append, List.append_nil, b2_0, b2_1, b2_01, Classical.not_not]
theorem two_l (W : WG G) (hB : isC bell) : ∀ (f : Nat) (n : Int) (Y : Mm), 0 ≤ n → n + 1 + f = 576 → WG Y → PE G Y → LC Y G → ∃ Y', WG Y' ∧ PE G Y' ∧ FK2 Y Y' ∧ two1 f (n + 1) G Y' bell tick ∧ ∀ (tl : Ds) (Q : Ds → Mm → List MV → Prop) (q5 : MV), WP 184 106 [(2, 70), (0, bell), (0, tick), (0, n / 6), (0, n % 6), q5] [] (dsB ++ tl) Y Q = Q (dsB ++ tl) Y' [(0, if srch2 G bell tick f (n + 1) = -1 then 0 else 1)] := by
  intro f
  induction f with
  | zero =>
    intro n Y h0 h1 WY E L
    have hn : n = 575 := by omega
    subst hn
    have e0 : srch2 G bell tick 0 (575 + 1) = -1 := rfl
    refine ⟨Y, WY, E, FK2_refl, by unfold two1; rw [e0]; exact fun y => absurd rfl y, fun tl Q q5 => ?_⟩
    have n1 : (575 : Int) / 6 = 95 := by decide
    have n2 : (575 : Int) % 6 = 5 := by decide
    rw [e0, if_pos rfl, n1, n2, p184_106]
    simp only [show w32 6 = 6 by decide, Int.reduceAdd]
    rw [p184_109, p184_40]
    simp only [p184_42, p184_44, p184_112, p184_115, show w32 96 = 96 by decide, b2_T, b2_F, Int.reduceEq, Int.reduceLT, Int.reduceLE, Int.reduceAdd, Int.reduceSub, Int.reduceMul, Int.reduceNeg, reduceIte, if_true, if_false, true_or, or_true, false_or, or_false, false_and, and_false, eq_self, not_false_eq_true, not_true_eq_false, true_and, and_true, List.cons_append, List.nil_append, List.append_nil, b2_0, b2_1, b2_01, Classical.not_not, Int.lt_irrefl]
    rw [p184_31]
    simp only [p184_32, p184_34, p184_118, p184_119, b2_T, b2_F, Int.reduceEq, Int.reduceLT, Int.reduceLE, Int.reduceAdd, Int.reduceSub, Int.reduceMul, Int.reduceNeg, reduceIte, if_true, if_false, true_or, or_true, false_or, or_false, false_and, and_false, eq_self, not_false_eq_true, not_true_eq_false, true_and, and_true, List.cons_append, List.nil_append, List.append_nil, b2_0, b2_1, b2_01, Classical.not_not, Int.lt_irrefl]
  | succ f ih =>
    intro n Y h0 h1 WY E L
    have hn1 : 0 ≤ n + 1 ∧ n + 1 < 576 := ⟨by omega, by omega⟩
    obtain ⟨Y', r1, r2, r3, r4, r5⟩ := two_b W hB hn1 (f := f) (tick := tick) WY E L (fun Y1 W1 E1 L1 => ih (n + 1) Y1 (by omega) (by omega) W1 E1 L1)
    refine ⟨Y', r1, r2, r3, r4, fun tl Q q5 => ?_⟩
    rw [← r5 tl Q q5, p184_106, p184_109]
    have w1 : w32 (n % 6 + 1) = n % 6 + 1 := w32_id (by omega) (by omega)
    by_cases h : n % 6 + 1 < 6
    · have e1 : (n + 1) / 6 = n / 6 := by omega
      have e2 : (n + 1) % 6 = n % 6 + 1 := by omega
      rw [e1, e2, w1, p184_40]
      simp only [p184_42, p184_44, h, b2_T, b2_F, Int.reduceEq, Int.reduceLT, Int.reduceLE, Int.reduceAdd, Int.reduceSub, Int.reduceMul, Int.reduceNeg, reduceIte, if_true, if_false, true_or, or_true, false_or, or_false, false_and, and_false, eq_self, not_false_eq_true, not_true_eq_false, true_and, and_true, List.cons_append, List.nil_append, List.append_nil, b2_0, b2_1, b2_01, Classical.not_not]
    · have e1 : (n + 1) / 6 = n / 6 + 1 := by omega
      have e2 : (n + 1) % 6 = 0 := by omega
      have e3 : n % 6 + 1 = 6 := by omega
      have w2 : w32 (n / 6 + 1) = n / 6 + 1 := w32_id (by omega) (by omega)
      have c9 : n / 6 + 1 < 96 := by omega
      rw [e1, e2, w1, e3, p184_40]
      simp only [p184_42, p184_44, p184_112, p184_115, w2, b2_T, b2_F, Int.reduceEq, Int.reduceLT, Int.reduceLE, Int.reduceAdd, Int.reduceSub, Int.reduceMul, Int.reduceNeg, reduceIte, if_true, if_false, true_or, or_true, false_or, or_false, false_and, and_false, eq_self, not_false_eq_true, not_true_eq_false, true_and, and_true, List.cons_append, List.nil_append, List.append_nil, b2_0, b2_1, b2_01, Classical.not_not, Int.lt_irrefl]
      rw [p184_31]
      simp only [p184_32, p184_34, p184_37, p184_38, c9, b2_T, b2_F, Int.reduceEq, Int.reduceLT, Int.reduceLE, Int.reduceAdd, Int.reduceSub, Int.reduceMul, Int.reduceNeg, reduceIte, if_true, if_false, true_or, or_true, false_or, or_false, false_and, and_false, eq_self, not_false_eq_true, not_true_eq_false, true_and, and_true, List.cons_append, List.nil_append, List.append_nil, b2_0, b2_1, b2_01, Classical.not_not]
      rw [p184_40]
      simp only [p184_42, p184_44, b2_T, b2_F, Int.reduceEq, Int.reduceLT, Int.reduceLE, Int.reduceAdd, Int.reduceSub, Int.reduceMul, Int.reduceNeg, reduceIte, if_true, if_false, true_or, or_true, false_or, or_false, false_and, and_false, eq_self, not_false_eq_true, not_true_eq_false, true_and, and_true, List.cons_append, List.nil_append, List.append_nil, b2_0, b2_1, b2_01, Classical.not_not]
def mLf (Y : Mm) (t : Int) : Mm := fun a j => if a = 113 ∧ 0 ≤ j ∧ j < t then Y 109 (96 + j) else Y a j
theorem lf_f {a t : Int} (h : ¬ a = 113) : mLf Y t a j = Y a j := if_neg (fun y => h y.1)
theorem Sh_lf (S : Sh Y) {t : Int} : Sh (mLf Y t) := fun q hq => by
  have h1 : ∀ q ∈ SL, ¬ q.1 = 113 := by decide
  rw [lf_f (h1 q hq)]
  exact S q hq
theorem e184c (S : Sh Y) (hv : ∀ c, isC c → Y 109 (96 + c) = 0 ∨ Y 109 (96 + c) = 1) {q4 q5 : MV} : ∀ (k n : Nat), n + k = 96 → ∀ (tl : Ds) (Q : Ds → Mm → List MV → Prop), WP 184 2 [(2, 70), (0, bell), (0, tick), (0, (n : Int)), q4, q5] [] (dsB ++ tl) (mLf Y n) Q = WP 184 31 [(2, 70), (0, bell), (0, tick), (0, 0), q4, q5] [] (dsB ++ tl) (mLf Y 96) Q := by
  intro k
  induction k with
  | zero =>
    intro n hn tl Q
    have hn : n = 96 := by omega
    subst hn
    have c1 : ((96 : Nat) : Int) = 96 := rfl
    rw [p184_2]
    simp only [p184_3, p184_5, p184_8, p184_9, p184_12, p184_13, p184_14, p184_17, p184_19, p184_20, p184_21, p184_22, p184_23, p184_26, p184_29, p184_30, c1, b2_T, b2_F, Int.reduceEq, Int.reduceLT, Int.reduceLE, Int.reduceAdd, Int.reduceSub, Int.reduceMul, Int.reduceNeg, reduceIte, if_true, if_false, true_or, or_true, false_or, or_false, false_and, and_false, eq_self, not_false_eq_true, not_true_eq_false, true_and, and_true, List.cons_append, List.nil_append, List.append_nil, b2_0, b2_1, b2_01, Classical.not_not, Int.lt_irrefl]
  | succ k ih =>
    intro n hn tl Q
    have i1 := ih (n + 1) (by omega) tl Q
    have c1 : ((n + 1 : Nat) : Int) = (n : Int) + 1 := rfl
    have w1 : w32 ((n : Int) + 1) = (n : Int) + 1 := w32_id (by omega) (by omega)
    have w2 : w32 (96 + (n : Int)) = 96 + (n : Int) := w32_id (by omega) (by omega)
    have g0 : (0 : Int) ≤ n := by omega
    have g1 : (n : Int) < 96 := by omega
    have x0 : 0 ≤ 96 + (n : Int) := by omega
    have x1 : 96 + (n : Int) < 288 := by omega
    have S1 := Sh_lf S (t := n)
    have e109 : ∀ j, mLf Y n 109 j = Y 109 j := fun j => lf_f (by decide)
    have hvn := hv n ⟨g0, g1⟩
    have e : up (mLf Y n) 113 n (Y 109 (96 + n)) = mLf Y (n + 1 : Nat) := by
      have y1 : ∀ t a j, a = 113 ∧ 0 ≤ j ∧ j < t → mLf Y t a j = Y 109 (96 + j) := fun t a j h => if_pos h
      have y2 : ∀ t a j, ¬ (a = 113 ∧ 0 ≤ j ∧ j < t) → mLf Y t a j = Y a j := fun t a j h => if_neg h
      apply fx
      intro a j
      rw [up_at]
      by_cases h1 : a = 113 ∧ j = n
      · rw [if_pos h1, y1 _ a j (by omega), h1.2]
      · rw [if_neg h1]
        by_cases h2 : a = 113 ∧ 0 ≤ j ∧ j < (n : Int)
        · rw [y1 _ a j h2, y1 _ a j (by omega)]
        · rw [y2 _ a j h2, y2 _ a j (by omega)]
    rw [← i1, ← e, p184_2]
    simp only [p184_3, p184_5, p184_8, p184_9, p184_12, p184_13, p184_14, p184_17, p184_19, p184_20, p184_21, p184_22, p184_23, p184_26, c1, w1, w2, g0, g1, x0, x1, K_70, K_113, L_113, K_109, L_109, sh_70_52 S1, sh_70_44 S1, e109, hvn, b2_T, b2_F, Int.reduceEq, Int.reduceLT, Int.reduceLE, Int.reduceAdd, Int.reduceSub, Int.reduceMul, Int.reduceNeg, reduceIte, if_true, if_false, true_or, or_true, false_or, or_false, false_and, and_false, eq_self, not_false_eq_true, not_true_eq_false, true_and, and_true, List.cons_append, List.nil_append, List.append_nil, b2_0, b2_1, b2_01, Classical.not_not]
theorem e184 (W : WG G) (hB : isC bell) (WY : WG Y) (E : PE G Y) (L : LB Y G) : ∃ Y', WG Y' ∧ PE G Y' ∧ FK2 Y Y' ∧ (¬ srch2 G bell tick 576 0 = -1 → Y' 112 0 = chC (srch2 G bell tick 576 0) ∧ Y' 112 1 = chC (FO (chL G (srch2 G bell tick 576 0)) bell tick)) ∧ ∀ (tl : Ds) (Q : Ds → Mm → List MV → Prop), WP 184 0 [(2, 70), (0, bell), (0, tick), (3, 0), (3, 0), (3, 0)] [] (dsB ++ tl) Y Q = Q (dsB ++ tl) Y' [(0, if srch2 G bell tick 576 0 = -1 then 0 else 1)] := by
  have S := WY.S
  have E1 : PE Y (mLf Y 96) := PE_cg (fun x j h1 h2 => lf_f (by omega)) (lf_f (by decide))
  have W1 := WG_pe WY E1 (Sh_lf S)
  have lc : LC (mLf Y 96) G := fun c hc => by
    have y : mLf Y 96 113 c = Y 109 (96 + c) := if_pos ⟨rfl, hc.1, hc.2⟩
    rw [y]
    exact L c hc
  have F1 : FK2 Y (mLf Y 96) := fun x j a b c d e f g' h' => lf_f h'
  obtain ⟨Y', r1, r2, r3, r4, r5⟩ := two_b W hB (n := 0) (by decide) (f := 575) (tick := tick) W1 (PE_tr E E1) lc (fun Y1 W1 E1 L1 => two_l W hB 575 0 Y1 (by decide) (by omega) W1 E1 L1)
  refine ⟨Y', r1, r2, FK2_tr F1 r3, r4, fun tl Q => ?_⟩
  have y := r5 tl Q (3, 0)
  have n1 : (0 : Int) / 6 = 0 := by decide
  have n2 : (0 : Int) % 6 = 0 := by decide
  rw [n1, n2] at y
  have yc := e184c (bell := bell) (tick := tick) (q4 := (3, 0)) (q5 := (3, 0)) S (fun c hc => by rw [L c hc]; exact LO_01 W hc) 96 0 (by omega) tl Q
  have e0 : mLf Y (0 : Nat) = Y := by
    apply fx
    intro a j
    exact if_neg (fun y => by omega)
  have n0 : ((0 : Nat) : Int) = 0 := rfl
  rw [e0, n0] at yc
  rw [← y]
  simp only [p184_0, p184_1]
  rw [yc, p184_31]
  simp only [p184_32, p184_34, p184_37, p184_38, b2_T, b2_F, Int.reduceEq, Int.reduceLT, Int.reduceLE, Int.reduceAdd, Int.reduceSub, Int.reduceMul, Int.reduceNeg, reduceIte, if_true, if_false, true_or, or_true, false_or, or_false, false_and, and_false, eq_self, not_false_eq_true, not_true_eq_false, true_and, and_true, List.cons_append, List.nil_append, List.append_nil, b2_0, b2_1, b2_01, Classical.not_not]
  rw [p184_40]
  simp only [p184_42, p184_44, b2_T, b2_F, Int.reduceEq, Int.reduceLT, Int.reduceLE, Int.reduceAdd, Int.reduceSub, Int.reduceMul, Int.reduceNeg, reduceIte, if_true, if_false, true_or, or_true, false_or, or_false, false_and, and_false, eq_self, not_false_eq_true, not_true_eq_false, true_and, and_true, List.cons_append, List.nil_append, List.append_nil, b2_0, b2_1, b2_01, Classical.not_not]
/-- with the count of fewest -/
def FK3 (m Y : Mm) : Prop := ∀ x j, ¬ (72 ≤ x ∧ x ≤ 76) → ¬ (86 ≤ x ∧ x ≤ 100) → ¬ (x = 70 ∧ (j = 24 ∨ j = 25 ∨ j = 26 ∨ j = 30 ∨ j = 45)) → ¬ (x = 101 ∧ 6 ≤ j) → ¬ (x = 102 ∧ 6000 ≤ j) → ¬ ((x = 103 ∨ x = 104 ∨ x = 105 ∨ x = 106 ∨ x = 109) ∧ 96 ≤ j) → ¬ x = 112 → ¬ x = 113 → ¬ (x = 70 ∧ j = 51) → Y x j = m x j
theorem FK3_tr (h1 : FK3 m X) (h2 : FK3 X Y) : FK3 m Y := fun x j a b c d e f g' h' i' => (h2 x j a b c d e f g' h' i').trans (h1 x j a b c d e f g' h' i')
theorem FK3_2 (h : FK2 m X) : FK3 m X := fun x j a b c d e f g' h' i' => h x j a b c d e f g' h'
theorem FK3_u : FK3 m (up m 70 51 v) := fun x j a b c d e f g' h' i' => by rw [up_at, if_neg i']
theorem e185 (W : WG m) : ∃ Y, WG Y ∧ PE m Y ∧ FK3 m Y ∧ LSq Y 112 (Y 70 51) (fwR m bell tick).2 ∧ ∀ (tl : Ds) (Q : Ds → Mm → List MV → Prop), WP 185 0 [(2, 70), (0, bell), (0, tick)] [] (dsB ++ tl) m Q = Q (dsB ++ tl) Y [(0, (fwR m bell tick).1)] := by
  have S0 : Sh (up m 70 51 0) := Sh.up W.S (by decide)
  have E0 : PE m (up m 70 51 0) := PE_cg (fun x j h1 h2 => by rw [up_at, if_neg (by omega)]) rfl
  have W0 := WG_pe W E0 S0
  have f0 : FK3 m (up m 70 51 0) := FK3_u
  have z51 : up m 70 51 0 70 51 = 0 := by simp only [up_at, b2_T, b2_F, Int.reduceEq, Int.reduceLT, Int.reduceLE, Int.reduceAdd, Int.reduceSub, Int.reduceMul, Int.reduceNeg, reduceIte, if_true, if_false, true_or, or_true, false_or, or_false, false_and, and_false, eq_self, not_false_eq_true, not_true_eq_false, true_and, and_true, List.cons_append, List.nil_append, List.append_nil, b2_0, b2_1, b2_01, Classical.not_not]
  have x173 := fun (tl : Ds) (Q : Ds → Mm → List MV → Prop) => e173 (tl := tl) (Q := Q) (c := bell) S0
  by_cases h8 : isC bell ∧ m 72 bell = 8
  · have h8' : isC bell ∧ up m 70 51 0 72 bell = 8 := h8
    simp only [b2_t h8'] at x173
    have hB := h8.1
    have det : MT m bell tick ↔ metP (mRuns (up m 70 51 0) 1 103 (96 * 1 + bell)) bell tick := met_det W W0 E0 (by decide) (by decide)
    have x172 := fun (tl : Ds) (Q : Ds → Mm → List MV → Prop) => e172 (tl := tl) (Q := Q) (w := 1) (bell := bell) (tick := tick) W0 (by decide) hB
    have rw' := runs_w (w := 1) W0 (by decide)
    have lb := LB_runs W W0 E0
    obtain ⟨Z, hZ⟩ : ∃ Z, Z = mRuns (up m 70 51 0) 1 := ⟨_, rfl⟩
    rw [← hZ] at rw' x172 det lb
    have EZ : PE m Z := PE_tr E0 rw'.2.1
    have FZ : FK3 m Z := FK3_tr f0 (FK3_2 (FK2_G rw'.2.2))
    have zz : Z 70 51 = 0 := by rw [rw'.2.2 70 51 (by decide) (by decide) (by decide) (by decide) (by decide)]; exact z51
    by_cases hm : MT m bell tick
    · have er : fwR m bell tick = (0, (0, fun _ => 0)) := by
        unfold fwR
        rw [if_pos h8]
        exact if_pos hm
      rw [er]
      refine ⟨Z, rw'.1, EZ, FZ, ⟨zz, fun i i0 i1 => absurd i1 (by show ¬ i < 0; omega)⟩, fun tl Q => ?_⟩
      have y1 := x173 tl
      have y2 := x172 tl
      simp only [b2_t (det.1 hm)] at y2
      simp only [p185_0, p185_1, p185_2, p185_5, p185_6, p185_7, p185_10, p185_13, p185_14, p185_15, p185_16, p185_17, p185_18, p185_19, p185_22, p185_25, p185_26, K_70, y1, y2, b2_T, b2_F, Int.reduceEq, Int.reduceLT, Int.reduceLE, Int.reduceAdd, Int.reduceSub, Int.reduceMul, Int.reduceNeg, reduceIte, if_true, if_false, true_or, or_true, false_or, or_false, false_and, and_false, eq_self, not_false_eq_true, not_true_eq_false, true_and, and_true, List.cons_append, List.nil_append, List.append_nil, b2_0, b2_1, b2_01, Classical.not_not]
    · obtain ⟨Y3, W3, E3, F3, O3, h3⟩ := e183 (tick := tick) (pl := 0) W hB (Or.inl rfl) rw'.1 EZ lb
      have z3 : Y3 70 51 = 0 := by rw [F3 70 51 (by decide) (by decide) (by decide) (by decide) (by decide) (by decide) (by decide)]; exact zz
      have st : ∀ (tl : Ds) (Q : Ds → Mm → List MV → Prop), WP 185 0 [(2, 70), (0, bell), (0, tick)] [] (dsB ++ tl) m Q = WP 185 35 [(2, 70), (0, bell), (0, tick)] [(0, if FO m bell tick = -1 then 0 else 1)] (dsB ++ tl) Y3 Q := by
        intro tl Q
        have y1 := x173 tl
        have y2 := x172 tl
        have y3 := h3 tl
        simp only [b2_f (fun y => hm (det.2 y))] at y2
        generalize (if FO m bell tick = -1 then (0 : Int) else 1) = zq at y3 ⊢
        simp only [p185_0, p185_1, p185_2, p185_5, p185_6, p185_7, p185_10, p185_13, p185_14, p185_15, p185_16, p185_17, p185_18, p185_19, p185_22, p185_25, p185_26, p185_27, p185_28, p185_29, p185_30, p185_31, p185_32, K_70, y1, y2, y3, b2_T, b2_F, Int.reduceEq, Int.reduceLT, Int.reduceLE, Int.reduceAdd, Int.reduceSub, Int.reduceMul, Int.reduceNeg, reduceIte, if_true, if_false, true_or, or_true, false_or, or_false, false_and, and_false, eq_self, not_false_eq_true, not_true_eq_false, true_and, and_true, List.cons_append, List.nil_append, List.append_nil, b2_0, b2_1, b2_01, Classical.not_not]
      by_cases ho : FO m bell tick = -1
      · have rw3 := runs_w (w := 1) W3 (by decide)
        have lb3 := LB_runs W W3 E3
        have x166 := fun (tl : Ds) (Q : Ds → Mm → List MV → Prop) => e166 (tl := tl) (Q := Q) (w := 1) W3.S W3.p W3.v (by decide)
        obtain ⟨Z4, hZ4⟩ : ∃ Z, Z = mRuns Y3 1 := ⟨_, rfl⟩
        rw [← hZ4] at rw3 x166 lb3
        have E4 : PE m Z4 := PE_tr E3 rw3.2.1
        have z4 : Z4 70 51 = 0 := by rw [rw3.2.2 70 51 (by decide) (by decide) (by decide) (by decide) (by decide)]; exact z3
        obtain ⟨Y5, W5, E5, F5, O5, h5⟩ := e184 (tick := tick) W hB rw3.1 E4 lb3
        have fY5 : FK3 m Y5 := FK3_tr FZ (FK3_2 (FK2_tr (FK2_tr (FK2_B F3) (FK2_G rw3.2.2)) F5))
        have z5 : Y5 70 51 = 0 := by rw [F5 70 51 (by decide) (by decide) (by decide) (by decide) (by decide) (by decide) (by decide) (by decide)]; exact z4
        obtain ⟨sr, hsr⟩ : ∃ sr, sr = srch2 m bell tick 576 0 := ⟨_, rfl⟩
        rw [← hsr] at O5 h5
        have st2 : ∀ (tl : Ds) (Q : Ds → Mm → List MV → Prop), WP 185 0 [(2, 70), (0, bell), (0, tick)] [] (dsB ++ tl) m Q = WP 185 56 [(2, 70), (0, bell), (0, tick)] [(0, if sr = -1 then 0 else 1)] (dsB ++ tl) Y5 Q := by
          intro tl Q
          have y4 := x166 tl
          have y5 := h5 tl
          generalize (if sr = -1 then (0 : Int) else 1) = zq at y5 ⊢
          rw [st tl Q, if_pos ho]
          simp only [p185_35, p185_38, p185_39, p185_40, p185_43, p185_44, p185_45, p185_46, p185_47, p185_50, p185_51, p185_52, p185_53, K_70, y4, y5, b2_T, b2_F, Int.reduceEq, Int.reduceLT, Int.reduceLE, Int.reduceAdd, Int.reduceSub, Int.reduceMul, Int.reduceNeg, reduceIte, if_true, if_false, true_or, or_true, false_or, or_false, false_and, and_false, eq_self, not_false_eq_true, not_true_eq_false, true_and, and_true, List.cons_append, List.nil_append, List.append_nil, b2_0, b2_1, b2_01, Classical.not_not]
        by_cases h2' : sr = -1
        · have er : fwR m bell tick = (-1, (0, fun _ => 0)) := by
            unfold fwR
            rw [if_pos h8, ← hsr]
            refine (if_neg hm).trans ((if_neg (fun y => y ho)).trans (if_neg (fun y => y h2')))
          rw [er]
          refine ⟨Y5, W5, E5, fY5, ⟨z5, fun i i0 i1 => absurd i1 (by show ¬ i < 0; omega)⟩, fun tl Q => ?_⟩
          rw [st2 tl Q, if_pos h2']
          simp only [p185_56, p185_59, p185_60, p185_61, p185_64, p185_65, p185_66, p185_67, b2_T, b2_F, Int.reduceEq, Int.reduceLT, Int.reduceLE, Int.reduceAdd, Int.reduceSub, Int.reduceMul, Int.reduceNeg, reduceIte, if_true, if_false, true_or, or_true, false_or, or_false, false_and, and_false, eq_self, not_false_eq_true, not_true_eq_false, true_and, and_true, List.cons_append, List.nil_append, List.append_nil, b2_0, b2_1, b2_01, Classical.not_not]
        · have er : fwR m bell tick = (2, (2, fun i => if i = 0 then chC sr else chC (FO (chL m sr) bell tick))) := by
            unfold fwR
            rw [if_pos h8, ← hsr]
            refine (if_neg hm).trans ((if_neg (fun y => y ho)).trans (if_pos h2'))
          rw [er]
          have O6 := O5 h2'
          refine ⟨up Y5 70 51 2, WG_pe W5 (PE_cg (fun x j h1 h2 => by rw [up_at, if_neg (by omega)]) rfl) (Sh.up W5.S (by decide)), PE_tr E5 (PE_cg (fun x j h1 h2 => by rw [up_at, if_neg (by omega)]) rfl), FK3_tr fY5 FK3_u, ⟨by simp only [up_at, b2_T, b2_F, Int.reduceEq, Int.reduceLT, Int.reduceLE, Int.reduceAdd, Int.reduceSub, Int.reduceMul, Int.reduceNeg, reduceIte, if_true, if_false, true_or, or_true, false_or, or_false, false_and, and_false, eq_self, not_false_eq_true, not_true_eq_false, true_and, and_true, List.cons_append, List.nil_append, List.append_nil, b2_0, b2_1, b2_01, Classical.not_not], fun i i0 i1 => ?_⟩, fun tl Q => ?_⟩
          · have i1' : i < 2 := i1
            show up Y5 70 51 2 112 i = if i = 0 then chC sr else chC (FO (chL m sr) bell tick)
            rw [up_at, if_neg (fun y => absurd y.1 (by decide))]
            have i2 : i = 0 ∨ i = 1 := by omega
            rcases i2 with rfl | rfl
            · rw [if_pos rfl]; exact O6.1
            · rw [if_neg (by decide)]; exact O6.2
          · rw [st2 tl Q, if_neg h2']
            simp only [p185_56, p185_59, p185_60, p185_61, p185_64, p185_65, p185_66, p185_67, K_70, b2_T, b2_F, Int.reduceEq, Int.reduceLT, Int.reduceLE, Int.reduceAdd, Int.reduceSub, Int.reduceMul, Int.reduceNeg, reduceIte, if_true, if_false, true_or, or_true, false_or, or_false, false_and, and_false, eq_self, not_false_eq_true, not_true_eq_false, true_and, and_true, List.cons_append, List.nil_append, List.append_nil, b2_0, b2_1, b2_01, Classical.not_not]
      · have er : fwR m bell tick = (1, (1, fun _ => chC (FO m bell tick))) := by
          unfold fwR
          rw [if_pos h8]
          refine (if_neg hm).trans (if_pos ho)
        rw [er]
        rw [if_neg ho] at O3
        refine ⟨up Y3 70 51 1, WG_pe W3 (PE_cg (fun x j h1 h2 => by rw [up_at, if_neg (by omega)]) rfl) (Sh.up W3.S (by decide)), PE_tr E3 (PE_cg (fun x j h1 h2 => by rw [up_at, if_neg (by omega)]) rfl), FK3_tr (FK3_tr FZ (FK3_2 (FK2_B F3))) FK3_u, ⟨by simp only [up_at, b2_T, b2_F, Int.reduceEq, Int.reduceLT, Int.reduceLE, Int.reduceAdd, Int.reduceSub, Int.reduceMul, Int.reduceNeg, reduceIte, if_true, if_false, true_or, or_true, false_or, or_false, false_and, and_false, eq_self, not_false_eq_true, not_true_eq_false, true_and, and_true, List.cons_append, List.nil_append, List.append_nil, b2_0, b2_1, b2_01, Classical.not_not], fun i i0 i1 => ?_⟩, fun tl Q => ?_⟩
        · have i1' : i < 1 := i1
          have i2 : i = 0 := by omega
          subst i2
          show up Y3 70 51 1 112 0 = chC (FO m bell tick)
          rw [up_at, if_neg (fun y => absurd y.1 (by decide))]
          exact O3.1
        · rw [st tl Q, if_neg ho]
          simp only [p185_35, p185_38, p185_39, p185_40, p185_43, p185_44, K_70, b2_T, b2_F, Int.reduceEq, Int.reduceLT, Int.reduceLE, Int.reduceAdd, Int.reduceSub, Int.reduceMul, Int.reduceNeg, reduceIte, if_true, if_false, true_or, or_true, false_or, or_false, false_and, and_false, eq_self, not_false_eq_true, not_true_eq_false, true_and, and_true, List.cons_append, List.nil_append, List.append_nil, b2_0, b2_1, b2_01, Classical.not_not]
  · have er : fwR m bell tick = (-1, (0, fun _ => 0)) := by
      unfold fwR
      exact if_neg h8
    rw [er]
    have h8' : ¬ (isC bell ∧ up m 70 51 0 72 bell = 8) := h8
    simp only [b2_f h8'] at x173
    refine ⟨up m 70 51 0, W0, E0, f0, ⟨z51, fun i i0 i1 => absurd i1 (by show ¬ i < 0; omega)⟩, fun tl Q => ?_⟩
    have y1 := x173 tl
    simp only [p185_0, p185_1, p185_2, p185_5, p185_6, p185_7, p185_10, p185_13, p185_14, K_70, y1, b2_T, b2_F, Int.reduceEq, Int.reduceLT, Int.reduceLE, Int.reduceAdd, Int.reduceSub, Int.reduceMul, Int.reduceNeg, reduceIte, if_true, if_false, true_or, or_true, false_or, or_false, false_and, and_false, eq_self, not_false_eq_true, not_true_eq_false, true_and, and_true, List.cons_append, List.nil_append, List.append_nil, b2_0, b2_1, b2_01, Classical.not_not]
end FEWEST4
