/-! fewest: the class's side -/
def xLo (X : Mm) (A t : Int) : Mm := fun a j => if a = A ∧ 0 ≤ j ∧ j < t then X 69 j else X a j
def FL (m X : Mm) (A : Int) : Prop := ∀ x j, ¬ (18 ≤ x ∧ x ≤ 33) → ¬ (52 ≤ x ∧ x ≤ 69) → ¬ x = A → X x j = m x j
def FC3 (m X : Mm) : Prop := ∀ x j, ¬ (18 ≤ x ∧ x ≤ 33) → ¬ (52 ≤ x ∧ x ≤ 69) → ¬ (6 ≤ x ∧ x ≤ 8) → ¬ (x = 0 ∧ j = 13) → X x j = m x j
/-- what fewest tells, and its list -/
def fwR (g : Mm) (bell tick : Int) : Int × (Int × (Int → Int)) :=
  if isC bell ∧ g 72 bell = 8 then
    (if MT g bell tick then (0, (0, fun _ => 0))
     else if ¬ FO g bell tick = -1 then (1, (1, fun _ => chC (FO g bell tick)))
     else if ¬ srch2 g bell tick 576 0 = -1 then (2, (2, fun i => if i = 0 then chC (srch2 g bell tick 576 0) else chC (FO (chL g (srch2 g bell tick 576 0)) bell tick)))
     else (-1, (0, fun _ => 0)))
  else (-1, (0, fun _ => 0))
section FEWEST2
variable {tl : Ds} {m X Y Z g h : Mm} {Q : Ds → Mm → List MV → Prop} {p q c k a b s o t v i j d A f bell tick n : Int}
theorem Sh_xLo (S : Sh X) (hA : A = 7 ∨ A = 8) : Sh (xLo X A t) := fun q hq => by
  have h1 : ∀ q ∈ SL, ¬ (q.1 = 7 ∨ q.1 = 8) := by decide
  have e : xLo X A t q.1 q.2.1 = X q.1 q.2.1 := if_neg (fun y => h1 q hq (by omega))
  rw [e]
  exact S q hq
theorem e101l (S : Sh X) (hA : A = 7 ∨ A = 8) (hv : ∀ c, isC c → X 69 c = 0 ∨ X 69 c = 1) : ∀ (k n : Nat), n + k = 96 → ∀ (tl : Ds) (Q : Ds → Mm → List MV → Prop), WP 101 17 [(2, 0), (2, A), (0, bell), (0, tick), (0, (n : Int))] [] (dsB ++ tl) (xLo X A n) Q = WP 101 51 [(2, 0), (2, A), (0, bell), (0, tick), (0, 96)] [] (dsB ++ tl) (xLo X A 96) Q := by
  intro k
  induction k with
  | zero =>
    intro n hn tl Q
    have hn : n = 96 := by omega
    subst hn
    have c1 : ((96 : Nat) : Int) = 96 := rfl
    rw [p101_17]
    simp only [p101_19, p101_21, p101_24, p101_26, p101_27, p101_28, p101_31, p101_32, p101_34, p101_35, p101_38, p101_41, p101_43, p101_44, p101_45, p101_48, c1, b2_T, b2_F, Int.reduceEq, Int.reduceLT, Int.reduceLE, Int.reduceAdd, Int.reduceSub, Int.reduceMul, Int.reduceNeg, reduceIte, if_true, if_false, true_or, or_true, false_or, or_false, false_and, and_false, eq_self, not_false_eq_true, not_true_eq_false, true_and, and_true, List.cons_append, List.nil_append, List.append_nil, b2_0, b2_1, b2_01, Classical.not_not, Int.lt_irrefl]
  | succ k ih =>
    intro n hn tl Q
    have i1 := ih (n + 1) (by omega) tl Q
    have c1 : ((n + 1 : Nat) : Int) = (n : Int) + 1 := rfl
    have w1 : w32 ((n : Int) + 1) = (n : Int) + 1 := w32_id (by omega) (by omega)
    have g0 : (0 : Int) ≤ n := by omega
    have g1 : (n : Int) < 96 := by omega
    have S1 : Sh (xLo X A n) := Sh_xLo S hA
    have e69 : ∀ j, xLo X A n 69 j = X 69 j := fun j => if_neg (fun y => by omega)
    have hvn := hv n ⟨g0, g1⟩
    have e : up (xLo X A n) A n (X 69 n) = xLo X A (n + 1 : Nat) := by
      have y1 : ∀ t a j, a = A ∧ 0 ≤ j ∧ j < t → xLo X A t a j = X 69 j := fun t a j h => if_pos h
      have y2 : ∀ t a j, ¬ (a = A ∧ 0 ≤ j ∧ j < t) → xLo X A t a j = X a j := fun t a j h => if_neg h
      apply fx
      intro a j
      rw [up_at]
      by_cases h1 : a = A ∧ j = n
      · rw [if_pos h1, y1 _ a j (by omega), h1.2]
      · rw [if_neg h1]
        by_cases h2 : a = A ∧ 0 ≤ j ∧ j < (n : Int)
        · rw [y1 _ a j h2, y1 _ a j (by omega)]
        · rw [y2 _ a j h2, y2 _ a j (by omega)]
    rw [← i1, ← e, p101_17]
    rcases hA with rfl | rfl
    · simp only [p101_19, p101_21, p101_24, p101_26, p101_27, p101_28, p101_31, p101_32, p101_34, p101_35, p101_38, p101_41, p101_43, p101_44, p101_45, p101_48, c1, w1, g0, g1, K_0, K_7, L_7, K_52, K_69, L_69, sh_0_5 S1, sh_52_7 S1, e69, hvn, n_1011, b2_T, b2_F, Int.reduceEq, Int.reduceLT, Int.reduceLE, Int.reduceAdd, Int.reduceSub, Int.reduceMul, Int.reduceNeg, reduceIte, if_true, if_false, true_or, or_true, false_or, or_false, false_and, and_false, eq_self, not_false_eq_true, not_true_eq_false, true_and, and_true, List.cons_append, List.nil_append, List.append_nil, b2_0, b2_1, b2_01, Classical.not_not]
    · simp only [p101_19, p101_21, p101_24, p101_26, p101_27, p101_28, p101_31, p101_32, p101_34, p101_35, p101_38, p101_41, p101_43, p101_44, p101_45, p101_48, c1, w1, g0, g1, K_0, K_8, L_8, K_52, K_69, L_69, sh_0_5 S1, sh_52_7 S1, e69, hvn, n_1011, b2_T, b2_F, Int.reduceEq, Int.reduceLT, Int.reduceLE, Int.reduceAdd, Int.reduceSub, Int.reduceMul, Int.reduceNeg, reduceIte, if_true, if_false, true_or, or_true, false_or, or_false, false_and, and_false, eq_self, not_false_eq_true, not_true_eq_false, true_and, and_true, List.cons_append, List.nil_append, List.append_nil, b2_0, b2_1, b2_01, Classical.not_not]
theorem e101 (W : WG g) (S : Sh X) (P : PR X 18 g) (hA : A = 7 ∨ A = 8) : ∃ X', Sh X' ∧ PR X' 18 g ∧ FL X X' A ∧ LA X' A g ∧ ∀ (tl : Ds) (Q : Ds → Mm → List MV → Prop), WP 101 0 [(2, 0), (2, A), (0, bell), (0, tick), (3, 0)] [] (dsB ++ tl) X Q = Q (dsB ++ tl) X' [(0, b2 (MT g bell tick))] := by
  obtain ⟨X1, S1, F1, R1, h1⟩ := c51_52 (m := X) (g := g) (w := 1) (p := 18) (Or.inr rfl) (-1) (-1) S W.S P W.p W.v (by decide)
  have R := R1 (by omega)
  have e45 := runs_45 W (w := 1) (by decide)
  have lo : ∀ c, isC c → X1 69 c = LO g c := fun c hc => by
    have l := R.C.lo c hc
    rw [e45] at l
    exact l
  have fr : ∀ c, isC c → X1 67 c = mRuns g 1 103 (96 * 1 + c) := fun c hc => by
    have l := R.C.fr c hc
    rw [e45] at l
    exact l
  have P1 : PR X1 18 g := PR_m P (fun x j h1 h2 => F1 x j (by omega) (by omega))
  have S2 : Sh (xLo X1 A 96) := Sh_xLo S1 hA
  have f2 : ∀ x j, ¬ x = A → xLo X1 A 96 x j = X1 x j := fun x j h => if_neg (fun y => h y.1)
  have e0 : xLo X1 A (0 : Nat) = X1 := by
    apply fx
    intro a j
    exact if_neg (fun y => by omega)
  refine ⟨xLo X1 A 96, S2, PR_m P1 (fun x j h1 h2 => f2 x j (by omega)), fun x j h1 h2 h3 => by rw [f2 x j h3, F1 x j (by omega) (by omega)], fun c hc => ?_, fun tl Q => ?_⟩
  · have y : xLo X1 A 96 A c = X1 69 c := if_pos ⟨rfl, hc.1, hc.2⟩
    rw [y]
    exact lo c hc
  · have y51 := h1 tl
    have yl := e101l (bell := bell) (tick := tick) S1 hA (fun c hc => by rw [lo c hc]; exact LO_01 W hc) 96 0 (by omega) tl Q
    rw [e0] at yl
    have n0 : ((0 : Nat) : Int) = 0 := rfl
    rw [n0] at yl
    have y52 := fun (Q : Ds → Mm → List MV → Prop) => e52 (tl := tl) (Q := Q) (bell := bell) (wished := tick) S2 (show (52 : Int) = 34 ∨ (52 : Int) = 52 from Or.inr rfl)
    have y67 : xLo X1 A 96 (52 + 15) bell = X1 67 bell := f2 67 bell (by omega)
    rw [y67] at y52
    have mm : metP (X1 67 bell) bell tick ↔ MT g bell tick := by
      constructor
      · intro y
        have z := fr bell y.1
        rw [z] at y
        exact y
      · intro y
        have z := fr bell y.1
        have y' : metP (mRuns g 1 103 (96 * 1 + bell)) bell tick := y
        rw [← z] at y'
        exact y'
    have k7 : dk (dsB ++ tl) A = 11 ∧ True := ⟨by rcases hA with rfl | rfl <;> first | exact K_7 | exact K_8, trivial⟩
    generalize b2 (metP (mRuns g 1 103 (96 * 1 + -1)) (-1) (-1)) = zz at y51
    have st : WP 101 0 [(2, 0), (2, A), (0, bell), (0, tick), (3, 0)] [] (dsB ++ tl) X Q = WP 101 17 [(2, 0), (2, A), (0, bell), (0, tick), (0, 0)] [] (dsB ++ tl) X1 Q := by
      simp only [p101_0, p101_1, p101_4, p101_5, p101_8, p101_9, p101_10, p101_13, p101_14, p101_15, K_0, K_52, sh_0_5 S, sh_0_1 S, y51, b2_T, b2_F, Int.reduceEq, Int.reduceLT, Int.reduceLE, Int.reduceAdd, Int.reduceSub, Int.reduceMul, Int.reduceNeg, reduceIte, if_true, if_false, true_or, or_true, false_or, or_false, false_and, and_false, eq_self, not_false_eq_true, not_true_eq_false, true_and, and_true, List.cons_append, List.nil_append, List.append_nil, b2_0, b2_1, b2_01, Classical.not_not]
    rw [st, yl]
    by_cases hm : MT g bell tick
    · rw [b2_t (mm.2 hm)] at y52
      rw [b2_t hm]
      simp only [p101_51, p101_52, p101_55, p101_56, p101_57, p101_60, K_0, K_52, sh_0_5 S2, y52, b2_T, b2_F, Int.reduceEq, Int.reduceLT, Int.reduceLE, Int.reduceAdd, Int.reduceSub, Int.reduceMul, Int.reduceNeg, reduceIte, if_true, if_false, true_or, or_true, false_or, or_false, false_and, and_false, eq_self, not_false_eq_true, not_true_eq_false, true_and, and_true, List.cons_append, List.nil_append, List.append_nil, b2_0, b2_1, b2_01, Classical.not_not]
    · rw [b2_f (fun y => hm (mm.1 y))] at y52
      rw [b2_f hm]
      simp only [p101_51, p101_52, p101_55, p101_56, p101_57, p101_60, K_0, K_52, sh_0_5 S2, y52, b2_T, b2_F, Int.reduceEq, Int.reduceLT, Int.reduceLE, Int.reduceAdd, Int.reduceSub, Int.reduceMul, Int.reduceNeg, reduceIte, if_true, if_false, true_or, or_true, false_or, or_false, false_and, and_false, eq_self, not_false_eq_true, not_true_eq_false, true_and, and_true, List.cons_append, List.nil_append, List.append_nil, b2_0, b2_1, b2_01, Classical.not_not]
/-- one choice is placed -/
theorem plc_1' (W : WG g) (S : Sh X) (P : PR X 18 g) (hA : A = 7 ∨ A = 8) (L : LA X A g) (hn : 0 ≤ n ∧ n < 576) : (cnd g n → (∀ (tl : Ds) (Q : Ds → Mm → List MV → Prop), WP 103 0 [(2, 0), (2, A), (0, n), (3, 0)] [] (dsB ++ tl) X Q = Q (dsB ++ tl) (plc X 18 (n / 6) (chK n) (chA n) 0) [(0, 1)]) ∧ Sh (plc X 18 (n / 6) (chK n) (chA n) 0) ∧ PR (plc X 18 (n / 6) (chK n) (chA n) 0) 18 (chL g n)) ∧ (¬ cnd g n → ∀ (tl : Ds) (Q : Ds → Mm → List MV → Prop), WP 103 0 [(2, 0), (2, A), (0, n), (3, 0)] [] (dsB ++ tl) X Q = Q (dsB ++ tl) X [(0, 0)]) := by
  have cc := n6 hn
  have kc := P.k _ cc
  have bc := P.b _ cc
  have lc := L _ cc
  simp only [Int.reduceAdd] at kc bc
  have cq : (¬ X A (n / 6) = 0 ∧ (X 19 (n / 6) = 0 ∧ X 23 (n / 6) = 0)) ↔ cnd g n := by
    rw [lc, kc, bc]
  constructor
  · intro hc
    refine ⟨fun tl Q => ?_, Sh_plc S, PR_ly P ?_ ?_⟩
    · rw [e103 S hA hn, if_pos (cq.2 hc)]
    · rcases chK_r (n := n) with y | y <;> rw [y] <;> decide
    · rcases chK_r (n := n) with y | y <;> rw [y] <;> decide
  · intro hc tl Q
    rw [e103 S hA hn, if_neg (fun y => hc (cq.1 y))]
theorem e102l (W : WG g) (hA : A = 7 ∨ A = 8) : ∀ (f : Nat) (n : Int) (X : Mm), 0 ≤ n → n + f = 576 → Sh X → PR X 18 g → LA X A g → ∃ X', Sh X' ∧ PR X' 18 g ∧ FT X X' ∧ ∀ (tl : Ds) (Q : Ds → Mm → List MV → Prop) (q5 : MV), WP 102 3 [(2, 0), (2, A), (0, bell), (0, tick), (0, n), q5] [] (dsB ++ tl) X Q = Q (dsB ++ tl) X' [(0, srch g bell tick f n)] := by
  intro f
  induction f with
  | zero =>
    intro n X h0 h1 S P L
    have hn : n = 576 := by omega
    subst hn
    refine ⟨X, S, P, FT_refl, fun tl Q q5 => ?_⟩
    have e0 : srch g bell tick 0 576 = -1 := rfl
    rw [e0, p102_3]
    simp only [p102_5, p102_8, p102_62, p102_63, b2_T, b2_F, Int.reduceEq, Int.reduceLT, Int.reduceLE, Int.reduceAdd, Int.reduceSub, Int.reduceMul, Int.reduceNeg, reduceIte, if_true, if_false, true_or, or_true, false_or, or_false, false_and, and_false, eq_self, not_false_eq_true, not_true_eq_false, true_and, and_true, List.cons_append, List.nil_append, List.append_nil, b2_0, b2_1, b2_01, Classical.not_not, Int.lt_irrefl]
  | succ f ih =>
    intro n X h0 h1 S P L
    have hn : 0 ≤ n ∧ n < 576 := ⟨h0, by omega⟩
    have nl : n < 576 := hn.2
    have w1 : w32 (n + 1) = n + 1 := w32_id (by omega) (by omega)
    have j1 : jdiv n 6 = n / 6 := jdiv_nn hn.1 (by omega) (by omega) (by omega)
    have cc := n6 hn
    have pl := plc_1' W S P hA L hn
    by_cases hc : cnd g n
    · obtain ⟨y103, S1, P1⟩ := pl.1 hc
      have W1 := WG_ch W hn hc.2
      obtain ⟨X2, S2, F2, _, h51⟩ := c51_52 (m := plc X 18 (n / 6) (chK n) (chA n) 0) (g := chL g n) (w := 1) (p := 18) (Or.inr rfl) bell tick S1 W1.S P1 W1.p W1.v (by decide)
      have P2 : PR X2 18 (chL g n) := PR_m P1 (fun x j h1 h2 => F2 x j (by omega) (by omega))
      have S3 : Sh (clr X2 18 (n / 6)) := Sh_clr S2
      have P3 : PR (clr X2 18 (n / 6)) 18 g := PR_pe (PR_clr P2 cc) (PE_symm (PE_off PE_refl cc hc.2))
      have F3 : FT X (clr X2 18 (n / 6)) := FT_tr (FT_tr (FT_18 (fun x j h => plc_f (by omega))) (FT_W F2)) (FT_18 (fun x j h => clr_f (by omega)))
      by_cases hm : MT (chL g n) bell tick
      · have e1 : srch g bell tick (f + 1) n = n := by
          rw [srch_s]
          exact if_pos ⟨hc, hm⟩
        refine ⟨clr X2 18 (n / 6), S3, P3, F3, fun tl Q q5 => ?_⟩
        have y1 := y103 tl
        have y2 := h51 tl
        simp only [b2_t hm] at y2
        have y3 := fun (Q : Ds → Mm → List MV → Prop) => e37 (c := n / 6) (Q := Q) (PA_18 (tl := tl) S2)
        rw [e1, p102_3]
        simp only [p102_5, p102_8, p102_11, p102_12, p102_13, p102_15, p102_18, p102_21, p102_22, p102_25, p102_26, p102_29, p102_30, p102_31, p102_34, p102_36, p102_37, p102_40, p102_42, p102_44, p102_45, p102_48, p102_50, p102_53, p102_55, p102_56, p102_59, K_0, K_18, K_52, sh_0_5 S1, sh_0_1 S1, sh_0_1 S2, nl, y1, y2, y3, j1, b2_T, b2_F, Int.reduceEq, Int.reduceLT, Int.reduceLE, Int.reduceAdd, Int.reduceSub, Int.reduceMul, Int.reduceNeg, reduceIte, if_true, if_false, true_or, or_true, false_or, or_false, false_and, and_false, eq_self, not_false_eq_true, not_true_eq_false, true_and, and_true, List.cons_append, List.nil_append, List.append_nil, b2_0, b2_1, b2_01, Classical.not_not]
      · have e1 : srch g bell tick (f + 1) n = srch g bell tick f (n + 1) := by
          rw [srch_s]
          exact if_neg (fun y => hm y.2)
        obtain ⟨X4, S4, P4, F4, h4⟩ := ih (n + 1) (clr X2 18 (n / 6)) (by omega) (by omega) S3 P3 (LA_FT L F3 hA)
        refine ⟨X4, S4, P4, FT_tr F3 F4, fun tl Q q5 => ?_⟩
        have y1 := y103 tl
        have y2 := h51 tl
        simp only [b2_f hm] at y2
        have y3 := fun (Q : Ds → Mm → List MV → Prop) => e37 (c := n / 6) (Q := Q) (PA_18 (tl := tl) S2)
        rw [e1, ← h4 tl Q (0, 0), p102_3]
        simp only [p102_5, p102_8, p102_11, p102_12, p102_13, p102_15, p102_18, p102_21, p102_22, p102_25, p102_26, p102_29, p102_30, p102_31, p102_34, p102_36, p102_37, p102_40, p102_42, p102_44, p102_45, p102_48, p102_50, p102_53, p102_55, p102_56, p102_59, K_0, K_18, K_52, sh_0_5 S1, sh_0_1 S1, sh_0_1 S2, nl, y1, y2, y3, j1, w1, b2_T, b2_F, Int.reduceEq, Int.reduceLT, Int.reduceLE, Int.reduceAdd, Int.reduceSub, Int.reduceMul, Int.reduceNeg, reduceIte, if_true, if_false, true_or, or_true, false_or, or_false, false_and, and_false, eq_self, not_false_eq_true, not_true_eq_false, true_and, and_true, List.cons_append, List.nil_append, List.append_nil, b2_0, b2_1, b2_01, Classical.not_not]
    · have e1 : srch g bell tick (f + 1) n = srch g bell tick f (n + 1) := by
        rw [srch_s]
        exact if_neg (fun y => hc y.1)
      obtain ⟨X4, S4, P4, F4, h4⟩ := ih (n + 1) X (by omega) (by omega) S P L
      refine ⟨X4, S4, P4, F4, fun tl Q q5 => ?_⟩
      have y1 := pl.2 hc tl
      rw [e1, ← h4 tl Q q5, p102_3]
      simp only [p102_5, p102_8, p102_11, p102_12, p102_13, p102_15, p102_18, p102_21, p102_22, p102_25, p102_26, p102_29, p102_30, p102_31, p102_34, p102_36, p102_37, p102_40, p102_42, p102_44, p102_45, p102_48, p102_50, p102_53, p102_55, p102_56, p102_59, K_0, nl, y1, w1, b2_T, b2_F, Int.reduceEq, Int.reduceLT, Int.reduceLE, Int.reduceAdd, Int.reduceSub, Int.reduceMul, Int.reduceNeg, reduceIte, if_true, if_false, true_or, or_true, false_or, or_false, false_and, and_false, eq_self, not_false_eq_true, not_true_eq_false, true_and, and_true, List.cons_append, List.nil_append, List.append_nil, b2_0, b2_1, b2_01, Classical.not_not]
theorem e102 (W : WG g) (hA : A = 7 ∨ A = 8) (S : Sh X) (P : PR X 18 g) (L : LA X A g) : ∃ X', Sh X' ∧ PR X' 18 g ∧ FT X X' ∧ ∀ (tl : Ds) (Q : Ds → Mm → List MV → Prop), WP 102 0 [(2, 0), (2, A), (0, bell), (0, tick), (3, 0), (3, 0)] [] (dsB ++ tl) X Q = Q (dsB ++ tl) X' [(0, FO g bell tick)] := by
  obtain ⟨X', r1, r2, r3, r4⟩ := e102l (bell := bell) (tick := tick) W hA 576 0 X (by omega) (by omega) S P L
  refine ⟨X', r1, r2, r3, fun tl Q => ?_⟩
  unfold FO
  rw [← r4 tl Q (3, 0)]
  simp only [p102_0, p102_1]
theorem srch2_s (f : Nat) : srch2 g bell tick (f + 1) n = if cnd g n ∧ ¬ FO (chL g n) bell tick = -1 then n else srch2 g bell tick f (n + 1) := rfl
theorem FC3_T (h : FT m X) : FC3 m X := fun x j a b c d => h x j a b
theorem FC3_L (h : FL m X A) (hA : A = 7 ∨ A = 8) : FC3 m X := fun x j a b c d => h x j a b (by omega)
theorem FC3_tr (h1 : FC3 m X) (h2 : FC3 X Y) : FC3 m Y := fun x j a b c d => (h2 x j a b c d).trans (h1 x j a b c d)
/-- the search for two; X: the draft is the plan, lost cells in 7 -/
theorem e93l (W : WG g) : ∀ (f : Nat) (n : Int) (X : Mm), 0 ≤ n → n + f = 576 → Sh X → PR X 18 g → LA X 7 g → X 0 13 = 0 → ∃ X', Sh X' ∧ FC3 X X' ∧ (if srch2 g bell tick f n = -1 then X' 0 13 = 0 else X' 0 13 = 2 ∧ X' 6 0 = chC (srch2 g bell tick f n) ∧ X' 6 1 = chC (FO (chL g (srch2 g bell tick f n)) bell tick)) ∧ ∀ (tl : Ds) (Q : Ds → Mm → List MV → Prop) (q3 q5 : MV), WP 93 75 [(2, 0), (0, bell), (0, tick), q3, (0, n), q5] [] (dsB ++ tl) X Q = Q (dsB ++ tl) X' [(0, if srch2 g bell tick f n = -1 then -1 else 2)] := by
  intro f
  induction f with
  | zero =>
    intro n X h0 h1 S P L z
    have hn : n = 576 := by omega
    subst hn
    have e0 : srch2 g bell tick 0 576 = -1 := rfl
    rw [e0]
    refine ⟨X, S, FC3_T FT_refl, by rw [if_pos rfl]; exact z, fun tl Q q3 q5 => ?_⟩
    rw [if_pos rfl, p93_75]
    simp only [p93_77, p93_80, p93_160, p93_161, b2_T, b2_F, Int.reduceEq, Int.reduceLT, Int.reduceLE, Int.reduceAdd, Int.reduceSub, Int.reduceMul, Int.reduceNeg, reduceIte, if_true, if_false, true_or, or_true, false_or, or_false, false_and, and_false, eq_self, not_false_eq_true, not_true_eq_false, true_and, and_true, List.cons_append, List.nil_append, List.append_nil, b2_0, b2_1, b2_01, Classical.not_not, Int.lt_irrefl]
  | succ f ih =>
    intro n X h0 h1 S P L z
    have hn : 0 ≤ n ∧ n < 576 := ⟨h0, by omega⟩
    have nl : n < 576 := hn.2
    have nne : ¬ n = -1 := by omega
    have w1 : w32 (n + 1) = n + 1 := w32_id (by omega) (by omega)
    have j1 : jdiv n 6 = n / 6 := jdiv_nn hn.1 (by omega) (by omega) (by omega)
    have cc := n6 hn
    have pl := plc_1' W S P (Or.inl rfl) L hn
    by_cases hc : cnd g n
    · obtain ⟨y103, S1, P1⟩ := pl.1 hc
      have W1 := WG_ch W hn hc.2
      obtain ⟨X2, S2, P2, F2, L2, h2⟩ := e101 (bell := bell) (tick := tick) (A := 8) W1 S1 P1 (Or.inr rfl)
      obtain ⟨X3, S3, P3, F3, h3⟩ := e102 (bell := bell) (tick := tick) (A := 8) W1 (Or.inr rfl) S2 P2 L2
      have f1 : FT X (plc X 18 (n / 6) (chK n) (chA n) 0) := FT_18 (fun x j h => plc_f (by omega))
      have fX3 : FC3 X X3 := FC3_tr (FC3_tr (FC3_T f1) (FC3_L F2 (Or.inr rfl))) (FC3_T F3)
      have z3 : X3 0 13 = 0 := by
        rw [F3 0 13 (by decide) (by decide), F2 0 13 (by decide) (by decide) (by decide), plc_f (by decide)]
        exact z
      have L3 : LA X3 7 g := fun c hc => by
        rw [F3 7 c (by decide) (by decide), F2 7 c (by decide) (by decide) (by decide), plc_f (by decide)]
        exact L c hc
      by_cases hm : FO (chL g n) bell tick = -1
      · have e1 : srch2 g bell tick (f + 1) n = srch2 g bell tick f (n + 1) := by
          rw [srch2_s]
          exact if_neg (fun y => y.2 hm)
        have S4 : Sh (clr X3 18 (n / 6)) := Sh_clr S3
        have P4 : PR (clr X3 18 (n / 6)) 18 g := PR_pe (PR_clr P3 cc) (PE_symm (PE_off PE_refl cc hc.2))
        have F4 : FT X3 (clr X3 18 (n / 6)) := FT_18 (fun x j h => clr_f (by omega))
        obtain ⟨X5, S5, F5, R5, h5⟩ := ih (n + 1) (clr X3 18 (n / 6)) (by omega) (by omega) S4 P4 (LA_FT L3 F4 (Or.inl rfl)) (by rw [clr_f (by decide)]; exact z3)
        rw [e1]
        refine ⟨X5, S5, FC3_tr (FC3_tr fX3 (FC3_T F4)) F5, R5, fun tl Q q3 q5 => ?_⟩
        have y1 := y103 tl
        have y2 := h2 tl
        have y3 := h3 tl
        rw [hm] at y3
        have y4 := fun (Q : Ds → Mm → List MV → Prop) => e37 (c := n / 6) (Q := Q) (PA_18 (tl := tl) S3)
        rw [← h5 tl Q q3 (0, -1), p93_75]
        simp only [p93_77, p93_80, p93_83, p93_84, p93_85, p93_88, p93_90, p93_93, p93_96, p93_97, p93_98, p93_101, p93_102, p93_103, p93_106, p93_107, p93_108, p93_109, p93_112, p93_113, p93_114, p93_117, p93_119, p93_121, p93_122, p93_125, p93_126, p93_128, p93_131, p93_132, p93_134, p93_137, p93_138, p93_141, p93_142, p93_143, p93_146, p93_148, p93_150, p93_151, p93_154, p93_157, K_0, K_18, sh_0_14 S, sh_0_15 S1, sh_0_15 S2, sh_0_1 S3, nl, y1, y2, y3, y4, j1, w1, b2_T, b2_F, Int.reduceEq, Int.reduceLT, Int.reduceLE, Int.reduceAdd, Int.reduceSub, Int.reduceMul, Int.reduceNeg, reduceIte, if_true, if_false, true_or, or_true, false_or, or_false, false_and, and_false, eq_self, not_false_eq_true, not_true_eq_false, true_and, and_true, List.cons_append, List.nil_append, List.append_nil, b2_0, b2_1, b2_01, Classical.not_not]
      · have e1 : srch2 g bell tick (f + 1) n = n := by
          rw [srch2_s]
          exact if_pos ⟨hc, hm⟩
        have fb := (FO_b (g := chL g n) (bell := bell) (tick := tick)).resolve_left hm
        rw [e1]
        have b1 : 0 ≤ X3 0 13 ∧ X3 0 13 < 2 := by rw [z3]; decide
        have S4 : Sh (up (up X3 6 (X3 0 13) (chC n)) 0 13 (X3 0 13 + 1)) := Sh.up (Sh_ar S3 (by decide)) (by decide)
        have y104 := fun (tl : Ds) (Q : Ds → Mm → List MV → Prop) => e104 (tl := tl) (Q := Q) S3 b1 hn
        rw [z3] at S4 y104
        have b4 : up (up X3 6 0 (chC n)) 0 13 (0 + 1) 0 13 = 1 := by simp only [up_at, b2_T, b2_F, Int.reduceEq, Int.reduceLT, Int.reduceLE, Int.reduceAdd, Int.reduceSub, Int.reduceMul, Int.reduceNeg, reduceIte, if_true, if_false, true_or, or_true, false_or, or_false, false_and, and_false, eq_self, not_false_eq_true, not_true_eq_false, true_and, and_true, List.cons_append, List.nil_append, List.append_nil, b2_0, b2_1, b2_01, Classical.not_not]
        have b5 : 0 ≤ up (up X3 6 0 (chC n)) 0 13 (0 + 1) 0 13 ∧ up (up X3 6 0 (chC n)) 0 13 (0 + 1) 0 13 < 2 := by rw [b4]; decide
        have z104 := fun (tl : Ds) (Q : Ds → Mm → List MV → Prop) => e104 (tl := tl) (Q := Q) (n := FO (chL g n) bell tick) S4 b5 fb
        rw [b4] at z104
        have S5 : Sh (up (up (up (up X3 6 0 (chC n)) 0 13 (0 + 1)) 6 1 (chC (FO (chL g n) bell tick))) 0 13 (1 + 1)) := Sh.up (Sh_ar S4 (by decide)) (by decide)
        refine ⟨up (up (up (up X3 6 0 (chC n)) 0 13 (0 + 1)) 6 1 (chC (FO (chL g n) bell tick))) 0 13 (1 + 1), S5, ?_, ?_, fun tl Q q3 q5 => ?_⟩
        · intro x j a b c d
          rw [up_at, if_neg d, up_at, if_neg (fun y => c (by rw [y.1]; decide)), up_at, if_neg d, up_at, if_neg (fun y => c (by rw [y.1]; decide))]
          exact fX3 x j a b c d
        · rw [if_neg nne]
          simp only [up_at, b2_T, b2_F, Int.reduceEq, Int.reduceLT, Int.reduceLE, Int.reduceAdd, Int.reduceSub, Int.reduceMul, Int.reduceNeg, reduceIte, if_true, if_false, true_or, or_true, false_or, or_false, false_and, and_false, eq_self, not_false_eq_true, not_true_eq_false, true_and, and_true, List.cons_append, List.nil_append, List.append_nil, b2_0, b2_1, b2_01, Classical.not_not]
        · have y1 := y103 tl
          have y2 := h2 tl
          have y3 := h3 tl
          have y5 := y104 tl
          have y6 := z104 tl
          generalize FO (chL g n) bell tick = fo at hm y3 y6 ⊢
          simp only [Int.reduceAdd] at y5 y6
          rw [if_neg nne, p93_75]
          simp only [p93_77, p93_80, p93_83, p93_84, p93_85, p93_88, p93_90, p93_93, p93_96, p93_97, p93_98, p93_101, p93_102, p93_103, p93_106, p93_107, p93_108, p93_109, p93_112, p93_113, p93_114, p93_117, p93_119, p93_121, p93_122, p93_125, p93_126, p93_128, p93_131, p93_132, p93_134, p93_137, p93_138, p93_141, K_0, K_18, sh_0_14 S, sh_0_15 S1, sh_0_15 S2, nl, y1, y2, y3, hm, y5, y6, up_at, b2_T, b2_F, Int.reduceEq, Int.reduceLT, Int.reduceLE, Int.reduceAdd, Int.reduceSub, Int.reduceMul, Int.reduceNeg, reduceIte, if_true, if_false, true_or, or_true, false_or, or_false, false_and, and_false, eq_self, not_false_eq_true, not_true_eq_false, true_and, and_true, List.cons_append, List.nil_append, List.append_nil, b2_0, b2_1, b2_01, Classical.not_not]
    · have e1 : srch2 g bell tick (f + 1) n = srch2 g bell tick f (n + 1) := by
        rw [srch2_s]
        exact if_neg (fun y => hc y.1)
      obtain ⟨X5, S5, F5, R5, h5⟩ := ih (n + 1) X (by omega) (by omega) S P L z
      rw [e1]
      refine ⟨X5, S5, F5, R5, fun tl Q q3 q5 => ?_⟩
      have y1 := pl.2 hc tl
      rw [← h5 tl Q q3 q5, p93_75]
      simp only [p93_77, p93_80, p93_83, p93_84, p93_85, p93_88, p93_90, p93_93, p93_96, p93_97, p93_98, p93_101, p93_102, p93_103, p93_106, p93_107, p93_108, p93_109, p93_112, p93_113, p93_114, p93_117, p93_119, p93_121, p93_122, p93_125, p93_126, p93_128, p93_131, p93_132, p93_134, p93_137, p93_138, p93_141, p93_142, p93_143, p93_146, p93_148, p93_150, p93_151, p93_154, p93_157, K_0, sh_0_14 S, nl, y1, w1, b2_T, b2_F, Int.reduceEq, Int.reduceLT, Int.reduceLE, Int.reduceAdd, Int.reduceSub, Int.reduceMul, Int.reduceNeg, reduceIte, if_true, if_false, true_or, or_true, false_or, or_false, false_and, and_false, eq_self, not_false_eq_true, not_true_eq_false, true_and, and_true, List.cons_append, List.nil_append, List.append_nil, b2_0, b2_1, b2_01, Classical.not_not]
theorem e93 (W : WG m) (P : PR m 9 m) : ∃ X, Sh X ∧ FC3 m X ∧ LSq X 6 (X 0 13) (fwR m bell tick).2 ∧ ∀ (tl : Ds) (Q : Ds → Mm → List MV → Prop), WP 93 0 [(2, 0), (0, bell), (0, tick), (3, 0), (3, 0), (3, 0)] [] (dsB ++ tl) m Q = Q (dsB ++ tl) X [(0, (fwR m bell tick).1)] := by
  have S := W.S
  have S0 : Sh (up m 0 13 0) := Sh.up S (by decide)
  have P0 : PR (up m 0 13 0) 9 m := PR_m P (fun x j h1 h2 => by rw [up_at, if_neg (by omega)])
  have f0 : FC3 m (up m 0 13 0) := fun x j y1 y2 y3 y4 => by rw [up_at, if_neg y4]
  have z13 : up m 0 13 0 0 13 = 0 := by simp only [up_at, b2_T, b2_F, Int.reduceEq, Int.reduceLT, Int.reduceLE, Int.reduceAdd, Int.reduceSub, Int.reduceMul, Int.reduceNeg, reduceIte, if_true, if_false, true_or, or_true, false_or, or_false, false_and, and_false, eq_self, not_false_eq_true, not_true_eq_false, true_and, and_true, List.cons_append, List.nil_append, List.append_nil, b2_0, b2_1, b2_01, Classical.not_not]
  have e24' := fun (tl : Ds) (Q : Ds → Mm → List MV → Prop) => e24 (c := bell) (Q := Q) (PA_9 (tl := tl) S0)
  simp only [Int.reduceAdd] at e24'
  have k10 : up m 0 13 0 10 bell = m 10 bell := rfl
  by_cases h8 : isC bell ∧ m 72 bell = 8
  · have kb := P.k bell h8.1
    simp only [Int.reduceAdd] at kb
    simp only [if_pos h8.1, k10, kb, h8.2] at e24'
    have S1 := Sh_bec S0
    have P1 : PR (bec (up m 0 13 0) 18 9) 18 m := PR_bec P0 W.v
    have f1 : FT (up m 0 13 0) (bec (up m 0 13 0) 18 9) := FT_18 (fun x j h => bec_f (by omega))
    have e23' := fun (tl : Ds) (Q : Ds → Mm → List MV → Prop) => e23 (Q := Q) (PA_18 (tl := tl) S0) (PA_9 (tl := tl) S0) (Or.inr (by decide)) (fun d d0 d1 => by
      have := P0.b d ⟨d0, d1⟩
      rw [this]
      exact (W.p d ⟨d0, d1⟩).l)
    obtain ⟨X2, S2, P2, F2, L2, h2⟩ := e101 (bell := bell) (tick := tick) (A := 7) W S1 P1 (Or.inl rfl)
    have fX2 : FC3 m X2 := FC3_tr (FC3_tr f0 (FC3_T f1)) (FC3_L F2 (Or.inl rfl))
    have z2 : X2 0 13 = 0 := by
      rw [F2 0 13 (by decide) (by decide) (by decide), f1 0 13 (by decide) (by decide)]
      exact z13
    -- up to the question whether the plan meets the wish
    have run : ∀ (tl : Ds) (Q : Ds → Mm → List MV → Prop), WP 93 0 [(2, 0), (0, bell), (0, tick), (3, 0), (3, 0), (3, 0)] [] (dsB ++ tl) m Q = WP 93 41 [(2, 0), (0, bell), (0, tick), (3, 0), (3, 0), (3, 0)] [(0, b2 (MT m bell tick))] (dsB ++ tl) X2 Q := by
      intro tl Q
      have y24 := e24' tl
      have y23 := e23' tl
      have y2 := h2 tl
      generalize b2 (MT m bell tick) = bb at y2 ⊢
      simp only [p93_0, p93_1, p93_2, p93_5, p93_6, p93_9, p93_10, p93_13, p93_15, p93_18, p93_19, p93_20, p93_21, p93_24, p93_25, p93_28, p93_31, p93_32, p93_33, p93_36, p93_37, p93_38, K_0, K_9, K_18, sh_0_0 S0, sh_0_1 S0, sh_0_14 S1, y24, y23, y2, b2_T, b2_F, Int.reduceEq, Int.reduceLT, Int.reduceLE, Int.reduceAdd, Int.reduceSub, Int.reduceMul, Int.reduceNeg, reduceIte, if_true, if_false, true_or, or_true, false_or, or_false, false_and, and_false, eq_self, not_false_eq_true, not_true_eq_false, true_and, and_true, List.cons_append, List.nil_append, List.append_nil, b2_0, b2_1, b2_01, Classical.not_not]
    by_cases hm : MT m bell tick
    · have er : fwR m bell tick = (0, (0, fun _ => 0)) := by
        unfold fwR
        rw [if_pos h8]
        exact if_pos hm
      rw [er]
      refine ⟨X2, S2, fX2, ⟨z2, fun i i0 i1 => absurd i1 (by show ¬ i < 0; omega)⟩, fun tl Q => ?_⟩
      rw [run tl Q, b2_t hm]
      simp only [p93_41, p93_44, p93_45, b2_T, b2_F, Int.reduceEq, Int.reduceLT, Int.reduceLE, Int.reduceAdd, Int.reduceSub, Int.reduceMul, Int.reduceNeg, reduceIte, if_true, if_false, true_or, or_true, false_or, or_false, false_and, and_false, eq_self, not_false_eq_true, not_true_eq_false, true_and, and_true, List.cons_append, List.nil_append, List.append_nil, b2_0, b2_1, b2_01, Classical.not_not]
    · obtain ⟨X3, S3, P3, F3, h3⟩ := e102 (bell := bell) (tick := tick) (A := 7) W (Or.inl rfl) S2 P2 L2
      have fX3 : FC3 m X3 := FC3_tr fX2 (FC3_T F3)
      have z3 : X3 0 13 = 0 := by
        rw [F3 0 13 (by decide) (by decide)]
        exact z2
      have L3 : LA X3 7 m := LA_FT L2 F3 (Or.inl rfl)
      by_cases ho : FO m bell tick = -1
      · obtain ⟨X4, S4, F4, R4, h4⟩ := e93l (bell := bell) (tick := tick) W 576 0 X3 (by omega) (by omega) S3 P3 L3 z3
        have st : ∀ (tl : Ds) (Q : Ds → Mm → List MV → Prop), WP 93 0 [(2, 0), (0, bell), (0, tick), (3, 0), (3, 0), (3, 0)] [] (dsB ++ tl) m Q = WP 93 75 [(2, 0), (0, bell), (0, tick), (0, -1), (0, 0), (3, 0)] [] (dsB ++ tl) X3 Q := by
          intro tl Q
          have y3 := h3 tl
          rw [ho] at y3
          rw [run tl Q, b2_f hm]
          simp only [p93_41, p93_44, p93_45, p93_46, p93_47, p93_48, p93_51, p93_52, p93_53, p93_56, p93_57, p93_58, p93_59, p93_62, p93_63, p93_64, p93_67, p93_68, p93_71, p93_72, p93_73, K_0, sh_0_14 S2, y3, b2_T, b2_F, Int.reduceEq, Int.reduceLT, Int.reduceLE, Int.reduceAdd, Int.reduceSub, Int.reduceMul, Int.reduceNeg, reduceIte, if_true, if_false, true_or, or_true, false_or, or_false, false_and, and_false, eq_self, not_false_eq_true, not_true_eq_false, true_and, and_true, List.cons_append, List.nil_append, List.append_nil, b2_0, b2_1, b2_01, Classical.not_not]
        obtain ⟨sr, hsr⟩ : ∃ sr, sr = srch2 m bell tick 576 0 := ⟨_, rfl⟩
        rw [← hsr] at R4 h4
        by_cases h2' : sr = -1
        · have er : fwR m bell tick = (-1, (0, fun _ => 0)) := by
            unfold fwR
            rw [if_pos h8, ← hsr]
            refine (if_neg hm).trans ((if_neg (fun y => y ho)).trans (if_neg (fun y => y h2')))
          rw [er]
          rw [if_pos h2'] at R4
          refine ⟨X4, S4, FC3_tr fX3 F4, ⟨R4, fun i i0 i1 => absurd i1 (by show ¬ i < 0; omega)⟩, fun tl Q => ?_⟩
          rw [st tl Q, h4 tl Q, if_pos h2']
        · have er : fwR m bell tick = (2, (2, fun i => if i = 0 then chC sr else chC (FO (chL m sr) bell tick))) := by
            unfold fwR
            rw [if_pos h8, ← hsr]
            refine (if_neg hm).trans ((if_neg (fun y => y ho)).trans (if_pos h2'))
          rw [er]
          rw [if_neg h2'] at R4
          refine ⟨X4, S4, FC3_tr fX3 F4, ⟨R4.1, fun i i0 i1 => ?_⟩, fun tl Q => ?_⟩
          · have i1' : i < 2 := i1
            show X4 6 i = if i = 0 then chC sr else chC (FO (chL m sr) bell tick)
            have i2 : i = 0 ∨ i = 1 := by omega
            rcases i2 with rfl | rfl
            · rw [if_pos rfl]; exact R4.2.1
            · rw [if_neg (by decide)]; exact R4.2.2
          · rw [st tl Q, h4 tl Q, if_neg h2']
      · have fb := (FO_b (g := m) (bell := bell) (tick := tick)).resolve_left ho
        have er : fwR m bell tick = (1, (1, fun _ => chC (FO m bell tick))) := by
          unfold fwR
          rw [if_pos h8]
          refine (if_neg hm).trans (if_pos ho)
        rw [er]
        have b1 : 0 ≤ X3 0 13 ∧ X3 0 13 < 2 := by rw [z3]; decide
        have S4 : Sh (up (up X3 6 (X3 0 13) (chC (FO m bell tick))) 0 13 (X3 0 13 + 1)) := Sh.up (Sh_ar S3 (by decide)) (by decide)
        have y104 := fun (tl : Ds) (Q : Ds → Mm → List MV → Prop) => e104 (tl := tl) (Q := Q) S3 b1 fb
        rw [z3] at S4 y104
        refine ⟨up (up X3 6 0 (chC (FO m bell tick))) 0 13 (0 + 1), S4, ?_, ⟨?_, fun i i0 i1 => ?_⟩, fun tl Q => ?_⟩
        · intro x j a b c d
          rw [up_at, if_neg d, up_at, if_neg (fun y => c (by rw [y.1]; decide))]
          exact fX3 x j a b c d
        · simp only [up_at, b2_T, b2_F, Int.reduceEq, Int.reduceLT, Int.reduceLE, Int.reduceAdd, Int.reduceSub, Int.reduceMul, Int.reduceNeg, reduceIte, if_true, if_false, true_or, or_true, false_or, or_false, false_and, and_false, eq_self, not_false_eq_true, not_true_eq_false, true_and, and_true, List.cons_append, List.nil_append, List.append_nil, b2_0, b2_1, b2_01, Classical.not_not]
        · have i1' : i < 1 := i1
          have i2 : i = 0 := by omega
          subst i2
          show up (up X3 6 0 (chC (FO m bell tick))) 0 13 (0 + 1) 6 0 = chC (FO m bell tick)
          simp only [up_at, b2_T, b2_F, Int.reduceEq, Int.reduceLT, Int.reduceLE, Int.reduceAdd, Int.reduceSub, Int.reduceMul, Int.reduceNeg, reduceIte, if_true, if_false, true_or, or_true, false_or, or_false, false_and, and_false, eq_self, not_false_eq_true, not_true_eq_false, true_and, and_true, List.cons_append, List.nil_append, List.append_nil, b2_0, b2_1, b2_01, Classical.not_not]
        · have y3 := h3 tl
          have y5 := y104 tl
          rw [run tl Q, b2_f hm]
          generalize FO m bell tick = fo at ho y3 y5 ⊢
          simp only [Int.reduceAdd] at y5
          simp only [p93_41, p93_44, p93_45, p93_46, p93_47, p93_48, p93_51, p93_52, p93_53, p93_56, p93_57, p93_58, p93_59, p93_62, p93_63, p93_64, p93_67, p93_68, p93_71, K_0, sh_0_14 S2, y3, ho, y5, up_at, b2_T, b2_F, Int.reduceEq, Int.reduceLT, Int.reduceLE, Int.reduceAdd, Int.reduceSub, Int.reduceMul, Int.reduceNeg, reduceIte, if_true, if_false, true_or, or_true, false_or, or_false, false_and, and_false, eq_self, not_false_eq_true, not_true_eq_false, true_and, and_true, List.cons_append, List.nil_append, List.append_nil, b2_0, b2_1, b2_01, Classical.not_not]
  · have er : fwR m bell tick = (-1, (0, fun _ => 0)) := by
      unfold fwR
      exact if_neg h8
    rw [er]
    have nk : ¬ (if 0 ≤ bell ∧ bell < 96 then up m 0 13 0 10 bell else 0) = 8 := by
      by_cases hb : isC bell
      · rw [if_pos hb, k10]
        have kb := P.k bell hb
        simp only [Int.reduceAdd] at kb
        rw [kb]
        exact fun y => h8 ⟨hb, y⟩
      · rw [if_neg hb]
        decide
    refine ⟨up m 0 13 0, S0, f0, ⟨z13, fun i i0 i1 => absurd i1 (by show ¬ i < 0; omega)⟩, fun tl Q => ?_⟩
    have y24 := e24' tl
    generalize (if 0 ≤ bell ∧ bell < 96 then up m 0 13 0 10 bell else 0) = kk at y24 nk
    simp only [p93_0, p93_1, p93_2, p93_5, p93_6, p93_9, p93_10, p93_13, p93_15, p93_18, p93_19, K_0, K_9, sh_0_0 S0, y24, nk, b2_T, b2_F, Int.reduceEq, Int.reduceLT, Int.reduceLE, Int.reduceAdd, Int.reduceSub, Int.reduceMul, Int.reduceNeg, reduceIte, if_true, if_false, true_or, or_true, false_or, or_false, false_and, and_false, eq_self, not_false_eq_true, not_true_eq_false, true_and, and_true, List.cons_append, List.nil_append, List.append_nil, b2_0, b2_1, b2_01, Classical.not_not]
end FEWEST2
