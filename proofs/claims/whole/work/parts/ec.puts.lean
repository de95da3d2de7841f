/-! puts, both sides -/
abbrev tkP (m : Mm) (A B c k a b : Int) : Prop := isC c ∧ ((k = 10 ∧ m B c = 0 ∧ (m A c = 0 ∨ m A c = 9)) ∨ (¬ k = 10 ∧ canP k a b (m A c) (m B c)))
def cmG (g : Mm) (c k a b : Int) : Mm := if k = 10 then up g 76 c 1 else ly g c k a b
def tkX (m : Mm) (c k a b : Int) : Mm := if k = 10 then up m 23 c 1 else plc m 18 c k a b
/-- the plan after the pieces of a row, or none -/
def psG (E : Int → Int) : Nat → Int → Mm → Option Mm
  | 0, _, g => some g
  | f + 1, i, g => if tkP g 72 76 (E i) (E (i + 1)) (E (i + 2)) (E (i + 3)) then psG E f (i + 4) (cmG g (E i) (E (i + 1)) (E (i + 2)) (E (i + 3))) else none
section PUTS
variable {tl : Ds} {ds ds' : Ds} {m X Y Z X' Y' g h G A B : Mm} {Q : Ds → Mm → List MV → Prop} {p q c k a b s o v i j d n w t r e x : Int} {M M' : Nat} {as as' : List MV} {E : Int → Int}
theorem psG_s (f : Nat) : psG E (f + 1) i g = if tkP g 72 76 (E i) (E (i + 1)) (E (i + 2)) (E (i + 3)) then psG E f (i + 4) (cmG g (E i) (E (i + 1)) (E (i + 2)) (E (i + 3))) else none := rfl
theorem tkP_pr (P : PR X 18 g) : tkP X 19 23 c k a b ↔ tkP g 72 76 c k a b := by
  unfold tkP
  by_cases hc : isC c
  · have kc := P.k c hc
    have bc := P.b c hc
    simp only [Int.reduceAdd] at kc bc
    rw [kc, bc]
  · exact ⟨fun y => absurd y.1 hc, fun y => absurd y.1 hc⟩
theorem WG_cm (W : WG g) (h : tkP g 72 76 c k a b) : WG (cmG g c k a b) := by
  unfold cmG
  rcases h.2 with y | y
  · rw [if_pos y.1]
    exact PV_ball W h.1 y.2.2
  · rw [if_neg y.1]
    exact WG_ly2 W h.1 y.2
theorem PR_cm (P : PR X 18 g) (h : tkP g 72 76 c k a b) : PR (tkX X c k a b) 18 (cmG g c k a b) := by
  unfold cmG tkX
  rcases h.2 with y | y
  · rw [if_pos y.1, if_pos y.1]
    exact PR_ball P
  · rw [if_neg y.1, if_neg y.1]
    have k1 := y.2.1
    exact PR_ly P ⟨k1.1, k1.2.1⟩ k1.2.2
theorem ZP_tk (z : ZP X 18) (h : tkP g 72 76 c k a b) : ZP (tkX X c k a b) 18 := by
  unfold tkX
  rcases h.2 with y | y
  · rw [if_pos y.1]
    exact ZP_up z (by decide)
  · rw [if_neg y.1]
    have k1 := y.2.1.1
    exact ZP_plc z (Or.inl (by omega))
theorem Sh_tk (S : Sh X) : Sh (tkX X c k a b) := by
  unfold tkX
  split
  · exact Sh_ar S (by decide)
  · exact Sh_plc S
theorem tkX_f (h : ¬ (18 ≤ x ∧ x ≤ 26)) : tkX X c k a b x j = X x j := by
  unfold tkX
  split
  · rw [up_at, if_neg (by omega)]
  · exact plc_f (by omega)
theorem cmG_f (h : ¬ (72 ≤ x ∧ x ≤ 76)) : cmG Y c k a b x j = Y x j := by
  unfold cmG
  split
  · rw [up_at, if_neg (by omega)]
  · exact ly_f (by omega)
theorem e98y (S : Sh m) (h : tkP m 19 23 c k a b) : WP 98 0 [(2, 0), (0, c), (0, k), (0, a), (0, b), (3, 0)] [] (dsB ++ tl) m Q = Q (dsB ++ tl) (tkX m c k a b) [(0, 1)] := by
  have A := PA_18 (tl := tl) S
  unfold tkX
  obtain ⟨hc, h⟩ := h
  rcases h with ⟨hk, h⟩ | ⟨hk, h⟩
  · have y33 := fun (Q : Ds → Mm → List MV → Prop) => e33 (Q := Q) (c := c) A
    have y36 := fun (Q : Ds → Mm → List MV → Prop) => e36 (Q := Q) (c := c) A hc
    simp only [Int.reduceAdd, b2_t (show (0 ≤ c ∧ c < 96) ∧ m 23 c = 0 ∧ (m 19 c = 0 ∨ m 19 c = 9) from ⟨hc, h⟩)] at y33
    simp only [Int.reduceAdd] at y36
    simp only [p98_0, p98_1, p98_3, p98_6, p98_7, p98_10, p98_11, p98_14, p98_17, p98_18, p98_21, p98_22, p98_23, p98_24, p98_26, p98_29, p98_31, p98_33, p98_36, p98_37, p98_39, p98_42, p98_43, p98_46, p98_47, p98_50, p98_53, p98_55, p98_58, p98_59, p98_62, p98_63, p98_64, p98_65, p98_67, p98_70, p98_72, K_0, K_3, L_3, sh_0_0 S, sh_0_1 S, sh_0_2 S, sh_0_3 S, sh_0_4 S, sh_0_5 S, sh_0_7 S, sh_0_8 S, sh_0_10 S, sh_0_12 S, sh_0_14 S, sh_0_15 S, K_18, hk, y33, y36, b2_T, b2_F, Int.reduceEq, Int.reduceLT, Int.reduceLE, Int.reduceAdd, Int.reduceSub, Int.reduceMul, Int.reduceNeg, reduceIte, if_true, if_false, true_or, or_true, false_or, or_false, false_and, and_false, eq_self, not_false_eq_true, not_true_eq_false, true_and, and_true, List.cons_append, List.nil_append, List.append_nil, b2_0, b2_1, b2_01, Classical.not_not]
  · have y32 := fun (Q : Ds → Mm → List MV → Prop) => e32 (Q := Q) (c := c) (k := k) (a := a) (b := b) A
    have y34 := fun (Q : Ds → Mm → List MV → Prop) => e34 (Q := Q) (c := c) (k := k) (a := a) (b := b) A
    simp only [Int.reduceAdd, b2_t (show (0 ≤ c ∧ c < 96) ∧ canP k a b (m 19 c) (m 23 c) from ⟨hc, h⟩)] at y32
    simp only [if_pos (show 0 ≤ c ∧ c < 96 from hc)] at y34
    simp only [p98_0, p98_1, p98_3, p98_6, p98_7, p98_10, p98_11, p98_14, p98_17, p98_18, p98_21, p98_22, p98_23, p98_24, p98_26, p98_29, p98_31, p98_33, p98_36, p98_37, p98_39, p98_42, p98_43, p98_46, p98_47, p98_50, p98_53, p98_55, p98_58, p98_59, p98_62, p98_63, p98_64, p98_65, p98_67, p98_70, p98_72, K_0, K_3, L_3, sh_0_0 S, sh_0_1 S, sh_0_2 S, sh_0_3 S, sh_0_4 S, sh_0_5 S, sh_0_7 S, sh_0_8 S, sh_0_10 S, sh_0_12 S, sh_0_14 S, sh_0_15 S, K_18, hk, y32, y34, b2_T, b2_F, Int.reduceEq, Int.reduceLT, Int.reduceLE, Int.reduceAdd, Int.reduceSub, Int.reduceMul, Int.reduceNeg, reduceIte, if_true, if_false, true_or, or_true, false_or, or_false, false_and, and_false, eq_self, not_false_eq_true, not_true_eq_false, true_and, and_true, List.cons_append, List.nil_append, List.append_nil, b2_0, b2_1, b2_01, Classical.not_not]
theorem e98n (S : Sh m) (h : ¬ tkP m 19 23 c k a b) : WP 98 0 [(2, 0), (0, c), (0, k), (0, a), (0, b), (3, 0)] [] (dsB ++ tl) m Q = Q (dsB ++ tl) m [(0, 0)] := by
  have A := PA_18 (tl := tl) S
  by_cases hk : k = 10
  · have y33 := fun (Q : Ds → Mm → List MV → Prop) => e33 (Q := Q) (c := c) A
    simp only [Int.reduceAdd, b2_f (show ¬ ((0 ≤ c ∧ c < 96) ∧ m 23 c = 0 ∧ (m 19 c = 0 ∨ m 19 c = 9)) from fun y => h ⟨y.1, Or.inl ⟨hk, y.2⟩⟩)] at y33
    simp only [p98_0, p98_1, p98_3, p98_6, p98_7, p98_10, p98_11, p98_14, p98_17, p98_18, p98_21, p98_22, p98_23, p98_24, p98_26, p98_29, p98_31, p98_33, p98_36, p98_37, p98_39, p98_42, p98_43, p98_46, p98_47, p98_50, p98_53, p98_55, p98_58, p98_59, p98_62, p98_63, p98_64, p98_65, p98_67, p98_70, p98_72, K_0, K_3, L_3, sh_0_0 S, sh_0_1 S, sh_0_2 S, sh_0_3 S, sh_0_4 S, sh_0_5 S, sh_0_7 S, sh_0_8 S, sh_0_10 S, sh_0_12 S, sh_0_14 S, sh_0_15 S, K_18, hk, y33, b2_T, b2_F, Int.reduceEq, Int.reduceLT, Int.reduceLE, Int.reduceAdd, Int.reduceSub, Int.reduceMul, Int.reduceNeg, reduceIte, if_true, if_false, true_or, or_true, false_or, or_false, false_and, and_false, eq_self, not_false_eq_true, not_true_eq_false, true_and, and_true, List.cons_append, List.nil_append, List.append_nil, b2_0, b2_1, b2_01, Classical.not_not]
  · have y32 := fun (Q : Ds → Mm → List MV → Prop) => e32 (Q := Q) (c := c) (k := k) (a := a) (b := b) A
    simp only [Int.reduceAdd, b2_f (show ¬ ((0 ≤ c ∧ c < 96) ∧ canP k a b (m 19 c) (m 23 c)) from fun y => h ⟨y.1, Or.inr ⟨hk, y.2⟩⟩)] at y32
    simp only [p98_0, p98_1, p98_3, p98_6, p98_7, p98_10, p98_11, p98_14, p98_17, p98_18, p98_21, p98_22, p98_23, p98_24, p98_26, p98_29, p98_31, p98_33, p98_36, p98_37, p98_39, p98_42, p98_43, p98_46, p98_47, p98_50, p98_53, p98_55, p98_58, p98_59, p98_62, p98_63, p98_64, p98_65, p98_67, p98_70, p98_72, K_0, K_3, L_3, sh_0_0 S, sh_0_1 S, sh_0_2 S, sh_0_3 S, sh_0_4 S, sh_0_5 S, sh_0_7 S, sh_0_8 S, sh_0_10 S, sh_0_12 S, sh_0_14 S, sh_0_15 S, K_18, hk, y32, b2_T, b2_F, Int.reduceEq, Int.reduceLT, Int.reduceLE, Int.reduceAdd, Int.reduceSub, Int.reduceMul, Int.reduceNeg, reduceIte, if_true, if_false, true_or, or_true, false_or, or_false, false_and, and_false, eq_self, not_false_eq_true, not_true_eq_false, true_and, and_true, List.cons_append, List.nil_append, List.append_nil, b2_0, b2_1, b2_01, Classical.not_not]
theorem e151y (S : Sh m) (h : tkP m 72 76 c k a b) : WP 151 0 [(2, 70), (0, c), (0, k), (0, a), (0, b), (3, 0)] [] (dsB ++ tl) m Q = Q (dsB ++ tl) (cmG m c k a b) [(0, 1)] := by
  unfold cmG
  obtain ⟨hc, h⟩ := h
  rcases h with ⟨hk, h⟩ | ⟨hk, h⟩
  · simp only [p151_0, p151_1, p151_4, p151_7, p151_8, p151_9, p151_10, p151_12, p151_15, p151_16, p151_17, p151_20, p151_22, p151_23, p151_26, p151_27, p151_28, p151_29, p151_31, p151_32, p151_33, p151_34, p151_35, p151_36, p151_38, p151_41, p151_43, p151_45, p151_48, p151_49, p151_50, p151_51, p151_52, p151_54, p151_57, p151_59, e122, b2_t hc, e131 S hc, b2_t h, K_70, K_76, L_76, sh_70_5 S, hc.1, hc.2, hk, b2_T, b2_F, Int.reduceEq, Int.reduceLT, Int.reduceLE, Int.reduceAdd, Int.reduceSub, Int.reduceMul, Int.reduceNeg, reduceIte, if_true, if_false, true_or, or_true, false_or, or_false, false_and, and_false, eq_self, not_false_eq_true, not_true_eq_false, true_and, and_true, List.cons_append, List.nil_append, List.append_nil, b2_0, b2_1, b2_01, Classical.not_not]
  · simp only [p151_0, p151_1, p151_4, p151_7, p151_8, p151_9, p151_10, p151_12, p151_15, p151_16, p151_17, p151_20, p151_22, p151_23, p151_26, p151_27, p151_28, p151_29, p151_31, p151_32, p151_33, p151_34, p151_35, p151_36, p151_38, p151_41, p151_43, p151_45, p151_48, p151_49, p151_50, p151_51, p151_52, p151_54, p151_57, p151_59, e122, b2_t hc, e127 S hc, b2_t h, e128 S hc, K_70, hk, b2_T, b2_F, Int.reduceEq, Int.reduceLT, Int.reduceLE, Int.reduceAdd, Int.reduceSub, Int.reduceMul, Int.reduceNeg, reduceIte, if_true, if_false, true_or, or_true, false_or, or_false, false_and, and_false, eq_self, not_false_eq_true, not_true_eq_false, true_and, and_true, List.cons_append, List.nil_append, List.append_nil, b2_0, b2_1, b2_01, Classical.not_not]
theorem e151n (S : Sh m) (h : ¬ tkP m 72 76 c k a b) : ∃ Y, Sh Y ∧ (∀ x j, ¬ (72 ≤ x ∧ x ≤ 76) → Y x j = m x j) ∧ ∀ (tl : Ds) (Q : Ds → Mm → List MV → Prop), WP 151 0 [(2, 70), (0, c), (0, k), (0, a), (0, b), (3, 0)] [] (dsB ++ tl) m Q = Q (dsB ++ tl) Y [(0, 0)] := by
  by_cases hc : isC c
  · by_cases hk : k = 10
    · have h2 : ¬ (m 76 c = 0 ∧ (m 72 c = 0 ∨ m 72 c = 9)) := fun y => h ⟨hc, Or.inl ⟨hk, y⟩⟩
      refine ⟨up m 76 c 1, Sh_ar S (by decide), fun x j h => by rw [up_at, if_neg (by omega)], fun tl Q => ?_⟩
      simp only [p151_0, p151_1, p151_4, p151_7, p151_8, p151_9, p151_10, p151_12, p151_15, p151_16, p151_17, p151_20, p151_22, p151_23, p151_26, p151_27, p151_28, p151_29, p151_31, p151_32, p151_33, p151_34, p151_35, p151_36, p151_38, p151_41, p151_43, p151_45, p151_48, p151_49, p151_50, p151_51, p151_52, p151_54, p151_57, p151_59, e122, b2_t hc, e131 S hc, b2_f h2, K_70, K_76, L_76, sh_70_5 S, hc.1, hc.2, hk, b2_T, b2_F, Int.reduceEq, Int.reduceLT, Int.reduceLE, Int.reduceAdd, Int.reduceSub, Int.reduceMul, Int.reduceNeg, reduceIte, if_true, if_false, true_or, or_true, false_or, or_false, false_and, and_false, eq_self, not_false_eq_true, not_true_eq_false, true_and, and_true, List.cons_append, List.nil_append, List.append_nil, b2_0, b2_1, b2_01, Classical.not_not]
    · have h2 : ¬ canP k a b (m 72 c) (m 76 c) := fun y => h ⟨hc, Or.inr ⟨hk, y⟩⟩
      refine ⟨m, S, fun _ _ _ => rfl, fun tl Q => ?_⟩
      simp only [p151_0, p151_1, p151_4, p151_7, p151_8, p151_9, p151_10, p151_12, p151_15, p151_16, p151_17, p151_20, p151_22, p151_23, p151_26, p151_27, p151_28, p151_29, p151_31, p151_32, p151_33, p151_34, p151_35, p151_36, p151_38, p151_41, p151_43, p151_45, p151_48, p151_49, p151_50, p151_51, p151_52, p151_54, p151_57, p151_59, e122, b2_t hc, e127 S hc, b2_f h2, K_70, hk, b2_T, b2_F, Int.reduceEq, Int.reduceLT, Int.reduceLE, Int.reduceAdd, Int.reduceSub, Int.reduceMul, Int.reduceNeg, reduceIte, if_true, if_false, true_or, or_true, false_or, or_false, false_and, and_false, eq_self, not_false_eq_true, not_true_eq_false, true_and, and_true, List.cons_append, List.nil_append, List.append_nil, b2_0, b2_1, b2_01, Classical.not_not]
  · refine ⟨m, S, fun _ _ _ => rfl, fun tl Q => ?_⟩
    simp only [p151_0, p151_1, p151_4, p151_7, p151_8, p151_9, p151_10, p151_12, p151_15, p151_16, p151_17, p151_20, p151_22, p151_23, p151_26, p151_27, p151_28, p151_29, p151_31, p151_32, p151_33, p151_34, p151_35, p151_36, p151_38, p151_41, p151_43, p151_45, p151_48, p151_49, p151_50, p151_51, p151_52, p151_54, p151_57, p151_59, e122, b2_f hc, K_70, b2_T, b2_F, Int.reduceEq, Int.reduceLT, Int.reduceLE, Int.reduceAdd, Int.reduceSub, Int.reduceMul, Int.reduceNeg, reduceIte, if_true, if_false, true_or, or_true, false_or, or_false, false_and, and_false, eq_self, not_false_eq_true, not_true_eq_false, true_and, and_true, List.cons_append, List.nil_append, List.append_nil, b2_0, b2_1, b2_01, Classical.not_not]
theorem e148 (S : Sh m) (h : 0 ≤ s ∧ s < 8) (hi : 0 ≤ i ∧ i < 100) : WP 148 0 [(2, 70), (0, s), (0, i)] [] (dsB ++ tl) m Q = Q (dsB ++ tl) m [(0, ji (m 82 (100 * s + i)))] := by
  have w1 : w32 (100 * s) = 100 * s := w32_id (by omega) (by omega)
  have w2 : w32 (100 * s + i) = 100 * s + i := w32_id (by omega) (by omega)
  have w3 : 0 ≤ 100 * s + i := by omega
  have w4 : 100 * s + i < 800 := by omega
  simp only [p148_0, p148_1, p148_4, p148_6, p148_7, p148_8, p148_9, p148_10, p148_11, p148_12, K_70, K_82, L_82, sh_70_13 S, w1, w2, w3, w4, b2_T, b2_F, Int.reduceEq, Int.reduceLT, Int.reduceLE, Int.reduceAdd, Int.reduceSub, Int.reduceMul, Int.reduceNeg, reduceIte, if_true, if_false, true_or, or_true, false_or, or_false, false_and, and_false, eq_self, not_false_eq_true, not_true_eq_false, true_and, and_true, List.cons_append, List.nil_append, List.append_nil, b2_0, b2_1, b2_01, Classical.not_not]
/-- the class's loop -/
theorem e79l (hn : 0 ≤ n ∧ n ≤ 100) (R : RA (dsB ++ tl) m r n) (ra : m r 1 = r + 1) (hr : 114 ≤ r) (hE : ∀ k, 0 ≤ k → k < n → ji (m (r + 1) k) = E k) : ∀ (f : Nat) (i : Int) (X g : Mm), 0 ≤ i → i + 4 * f = n → WG g → Sh X → PR X 18 g → ZP X 18 → (∀ x j, ¬ (18 ≤ x ∧ x ≤ 26) → X x j = m x j) → (∃ X' g', psG E f i g = some g' ∧ WG g' ∧ Sh X' ∧ PR X' 18 g' ∧ ZP X' 18 ∧ (∀ x j, ¬ (18 ≤ x ∧ x ≤ 26) → X' x j = m x j) ∧ ∀ Q, WP 79 52 [(2, 0), (0, s), (2, r), (0, n), (0, i)] [] (dsB ++ tl) X Q = WP 79 108 [(2, 0), (0, s), (2, r), (0, n), (0, n)] [] (dsB ++ tl) X' Q) ∨ (psG E f i g = none ∧ ∃ X', Sh X' ∧ (∀ x j, ¬ (18 ≤ x ∧ x ≤ 26) → X' x j = m x j) ∧ ∀ Q, WP 79 52 [(2, 0), (0, s), (2, r), (0, n), (0, i)] [] (dsB ++ tl) X Q = Q (dsB ++ tl) (rf X' 3 6) [(0, -6)]) := by
  intro f
  induction f with
  | zero =>
    intro i X g h0 h1 W S P z F
    have hi : i = n := by omega
    subst hi
    refine Or.inl ⟨X, g, rfl, W, S, P, z, F, fun Q => ?_⟩
    simp only [p79_52, p79_54, p79_55, b2_T, b2_F, Int.reduceEq, Int.reduceLT, Int.reduceLE, Int.reduceAdd, Int.reduceSub, Int.reduceMul, Int.reduceNeg, reduceIte, if_true, if_false, true_or, or_true, false_or, or_false, false_and, and_false, eq_self, not_false_eq_true, not_true_eq_false, true_and, and_true, List.cons_append, List.nil_append, List.append_nil, b2_0, b2_1, b2_01, Classical.not_not, Int.lt_irrefl]
  | succ f ih =>
    intro i X g h0 h1 W S P z F
    have n1 : i < n := by omega
    have w1 : w32 (i + 1) = i + 1 := w32_id (by omega) (by omega)
    have w2 : w32 (i + 2) = i + 2 := w32_id (by omega) (by omega)
    have w3 : w32 (i + 3) = i + 3 := w32_id (by omega) (by omega)
    have w4 : w32 (i + 4) = i + 4 := w32_id (by omega) (by omega)
    have RX : RA (dsB ++ tl) X r n := by
      unfold RA at R ⊢
      rw [F r 1 (by omega)]
      exact R
    have yE : ∀ k, 0 ≤ k → k < n → ∀ Q, WP 48 0 [(2, r), (0, k)] [] (dsB ++ tl) X Q = Q (dsB ++ tl) X [(0, E k)] := fun k k0 k1 Q => by
      rw [e48 RX hn (by omega), if_pos ⟨k0, k1⟩, F r 1 (by omega), ra, F (r + 1) k (by omega), hE k k0 k1]
    have y0 := yE i h0 n1
    have y1 := yE (i + 1) (by omega) (by omega)
    have y2 := yE (i + 2) (by omega) (by omega)
    have y3 := yE (i + 3) (by omega) (by omega)
    rw [psG_s]
    by_cases ht : tkP g 72 76 (E i) (E (i + 1)) (E (i + 2)) (E (i + 3))
    · rw [if_pos ht]
      have y98 := fun (Q : Ds → Mm → List MV → Prop) => e98y (tl := tl) (Q := Q) S ((tkP_pr P).2 ht)
      have st : ∀ Q, WP 79 52 [(2, 0), (0, s), (2, r), (0, n), (0, i)] [] (dsB ++ tl) X Q = WP 79 52 [(2, 0), (0, s), (2, r), (0, n), (0, i + 4)] [] (dsB ++ tl) (tkX X (E i) (E (i + 1)) (E (i + 2)) (E (i + 3))) Q := fun Q => by
        rw [p79_52]
        simp only [p79_54, p79_55, p79_58, p79_59, p79_60, p79_62, p79_65, p79_66, p79_68, p79_69, p79_70, p79_73, p79_74, p79_76, p79_77, p79_78, p79_81, p79_82, p79_84, p79_85, p79_86, p79_89, p79_92, p79_95, p79_96, p79_98, p79_101, p79_102, p79_105, K_0, K_3, L_3, sh_0_0 S, sh_0_1 S, sh_0_2 S, sh_0_3 S, sh_0_4 S, sh_0_5 S, sh_0_7 S, sh_0_8 S, sh_0_10 S, sh_0_12 S, sh_0_14 S, sh_0_15 S, RX.1, n1, w1, w2, w3, w4, y0, y1, y2, y3, y98, b2_T, b2_F, Int.reduceEq, Int.reduceLT, Int.reduceLE, Int.reduceAdd, Int.reduceSub, Int.reduceMul, Int.reduceNeg, reduceIte, if_true, if_false, true_or, or_true, false_or, or_false, false_and, and_false, eq_self, not_false_eq_true, not_true_eq_false, true_and, and_true, List.cons_append, List.nil_append, List.append_nil, b2_0, b2_1, b2_01, Classical.not_not]
      rcases ih (i + 4) _ _ (by omega) (by omega) (WG_cm W ht) (Sh_tk S) (PR_cm P ht) (ZP_tk z ht) (fun x j h => (tkX_f h).trans (F x j h)) with ⟨X', g', a1, a2, a3, a4, a5, a6, a7⟩ | ⟨a1, X', a2, a3, a4⟩
      · exact Or.inl ⟨X', g', a1, a2, a3, a4, a5, a6, fun Q => (st Q).trans (a7 Q)⟩
      · exact Or.inr ⟨a1, X', a2, a3, fun Q => (st Q).trans (a4 Q)⟩
    · rw [if_neg ht]
      have y98 := fun (Q : Ds → Mm → List MV → Prop) => e98n (tl := tl) (Q := Q) S (fun y => ht ((tkP_pr P).1 y))
      refine Or.inr ⟨rfl, X, S, F, fun Q => ?_⟩
      rw [p79_52]
      simp only [p79_54, p79_55, p79_58, p79_59, p79_60, p79_62, p79_65, p79_66, p79_68, p79_69, p79_70, p79_73, p79_74, p79_76, p79_77, p79_78, p79_81, p79_82, p79_84, p79_85, p79_86, p79_89, p79_92, p79_95, p79_96, p79_98, p79_101, p79_102, p79_105, K_0, K_3, L_3, sh_0_0 S, sh_0_1 S, sh_0_2 S, sh_0_3 S, sh_0_4 S, sh_0_5 S, sh_0_7 S, sh_0_8 S, sh_0_10 S, sh_0_12 S, sh_0_14 S, sh_0_15 S, RX.1, n1, w1, w2, w3, y0, y1, y2, y3, y98, e95 S (show -7 ≤ (-6 : Int) ∧ (-6 : Int) ≤ -1 by decide), b2_T, b2_F, Int.reduceEq, Int.reduceLT, Int.reduceLE, Int.reduceAdd, Int.reduceSub, Int.reduceMul, Int.reduceNeg, reduceIte, if_true, if_false, true_or, or_true, false_or, or_false, false_and, and_false, eq_self, not_false_eq_true, not_true_eq_false, true_and, and_true, List.cons_append, List.nil_append, List.append_nil, b2_0, b2_1, b2_01, Classical.not_not]
/-- the reference's loop -/
theorem e152l (hs : isH s) (hn : 0 ≤ n ∧ n ≤ 100) (h81 : G 81 s = n) (hE : ∀ k, 0 ≤ k → k < n → ji (G 82 (100 * s + k)) = E k) : ∀ (f : Nat) (i : Int) (Y : Mm), 0 ≤ i → i + 4 * f = n → WG Y → (∀ x j, ¬ (72 ≤ x ∧ x ≤ 76) → Y x j = G x j) → (∃ Y', psG E f i Y = some Y' ∧ WG Y' ∧ (∀ x j, ¬ (72 ≤ x ∧ x ≤ 76) → Y' x j = G x j) ∧ ∀ Q, WP 152 42 [(2, 70), (0, s), (0, 0), (0, 1), (0, i)] [] (dsB ++ tl) Y Q = WP 152 102 [(2, 70), (0, s), (0, 0), (0, 1), (0, n)] [] (dsB ++ tl) Y' Q) ∨ (psG E f i Y = none ∧ ∃ (Y' : Mm) (u : Int), Sh Y' ∧ (∀ x j, ¬ (72 ≤ x ∧ x ≤ 76) → Y' x j = G x j) ∧ ∀ Q, WP 152 42 [(2, 70), (0, s), (0, 0), (0, 1), (0, i)] [] (dsB ++ tl) Y Q = WP 152 102 [(2, 70), (0, s), (0, 0), (0, 0), (0, u)] [] (dsB ++ tl) Y' Q) := by
  intro f
  induction f with
  | zero =>
    intro i Y h0 h1 W F
    have hi : i = n := by omega
    have k81 : Y 81 s = n := (F 81 s (by decide)).trans h81
    rw [hi]
    have S := W.S
    refine Or.inl ⟨Y, rfl, W, F, fun Q => ?_⟩
    simp only [p152_42, p152_43, p152_46, p152_48, p152_49, p152_52, p152_53, p152_54, K_70, K_81, L_81, sh_70_12 S, hs.1, hs.2, k81, b2_T, b2_F, Int.reduceEq, Int.reduceLT, Int.reduceLE, Int.reduceAdd, Int.reduceSub, Int.reduceMul, Int.reduceNeg, reduceIte, if_true, if_false, true_or, or_true, false_or, or_false, false_and, and_false, eq_self, not_false_eq_true, not_true_eq_false, true_and, and_true, List.cons_append, List.nil_append, List.append_nil, b2_0, b2_1, b2_01, Classical.not_not, Int.lt_irrefl]
  | succ f ih =>
    intro i Y h0 h1 W F
    have S := W.S
    have n1 : i < n := by omega
    have k81 : Y 81 s = n := (F 81 s (by decide)).trans h81
    have w1 : w32 (i + 1) = i + 1 := w32_id (by omega) (by omega)
    have w2 : w32 (i + 2) = i + 2 := w32_id (by omega) (by omega)
    have w3 : w32 (i + 3) = i + 3 := w32_id (by omega) (by omega)
    have w4 : w32 (i + 4) = i + 4 := w32_id (by omega) (by omega)
    have yE : ∀ k, 0 ≤ k → k < n → ∀ Q, WP 148 0 [(2, 70), (0, s), (0, k)] [] (dsB ++ tl) Y Q = Q (dsB ++ tl) Y [(0, E k)] := fun k k0 k1 Q => by
      rw [e148 S hs ⟨k0, by omega⟩, F 82 _ (by decide), hE k k0 k1]
    have y0 := yE i h0 n1
    have y1 := yE (i + 1) (by omega) (by omega)
    have y2 := yE (i + 2) (by omega) (by omega)
    have y3 := yE (i + 3) (by omega) (by omega)
    rw [psG_s]
    by_cases ht : tkP Y 72 76 (E i) (E (i + 1)) (E (i + 2)) (E (i + 3))
    · rw [if_pos ht]
      have y151 := fun (Q : Ds → Mm → List MV → Prop) => e151y (tl := tl) (Q := Q) S ht
      have st : ∀ Q, WP 152 42 [(2, 70), (0, s), (0, 0), (0, 1), (0, i)] [] (dsB ++ tl) Y Q = WP 152 42 [(2, 70), (0, s), (0, 0), (0, 1), (0, i + 4)] [] (dsB ++ tl) (cmG Y (E i) (E (i + 1)) (E (i + 2)) (E (i + 3))) Q := fun Q => by
        rw [p152_42]
        simp only [p152_43, p152_46, p152_48, p152_49, p152_52, p152_53, p152_54, p152_57, p152_58, p152_59, p152_60, p152_62, p152_65, p152_66, p152_67, p152_69, p152_70, p152_71, p152_74, p152_75, p152_76, p152_78, p152_79, p152_80, p152_83, p152_84, p152_85, p152_87, p152_88, p152_89, p152_92, p152_95, p152_96, p152_99, K_70, K_81, L_81, sh_70_12 S, hs.1, hs.2, k81, n1, w1, w2, w3, w4, y0, y1, y2, y3, y151, b2_T, b2_F, Int.reduceEq, Int.reduceLT, Int.reduceLE, Int.reduceAdd, Int.reduceSub, Int.reduceMul, Int.reduceNeg, reduceIte, if_true, if_false, true_or, or_true, false_or, or_false, false_and, and_false, eq_self, not_false_eq_true, not_true_eq_false, true_and, and_true, List.cons_append, List.nil_append, List.append_nil, b2_0, b2_1, b2_01, Classical.not_not]
      rcases ih (i + 4) _ (by omega) (by omega) (WG_cm W ht) (fun x j h => (cmG_f h).trans (F x j h)) with ⟨Y', a1, a2, a3, a4⟩ | ⟨a1, Y', u, a2, a3, a4⟩
      · exact Or.inl ⟨Y', a1, a2, a3, fun Q => (st Q).trans (a4 Q)⟩
      · exact Or.inr ⟨a1, Y', u, a2, a3, fun Q => (st Q).trans (a4 Q)⟩
    · rw [if_neg ht]
      obtain ⟨Y', b1, b2', b3⟩ := e151n S ht
      refine Or.inr ⟨rfl, Y', i + 4, b1, fun x j h => (b2' x j h).trans (F x j h), fun Q => ?_⟩
      have y151 := b3 tl
      rw [p152_42]
      simp only [p152_43, p152_46, p152_48, p152_49, p152_52, p152_53, p152_54, p152_57, p152_58, p152_59, p152_60, p152_62, p152_65, p152_66, p152_67, p152_69, p152_70, p152_71, p152_74, p152_75, p152_76, p152_78, p152_79, p152_80, p152_83, p152_84, p152_85, p152_87, p152_88, p152_89, p152_92, p152_95, p152_96, p152_99, K_70, K_81, L_81, sh_70_12 S, hs.1, hs.2, k81, n1, w1, w2, w3, w4, y0, y1, y2, y3, y151, b2_T, b2_F, Int.reduceEq, Int.reduceLT, Int.reduceLE, Int.reduceAdd, Int.reduceSub, Int.reduceMul, Int.reduceNeg, reduceIte, if_true, if_false, true_or, or_true, false_or, or_false, false_and, and_false, eq_self, not_false_eq_true, not_true_eq_false, true_and, and_true, List.cons_append, List.nil_append, List.append_nil, b2_0, b2_1, b2_01, Classical.not_not]
      rw [p152_42]
      simp only [p152_43, b2_T, b2_F, Int.reduceEq, Int.reduceLT, Int.reduceLE, Int.reduceAdd, Int.reduceSub, Int.reduceMul, Int.reduceNeg, reduceIte, if_true, if_false, true_or, or_true, false_or, or_false, false_and, and_false, eq_self, not_false_eq_true, not_true_eq_false, true_and, and_true, List.cons_append, List.nil_append, List.append_nil, b2_0, b2_1, b2_01, Classical.not_not]
end PUTS
