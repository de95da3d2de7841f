/-! fewest: what is looked for; the class's small methods -/
def chK (n : Int) : Int := if n % 6 < 2 then 1 else 2
def chA (n : Int) : Int := if n % 6 < 2 then n % 6 else n % 6 - 2
def chL (g : Mm) (n : Int) : Mm := ly g (n / 6) (chK n) (chA n) 0
def chC (n : Int) : Int := 100 * (n / 6) + 10 * chK n + chA n
def LO (g : Mm) (c : Int) : Int := mRuns g 1 109 (96 * 1 + c)
abbrev fre6 (g : Mm) (n : Int) : Prop := g 72 (n / 6) = 0 ∧ g 76 (n / 6) = 0
abbrev cnd (g : Mm) (n : Int) : Prop := ¬ LO g (n / 6) = 0 ∧ fre6 g n
def srch (g : Mm) (bell tick : Int) : Nat → Int → Int
  | 0, _ => -1
  | f + 1, n => if cnd g n ∧ MT (chL g n) bell tick then n else srch g bell tick f (n + 1)
def FO (g : Mm) (bell tick : Int) : Int := srch g bell tick 576 0
def srch2 (g : Mm) (bell tick : Int) : Nat → Int → Int
  | 0, _ => -1
  | f + 1, n => if cnd g n ∧ ¬ FO (chL g n) bell tick = -1 then n else srch2 g bell tick f (n + 1)
def FT (m X : Mm) : Prop := ∀ x j, ¬ (18 ≤ x ∧ x ≤ 33) → ¬ (52 ≤ x ∧ x ≤ 69) → X x j = m x j
def LA (X : Mm) (A : Int) (g : Mm) : Prop := ∀ c, isC c → X A c = LO g c
section FEWEST
variable {tl : Ds} {m X Y Z g h : Mm} {Q : Ds → Mm → List MV → Prop} {p q c k a b s o t v i j d A f bell tick n : Int}
theorem srch_s (f : Nat) : srch g bell tick (f + 1) n = if cnd g n ∧ MT (chL g n) bell tick then n else srch g bell tick f (n + 1) := rfl
theorem FT_refl : FT m m := fun _ _ _ _ => rfl
theorem FT_tr (h1 : FT m X) (h2 : FT X Y) : FT m Y := fun x j a b => (h2 x j a b).trans (h1 x j a b)
theorem FT_W (h : FW m X 52) : FT m X := fun x j a b => h x j (by omega) (by omega)
theorem FT_18 (h : ∀ x j, ¬ (18 ≤ x ∧ x ≤ 26) → X x j = m x j) : FT m X := fun x j a b => h x j (by omega)
theorem LA_FT (h : LA X A g) (F : FT X Y) (hA : A = 7 ∨ A = 8) : LA Y A g := fun c hc => by
  rw [F A c (by omega) (by omega)]
  exact h c hc
theorem n6 (h : 0 ≤ n ∧ n < 576) : isC (n / 6) := ⟨by omega, by omega⟩
theorem chK_r : chK n = 1 ∨ chK n = 2 := by
  unfold chK
  split
  · exact Or.inl rfl
  · exact Or.inr rfl
theorem ch_can : canP (chK n) (chA n) 0 0 0 := by
  unfold chK chA
  by_cases h : n % 6 < 2
  · simp only [if_pos h]
    refine ⟨⟨by decide, by decide, by decide⟩, fun _ => ⟨by omega, by omega⟩, fun y => absurd y (by decide), fun y => absurd y (by decide), fun y => absurd y (by decide), fun y => absurd y (by decide), rfl, Or.inl rfl⟩
  · simp only [if_neg h]
    refine ⟨⟨by decide, by decide, by decide⟩, fun y => absurd y (by decide), fun _ => ⟨by omega, by omega⟩, fun y => absurd y (by decide), fun y => absurd y (by decide), fun y => absurd y (by decide), rfl, Or.inl rfl⟩
theorem WG_ch (W : WG g) (hn : 0 ≤ n ∧ n < 576) (h6 : fre6 g n) : WG (chL g n) := WG_ly W (n6 hn) (by rw [h6.1, h6.2]; exact ch_can) h6
theorem LO_pe (W : WG g) (W2 : WG h) (E : PE g h) (hc : isC c) : LO h c = LO g c := lost_det W2 W (PE_symm E) (by decide) (by decide) hc
theorem cnd_pe (W : WG g) (W2 : WG h) (E : PE g h) (hn : 0 ≤ n ∧ n < 576) : cnd h n ↔ cnd g n := by
  unfold cnd fre6
  rw [LO_pe W W2 E (n6 hn), E.k _ (n6 hn), E.b _ (n6 hn)]
theorem srch_pe (W : WG g) (W2 : WG h) (E : PE g h) : ∀ (f : Nat) (n : Int), 0 ≤ n → n + f ≤ 576 → srch h bell tick f n = srch g bell tick f n := by
  intro f
  induction f with
  | zero => exact fun _ _ _ => rfl
  | succ f ih =>
    intro n h0 h1
    have hn : 0 ≤ n ∧ n < 576 := ⟨h0, by omega⟩
    have ih1 := ih (n + 1) (by omega) (by omega)
    have cp := cnd_pe W W2 E hn
    by_cases hc : cnd g n
    · have hc2 := cp.2 hc
      have mp : MT (chL g n) bell tick ↔ MT (chL h n) bell tick := met_det (WG_ch W hn hc.2) (WG_ch W2 hn hc2.2) (PE_ly E) (by decide) (by decide)
      by_cases hm : MT (chL g n) bell tick
      · have e1 : srch g bell tick (f + 1) n = n := by
          rw [srch_s]
          exact if_pos ⟨hc, hm⟩
        have e2 : srch h bell tick (f + 1) n = n := by
          rw [srch_s]
          exact if_pos ⟨hc2, mp.1 hm⟩
        rw [e1, e2]
      · have e1 : srch g bell tick (f + 1) n = srch g bell tick f (n + 1) := by
          rw [srch_s]
          exact if_neg (fun y => hm y.2)
        have e2 : srch h bell tick (f + 1) n = srch h bell tick f (n + 1) := by
          rw [srch_s]
          exact if_neg (fun y => hm (mp.2 y.2))
        rw [e1, e2, ih1]
    · have e1 : srch g bell tick (f + 1) n = srch g bell tick f (n + 1) := by
        rw [srch_s]
        exact if_neg (fun y => hc y.1)
      have e2 : srch h bell tick (f + 1) n = srch h bell tick f (n + 1) := by
        rw [srch_s]
        exact if_neg (fun y => hc (cp.1 y.1))
      rw [e1, e2, ih1]
theorem FO_pe (W : WG g) (W2 : WG h) (E : PE g h) : FO h bell tick = FO g bell tick := by
  unfold FO
  exact srch_pe W W2 E 576 0 (by omega) (by omega)
theorem srch_b : ∀ (f : Nat) (n : Int), 0 ≤ n → srch g bell tick f n = -1 ∨ (n ≤ srch g bell tick f n ∧ srch g bell tick f n < n + f) := by
  intro f
  induction f with
  | zero => exact fun _ _ => Or.inl rfl
  | succ f ih =>
    intro n h0
    rw [srch_s]
    split
    · right
      clear ih
      rename_i hh
      clear hh
      omega
    · rcases ih (n + 1) (by omega) with y | y
      · exact Or.inl y
      · rename_i hh
        clear hh
        right
        omega
theorem FO_b : FO g bell tick = -1 ∨ (0 ≤ FO g bell tick ∧ FO g bell tick < 576) := by
  unfold FO
  have h := srch_b (g := g) (bell := bell) (tick := tick) 576 0 (by omega)
  generalize srch g bell tick 576 0 = z at h ⊢
  omega
theorem LO_01 (W : WG g) (hc : isC c) : LO g c = 0 ∨ LO g c = 1 := by
  obtain ⟨t, h1, h2, h3, h4, h5⟩ := (mruns_f W.S W.p W.v (w := 1) (by decide)).2.2
  have e : LO g c = t 109 (96 * 1 + c) := by
    unfold LO
    rw [h1]
    unfold mStop
    rw [up_at, if_neg (fun y => absurd y.1 (by decide)), up_at, if_neg (fun y => absurd y.1 (by decide))]
  rw [e]
  have := h3.lo c hc
  rw [h4] at this
  exact this
theorem e105 {ds : Ds} (hn : 0 ≤ n ∧ n < 576) : WP 105 0 [(0, n)] [] ds m Q = Q ds m [(0, chK n)] := by
  have j1 : jrem n 6 = n % 6 := jrem_nn hn.1 (by omega) (by omega) (by omega)
  unfold chK
  by_cases h : n % 6 < 2
  · simp only [p105_0, p105_1, p105_3, p105_4, p105_5, p105_8, p105_9, p105_12, p105_13, j1, h, b2_T, b2_F, Int.reduceEq, Int.reduceLT, Int.reduceLE, Int.reduceAdd, Int.reduceSub, Int.reduceMul, Int.reduceNeg, reduceIte, if_true, if_false, true_or, or_true, false_or, or_false, false_and, and_false, eq_self, not_false_eq_true, not_true_eq_false, true_and, and_true, List.cons_append, List.nil_append, List.append_nil, b2_0, b2_1, b2_01, Classical.not_not]
  · simp only [p105_0, p105_1, p105_3, p105_4, p105_5, p105_8, p105_9, p105_12, p105_13, j1, h, b2_T, b2_F, Int.reduceEq, Int.reduceLT, Int.reduceLE, Int.reduceAdd, Int.reduceSub, Int.reduceMul, Int.reduceNeg, reduceIte, if_true, if_false, true_or, or_true, false_or, or_false, false_and, and_false, eq_self, not_false_eq_true, not_true_eq_false, true_and, and_true, List.cons_append, List.nil_append, List.append_nil, b2_0, b2_1, b2_01, Classical.not_not]
theorem e106 {ds : Ds} (hn : 0 ≤ n ∧ n < 576) : WP 106 0 [(0, n), (3, 0)] [] ds m Q = Q ds m [(0, chA n)] := by
  have j1 : jrem n 6 = n % 6 := jrem_nn hn.1 (by omega) (by omega) (by omega)
  have w1 : w32 (n % 6 - 2) = n % 6 - 2 := w32_id (by omega) (by omega)
  unfold chA
  by_cases h : n % 6 < 2
  · simp only [p106_0, p106_1, p106_3, p106_4, p106_5, p106_6, p106_7, p106_10, p106_11, p106_14, p106_15, p106_16, p106_17, j1, h, b2_T, b2_F, Int.reduceEq, Int.reduceLT, Int.reduceLE, Int.reduceAdd, Int.reduceSub, Int.reduceMul, Int.reduceNeg, reduceIte, if_true, if_false, true_or, or_true, false_or, or_false, false_and, and_false, eq_self, not_false_eq_true, not_true_eq_false, true_and, and_true, List.cons_append, List.nil_append, List.append_nil, b2_0, b2_1, b2_01, Classical.not_not]
  · simp only [p106_0, p106_1, p106_3, p106_4, p106_5, p106_6, p106_7, p106_10, p106_11, p106_14, p106_15, p106_16, p106_17, j1, h, w1, b2_T, b2_F, Int.reduceEq, Int.reduceLT, Int.reduceLE, Int.reduceAdd, Int.reduceSub, Int.reduceMul, Int.reduceNeg, reduceIte, if_true, if_false, true_or, or_true, false_or, or_false, false_and, and_false, eq_self, not_false_eq_true, not_true_eq_false, true_and, and_true, List.cons_append, List.nil_append, List.append_nil, b2_0, b2_1, b2_01, Classical.not_not]
theorem n_1011 : ((10 : Nat) ≤ 11 ∧ (11 : Nat) ≤ 14) = True := eq_true (by decide)
theorem e103 (S : Sh X) (hA : A = 7 ∨ A = 8) (hn : 0 ≤ n ∧ n < 576) : WP 103 0 [(2, 0), (2, A), (0, n), (3, 0)] [] (dsB ++ tl) X Q = if ¬ X A (n / 6) = 0 ∧ (X 19 (n / 6) = 0 ∧ X 23 (n / 6) = 0) then Q (dsB ++ tl) (plc X 18 (n / 6) (chK n) (chA n) 0) [(0, 1)] else Q (dsB ++ tl) X [(0, 0)] := by
  have cc := n6 hn
  have c0 := cc.1
  have c1 := cc.2
  have j1 : jdiv n 6 = n / 6 := jdiv_nn hn.1 (by omega) (by omega) (by omega)
  have nl : ¬ n / 6 < 0 := by omega
  have p18 := PA_18 (tl := tl) S
  have e29' := fun (Q : Ds → Mm → List MV → Prop) => e29 (c := n / 6) (Q := Q) p18
  have e34' := fun (Q : Ds → Mm → List MV → Prop) => e34 (c := n / 6) (k := chK n) (a := chA n) (b := 0) (Q := Q) p18
  simp only [if_pos cc, Int.reduceAdd] at e29' e34'
  by_cases h1 : X A (n / 6) = 0
  · rw [if_neg (fun y => y.1 h1)]
    rcases hA with rfl | rfl
    · simp only [p103_0, p103_1, p103_3, p103_4, p103_5, p103_6, p103_9, p103_10, p103_11, p103_12, p103_15, p103_16, p103_17, p103_18, p103_21, p103_22, p103_25, p103_26, p103_29, p103_32, p103_33, p103_34, p103_35, p103_38, p103_39, p103_40, p103_43, p103_44, p103_47, p103_48, p103_51, p103_52, j1, nl, K_7, L_7, n_1011, c0, c1, h1, b2_T, b2_F, Int.reduceEq, Int.reduceLT, Int.reduceLE, Int.reduceAdd, Int.reduceSub, Int.reduceMul, Int.reduceNeg, reduceIte, if_true, if_false, true_or, or_true, false_or, or_false, false_and, and_false, eq_self, not_false_eq_true, not_true_eq_false, true_and, and_true, List.cons_append, List.nil_append, List.append_nil, b2_0, b2_1, b2_01, Classical.not_not]
    · simp only [p103_0, p103_1, p103_3, p103_4, p103_5, p103_6, p103_9, p103_10, p103_11, p103_12, p103_15, p103_16, p103_17, p103_18, p103_21, p103_22, p103_25, p103_26, p103_29, p103_32, p103_33, p103_34, p103_35, p103_38, p103_39, p103_40, p103_43, p103_44, p103_47, p103_48, p103_51, p103_52, j1, nl, K_8, L_8, n_1011, c0, c1, h1, b2_T, b2_F, Int.reduceEq, Int.reduceLT, Int.reduceLE, Int.reduceAdd, Int.reduceSub, Int.reduceMul, Int.reduceNeg, reduceIte, if_true, if_false, true_or, or_true, false_or, or_false, false_and, and_false, eq_self, not_false_eq_true, not_true_eq_false, true_and, and_true, List.cons_append, List.nil_append, List.append_nil, b2_0, b2_1, b2_01, Classical.not_not]
  · by_cases h2 : X 19 (n / 6) = 0 ∧ X 23 (n / 6) = 0
    · rw [if_pos ⟨h1, h2⟩]
      have y29 : (0 ≤ n / 6 ∧ n / 6 < 96) ∧ X 19 (n / 6) = 0 ∧ X 23 (n / 6) = 0 := ⟨cc, h2⟩
      simp only [b2_t y29] at e29'
      rcases hA with rfl | rfl
      · simp only [p103_0, p103_1, p103_3, p103_4, p103_5, p103_6, p103_9, p103_10, p103_11, p103_12, p103_15, p103_16, p103_17, p103_18, p103_21, p103_22, p103_25, p103_26, p103_29, p103_32, p103_33, p103_34, p103_35, p103_38, p103_39, p103_40, p103_43, p103_44, p103_47, p103_48, p103_51, p103_52, j1, nl, K_0, K_7, L_7, K_18, sh_0_1 S, n_1011, c0, c1, h1, e29', e105 hn, e106 hn, e34', b2_T, b2_F, Int.reduceEq, Int.reduceLT, Int.reduceLE, Int.reduceAdd, Int.reduceSub, Int.reduceMul, Int.reduceNeg, reduceIte, if_true, if_false, true_or, or_true, false_or, or_false, false_and, and_false, eq_self, not_false_eq_true, not_true_eq_false, true_and, and_true, List.cons_append, List.nil_append, List.append_nil, b2_0, b2_1, b2_01, Classical.not_not]
      · simp only [p103_0, p103_1, p103_3, p103_4, p103_5, p103_6, p103_9, p103_10, p103_11, p103_12, p103_15, p103_16, p103_17, p103_18, p103_21, p103_22, p103_25, p103_26, p103_29, p103_32, p103_33, p103_34, p103_35, p103_38, p103_39, p103_40, p103_43, p103_44, p103_47, p103_48, p103_51, p103_52, j1, nl, K_0, K_8, L_8, K_18, sh_0_1 S, n_1011, c0, c1, h1, e29', e105 hn, e106 hn, e34', b2_T, b2_F, Int.reduceEq, Int.reduceLT, Int.reduceLE, Int.reduceAdd, Int.reduceSub, Int.reduceMul, Int.reduceNeg, reduceIte, if_true, if_false, true_or, or_true, false_or, or_false, false_and, and_false, eq_self, not_false_eq_true, not_true_eq_false, true_and, and_true, List.cons_append, List.nil_append, List.append_nil, b2_0, b2_1, b2_01, Classical.not_not]
    · rw [if_neg (fun y => h2 y.2)]
      have y29 : ¬ ((0 ≤ n / 6 ∧ n / 6 < 96) ∧ X 19 (n / 6) = 0 ∧ X 23 (n / 6) = 0) := fun y => h2 y.2
      simp only [b2_f y29] at e29'
      rcases hA with rfl | rfl
      · simp only [p103_0, p103_1, p103_3, p103_4, p103_5, p103_6, p103_9, p103_10, p103_11, p103_12, p103_15, p103_16, p103_17, p103_18, p103_21, p103_22, p103_25, p103_26, p103_29, p103_32, p103_33, p103_34, p103_35, p103_38, p103_39, p103_40, p103_43, p103_44, p103_47, p103_48, p103_51, p103_52, j1, nl, K_0, K_7, L_7, K_18, sh_0_1 S, n_1011, c0, c1, h1, e29', b2_T, b2_F, Int.reduceEq, Int.reduceLT, Int.reduceLE, Int.reduceAdd, Int.reduceSub, Int.reduceMul, Int.reduceNeg, reduceIte, if_true, if_false, true_or, or_true, false_or, or_false, false_and, and_false, eq_self, not_false_eq_true, not_true_eq_false, true_and, and_true, List.cons_append, List.nil_append, List.append_nil, b2_0, b2_1, b2_01, Classical.not_not]
      · simp only [p103_0, p103_1, p103_3, p103_4, p103_5, p103_6, p103_9, p103_10, p103_11, p103_12, p103_15, p103_16, p103_17, p103_18, p103_21, p103_22, p103_25, p103_26, p103_29, p103_32, p103_33, p103_34, p103_35, p103_38, p103_39, p103_40, p103_43, p103_44, p103_47, p103_48, p103_51, p103_52, j1, nl, K_0, K_8, L_8, K_18, sh_0_1 S, n_1011, c0, c1, h1, e29', b2_T, b2_F, Int.reduceEq, Int.reduceLT, Int.reduceLE, Int.reduceAdd, Int.reduceSub, Int.reduceMul, Int.reduceNeg, reduceIte, if_true, if_false, true_or, or_true, false_or, or_false, false_and, and_false, eq_self, not_false_eq_true, not_true_eq_false, true_and, and_true, List.cons_append, List.nil_append, List.append_nil, b2_0, b2_1, b2_01, Classical.not_not]
theorem e104 (S : Sh m) (h0 : 0 ≤ m 0 13 ∧ m 0 13 < 2) (hn : 0 ≤ n ∧ n < 576) : WP 104 0 [(2, 0), (0, n)] [] (dsB ++ tl) m Q = Q (dsB ++ tl) (up (up m 6 (m 0 13) (chC n)) 0 13 (m 0 13 + 1)) [] := by
  have a0 := h0.1
  have a1 := h0.2
  have kr := chK_r (n := n)
  have ar : 0 ≤ chA n ∧ chA n < 6 := by
    unfold chA
    split <;> omega
  have j1 : jdiv n 6 = n / 6 := jdiv_nn hn.1 (by omega) (by omega) (by omega)
  have w1 : w32 (m 0 13 + 1) = m 0 13 + 1 := w32_id (by omega) (by omega)
  have w2 : w32 (100 * (n / 6)) = 100 * (n / 6) := w32_id (by omega) (by omega)
  have w3 : w32 (10 * chK n) = 10 * chK n := w32_id (by omega) (by omega)
  have w4 : w32 (100 * (n / 6) + 10 * chK n) = 100 * (n / 6) + 10 * chK n := w32_id (by omega) (by omega)
  have w5 : w32 (100 * (n / 6) + 10 * chK n + chA n) = 100 * (n / 6) + 10 * chK n + chA n := w32_id (by omega) (by omega)
  unfold chC
  simp only [p104_0, p104_1, p104_4, p104_5, p104_8, p104_9, p104_12, p104_13, p104_16, p104_17, p104_20, p104_22, p104_23, p104_25, p104_26, p104_27, p104_29, p104_30, p104_33, p104_34, p104_35, p104_36, p104_39, p104_40, p104_41, p104_42, p104_43, p104_46, p104_47, p104_48, p104_51, K_0, K_6, L_6, sh_0_12 S, a0, a1, j1, e105 hn, e106 hn, w1, w2, w3, w4, w5, n_1010, up_at, b2_T, b2_F, Int.reduceEq, Int.reduceLT, Int.reduceLE, Int.reduceAdd, Int.reduceSub, Int.reduceMul, Int.reduceNeg, reduceIte, if_true, if_false, true_or, or_true, false_or, or_false, false_and, and_false, eq_self, not_false_eq_true, not_true_eq_false, true_and, and_true, List.cons_append, List.nil_append, List.append_nil, b2_0, b2_1, b2_01, Classical.not_not]
end FEWEST
