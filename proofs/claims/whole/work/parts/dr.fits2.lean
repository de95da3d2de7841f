/-! fits: the class's side -/
section FITS2
variable {tl : Ds} {m X Y g h : Mm} {Q : Ds → Mm → List MV → Prop} {p q c k a b s o t v i j d A f bell tick : Int}
theorem lt_ne {x y : Int} (h : x < y + 1) (h2 : ¬ x = y) : x < y := by omega
def ix (k a b : Int) : Nat := (160 * (k - 1) + 10 * a + b).toNat
theorem ix_d (hk : 1 ≤ k ∧ k ≤ 9) (ha : 0 ≤ a ∧ a ≤ 15) (hb : 0 ≤ b ∧ b ≤ 9) : (ix k a b : Int) / 160 + 1 = k ∧ (ix k a b : Int) % 160 / 10 = a ∧ (ix k a b : Int) % 10 = b ∧ ix k a b < 1440 ∧ ix k a (b + 1) = ix k a b + 1 := by
  unfold ix
  omega
theorem ft_ix (hk : 1 ≤ k ∧ k ≤ 9) (ha : 0 ≤ a ∧ a ≤ 15) (hb : 0 ≤ b ∧ b ≤ 9) : ftR g c bell tick (ix k a (b + 1)) = if ftP g c bell tick k a b then ((ftR g c bell tick (ix k a b)).1 + 1, fun i => if i = (ftR g c bell tick (ix k a b)).1 then 1000 * k + 10 * a + b else (ftR g c bell tick (ix k a b)).2 i) else ftR g c bell tick (ix k a b) := by
  have d := ix_d hk ha hb
  rw [d.2.2.2.2, ftR_s, d.1, d.2.1, d.2.2.1]
/-- one piece -/
theorem fit_1 (W : WG g) (hc : isC c) (h6 : g 72 c = 0 ∧ g 76 c = 0) (hk : 1 ≤ k ∧ k ≤ 9) (ha : 0 ≤ a ∧ a ≤ mstA k) (hb : lsB k ≤ b ∧ b ≤ msB k) (S : Sh X) (P : PR X 18 g) (L : LSq X 5 (X 0 11) (ftR g c bell tick (ix k a b))) : ∃ X', Sh X' ∧ PR X' 18 g ∧ FC X X' 5 11 ∧ LSq X' 5 (X' 0 11) (ftR g c bell tick (ix k a (b + 1))) ∧ ∀ (tl : Ds) (Q : Ds → Mm → List MV → Prop), WP 91 92 [(2, 0), (0, c), (0, bell), (0, tick), (0, k), (0, a), (0, b)] [] (dsB ++ tl) X Q = WP 91 92 [(2, 0), (0, c), (0, bell), (0, tick), (0, k), (0, a), (0, b + 1)] [] (dsB ++ tl) X' Q := by
  have a15 : 0 ≤ a ∧ a ≤ 15 := by
    unfold mstA at ha
    omega
  have b9 : 0 ≤ b ∧ b ≤ 9 := by
    unfold lsB msB at hb
    omega
  have w1 : w32 (b + 1) = b + 1 := w32_id (by omega) (by omega)
  have e1 := ft_ix (g := g) (c := c) (bell := bell) (tick := tick) hk a15 b9
  have idx := ix_d hk a15 b9
  have wb := ftR_b (g := g) (c := c) (bell := bell) (tick := tick) (ix k a b)
  have p18 := fun tl => PA_18 (tl := tl) S
  have kc := P.k c hc
  have bc := P.b c hc
  simp only [Int.reduceAdd] at kc bc
  rw [h6.1] at kc
  rw [h6.2] at bc
  have ok := can_ok ha hb hk
  have e32' := fun (tl : Ds) (Q : Ds → Mm → List MV → Prop) => e32 (c := c) (k := k) (a := a) (b := b) (Q := Q) (p18 tl)
  have e118' := fun (ds : Ds) (m : Mm) (Q : Ds → Mm → List MV → Prop) => e118 (ds := ds) (m := m) (Q := Q) (c := k)
  simp only [Int.reduceAdd, kc, bc] at e32'
  have nb : ¬ msB k < b := by have := hb.2; omega
  by_cases hO : okF k a b
  · have hC : canP k a b 0 0 := ok.2 hO
    have y32 : (0 ≤ c ∧ c < 96) ∧ canP k a b 0 0 := ⟨hc, hC⟩
    simp only [b2_t y32] at e32'
    have h3 : ¬ k = 3 := hC.1.2.2
    have WG' : WG (ly g c k a b) := WG_ly W hc (by rw [h6.1, h6.2]; exact hC) h6
    have S1 : Sh (plc X 18 c k a b) := Sh_plc S
    have P1 : PR (plc X 18 c k a b) 18 (ly g c k a b) := PR_ly P hk h3
    obtain ⟨X3, S3, F3, _, h51⟩ := c51_52 (m := plc X 18 c k a b) (g := ly g c k a b) (w := 1) (p := 18) (Or.inr rfl) bell tick S1 WG'.S P1 WG'.p WG'.v (by decide)
    have P3 : PR X3 18 (ly g c k a b) := PR_m P1 (fun x j h1 h2 => F3 x j (by omega) (by omega))
    have e34' := fun (tl : Ds) (Q : Ds → Mm → List MV → Prop) => e34 (c := c) (k := k) (a := a) (b := b) (Q := Q) (p18 tl)
    simp only [if_pos hc] at e34'
    have f3 : FC X X3 5 11 := FC_tr (FC_18 (fun x j h => plc_f (by omega))) (FC_W F3)
    have f11 : X3 0 11 = X 0 11 := by
      rw [F3 0 11 (by decide) (by decide), plc_f (by decide)]
    have f5 : ∀ j, X3 5 j = X 5 j := fun j => by
      rw [F3 5 j (by decide) (by decide), plc_f (by decide)]
    by_cases hT : MT (ly g c k a b) bell tick
    · have hP : ftP g c bell tick k a b := ⟨hO, hT⟩
      rw [if_pos hP] at e1
      rw [e1]
      have cb0 := ftR_c (g := g) (c := c) (bell := bell) (tick := tick) idx.2.2.2.1 (by rw [idx.1, idx.2.1, idx.2.2.1]; exact hP)
      have cb : 0 ≤ X3 0 11 ∧ X3 0 11 < 62 := by
        rw [f11, L.1]
        exact ⟨wb.1, cb0⟩
      have S4 : Sh (up (up X3 5 (X3 0 11) (1000 * k + 10 * a + b)) 0 11 (X3 0 11 + 1)) := Sh.up (Sh_ar S3 (by decide)) (by decide)
      have P4 : PR (up (up X3 5 (X3 0 11) (1000 * k + 10 * a + b)) 0 11 (X3 0 11 + 1)) 18 (ly g c k a b) := PR_m P3 (fun x j h1 h2 => by rw [up_at, if_neg (by omega), up_at, if_neg (by omega)])
      refine ⟨clr (up (up X3 5 (X3 0 11) (1000 * k + 10 * a + b)) 0 11 (X3 0 11 + 1)) 18 c, Sh_clr S4, PR_pe (PR_clr P4 hc) (PE_symm (PE_off PE_refl hc h6)), ?_, ⟨?_, fun i i0 i1 => ?_⟩, fun tl Q => ?_⟩
      · intro x j y1 y2 y3 y4
        rw [clr_f (by omega), up_at, if_neg y4, up_at, if_neg (fun y => y3 y.1)]
        exact f3 x j y1 y2 y3 y4
      · rw [clr_f (by decide)]
        simp only [up_at, b2_T, b2_F, Int.reduceEq, Int.reduceLT, Int.reduceLE, Int.reduceAdd, Int.reduceSub, Int.reduceMul, Int.reduceNeg, reduceIte, if_true, if_false, true_or, or_true, false_or, or_false, false_and, and_false, eq_self, not_false_eq_true, not_true_eq_false, true_and, and_true, List.cons_append, List.nil_append, List.append_nil, b2_0, b2_1, b2_01, Classical.not_not]
        rw [f11, L.1]
      · have i1' : i < (ftR g c bell tick (ix k a b)).1 + 1 := i1
        show (clr (up (up X3 5 (X3 0 11) (1000 * k + 10 * a + b)) 0 11 (X3 0 11 + 1)) 18 c) 5 i = if i = (ftR g c bell tick (ix k a b)).1 then 1000 * k + 10 * a + b else (ftR g c bell tick (ix k a b)).2 i
        rw [clr_f (by decide), up_at, if_neg (fun y => absurd y.1 (by decide)), up_at, f11, L.1]
        by_cases hi : i = (ftR g c bell tick (ix k a b)).1
        · rw [if_pos ⟨rfl, hi⟩, if_pos hi]
        · rw [if_neg (fun y => hi y.2), if_neg hi, f5]
          exact L.2 i i0 (lt_ne i1' hi)
      · have y32' := e32' tl
        have y34 := e34' tl
        have y51 := h51 tl
        simp only [b2_t hT] at y51
        have y100 := fun (Q : Ds → Mm → List MV → Prop) => e100 (tl := tl) (Q := Q) (v := 1000 * k + 10 * a + b) S3 cb
        have y37 := fun (Q : Ds → Mm → List MV → Prop) => e37 (c := c) (Q := Q) (PA_18 (tl := tl) S4)
        have k1 := hk.1
        have k2 := hk.2
        have w2 : w32 (1000 * k) = 1000 * k := w32_id (by omega) (by omega)
        have w3 : w32 (10 * a) = 10 * a := w32_id (by omega) (by omega)
        have w4 : w32 (1000 * k + 10 * a) = 1000 * k + 10 * a := w32_id (by omega) (by omega)
        have w5 : w32 (1000 * k + 10 * a + b) = 1000 * k + 10 * a + b := w32_id (by omega) (by omega)
        rw [p91_92]
        simp only [p91_94, p91_96, p91_99, p91_102, p91_103, p91_106, p91_107, p91_109, p91_111, p91_113, p91_116, p91_119, p91_120, p91_123, p91_124, p91_126, p91_128, p91_130, p91_133, p91_134, p91_137, p91_138, p91_141, p91_142, p91_143, p91_146, p91_149, p91_150, p91_153, p91_155, p91_156, p91_158, p91_160, p91_161, p91_162, p91_164, p91_165, p91_168, p91_169, p91_172, p91_173, p91_176, p91_179, K_0, K_52, K_18, sh_0_1 S, sh_0_1 S1, sh_0_5 S1, sh_0_1 S4, e118', eq_false nb, y32', y34, y51, y100, y37, w1, w2, w3, w4, w5, b2_T, b2_F, Int.reduceEq, Int.reduceLT, Int.reduceLE, Int.reduceAdd, Int.reduceSub, Int.reduceMul, Int.reduceNeg, reduceIte, if_true, if_false, true_or, or_true, false_or, or_false, false_and, and_false, eq_self, not_false_eq_true, not_true_eq_false, true_and, and_true, List.cons_append, List.nil_append, List.append_nil, b2_0, b2_1, b2_01, Classical.not_not]
    · have hP : ¬ ftP g c bell tick k a b := fun y => hT y.2
      rw [if_neg hP] at e1
      rw [e1]
      refine ⟨clr X3 18 c, Sh_clr S3, PR_pe (PR_clr P3 hc) (PE_symm (PE_off PE_refl hc h6)), FC_tr f3 (FC_18 (fun x j h => clr_f (by omega))), ⟨by rw [clr_f (by decide), f11]; exact L.1, fun i i0 i1 => by rw [clr_f (by decide), f5]; exact L.2 i i0 i1⟩, fun tl Q => ?_⟩
      have y32' := e32' tl
      have y34 := e34' tl
      have y51 := h51 tl
      simp only [b2_f hT] at y51
      have y37 := fun (Q : Ds → Mm → List MV → Prop) => e37 (c := c) (Q := Q) (PA_18 (tl := tl) S3)
      rw [p91_92]
      simp only [p91_94, p91_96, p91_99, p91_102, p91_103, p91_106, p91_107, p91_109, p91_111, p91_113, p91_116, p91_119, p91_120, p91_123, p91_124, p91_126, p91_128, p91_130, p91_133, p91_134, p91_137, p91_138, p91_141, p91_142, p91_143, p91_146, p91_149, p91_150, p91_153, p91_155, p91_156, p91_158, p91_160, p91_161, p91_162, p91_164, p91_165, p91_168, p91_169, p91_172, p91_173, p91_176, p91_179, K_0, K_52, K_18, sh_0_1 S, sh_0_1 S1, sh_0_5 S1, sh_0_1 S3, e118', eq_false nb, y32', y34, y51, y37, w1, b2_T, b2_F, Int.reduceEq, Int.reduceLT, Int.reduceLE, Int.reduceAdd, Int.reduceSub, Int.reduceMul, Int.reduceNeg, reduceIte, if_true, if_false, true_or, or_true, false_or, or_false, false_and, and_false, eq_self, not_false_eq_true, not_true_eq_false, true_and, and_true, List.cons_append, List.nil_append, List.append_nil, b2_0, b2_1, b2_01, Classical.not_not]
  · have hP : ¬ ftP g c bell tick k a b := fun y => hO y.1
    rw [if_neg hP] at e1
    rw [e1]
    have y32 : ¬ ((0 ≤ c ∧ c < 96) ∧ canP k a b 0 0) := fun y => hO (ok.1 y.2)
    simp only [b2_f y32] at e32'
    refine ⟨X, S, P, FC_refl, L, fun tl Q => ?_⟩
    have y32' := e32' tl
    rw [p91_92]
    simp only [p91_94, p91_96, p91_99, p91_102, p91_103, p91_106, p91_107, p91_109, p91_111, p91_113, p91_116, p91_119, p91_120, p91_123, p91_124, p91_126, p91_128, p91_130, p91_133, p91_134, p91_137, p91_138, p91_141, p91_142, p91_143, p91_146, p91_149, p91_150, p91_153, p91_155, p91_156, p91_158, p91_160, p91_161, p91_162, p91_164, p91_165, p91_168, p91_169, p91_172, p91_173, p91_176, p91_179, K_0, K_18, sh_0_1 S, e118', eq_false nb, y32', w1, b2_T, b2_F, Int.reduceEq, Int.reduceLT, Int.reduceLE, Int.reduceAdd, Int.reduceSub, Int.reduceMul, Int.reduceNeg, reduceIte, if_true, if_false, true_or, or_true, false_or, or_false, false_and, and_false, eq_self, not_false_eq_true, not_true_eq_false, true_and, and_true, List.cons_append, List.nil_append, List.append_nil, b2_0, b2_1, b2_01, Classical.not_not]
theorem fit_b (W : WG g) (hc : isC c) (h6 : g 72 c = 0 ∧ g 76 c = 0) (hk : 1 ≤ k ∧ k ≤ 9) (ha : 0 ≤ a ∧ a ≤ mstA k) : ∀ (j : Nat) (b : Int) (X : Mm), b + j = msB k + 1 → lsB k ≤ b → Sh X → PR X 18 g → LSq X 5 (X 0 11) (ftR g c bell tick (ix k a b)) → ∃ X', Sh X' ∧ PR X' 18 g ∧ FC X X' 5 11 ∧ LSq X' 5 (X' 0 11) (ftR g c bell tick (ix k a (msB k + 1))) ∧ ∀ (tl : Ds) (Q : Ds → Mm → List MV → Prop), WP 91 92 [(2, 0), (0, c), (0, bell), (0, tick), (0, k), (0, a), (0, b)] [] (dsB ++ tl) X Q = WP 91 75 [(2, 0), (0, c), (0, bell), (0, tick), (0, k), (0, a + 1), (0, msB k + 1)] [] (dsB ++ tl) X' Q := by
  have a15 : 0 ≤ a ∧ a ≤ 15 := by
    unfold mstA at ha
    omega
  have w1 : w32 (a + 1) = a + 1 := w32_id (by omega) (by omega)
  intro j
  induction j with
  | zero =>
    intro b X hb hl S P L
    have hb : b = msB k + 1 := by omega
    subst hb
    have e118' := fun (ds : Ds) (m : Mm) (Q : Ds → Mm → List MV → Prop) => e118 (ds := ds) (m := m) (Q := Q) (c := k)
    have nb : msB k < msB k + 1 := by omega
    refine ⟨X, S, P, FC_refl, L, fun tl Q => ?_⟩
    rw [p91_92]
    simp only [p91_94, p91_96, p91_99, p91_182, p91_185, e118', eq_true nb, w1, b2_T, b2_F, Int.reduceEq, Int.reduceLT, Int.reduceLE, Int.reduceAdd, Int.reduceSub, Int.reduceMul, Int.reduceNeg, reduceIte, if_true, if_false, true_or, or_true, false_or, or_false, false_and, and_false, eq_self, not_false_eq_true, not_true_eq_false, true_and, and_true, List.cons_append, List.nil_append, List.append_nil, b2_0, b2_1, b2_01, Classical.not_not]
  | succ j ih =>
    intro b X hb hl S P L
    obtain ⟨X1, S1, P1, F1, L1, h1⟩ := fit_1 W hc h6 hk ha ⟨hl, by omega⟩ S P L
    obtain ⟨X2, S2, P2, F2, L2, h2⟩ := ih (b + 1) X1 (by omega) (by omega) S1 P1 L1
    exact ⟨X2, S2, P2, FC_tr F1 F2, L2, fun tl Q => by rw [h1 tl Q, h2 tl Q]⟩
theorem ix_a (hk : 1 ≤ k ∧ k ≤ 9) (ha : 0 ≤ a ∧ a ≤ mstA k) : ftR g c bell tick (ix k a (lsB k)) = ftR g c bell tick (ix k a 0) ∧ ftR g c bell tick (ix k (a + 1) 0) = ftR g c bell tick (ix k a (msB k + 1)) := by
  have a15 : 0 ≤ a ∧ a ≤ 15 := by
    unfold mstA at ha
    omega
  have k0 : k = 1 ∨ k = 2 ∨ k = 3 ∨ k = 4 ∨ k = 5 ∨ k = 6 ∨ k = 7 ∨ k = 8 ∨ k = 9 := by omega
  constructor
  · apply ft_sk'
    · unfold ix lsB
      split <;> omega
    · intro i i0 i1
      unfold ix lsB at i1
      unfold ix at i0
      by_cases h : k = 4 ∨ k = 6
      · rw [if_pos h] at i1
        have e1 : (i : Int) % 10 = 0 := by omega
        have e2 : (i : Int) / 160 + 1 = k := by omega
        rw [e1, e2]
        omega
      · rw [if_neg h] at i1
        omega
  · apply ft_sk'
    · unfold ix msB
      split
      · omega
      · split
        · omega
        · split <;> omega
    · intro i i0 i1
      unfold ix at i0 i1
      have e2 : (i : Int) / 160 + 1 = k := by
        unfold msB at i0
        split at i0
        · omega
        · split at i0
          · omega
          · split at i0 <;> omega
      rw [e2]
      rcases k0 with rfl | rfl | rfl | rfl | rfl | rfl | rfl | rfl | rfl
      all_goals (simp only [msB, b2_T, b2_F, Int.reduceEq, Int.reduceLT, Int.reduceLE, Int.reduceAdd, Int.reduceSub, Int.reduceMul, Int.reduceNeg, reduceIte, if_true, if_false, true_or, or_true, false_or, or_false, false_and, and_false, eq_self, not_false_eq_true, not_true_eq_false, true_and, and_true, List.cons_append, List.nil_append, List.append_nil, b2_0, b2_1, b2_01, Classical.not_not] at i0; omega)
theorem ix_k (hk : 1 ≤ k ∧ k ≤ 9) : ftR g c bell tick (ix (k + 1) 0 0) = ftR g c bell tick (ix k (mstA k + 1) 0) := by
  have k0 : k = 1 ∨ k = 2 ∨ k = 3 ∨ k = 4 ∨ k = 5 ∨ k = 6 ∨ k = 7 ∨ k = 8 ∨ k = 9 := by omega
  apply ft_sk'
  · unfold ix mstA
    rcases k0 with rfl | rfl | rfl | rfl | rfl | rfl | rfl | rfl | rfl
    all_goals decide
  · intro i i0 i1
    unfold ix at i0 i1
    rcases k0 with rfl | rfl | rfl | rfl | rfl | rfl | rfl | rfl | rfl
    all_goals (simp only [mstA, b2_T, b2_F, Int.reduceEq, Int.reduceLT, Int.reduceLE, Int.reduceAdd, Int.reduceSub, Int.reduceMul, Int.reduceNeg, reduceIte, if_true, if_false, true_or, or_true, false_or, or_false, false_and, and_false, eq_self, not_false_eq_true, not_true_eq_false, true_and, and_true, List.cons_append, List.nil_append, List.append_nil, b2_0, b2_1, b2_01, Classical.not_not] at i0; omega)
theorem fit_a (W : WG g) (hc : isC c) (h6 : g 72 c = 0 ∧ g 76 c = 0) (hk : 1 ≤ k ∧ k ≤ 9) : ∀ (j : Nat) (a : Int) (X : Mm), a + j = mstA k + 1 → 0 ≤ a → Sh X → PR X 18 g → LSq X 5 (X 0 11) (ftR g c bell tick (ix k a 0)) → ∃ X', Sh X' ∧ PR X' 18 g ∧ FC X X' 5 11 ∧ LSq X' 5 (X' 0 11) (ftR g c bell tick (ix k (mstA k + 1) 0)) ∧ ∀ (tl : Ds) (Q : Ds → Mm → List MV → Prop) (q6 : MV), (q6.1 = 0 ∨ q6.1 = 3) → ∃ q6' : MV, (q6'.1 = 0 ∨ q6'.1 = 3) ∧ WP 91 75 [(2, 0), (0, c), (0, bell), (0, tick), (0, k), (0, a), q6] [] (dsB ++ tl) X Q = WP 91 65 [(2, 0), (0, c), (0, bell), (0, tick), (0, k + 1), (0, mstA k + 1), q6'] [] (dsB ++ tl) X' Q := by
  have w1 : w32 (k + 1) = k + 1 := w32_id (by omega) (by omega)
  have e116' := fun (ds : Ds) (m : Mm) (Q : Ds → Mm → List MV → Prop) => e116 (ds := ds) (m := m) (Q := Q) (c := k)
  intro j
  induction j with
  | zero =>
    intro a X ha h0 S P L
    have ha : a = mstA k + 1 := by omega
    subst ha
    have nb : mstA k < mstA k + 1 := by omega
    refine ⟨X, S, P, FC_refl, L, fun tl Q q6 hq => ⟨q6, hq, ?_⟩⟩
    rw [p91_75]
    simp only [p91_77, p91_79, p91_82, p91_188, p91_191, e116', eq_true nb, w1, b2_T, b2_F, Int.reduceEq, Int.reduceLT, Int.reduceLE, Int.reduceAdd, Int.reduceSub, Int.reduceMul, Int.reduceNeg, reduceIte, if_true, if_false, true_or, or_true, false_or, or_false, false_and, and_false, eq_self, not_false_eq_true, not_true_eq_false, true_and, and_true, List.cons_append, List.nil_append, List.append_nil, b2_0, b2_1, b2_01, Classical.not_not]
  | succ j ih =>
    intro a X ha h0 S P L
    have ha2 : 0 ≤ a ∧ a ≤ mstA k := ⟨h0, by omega⟩
    have sk := ix_a (g := g) (c := c) (bell := bell) (tick := tick) hk ha2
    have lb : ∃ j : Nat, lsB k + (j : Int) = msB k + 1 := by
      refine ⟨(msB k + 1 - lsB k).toNat, ?_⟩
      unfold lsB msB
      omega
    obtain ⟨jb, hjb⟩ := lb
    obtain ⟨X1, S1, P1, F1, L1, h1⟩ := fit_b W hc h6 hk ha2 jb (lsB k) X hjb (Int.le_refl _) S P (by rw [sk.1]; exact L)
    obtain ⟨X2, S2, P2, F2, L2, h2⟩ := ih (a + 1) X1 (by omega) (by omega) S1 P1 (by rw [sk.2]; exact L1)
    have nb : ¬ mstA k < a := by omega
    refine ⟨X2, S2, P2, FC_tr F1 F2, L2, fun tl Q q6 hq => ?_⟩
    obtain ⟨q6', hq', e2⟩ := h2 tl Q (0, msB k + 1) (Or.inl rfl)
    refine ⟨q6', hq', ?_⟩
    have el : b2 (k = 4 ∨ k = 6) = lsB k := by
      unfold lsB
      by_cases h : k = 4 ∨ k = 6
      · rw [b2_t h, if_pos h]
      · rw [b2_f h, if_neg h]
    have e117' := fun (ds : Ds) (m : Mm) (Q : Ds → Mm → List MV → Prop) => e117 (ds := ds) (m := m) (Q := Q) (c := k)
    simp only [el] at e117'
    rw [← e2, ← h1 tl Q, p91_75]
    simp only [p91_77, p91_79, p91_82, p91_85, p91_87, p91_90, e116', e117', eq_false nb, b2_T, b2_F, Int.reduceEq, Int.reduceLT, Int.reduceLE, Int.reduceAdd, Int.reduceSub, Int.reduceMul, Int.reduceNeg, reduceIte, if_true, if_false, true_or, or_true, false_or, or_false, false_and, and_false, eq_self, not_false_eq_true, not_true_eq_false, true_and, and_true, List.cons_append, List.nil_append, List.append_nil, b2_0, b2_1, b2_01, Classical.not_not]
theorem fit_k (W : WG g) (hc : isC c) (h6 : g 72 c = 0 ∧ g 76 c = 0) : ∀ (j : Nat) (k : Int) (X : Mm), k + j = 10 → 1 ≤ k → Sh X → PR X 18 g → LSq X 5 (X 0 11) (ftR g c bell tick (ix k 0 0)) → ∃ X', Sh X' ∧ FC X X' 5 11 ∧ LSq X' 5 (X' 0 11) (ftR g c bell tick 1440) ∧ ∀ (tl : Ds) (Q : Ds → Mm → List MV → Prop) (q5 q6 : MV), (q5.1 = 0 ∨ q5.1 = 3) → (q6.1 = 0 ∨ q6.1 = 3) → WP 91 65 [(2, 0), (0, c), (0, bell), (0, tick), (0, k), q5, q6] [] (dsB ++ tl) X Q = Q (dsB ++ tl) X' [(0, X' 0 11)] := by
  intro j
  induction j with
  | zero =>
    intro k X hk h0 S P L
    have hk : k = 10 := by omega
    subst hk
    refine ⟨X, S, FC_refl, L, fun tl Q q5 q6 _ _ => ?_⟩
    rw [p91_65]
    simp only [p91_67, p91_69, p91_194, p91_195, p91_198, K_0, b2_T, b2_F, Int.reduceEq, Int.reduceLT, Int.reduceLE, Int.reduceAdd, Int.reduceSub, Int.reduceMul, Int.reduceNeg, reduceIte, if_true, if_false, true_or, or_true, false_or, or_false, false_and, and_false, eq_self, not_false_eq_true, not_true_eq_false, true_and, and_true, List.cons_append, List.nil_append, List.append_nil, b2_0, b2_1, b2_01, Classical.not_not]
  | succ j ih =>
    intro k X hk h0 S P L
    have hk2 : 1 ≤ k ∧ k ≤ 9 := ⟨h0, by omega⟩
    have m0 : ∃ j : Nat, (0 : Int) + (j : Int) = mstA k + 1 := by
      refine ⟨(mstA k + 1).toNat, ?_⟩
      unfold mstA
      omega
    obtain ⟨ja, hja⟩ := m0
    obtain ⟨X1, S1, P1, F1, L1, h1⟩ := fit_a W hc h6 hk2 ja 0 X hja (Int.le_refl _) S P L
    obtain ⟨X2, S2, F2, L2, h2⟩ := ih (k + 1) X1 (by omega) (by omega) S1 P1 (by rw [ix_k hk2]; exact L1)
    have nb : ¬ 9 < k := by omega
    refine ⟨X2, S2, FC_tr F1 F2, L2, fun tl Q q5 q6 h5 hq => ?_⟩
    obtain ⟨q6', hq', e1⟩ := h1 tl Q q6 hq
    rw [← h2 tl Q (0, mstA k + 1) q6' (Or.inl rfl) hq', ← e1, p91_65]
    simp only [p91_67, p91_69, p91_72, p91_73, eq_false nb, b2_T, b2_F, Int.reduceEq, Int.reduceLT, Int.reduceLE, Int.reduceAdd, Int.reduceSub, Int.reduceMul, Int.reduceNeg, reduceIte, if_true, if_false, true_or, or_true, false_or, or_false, false_and, and_false, eq_self, not_false_eq_true, not_true_eq_false, true_and, and_true, List.cons_append, List.nil_append, List.append_nil, b2_0, b2_1, b2_01, Classical.not_not]
theorem e91 (W : WG m) (P : PR m 9 m) (hc : isC c) (h6 : m 72 c = 0 ∧ m 76 c = 0) : ∃ X, Sh X ∧ FC m X 5 11 ∧ (LSq X 5 (X 0 11) (if isC bell ∧ m 72 bell = 8 then ftR m c bell tick 1440 else (0, fun _ => 0))) ∧ ∀ (tl : Ds) (Q : Ds → Mm → List MV → Prop), WP 91 0 [(2, 0), (0, c), (0, bell), (0, tick), (3, 0), (3, 0), (3, 0)] [] (dsB ++ tl) m Q = Q (dsB ++ tl) X [(0, X 0 11)] := by
  have S := W.S
  have S0 : Sh (up m 0 11 0) := Sh.up S (by decide)
  have P0 : PR (up m 0 11 0) 9 m := PR_m P (fun x j h1 h2 => by rw [up_at, if_neg (by omega)])
  have f0 : FC m (up m 0 11 0) 5 11 := fun x j y1 y2 y3 y4 => by rw [up_at, if_neg y4]
  have z11 : up m 0 11 0 0 11 = 0 := by simp only [up_at, b2_T, b2_F, Int.reduceEq, Int.reduceLT, Int.reduceLE, Int.reduceAdd, Int.reduceSub, Int.reduceMul, Int.reduceNeg, reduceIte, if_true, if_false, true_or, or_true, false_or, or_false, false_and, and_false, eq_self, not_false_eq_true, not_true_eq_false, true_and, and_true, List.cons_append, List.nil_append, List.append_nil, b2_0, b2_1, b2_01, Classical.not_not]
  have kc := P.k c hc
  have bc := P.b c hc
  simp only [Int.reduceAdd] at kc bc
  have y29 : (0 ≤ c ∧ c < 96) ∧ m 10 c = 0 ∧ m 14 c = 0 := ⟨hc, by rw [kc]; exact h6.1, by rw [bc]; exact h6.2⟩
  have e29' := fun (tl : Ds) (Q : Ds → Mm → List MV → Prop) => e29 (c := c) (Q := Q) (PA_9 (tl := tl) S)
  simp only [Int.reduceAdd, b2_t y29] at e29'
  have e24' := fun (tl : Ds) (Q : Ds → Mm → List MV → Prop) => e24 (c := bell) (Q := Q) (PA_9 (tl := tl) S0)
  simp only [Int.reduceAdd] at e24'
  have k10 : up m 0 11 0 10 bell = m 10 bell := rfl
  by_cases h8 : isC bell ∧ m 72 bell = 8
  · have kb := P.k bell h8.1
    simp only [Int.reduceAdd] at kb
    have S1 := Sh_bec S0
    have P1 : PR (bec (up m 0 11 0) 18 9) 18 m := PR_bec P0 W.v
    have f1 : FC m (bec (up m 0 11 0) 18 9) 5 11 := FC_tr f0 (FC_18 (fun x j h => bec_f (by omega)))
    have c11 : bec (up m 0 11 0) 18 9 0 11 = 0 := by rw [bec_f (by decide)]; exact z11
    have i0 : ix 1 0 0 = 0 := rfl
    obtain ⟨X, S2, F2, L2, h2⟩ := fit_k (bell := bell) (tick := tick) W hc h6 9 1 (bec (up m 0 11 0) 18 9) (by decide) (by decide) S1 P1 (by rw [i0]; exact ⟨c11, fun i i0 i1 => absurd i1 (by show ¬ i < 0; omega)⟩)
    have e23' := fun (tl : Ds) (Q : Ds → Mm → List MV → Prop) => e23 (Q := Q) (PA_18 (tl := tl) S0) (PA_9 (tl := tl) S0) (Or.inr (by decide)) (fun d d0 d1 => by
      have := P0.b d ⟨d0, d1⟩
      rw [this]
      exact (W.p d ⟨d0, d1⟩).l)
    simp only [if_pos h8.1, k10, kb, h8.2] at e24'
    refine ⟨X, S2, FC_tr f1 F2, by rw [if_pos h8]; exact L2, fun tl Q => ?_⟩
    have y29' := e29' tl
    have y24 := e24' tl
    have y23 := e23' tl
    rw [← h2 tl Q (3, 0) (3, 0) (Or.inr rfl) (Or.inr rfl)]
    simp only [p91_0, p91_1, p91_4, p91_7, p91_8, p91_9, p91_12, p91_13, p91_14, p91_17, p91_18, p91_21, p91_24, p91_25, p91_27, p91_30, p91_31, p91_32, p91_33, p91_36, p91_37, p91_40, p91_41, p91_44, p91_46, p91_49, p91_50, p91_51, p91_52, p91_55, p91_56, p91_59, p91_62, p91_63, K_0, K_9, K_18, sh_0_0 S, sh_0_0 S0, sh_0_1 S0, e107, b2_t hc, y29', y24, y23, b2_T, b2_F, Int.reduceEq, Int.reduceLT, Int.reduceLE, Int.reduceAdd, Int.reduceSub, Int.reduceMul, Int.reduceNeg, reduceIte, if_true, if_false, true_or, or_true, false_or, or_false, false_and, and_false, eq_self, not_false_eq_true, not_true_eq_false, true_and, and_true, List.cons_append, List.nil_append, List.append_nil, b2_0, b2_1, b2_01, Classical.not_not]
  · refine ⟨up m 0 11 0, S0, f0, by rw [if_neg h8]; exact ⟨z11, fun i i0 i1 => absurd i1 (by show ¬ i < 0; omega)⟩, fun tl Q => ?_⟩
    have y29' := e29' tl
    have y24 := e24' tl
    have nk : ¬ (if 0 ≤ bell ∧ bell < 96 then up m 0 11 0 10 bell else 0) = 8 := by
      by_cases hb : isC bell
      · rw [if_pos hb, k10]
        have kb := P.k bell hb
        simp only [Int.reduceAdd] at kb
        rw [kb]
        exact fun y => h8 ⟨hb, y⟩
      · rw [if_neg hb]
        decide
    rw [z11]
    generalize (if 0 ≤ bell ∧ bell < 96 then up m 0 11 0 10 bell else 0) = kk at y24 nk
    simp only [p91_0, p91_1, p91_4, p91_7, p91_8, p91_9, p91_12, p91_13, p91_14, p91_17, p91_18, p91_21, p91_24, p91_25, p91_27, p91_30, p91_31, p91_32, p91_33, p91_36, p91_37, p91_40, p91_41, p91_44, p91_46, p91_49, p91_50, K_0, K_9, sh_0_0 S, sh_0_0 S0, e107, b2_t hc, y29', y24, nk, b2_T, b2_F, Int.reduceEq, Int.reduceLT, Int.reduceLE, Int.reduceAdd, Int.reduceSub, Int.reduceMul, Int.reduceNeg, reduceIte, if_true, if_false, true_or, or_true, false_or, or_false, false_and, and_false, eq_self, not_false_eq_true, not_true_eq_false, true_and, and_true, List.cons_append, List.nil_append, List.append_nil, b2_0, b2_1, b2_01, Classical.not_not]
end FITS2
