/-! the reference's run: it begins, with its bounds -/
section BEGIN2
variable {tl : Ds} {m g h : Mm} {Q : Ds → Mm → List MV → Prop} {c : Int}
theorem b0_f {x j : Int} (h1 : ¬ x = 91) (h2 : ¬ x = 101) (h3 : ¬ x = 70) : mB0 g x j = g x j := by
  unfold mB0 mB3
  simp only [up_at, h3, b2_T, b2_F, Int.reduceEq, Int.reduceLT, Int.reduceLE, Int.reduceAdd, Int.reduceSub, Int.reduceMul, Int.reduceNeg, reduceIte, if_true, if_false, true_or, or_true, false_or, or_false, false_and, and_false, eq_self, not_false_eq_true, not_true_eq_false, true_and, and_true, List.cons_append, List.nil_append, List.append_nil, b2_0, b2_1, b2_01, Classical.not_not]
  rw [b2_f' h1, b1_f h2]
theorem b0_70 {j : Int} (h1 : ¬ j = 24) (h2 : ¬ j = 25) (h3 : ¬ j = 30) : mB0 g 70 j = g 70 j := by
  unfold mB0 mB3
  simp only [up_at, h1, h2, h3, b2_T, b2_F, Int.reduceEq, Int.reduceLT, Int.reduceLE, Int.reduceAdd, Int.reduceSub, Int.reduceMul, Int.reduceNeg, reduceIte, if_true, if_false, true_or, or_true, false_or, or_false, false_and, and_false, eq_self, not_false_eq_true, not_true_eq_false, true_and, and_true, List.cons_append, List.nil_append, List.append_nil, b2_0, b2_1, b2_01, Classical.not_not]
  rw [b2_f' (by decide), b1_f (by decide)]
theorem b0_24 : mB0 g 70 24 = 0 := rfl
theorem b0_25 : mB0 g 70 25 = 0 := rfl
theorem b0_30 : mB0 g 70 30 = 0 := rfl
theorem b0_91 {t : Int} (h0 : 0 ≤ t) (h1 : t < 520) : mB0 g 91 t = -1 := by
  unfold mB0 mB3
  simp only [up_at, b2_T, b2_F, Int.reduceEq, Int.reduceLT, Int.reduceLE, Int.reduceAdd, Int.reduceSub, Int.reduceMul, Int.reduceNeg, reduceIte, if_true, if_false, true_or, or_true, false_or, or_false, false_and, and_false, eq_self, not_false_eq_true, not_true_eq_false, true_and, and_true, List.cons_append, List.nil_append, List.append_nil, b2_0, b2_1, b2_01, Classical.not_not]
  unfold mB2
  rw [if_pos (by omega)]
theorem b0_101 {j : Int} (h0 : 0 ≤ j) (h1 : j < 6) : mB0 g 101 (6 * g 70 45 + j) = 0 := by
  unfold mB0 mB3
  simp only [up_at, b2_T, b2_F, Int.reduceEq, Int.reduceLT, Int.reduceLE, Int.reduceAdd, Int.reduceSub, Int.reduceMul, Int.reduceNeg, reduceIte, if_true, if_false, true_or, or_true, false_or, or_false, false_and, and_false, eq_self, not_false_eq_true, not_true_eq_false, true_and, and_true, List.cons_append, List.nil_append, List.append_nil, b2_0, b2_1, b2_01, Classical.not_not]
  rw [b2_f' (by decide)]
  unfold mB1
  rw [if_pos (by omega)]
theorem Sh_b0 (S : Sh g) : Sh (mB0 g) := Sh_si (Sh_si (Sh_si (Sh_b2 (Sh_b1 S)) (by decide)) (by decide)) (by decide)
theorem BI_b0 (S : Sh g) : BI (mB0 g) (mBL (mB0 g) 96) 96 := BI_bl (Sh_b0 S) b0_30 96 (by omega)
theorem b4_f (S : Sh g) {x j : Int} (h0 : ¬ x = 91) (h1 : ¬ x = 93) (h2 : ¬ x = 94) (h3 : ¬ x = 95) (h4 : ¬ x = 96) (h5 : ¬ x = 97) (h6 : ¬ x = 103) (h7 : ¬ x = 105) (h8 : ¬ x = 106) (h9 : ¬ x = 109) (ha : ¬ x = 101) (hb : ¬ x = 70) : mB4 g x j = g x j := by
  have a := BI_b0 S
  have e : mB4 g x j = mBL (mB0 g) 96 x j := by
    unfold mB4
    simp only [up_at, hb, b2_T, b2_F, Int.reduceEq, Int.reduceLT, Int.reduceLE, Int.reduceAdd, Int.reduceSub, Int.reduceMul, Int.reduceNeg, reduceIte, if_true, if_false, true_or, or_true, false_or, or_false, false_and, and_false, eq_self, not_false_eq_true, not_true_eq_false, true_and, and_true, List.cons_append, List.nil_append, List.append_nil, b2_0, b2_1, b2_01, Classical.not_not]
  rw [e, a.f x j h1 h2 h3 h4 h5 h6 h7 h8 h9 (fun y => hb y.1), b0_f h0 ha hb]
theorem b4_70 (S : Sh g) {j : Int} (h1 : ¬ j = 24) (h2 : ¬ j = 25) (h3 : ¬ j = 30) (h4 : ¬ j = 26) : mB4 g 70 j = g 70 j := by
  have a := BI_b0 S
  have e : mB4 g 70 j = mBL (mB0 g) 96 70 j := by
    unfold mB4
    simp only [up_at, h4, b2_T, b2_F, Int.reduceEq, Int.reduceLT, Int.reduceLE, Int.reduceAdd, Int.reduceSub, Int.reduceMul, Int.reduceNeg, reduceIte, if_true, if_false, true_or, or_true, false_or, or_false, false_and, and_false, eq_self, not_false_eq_true, not_true_eq_false, true_and, and_true, List.cons_append, List.nil_append, List.append_nil, b2_0, b2_1, b2_01, Classical.not_not]
  rw [e, a.f 70 j (by decide) (by decide) (by decide) (by decide) (by decide) (by decide) (by decide) (by decide) (by decide) (fun y => h3 y.2), b0_70 h1 h2 h3]
theorem GA_b4' {g g0 h k : Mm} (S : Sh g) (p : PV g) (bk : 0 ≤ g 70 45 ∧ g 70 45 ≤ 2) (a : BI g0 h 96) (hk : k = up h 70 26 0) (g0_45 : g0 70 45 = g 70 45) (k45 : k 70 45 = g 70 45) (k76 : ∀ x j, (x = 72 ∨ x = 73 ∨ x = 74 ∨ x = 75 ∨ x = 76) → k x j = g x j) (g0_76 : ∀ j, g0 76 j = g 76 j) (g0_91 : ∀ t, 0 ≤ t → t < 520 → g0 91 t = -1) (g0_101 : ∀ j, 0 ≤ j → j < 6 → g0 101 (6 * g 70 45 + j) = 0) (g0_24 : g0 70 24 = 0) (g0_25 : g0 70 25 = 0) : GA k 0 ∧ QI k 0 ∧ cnt k = 0 ∧ k 70 25 = 0 := by
  have e45 := k45
  have e45' := g0_45
  have fa := k76
  have f : ∀ x j, ¬ x = 70 → k x j = h x j := fun x j hx => by
    rw [hk]
    simp only [up_at, hx, b2_T, b2_F, Int.reduceEq, Int.reduceLT, Int.reduceLE, Int.reduceAdd, Int.reduceSub, Int.reduceMul, Int.reduceNeg, reduceIte, if_true, if_false, true_or, or_true, false_or, or_false, false_and, and_false, eq_self, not_false_eq_true, not_true_eq_false, true_and, and_true, List.cons_append, List.nil_append, List.append_nil, b2_0, b2_1, b2_01, Classical.not_not]
  have f70 : ∀ j, ¬ j = 26 → k 70 j = h 70 j := fun j hx => by
    rw [hk]
    simp only [up_at, hx, b2_T, b2_F, Int.reduceEq, Int.reduceLT, Int.reduceLE, Int.reduceAdd, Int.reduceSub, Int.reduceMul, Int.reduceNeg, reduceIte, if_true, if_false, true_or, or_true, false_or, or_false, false_and, and_false, eq_self, not_false_eq_true, not_true_eq_false, true_and, and_true, List.cons_append, List.nil_append, List.append_nil, b2_0, b2_1, b2_01, Classical.not_not]
  have f1 : ∀ j, k 91 j = g0 91 j := fun j => by
    rw [f 91 j (by decide)]
    exact a.f 91 j (by decide) (by decide) (by decide) (by decide) (by decide) (by decide) (by decide) (by decide) (by decide) (fun y => absurd y.1 (by decide))
  have f2 : ∀ j, k 101 j = g0 101 j := fun j => by
    rw [f 101 j (by decide)]
    exact a.f 101 j (by decide) (by decide) (by decide) (by decide) (by decide) (by decide) (by decide) (by decide) (by decide) (fun y => absurd y.1 (by decide))
  have f24 : k 70 24 = 0 := by
    rw [f70 24 (by decide), a.f 70 24 (by decide) (by decide) (by decide) (by decide) (by decide) (by decide) (by decide) (by decide) (by decide) (by decide)]
    exact g0_24
  have f25 : k 70 25 = 0 := by
    rw [f70 25 (by decide), a.f 70 25 (by decide) (by decide) (by decide) (by decide) (by decide) (by decide) (by decide) (by decide) (by decide) (by decide)]
    exact g0_25
  have f26 : k 70 26 = 0 := by
    rw [hk]
    simp only [up_at, b2_T, b2_F, Int.reduceEq, Int.reduceLT, Int.reduceLE, Int.reduceAdd, Int.reduceSub, Int.reduceMul, Int.reduceNeg, reduceIte, if_true, if_false, true_or, or_true, false_or, or_false, false_and, and_false, eq_self, not_false_eq_true, not_true_eq_false, true_and, and_true, List.cons_append, List.nil_append, List.append_nil, b2_0, b2_1, b2_01, Classical.not_not]
  have f101 : ∀ j, 0 ≤ j → j < 6 → k 101 (6 * g 70 45 + j) = 0 := fun j h0 h1 => by
    rw [f2]
    exact g0_101 j h0 h1
  have pb := a.b
  refine ⟨⟨?_, ?_, ?_, ?_, ?_, ?_, ?_, ?_, ?_, ?_, ?_, ?_, ?_, ?_, ?_⟩, ⟨?_, ?_, ?_⟩, ?_, f25⟩
  · rw [hk]
    exact Sh_si a.S (by decide)
  · exact PV_cg p (fun j => fa 72 j (by omega)) (fun j => fa 73 j (by omega)) (fun j => fa 74 j (by omega)) (fun j => fa 75 j (by omega)) (fun j => fa 76 j (by omega))
  · rw [e45]; exact bk
  · rw [f26]; omega
  · intro d hd
    have z := a.z d hd.1 hd.2
    rw [f 93 d (by decide), z.1]; omega
  · intro d hd
    have z := a.z d hd.1 hd.2
    rw [e45'] at z
    rw [e45, f 105 _ (by decide), z.2.2.2.1]; omega
  · intro d hd
    have z := a.z d hd.1 hd.2
    rw [e45'] at z
    rw [e45, f 106 _ (by decide), z.2.2.2.2.1]; omega
  · rw [e45, f101 4 (by decide) (by decide)]; omega
  · rw [e45, f101 3 (by decide) (by decide)]; omega
  · rw [f70 30 (by decide)]; omega
  · intro d hd
    have o := a.o d hd.1 hd.2
    have pl := (p d hd).l
    have po := (p d hd).o
    rw [g0_76] at o
    rw [f 95 d (by decide), fa 72 d (by omega), f70 30 (by decide)]
    omega
  · intro j j0 j1
    rw [f70 30 (by decide)] at j1
    have o := a.a j j0 j1
    rw [f 96 j (by decide), f 97 j (by decide)]
    exact ⟨⟨o.1.1, o.1.2⟩, Or.inl o.2⟩
  · intro k k0 k1
    rw [f24] at k1
    omega
  · intro t t0 t1
    left
    rw [f1]
    exact g0_91 t t0 t1
  · intro i i0 i1
    omega
  · rw [f24]; omega
  · rw [f25]; omega
  · intro t t0 t1 t2
    rw [f1] at t2
    exact absurd (g0_91 t t0 t1) t2
  · unfold cnt
    rw [e45]
    exact f101 2 (by decide) (by decide)
theorem GA_b4 (S : Sh g) (p : PV g) (bk : 0 ≤ g 70 45 ∧ g 70 45 ≤ 2) : GA (mB4 g) 0 ∧ QI (mB4 g) 0 ∧ cnt (mB4 g) = 0 ∧ mB4 g 70 25 = 0 :=
  GA_b4' S p bk (BI_b0 S) rfl (b0_70 (by decide) (by decide) (by decide)) (b4_70 S (by decide) (by decide) (by decide) (by decide)) (fun x j hx => by
    rcases hx with rfl | rfl | rfl | rfl | rfl
    all_goals exact b4_f S (by decide) (by decide) (by decide) (by decide) (by decide) (by decide) (by decide) (by decide) (by decide) (by decide) (by decide) (by decide)) (fun j => b0_f (by decide) (by decide) (by decide)) (fun t => b0_91) (fun j => b0_101) b0_24 b0_25
theorem bs_f {x j : Int} (h1 : ¬ x = 86) (h2 : ¬ x = 87) (h3 : ¬ x = 88) (h4 : ¬ x = 89) (h5 : ¬ x = 90) (h6 : ¬ x = 91) (h7 : ¬ x = 92) (h8 : ¬ x = 70) : ∀ n : Nat, mBS g n x j = g x j := by
  intro n
  induction n with
  | zero => rfl
  | succ n ih =>
    show mAdd (mBS g n) _ _ _ _ _ x j = _
    rw [add_f h1 h2 h3 h4 h5 h6 h7 h8, ih]
theorem bs_70 {j : Int} (h1 : ¬ j = 24) (h2 : ¬ j = 25) : ∀ n : Nat, mBS g n 70 j = g 70 j := by
  intro n
  induction n with
  | zero => rfl
  | succ n ih =>
    show mAdd (mBS g n) _ _ _ _ _ 70 j = _
    rw [add_70 h1 h2, ih]
theorem add_25 {t c s k r : Int} : mAdd g t c s k r 70 25 = if c = -1 then g 70 25 else g 70 25 + 1 := by
  unfold mAdd
  split
  · rfl
  · try dsimp only
    split <;> simp only [up_at, b2_T, b2_F, Int.reduceEq, Int.reduceLT, Int.reduceLE, Int.reduceAdd, Int.reduceSub, Int.reduceMul, Int.reduceNeg, reduceIte, if_true, if_false, true_or, or_true, false_or, or_false, false_and, and_false, eq_self, not_false_eq_true, not_true_eq_false, true_and, and_true, List.cons_append, List.nil_append, List.append_nil, b2_0, b2_1, b2_01, Classical.not_not]
theorem GA_bs (a : GA h 0) (q : QI h 0) (v : SV h) : ∀ n : Nat, (n : Int) ≤ h 70 6 → GA (mBS h n) 0 ∧ QI (mBS h n) n ∧ h 70 25 ≤ mBS h n 70 25 := by
  have vn := v.n
  intro n
  induction n with
  | zero =>
    intro _
    exact ⟨a, q, Int.le_refl _⟩
  | succ n ih =>
    intro hn
    have i1 := ih (by omega)
    have vv := v.v n (by omega) (by omega)
    have e9 : mBS h n 79 n = h 79 n := bs_f (by decide) (by decide) (by decide) (by decide) (by decide) (by decide) (by decide) (by decide) n
    have e7 : mBS h n 77 n = h 77 n := bs_f (by decide) (by decide) (by decide) (by decide) (by decide) (by decide) (by decide) (by decide) n
    have e8 : mBS h n 78 n = h 78 n := bs_f (by decide) (by decide) (by decide) (by decide) (by decide) (by decide) (by decide) (by decide) n
    refine ⟨?_, ?_, ?_⟩
    · exact GA_add i1.1 i1.2.1 (by rw [e7]; exact Or.inr vv.1) (by rw [e8]; exact vv.2.1) (by omega) (by rw [e9]; omega)
    · exact QI_add i1.2.1 (by omega)
    · show h 70 25 ≤ mAdd (mBS h n) _ _ _ _ _ 70 25
      rw [add_25]
      split <;> omega
theorem SV_b4 (S : Sh g) (v : SV g) : SV (mB4 g) := by
  have e6 : mB4 g 70 6 = g 70 6 := b4_70 S (by decide) (by decide) (by decide) (by decide)
  have f7 : ∀ j, mB4 g 77 j = g 77 j := fun j => b4_f S (by decide) (by decide) (by decide) (by decide) (by decide) (by decide) (by decide) (by decide) (by decide) (by decide) (by decide) (by decide)
  have f8 : ∀ j, mB4 g 78 j = g 78 j := fun j => b4_f S (by decide) (by decide) (by decide) (by decide) (by decide) (by decide) (by decide) (by decide) (by decide) (by decide) (by decide) (by decide)
  have f9 : ∀ j, mB4 g 79 j = g 79 j := fun j => b4_f S (by decide) (by decide) (by decide) (by decide) (by decide) (by decide) (by decide) (by decide) (by decide) (by decide) (by decide) (by decide)
  refine ⟨by rw [e6]; exact v.n, fun i i0 i1 => ?_⟩
  rw [e6] at i1
  rw [f7, f8, f9]
  exact v.v i i0 i1
theorem GI_begin' {k h : Mm} {n : Nat} (a : GA k 0) (q : QI k 0) (hc : cnt k = 0) (hw : k 70 25 = 0) (hn : k 70 26 = 0) (v : SV k) (en : (n : Int) = k 70 6) (eh : h = mBS k n) : GI h ∧ 0 ≤ h 70 25 ∧ cnt h = 0 ∧ h 70 26 = 0 := by
  have i1 := GA_bs a q v n (by omega)
  have ec : cnt h = 0 := by
    rw [eh]
    unfold cnt
    rw [bs_70 (by decide) (by decide), bs_f (by decide) (by decide) (by decide) (by decide) (by decide) (by decide) (by decide) (by decide)]
    exact hc
  have e26 : h 70 26 = 0 := by
    rw [eh, bs_70 (by decide) (by decide)]
    exact hn
  have nb := nsp_b (g := h)
  rw [← eh] at i1
  have h3 := i1.2.2
  have vn := v.n
  rw [hw] at h3
  refine ⟨⟨by omega, by rw [ec]; exact i1.1, ?_⟩, h3, ec, e26⟩
  rw [ec]
  exact QI_mono i1.2.1 (by omega)
theorem b4_26 : mB4 g 70 26 = 0 := by
  unfold mB4
  simp only [up_at, b2_T, b2_F, Int.reduceEq, Int.reduceLT, Int.reduceLE, Int.reduceAdd, Int.reduceSub, Int.reduceMul, Int.reduceNeg, reduceIte, if_true, if_false, true_or, or_true, false_or, or_false, false_and, and_false, eq_self, not_false_eq_true, not_true_eq_false, true_and, and_true, List.cons_append, List.nil_append, List.append_nil, b2_0, b2_1, b2_01, Classical.not_not]
theorem GI_begin (S : Sh g) (p : PV g) (v : SV g) (bk : 0 ≤ g 70 45 ∧ g 70 45 ≤ 2) : GI (mBegin g) ∧ 0 ≤ mBegin g 70 25 ∧ cnt (mBegin g) = 0 ∧ mBegin g 70 26 = 0 := by
  obtain ⟨a, q, hc, hw⟩ := GA_b4 S p bk
  have e6 : mB4 g 70 6 = g 70 6 := b4_70 S (by decide) (by decide) (by decide) (by decide)
  have en : ((g 70 6).toNat : Int) = g 70 6 := Int.toNat_of_nonneg v.n.1
  exact GI_begin' a q hc hw b4_26 (SV_b4 S v) (en.trans e6.symm) rfl
theorem e163d (a : GA h 0) (q : QI h 0) (v : SV h) : ∀ (k n : Nat), (n : Int) + k = h 70 6 → WP 163 217 [(2, 70), (0, (n : Int))] [] (dsB ++ tl) (mBS h n) Q = Q (dsB ++ tl) (mBS h (h 70 6).toNat) [] := by
  have vn := v.n
  intro k
  induction k with
  | zero =>
    intro n hn
    have e6 : mBS h n 70 6 = (n : Int) := by rw [bs_70 (by decide) (by decide)]; omega
    have en : (h 70 6).toNat = n := by omega
    rw [p163_217, en]
    simp only [p163_218, p163_219, p163_222, p163_252, p163_255, K_70, e6, b2_T, b2_F, Int.reduceEq, Int.reduceLT, Int.reduceLE, Int.reduceAdd, Int.reduceSub, Int.reduceMul, Int.reduceNeg, reduceIte, if_true, if_false, true_or, or_true, false_or, or_false, false_and, and_false, eq_self, not_false_eq_true, not_true_eq_false, true_and, and_true, List.cons_append, List.nil_append, List.append_nil, b2_0, b2_1, b2_01, Classical.not_not, Int.lt_irrefl]
  | succ k ih =>
    intro n hn
    have i1 := ih (n + 1) (by omega)
    have gg := GA_bs a q v n (by omega)
    have vv := v.v n (by omega) (by omega)
    have e9 : mBS h n 79 n = h 79 n := bs_f (by decide) (by decide) (by decide) (by decide) (by decide) (by decide) (by decide) (by decide) n
    have e6 : mBS h n 70 6 = h 70 6 := bs_70 (by decide) (by decide) n
    have c1 : ((n + 1 : Nat) : Int) = (n : Int) + 1 := rfl
    have w1 : w32 ((n : Int) + 1) = (n : Int) + 1 := w32_id (by omega) (by omega)
    have g0 : 0 ≤ (n : Int) := by omega
    have g1 : (n : Int) < h 70 6 := by omega
    have g2 : (n : Int) < 4 := by omega
    have S := gg.1.S
    have ex : ∀ Q : Ds → Mm → List MV → Prop, WP 155 0 [(2, 70), (0, mBS h n 79 n), (0, mBS h n 77 n), (0, mBS h n 78 n), (0, -1), (0, 0)] [] (dsB ++ tl) (mBS h n) Q = Q (dsB ++ tl) (mBS h (n + 1)) [] := fun Q => e155q S gg.2.1 (by omega) (by rw [e9]; omega) (Or.inl rfl)
    rw [← i1, p163_217]
    simp only [p163_218, p163_219, p163_222, p163_225, p163_226, p163_227, p163_230, p163_231, p163_232, p163_233, p163_236, p163_237, p163_238, p163_239, p163_242, p163_243, p163_244, p163_245, p163_246, p163_249, p163_252, K_70, sh_70_7 S, sh_70_8 S, sh_70_9 S, K_77, L_77, K_78, L_78, K_79, L_79, e6, c1, w1, g0, g1, g2, ex, b2_T, b2_F, Int.reduceEq, Int.reduceLT, Int.reduceLE, Int.reduceAdd, Int.reduceSub, Int.reduceMul, Int.reduceNeg, reduceIte, if_true, if_false, true_or, or_true, false_or, or_false, false_and, and_false, eq_self, not_false_eq_true, not_true_eq_false, true_and, and_true, List.cons_append, List.nil_append, List.append_nil, b2_0, b2_1, b2_01, Classical.not_not]
theorem e163 (S : Sh m) (p : PV m) (v : SV m) (bk : 0 ≤ m 70 45 ∧ m 70 45 ≤ 2) : WP 163 0 [(2, 70), (3, 0)] [] (dsB ++ tl) m Q = Q (dsB ++ tl) (mBegin m) [] := by
  have z1 : mB1 m (0 : Nat) = m := by
    apply fx
    intro a j
    unfold mB1
    rw [if_neg (by omega)]
  have z2 : mB2 (mB1 m 6) (0 : Nat) = mB1 m 6 := by
    apply fx
    intro a j
    unfold mB2
    rw [if_neg (by omega)]
  have t1 : WP 163 0 [(2, 70), (3, 0)] [] (dsB ++ tl) m Q = WP 163 2 [(2, 70), (0, ((0 : Nat) : Int))] [] (dsB ++ tl) m Q := by
    simp only [p163_0, p163_1]
    rfl
  have t2 : WP 163 29 [(2, 70), (0, 6)] [] (dsB ++ tl) (mB1 m 6) Q = WP 163 31 [(2, 70), (0, ((0 : Nat) : Int))] [] (dsB ++ tl) (mB1 m 6) Q := by
    simp only [p163_29, p163_30]
    rfl
  have h1 := e163a (tl := tl) (Q := Q) S bk 6 0 rfl
  have h2 := e163b (tl := tl) (Q := Q) (Sh_b1 S (t := 6)) 520 0 rfl
  rw [z1] at h1
  rw [z2] at h2
  rw [t1, h1, t2, h2]
  have e45 : mB0 m 70 45 = m 70 45 := b0_70 (by decide) (by decide) (by decide)
  have h3 := e163c (tl := tl) (Q := Q) (Sh_b0 S) (by rw [e45]; exact bk) b0_30 96 0 rfl
  have ga := GA_b4 S p bk
  have e6 : mB4 m 70 6 = m 70 6 := b4_70 S (by decide) (by decide) (by decide) (by decide)
  have en : ((m 70 6).toNat : Int) = m 70 6 := Int.toNat_of_nonneg v.n.1
  have h4 := e163d (tl := tl) (Q := Q) ga.1 ga.2.1 (SV_b4 S v) (m 70 6).toNat 0 (by rw [en, e6]; exact Int.zero_add _)
  rw [e6] at h4
  exact h3.trans h4
end BEGIN2
