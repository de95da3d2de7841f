/-! the reference's run: it begins -/
def mB1 (g : Mm) (t : Int) : Mm := fun a j => if a = 101 ∧ 6 * g 70 45 ≤ j ∧ j < 6 * g 70 45 + t then 0 else g a j
def mB2 (g : Mm) (t : Int) : Mm := fun a j => if a = 91 ∧ 0 ≤ j ∧ j < t then -1 else g a j
def mB3 (g : Mm) : Mm := up (up (up g 70 24 0) 70 25 0) 70 30 0
def mBd (g : Mm) (c : Int) : Mm := up (up (up (up (up (up (up g 93 c 0) 94 c 0) 95 c (-1)) 103 (96 * g 70 45 + c) (-1)) 105 (96 * g 70 45 + c) 0) 106 (96 * g 70 45 + c) 0) 109 (96 * g 70 45 + c) 0
def mBc (g : Mm) (c : Int) : Mm := if g 76 c = 0 then mBd g c else up (up (up (up (mBd g c) 95 c (g 70 30)) 96 (g 70 30) c) 97 (g 70 30) (-1)) 70 30 (g 70 30 + 1)
def mBL (g : Mm) : Nat → Mm
  | 0 => g
  | n + 1 => mBc (mBL g n) n
def mBS (g : Mm) : Nat → Mm
  | 0 => g
  | n + 1 => mAdd (mBS g n) (mBS g n 79 n) (mBS g n 77 n) (mBS g n 78 n) (-1) 0
def mB0 (g : Mm) : Mm := mB3 (mB2 (mB1 g 6) 520)
def mB4 (g : Mm) : Mm := up (mBL (mB0 g) 96) 70 26 0
def mBegin (g : Mm) : Mm := mBS (mB4 g) (g 70 6).toNat
abbrev SV (g : Mm) : Prop := (0 ≤ g 70 6 ∧ g 70 6 ≤ 4) ∧ (∀ i, 0 ≤ i → i < g 70 6 → isC (g 77 i) ∧ okS (g 78 i) ∧ 0 ≤ g 79 i ∧ g 79 i ≤ 99)
theorem SV.n {g : Mm} (x : SV g) : 0 ≤ g 70 6 ∧ g 70 6 ≤ 4 := x.1
theorem SV.v {g : Mm} (x : SV g) : ∀ i, 0 ≤ i → i < g 70 6 → isC (g 77 i) ∧ okS (g 78 i) ∧ 0 ≤ g 79 i ∧ g 79 i ≤ 99 := x.2
theorem fx {f h : Mm} (e : ∀ a j, f a j = h a j) : f = h := funext fun a => funext fun j => e a j
/-- after n cells -/
abbrev BI (g h : Mm) (n : Int) : Prop := (Sh h) ∧ (∀ x j, ¬ x = 93 → ¬ x = 94 → ¬ x = 95 → ¬ x = 96 → ¬ x = 97 → ¬ x = 103 → ¬ x = 105 → ¬ x = 106 → ¬ x = 109 → ¬ (x = 70 ∧ j = 30) → h x j = g x j) ∧ (∀ d, 0 ≤ d → d < n → h 93 d = 0 ∧ h 94 d = 0 ∧ h 103 (96 * g 70 45 + d) = -1 ∧ h 105 (96 * g 70 45 + d) = 0 ∧ h 106 (96 * g 70 45 + d) = 0 ∧ h 109 (96 * g 70 45 + d) = 0) ∧ (0 ≤ h 70 30 ∧ h 70 30 ≤ n) ∧ (∀ d, 0 ≤ d → d < n → h 95 d = -1 ∨ (0 ≤ h 95 d ∧ h 95 d < h 70 30 ∧ ¬ g 76 d = 0)) ∧ (∀ j, 0 ≤ j → j < h 70 30 → (0 ≤ h 96 j ∧ h 96 j < n) ∧ h 97 j = -1)
theorem BI.S {g h : Mm} {n : Int} (x : BI g h n) : Sh h := x.1
theorem BI.f {g h : Mm} {n : Int} (x : BI g h n) : ∀ x j, ¬ x = 93 → ¬ x = 94 → ¬ x = 95 → ¬ x = 96 → ¬ x = 97 → ¬ x = 103 → ¬ x = 105 → ¬ x = 106 → ¬ x = 109 → ¬ (x = 70 ∧ j = 30) → h x j = g x j := x.2.1
theorem BI.z {g h : Mm} {n : Int} (x : BI g h n) : ∀ d, 0 ≤ d → d < n → h 93 d = 0 ∧ h 94 d = 0 ∧ h 103 (96 * g 70 45 + d) = -1 ∧ h 105 (96 * g 70 45 + d) = 0 ∧ h 106 (96 * g 70 45 + d) = 0 ∧ h 109 (96 * g 70 45 + d) = 0 := x.2.2.1
theorem BI.b {g h : Mm} {n : Int} (x : BI g h n) : 0 ≤ h 70 30 ∧ h 70 30 ≤ n := x.2.2.2.1
theorem BI.o {g h : Mm} {n : Int} (x : BI g h n) : ∀ d, 0 ≤ d → d < n → h 95 d = -1 ∨ (0 ≤ h 95 d ∧ h 95 d < h 70 30 ∧ ¬ g 76 d = 0) := x.2.2.2.2.1
theorem BI.a {g h : Mm} {n : Int} (x : BI g h n) : ∀ j, 0 ≤ j → j < h 70 30 → (0 ≤ h 96 j ∧ h 96 j < n) ∧ h 97 j = -1 := x.2.2.2.2.2
section BEGIN
variable {tl : Ds} {m g h : Mm} {Q : Ds → Mm → List MV → Prop} {c : Int}
theorem Sh_bc (S : Sh g) : Sh (mBc g c) := by
  have S1 : Sh (mBd g c) := Sh_ar (Sh_ar (Sh_ar (Sh_ar (Sh_ar (Sh_ar (Sh_ar S (by decide)) (by decide)) (by decide)) (by decide)) (by decide)) (by decide)) (by decide)
  unfold mBc
  split
  · exact S1
  · exact Sh_si (Sh_ar (Sh_ar (Sh_ar S1 (by decide)) (by decide)) (by decide)) (by decide)
theorem BI_bc {n : Int} (a : BI g h n) (hn : 0 ≤ n ∧ n < 96) : BI g (mBc h n) (n + 1) := by
  have b0 := a.b
  have e45 : h 70 45 = g 70 45 := a.f 70 45 (by decide) (by decide) (by decide) (by decide) (by decide) (by decide) (by decide) (by decide) (by decide) (by decide)
  have e76 : ∀ j, h 76 j = g 76 j := fun j => a.f 76 j (by decide) (by decide) (by decide) (by decide) (by decide) (by decide) (by decide) (by decide) (by decide) (fun x => absurd x.1 (by decide))
  by_cases h6 : h 76 n = 0
  · have e : mBc h n = mBd h n := if_pos h6
    have S1 : Sh (mBc h n) := Sh_bc a.S
    rw [e] at S1 ⊢
    have e30 : mBd h n 70 30 = h 70 30 := rfl
    refine ⟨S1, ?_, ?_, ?_, ?_, ?_⟩
    · intro x j x1 x2 x3 x4 x5 x6 x7 x8 x9 xa
      rw [← a.f x j x1 x2 x3 x4 x5 x6 x7 x8 x9 xa]
      unfold mBd
      simp only [up_at, x1, x2, x3, x6, x7, x8, x9, b2_T, b2_F, Int.reduceEq, Int.reduceLT, Int.reduceLE, Int.reduceAdd, Int.reduceSub, Int.reduceMul, Int.reduceNeg, reduceIte, if_true, if_false, true_or, or_true, false_or, or_false, false_and, and_false, eq_self, not_false_eq_true, not_true_eq_false, true_and, and_true, List.cons_append, List.nil_append, List.append_nil, b2_0, b2_1, b2_01, Classical.not_not]
    · intro d d0 d1
      unfold mBd
      by_cases hd : d = n
      · subst hd
        simp only [up_at, e45, b2_T, b2_F, Int.reduceEq, Int.reduceLT, Int.reduceLE, Int.reduceAdd, Int.reduceSub, Int.reduceMul, Int.reduceNeg, reduceIte, if_true, if_false, true_or, or_true, false_or, or_false, false_and, and_false, eq_self, not_false_eq_true, not_true_eq_false, true_and, and_true, List.cons_append, List.nil_append, List.append_nil, b2_0, b2_1, b2_01, Classical.not_not]
      · simp only [up_at, e45, hd, Int.add_right_inj, b2_T, b2_F, Int.reduceEq, Int.reduceLT, Int.reduceLE, Int.reduceAdd, Int.reduceSub, Int.reduceMul, Int.reduceNeg, reduceIte, if_true, if_false, true_or, or_true, false_or, or_false, false_and, and_false, eq_self, not_false_eq_true, not_true_eq_false, true_and, and_true, List.cons_append, List.nil_append, List.append_nil, b2_0, b2_1, b2_01, Classical.not_not]
        exact a.z d d0 (by omega)
    · rw [e30]; omega
    · intro d d0 d1
      rw [e30]
      unfold mBd
      by_cases hd : d = n
      · subst hd
        simp only [up_at, b2_T, b2_F, Int.reduceEq, Int.reduceLT, Int.reduceLE, Int.reduceAdd, Int.reduceSub, Int.reduceMul, Int.reduceNeg, reduceIte, if_true, if_false, true_or, or_true, false_or, or_false, false_and, and_false, eq_self, not_false_eq_true, not_true_eq_false, true_and, and_true, List.cons_append, List.nil_append, List.append_nil, b2_0, b2_1, b2_01, Classical.not_not]
      · simp only [up_at, hd, b2_T, b2_F, Int.reduceEq, Int.reduceLT, Int.reduceLE, Int.reduceAdd, Int.reduceSub, Int.reduceMul, Int.reduceNeg, reduceIte, if_true, if_false, true_or, or_true, false_or, or_false, false_and, and_false, eq_self, not_false_eq_true, not_true_eq_false, true_and, and_true, List.cons_append, List.nil_append, List.append_nil, b2_0, b2_1, b2_01, Classical.not_not]
        exact a.o d d0 (by omega)
    · intro j j0 j1
      rw [e30] at j1
      have := a.a j j0 j1
      unfold mBd
      simp only [up_at, b2_T, b2_F, Int.reduceEq, Int.reduceLT, Int.reduceLE, Int.reduceAdd, Int.reduceSub, Int.reduceMul, Int.reduceNeg, reduceIte, if_true, if_false, true_or, or_true, false_or, or_false, false_and, and_false, eq_self, not_false_eq_true, not_true_eq_false, true_and, and_true, List.cons_append, List.nil_append, List.append_nil, b2_0, b2_1, b2_01, Classical.not_not]
      exact ⟨by omega, this.2⟩
  · have e : mBc h n = up (up (up (up (mBd h n) 95 n (h 70 30)) 96 (h 70 30) n) 97 (h 70 30) (-1)) 70 30 (h 70 30 + 1) := if_neg h6
    have S1 : Sh (mBc h n) := Sh_bc a.S
    rw [e] at S1 ⊢
    have e30 : (up (up (up (up (mBd h n) 95 n (h 70 30)) 96 (h 70 30) n) 97 (h 70 30) (-1)) 70 30 (h 70 30 + 1)) 70 30 = h 70 30 + 1 := by simp only [up_at, b2_T, b2_F, Int.reduceEq, Int.reduceLT, Int.reduceLE, Int.reduceAdd, Int.reduceSub, Int.reduceMul, Int.reduceNeg, reduceIte, if_true, if_false, true_or, or_true, false_or, or_false, false_and, and_false, eq_self, not_false_eq_true, not_true_eq_false, true_and, and_true, List.cons_append, List.nil_append, List.append_nil, b2_0, b2_1, b2_01, Classical.not_not]
    refine ⟨S1, ?_, ?_, ?_, ?_, ?_⟩
    · intro x j x1 x2 x3 x4 x5 x6 x7 x8 x9 xa
      rw [← a.f x j x1 x2 x3 x4 x5 x6 x7 x8 x9 xa]
      unfold mBd
      simp only [up_at, x1, x2, x3, x4, x5, x6, x7, x8, x9, xa, b2_T, b2_F, Int.reduceEq, Int.reduceLT, Int.reduceLE, Int.reduceAdd, Int.reduceSub, Int.reduceMul, Int.reduceNeg, reduceIte, if_true, if_false, true_or, or_true, false_or, or_false, false_and, and_false, eq_self, not_false_eq_true, not_true_eq_false, true_and, and_true, List.cons_append, List.nil_append, List.append_nil, b2_0, b2_1, b2_01, Classical.not_not]
    · intro d d0 d1
      unfold mBd
      by_cases hd : d = n
      · subst hd
        simp only [up_at, e45, b2_T, b2_F, Int.reduceEq, Int.reduceLT, Int.reduceLE, Int.reduceAdd, Int.reduceSub, Int.reduceMul, Int.reduceNeg, reduceIte, if_true, if_false, true_or, or_true, false_or, or_false, false_and, and_false, eq_self, not_false_eq_true, not_true_eq_false, true_and, and_true, List.cons_append, List.nil_append, List.append_nil, b2_0, b2_1, b2_01, Classical.not_not]
      · simp only [up_at, e45, hd, Int.add_right_inj, b2_T, b2_F, Int.reduceEq, Int.reduceLT, Int.reduceLE, Int.reduceAdd, Int.reduceSub, Int.reduceMul, Int.reduceNeg, reduceIte, if_true, if_false, true_or, or_true, false_or, or_false, false_and, and_false, eq_self, not_false_eq_true, not_true_eq_false, true_and, and_true, List.cons_append, List.nil_append, List.append_nil, b2_0, b2_1, b2_01, Classical.not_not]
        exact a.z d d0 (by omega)
    · rw [e30]; omega
    · intro d d0 d1
      rw [e30]
      unfold mBd
      by_cases hd : d = n
      · subst hd
        simp only [up_at, b2_T, b2_F, Int.reduceEq, Int.reduceLT, Int.reduceLE, Int.reduceAdd, Int.reduceSub, Int.reduceMul, Int.reduceNeg, reduceIte, if_true, if_false, true_or, or_true, false_or, or_false, false_and, and_false, eq_self, not_false_eq_true, not_true_eq_false, true_and, and_true, List.cons_append, List.nil_append, List.append_nil, b2_0, b2_1, b2_01, Classical.not_not]
        right
        exact ⟨b0.1, by omega, by rw [← e76]; exact h6⟩
      · simp only [up_at, hd, b2_T, b2_F, Int.reduceEq, Int.reduceLT, Int.reduceLE, Int.reduceAdd, Int.reduceSub, Int.reduceMul, Int.reduceNeg, reduceIte, if_true, if_false, true_or, or_true, false_or, or_false, false_and, and_false, eq_self, not_false_eq_true, not_true_eq_false, true_and, and_true, List.cons_append, List.nil_append, List.append_nil, b2_0, b2_1, b2_01, Classical.not_not]
        have := a.o d d0 (by omega)
        omega
    · intro j j0 j1
      rw [e30] at j1
      unfold mBd
      by_cases hj : j = h 70 30
      · simp only [up_at, hj, b2_T, b2_F, Int.reduceEq, Int.reduceLT, Int.reduceLE, Int.reduceAdd, Int.reduceSub, Int.reduceMul, Int.reduceNeg, reduceIte, if_true, if_false, true_or, or_true, false_or, or_false, false_and, and_false, eq_self, not_false_eq_true, not_true_eq_false, true_and, and_true, List.cons_append, List.nil_append, List.append_nil, b2_0, b2_1, b2_01, Classical.not_not]
        omega
      · have := a.a j j0 (by omega)
        simp only [up_at, hj, b2_T, b2_F, Int.reduceEq, Int.reduceLT, Int.reduceLE, Int.reduceAdd, Int.reduceSub, Int.reduceMul, Int.reduceNeg, reduceIte, if_true, if_false, true_or, or_true, false_or, or_false, false_and, and_false, eq_self, not_false_eq_true, not_true_eq_false, true_and, and_true, List.cons_append, List.nil_append, List.append_nil, b2_0, b2_1, b2_01, Classical.not_not]
        exact ⟨by omega, this.2⟩
theorem BI_bl (S : Sh g) (h0 : g 70 30 = 0) : ∀ n : Nat, n ≤ 96 → BI g (mBL g n) n := by
  intro n
  induction n with
  | zero =>
    intro _
    show BI g g (0 : Nat)
    exact ⟨S, fun x j _ _ _ _ _ _ _ _ _ _ => rfl, fun d d0 d1 => by omega, by omega, fun d d0 d1 => by omega, fun j j0 j1 => by omega⟩
  | succ n ih =>
    intro hn
    exact BI_bc (ih (by omega)) (by omega)
theorem b1_f {t a j : Int} (h : ¬ a = 101) : mB1 g t a j = g a j := if_neg (fun x => h x.1)
theorem b2_f' {t a j : Int} (h : ¬ a = 91) : mB2 g t a j = g a j := if_neg (fun x => h x.1)
theorem Sh_b1 (S : Sh g) {t : Int} : Sh (mB1 g t) := fun q hq => by
  have h1 : ∀ q ∈ SL, ¬ q.1 = 101 := by decide
  rw [b1_f (h1 q hq)]
  exact S q hq
theorem Sh_b2 (S : Sh g) {t : Int} : Sh (mB2 g t) := fun q hq => by
  have h1 : ∀ q ∈ SL, ¬ q.1 = 91 := by decide
  rw [b2_f' (h1 q hq)]
  exact S q hq
theorem e163a (S : Sh g) (bk : 0 ≤ g 70 45 ∧ g 70 45 ≤ 2) : ∀ (k n : Nat), n + k = 6 → WP 163 2 [(2, 70), (0, (n : Int))] [] (dsB ++ tl) (mB1 g n) Q = WP 163 29 [(2, 70), (0, 6)] [] (dsB ++ tl) (mB1 g 6) Q := by
  intro k
  induction k with
  | zero =>
    intro n hn
    have hn : n = 6 := by omega
    subst hn
    have c1 : ((6 : Nat) : Int) = 6 := rfl
    rw [p163_2]
    simp only [p163_3, p163_5, p163_8, p163_9, p163_12, p163_14, p163_15, p163_18, p163_19, p163_20, p163_21, p163_22, p163_23, p163_26, c1, b2_T, b2_F, Int.reduceEq, Int.reduceLT, Int.reduceLE, Int.reduceAdd, Int.reduceSub, Int.reduceMul, Int.reduceNeg, reduceIte, if_true, if_false, true_or, or_true, false_or, or_false, false_and, and_false, eq_self, not_false_eq_true, not_true_eq_false, true_and, and_true, List.cons_append, List.nil_append, List.append_nil, b2_0, b2_1, b2_01, Classical.not_not, Int.lt_irrefl]
  | succ k ih =>
    intro n hn
    have i1 := ih (n + 1) (by omega)
    have c1 : ((n + 1 : Nat) : Int) = (n : Int) + 1 := rfl
    have w1 : w32 ((n : Int) + 1) = (n : Int) + 1 := w32_id (by omega) (by omega)
    have w2 : w32 (6 * g 70 45) = 6 * g 70 45 := w32_id (by omega) (by omega)
    have w3 : w32 (6 * g 70 45 + n) = 6 * g 70 45 + n := w32_id (by omega) (by omega)
    have g1 : (n : Int) < 6 := by omega
    have x0 : 0 ≤ 6 * g 70 45 + (n : Int) := by omega
    have x1 : 6 * g 70 45 + (n : Int) < 18 := by omega
    have e70 : ∀ j, mB1 g n 70 j = g 70 j := fun j => b1_f (by decide)
    have e : up (mB1 g n) 101 (6 * g 70 45 + n) 0 = mB1 g (n + 1 : Nat) := by
      apply fx
      intro a j
      simp only [up_at]
      unfold mB1
      repeat' split
      all_goals first | rfl | (exfalso; omega)
    rw [← i1, ← e, p163_2]
    simp only [p163_3, p163_5, p163_8, p163_9, p163_12, p163_14, p163_15, p163_18, p163_19, p163_20, p163_21, p163_22, p163_23, p163_26, c1, e70, w1, w2, w3, g1, x0, x1, K_70, K_72, L_72, K_73, L_73, K_74, L_74, K_75, L_75, K_76, L_76, K_86, L_86, K_87, L_87, K_88, L_88, K_89, L_89, K_90, L_90, K_91, L_91, K_92, L_92, K_93, L_93, K_94, L_94, K_95, L_95, K_96, L_96, K_97, L_97, K_98, L_98, K_99, L_99, K_100, L_100, K_101, L_101, K_102, L_102, K_103, L_103, K_104, L_104, K_105, L_105, K_106, L_106, K_107, L_107, K_108, L_108, K_109, L_109, sh_70_1 S, sh_70_2 S, sh_70_3 S, sh_70_4 S, sh_70_5 S, sh_70_17 S, sh_70_18 S, sh_70_19 S, sh_70_20 S, sh_70_21 S, sh_70_22 S, sh_70_23 S, sh_70_27 S, sh_70_28 S, sh_70_29 S, sh_70_31 S, sh_70_32 S, sh_70_33 S, sh_70_34 S, sh_70_35 S, sh_70_36 S, sh_70_37 S, sh_70_38 S, sh_70_39 S, sh_70_40 S, sh_70_41 S, sh_70_42 S, sh_70_43 S, sh_70_44 S, b2_T, b2_F, Int.reduceEq, Int.reduceLT, Int.reduceLE, Int.reduceAdd, Int.reduceSub, Int.reduceMul, Int.reduceNeg, reduceIte, if_true, if_false, true_or, or_true, false_or, or_false, false_and, and_false, eq_self, not_false_eq_true, not_true_eq_false, true_and, and_true, List.cons_append, List.nil_append, List.append_nil, b2_0, b2_1, b2_01, Classical.not_not]
theorem e163b (S : Sh g) : ∀ (k n : Nat), n + k = 520 → WP 163 31 [(2, 70), (0, (n : Int))] [] (dsB ++ tl) (mB2 g n) Q = WP 163 68 [(2, 70), (0, 0)] [] (dsB ++ tl) (mB3 (mB2 g 520)) Q := by
  intro k
  induction k with
  | zero =>
    intro n hn
    have hn : n = 520 := by omega
    subst hn
    have c1 : ((520 : Nat) : Int) = 520 := rfl
    rw [p163_31]
    unfold mB3
    simp only [p163_32, p163_35, p163_38, p163_39, p163_42, p163_43, p163_44, p163_45, p163_48, p163_51, p163_52, p163_53, p163_56, p163_57, p163_58, p163_61, p163_62, p163_63, p163_66, p163_67, c1, K_70, b2_T, b2_F, Int.reduceEq, Int.reduceLT, Int.reduceLE, Int.reduceAdd, Int.reduceSub, Int.reduceMul, Int.reduceNeg, reduceIte, if_true, if_false, true_or, or_true, false_or, or_false, false_and, and_false, eq_self, not_false_eq_true, not_true_eq_false, true_and, and_true, List.cons_append, List.nil_append, List.append_nil, b2_0, b2_1, b2_01, Classical.not_not, Int.lt_irrefl]
  | succ k ih =>
    intro n hn
    have i1 := ih (n + 1) (by omega)
    have c1 : ((n + 1 : Nat) : Int) = (n : Int) + 1 := rfl
    have w1 : w32 ((n : Int) + 1) = (n : Int) + 1 := w32_id (by omega) (by omega)
    have g0 : 0 ≤ (n : Int) := by omega
    have g1 : (n : Int) < 520 := by omega
    have e70 : ∀ j, mB2 g n 70 j = g 70 j := fun j => b2_f' (by decide)
    have e : up (mB2 g n) 91 n (-1) = mB2 g (n + 1 : Nat) := by
      apply fx
      intro a j
      simp only [up_at]
      unfold mB2
      repeat' split
      all_goals first | rfl | (exfalso; omega)
    rw [← i1, ← e, p163_31]
    simp only [p163_32, p163_35, p163_38, p163_39, p163_42, p163_43, p163_44, p163_45, p163_48, c1, e70, w1, g0, g1, K_70, K_72, L_72, K_73, L_73, K_74, L_74, K_75, L_75, K_76, L_76, K_86, L_86, K_87, L_87, K_88, L_88, K_89, L_89, K_90, L_90, K_91, L_91, K_92, L_92, K_93, L_93, K_94, L_94, K_95, L_95, K_96, L_96, K_97, L_97, K_98, L_98, K_99, L_99, K_100, L_100, K_101, L_101, K_102, L_102, K_103, L_103, K_104, L_104, K_105, L_105, K_106, L_106, K_107, L_107, K_108, L_108, K_109, L_109, sh_70_1 S, sh_70_2 S, sh_70_3 S, sh_70_4 S, sh_70_5 S, sh_70_17 S, sh_70_18 S, sh_70_19 S, sh_70_20 S, sh_70_21 S, sh_70_22 S, sh_70_23 S, sh_70_27 S, sh_70_28 S, sh_70_29 S, sh_70_31 S, sh_70_32 S, sh_70_33 S, sh_70_34 S, sh_70_35 S, sh_70_36 S, sh_70_37 S, sh_70_38 S, sh_70_39 S, sh_70_40 S, sh_70_41 S, sh_70_42 S, sh_70_43 S, sh_70_44 S, b2_T, b2_F, Int.reduceEq, Int.reduceLT, Int.reduceLE, Int.reduceAdd, Int.reduceSub, Int.reduceMul, Int.reduceNeg, reduceIte, if_true, if_false, true_or, or_true, false_or, or_false, false_and, and_false, eq_self, not_false_eq_true, not_true_eq_false, true_and, and_true, List.cons_append, List.nil_append, List.append_nil, b2_0, b2_1, b2_01, Classical.not_not]
theorem bc1 {n : Int} (S : Sh h) (bk : 0 ≤ h 70 45 ∧ h 70 45 ≤ 2) (hn : 0 ≤ n ∧ n < 96) (b : 0 ≤ h 70 30 ∧ h 70 30 ≤ n) : WP 163 68 [(2, 70), (0, n)] [] (dsB ++ tl) h Q = WP 163 68 [(2, 70), (0, n + 1)] [] (dsB ++ tl) (mBc h n) Q := by
  have g0 := hn.1
  have g1 := hn.2
  have b0 := b.1
  have b1 : h 70 30 < 96 := by omega
  have w1 : w32 (n + 1) = n + 1 := w32_id (by omega) (by omega)
  have w2 : w32 (96 * h 70 45) = 96 * h 70 45 := w32_id (by omega) (by omega)
  have w3 : w32 (96 * h 70 45 + n) = 96 * h 70 45 + n := w32_id (by omega) (by omega)
  have w4 : w32 (h 70 30 + 1) = h 70 30 + 1 := w32_id (by omega) (by omega)
  have x0 : 0 ≤ 96 * h 70 45 + n := by omega
  have x1 : 96 * h 70 45 + n < 288 := by omega
  rw [p163_68]
  unfold mBc mBd
  by_cases h6 : h 76 n = 0
  · simp only [if_pos h6]
    simp only [p163_69, p163_71, p163_74, p163_75, p163_78, p163_79, p163_80, p163_81, p163_82, p163_85, p163_86, p163_87, p163_88, p163_89, p163_92, p163_93, p163_94, p163_95, p163_96, p163_99, p163_101, p163_102, p163_105, p163_106, p163_107, p163_108, p163_109, p163_110, p163_111, p163_114, p163_116, p163_117, p163_120, p163_121, p163_122, p163_123, p163_124, p163_125, p163_126, p163_129, p163_131, p163_132, p163_135, p163_136, p163_137, p163_138, p163_139, p163_140, p163_141, p163_144, p163_146, p163_147, p163_150, p163_151, p163_152, p163_153, p163_154, p163_155, p163_156, p163_159, p163_160, p163_161, p163_164, p163_165, p163_168, p163_169, p163_170, p163_173, p163_174, p163_175, p163_178, p163_179, p163_182, p163_183, p163_184, p163_185, p163_188, p163_189, p163_192, p163_193, p163_194, p163_195, p163_196, p163_199, p163_200, p163_201, p163_204, p163_207, K_70, K_72, L_72, K_73, L_73, K_74, L_74, K_75, L_75, K_76, L_76, K_86, L_86, K_87, L_87, K_88, L_88, K_89, L_89, K_90, L_90, K_91, L_91, K_92, L_92, K_93, L_93, K_94, L_94, K_95, L_95, K_96, L_96, K_97, L_97, K_98, L_98, K_99, L_99, K_100, L_100, K_101, L_101, K_102, L_102, K_103, L_103, K_104, L_104, K_105, L_105, K_106, L_106, K_107, L_107, K_108, L_108, K_109, L_109, sh_70_1 S, sh_70_2 S, sh_70_3 S, sh_70_4 S, sh_70_5 S, sh_70_17 S, sh_70_18 S, sh_70_19 S, sh_70_20 S, sh_70_21 S, sh_70_22 S, sh_70_23 S, sh_70_27 S, sh_70_28 S, sh_70_29 S, sh_70_31 S, sh_70_32 S, sh_70_33 S, sh_70_34 S, sh_70_35 S, sh_70_36 S, sh_70_37 S, sh_70_38 S, sh_70_39 S, sh_70_40 S, sh_70_41 S, sh_70_42 S, sh_70_43 S, sh_70_44 S, g0, g1, h6, w1, w2, w3, x0, x1, up_at, b2_T, b2_F, Int.reduceEq, Int.reduceLT, Int.reduceLE, Int.reduceAdd, Int.reduceSub, Int.reduceMul, Int.reduceNeg, reduceIte, if_true, if_false, true_or, or_true, false_or, or_false, false_and, and_false, eq_self, not_false_eq_true, not_true_eq_false, true_and, and_true, List.cons_append, List.nil_append, List.append_nil, b2_0, b2_1, b2_01, Classical.not_not]
  · simp only [if_neg h6]
    simp only [p163_69, p163_71, p163_74, p163_75, p163_78, p163_79, p163_80, p163_81, p163_82, p163_85, p163_86, p163_87, p163_88, p163_89, p163_92, p163_93, p163_94, p163_95, p163_96, p163_99, p163_101, p163_102, p163_105, p163_106, p163_107, p163_108, p163_109, p163_110, p163_111, p163_114, p163_116, p163_117, p163_120, p163_121, p163_122, p163_123, p163_124, p163_125, p163_126, p163_129, p163_131, p163_132, p163_135, p163_136, p163_137, p163_138, p163_139, p163_140, p163_141, p163_144, p163_146, p163_147, p163_150, p163_151, p163_152, p163_153, p163_154, p163_155, p163_156, p163_159, p163_160, p163_161, p163_164, p163_165, p163_168, p163_169, p163_170, p163_173, p163_174, p163_175, p163_178, p163_179, p163_182, p163_183, p163_184, p163_185, p163_188, p163_189, p163_192, p163_193, p163_194, p163_195, p163_196, p163_199, p163_200, p163_201, p163_204, p163_207, K_70, K_72, L_72, K_73, L_73, K_74, L_74, K_75, L_75, K_76, L_76, K_86, L_86, K_87, L_87, K_88, L_88, K_89, L_89, K_90, L_90, K_91, L_91, K_92, L_92, K_93, L_93, K_94, L_94, K_95, L_95, K_96, L_96, K_97, L_97, K_98, L_98, K_99, L_99, K_100, L_100, K_101, L_101, K_102, L_102, K_103, L_103, K_104, L_104, K_105, L_105, K_106, L_106, K_107, L_107, K_108, L_108, K_109, L_109, sh_70_1 S, sh_70_2 S, sh_70_3 S, sh_70_4 S, sh_70_5 S, sh_70_17 S, sh_70_18 S, sh_70_19 S, sh_70_20 S, sh_70_21 S, sh_70_22 S, sh_70_23 S, sh_70_27 S, sh_70_28 S, sh_70_29 S, sh_70_31 S, sh_70_32 S, sh_70_33 S, sh_70_34 S, sh_70_35 S, sh_70_36 S, sh_70_37 S, sh_70_38 S, sh_70_39 S, sh_70_40 S, sh_70_41 S, sh_70_42 S, sh_70_43 S, sh_70_44 S, g0, g1, b0, b1, h6, w1, w2, w3, w4, x0, x1, up_at, b2_T, b2_F, Int.reduceEq, Int.reduceLT, Int.reduceLE, Int.reduceAdd, Int.reduceSub, Int.reduceMul, Int.reduceNeg, reduceIte, if_true, if_false, true_or, or_true, false_or, or_false, false_and, and_false, eq_self, not_false_eq_true, not_true_eq_false, true_and, and_true, List.cons_append, List.nil_append, List.append_nil, b2_0, b2_1, b2_01, Classical.not_not]
theorem e163c (S : Sh g) (bk : 0 ≤ g 70 45 ∧ g 70 45 ≤ 2) (h0 : g 70 30 = 0) : ∀ (k n : Nat), n + k = 96 → WP 163 68 [(2, 70), (0, (n : Int))] [] (dsB ++ tl) (mBL g n) Q = WP 163 217 [(2, 70), (0, 0)] [] (dsB ++ tl) (up (mBL g 96) 70 26 0) Q := by
  intro k
  induction k with
  | zero =>
    intro n hn
    have hn : n = 96 := by omega
    subst hn
    have c1 : ((96 : Nat) : Int) = 96 := rfl
    rw [p163_68]
    simp only [p163_69, p163_71, p163_210, p163_211, p163_212, p163_215, p163_216, c1, K_70, b2_T, b2_F, Int.reduceEq, Int.reduceLT, Int.reduceLE, Int.reduceAdd, Int.reduceSub, Int.reduceMul, Int.reduceNeg, reduceIte, if_true, if_false, true_or, or_true, false_or, or_false, false_and, and_false, eq_self, not_false_eq_true, not_true_eq_false, true_and, and_true, List.cons_append, List.nil_append, List.append_nil, b2_0, b2_1, b2_01, Classical.not_not, Int.lt_irrefl]
  | succ k ih =>
    intro n hn
    have i1 := ih (n + 1) (by omega)
    have c1 : ((n + 1 : Nat) : Int) = (n : Int) + 1 := rfl
    have a := BI_bl S h0 n (by omega)
    have e45 : mBL g n 70 45 = g 70 45 := a.f 70 45 (by decide) (by decide) (by decide) (by decide) (by decide) (by decide) (by decide) (by decide) (by decide) (by decide)
    rw [← i1, bc1 a.S (by rw [e45]; exact bk) (by omega) a.b]
    rfl
end BEGIN
