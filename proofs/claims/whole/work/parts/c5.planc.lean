/-! the class's Plan: counts, move, become -/
def sm (f : Int → Int) : Nat → Int
  | 0 => 0
  | n + 1 => sm f n + f n
theorem sm_b {f : Int → Int} (h : ∀ c, 0 ≤ f c ∧ f c ≤ 1) : ∀ n : Nat, 0 ≤ sm f n ∧ sm f n ≤ n
  | 0 => ⟨Int.le_refl 0, Int.le_refl 0⟩
  | n + 1 => by
    have h1 := sm_b h n
    have h2 := h n
    have h3 : sm f (n + 1) = sm f n + f n := rfl
    rw [h3]
    omega
theorem b2_b (p : Prop) [Decidable p] : 0 ≤ b2 p ∧ b2 p ≤ 1 := by
  unfold b2
  split <;> omega
theorem sm_cg {f g : Int → Int} : ∀ n : Nat, (∀ c : Int, 0 ≤ c → c < n → f c = g c) → sm f n = sm g n
  | 0, _ => rfl
  | n + 1, h => by
    have h3 : sm f (n + 1) = sm f n + f n := rfl
    have h4 : sm g (n + 1) = sm g n + g n := rfl
    rw [h3, h4, sm_cg n (fun c a b => h c a (by omega)), h n (by omega) (by omega)]
section PLANC
variable {ds : Ds} {m : Mm} {Q : Ds → Mm → List MV → Prop} {p : Int}
theorem e40l (h : PA ds m p) : ∀ (k n : Nat), n + k = 96 → WP 40 4 [(2, p), (0, sm (fun c => b2 (¬ m (p + 1) c = 0)) n), (0, (n : Int))] [] ds m Q = Q ds m [(0, sm (fun c => b2 (¬ m (p + 1) c = 0)) 96)] := by
  obtain ⟨g0, ⟨g1, g2, g3, g4, g5, g6, g7, g8⟩, ⟨k1, k2, k3, k4, k5, k6, k7, k8⟩, ⟨n1, n2, n3, n4, n5, n6, n7, n8⟩⟩ := h
  intro k
  induction k with
  | zero =>
    intro n hn
    have hn : n = 96 := by omega
    subst hn
    have c1 : ((96 : Nat) : Int) = 96 := rfl
    rw [p40_4]
    simp only [p40_0, p40_1, p40_2, p40_3, p40_5, p40_7, p40_10, p40_11, p40_12, p40_15, p40_16, p40_17, p40_20, p40_21, p40_24, p40_25, p40_26, p40_27, p40_30, p40_33, p40_34, c1, b2_T, b2_F, Int.reduceEq, Int.reduceLT, Int.reduceLE, Int.reduceAdd, Int.reduceSub, Int.reduceMul, Int.reduceNeg, reduceIte, if_true, if_false, true_or, or_true, false_or, or_false, false_and, and_false, eq_self, not_false_eq_true, not_true_eq_false, true_and, and_true, List.cons_append, List.nil_append, List.append_nil, b2_0, b2_1, b2_01, Classical.not_not, Int.lt_irrefl]
  | succ k ih =>
    intro n hn
    have i1 := ih (n + 1) (by omega)
    have c1 : ((n + 1 : Nat) : Int) = (n : Int) + 1 := rfl
    have c2 : sm (fun c => b2 (¬ m (p + 1) c = 0)) (n + 1) = sm (fun c => b2 (¬ m (p + 1) c = 0)) n + b2 (¬ m (p + 1) n = 0) := rfl
    have c3 := sm_b (f := fun c => b2 (¬ m (p + 1) c = 0)) (fun c => b2_b _) n
    rw [c1, c2] at i1
    generalize sm (fun c => b2 (¬ m (p + 1) c = 0)) n = v at *
    have w1 : w32 ((n : Int) + 1) = n + 1 := w32_id (by omega) (by omega)
    have w2 : w32 (v + 1) = v + 1 := w32_id (by omega) (by omega)
    have w3 : w32 (v + 0) = v + 0 := w32_id (by omega) (by omega)
    have h0 : 0 ≤ (n : Int) := by omega
    have h1 : (n : Int) < 96 := by omega
    rw [p40_4]
    by_cases hk : m (p + 1) n = 0
    · rw [b2_f (by simpa using hk)] at i1
      simp only [p40_0, p40_1, p40_2, p40_3, p40_5, p40_7, p40_10, p40_11, p40_12, p40_15, p40_16, p40_17, p40_20, p40_21, p40_24, p40_25, p40_26, p40_27, p40_30, p40_33, p40_34, g0, g1, g2, g3, g4, g5, g6, g7, g8, k1, k2, k3, k4, k5, k6, k7, k8, n1, n2, n3, n4, n5, n6, n7, n8, h0, h1, hk, w1, w3, b2_T, b2_F, Int.reduceEq, Int.reduceLT, Int.reduceLE, Int.reduceAdd, Int.reduceSub, Int.reduceMul, Int.reduceNeg, reduceIte, if_true, if_false, true_or, or_true, false_or, or_false, false_and, and_false, eq_self, not_false_eq_true, not_true_eq_false, true_and, and_true, List.cons_append, List.nil_append, List.append_nil, b2_0, b2_1, b2_01, Classical.not_not]
      exact i1
    · rw [b2_t hk] at i1
      simp only [p40_0, p40_1, p40_2, p40_3, p40_5, p40_7, p40_10, p40_11, p40_12, p40_15, p40_16, p40_17, p40_20, p40_21, p40_24, p40_25, p40_26, p40_27, p40_30, p40_33, p40_34, g0, g1, g2, g3, g4, g5, g6, g7, g8, k1, k2, k3, k4, k5, k6, k7, k8, n1, n2, n3, n4, n5, n6, n7, n8, h0, h1, hk, w1, w2, b2_T, b2_F, Int.reduceEq, Int.reduceLT, Int.reduceLE, Int.reduceAdd, Int.reduceSub, Int.reduceMul, Int.reduceNeg, reduceIte, if_true, if_false, true_or, or_true, false_or, or_false, false_and, and_false, eq_self, not_false_eq_true, not_true_eq_false, true_and, and_true, List.cons_append, List.nil_append, List.append_nil, b2_0, b2_1, b2_01, Classical.not_not]
      exact i1
theorem e40 (h : PA ds m p) : WP 40 0 [(2, p), (3, 0), (3, 0)] [] ds m Q = Q ds m [(0, sm (fun c => b2 (¬ m (p + 1) c = 0)) 96)] := by
  refine Eq.trans ?_ (e40l h 96 0 rfl)
  simp only [p40_0, p40_1, p40_2, p40_3]
  rfl
theorem e41l (h : PA ds m p) : ∀ (k n : Nat), n + k = 96 → WP 41 4 [(2, p), (0, sm (fun c => b2 (m (p + 1) c = 8)) n), (0, (n : Int))] [] ds m Q = Q ds m [(0, sm (fun c => b2 (m (p + 1) c = 8)) 96)] := by
  obtain ⟨g0, ⟨g1, g2, g3, g4, g5, g6, g7, g8⟩, ⟨k1, k2, k3, k4, k5, k6, k7, k8⟩, ⟨n1, n2, n3, n4, n5, n6, n7, n8⟩⟩ := h
  intro k
  induction k with
  | zero =>
    intro n hn
    have hn : n = 96 := by omega
    subst hn
    have c1 : ((96 : Nat) : Int) = 96 := rfl
    rw [p41_4]
    simp only [p41_0, p41_1, p41_2, p41_3, p41_5, p41_7, p41_10, p41_11, p41_12, p41_15, p41_16, p41_17, p41_19, p41_22, p41_23, p41_26, p41_27, p41_28, p41_29, p41_32, p41_35, p41_36, c1, b2_T, b2_F, Int.reduceEq, Int.reduceLT, Int.reduceLE, Int.reduceAdd, Int.reduceSub, Int.reduceMul, Int.reduceNeg, reduceIte, if_true, if_false, true_or, or_true, false_or, or_false, false_and, and_false, eq_self, not_false_eq_true, not_true_eq_false, true_and, and_true, List.cons_append, List.nil_append, List.append_nil, b2_0, b2_1, b2_01, Classical.not_not, Int.lt_irrefl]
  | succ k ih =>
    intro n hn
    have i1 := ih (n + 1) (by omega)
    have c1 : ((n + 1 : Nat) : Int) = (n : Int) + 1 := rfl
    have c2 : sm (fun c => b2 (m (p + 1) c = 8)) (n + 1) = sm (fun c => b2 (m (p + 1) c = 8)) n + b2 (m (p + 1) n = 8) := rfl
    have c3 := sm_b (f := fun c => b2 (m (p + 1) c = 8)) (fun c => b2_b _) n
    rw [c1, c2] at i1
    generalize sm (fun c => b2 (m (p + 1) c = 8)) n = v at *
    have w1 : w32 ((n : Int) + 1) = n + 1 := w32_id (by omega) (by omega)
    have w2 : w32 (v + 1) = v + 1 := w32_id (by omega) (by omega)
    have w3 : w32 (v + 0) = v + 0 := w32_id (by omega) (by omega)
    have h0 : 0 ≤ (n : Int) := by omega
    have h1 : (n : Int) < 96 := by omega
    rw [p41_4]
    by_cases hk : m (p + 1) n = 8
    · rw [b2_t hk] at i1
      simp only [p41_0, p41_1, p41_2, p41_3, p41_5, p41_7, p41_10, p41_11, p41_12, p41_15, p41_16, p41_17, p41_19, p41_22, p41_23, p41_26, p41_27, p41_28, p41_29, p41_32, p41_35, p41_36, g0, g1, g2, g3, g4, g5, g6, g7, g8, k1, k2, k3, k4, k5, k6, k7, k8, n1, n2, n3, n4, n5, n6, n7, n8, h0, h1, hk, w1, w2, b2_T, b2_F, Int.reduceEq, Int.reduceLT, Int.reduceLE, Int.reduceAdd, Int.reduceSub, Int.reduceMul, Int.reduceNeg, reduceIte, if_true, if_false, true_or, or_true, false_or, or_false, false_and, and_false, eq_self, not_false_eq_true, not_true_eq_false, true_and, and_true, List.cons_append, List.nil_append, List.append_nil, b2_0, b2_1, b2_01, Classical.not_not]
      exact i1
    · rw [b2_f hk] at i1
      simp only [p41_0, p41_1, p41_2, p41_3, p41_5, p41_7, p41_10, p41_11, p41_12, p41_15, p41_16, p41_17, p41_19, p41_22, p41_23, p41_26, p41_27, p41_28, p41_29, p41_32, p41_35, p41_36, g0, g1, g2, g3, g4, g5, g6, g7, g8, k1, k2, k3, k4, k5, k6, k7, k8, n1, n2, n3, n4, n5, n6, n7, n8, h0, h1, hk, w1, w3, b2_T, b2_F, Int.reduceEq, Int.reduceLT, Int.reduceLE, Int.reduceAdd, Int.reduceSub, Int.reduceMul, Int.reduceNeg, reduceIte, if_true, if_false, true_or, or_true, false_or, or_false, false_and, and_false, eq_self, not_false_eq_true, not_true_eq_false, true_and, and_true, List.cons_append, List.nil_append, List.append_nil, b2_0, b2_1, b2_01, Classical.not_not]
      exact i1
theorem e41 (h : PA ds m p) : WP 41 0 [(2, p), (3, 0), (3, 0)] [] ds m Q = Q ds m [(0, sm (fun c => b2 (m (p + 1) c = 8)) 96)] := by
  refine Eq.trans ?_ (e41l h 96 0 rfl)
  simp only [p41_0, p41_1, p41_2, p41_3]
  rfl
theorem e42l (h : PA ds m p) : ∀ (k n : Nat), n + k = 96 → WP 42 4 [(2, p), (0, sm (fun c => b2 (¬ m (p + 5) c = 0)) n), (0, (n : Int))] [] ds m Q = Q ds m [(0, sm (fun c => b2 (¬ m (p + 5) c = 0)) 96)] := by
  obtain ⟨g0, ⟨g1, g2, g3, g4, g5, g6, g7, g8⟩, ⟨k1, k2, k3, k4, k5, k6, k7, k8⟩, ⟨n1, n2, n3, n4, n5, n6, n7, n8⟩⟩ := h
  intro k
  induction k with
  | zero =>
    intro n hn
    have hn : n = 96 := by omega
    subst hn
    have c1 : ((96 : Nat) : Int) = 96 := rfl
    rw [p42_4]
    simp only [p42_0, p42_1, p42_2, p42_3, p42_5, p42_7, p42_10, p42_11, p42_12, p42_15, p42_16, p42_17, p42_20, p42_21, p42_24, p42_25, p42_26, p42_27, p42_30, p42_33, p42_34, c1, b2_T, b2_F, Int.reduceEq, Int.reduceLT, Int.reduceLE, Int.reduceAdd, Int.reduceSub, Int.reduceMul, Int.reduceNeg, reduceIte, if_true, if_false, true_or, or_true, false_or, or_false, false_and, and_false, eq_self, not_false_eq_true, not_true_eq_false, true_and, and_true, List.cons_append, List.nil_append, List.append_nil, b2_0, b2_1, b2_01, Classical.not_not, Int.lt_irrefl]
  | succ k ih =>
    intro n hn
    have i1 := ih (n + 1) (by omega)
    have c1 : ((n + 1 : Nat) : Int) = (n : Int) + 1 := rfl
    have c2 : sm (fun c => b2 (¬ m (p + 5) c = 0)) (n + 1) = sm (fun c => b2 (¬ m (p + 5) c = 0)) n + b2 (¬ m (p + 5) n = 0) := rfl
    have c3 := sm_b (f := fun c => b2 (¬ m (p + 5) c = 0)) (fun c => b2_b _) n
    rw [c1, c2] at i1
    generalize sm (fun c => b2 (¬ m (p + 5) c = 0)) n = v at *
    have w1 : w32 ((n : Int) + 1) = n + 1 := w32_id (by omega) (by omega)
    have w2 : w32 (v + 1) = v + 1 := w32_id (by omega) (by omega)
    have w3 : w32 (v + 0) = v + 0 := w32_id (by omega) (by omega)
    have h0 : 0 ≤ (n : Int) := by omega
    have h1 : (n : Int) < 96 := by omega
    rw [p42_4]
    by_cases hk : m (p + 5) n = 0
    · rw [b2_f (by simpa using hk)] at i1
      simp only [p42_0, p42_1, p42_2, p42_3, p42_5, p42_7, p42_10, p42_11, p42_12, p42_15, p42_16, p42_17, p42_20, p42_21, p42_24, p42_25, p42_26, p42_27, p42_30, p42_33, p42_34, g0, g1, g2, g3, g4, g5, g6, g7, g8, k1, k2, k3, k4, k5, k6, k7, k8, n1, n2, n3, n4, n5, n6, n7, n8, h0, h1, hk, w1, w3, b2_T, b2_F, Int.reduceEq, Int.reduceLT, Int.reduceLE, Int.reduceAdd, Int.reduceSub, Int.reduceMul, Int.reduceNeg, reduceIte, if_true, if_false, true_or, or_true, false_or, or_false, false_and, and_false, eq_self, not_false_eq_true, not_true_eq_false, true_and, and_true, List.cons_append, List.nil_append, List.append_nil, b2_0, b2_1, b2_01, Classical.not_not]
      exact i1
    · rw [b2_t hk] at i1
      simp only [p42_0, p42_1, p42_2, p42_3, p42_5, p42_7, p42_10, p42_11, p42_12, p42_15, p42_16, p42_17, p42_20, p42_21, p42_24, p42_25, p42_26, p42_27, p42_30, p42_33, p42_34, g0, g1, g2, g3, g4, g5, g6, g7, g8, k1, k2, k3, k4, k5, k6, k7, k8, n1, n2, n3, n4, n5, n6, n7, n8, h0, h1, hk, w1, w2, b2_T, b2_F, Int.reduceEq, Int.reduceLT, Int.reduceLE, Int.reduceAdd, Int.reduceSub, Int.reduceMul, Int.reduceNeg, reduceIte, if_true, if_false, true_or, or_true, false_or, or_false, false_and, and_false, eq_self, not_false_eq_true, not_true_eq_false, true_and, and_true, List.cons_append, List.nil_append, List.append_nil, b2_0, b2_1, b2_01, Classical.not_not]
      exact i1
theorem e42 (h : PA ds m p) : WP 42 0 [(2, p), (3, 0), (3, 0)] [] ds m Q = Q ds m [(0, sm (fun c => b2 (¬ m (p + 5) c = 0)) 96)] := by
  refine Eq.trans ?_ (e42l h 96 0 rfl)
  simp only [p42_0, p42_1, p42_2, p42_3]
  rfl
/-- what move leaves -/
def mov (m : Mm) (p c o : Int) : Mm :=
  if ¬ m (p + 5) c = 0 then up (up m (p + 5) c 0) (p + 5) o 1
  else
    let t := if m (p + 1) c = 3 then m (p + 4) c else -1
    let m1 := up (plc m p o (m (p + 1) c) (m (p + 2) c) (m (p + 3) c)) (p + 4) o t
    clr (if 0 ≤ t ∧ t < 96 then up m1 (p + 4) t o else m1) p c
theorem plc_p {c k a b i : Int} : plc m p c k a b p i = m p i := by
  simp only [plc, up_at, sn1, sn2, sn3, sn4, sn5, sn6, sn7, sn8, ns1, ns2, ns3, ns4, ns5, ns6, ns7, ns8, Int.add_right_inj, b2_T, b2_F, Int.reduceEq, Int.reduceLT, Int.reduceLE, Int.reduceAdd, Int.reduceSub, Int.reduceMul, Int.reduceNeg, reduceIte, if_true, if_false, true_or, or_true, false_or, or_false, false_and, and_false, eq_self, not_false_eq_true, not_true_eq_false, true_and, and_true, List.cons_append, List.nil_append, List.append_nil, b2_0, b2_1, b2_01, Classical.not_not]
theorem e38 {c o : Int} (h : PA ds m p) (hc : 0 ≤ c ∧ c < 96) (ho : 0 ≤ o ∧ o < 96) : WP 38 0 [(2, p), (0, c), (0, o), (3, 0)] [] ds m Q = Q ds (mov m p c o) [] := by
  have h0 := h
  have hv : ∀ k a b t : Int, PA ds (up (plc m p o k a b) (p + 4) o t) p := fun k a b t => PA_up (PA_plc h0) (by omega)
  have hw : ∀ k a b t u : Int, PA ds (up (up (plc m p o k a b) (p + 4) o t) (p + 4) u o) p := fun k a b t u => PA_up (hv k a b t) (by omega)
  obtain ⟨g0, ⟨g1, g2, g3, g4, g5, g6, g7, g8⟩, ⟨k1, k2, k3, k4, k5, k6, k7, k8⟩, ⟨n1, n2, n3, n4, n5, n6, n7, n8⟩⟩ := h
  unfold mov
  by_cases hb : m (p + 5) c = 0
  · by_cases hk : m (p + 1) c = 3
    · by_cases ht : 0 ≤ m (p + 4) c ∧ m (p + 4) c < 96
      · simp only [p38_0, p38_1, p38_4, p38_7, p38_8, p38_11, p38_14, p38_15, p38_16, p38_19, p38_20, p38_21, p38_24, p38_25, p38_28, p38_29, p38_30, p38_31, p38_32, p38_35, p38_36, p38_37, p38_38, p38_39, p38_40, p38_41, p38_44, p38_45, p38_46, p38_47, p38_48, p38_51, p38_52, p38_53, p38_54, p38_57, p38_58, p38_59, p38_60, p38_63, p38_64, p38_65, p38_68, p38_69, p38_72, p38_73, p38_74, p38_75, p38_76, p38_79, p38_82, p38_83, p38_86, p38_87, p38_88, p38_89, p38_90, p38_91, p38_94, e107, e27 h0, e34 h0, e37 (hw _ _ _ _ _), hc, ho, hb, hk, ht, g0, g1, g2, g3, g4, g5, g6, g7, g8, k1, k2, k3, k4, k5, k6, k7, k8, n1, n2, n3, n4, n5, n6, n7, n8, plc_p, up_at, sn1, sn2, sn3, sn4, sn5, sn6, sn7, sn8, ns1, ns2, ns3, ns4, ns5, ns6, ns7, ns8, Int.add_right_inj, b2_T, b2_F, Int.reduceEq, Int.reduceLT, Int.reduceLE, Int.reduceAdd, Int.reduceSub, Int.reduceMul, Int.reduceNeg, reduceIte, if_true, if_false, true_or, or_true, false_or, or_false, false_and, and_false, eq_self, not_false_eq_true, not_true_eq_false, true_and, and_true, List.cons_append, List.nil_append, List.append_nil, b2_0, b2_1, b2_01, Classical.not_not]
      · simp only [p38_0, p38_1, p38_4, p38_7, p38_8, p38_11, p38_14, p38_15, p38_16, p38_19, p38_20, p38_21, p38_24, p38_25, p38_28, p38_29, p38_30, p38_31, p38_32, p38_35, p38_36, p38_37, p38_38, p38_39, p38_40, p38_41, p38_44, p38_45, p38_46, p38_47, p38_48, p38_51, p38_52, p38_53, p38_54, p38_57, p38_58, p38_59, p38_60, p38_63, p38_64, p38_65, p38_68, p38_69, p38_72, p38_73, p38_74, p38_75, p38_76, p38_79, p38_82, p38_83, p38_86, p38_87, p38_88, p38_89, p38_90, p38_91, p38_94, e107, e27 h0, e34 h0, e37 (hv _ _ _ _), hc, ho, hb, hk, ht, g0, g1, g2, g3, g4, g5, g6, g7, g8, k1, k2, k3, k4, k5, k6, k7, k8, n1, n2, n3, n4, n5, n6, n7, n8, plc_p, up_at, sn1, sn2, sn3, sn4, sn5, sn6, sn7, sn8, ns1, ns2, ns3, ns4, ns5, ns6, ns7, ns8, Int.add_right_inj, b2_T, b2_F, Int.reduceEq, Int.reduceLT, Int.reduceLE, Int.reduceAdd, Int.reduceSub, Int.reduceMul, Int.reduceNeg, reduceIte, if_true, if_false, true_or, or_true, false_or, or_false, false_and, and_false, eq_self, not_false_eq_true, not_true_eq_false, true_and, and_true, List.cons_append, List.nil_append, List.append_nil, b2_0, b2_1, b2_01, Classical.not_not]
    · have ht : ¬ (0 ≤ (-1 : Int) ∧ (-1 : Int) < 96) := by omega
      simp only [p38_0, p38_1, p38_4, p38_7, p38_8, p38_11, p38_14, p38_15, p38_16, p38_19, p38_20, p38_21, p38_24, p38_25, p38_28, p38_29, p38_30, p38_31, p38_32, p38_35, p38_36, p38_37, p38_38, p38_39, p38_40, p38_41, p38_44, p38_45, p38_46, p38_47, p38_48, p38_51, p38_52, p38_53, p38_54, p38_57, p38_58, p38_59, p38_60, p38_63, p38_64, p38_65, p38_68, p38_69, p38_72, p38_73, p38_74, p38_75, p38_76, p38_79, p38_82, p38_83, p38_86, p38_87, p38_88, p38_89, p38_90, p38_91, p38_94, e107, e27 h0, e34 h0, e37 (hv _ _ _ _), hc, ho, hb, hk, ht, g0, g1, g2, g3, g4, g5, g6, g7, g8, k1, k2, k3, k4, k5, k6, k7, k8, n1, n2, n3, n4, n5, n6, n7, n8, plc_p, up_at, sn1, sn2, sn3, sn4, sn5, sn6, sn7, sn8, ns1, ns2, ns3, ns4, ns5, ns6, ns7, ns8, Int.add_right_inj, b2_T, b2_F, Int.reduceEq, Int.reduceLT, Int.reduceLE, Int.reduceAdd, Int.reduceSub, Int.reduceMul, Int.reduceNeg, reduceIte, if_true, if_false, true_or, or_true, false_or, or_false, false_and, and_false, eq_self, not_false_eq_true, not_true_eq_false, true_and, and_true, List.cons_append, List.nil_append, List.append_nil, b2_0, b2_1, b2_01, Classical.not_not]
  · simp only [p38_0, p38_1, p38_4, p38_7, p38_8, p38_11, p38_14, p38_15, p38_16, p38_19, p38_20, p38_21, p38_24, p38_25, p38_28, p38_29, p38_30, p38_31, p38_32, p38_35, p38_36, p38_37, p38_38, p38_39, p38_40, p38_41, p38_44, p38_45, p38_46, p38_47, p38_48, p38_51, p38_52, p38_53, p38_54, p38_57, p38_58, p38_59, p38_60, p38_63, p38_64, p38_65, p38_68, p38_69, p38_72, p38_73, p38_74, p38_75, p38_76, p38_79, p38_82, p38_83, p38_86, p38_87, p38_88, p38_89, p38_90, p38_91, p38_94, e107, hc, ho, hb, g0, g1, g2, g3, g4, g5, g6, g7, g8, k1, k2, k3, k4, k5, k6, k7, k8, n1, n2, n3, n4, n5, n6, n7, n8, up_at, sn1, sn2, sn3, sn4, sn5, sn6, sn7, sn8, ns1, ns2, ns3, ns4, ns5, ns6, ns7, ns8, Int.add_right_inj, b2_T, b2_F, Int.reduceEq, Int.reduceLT, Int.reduceLE, Int.reduceAdd, Int.reduceSub, Int.reduceMul, Int.reduceNeg, reduceIte, if_true, if_false, true_or, or_true, false_or, or_false, false_and, and_false, eq_self, not_false_eq_true, not_true_eq_false, true_and, and_true, List.cons_append, List.nil_append, List.append_nil, b2_0, b2_1, b2_01, Classical.not_not]
end PLANC
