/-! the class's run: it begins, related -/
/-- balls laid up to cell n: class (h), reference (q) -/
abbrev BL (h : Mm) (r : Int) (q : Mm) (n : Int) : Prop := (∀ d, 0 ≤ d → d < n → h (r + 7) d = q 95 d) ∧ (h (r + 6) 6 = q 70 30) ∧ (∀ j, 0 ≤ j → j < q 70 30 → h (r + 8) j = q 96 j ∧ h (r + 9) j = -1) ∧ (h (r + 6) 7 = 0) ∧ (h (r + 6) 8 = 0)
theorem BL.nu {h : Mm} {r : Int} {q : Mm} {n : Int} (x : BL h r q n) : ∀ d, 0 ≤ d → d < n → h (r + 7) d = q 95 d := x.1
theorem BL.ct {h : Mm} {r : Int} {q : Mm} {n : Int} (x : BL h r q n) : h (r + 6) 6 = q 70 30 := x.2.1
theorem BL.ba {h : Mm} {r : Int} {q : Mm} {n : Int} (x : BL h r q n) : ∀ j, 0 ≤ j → j < q 70 30 → h (r + 8) j = q 96 j ∧ h (r + 9) j = -1 := x.2.2.1
theorem BL.ro {h : Mm} {r : Int} {q : Mm} {n : Int} (x : BL h r q n) : h (r + 6) 7 = 0 := x.2.2.2.1
theorem BL.go {h : Mm} {r : Int} {q : Mm} {n : Int} (x : BL h r q n) : h (r + 6) 8 = 0 := x.2.2.2.2
def xCl (m : Mm) (r t : Int) : Mm := fun a j => if (a = r + 13 ∨ a = r + 14 ∨ a = r + 16 ∨ a = r + 17) ∧ 0 ≤ j ∧ j < t then 0 else if a = r + 15 ∧ 0 ≤ j ∧ j < t then -1 else m a j
section CBEGIN
variable {tl : Ds} {m h g q G X : Mm} {Q : Ds → Mm → List MV → Prop} {r p n w v k j c s o f i t l ti wy b u a x : Int}
theorem bc_95 : mBc q c 95 j = if j = c then (if q 76 c = 0 then -1 else q 70 30) else q 95 j := by
  unfold mBc mBd
  by_cases h : q 76 c = 0
  · rw [if_pos h, if_pos h]
    simp only [up_at, b2_T, b2_F, Int.reduceEq, Int.reduceLT, Int.reduceLE, Int.reduceAdd, Int.reduceSub, Int.reduceMul, Int.reduceNeg, reduceIte, if_true, if_false, true_or, or_true, false_or, or_false, false_and, and_false, eq_self, not_false_eq_true, not_true_eq_false, true_and, and_true, List.cons_append, List.nil_append, List.append_nil, b2_0, b2_1, b2_01, Classical.not_not]
  · rw [if_neg h, if_neg h]
    by_cases hj : j = c
    · simp only [up_at, hj, b2_T, b2_F, Int.reduceEq, Int.reduceLT, Int.reduceLE, Int.reduceAdd, Int.reduceSub, Int.reduceMul, Int.reduceNeg, reduceIte, if_true, if_false, true_or, or_true, false_or, or_false, false_and, and_false, eq_self, not_false_eq_true, not_true_eq_false, true_and, and_true, List.cons_append, List.nil_append, List.append_nil, b2_0, b2_1, b2_01, Classical.not_not]
    · simp only [up_at, hj, b2_T, b2_F, Int.reduceEq, Int.reduceLT, Int.reduceLE, Int.reduceAdd, Int.reduceSub, Int.reduceMul, Int.reduceNeg, reduceIte, if_true, if_false, true_or, or_true, false_or, or_false, false_and, and_false, eq_self, not_false_eq_true, not_true_eq_false, true_and, and_true, List.cons_append, List.nil_append, List.append_nil, b2_0, b2_1, b2_01, Classical.not_not]
theorem bc_30 : mBc q c 70 30 = if q 76 c = 0 then q 70 30 else q 70 30 + 1 := by
  unfold mBc mBd
  by_cases h : q 76 c = 0
  · rw [if_pos h, if_pos h]
    simp only [up_at, b2_T, b2_F, Int.reduceEq, Int.reduceLT, Int.reduceLE, Int.reduceAdd, Int.reduceSub, Int.reduceMul, Int.reduceNeg, reduceIte, if_true, if_false, true_or, or_true, false_or, or_false, false_and, and_false, eq_self, not_false_eq_true, not_true_eq_false, true_and, and_true, List.cons_append, List.nil_append, List.append_nil, b2_0, b2_1, b2_01, Classical.not_not]
  · rw [if_neg h, if_neg h]
    simp only [up_at, b2_T, b2_F, Int.reduceEq, Int.reduceLT, Int.reduceLE, Int.reduceAdd, Int.reduceSub, Int.reduceMul, Int.reduceNeg, reduceIte, if_true, if_false, true_or, or_true, false_or, or_false, false_and, and_false, eq_self, not_false_eq_true, not_true_eq_false, true_and, and_true, List.cons_append, List.nil_append, List.append_nil, b2_0, b2_1, b2_01, Classical.not_not]
theorem bc_96 : mBc q c 96 j = if ¬ q 76 c = 0 ∧ j = q 70 30 then c else q 96 j := by
  unfold mBc mBd
  by_cases h : q 76 c = 0
  · rw [if_pos h, if_neg (fun x => x.1 h)]
    simp only [up_at, b2_T, b2_F, Int.reduceEq, Int.reduceLT, Int.reduceLE, Int.reduceAdd, Int.reduceSub, Int.reduceMul, Int.reduceNeg, reduceIte, if_true, if_false, true_or, or_true, false_or, or_false, false_and, and_false, eq_self, not_false_eq_true, not_true_eq_false, true_and, and_true, List.cons_append, List.nil_append, List.append_nil, b2_0, b2_1, b2_01, Classical.not_not]
  · rw [if_neg h]
    simp only [up_at, h, b2_T, b2_F, Int.reduceEq, Int.reduceLT, Int.reduceLE, Int.reduceAdd, Int.reduceSub, Int.reduceMul, Int.reduceNeg, reduceIte, if_true, if_false, true_or, or_true, false_or, or_false, false_and, and_false, eq_self, not_false_eq_true, not_true_eq_false, true_and, and_true, List.cons_append, List.nil_append, List.append_nil, b2_0, b2_1, b2_01, Classical.not_not]
theorem bL_s (n : Nat) : mBL q (n + 1) = mBc (mBL q n) n := rfl
theorem c1l_34 (hp : p = 9 ∨ p = 18) (S0 : Sh m) (Sg : Sh q) (h30 : q 70 30 = 0) (hb : ∀ c, isC c → m (p + 5) c = q 76 c) : ∀ (k n : Nat) (h : Mm), n + k = 96 → Sh h → (∀ x j, ¬ (40 ≤ x ∧ x ≤ 43) → h x j = m x j) → BL h 34 (mBL q n) n → ∃ h', Sh h' ∧ (∀ x j, ¬ (40 ≤ x ∧ x ≤ 43) → h' x j = m x j) ∧ BL h' 34 (mBL q 96) 96 ∧ ∀ (tl : Ds) (Q : Ds → Mm → List MV → Prop), WP 1 17 [(2, 40), (2, p), (0, (n : Int))] [] (dsB ++ tl) h Q = Q (dsB ++ tl) h' [] := by
  intro k
  induction k with
  | zero =>
    intro n h hn S f L
    have hn : n = 96 := by omega
    subst hn
    have c1 : ((96 : Nat) : Int) = 96 := rfl
    refine ⟨h, S, f, L, fun tl Q => ?_⟩
    rw [p1_17]
    simp only [p1_0, p1_1, p1_2, p1_5, p1_6, p1_7, p1_10, p1_11, p1_12, p1_15, p1_16, p1_18, p1_20, p1_23, p1_24, p1_27, p1_28, p1_29, p1_30, p1_31, p1_32, p1_35, p1_38, p1_39, p1_42, p1_44, p1_47, p1_48, p1_51, p1_52, p1_53, p1_56, p1_57, p1_58, p1_61, p1_62, p1_65, p1_66, p1_67, p1_68, p1_71, p1_72, p1_75, p1_76, p1_77, p1_78, p1_79, p1_82, p1_83, p1_84, p1_87, p1_90, p1_93, c1, b2_T, b2_F, Int.reduceEq, Int.reduceLT, Int.reduceLE, Int.reduceAdd, Int.reduceSub, Int.reduceMul, Int.reduceNeg, reduceIte, if_true, if_false, true_or, or_true, false_or, or_false, false_and, and_false, eq_self, not_false_eq_true, not_true_eq_false, true_and, and_true, List.cons_append, List.nil_append, List.append_nil, b2_0, b2_1, b2_01, Classical.not_not, Int.lt_irrefl]
  | succ k ih =>
    intro n h hn S f L
    have a := BI_bl Sg h30 n (by omega)
    have ab := a.b
    have e76 : mBL q n 76 n = q 76 n := a.f 76 n (by decide) (by decide) (by decide) (by decide) (by decide) (by decide) (by decide) (by decide) (by decide) (fun x => absurd x.1 (by decide))
    have c1 : ((n + 1 : Nat) : Int) = (n : Int) + 1 := rfl
    have w1 : w32 ((n : Int) + 1) = (n : Int) + 1 := w32_id (by omega) (by omega)
    have g0 : (0 : Int) ≤ n := by omega
    have g1 : (n : Int) < 96 := by omega
    have cc : isC (n : Int) := ⟨g0, g1⟩
    have S1 : Sh (up h 41 n (-1)) := Sh_ar S (by decide)
    have P1 := fun tl => PAp (tl := tl) S1 hp
    have hbb : up h 41 n (-1) (p + 5) n = q 76 n := by
      rw [up_at, if_neg (by omega), f _ _ (by omega)]
      exact hb n cc
    have kp := fun tl => (P1 tl).1
    have ct := L.ct
    simp only [Int.reduceAdd] at ct
    have ctb : 0 ≤ h 40 6 ∧ h 40 6 < 96 := by rw [ct]; omega
    have ct0 := ctb.1
    have ct1 := ctb.2
    have w2 : w32 (h 40 6 + 1) = h 40 6 + 1 := w32_id (by omega) (by omega)
    by_cases h6 : q 76 n = 0
    · have L1 : BL (up h 41 n (-1)) 34 (mBL q (n + 1)) (n + 1 : Nat) := by
        rw [bL_s]
        refine ⟨fun d d0 d1 => ?_, ?_, fun j j0 j1 => ?_, ?_, ?_⟩
        · rw [bc_95, e76, if_pos h6]
          have := L.nu d d0
          simp only [Int.reduceAdd, up_at, b2_T, b2_F, Int.reduceEq, Int.reduceLT, Int.reduceLE, Int.reduceAdd, Int.reduceSub, Int.reduceMul, Int.reduceNeg, reduceIte, if_true, if_false, true_or, or_true, false_or, or_false, false_and, and_false, eq_self, not_false_eq_true, not_true_eq_false, true_and, and_true, List.cons_append, List.nil_append, List.append_nil, b2_0, b2_1, b2_01, Classical.not_not] at this ⊢
          by_cases hd : d = n
          · rw [if_pos hd, if_pos hd]
          · rw [if_neg hd, if_neg hd]
            exact this (by omega)
        · rw [bc_30, e76, if_pos h6]
          simp only [Int.reduceAdd, up_at, b2_T, b2_F, Int.reduceEq, Int.reduceLT, Int.reduceLE, Int.reduceAdd, Int.reduceSub, Int.reduceMul, Int.reduceNeg, reduceIte, if_true, if_false, true_or, or_true, false_or, or_false, false_and, and_false, eq_self, not_false_eq_true, not_true_eq_false, true_and, and_true, List.cons_append, List.nil_append, List.append_nil, b2_0, b2_1, b2_01, Classical.not_not]
          exact ct
        · rw [bc_30, e76, if_pos h6] at j1
          have := L.ba j j0 j1
          rw [bc_96, e76, if_neg (fun x => x.1 h6)]
          simp only [Int.reduceAdd, up_at, b2_T, b2_F, Int.reduceEq, Int.reduceLT, Int.reduceLE, Int.reduceAdd, Int.reduceSub, Int.reduceMul, Int.reduceNeg, reduceIte, if_true, if_false, true_or, or_true, false_or, or_false, false_and, and_false, eq_self, not_false_eq_true, not_true_eq_false, true_and, and_true, List.cons_append, List.nil_append, List.append_nil, b2_0, b2_1, b2_01, Classical.not_not] at this ⊢
          exact this
        · have := L.ro
          simp only [Int.reduceAdd, up_at, b2_T, b2_F, Int.reduceEq, Int.reduceLT, Int.reduceLE, Int.reduceAdd, Int.reduceSub, Int.reduceMul, Int.reduceNeg, reduceIte, if_true, if_false, true_or, or_true, false_or, or_false, false_and, and_false, eq_self, not_false_eq_true, not_true_eq_false, true_and, and_true, List.cons_append, List.nil_append, List.append_nil, b2_0, b2_1, b2_01, Classical.not_not] at this ⊢
          exact this
        · have := L.go
          simp only [Int.reduceAdd, up_at, b2_T, b2_F, Int.reduceEq, Int.reduceLT, Int.reduceLE, Int.reduceAdd, Int.reduceSub, Int.reduceMul, Int.reduceNeg, reduceIte, if_true, if_false, true_or, or_true, false_or, or_false, false_and, and_false, eq_self, not_false_eq_true, not_true_eq_false, true_and, and_true, List.cons_append, List.nil_append, List.append_nil, b2_0, b2_1, b2_01, Classical.not_not] at this ⊢
          exact this
      obtain ⟨h', r1, r2, r3, r4⟩ := ih (n + 1) _ (by omega) S1 (fun x j hx => by rw [up_at, if_neg (by omega)]; exact f x j hx) L1
      refine ⟨h', r1, r2, r3, fun tl Q => ?_⟩
      have e28' := fun (Q : Ds → Mm → List MV → Prop) => e28 (c := n) (Q := Q) (P1 tl)
      simp only [b2_f (show ¬ ((0 ≤ (n : Int) ∧ (n : Int) < 96) ∧ ¬ up h 41 n (-1) (p + 5) n = 0) from fun x => x.2 (by rw [hbb]; exact h6))] at e28'
      rw [p1_17, ← r4 tl Q]
      simp only [p1_0, p1_1, p1_2, p1_5, p1_6, p1_7, p1_10, p1_11, p1_12, p1_15, p1_16, p1_18, p1_20, p1_23, p1_24, p1_27, p1_28, p1_29, p1_30, p1_31, p1_32, p1_35, p1_38, p1_39, p1_42, p1_44, p1_47, p1_48, p1_51, p1_52, p1_53, p1_56, p1_57, p1_58, p1_61, p1_62, p1_65, p1_66, p1_67, p1_68, p1_71, p1_72, p1_75, p1_76, p1_77, p1_78, p1_79, p1_82, p1_83, p1_84, p1_87, p1_90, p1_93, K_27, K_28, L_28, K_29, L_29, K_30, L_30, K_31, L_31, K_32, L_32, K_33, L_33, K_34, K_35, K_36, L_36, K_37, L_37, K_38, L_38, K_39, L_39, K_40, K_41, L_41, K_42, L_42, K_43, L_43, K_44, L_44, K_45, L_45, K_46, L_46, K_47, L_47, K_48, L_48, K_49, L_49, K_50, L_50, K_51, L_51, K_52, K_53, K_54, L_54, K_55, L_55, K_56, L_56, K_57, L_57, K_58, K_59, L_59, K_60, L_60, K_61, L_61, K_62, L_62, K_63, L_63, K_64, L_64, K_65, L_65, K_66, L_66, K_67, L_67, K_68, L_68, K_69, L_69, sh_27_0 S, sh_27_1 S, sh_27_2 S, sh_27_3 S, sh_27_4 S, sh_27_5 S, sh_34_0 S, sh_34_1 S, sh_34_2 S, sh_34_3 S, sh_34_4 S, sh_34_5 S, sh_34_6 S, sh_34_7 S, sh_35_0 S, sh_35_1 S, sh_35_2 S, sh_35_3 S, sh_40_0 S, sh_40_1 S, sh_40_2 S, sh_40_3 S, sh_40_4 S, sh_40_5 S, sh_52_0 S, sh_52_1 S, sh_52_2 S, sh_52_3 S, sh_52_4 S, sh_52_5 S, sh_52_6 S, sh_52_7 S, sh_53_0 S, sh_53_1 S, sh_53_2 S, sh_53_3 S, sh_58_0 S, sh_58_1 S, sh_58_2 S, sh_58_3 S, sh_58_4 S, sh_58_5 S, c1, w1, g0, g1, kp tl, e28', b2_T, b2_F, Int.reduceEq, Int.reduceLT, Int.reduceLE, Int.reduceAdd, Int.reduceSub, Int.reduceMul, Int.reduceNeg, reduceIte, if_true, if_false, true_or, or_true, false_or, or_false, false_and, and_false, eq_self, not_false_eq_true, not_true_eq_false, true_and, and_true, List.cons_append, List.nil_append, List.append_nil, b2_0, b2_1, b2_01, Classical.not_not]
    · have SX : Sh (up (up (up (up (up h 41 n (-1)) 41 n (h 40 6)) 42 (h 40 6) n) 43 (h 40 6) (-1)) 40 6 (h 40 6 + 1)) := Sh.up (Sh_ar (Sh_ar (Sh_ar S1 (by decide)) (by decide)) (by decide)) (by decide)
      have L1 : BL (up (up (up (up (up h 41 n (-1)) 41 n (h 40 6)) 42 (h 40 6) n) 43 (h 40 6) (-1)) 40 6 (h 40 6 + 1)) 34 (mBL q (n + 1)) (n + 1 : Nat) := by
        rw [bL_s]
        refine ⟨fun d d0 d1 => ?_, ?_, fun j j0 j1 => ?_, ?_, ?_⟩
        · rw [bc_95, e76, if_neg h6]
          have := L.nu d d0
          simp only [Int.reduceAdd, up_at, b2_T, b2_F, Int.reduceEq, Int.reduceLT, Int.reduceLE, Int.reduceAdd, Int.reduceSub, Int.reduceMul, Int.reduceNeg, reduceIte, if_true, if_false, true_or, or_true, false_or, or_false, false_and, and_false, eq_self, not_false_eq_true, not_true_eq_false, true_and, and_true, List.cons_append, List.nil_append, List.append_nil, b2_0, b2_1, b2_01, Classical.not_not] at this ⊢
          by_cases hd : d = n
          · rw [if_pos hd, if_pos hd]
            exact ct
          · rw [if_neg hd, if_neg hd, if_neg hd]
            exact this (by omega)
        · rw [bc_30, e76, if_neg h6]
          simp only [Int.reduceAdd, up_at, b2_T, b2_F, Int.reduceEq, Int.reduceLT, Int.reduceLE, Int.reduceAdd, Int.reduceSub, Int.reduceMul, Int.reduceNeg, reduceIte, if_true, if_false, true_or, or_true, false_or, or_false, false_and, and_false, eq_self, not_false_eq_true, not_true_eq_false, true_and, and_true, List.cons_append, List.nil_append, List.append_nil, b2_0, b2_1, b2_01, Classical.not_not]
          omega
        · rw [bc_30, e76, if_neg h6] at j1
          rw [bc_96, e76]
          simp only [Int.reduceAdd, up_at, b2_T, b2_F, Int.reduceEq, Int.reduceLT, Int.reduceLE, Int.reduceAdd, Int.reduceSub, Int.reduceMul, Int.reduceNeg, reduceIte, if_true, if_false, true_or, or_true, false_or, or_false, false_and, and_false, eq_self, not_false_eq_true, not_true_eq_false, true_and, and_true, List.cons_append, List.nil_append, List.append_nil, b2_0, b2_1, b2_01, Classical.not_not]
          by_cases hj : j = h 40 6
          · rw [if_pos hj, if_pos hj, if_pos ⟨h6, by omega⟩]
            exact ⟨rfl, rfl⟩
          · have := L.ba j j0 (by omega)
            simp only [Int.reduceAdd] at this
            rw [if_neg hj, if_neg hj, if_neg (fun x => hj (by omega))]
            exact this
        · have := L.ro
          simp only [Int.reduceAdd, up_at, b2_T, b2_F, Int.reduceEq, Int.reduceLT, Int.reduceLE, Int.reduceAdd, Int.reduceSub, Int.reduceMul, Int.reduceNeg, reduceIte, if_true, if_false, true_or, or_true, false_or, or_false, false_and, and_false, eq_self, not_false_eq_true, not_true_eq_false, true_and, and_true, List.cons_append, List.nil_append, List.append_nil, b2_0, b2_1, b2_01, Classical.not_not] at this ⊢
          exact this
        · have := L.go
          simp only [Int.reduceAdd, up_at, b2_T, b2_F, Int.reduceEq, Int.reduceLT, Int.reduceLE, Int.reduceAdd, Int.reduceSub, Int.reduceMul, Int.reduceNeg, reduceIte, if_true, if_false, true_or, or_true, false_or, or_false, false_and, and_false, eq_self, not_false_eq_true, not_true_eq_false, true_and, and_true, List.cons_append, List.nil_append, List.append_nil, b2_0, b2_1, b2_01, Classical.not_not] at this ⊢
          exact this
      obtain ⟨h', r1, r2, r3, r4⟩ := ih (n + 1) _ (by omega) SX (fun x j hx => by rw [up_at, if_neg (by omega), up_at, if_neg (by omega), up_at, if_neg (by omega), up_at, if_neg (by omega), up_at, if_neg (by omega)]; exact f x j hx) L1
      refine ⟨h', r1, r2, r3, fun tl Q => ?_⟩
      have e28' := fun (Q : Ds → Mm → List MV → Prop) => e28 (c := n) (Q := Q) (P1 tl)
      simp only [b2_t (show ((0 ≤ (n : Int) ∧ (n : Int) < 96) ∧ ¬ up h 41 n (-1) (p + 5) n = 0) from ⟨cc, by rw [hbb]; exact h6⟩)] at e28'
      rw [p1_17, ← r4 tl Q]
      simp only [p1_0, p1_1, p1_2, p1_5, p1_6, p1_7, p1_10, p1_11, p1_12, p1_15, p1_16, p1_18, p1_20, p1_23, p1_24, p1_27, p1_28, p1_29, p1_30, p1_31, p1_32, p1_35, p1_38, p1_39, p1_42, p1_44, p1_47, p1_48, p1_51, p1_52, p1_53, p1_56, p1_57, p1_58, p1_61, p1_62, p1_65, p1_66, p1_67, p1_68, p1_71, p1_72, p1_75, p1_76, p1_77, p1_78, p1_79, p1_82, p1_83, p1_84, p1_87, p1_90, p1_93, K_27, K_28, L_28, K_29, L_29, K_30, L_30, K_31, L_31, K_32, L_32, K_33, L_33, K_34, K_35, K_36, L_36, K_37, L_37, K_38, L_38, K_39, L_39, K_40, K_41, L_41, K_42, L_42, K_43, L_43, K_44, L_44, K_45, L_45, K_46, L_46, K_47, L_47, K_48, L_48, K_49, L_49, K_50, L_50, K_51, L_51, K_52, K_53, K_54, L_54, K_55, L_55, K_56, L_56, K_57, L_57, K_58, K_59, L_59, K_60, L_60, K_61, L_61, K_62, L_62, K_63, L_63, K_64, L_64, K_65, L_65, K_66, L_66, K_67, L_67, K_68, L_68, K_69, L_69, sh_27_0 S, sh_27_1 S, sh_27_2 S, sh_27_3 S, sh_27_4 S, sh_27_5 S, sh_34_0 S, sh_34_1 S, sh_34_2 S, sh_34_3 S, sh_34_4 S, sh_34_5 S, sh_34_6 S, sh_34_7 S, sh_35_0 S, sh_35_1 S, sh_35_2 S, sh_35_3 S, sh_40_0 S, sh_40_1 S, sh_40_2 S, sh_40_3 S, sh_40_4 S, sh_40_5 S, sh_52_0 S, sh_52_1 S, sh_52_2 S, sh_52_3 S, sh_52_4 S, sh_52_5 S, sh_52_6 S, sh_52_7 S, sh_53_0 S, sh_53_1 S, sh_53_2 S, sh_53_3 S, sh_58_0 S, sh_58_1 S, sh_58_2 S, sh_58_3 S, sh_58_4 S, sh_58_5 S, c1, w1, w2, g0, g1, ct0, ct1, kp tl, e28', up_at, b2_T, b2_F, Int.reduceEq, Int.reduceLT, Int.reduceLE, Int.reduceAdd, Int.reduceSub, Int.reduceMul, Int.reduceNeg, reduceIte, if_true, if_false, true_or, or_true, false_or, or_false, false_and, and_false, eq_self, not_false_eq_true, not_true_eq_false, true_and, and_true, List.cons_append, List.nil_append, List.append_nil, b2_0, b2_1, b2_01, Classical.not_not]
theorem c1_34 (hp : p = 9 ∨ p = 18) (S0 : Sh m) (Sg : Sh q) (h30 : q 70 30 = 0) (hb : ∀ c, isC c → m (p + 5) c = q 76 c) : ∃ h', Sh h' ∧ (∀ x j, ¬ (40 ≤ x ∧ x ≤ 43) → h' x j = m x j) ∧ BL h' 34 (mBL q 96) 96 ∧ ∀ (tl : Ds) (Q : Ds → Mm → List MV → Prop), WP 1 0 [(2, 40), (2, p), (3, 0)] [] (dsB ++ tl) m Q = Q (dsB ++ tl) h' [] := by
  have S1 : Sh (up (up (up m 40 6 0) 40 7 0) 40 8 0) := Sh.up (Sh.up (Sh.up S0 (by decide)) (by decide)) (by decide)
  have L1 : BL (up (up (up m 40 6 0) 40 7 0) 40 8 0) 34 (mBL q 0) (0 : Nat) := by
    have e0 : mBL q 0 = q := rfl
    rw [e0]
    refine ⟨fun d d0 d1 => by omega, ?_, fun j j0 j1 => by omega, ?_, ?_⟩
    · rw [h30]
      simp only [Int.reduceAdd, up_at, b2_T, b2_F, Int.reduceEq, Int.reduceLT, Int.reduceLE, Int.reduceAdd, Int.reduceSub, Int.reduceMul, Int.reduceNeg, reduceIte, if_true, if_false, true_or, or_true, false_or, or_false, false_and, and_false, eq_self, not_false_eq_true, not_true_eq_false, true_and, and_true, List.cons_append, List.nil_append, List.append_nil, b2_0, b2_1, b2_01, Classical.not_not]
    · simp only [Int.reduceAdd, up_at, b2_T, b2_F, Int.reduceEq, Int.reduceLT, Int.reduceLE, Int.reduceAdd, Int.reduceSub, Int.reduceMul, Int.reduceNeg, reduceIte, if_true, if_false, true_or, or_true, false_or, or_false, false_and, and_false, eq_self, not_false_eq_true, not_true_eq_false, true_and, and_true, List.cons_append, List.nil_append, List.append_nil, b2_0, b2_1, b2_01, Classical.not_not]
    · simp only [Int.reduceAdd, up_at, b2_T, b2_F, Int.reduceEq, Int.reduceLT, Int.reduceLE, Int.reduceAdd, Int.reduceSub, Int.reduceMul, Int.reduceNeg, reduceIte, if_true, if_false, true_or, or_true, false_or, or_false, false_and, and_false, eq_self, not_false_eq_true, not_true_eq_false, true_and, and_true, List.cons_append, List.nil_append, List.append_nil, b2_0, b2_1, b2_01, Classical.not_not]
  obtain ⟨h', r1, r2, r3, r4⟩ := c1l_34 hp S0 Sg h30 hb 96 0 _ (by omega) S1 (fun x j hx => by rw [up_at, if_neg (by omega), up_at, if_neg (by omega), up_at, if_neg (by omega)]) L1
  refine ⟨h', r1, r2, r3, fun tl Q => ?_⟩
  rw [← r4 tl Q]
  simp only [p1_0, p1_1, p1_2, p1_5, p1_6, p1_7, p1_10, p1_11, p1_12, p1_15, p1_16, K_40, b2_T, b2_F, Int.reduceEq, Int.reduceLT, Int.reduceLE, Int.reduceAdd, Int.reduceSub, Int.reduceMul, Int.reduceNeg, reduceIte, if_true, if_false, true_or, or_true, false_or, or_false, false_and, and_false, eq_self, not_false_eq_true, not_true_eq_false, true_and, and_true, List.cons_append, List.nil_append, List.append_nil, b2_0, b2_1, b2_01, Classical.not_not]
  rfl
theorem c53c_34 (S : Sh m) {q1 : MV} : ∀ (k n : Nat), n + k = 96 → ∀ (tl : Ds) (Q : Ds → Mm → List MV → Prop) (q3 : MV), WP 53 38 [(2, 34), q1, (0, (n : Int)), q3] [] (dsB ++ tl) (xCl m 34 n) Q = WP 53 85 [(2, 34), q1, (0, 96), q3] [] (dsB ++ tl) (xCl m 34 96) Q := by
  have se : ∀ t, Sh (xCl m 34 t) := fun t q hq => by
    have h1 : ∀ q ∈ SL, ¬ (34 + 13 ≤ q.1 ∧ q.1 ≤ 34 + 17) := by decide
    have h2 := h1 q hq
    have e : xCl m 34 t q.1 q.2.1 = m q.1 q.2.1 := by
      unfold xCl
      rw [if_neg (by omega), if_neg (by omega)]
    rw [e]
    exact S q hq
  intro k
  induction k with
  | zero =>
    intro n hn tl Q q3
    have hn : n = 96 := by omega
    subst hn
    have c1 : ((96 : Nat) : Int) = 96 := rfl
    rw [p53_38]
    simp only [p53_39, p53_41, p53_44, p53_45, p53_48, p53_49, p53_50, p53_51, p53_52, p53_55, p53_56, p53_57, p53_58, p53_59, p53_62, p53_63, p53_64, p53_65, p53_66, p53_69, p53_70, p53_71, p53_72, p53_73, p53_76, p53_77, p53_78, p53_79, p53_82, c1, b2_T, b2_F, Int.reduceEq, Int.reduceLT, Int.reduceLE, Int.reduceAdd, Int.reduceSub, Int.reduceMul, Int.reduceNeg, reduceIte, if_true, if_false, true_or, or_true, false_or, or_false, false_and, and_false, eq_self, not_false_eq_true, not_true_eq_false, true_and, and_true, List.cons_append, List.nil_append, List.append_nil, b2_0, b2_1, b2_01, Classical.not_not, Int.lt_irrefl]
  | succ k ih =>
    intro n hn tl Q q3
    have i1 := ih (n + 1) (by omega) tl Q q3
    have c1 : ((n + 1 : Nat) : Int) = (n : Int) + 1 := rfl
    have w1 : w32 ((n : Int) + 1) = (n : Int) + 1 := w32_id (by omega) (by omega)
    have g0 : (0 : Int) ≤ n := by omega
    have g1 : (n : Int) < 96 := by omega
    have S := se n
    have e : up (up (up (up (up (xCl m 34 n) 47 n 0) 48 n 0) 49 n (-1)) 50 n 0) 51 n 0 = xCl m 34 (n + 1 : Nat) := by
      apply fx
      intro a j
      simp only [up_at]
      unfold xCl
      repeat' split
      all_goals first | rfl | (exfalso; omega)
    rw [← i1, ← e, p53_38]
    simp only [p53_39, p53_41, p53_44, p53_45, p53_48, p53_49, p53_50, p53_51, p53_52, p53_55, p53_56, p53_57, p53_58, p53_59, p53_62, p53_63, p53_64, p53_65, p53_66, p53_69, p53_70, p53_71, p53_72, p53_73, p53_76, p53_77, p53_78, p53_79, p53_82, c1, w1, g0, g1, K_27, K_28, L_28, K_29, L_29, K_30, L_30, K_31, L_31, K_32, L_32, K_33, L_33, K_34, K_35, K_36, L_36, K_37, L_37, K_38, L_38, K_39, L_39, K_40, K_41, L_41, K_42, L_42, K_43, L_43, K_44, L_44, K_45, L_45, K_46, L_46, K_47, L_47, K_48, L_48, K_49, L_49, K_50, L_50, K_51, L_51, K_52, K_53, K_54, L_54, K_55, L_55, K_56, L_56, K_57, L_57, K_58, K_59, L_59, K_60, L_60, K_61, L_61, K_62, L_62, K_63, L_63, K_64, L_64, K_65, L_65, K_66, L_66, K_67, L_67, K_68, L_68, K_69, L_69, sh_27_0 S, sh_27_1 S, sh_27_2 S, sh_27_3 S, sh_27_4 S, sh_27_5 S, sh_34_0 S, sh_34_1 S, sh_34_2 S, sh_34_3 S, sh_34_4 S, sh_34_5 S, sh_34_6 S, sh_34_7 S, sh_35_0 S, sh_35_1 S, sh_35_2 S, sh_35_3 S, sh_40_0 S, sh_40_1 S, sh_40_2 S, sh_40_3 S, sh_40_4 S, sh_40_5 S, sh_52_0 S, sh_52_1 S, sh_52_2 S, sh_52_3 S, sh_52_4 S, sh_52_5 S, sh_52_6 S, sh_52_7 S, sh_53_0 S, sh_53_1 S, sh_53_2 S, sh_53_3 S, sh_58_0 S, sh_58_1 S, sh_58_2 S, sh_58_3 S, sh_58_4 S, sh_58_5 S, up_at, b2_T, b2_F, Int.reduceEq, Int.reduceLT, Int.reduceLE, Int.reduceAdd, Int.reduceSub, Int.reduceMul, Int.reduceNeg, reduceIte, if_true, if_false, true_or, or_true, false_or, or_false, false_and, and_false, eq_self, not_false_eq_true, not_true_eq_false, true_and, and_true, List.cons_append, List.nil_append, List.append_nil, b2_0, b2_1, b2_01, Classical.not_not]
theorem c1l_52 (hp : p = 9 ∨ p = 18) (S0 : Sh m) (Sg : Sh q) (h30 : q 70 30 = 0) (hb : ∀ c, isC c → m (p + 5) c = q 76 c) : ∀ (k n : Nat) (h : Mm), n + k = 96 → Sh h → (∀ x j, ¬ (58 ≤ x ∧ x ≤ 61) → h x j = m x j) → BL h 52 (mBL q n) n → ∃ h', Sh h' ∧ (∀ x j, ¬ (58 ≤ x ∧ x ≤ 61) → h' x j = m x j) ∧ BL h' 52 (mBL q 96) 96 ∧ ∀ (tl : Ds) (Q : Ds → Mm → List MV → Prop), WP 1 17 [(2, 58), (2, p), (0, (n : Int))] [] (dsB ++ tl) h Q = Q (dsB ++ tl) h' [] := by
  intro k
  induction k with
  | zero =>
    intro n h hn S f L
    have hn : n = 96 := by omega
    subst hn
    have c1 : ((96 : Nat) : Int) = 96 := rfl
    refine ⟨h, S, f, L, fun tl Q => ?_⟩
    rw [p1_17]
    simp only [p1_0, p1_1, p1_2, p1_5, p1_6, p1_7, p1_10, p1_11, p1_12, p1_15, p1_16, p1_18, p1_20, p1_23, p1_24, p1_27, p1_28, p1_29, p1_30, p1_31, p1_32, p1_35, p1_38, p1_39, p1_42, p1_44, p1_47, p1_48, p1_51, p1_52, p1_53, p1_56, p1_57, p1_58, p1_61, p1_62, p1_65, p1_66, p1_67, p1_68, p1_71, p1_72, p1_75, p1_76, p1_77, p1_78, p1_79, p1_82, p1_83, p1_84, p1_87, p1_90, p1_93, c1, b2_T, b2_F, Int.reduceEq, Int.reduceLT, Int.reduceLE, Int.reduceAdd, Int.reduceSub, Int.reduceMul, Int.reduceNeg, reduceIte, if_true, if_false, true_or, or_true, false_or, or_false, false_and, and_false, eq_self, not_false_eq_true, not_true_eq_false, true_and, and_true, List.cons_append, List.nil_append, List.append_nil, b2_0, b2_1, b2_01, Classical.not_not, Int.lt_irrefl]
  | succ k ih =>
    intro n h hn S f L
    have a := BI_bl Sg h30 n (by omega)
    have ab := a.b
    have e76 : mBL q n 76 n = q 76 n := a.f 76 n (by decide) (by decide) (by decide) (by decide) (by decide) (by decide) (by decide) (by decide) (by decide) (fun x => absurd x.1 (by decide))
    have c1 : ((n + 1 : Nat) : Int) = (n : Int) + 1 := rfl
    have w1 : w32 ((n : Int) + 1) = (n : Int) + 1 := w32_id (by omega) (by omega)
    have g0 : (0 : Int) ≤ n := by omega
    have g1 : (n : Int) < 96 := by omega
    have cc : isC (n : Int) := ⟨g0, g1⟩
    have S1 : Sh (up h 59 n (-1)) := Sh_ar S (by decide)
    have P1 := fun tl => PAp (tl := tl) S1 hp
    have hbb : up h 59 n (-1) (p + 5) n = q 76 n := by
      rw [up_at, if_neg (by omega), f _ _ (by omega)]
      exact hb n cc
    have kp := fun tl => (P1 tl).1
    have ct := L.ct
    simp only [Int.reduceAdd] at ct
    have ctb : 0 ≤ h 58 6 ∧ h 58 6 < 96 := by rw [ct]; omega
    have ct0 := ctb.1
    have ct1 := ctb.2
    have w2 : w32 (h 58 6 + 1) = h 58 6 + 1 := w32_id (by omega) (by omega)
    by_cases h6 : q 76 n = 0
    · have L1 : BL (up h 59 n (-1)) 52 (mBL q (n + 1)) (n + 1 : Nat) := by
        rw [bL_s]
        refine ⟨fun d d0 d1 => ?_, ?_, fun j j0 j1 => ?_, ?_, ?_⟩
        · rw [bc_95, e76, if_pos h6]
          have := L.nu d d0
          simp only [Int.reduceAdd, up_at, b2_T, b2_F, Int.reduceEq, Int.reduceLT, Int.reduceLE, Int.reduceAdd, Int.reduceSub, Int.reduceMul, Int.reduceNeg, reduceIte, if_true, if_false, true_or, or_true, false_or, or_false, false_and, and_false, eq_self, not_false_eq_true, not_true_eq_false, true_and, and_true, List.cons_append, List.nil_append, List.append_nil, b2_0, b2_1, b2_01, Classical.not_not] at this ⊢
          by_cases hd : d = n
          · rw [if_pos hd, if_pos hd]
          · rw [if_neg hd, if_neg hd]
            exact this (by omega)
        · rw [bc_30, e76, if_pos h6]
          simp only [Int.reduceAdd, up_at, b2_T, b2_F, Int.reduceEq, Int.reduceLT, Int.reduceLE, Int.reduceAdd, Int.reduceSub, Int.reduceMul, Int.reduceNeg, reduceIte, if_true, if_false, true_or, or_true, false_or, or_false, false_and, and_false, eq_self, not_false_eq_true, not_true_eq_false, true_and, and_true, List.cons_append, List.nil_append, List.append_nil, b2_0, b2_1, b2_01, Classical.not_not]
          exact ct
        · rw [bc_30, e76, if_pos h6] at j1
          have := L.ba j j0 j1
          rw [bc_96, e76, if_neg (fun x => x.1 h6)]
          simp only [Int.reduceAdd, up_at, b2_T, b2_F, Int.reduceEq, Int.reduceLT, Int.reduceLE, Int.reduceAdd, Int.reduceSub, Int.reduceMul, Int.reduceNeg, reduceIte, if_true, if_false, true_or, or_true, false_or, or_false, false_and, and_false, eq_self, not_false_eq_true, not_true_eq_false, true_and, and_true, List.cons_append, List.nil_append, List.append_nil, b2_0, b2_1, b2_01, Classical.not_not] at this ⊢
          exact this
        · have := L.ro
          simp only [Int.reduceAdd, up_at, b2_T, b2_F, Int.reduceEq, Int.reduceLT, Int.reduceLE, Int.reduceAdd, Int.reduceSub, Int.reduceMul, Int.reduceNeg, reduceIte, if_true, if_false, true_or, or_true, false_or, or_false, false_and, and_false, eq_self, not_false_eq_true, not_true_eq_false, true_and, and_true, List.cons_append, List.nil_append, List.append_nil, b2_0, b2_1, b2_01, Classical.not_not] at this ⊢
          exact this
        · have := L.go
          simp only [Int.reduceAdd, up_at, b2_T, b2_F, Int.reduceEq, Int.reduceLT, Int.reduceLE, Int.reduceAdd, Int.reduceSub, Int.reduceMul, Int.reduceNeg, reduceIte, if_true, if_false, true_or, or_true, false_or, or_false, false_and, and_false, eq_self, not_false_eq_true, not_true_eq_false, true_and, and_true, List.cons_append, List.nil_append, List.append_nil, b2_0, b2_1, b2_01, Classical.not_not] at this ⊢
          exact this
      obtain ⟨h', r1, r2, r3, r4⟩ := ih (n + 1) _ (by omega) S1 (fun x j hx => by rw [up_at, if_neg (by omega)]; exact f x j hx) L1
      refine ⟨h', r1, r2, r3, fun tl Q => ?_⟩
      have e28' := fun (Q : Ds → Mm → List MV → Prop) => e28 (c := n) (Q := Q) (P1 tl)
      simp only [b2_f (show ¬ ((0 ≤ (n : Int) ∧ (n : Int) < 96) ∧ ¬ up h 59 n (-1) (p + 5) n = 0) from fun x => x.2 (by rw [hbb]; exact h6))] at e28'
      rw [p1_17, ← r4 tl Q]
      simp only [p1_0, p1_1, p1_2, p1_5, p1_6, p1_7, p1_10, p1_11, p1_12, p1_15, p1_16, p1_18, p1_20, p1_23, p1_24, p1_27, p1_28, p1_29, p1_30, p1_31, p1_32, p1_35, p1_38, p1_39, p1_42, p1_44, p1_47, p1_48, p1_51, p1_52, p1_53, p1_56, p1_57, p1_58, p1_61, p1_62, p1_65, p1_66, p1_67, p1_68, p1_71, p1_72, p1_75, p1_76, p1_77, p1_78, p1_79, p1_82, p1_83, p1_84, p1_87, p1_90, p1_93, K_27, K_28, L_28, K_29, L_29, K_30, L_30, K_31, L_31, K_32, L_32, K_33, L_33, K_34, K_35, K_36, L_36, K_37, L_37, K_38, L_38, K_39, L_39, K_40, K_41, L_41, K_42, L_42, K_43, L_43, K_44, L_44, K_45, L_45, K_46, L_46, K_47, L_47, K_48, L_48, K_49, L_49, K_50, L_50, K_51, L_51, K_52, K_53, K_54, L_54, K_55, L_55, K_56, L_56, K_57, L_57, K_58, K_59, L_59, K_60, L_60, K_61, L_61, K_62, L_62, K_63, L_63, K_64, L_64, K_65, L_65, K_66, L_66, K_67, L_67, K_68, L_68, K_69, L_69, sh_27_0 S, sh_27_1 S, sh_27_2 S, sh_27_3 S, sh_27_4 S, sh_27_5 S, sh_34_0 S, sh_34_1 S, sh_34_2 S, sh_34_3 S, sh_34_4 S, sh_34_5 S, sh_34_6 S, sh_34_7 S, sh_35_0 S, sh_35_1 S, sh_35_2 S, sh_35_3 S, sh_40_0 S, sh_40_1 S, sh_40_2 S, sh_40_3 S, sh_40_4 S, sh_40_5 S, sh_52_0 S, sh_52_1 S, sh_52_2 S, sh_52_3 S, sh_52_4 S, sh_52_5 S, sh_52_6 S, sh_52_7 S, sh_53_0 S, sh_53_1 S, sh_53_2 S, sh_53_3 S, sh_58_0 S, sh_58_1 S, sh_58_2 S, sh_58_3 S, sh_58_4 S, sh_58_5 S, c1, w1, g0, g1, kp tl, e28', b2_T, b2_F, Int.reduceEq, Int.reduceLT, Int.reduceLE, Int.reduceAdd, Int.reduceSub, Int.reduceMul, Int.reduceNeg, reduceIte, if_true, if_false, true_or, or_true, false_or, or_false, false_and, and_false, eq_self, not_false_eq_true, not_true_eq_false, true_and, and_true, List.cons_append, List.nil_append, List.append_nil, b2_0, b2_1, b2_01, Classical.not_not]
    · have SX : Sh (up (up (up (up (up h 59 n (-1)) 59 n (h 58 6)) 60 (h 58 6) n) 61 (h 58 6) (-1)) 58 6 (h 58 6 + 1)) := Sh.up (Sh_ar (Sh_ar (Sh_ar S1 (by decide)) (by decide)) (by decide)) (by decide)
      have L1 : BL (up (up (up (up (up h 59 n (-1)) 59 n (h 58 6)) 60 (h 58 6) n) 61 (h 58 6) (-1)) 58 6 (h 58 6 + 1)) 52 (mBL q (n + 1)) (n + 1 : Nat) := by
        rw [bL_s]
        refine ⟨fun d d0 d1 => ?_, ?_, fun j j0 j1 => ?_, ?_, ?_⟩
        · rw [bc_95, e76, if_neg h6]
          have := L.nu d d0
          simp only [Int.reduceAdd, up_at, b2_T, b2_F, Int.reduceEq, Int.reduceLT, Int.reduceLE, Int.reduceAdd, Int.reduceSub, Int.reduceMul, Int.reduceNeg, reduceIte, if_true, if_false, true_or, or_true, false_or, or_false, false_and, and_false, eq_self, not_false_eq_true, not_true_eq_false, true_and, and_true, List.cons_append, List.nil_append, List.append_nil, b2_0, b2_1, b2_01, Classical.not_not] at this ⊢
          by_cases hd : d = n
          · rw [if_pos hd, if_pos hd]
            exact ct
          · rw [if_neg hd, if_neg hd, if_neg hd]
            exact this (by omega)
        · rw [bc_30, e76, if_neg h6]
          simp only [Int.reduceAdd, up_at, b2_T, b2_F, Int.reduceEq, Int.reduceLT, Int.reduceLE, Int.reduceAdd, Int.reduceSub, Int.reduceMul, Int.reduceNeg, reduceIte, if_true, if_false, true_or, or_true, false_or, or_false, false_and, and_false, eq_self, not_false_eq_true, not_true_eq_false, true_and, and_true, List.cons_append, List.nil_append, List.append_nil, b2_0, b2_1, b2_01, Classical.not_not]
          omega
        · rw [bc_30, e76, if_neg h6] at j1
          rw [bc_96, e76]
          simp only [Int.reduceAdd, up_at, b2_T, b2_F, Int.reduceEq, Int.reduceLT, Int.reduceLE, Int.reduceAdd, Int.reduceSub, Int.reduceMul, Int.reduceNeg, reduceIte, if_true, if_false, true_or, or_true, false_or, or_false, false_and, and_false, eq_self, not_false_eq_true, not_true_eq_false, true_and, and_true, List.cons_append, List.nil_append, List.append_nil, b2_0, b2_1, b2_01, Classical.not_not]
          by_cases hj : j = h 58 6
          · rw [if_pos hj, if_pos hj, if_pos ⟨h6, by omega⟩]
            exact ⟨rfl, rfl⟩
          · have := L.ba j j0 (by omega)
            simp only [Int.reduceAdd] at this
            rw [if_neg hj, if_neg hj, if_neg (fun x => hj (by omega))]
            exact this
        · have := L.ro
          simp only [Int.reduceAdd, up_at, b2_T, b2_F, Int.reduceEq, Int.reduceLT, Int.reduceLE, Int.reduceAdd, Int.reduceSub, Int.reduceMul, Int.reduceNeg, reduceIte, if_true, if_false, true_or, or_true, false_or, or_false, false_and, and_false, eq_self, not_false_eq_true, not_true_eq_false, true_and, and_true, List.cons_append, List.nil_append, List.append_nil, b2_0, b2_1, b2_01, Classical.not_not] at this ⊢
          exact this
        · have := L.go
          simp only [Int.reduceAdd, up_at, b2_T, b2_F, Int.reduceEq, Int.reduceLT, Int.reduceLE, Int.reduceAdd, Int.reduceSub, Int.reduceMul, Int.reduceNeg, reduceIte, if_true, if_false, true_or, or_true, false_or, or_false, false_and, and_false, eq_self, not_false_eq_true, not_true_eq_false, true_and, and_true, List.cons_append, List.nil_append, List.append_nil, b2_0, b2_1, b2_01, Classical.not_not] at this ⊢
          exact this
      obtain ⟨h', r1, r2, r3, r4⟩ := ih (n + 1) _ (by omega) SX (fun x j hx => by rw [up_at, if_neg (by omega), up_at, if_neg (by omega), up_at, if_neg (by omega), up_at, if_neg (by omega), up_at, if_neg (by omega)]; exact f x j hx) L1
      refine ⟨h', r1, r2, r3, fun tl Q => ?_⟩
      have e28' := fun (Q : Ds → Mm → List MV → Prop) => e28 (c := n) (Q := Q) (P1 tl)
      simp only [b2_t (show ((0 ≤ (n : Int) ∧ (n : Int) < 96) ∧ ¬ up h 59 n (-1) (p + 5) n = 0) from ⟨cc, by rw [hbb]; exact h6⟩)] at e28'
      rw [p1_17, ← r4 tl Q]
      simp only [p1_0, p1_1, p1_2, p1_5, p1_6, p1_7, p1_10, p1_11, p1_12, p1_15, p1_16, p1_18, p1_20, p1_23, p1_24, p1_27, p1_28, p1_29, p1_30, p1_31, p1_32, p1_35, p1_38, p1_39, p1_42, p1_44, p1_47, p1_48, p1_51, p1_52, p1_53, p1_56, p1_57, p1_58, p1_61, p1_62, p1_65, p1_66, p1_67, p1_68, p1_71, p1_72, p1_75, p1_76, p1_77, p1_78, p1_79, p1_82, p1_83, p1_84, p1_87, p1_90, p1_93, K_27, K_28, L_28, K_29, L_29, K_30, L_30, K_31, L_31, K_32, L_32, K_33, L_33, K_34, K_35, K_36, L_36, K_37, L_37, K_38, L_38, K_39, L_39, K_40, K_41, L_41, K_42, L_42, K_43, L_43, K_44, L_44, K_45, L_45, K_46, L_46, K_47, L_47, K_48, L_48, K_49, L_49, K_50, L_50, K_51, L_51, K_52, K_53, K_54, L_54, K_55, L_55, K_56, L_56, K_57, L_57, K_58, K_59, L_59, K_60, L_60, K_61, L_61, K_62, L_62, K_63, L_63, K_64, L_64, K_65, L_65, K_66, L_66, K_67, L_67, K_68, L_68, K_69, L_69, sh_27_0 S, sh_27_1 S, sh_27_2 S, sh_27_3 S, sh_27_4 S, sh_27_5 S, sh_34_0 S, sh_34_1 S, sh_34_2 S, sh_34_3 S, sh_34_4 S, sh_34_5 S, sh_34_6 S, sh_34_7 S, sh_35_0 S, sh_35_1 S, sh_35_2 S, sh_35_3 S, sh_40_0 S, sh_40_1 S, sh_40_2 S, sh_40_3 S, sh_40_4 S, sh_40_5 S, sh_52_0 S, sh_52_1 S, sh_52_2 S, sh_52_3 S, sh_52_4 S, sh_52_5 S, sh_52_6 S, sh_52_7 S, sh_53_0 S, sh_53_1 S, sh_53_2 S, sh_53_3 S, sh_58_0 S, sh_58_1 S, sh_58_2 S, sh_58_3 S, sh_58_4 S, sh_58_5 S, c1, w1, w2, g0, g1, ct0, ct1, kp tl, e28', up_at, b2_T, b2_F, Int.reduceEq, Int.reduceLT, Int.reduceLE, Int.reduceAdd, Int.reduceSub, Int.reduceMul, Int.reduceNeg, reduceIte, if_true, if_false, true_or, or_true, false_or, or_false, false_and, and_false, eq_self, not_false_eq_true, not_true_eq_false, true_and, and_true, List.cons_append, List.nil_append, List.append_nil, b2_0, b2_1, b2_01, Classical.not_not]
theorem c1_52 (hp : p = 9 ∨ p = 18) (S0 : Sh m) (Sg : Sh q) (h30 : q 70 30 = 0) (hb : ∀ c, isC c → m (p + 5) c = q 76 c) : ∃ h', Sh h' ∧ (∀ x j, ¬ (58 ≤ x ∧ x ≤ 61) → h' x j = m x j) ∧ BL h' 52 (mBL q 96) 96 ∧ ∀ (tl : Ds) (Q : Ds → Mm → List MV → Prop), WP 1 0 [(2, 58), (2, p), (3, 0)] [] (dsB ++ tl) m Q = Q (dsB ++ tl) h' [] := by
  have S1 : Sh (up (up (up m 58 6 0) 58 7 0) 58 8 0) := Sh.up (Sh.up (Sh.up S0 (by decide)) (by decide)) (by decide)
  have L1 : BL (up (up (up m 58 6 0) 58 7 0) 58 8 0) 52 (mBL q 0) (0 : Nat) := by
    have e0 : mBL q 0 = q := rfl
    rw [e0]
    refine ⟨fun d d0 d1 => by omega, ?_, fun j j0 j1 => by omega, ?_, ?_⟩
    · rw [h30]
      simp only [Int.reduceAdd, up_at, b2_T, b2_F, Int.reduceEq, Int.reduceLT, Int.reduceLE, Int.reduceAdd, Int.reduceSub, Int.reduceMul, Int.reduceNeg, reduceIte, if_true, if_false, true_or, or_true, false_or, or_false, false_and, and_false, eq_self, not_false_eq_true, not_true_eq_false, true_and, and_true, List.cons_append, List.nil_append, List.append_nil, b2_0, b2_1, b2_01, Classical.not_not]
    · simp only [Int.reduceAdd, up_at, b2_T, b2_F, Int.reduceEq, Int.reduceLT, Int.reduceLE, Int.reduceAdd, Int.reduceSub, Int.reduceMul, Int.reduceNeg, reduceIte, if_true, if_false, true_or, or_true, false_or, or_false, false_and, and_false, eq_self, not_false_eq_true, not_true_eq_false, true_and, and_true, List.cons_append, List.nil_append, List.append_nil, b2_0, b2_1, b2_01, Classical.not_not]
    · simp only [Int.reduceAdd, up_at, b2_T, b2_F, Int.reduceEq, Int.reduceLT, Int.reduceLE, Int.reduceAdd, Int.reduceSub, Int.reduceMul, Int.reduceNeg, reduceIte, if_true, if_false, true_or, or_true, false_or, or_false, false_and, and_false, eq_self, not_false_eq_true, not_true_eq_false, true_and, and_true, List.cons_append, List.nil_append, List.append_nil, b2_0, b2_1, b2_01, Classical.not_not]
  obtain ⟨h', r1, r2, r3, r4⟩ := c1l_52 hp S0 Sg h30 hb 96 0 _ (by omega) S1 (fun x j hx => by rw [up_at, if_neg (by omega), up_at, if_neg (by omega), up_at, if_neg (by omega)]) L1
  refine ⟨h', r1, r2, r3, fun tl Q => ?_⟩
  rw [← r4 tl Q]
  simp only [p1_0, p1_1, p1_2, p1_5, p1_6, p1_7, p1_10, p1_11, p1_12, p1_15, p1_16, K_58, b2_T, b2_F, Int.reduceEq, Int.reduceLT, Int.reduceLE, Int.reduceAdd, Int.reduceSub, Int.reduceMul, Int.reduceNeg, reduceIte, if_true, if_false, true_or, or_true, false_or, or_false, false_and, and_false, eq_self, not_false_eq_true, not_true_eq_false, true_and, and_true, List.cons_append, List.nil_append, List.append_nil, b2_0, b2_1, b2_01, Classical.not_not]
  rfl
theorem c53c_52 (S : Sh m) {q1 : MV} : ∀ (k n : Nat), n + k = 96 → ∀ (tl : Ds) (Q : Ds → Mm → List MV → Prop) (q3 : MV), WP 53 38 [(2, 52), q1, (0, (n : Int)), q3] [] (dsB ++ tl) (xCl m 52 n) Q = WP 53 85 [(2, 52), q1, (0, 96), q3] [] (dsB ++ tl) (xCl m 52 96) Q := by
  have se : ∀ t, Sh (xCl m 52 t) := fun t q hq => by
    have h1 : ∀ q ∈ SL, ¬ (52 + 13 ≤ q.1 ∧ q.1 ≤ 52 + 17) := by decide
    have h2 := h1 q hq
    have e : xCl m 52 t q.1 q.2.1 = m q.1 q.2.1 := by
      unfold xCl
      rw [if_neg (by omega), if_neg (by omega)]
    rw [e]
    exact S q hq
  intro k
  induction k with
  | zero =>
    intro n hn tl Q q3
    have hn : n = 96 := by omega
    subst hn
    have c1 : ((96 : Nat) : Int) = 96 := rfl
    rw [p53_38]
    simp only [p53_39, p53_41, p53_44, p53_45, p53_48, p53_49, p53_50, p53_51, p53_52, p53_55, p53_56, p53_57, p53_58, p53_59, p53_62, p53_63, p53_64, p53_65, p53_66, p53_69, p53_70, p53_71, p53_72, p53_73, p53_76, p53_77, p53_78, p53_79, p53_82, c1, b2_T, b2_F, Int.reduceEq, Int.reduceLT, Int.reduceLE, Int.reduceAdd, Int.reduceSub, Int.reduceMul, Int.reduceNeg, reduceIte, if_true, if_false, true_or, or_true, false_or, or_false, false_and, and_false, eq_self, not_false_eq_true, not_true_eq_false, true_and, and_true, List.cons_append, List.nil_append, List.append_nil, b2_0, b2_1, b2_01, Classical.not_not, Int.lt_irrefl]
  | succ k ih =>
    intro n hn tl Q q3
    have i1 := ih (n + 1) (by omega) tl Q q3
    have c1 : ((n + 1 : Nat) : Int) = (n : Int) + 1 := rfl
    have w1 : w32 ((n : Int) + 1) = (n : Int) + 1 := w32_id (by omega) (by omega)
    have g0 : (0 : Int) ≤ n := by omega
    have g1 : (n : Int) < 96 := by omega
    have S := se n
    have e : up (up (up (up (up (xCl m 52 n) 65 n 0) 66 n 0) 67 n (-1)) 68 n 0) 69 n 0 = xCl m 52 (n + 1 : Nat) := by
      apply fx
      intro a j
      simp only [up_at]
      unfold xCl
      repeat' split
      all_goals first | rfl | (exfalso; omega)
    rw [← i1, ← e, p53_38]
    simp only [p53_39, p53_41, p53_44, p53_45, p53_48, p53_49, p53_50, p53_51, p53_52, p53_55, p53_56, p53_57, p53_58, p53_59, p53_62, p53_63, p53_64, p53_65, p53_66, p53_69, p53_70, p53_71, p53_72, p53_73, p53_76, p53_77, p53_78, p53_79, p53_82, c1, w1, g0, g1, K_27, K_28, L_28, K_29, L_29, K_30, L_30, K_31, L_31, K_32, L_32, K_33, L_33, K_34, K_35, K_36, L_36, K_37, L_37, K_38, L_38, K_39, L_39, K_40, K_41, L_41, K_42, L_42, K_43, L_43, K_44, L_44, K_45, L_45, K_46, L_46, K_47, L_47, K_48, L_48, K_49, L_49, K_50, L_50, K_51, L_51, K_52, K_53, K_54, L_54, K_55, L_55, K_56, L_56, K_57, L_57, K_58, K_59, L_59, K_60, L_60, K_61, L_61, K_62, L_62, K_63, L_63, K_64, L_64, K_65, L_65, K_66, L_66, K_67, L_67, K_68, L_68, K_69, L_69, sh_27_0 S, sh_27_1 S, sh_27_2 S, sh_27_3 S, sh_27_4 S, sh_27_5 S, sh_34_0 S, sh_34_1 S, sh_34_2 S, sh_34_3 S, sh_34_4 S, sh_34_5 S, sh_34_6 S, sh_34_7 S, sh_35_0 S, sh_35_1 S, sh_35_2 S, sh_35_3 S, sh_40_0 S, sh_40_1 S, sh_40_2 S, sh_40_3 S, sh_40_4 S, sh_40_5 S, sh_52_0 S, sh_52_1 S, sh_52_2 S, sh_52_3 S, sh_52_4 S, sh_52_5 S, sh_52_6 S, sh_52_7 S, sh_53_0 S, sh_53_1 S, sh_53_2 S, sh_53_3 S, sh_58_0 S, sh_58_1 S, sh_58_2 S, sh_58_3 S, sh_58_4 S, sh_58_5 S, up_at, b2_T, b2_F, Int.reduceEq, Int.reduceLT, Int.reduceLE, Int.reduceAdd, Int.reduceSub, Int.reduceMul, Int.reduceNeg, reduceIte, if_true, if_false, true_or, or_true, false_or, or_false, false_and, and_false, eq_self, not_false_eq_true, not_true_eq_false, true_and, and_true, List.cons_append, List.nil_append, List.append_nil, b2_0, b2_1, b2_01, Classical.not_not]
end CBEGIN
