/-! the class's run: it begins, in full -/
section CBEGIN2
variable {tl : Ds} {m m4 h g g0 q q4 z4 X : Mm} {Q : Ds → Mm → List MV → Prop} {r p n w v k j c s o f i t l ti wy b u a x : Int}
theorem sm_0 {f : Int → Int} : ∀ n : Nat, (∀ c : Int, 0 ≤ c → c < n → f c = 0) → sm f n = 0 := by
  intro n
  induction n with
  | zero => intro _; rfl
  | succ n ih =>
    intro h
    have e : sm f (n + 1) = sm f n + f n := rfl
    rw [e, ih (fun c c0 c1 => h c c0 (by omega)), h n (by omega) (by omega)]
    rfl
theorem RR_b4 (hr : r = 34 ∨ r = 52) (hp : p = 9 ∨ p = 18) (P : PR m p g) (a : BI g0 q4 96) (hk : z4 = up q4 70 26 0) (k45 : z4 70 45 = g 70 45) (kf : ∀ x j, 72 ≤ x → x ≤ 79 → z4 x j = g x j) (k6 : z4 70 6 = g 70 6) (k101 : ∀ j, 0 ≤ j → j < 6 → z4 101 (6 * g 70 45 + j) = 0) (k24 : z4 70 24 = 0) (k25 : z4 70 25 = 0) (k91 : ∀ t, 0 ≤ t → t < 520 → z4 91 t = -1) (g045 : g0 70 45 = g 70 45) (L : BL h r q4 96) (S4 : Sh m4) (fb : ∀ x j, r + 6 ≤ x → x ≤ r + 9 → m4 x j = h x j) (f13 : ∀ c, isC c → m4 (r + 13) c = 0 ∧ m4 (r + 14) c = 0 ∧ m4 (r + 15) c = -1 ∧ m4 (r + 16) c = 0 ∧ m4 (r + 17) c = 0) (f8 : m4 r 8 = p) (f9 : m4 r 9 = 0) (f10 : m4 r 10 = 1) (f11 : m4 r 11 = 0) (f12 : m4 r 12 = 0) (f4 : m4 (r + 1) 4 = 0) (f6 : m4 27 6 = 0) (f7 : m4 27 7 = 0) (f28 : ∀ t, 0 ≤ t → t < 400 → m4 28 t = -1 ∧ m4 29 t = -1) (fp : ∀ x j, p ≤ x → x ≤ p + 8 → m4 x j = m x j) : RR m4 r p z4 (-1) (-1) ∧ GT z4 := by
  have e : ∀ x j, ¬ x = 70 → z4 x j = q4 x j := fun x j hx => by
    rw [hk]
    simp only [up_at, hx, b2_T, b2_F, Int.reduceEq, Int.reduceLT, Int.reduceLE, Int.reduceAdd, Int.reduceSub, Int.reduceMul, Int.reduceNeg, reduceIte, if_true, if_false, true_or, or_true, false_or, or_false, false_and, and_false, eq_self, not_false_eq_true, not_true_eq_false, true_and, and_true, List.cons_append, List.nil_append, List.append_nil, b2_0, b2_1, b2_01, Classical.not_not]
  have e30 : z4 70 30 = q4 70 30 := by
    rw [hk]
    simp only [up_at, b2_T, b2_F, Int.reduceEq, Int.reduceLT, Int.reduceLE, Int.reduceAdd, Int.reduceSub, Int.reduceMul, Int.reduceNeg, reduceIte, if_true, if_false, true_or, or_true, false_or, or_false, false_and, and_false, eq_self, not_false_eq_true, not_true_eq_false, true_and, and_true, List.cons_append, List.nil_append, List.append_nil, b2_0, b2_1, b2_01, Classical.not_not]
  have e26 : z4 70 26 = 0 := by
    rw [hk]
    simp only [up_at, b2_T, b2_F, Int.reduceEq, Int.reduceLT, Int.reduceLE, Int.reduceAdd, Int.reduceSub, Int.reduceMul, Int.reduceNeg, reduceIte, if_true, if_false, true_or, or_true, false_or, or_false, false_and, and_false, eq_self, not_false_eq_true, not_true_eq_false, true_and, and_true, List.cons_append, List.nil_append, List.append_nil, b2_0, b2_1, b2_01, Classical.not_not]
  have bz := a.z
  rw [g045] at bz
  have ab := a.b
  have er : rlc z4 = 0 := by
    unfold rlc
    apply sm_0
    intro c c0 c1
    unfold rlf
    rw [e30, e 97 c (by decide)]
    by_cases hc : c < q4 70 30
    · rw [if_neg (fun x => x.2 (a.a c c0 hc).2)]
    · rw [if_neg (fun x => hc x.1)]
  have ec : cnt z4 = 0 := by
    unfold cnt
    rw [k45, k101 2 (by decide) (by decide)]
  refine ⟨⟨S4, f8, PR_g (PR_m P fp) kf k6, ?_, ?_, ?_, ?_, ?_⟩, ?_⟩
  · refine ⟨fun d hd => ?_, fun d hd => ?_, fun d hd => ?_, fun d hd => ?_, fun d hd => ?_⟩
    · rw [(f13 d hd).1, k45, e 106 _ (by decide), (bz d hd.1 hd.2).2.2.2.2.1]
    · rw [(f13 d hd).2.1, k45, e 105 _ (by decide), (bz d hd.1 hd.2).2.2.2.1]
    · rw [(f13 d hd).2.2.1, k45, e 103 _ (by decide), (bz d hd.1 hd.2).2.2.1]
    · rw [(f13 d hd).2.2.2.1, e 94 _ (by decide), (bz d hd.1 hd.2).2.1]
    · rw [(f13 d hd).2.2.2.2, k45, e 109 _ (by decide), (bz d hd.1 hd.2).2.2.2.2.2]
  · refine ⟨fun d hd => ?_, ?_, ?_, ?_, fun y y0 y1 => ?_⟩
    · rw [fb _ _ (by omega) (by omega), e 95 _ (by decide)]; exact L.nu d hd.1 hd.2
    · rw [fb _ _ (by omega) (by omega), e30]; exact L.ct
    · rw [fb _ _ (by omega) (by omega), er]; exact L.ro
    · rw [fb _ _ (by omega) (by omega), k45, k101 5 (by decide) (by decide)]; exact L.go
    · rw [e30] at y1
      have l := L.ba y y0 y1
      rw [fb _ _ (by omega) (by omega), fb _ _ (by omega) (by omega), e 96 _ (by decide), e 97 _ (by decide), (a.a y y0 y1).2]
      exact ⟨l.1, l.2, Or.inl rfl⟩
  · refine ⟨?_, f10, ?_, ?_, ?_⟩
    · rw [f9, e26]
    · rw [f11, k45, k101 3 (by decide) (by decide)]
    · rw [f12, k45, k101 4 (by decide) (by decide)]
    · rw [f4, ec]
  · intro y y0 y1
    rw [ec] at y1
    exact absurd y1 (by omega)
  · refine ⟨fun i => i, ⟨?_, ?_, ?_, ?_, ?_, ?_⟩, Or.inl ⟨rfl, rfl⟩⟩
    · rw [f6, k24]; exact ⟨Int.le_refl _, Int.le_refl _⟩
    · rw [f7, k25]
    · intro y y0 y1
      rw [f6] at y1
      exact absurd y1 (by omega)
    · intro y z y0 y1 y2
      rw [f6] at y2
      exact absurd y2 (by omega)
    · intro t t0 t1
      left
      exact ⟨(f28 t t0 t1).1, (f28 t t0 t1).2, k91 t t0 (by omega)⟩
    · intro t t0 t1
      left
      exact k91 t (by omega) t1
  · refine ⟨fun d hd _ _ _ => ?_, fun d hd => ?_, fun d hd => ?_, fun d hd => ?_, fun d hd y => ?_, fun y y0 y1 => ?_, fun d hd y => ?_, fun y y0 y1 => ?_⟩
    · rw [k45, e 93 _ (by decide), e 106 _ (by decide), (bz d hd.1 hd.2).1, (bz d hd.1 hd.2).2.2.2.2.1]
    · rw [k45, e 105 _ (by decide), e 103 _ (by decide), (bz d hd.1 hd.2).2.2.2.1, (bz d hd.1 hd.2).2.2.1]
      exact ⟨fun _ => rfl, fun _ => rfl⟩
    · left
      rw [k45, e 109 _ (by decide), (bz d hd.1 hd.2).2.2.2.2.2]
    · left
      rw [e 94 _ (by decide), (bz d hd.1 hd.2).2.1]
    · rw [k45, e 105 _ (by decide)] at y
      exact absurd (bz d hd.1 hd.2).2.2.2.1 y
    · rw [ec] at y1
      exact absurd y1 (by omega)
    · rw [k45, e 105 _ (by decide)] at y
      exact absurd (bz d hd.1 hd.2).2.2.2.1 y
    · rw [ec] at y1
      exact absurd y1 (by omega)
theorem GT_add (T : GT g) : GT (mAdd g t c s k l) := by
  have e : ∀ x j, (x = 72 ∨ x = 93 ∨ x = 94 ∨ x = 101 ∨ x = 102 ∨ x = 103 ∨ x = 104 ∨ x = 105 ∨ x = 106 ∨ x = 109) → mAdd g t c s k l x j = g x j := fun x j hx => add_f (by omega) (by omega) (by omega) (by omega) (by omega) (by omega) (by omega) (by omega)
  have e45 : mAdd g t c s k l 70 45 = g 70 45 := add_70 (by decide) (by decide)
  have e2 : ∀ j, mAdd g t c s k l 102 j = g 102 j := fun j => e 102 j (by decide)
  have e5 : ∀ j, mAdd g t c s k l 105 j = g 105 j := fun j => e 105 j (by decide)
  have e4 : ∀ j, mAdd g t c s k l 104 j = g 104 j := fun j => e 104 j (by decide)
  have e7 : ∀ j, mAdd g t c s k l 72 j = g 72 j := fun j => e 72 j (by decide)
  have fc : cnt (mAdd g t c s k l) = cnt g := by
    unfold cnt
    rw [e45, e 101 _ (by decide)]
  refine ⟨fun d hd => ?_, fun d hd => ?_, fun d hd => ?_, fun d hd => ?_, fun d hd => ?_, fun i i0 i1 => ?_, fun d hd => ?_, fun i i0 i1 => ?_⟩
  · rw [e 72 d (by decide), e 93 d (by decide), e 106 _ (by decide), e45]; exact T.tm d hd
  · rw [e 105 _ (by decide), e 103 _ (by decide), e45]; exact T.rg d hd
  · rw [e 109 _ (by decide), e45]; exact T.lo d hd
  · rw [e 94 _ (by decide)]; exact T.dn d hd
  · rw [e45, e5, e7]; exact T.k8 d hd
  · rw [fc] at i1
    rw [e45, e2, e5, e7]; exact T.hr i i0 i1
  · simp only [e45, e2, e5, e4, fc]; exact T.rs d hd
  · rw [fc] at i1
    rw [e45, e2, e2]; exact T.fl i i0 i1
theorem GT_bs (T : GT g) : ∀ n : Nat, GT (mBS g n) := by
  intro n
  induction n with
  | zero => exact T
  | succ n ih => exact GT_add ih
theorem xa_9 (hr : r = 34 ∨ r = 52) {y z : Int} : up (xAdd h t y k l) r 9 z = xAdd (up h r 9 z) t y k l := by
  apply fx
  intro a j
  rcases hr with rfl | rfl
  · unfold xAdd
    by_cases h1 : t < 400
    · simp only [if_pos h1]
      by_cases h2 : 0 ≤ h 29 t ∧ h 29 t < h 27 6
      · simp only [up_at, h2, b2_T, b2_F, Int.reduceEq, Int.reduceLT, Int.reduceLE, Int.reduceAdd, Int.reduceSub, Int.reduceMul, Int.reduceNeg, reduceIte, if_true, if_false, true_or, or_true, false_or, or_false, false_and, and_false, eq_self, not_false_eq_true, not_true_eq_false, true_and, and_true, List.cons_append, List.nil_append, List.append_nil, b2_0, b2_1, b2_01, Classical.not_not]
        repeat' split
        all_goals first | rfl | (exfalso; omega)
      · simp only [up_at, eq_false h2, b2_T, b2_F, Int.reduceEq, Int.reduceLT, Int.reduceLE, Int.reduceAdd, Int.reduceSub, Int.reduceMul, Int.reduceNeg, reduceIte, if_true, if_false, true_or, or_true, false_or, or_false, false_and, and_false, eq_self, not_false_eq_true, not_true_eq_false, true_and, and_true, List.cons_append, List.nil_append, List.append_nil, b2_0, b2_1, b2_01, Classical.not_not]
        repeat' split
        all_goals first | rfl | (exfalso; omega)
    · simp only [if_neg h1]
      simp only [up_at, b2_T, b2_F, Int.reduceEq, Int.reduceLT, Int.reduceLE, Int.reduceAdd, Int.reduceSub, Int.reduceMul, Int.reduceNeg, reduceIte, if_true, if_false, true_or, or_true, false_or, or_false, false_and, and_false, eq_self, not_false_eq_true, not_true_eq_false, true_and, and_true, List.cons_append, List.nil_append, List.append_nil, b2_0, b2_1, b2_01, Classical.not_not]
      repeat' split
      all_goals first | rfl | (exfalso; omega)
  · unfold xAdd
    by_cases h1 : t < 400
    · simp only [if_pos h1]
      by_cases h2 : 0 ≤ h 29 t ∧ h 29 t < h 27 6
      · simp only [up_at, h2, b2_T, b2_F, Int.reduceEq, Int.reduceLT, Int.reduceLE, Int.reduceAdd, Int.reduceSub, Int.reduceMul, Int.reduceNeg, reduceIte, if_true, if_false, true_or, or_true, false_or, or_false, false_and, and_false, eq_self, not_false_eq_true, not_true_eq_false, true_and, and_true, List.cons_append, List.nil_append, List.append_nil, b2_0, b2_1, b2_01, Classical.not_not]
        repeat' split
        all_goals first | rfl | (exfalso; omega)
      · simp only [up_at, eq_false h2, b2_T, b2_F, Int.reduceEq, Int.reduceLT, Int.reduceLE, Int.reduceAdd, Int.reduceSub, Int.reduceMul, Int.reduceNeg, reduceIte, if_true, if_false, true_or, or_true, false_or, or_false, false_and, and_false, eq_self, not_false_eq_true, not_true_eq_false, true_and, and_true, List.cons_append, List.nil_append, List.append_nil, b2_0, b2_1, b2_01, Classical.not_not]
        repeat' split
        all_goals first | rfl | (exfalso; omega)
    · simp only [if_neg h1]
      simp only [up_at, b2_T, b2_F, Int.reduceEq, Int.reduceLT, Int.reduceLE, Int.reduceAdd, Int.reduceSub, Int.reduceMul, Int.reduceNeg, reduceIte, if_true, if_false, true_or, or_true, false_or, or_false, false_and, and_false, eq_self, not_false_eq_true, not_true_eq_false, true_and, and_true, List.cons_append, List.nil_append, List.append_nil, b2_0, b2_1, b2_01, Classical.not_not]
      repeat' split
      all_goals first | rfl | (exfalso; omega)
theorem c53d_34 (hp : p = 9 ∨ p = 18) (A : GA q 0) (qq : QI q 0) (V : SV q) : ∀ (j n : Nat) (h : Mm), (n : Int) + j = q 70 6 → Sh h → RR (up h 34 9 0) 34 p (mBS q n) (-1) (-1) → ∃ h', Sh h' ∧ RR (up h' 34 9 0) 34 p (mBS q (q 70 6).toNat) (-1) (-1) ∧ FR h h' 34 ∧ ∀ (tl : Ds) (Q : Ds → Mm → List MV → Prop) (q3 : MV), WP 53 94 [(2, 34), (2, p), (0, (n : Int)), q3] [] (dsB ++ tl) h Q = Q (dsB ++ tl) h' [] := by
  have vn := V.n
  intro j
  induction j with
  | zero =>
    intro n h hn S R
    have en : (q 70 6).toNat = n := by omega
    rw [en]
    have hs : h p 8 = (n : Int) := by
      have e := R.P.s
      rw [bs_70 (by decide) (by decide), up_at, if_neg (by omega)] at e
      omega
    have kp := fun tl => (PAp (tl := tl) S hp).1
    refine ⟨h, S, R, FR_refl, fun tl Q q3 => ?_⟩
    rw [p53_94]
    simp only [p53_95, p53_96, p53_99, p53_145, kp tl, hs, b2_T, b2_F, Int.reduceEq, Int.reduceLT, Int.reduceLE, Int.reduceAdd, Int.reduceSub, Int.reduceMul, Int.reduceNeg, reduceIte, if_true, if_false, true_or, or_true, false_or, or_false, false_and, and_false, eq_self, not_false_eq_true, not_true_eq_false, true_and, and_true, List.cons_append, List.nil_append, List.append_nil, b2_0, b2_1, b2_01, Classical.not_not, Int.lt_irrefl]
  | succ j ih =>
    intro n h hn S R
    have gg := GA_bs A qq V n (by omega)
    have vv := V.v n (by omega) (by omega)
    have e6 : mBS q n 70 6 = q 70 6 := bs_70 (by decide) (by decide) n
    have e9 : mBS q n 79 n = q 79 n := bs_f (by decide) (by decide) (by decide) (by decide) (by decide) (by decide) (by decide) (by decide) n
    have e7 : mBS q n 77 n = q 77 n := bs_f (by decide) (by decide) (by decide) (by decide) (by decide) (by decide) (by decide) (by decide) n
    have e8 : mBS q n 78 n = q 78 n := bs_f (by decide) (by decide) (by decide) (by decide) (by decide) (by decide) (by decide) (by decide) n
    have hs : h p 8 = q 70 6 := by
      have e := R.P.s
      rw [e6, up_at, if_neg (by omega)] at e
      exact e
    have ht := R.P.t n (by omega) (by rw [e6]; omega)
    rw [up_at, if_neg (by omega), up_at, if_neg (by omega), up_at, if_neg (by omega), e7, e8, e9] at ht
    have hP := fun tl => PAp (tl := tl) S hp
    have c1 : ((n + 1 : Nat) : Int) = (n : Int) + 1 := rfl
    have w1 : w32 ((n : Int) + 1) = (n : Int) + 1 := w32_id (by omega) (by omega)
    have n0 : (0 : Int) ≤ n := by omega
    have n1 : (n : Int) < q 70 6 := by omega
    have n2 : (n : Int) < 4 := by omega
    have c0 := vv.1.1
    have c9 := vv.1.2
    have s0 := vv.2.1.1
    have s9 := vv.2.1.2
    have w2 : w32 (q 77 n * 4) = q 77 n * 4 := w32_id (by omega) (by omega)
    have w3 : w32 (q 77 n * 4 + q 78 n) = 4 * q 77 n + q 78 n := by
      rw [w32_id (by omega) (by omega)]
      omega
    have R1 : RR (xAdd (up h 34 9 0) (q 79 n) (4 * q 77 n + q 78 n) (-1) 0) 34 p (mBS q (n + 1)) (-1) (-1) := by
      have z := RR_add (c := q 77 n) (s := q 78 n) (k := -1) (l := 0) (t := q 79 n) R (by decide) hp (by omega) (by omega) gg.2.1
      have e : mBS q (n + 1) = mAdd (mBS q n) (q 79 n) (q 77 n) (q 78 n) (-1) 0 := by
        show mAdd (mBS q n) (mBS q n 79 n) (mBS q n 77 n) (mBS q n 78 n) (-1) 0 = _
        rw [e7, e8, e9]
      rw [e]
      exact z
    rw [← xa_9 (r := 34) (by decide)] at R1
    have S1 : Sh (xAdd h (q 79 n) (4 * q 77 n + q 78 n) (-1) 0) := Sh_xa S
    obtain ⟨h', r0, r1, r2, r3⟩ := ih (n + 1) _ (by omega) S1 R1
    refine ⟨h', r0, r1, FR_trans FR_xa r2, fun tl Q q3 => ?_⟩
    have hz : 0 ≤ h 27 6 ∧ h 27 6 < 1196 := by
      obtain ⟨φ, a, z⟩ := R.Q
      have sz := a.sz
      have q1 := gg.2.1.1
      have e : up h 34 9 0 27 6 = h 27 6 := rfl
      rw [e] at sz
      omega
    have h7 : -2000 ≤ h 27 7 ∧ h 27 7 < 4000 := by
      obtain ⟨φ, a, z⟩ := R.Q
      have wt := a.wt
      have q1 := gg.2.1.2.1
      have e : up h 34 9 0 27 7 = h 27 7 := rfl
      rw [e] at wt
      omega
    have ex : ∀ Q : Ds → Mm → List MV → Prop, WP 12 0 [(2, 27), (0, q 79 n), (0, 4 * q 77 n + q 78 n), (0, -1), (0, 0), (3, 0)] [] (dsB ++ tl) h Q = Q (dsB ++ tl) (xAdd h (q 79 n) (4 * q 77 n + q 78 n) (-1) 0) [] := fun Q => e12 S vv.2.2.1 hz h7 (Or.inl rfl)
    obtain ⟨g0, ⟨g1, g2, g3, g4, g5, g6, g7, g8⟩, ⟨k1, k2, k3, k4, k5, k6, k7, k8⟩, ⟨l1, l2, l3, l4, l5, l6, l7, l8⟩⟩ := hP tl
    rw [p53_94, ← r3 tl Q (0, 4 * q 77 n + q 78 n)]
    simp only [p53_95, p53_96, p53_99, p53_102, p53_103, p53_104, p53_107, p53_108, p53_111, p53_112, p53_113, p53_114, p53_115, p53_116, p53_119, p53_120, p53_121, p53_122, p53_123, p53_124, p53_127, p53_128, p53_131, p53_132, p53_133, p53_134, p53_135, p53_136, p53_139, p53_142, K_27, K_28, L_28, K_29, L_29, K_30, L_30, K_31, L_31, K_32, L_32, K_33, L_33, K_34, K_35, K_36, L_36, K_37, L_37, K_38, L_38, K_39, L_39, K_40, K_41, L_41, K_42, L_42, K_43, L_43, K_44, L_44, K_45, L_45, K_46, L_46, K_47, L_47, K_48, L_48, K_49, L_49, K_50, L_50, K_51, L_51, K_52, K_53, K_54, L_54, K_55, L_55, K_56, L_56, K_57, L_57, K_58, K_59, L_59, K_60, L_60, K_61, L_61, K_62, L_62, K_63, L_63, K_64, L_64, K_65, L_65, K_66, L_66, K_67, L_67, K_68, L_68, K_69, L_69, sh_27_0 S, sh_27_1 S, sh_27_2 S, sh_27_3 S, sh_27_4 S, sh_27_5 S, sh_34_0 S, sh_34_1 S, sh_34_2 S, sh_34_3 S, sh_34_4 S, sh_34_5 S, sh_34_6 S, sh_34_7 S, sh_35_0 S, sh_35_1 S, sh_35_2 S, sh_35_3 S, sh_40_0 S, sh_40_1 S, sh_40_2 S, sh_40_3 S, sh_40_4 S, sh_40_5 S, sh_52_0 S, sh_52_1 S, sh_52_2 S, sh_52_3 S, sh_52_4 S, sh_52_5 S, sh_52_6 S, sh_52_7 S, sh_53_0 S, sh_53_1 S, sh_53_2 S, sh_53_3 S, sh_58_0 S, sh_58_1 S, sh_58_2 S, sh_58_3 S, sh_58_4 S, sh_58_5 S, g0, g1, g2, g3, g4, g5, g6, g7, g8, k1, k2, k3, k4, k5, k6, k7, k8, l1, l2, l3, l4, l5, l6, l7, l8, hs, c1, w1, w2, w3, n0, n1, n2, ht.1, ht.2.1, ht.2.2, ex, b2_T, b2_F, Int.reduceEq, Int.reduceLT, Int.reduceLE, Int.reduceAdd, Int.reduceSub, Int.reduceMul, Int.reduceNeg, reduceIte, if_true, if_false, true_or, or_true, false_or, or_false, false_and, and_false, eq_self, not_false_eq_true, not_true_eq_false, true_and, and_true, List.cons_append, List.nil_append, List.append_nil, b2_0, b2_1, b2_01, Classical.not_not]
theorem c53_34 (hp : p = 9 ∨ p = 18) (S : Sh m) (Sg : Sh g) (P : PR m p g) (pv : PV g) (V : SV g) (bk : 0 ≤ g 70 45 ∧ g 70 45 ≤ 2) : ∃ h', Sh h' ∧ RR (up h' 34 9 0) 34 p (mBegin g) (-1) (-1) ∧ GT (mBegin g) ∧ FR m h' 34 ∧ ∀ (tl : Ds) (Q : Ds → Mm → List MV → Prop), WP 53 0 [(2, 34), (2, p), (3, 0), (3, 0)] [] (dsB ++ tl) m Q = Q (dsB ++ tl) h' [] := by
  have S1 : Sh (up (up (up (up (up m 34 8 p) 34 10 1) 34 11 0) 34 12 0) 35 4 0) := Sh.up (Sh.up (Sh.up (Sh.up (Sh.up S (by decide)) (by decide)) (by decide)) (by decide)) (by decide)
  have f0 : ∀ x j, ¬ x = 34 → ¬ x = 35 → (up (up (up (up (up m 34 8 p) 34 10 1) 34 11 0) 34 12 0) 35 4 0) x j = m x j := fun x j h1 h2 => by simp only [up_at, h1, h2, b2_T, b2_F, Int.reduceEq, Int.reduceLT, Int.reduceLE, Int.reduceAdd, Int.reduceSub, Int.reduceMul, Int.reduceNeg, reduceIte, if_true, if_false, true_or, or_true, false_or, or_false, false_and, and_false, eq_self, not_false_eq_true, not_true_eq_false, true_and, and_true, List.cons_append, List.nil_append, List.append_nil, b2_0, b2_1, b2_01, Classical.not_not]
  obtain ⟨h, Shh, hf, hL, h4⟩ := c1_34 (m := up (up (up (up (up m 34 8 p) 34 10 1) 34 11 0) 34 12 0) 35 4 0) (q := mB0 g) hp S1 (Sh_b0 Sg) b0_30 (fun c hc => by rw [f0 _ _ (by omega) (by omega), b0_f (by decide) (by decide) (by decide)]; exact P.b c hc)
  obtain ⟨m3, hm3⟩ : ∃ m3, m3 = up (up (xEmp (xCl h 34 96) 400) 27 6 0) 27 7 0 := ⟨_, rfl⟩
  have S2 : Sh (xCl h 34 96) := fun q hq => by
    have h1 : ∀ q ∈ SL, ¬ (34 + 13 ≤ q.1 ∧ q.1 ≤ 34 + 17) := by decide
    have h2 := h1 q hq
    have e : xCl h 34 96 q.1 q.2.1 = h q.1 q.2.1 := by
      unfold xCl
      rw [if_neg (by omega), if_neg (by omega)]
    rw [e]
    exact Shh q hq
  have S3 : Sh m3 := by
    rw [hm3]
    refine Sh.up (Sh.up ?_ (by decide)) (by decide)
    intro q hq
    have h1 : ∀ q ∈ SL, ¬ (q.1 = 28 ∨ q.1 = 29) := by decide
    have e : xEmp (xCl h 34 96) 400 q.1 q.2.1 = xCl h 34 96 q.1 q.2.1 := by
      unfold xEmp
      rw [if_neg (fun x => h1 q hq x.1)]
    rw [e]
    exact S2 q hq
  have t1 : ∀ x j, ¬ x = 27 → ¬ x = 28 → ¬ x = 29 → m3 x j = xCl h 34 96 x j := fun x j h1 h2 h3 => by
    rw [hm3]
    simp only [up_at, h1, b2_T, b2_F, Int.reduceEq, Int.reduceLT, Int.reduceLE, Int.reduceAdd, Int.reduceSub, Int.reduceMul, Int.reduceNeg, reduceIte, if_true, if_false, true_or, or_true, false_or, or_false, false_and, and_false, eq_self, not_false_eq_true, not_true_eq_false, true_and, and_true, List.cons_append, List.nil_append, List.append_nil, b2_0, b2_1, b2_01, Classical.not_not]
    unfold xEmp
    rw [if_neg (by omega)]
  have t2 : ∀ x j, ¬ (34 + 13 ≤ x ∧ x ≤ 34 + 17) → xCl h 34 96 x j = h x j := fun x j h1 => by
    unfold xCl
    rw [if_neg (by omega), if_neg (by omega)]
  have t3 : ∀ x j, ¬ (27 ≤ x ∧ x ≤ 29) → ¬ (34 + 13 ≤ x ∧ x ≤ 34 + 17) → m3 x j = h x j := fun x j h1 h2 => by
    rw [t1 x j (by omega) (by omega) (by omega), t2 x j h2]
  have t4 : ∀ j, m3 34 j = (up (up (up (up (up m 34 8 p) 34 10 1) 34 11 0) 34 12 0) 35 4 0) 34 j := fun j => by
    rw [t3 _ _ (by omega) (by omega), hf _ _ (by omega)]
  have e45 : mB4 g 70 45 = g 70 45 := b4_70 Sg (by decide) (by decide) (by decide) (by decide)
  have k24 : mB4 g 70 24 = 0 := (GA_b4 Sg pv bk).2.1.1 |> fun y => Int.le_antisymm y.2 y.1
  have ga := GA_b4 Sg pv bk
  obtain ⟨z4, hz4⟩ : ∃ z4, z4 = mB4 g := ⟨_, rfl⟩
  obtain ⟨q4, hq4⟩ : ∃ q4, q4 = mBL (mB0 g) 96 := ⟨_, rfl⟩
  have hk : z4 = up q4 70 26 0 := by
    rw [hz4, hq4]
    rfl
  have bi : BI (mB0 g) q4 96 := by
    rw [hq4]
    exact BI_b0 Sg
  rw [← hq4] at hL
  have k101 : ∀ j, 0 ≤ j → j < 6 → z4 101 (6 * g 70 45 + j) = 0 := fun j j0 j1 => by
    rw [hk, up_at, if_neg (by omega), bi.f 101 _ (by decide) (by decide) (by decide) (by decide) (by decide) (by decide) (by decide) (by decide) (by decide) (fun y => absurd y.1 (by decide))]
    exact b0_101 j0 j1
  have k91 : ∀ t, 0 ≤ t → t < 520 → z4 91 t = -1 := fun t t0 t1 => by
    rw [hk, up_at, if_neg (by omega), bi.f 91 _ (by decide) (by decide) (by decide) (by decide) (by decide) (by decide) (by decide) (by decide) (by decide) (fun y => absurd y.1 (by decide))]
    exact b0_91 t0 t1
  have kf : ∀ x j, 72 ≤ x → x ≤ 79 → z4 x j = g x j := fun x j h1 h2 => by
    rw [hz4]
    exact b4_f Sg (by omega) (by omega) (by omega) (by omega) (by omega) (by omega) (by omega) (by omega) (by omega) (by omega) (by omega) (by omega)
  have k6 : z4 70 6 = g 70 6 := by
    rw [hz4]
    exact b4_70 Sg (by decide) (by decide) (by decide) (by decide)
  rw [← hz4] at e45 k24 ga
  have RT := RR_b4 (h := h) (m := m) (m4 := up m3 34 9 0) (g := g) (g0 := mB0 g) (q4 := q4) (z4 := z4) (r := 34) (p := p) (by decide) hp P bi hk e45 kf k6 k101 k24 ga.2.2.2 k91 (b0_70 (by decide) (by decide) (by decide)) hL (Sh.up S3 (by decide))
    (fun x j h1 h2 => by rw [up_at, if_neg (by omega), t3 x j (by omega) (by omega)])
    (fun c hc => by
      have c0 := hc.1
      have c1 := hc.2
      have y : ∀ x, (x = 47 ∨ x = 48 ∨ x = 50 ∨ x = 51) → up m3 34 9 0 x c = 0 := fun x hx => by
        rw [up_at, if_neg (by omega), t1 x c (by omega) (by omega) (by omega)]
        unfold xCl
        rw [if_pos (by omega)]
      have y2 : up m3 34 9 0 49 c = -1 := by
        rw [up_at, if_neg (by omega), t1 _ c (by omega) (by omega) (by omega)]
        unfold xCl
        rw [if_neg (by omega), if_pos (by omega)]
      exact ⟨y _ (by decide), y _ (by decide), y2, y _ (by decide), y _ (by decide)⟩)
    (by rw [up_at, if_neg (by decide), t4]; simp only [up_at, b2_T, b2_F, Int.reduceEq, Int.reduceLT, Int.reduceLE, Int.reduceAdd, Int.reduceSub, Int.reduceMul, Int.reduceNeg, reduceIte, if_true, if_false, true_or, or_true, false_or, or_false, false_and, and_false, eq_self, not_false_eq_true, not_true_eq_false, true_and, and_true, List.cons_append, List.nil_append, List.append_nil, b2_0, b2_1, b2_01, Classical.not_not])
    (by simp only [up_at, b2_T, b2_F, Int.reduceEq, Int.reduceLT, Int.reduceLE, Int.reduceAdd, Int.reduceSub, Int.reduceMul, Int.reduceNeg, reduceIte, if_true, if_false, true_or, or_true, false_or, or_false, false_and, and_false, eq_self, not_false_eq_true, not_true_eq_false, true_and, and_true, List.cons_append, List.nil_append, List.append_nil, b2_0, b2_1, b2_01, Classical.not_not])
    (by rw [up_at, if_neg (by decide), t4]; simp only [up_at, b2_T, b2_F, Int.reduceEq, Int.reduceLT, Int.reduceLE, Int.reduceAdd, Int.reduceSub, Int.reduceMul, Int.reduceNeg, reduceIte, if_true, if_false, true_or, or_true, false_or, or_false, false_and, and_false, eq_self, not_false_eq_true, not_true_eq_false, true_and, and_true, List.cons_append, List.nil_append, List.append_nil, b2_0, b2_1, b2_01, Classical.not_not])
    (by rw [up_at, if_neg (by decide), t4]; simp only [up_at, b2_T, b2_F, Int.reduceEq, Int.reduceLT, Int.reduceLE, Int.reduceAdd, Int.reduceSub, Int.reduceMul, Int.reduceNeg, reduceIte, if_true, if_false, true_or, or_true, false_or, or_false, false_and, and_false, eq_self, not_false_eq_true, not_true_eq_false, true_and, and_true, List.cons_append, List.nil_append, List.append_nil, b2_0, b2_1, b2_01, Classical.not_not])
    (by rw [up_at, if_neg (by decide), t4]; simp only [up_at, b2_T, b2_F, Int.reduceEq, Int.reduceLT, Int.reduceLE, Int.reduceAdd, Int.reduceSub, Int.reduceMul, Int.reduceNeg, reduceIte, if_true, if_false, true_or, or_true, false_or, or_false, false_and, and_false, eq_self, not_false_eq_true, not_true_eq_false, true_and, and_true, List.cons_append, List.nil_append, List.append_nil, b2_0, b2_1, b2_01, Classical.not_not])
    (by
      simp only [Int.reduceAdd]
      rw [up_at, if_neg (by decide), t3 _ _ (by decide) (by decide), hf _ _ (by decide)]
      simp only [up_at, b2_T, b2_F, Int.reduceEq, Int.reduceLT, Int.reduceLE, Int.reduceAdd, Int.reduceSub, Int.reduceMul, Int.reduceNeg, reduceIte, if_true, if_false, true_or, or_true, false_or, or_false, false_and, and_false, eq_self, not_false_eq_true, not_true_eq_false, true_and, and_true, List.cons_append, List.nil_append, List.append_nil, b2_0, b2_1, b2_01, Classical.not_not])
    (by rw [up_at, if_neg (by decide), hm3]; simp only [up_at, b2_T, b2_F, Int.reduceEq, Int.reduceLT, Int.reduceLE, Int.reduceAdd, Int.reduceSub, Int.reduceMul, Int.reduceNeg, reduceIte, if_true, if_false, true_or, or_true, false_or, or_false, false_and, and_false, eq_self, not_false_eq_true, not_true_eq_false, true_and, and_true, List.cons_append, List.nil_append, List.append_nil, b2_0, b2_1, b2_01, Classical.not_not])
    (by rw [up_at, if_neg (by decide), hm3]; simp only [up_at, b2_T, b2_F, Int.reduceEq, Int.reduceLT, Int.reduceLE, Int.reduceAdd, Int.reduceSub, Int.reduceMul, Int.reduceNeg, reduceIte, if_true, if_false, true_or, or_true, false_or, or_false, false_and, and_false, eq_self, not_false_eq_true, not_true_eq_false, true_and, and_true, List.cons_append, List.nil_append, List.append_nil, b2_0, b2_1, b2_01, Classical.not_not])
    (fun t t0 t1 => by
      rw [up_at, if_neg (by omega), up_at, if_neg (by omega), hm3]
      simp only [up_at, b2_T, b2_F, Int.reduceEq, Int.reduceLT, Int.reduceLE, Int.reduceAdd, Int.reduceSub, Int.reduceMul, Int.reduceNeg, reduceIte, if_true, if_false, true_or, or_true, false_or, or_false, false_and, and_false, eq_self, not_false_eq_true, not_true_eq_false, true_and, and_true, List.cons_append, List.nil_append, List.append_nil, b2_0, b2_1, b2_01, Classical.not_not]
      unfold xEmp
      rw [if_pos (by omega), if_pos (by omega)]
      exact ⟨rfl, rfl⟩)
    (fun x j h1 h2 => by rw [up_at, if_neg (by omega), t3 x j (by omega) (by omega), hf x j (by omega), f0 x j (by omega) (by omega)])
  have V4 : SV z4 := by
    rw [hz4]
    exact SV_b4 Sg V
  obtain ⟨h', u0, u1, u2, u3⟩ := c53d_34 hp ga.1 ga.2.1 V4 (z4 70 6).toNat 0 m3 (by have := V4.n; omega) S3 RT.1
  have eb : mBegin g = mBS z4 (z4 70 6).toNat := by
    rw [k6, hz4]
    rfl
  refine ⟨h', u0, by rw [eb]; exact u1, by rw [eb]; exact GT_bs RT.2 _, ?_, fun tl Q => ?_⟩
  · have fm : FR m m3 34 := fun a j h1 h2 => by
      rw [t3 a j (by omega) (by omega), hf a j (by omega), f0 a j (by omega) (by omega)]
    exact FR_trans fm u2
  · have h4' := fun (Q : Ds → Mm → List MV → Prop) => h4 tl Q
    have e0 : xCl h 34 (0 : Nat) = h := by
      apply fx
      intro a j
      unfold xCl
      rw [if_neg (by omega), if_neg (by omega)]
    have hc := c53c_34 (q1 := (2, p)) Shh 96 0 (by omega) tl Q (3, 0)
    rw [e0] at hc
    have e11' := fun (Q : Ds → Mm → List MV → Prop) => e11 (tl := tl) (Q := Q) S2
    rw [← hm3] at e11'
    have u3' := u3 tl Q (3, 0)
    have n0 : ((0 : Nat) : Int) = 0 := rfl
    rw [n0] at u3' hc
    have kp := (PAp (tl := tl) S hp).1
    simp only [p53_0, p53_1, p53_2, p53_5, p53_6, p53_7, p53_10, p53_11, p53_12, p53_15, p53_16, p53_17, p53_20, p53_21, p53_24, p53_25, p53_28, p53_29, p53_32, p53_33, p53_36, p53_37, K_27, K_28, L_28, K_29, L_29, K_30, L_30, K_31, L_31, K_32, L_32, K_33, L_33, K_34, K_35, K_36, L_36, K_37, L_37, K_38, L_38, K_39, L_39, K_40, K_41, L_41, K_42, L_42, K_43, L_43, K_44, L_44, K_45, L_45, K_46, L_46, K_47, L_47, K_48, L_48, K_49, L_49, K_50, L_50, K_51, L_51, K_52, K_53, K_54, L_54, K_55, L_55, K_56, L_56, K_57, L_57, K_58, K_59, L_59, K_60, L_60, K_61, L_61, K_62, L_62, K_63, L_63, K_64, L_64, K_65, L_65, K_66, L_66, K_67, L_67, K_68, L_68, K_69, L_69, sh_27_0 S, sh_27_1 S, sh_27_2 S, sh_27_3 S, sh_27_4 S, sh_27_5 S, sh_34_0 S, sh_34_1 S, sh_34_2 S, sh_34_3 S, sh_34_4 S, sh_34_5 S, sh_34_6 S, sh_34_7 S, sh_35_0 S, sh_35_1 S, sh_35_2 S, sh_35_3 S, sh_40_0 S, sh_40_1 S, sh_40_2 S, sh_40_3 S, sh_40_4 S, sh_40_5 S, sh_52_0 S, sh_52_1 S, sh_52_2 S, sh_52_3 S, sh_52_4 S, sh_52_5 S, sh_52_6 S, sh_52_7 S, sh_53_0 S, sh_53_1 S, sh_53_2 S, sh_53_3 S, sh_58_0 S, sh_58_1 S, sh_58_2 S, sh_58_3 S, sh_58_4 S, sh_58_5 S, kp, h4', up_at, b2_T, b2_F, Int.reduceEq, Int.reduceLT, Int.reduceLE, Int.reduceAdd, Int.reduceSub, Int.reduceMul, Int.reduceNeg, reduceIte, if_true, if_false, true_or, or_true, false_or, or_false, false_and, and_false, eq_self, not_false_eq_true, not_true_eq_false, true_and, and_true, List.cons_append, List.nil_append, List.append_nil, b2_0, b2_1, b2_01, Classical.not_not]
    rw [hc]
    simp only [p53_85, p53_86, p53_89, p53_92, p53_93, sh_34_0 S2, K_27, K_34, e11', u3', b2_T, b2_F, Int.reduceEq, Int.reduceLT, Int.reduceLE, Int.reduceAdd, Int.reduceSub, Int.reduceMul, Int.reduceNeg, reduceIte, if_true, if_false, true_or, or_true, false_or, or_false, false_and, and_false, eq_self, not_false_eq_true, not_true_eq_false, true_and, and_true, List.cons_append, List.nil_append, List.append_nil, b2_0, b2_1, b2_01, Classical.not_not]
theorem c53d_52 (hp : p = 9 ∨ p = 18) (A : GA q 0) (qq : QI q 0) (V : SV q) : ∀ (j n : Nat) (h : Mm), (n : Int) + j = q 70 6 → Sh h → RR (up h 52 9 0) 52 p (mBS q n) (-1) (-1) → ∃ h', Sh h' ∧ RR (up h' 52 9 0) 52 p (mBS q (q 70 6).toNat) (-1) (-1) ∧ FR h h' 52 ∧ ∀ (tl : Ds) (Q : Ds → Mm → List MV → Prop) (q3 : MV), WP 53 94 [(2, 52), (2, p), (0, (n : Int)), q3] [] (dsB ++ tl) h Q = Q (dsB ++ tl) h' [] := by
  have vn := V.n
  intro j
  induction j with
  | zero =>
    intro n h hn S R
    have en : (q 70 6).toNat = n := by omega
    rw [en]
    have hs : h p 8 = (n : Int) := by
      have e := R.P.s
      rw [bs_70 (by decide) (by decide), up_at, if_neg (by omega)] at e
      omega
    have kp := fun tl => (PAp (tl := tl) S hp).1
    refine ⟨h, S, R, FR_refl, fun tl Q q3 => ?_⟩
    rw [p53_94]
    simp only [p53_95, p53_96, p53_99, p53_145, kp tl, hs, b2_T, b2_F, Int.reduceEq, Int.reduceLT, Int.reduceLE, Int.reduceAdd, Int.reduceSub, Int.reduceMul, Int.reduceNeg, reduceIte, if_true, if_false, true_or, or_true, false_or, or_false, false_and, and_false, eq_self, not_false_eq_true, not_true_eq_false, true_and, and_true, List.cons_append, List.nil_append, List.append_nil, b2_0, b2_1, b2_01, Classical.not_not, Int.lt_irrefl]
  | succ j ih =>
    intro n h hn S R
    have gg := GA_bs A qq V n (by omega)
    have vv := V.v n (by omega) (by omega)
    have e6 : mBS q n 70 6 = q 70 6 := bs_70 (by decide) (by decide) n
    have e9 : mBS q n 79 n = q 79 n := bs_f (by decide) (by decide) (by decide) (by decide) (by decide) (by decide) (by decide) (by decide) n
    have e7 : mBS q n 77 n = q 77 n := bs_f (by decide) (by decide) (by decide) (by decide) (by decide) (by decide) (by decide) (by decide) n
    have e8 : mBS q n 78 n = q 78 n := bs_f (by decide) (by decide) (by decide) (by decide) (by decide) (by decide) (by decide) (by decide) n
    have hs : h p 8 = q 70 6 := by
      have e := R.P.s
      rw [e6, up_at, if_neg (by omega)] at e
      exact e
    have ht := R.P.t n (by omega) (by rw [e6]; omega)
    rw [up_at, if_neg (by omega), up_at, if_neg (by omega), up_at, if_neg (by omega), e7, e8, e9] at ht
    have hP := fun tl => PAp (tl := tl) S hp
    have c1 : ((n + 1 : Nat) : Int) = (n : Int) + 1 := rfl
    have w1 : w32 ((n : Int) + 1) = (n : Int) + 1 := w32_id (by omega) (by omega)
    have n0 : (0 : Int) ≤ n := by omega
    have n1 : (n : Int) < q 70 6 := by omega
    have n2 : (n : Int) < 4 := by omega
    have c0 := vv.1.1
    have c9 := vv.1.2
    have s0 := vv.2.1.1
    have s9 := vv.2.1.2
    have w2 : w32 (q 77 n * 4) = q 77 n * 4 := w32_id (by omega) (by omega)
    have w3 : w32 (q 77 n * 4 + q 78 n) = 4 * q 77 n + q 78 n := by
      rw [w32_id (by omega) (by omega)]
      omega
    have R1 : RR (xAdd (up h 52 9 0) (q 79 n) (4 * q 77 n + q 78 n) (-1) 0) 52 p (mBS q (n + 1)) (-1) (-1) := by
      have z := RR_add (c := q 77 n) (s := q 78 n) (k := -1) (l := 0) (t := q 79 n) R (by decide) hp (by omega) (by omega) gg.2.1
      have e : mBS q (n + 1) = mAdd (mBS q n) (q 79 n) (q 77 n) (q 78 n) (-1) 0 := by
        show mAdd (mBS q n) (mBS q n 79 n) (mBS q n 77 n) (mBS q n 78 n) (-1) 0 = _
        rw [e7, e8, e9]
      rw [e]
      exact z
    rw [← xa_9 (r := 52) (by decide)] at R1
    have S1 : Sh (xAdd h (q 79 n) (4 * q 77 n + q 78 n) (-1) 0) := Sh_xa S
    obtain ⟨h', r0, r1, r2, r3⟩ := ih (n + 1) _ (by omega) S1 R1
    refine ⟨h', r0, r1, FR_trans FR_xa r2, fun tl Q q3 => ?_⟩
    have hz : 0 ≤ h 27 6 ∧ h 27 6 < 1196 := by
      obtain ⟨φ, a, z⟩ := R.Q
      have sz := a.sz
      have q1 := gg.2.1.1
      have e : up h 52 9 0 27 6 = h 27 6 := rfl
      rw [e] at sz
      omega
    have h7 : -2000 ≤ h 27 7 ∧ h 27 7 < 4000 := by
      obtain ⟨φ, a, z⟩ := R.Q
      have wt := a.wt
      have q1 := gg.2.1.2.1
      have e : up h 52 9 0 27 7 = h 27 7 := rfl
      rw [e] at wt
      omega
    have ex : ∀ Q : Ds → Mm → List MV → Prop, WP 12 0 [(2, 27), (0, q 79 n), (0, 4 * q 77 n + q 78 n), (0, -1), (0, 0), (3, 0)] [] (dsB ++ tl) h Q = Q (dsB ++ tl) (xAdd h (q 79 n) (4 * q 77 n + q 78 n) (-1) 0) [] := fun Q => e12 S vv.2.2.1 hz h7 (Or.inl rfl)
    obtain ⟨g0, ⟨g1, g2, g3, g4, g5, g6, g7, g8⟩, ⟨k1, k2, k3, k4, k5, k6, k7, k8⟩, ⟨l1, l2, l3, l4, l5, l6, l7, l8⟩⟩ := hP tl
    rw [p53_94, ← r3 tl Q (0, 4 * q 77 n + q 78 n)]
    simp only [p53_95, p53_96, p53_99, p53_102, p53_103, p53_104, p53_107, p53_108, p53_111, p53_112, p53_113, p53_114, p53_115, p53_116, p53_119, p53_120, p53_121, p53_122, p53_123, p53_124, p53_127, p53_128, p53_131, p53_132, p53_133, p53_134, p53_135, p53_136, p53_139, p53_142, K_27, K_28, L_28, K_29, L_29, K_30, L_30, K_31, L_31, K_32, L_32, K_33, L_33, K_34, K_35, K_36, L_36, K_37, L_37, K_38, L_38, K_39, L_39, K_40, K_41, L_41, K_42, L_42, K_43, L_43, K_44, L_44, K_45, L_45, K_46, L_46, K_47, L_47, K_48, L_48, K_49, L_49, K_50, L_50, K_51, L_51, K_52, K_53, K_54, L_54, K_55, L_55, K_56, L_56, K_57, L_57, K_58, K_59, L_59, K_60, L_60, K_61, L_61, K_62, L_62, K_63, L_63, K_64, L_64, K_65, L_65, K_66, L_66, K_67, L_67, K_68, L_68, K_69, L_69, sh_27_0 S, sh_27_1 S, sh_27_2 S, sh_27_3 S, sh_27_4 S, sh_27_5 S, sh_34_0 S, sh_34_1 S, sh_34_2 S, sh_34_3 S, sh_34_4 S, sh_34_5 S, sh_34_6 S, sh_34_7 S, sh_35_0 S, sh_35_1 S, sh_35_2 S, sh_35_3 S, sh_40_0 S, sh_40_1 S, sh_40_2 S, sh_40_3 S, sh_40_4 S, sh_40_5 S, sh_52_0 S, sh_52_1 S, sh_52_2 S, sh_52_3 S, sh_52_4 S, sh_52_5 S, sh_52_6 S, sh_52_7 S, sh_53_0 S, sh_53_1 S, sh_53_2 S, sh_53_3 S, sh_58_0 S, sh_58_1 S, sh_58_2 S, sh_58_3 S, sh_58_4 S, sh_58_5 S, g0, g1, g2, g3, g4, g5, g6, g7, g8, k1, k2, k3, k4, k5, k6, k7, k8, l1, l2, l3, l4, l5, l6, l7, l8, hs, c1, w1, w2, w3, n0, n1, n2, ht.1, ht.2.1, ht.2.2, ex, b2_T, b2_F, Int.reduceEq, Int.reduceLT, Int.reduceLE, Int.reduceAdd, Int.reduceSub, Int.reduceMul, Int.reduceNeg, reduceIte, if_true, if_false, true_or, or_true, false_or, or_false, false_and, and_false, eq_self, not_false_eq_true, not_true_eq_false, true_and, and_true, List.cons_append, List.nil_append, List.append_nil, b2_0, b2_1, b2_01, Classical.not_not]
theorem c53_52 (hp : p = 9 ∨ p = 18) (S : Sh m) (Sg : Sh g) (P : PR m p g) (pv : PV g) (V : SV g) (bk : 0 ≤ g 70 45 ∧ g 70 45 ≤ 2) : ∃ h', Sh h' ∧ RR (up h' 52 9 0) 52 p (mBegin g) (-1) (-1) ∧ GT (mBegin g) ∧ FR m h' 52 ∧ ∀ (tl : Ds) (Q : Ds → Mm → List MV → Prop), WP 53 0 [(2, 52), (2, p), (3, 0), (3, 0)] [] (dsB ++ tl) m Q = Q (dsB ++ tl) h' [] := by
  have S1 : Sh (up (up (up (up (up m 52 8 p) 52 10 1) 52 11 0) 52 12 0) 53 4 0) := Sh.up (Sh.up (Sh.up (Sh.up (Sh.up S (by decide)) (by decide)) (by decide)) (by decide)) (by decide)
  have f0 : ∀ x j, ¬ x = 52 → ¬ x = 53 → (up (up (up (up (up m 52 8 p) 52 10 1) 52 11 0) 52 12 0) 53 4 0) x j = m x j := fun x j h1 h2 => by simp only [up_at, h1, h2, b2_T, b2_F, Int.reduceEq, Int.reduceLT, Int.reduceLE, Int.reduceAdd, Int.reduceSub, Int.reduceMul, Int.reduceNeg, reduceIte, if_true, if_false, true_or, or_true, false_or, or_false, false_and, and_false, eq_self, not_false_eq_true, not_true_eq_false, true_and, and_true, List.cons_append, List.nil_append, List.append_nil, b2_0, b2_1, b2_01, Classical.not_not]
  obtain ⟨h, Shh, hf, hL, h4⟩ := c1_52 (m := up (up (up (up (up m 52 8 p) 52 10 1) 52 11 0) 52 12 0) 53 4 0) (q := mB0 g) hp S1 (Sh_b0 Sg) b0_30 (fun c hc => by rw [f0 _ _ (by omega) (by omega), b0_f (by decide) (by decide) (by decide)]; exact P.b c hc)
  obtain ⟨m3, hm3⟩ : ∃ m3, m3 = up (up (xEmp (xCl h 52 96) 400) 27 6 0) 27 7 0 := ⟨_, rfl⟩
  have S2 : Sh (xCl h 52 96) := fun q hq => by
    have h1 : ∀ q ∈ SL, ¬ (52 + 13 ≤ q.1 ∧ q.1 ≤ 52 + 17) := by decide
    have h2 := h1 q hq
    have e : xCl h 52 96 q.1 q.2.1 = h q.1 q.2.1 := by
      unfold xCl
      rw [if_neg (by omega), if_neg (by omega)]
    rw [e]
    exact Shh q hq
  have S3 : Sh m3 := by
    rw [hm3]
    refine Sh.up (Sh.up ?_ (by decide)) (by decide)
    intro q hq
    have h1 : ∀ q ∈ SL, ¬ (q.1 = 28 ∨ q.1 = 29) := by decide
    have e : xEmp (xCl h 52 96) 400 q.1 q.2.1 = xCl h 52 96 q.1 q.2.1 := by
      unfold xEmp
      rw [if_neg (fun x => h1 q hq x.1)]
    rw [e]
    exact S2 q hq
  have t1 : ∀ x j, ¬ x = 27 → ¬ x = 28 → ¬ x = 29 → m3 x j = xCl h 52 96 x j := fun x j h1 h2 h3 => by
    rw [hm3]
    simp only [up_at, h1, b2_T, b2_F, Int.reduceEq, Int.reduceLT, Int.reduceLE, Int.reduceAdd, Int.reduceSub, Int.reduceMul, Int.reduceNeg, reduceIte, if_true, if_false, true_or, or_true, false_or, or_false, false_and, and_false, eq_self, not_false_eq_true, not_true_eq_false, true_and, and_true, List.cons_append, List.nil_append, List.append_nil, b2_0, b2_1, b2_01, Classical.not_not]
    unfold xEmp
    rw [if_neg (by omega)]
  have t2 : ∀ x j, ¬ (52 + 13 ≤ x ∧ x ≤ 52 + 17) → xCl h 52 96 x j = h x j := fun x j h1 => by
    unfold xCl
    rw [if_neg (by omega), if_neg (by omega)]
  have t3 : ∀ x j, ¬ (27 ≤ x ∧ x ≤ 29) → ¬ (52 + 13 ≤ x ∧ x ≤ 52 + 17) → m3 x j = h x j := fun x j h1 h2 => by
    rw [t1 x j (by omega) (by omega) (by omega), t2 x j h2]
  have t4 : ∀ j, m3 52 j = (up (up (up (up (up m 52 8 p) 52 10 1) 52 11 0) 52 12 0) 53 4 0) 52 j := fun j => by
    rw [t3 _ _ (by omega) (by omega), hf _ _ (by omega)]
  have e45 : mB4 g 70 45 = g 70 45 := b4_70 Sg (by decide) (by decide) (by decide) (by decide)
  have k24 : mB4 g 70 24 = 0 := (GA_b4 Sg pv bk).2.1.1 |> fun y => Int.le_antisymm y.2 y.1
  have ga := GA_b4 Sg pv bk
  obtain ⟨z4, hz4⟩ : ∃ z4, z4 = mB4 g := ⟨_, rfl⟩
  obtain ⟨q4, hq4⟩ : ∃ q4, q4 = mBL (mB0 g) 96 := ⟨_, rfl⟩
  have hk : z4 = up q4 70 26 0 := by
    rw [hz4, hq4]
    rfl
  have bi : BI (mB0 g) q4 96 := by
    rw [hq4]
    exact BI_b0 Sg
  rw [← hq4] at hL
  have k101 : ∀ j, 0 ≤ j → j < 6 → z4 101 (6 * g 70 45 + j) = 0 := fun j j0 j1 => by
    rw [hk, up_at, if_neg (by omega), bi.f 101 _ (by decide) (by decide) (by decide) (by decide) (by decide) (by decide) (by decide) (by decide) (by decide) (fun y => absurd y.1 (by decide))]
    exact b0_101 j0 j1
  have k91 : ∀ t, 0 ≤ t → t < 520 → z4 91 t = -1 := fun t t0 t1 => by
    rw [hk, up_at, if_neg (by omega), bi.f 91 _ (by decide) (by decide) (by decide) (by decide) (by decide) (by decide) (by decide) (by decide) (by decide) (fun y => absurd y.1 (by decide))]
    exact b0_91 t0 t1
  have kf : ∀ x j, 72 ≤ x → x ≤ 79 → z4 x j = g x j := fun x j h1 h2 => by
    rw [hz4]
    exact b4_f Sg (by omega) (by omega) (by omega) (by omega) (by omega) (by omega) (by omega) (by omega) (by omega) (by omega) (by omega) (by omega)
  have k6 : z4 70 6 = g 70 6 := by
    rw [hz4]
    exact b4_70 Sg (by decide) (by decide) (by decide) (by decide)
  rw [← hz4] at e45 k24 ga
  have RT := RR_b4 (h := h) (m := m) (m4 := up m3 52 9 0) (g := g) (g0 := mB0 g) (q4 := q4) (z4 := z4) (r := 52) (p := p) (by decide) hp P bi hk e45 kf k6 k101 k24 ga.2.2.2 k91 (b0_70 (by decide) (by decide) (by decide)) hL (Sh.up S3 (by decide))
    (fun x j h1 h2 => by rw [up_at, if_neg (by omega), t3 x j (by omega) (by omega)])
    (fun c hc => by
      have c0 := hc.1
      have c1 := hc.2
      have y : ∀ x, (x = 65 ∨ x = 66 ∨ x = 68 ∨ x = 69) → up m3 52 9 0 x c = 0 := fun x hx => by
        rw [up_at, if_neg (by omega), t1 x c (by omega) (by omega) (by omega)]
        unfold xCl
        rw [if_pos (by omega)]
      have y2 : up m3 52 9 0 67 c = -1 := by
        rw [up_at, if_neg (by omega), t1 _ c (by omega) (by omega) (by omega)]
        unfold xCl
        rw [if_neg (by omega), if_pos (by omega)]
      exact ⟨y _ (by decide), y _ (by decide), y2, y _ (by decide), y _ (by decide)⟩)
    (by rw [up_at, if_neg (by decide), t4]; simp only [up_at, b2_T, b2_F, Int.reduceEq, Int.reduceLT, Int.reduceLE, Int.reduceAdd, Int.reduceSub, Int.reduceMul, Int.reduceNeg, reduceIte, if_true, if_false, true_or, or_true, false_or, or_false, false_and, and_false, eq_self, not_false_eq_true, not_true_eq_false, true_and, and_true, List.cons_append, List.nil_append, List.append_nil, b2_0, b2_1, b2_01, Classical.not_not])
    (by simp only [up_at, b2_T, b2_F, Int.reduceEq, Int.reduceLT, Int.reduceLE, Int.reduceAdd, Int.reduceSub, Int.reduceMul, Int.reduceNeg, reduceIte, if_true, if_false, true_or, or_true, false_or, or_false, false_and, and_false, eq_self, not_false_eq_true, not_true_eq_false, true_and, and_true, List.cons_append, List.nil_append, List.append_nil, b2_0, b2_1, b2_01, Classical.not_not])
    (by rw [up_at, if_neg (by decide), t4]; simp only [up_at, b2_T, b2_F, Int.reduceEq, Int.reduceLT, Int.reduceLE, Int.reduceAdd, Int.reduceSub, Int.reduceMul, Int.reduceNeg, reduceIte, if_true, if_false, true_or, or_true, false_or, or_false, false_and, and_false, eq_self, not_false_eq_true, not_true_eq_false, true_and, and_true, List.cons_append, List.nil_append, List.append_nil, b2_0, b2_1, b2_01, Classical.not_not])
    (by rw [up_at, if_neg (by decide), t4]; simp only [up_at, b2_T, b2_F, Int.reduceEq, Int.reduceLT, Int.reduceLE, Int.reduceAdd, Int.reduceSub, Int.reduceMul, Int.reduceNeg, reduceIte, if_true, if_false, true_or, or_true, false_or, or_false, false_and, and_false, eq_self, not_false_eq_true, not_true_eq_false, true_and, and_true, List.cons_append, List.nil_append, List.append_nil, b2_0, b2_1, b2_01, Classical.not_not])
    (by rw [up_at, if_neg (by decide), t4]; simp only [up_at, b2_T, b2_F, Int.reduceEq, Int.reduceLT, Int.reduceLE, Int.reduceAdd, Int.reduceSub, Int.reduceMul, Int.reduceNeg, reduceIte, if_true, if_false, true_or, or_true, false_or, or_false, false_and, and_false, eq_self, not_false_eq_true, not_true_eq_false, true_and, and_true, List.cons_append, List.nil_append, List.append_nil, b2_0, b2_1, b2_01, Classical.not_not])
    (by
      simp only [Int.reduceAdd]
      rw [up_at, if_neg (by decide), t3 _ _ (by decide) (by decide), hf _ _ (by decide)]
      simp only [up_at, b2_T, b2_F, Int.reduceEq, Int.reduceLT, Int.reduceLE, Int.reduceAdd, Int.reduceSub, Int.reduceMul, Int.reduceNeg, reduceIte, if_true, if_false, true_or, or_true, false_or, or_false, false_and, and_false, eq_self, not_false_eq_true, not_true_eq_false, true_and, and_true, List.cons_append, List.nil_append, List.append_nil, b2_0, b2_1, b2_01, Classical.not_not])
    (by rw [up_at, if_neg (by decide), hm3]; simp only [up_at, b2_T, b2_F, Int.reduceEq, Int.reduceLT, Int.reduceLE, Int.reduceAdd, Int.reduceSub, Int.reduceMul, Int.reduceNeg, reduceIte, if_true, if_false, true_or, or_true, false_or, or_false, false_and, and_false, eq_self, not_false_eq_true, not_true_eq_false, true_and, and_true, List.cons_append, List.nil_append, List.append_nil, b2_0, b2_1, b2_01, Classical.not_not])
    (by rw [up_at, if_neg (by decide), hm3]; simp only [up_at, b2_T, b2_F, Int.reduceEq, Int.reduceLT, Int.reduceLE, Int.reduceAdd, Int.reduceSub, Int.reduceMul, Int.reduceNeg, reduceIte, if_true, if_false, true_or, or_true, false_or, or_false, false_and, and_false, eq_self, not_false_eq_true, not_true_eq_false, true_and, and_true, List.cons_append, List.nil_append, List.append_nil, b2_0, b2_1, b2_01, Classical.not_not])
    (fun t t0 t1 => by
      rw [up_at, if_neg (by omega), up_at, if_neg (by omega), hm3]
      simp only [up_at, b2_T, b2_F, Int.reduceEq, Int.reduceLT, Int.reduceLE, Int.reduceAdd, Int.reduceSub, Int.reduceMul, Int.reduceNeg, reduceIte, if_true, if_false, true_or, or_true, false_or, or_false, false_and, and_false, eq_self, not_false_eq_true, not_true_eq_false, true_and, and_true, List.cons_append, List.nil_append, List.append_nil, b2_0, b2_1, b2_01, Classical.not_not]
      unfold xEmp
      rw [if_pos (by omega), if_pos (by omega)]
      exact ⟨rfl, rfl⟩)
    (fun x j h1 h2 => by rw [up_at, if_neg (by omega), t3 x j (by omega) (by omega), hf x j (by omega), f0 x j (by omega) (by omega)])
  have V4 : SV z4 := by
    rw [hz4]
    exact SV_b4 Sg V
  obtain ⟨h', u0, u1, u2, u3⟩ := c53d_52 hp ga.1 ga.2.1 V4 (z4 70 6).toNat 0 m3 (by have := V4.n; omega) S3 RT.1
  have eb : mBegin g = mBS z4 (z4 70 6).toNat := by
    rw [k6, hz4]
    rfl
  refine ⟨h', u0, by rw [eb]; exact u1, by rw [eb]; exact GT_bs RT.2 _, ?_, fun tl Q => ?_⟩
  · have fm : FR m m3 52 := fun a j h1 h2 => by
      rw [t3 a j (by omega) (by omega), hf a j (by omega), f0 a j (by omega) (by omega)]
    exact FR_trans fm u2
  · have h4' := fun (Q : Ds → Mm → List MV → Prop) => h4 tl Q
    have e0 : xCl h 52 (0 : Nat) = h := by
      apply fx
      intro a j
      unfold xCl
      rw [if_neg (by omega), if_neg (by omega)]
    have hc := c53c_52 (q1 := (2, p)) Shh 96 0 (by omega) tl Q (3, 0)
    rw [e0] at hc
    have e11' := fun (Q : Ds → Mm → List MV → Prop) => e11 (tl := tl) (Q := Q) S2
    rw [← hm3] at e11'
    have u3' := u3 tl Q (3, 0)
    have n0 : ((0 : Nat) : Int) = 0 := rfl
    rw [n0] at u3' hc
    have kp := (PAp (tl := tl) S hp).1
    simp only [p53_0, p53_1, p53_2, p53_5, p53_6, p53_7, p53_10, p53_11, p53_12, p53_15, p53_16, p53_17, p53_20, p53_21, p53_24, p53_25, p53_28, p53_29, p53_32, p53_33, p53_36, p53_37, K_27, K_28, L_28, K_29, L_29, K_30, L_30, K_31, L_31, K_32, L_32, K_33, L_33, K_34, K_35, K_36, L_36, K_37, L_37, K_38, L_38, K_39, L_39, K_40, K_41, L_41, K_42, L_42, K_43, L_43, K_44, L_44, K_45, L_45, K_46, L_46, K_47, L_47, K_48, L_48, K_49, L_49, K_50, L_50, K_51, L_51, K_52, K_53, K_54, L_54, K_55, L_55, K_56, L_56, K_57, L_57, K_58, K_59, L_59, K_60, L_60, K_61, L_61, K_62, L_62, K_63, L_63, K_64, L_64, K_65, L_65, K_66, L_66, K_67, L_67, K_68, L_68, K_69, L_69, sh_27_0 S, sh_27_1 S, sh_27_2 S, sh_27_3 S, sh_27_4 S, sh_27_5 S, sh_34_0 S, sh_34_1 S, sh_34_2 S, sh_34_3 S, sh_34_4 S, sh_34_5 S, sh_34_6 S, sh_34_7 S, sh_35_0 S, sh_35_1 S, sh_35_2 S, sh_35_3 S, sh_40_0 S, sh_40_1 S, sh_40_2 S, sh_40_3 S, sh_40_4 S, sh_40_5 S, sh_52_0 S, sh_52_1 S, sh_52_2 S, sh_52_3 S, sh_52_4 S, sh_52_5 S, sh_52_6 S, sh_52_7 S, sh_53_0 S, sh_53_1 S, sh_53_2 S, sh_53_3 S, sh_58_0 S, sh_58_1 S, sh_58_2 S, sh_58_3 S, sh_58_4 S, sh_58_5 S, kp, h4', up_at, b2_T, b2_F, Int.reduceEq, Int.reduceLT, Int.reduceLE, Int.reduceAdd, Int.reduceSub, Int.reduceMul, Int.reduceNeg, reduceIte, if_true, if_false, true_or, or_true, false_or, or_false, false_and, and_false, eq_self, not_false_eq_true, not_true_eq_false, true_and, and_true, List.cons_append, List.nil_append, List.append_nil, b2_0, b2_1, b2_01, Classical.not_not]
    rw [hc]
    simp only [p53_85, p53_86, p53_89, p53_92, p53_93, sh_52_0 S2, K_27, K_52, e11', u3', b2_T, b2_F, Int.reduceEq, Int.reduceLT, Int.reduceLE, Int.reduceAdd, Int.reduceSub, Int.reduceMul, Int.reduceNeg, reduceIte, if_true, if_false, true_or, or_true, false_or, or_false, false_and, and_false, eq_self, not_false_eq_true, not_true_eq_false, true_and, and_true, List.cons_append, List.nil_append, List.append_nil, b2_0, b2_1, b2_01, Classical.not_not]
end CBEGIN2
