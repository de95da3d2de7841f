/-! run(): the reference's side; why, both sides alike -/
section RUN
variable {tl : Ds} {m X Y Z g h G t : Mm} {Q : Ds → Mm → List MV → Prop} {p q k a b s o v i j d n w : Int} {q1 q2 q3 q4 : MV}
theorem lt_ch (L : LT0 X Y) : CH (X 38) (X 35 4) := by
  rcases L with h | ⟨h, L⟩
  · intro i i0 i1
    omega
  · intro i i0 i1
    rw [L.lc] at i1
    have l1 := (L.lg i i0 i1).2.2.1
    rw [l1]
    exact (L.lb i i0 i1).2.2.1
theorem lt_why (L : LT0 X Y) (r : X 0 6 = Y 70 10 ∧ 0 ≤ X 0 6) (hv : v = if 0 < Y 70 10 ∧ isC d ∧ ¬ Y 105 d = 0 then Y 104 d else -1) : ((v = -1 ∧ ∀ i, 0 ≤ i → i < X 35 4 → ¬ rgA X d i) ∨ (tls X v ∧ rgA X d v ∧ ∀ i, 0 ≤ i → i < v → ¬ rgA X d i)) ∧ wyR (X 38) v i = wyR (yCa Y) v i := by
  rcases L with h | ⟨h, L⟩
  · rw [if_neg (by omega)] at hv
    refine ⟨Or.inl ⟨hv, fun i i0 i1 => by omega⟩, ?_⟩
    rw [hv]
    unfold wyR
    have e1 : dpc (X 38) 1001 (-1) = 0 := rfl
    have e2 : dpc (yCa Y) 1001 (-1) = 0 := rfl
    rw [e1, e2, if_neg (by omega), if_neg (by omega)]
  · have key : ∀ i, 0 ≤ i → i < X 35 4 → (rgA X d i ↔ (Y 102 (6 * i + 1) = d ∧ ¬ Y 105 d = 0)) := by
      intro i i0 i1
      rw [L.lc] at i1
      have l1 := L.lg i i0 i1
      have l2 := L.lb i i0 i1
      have l4 := l2.2.1
      have jn := jnd (r := if Y 105 (Y 102 (6 * i + 1)) = 0 then 0 else 4) l2.2.2.2.1 l2.2.2.2.2 (by split <;> simp)
      unfold rgA
      rw [l1.2.2.2, jn.2.2, l1.2.1]
      have e1 : (4 * Y 102 (6 * i + 1) + Y 102 (6 * i + 2)) / 4 = Y 102 (6 * i + 1) := by omega
      rw [e1]
      constructor
      · intro y
        refine ⟨y.2, fun z => y.1 ?_⟩
        rw [y.2, if_pos z]
      · intro y
        rw [y.1, if_neg y.2]
        exact ⟨by decide, rfl⟩
    have cgq : ∀ k, -1 ≤ k → k < X 35 4 → wyR (X 38) k i = wyR (yCa Y) k i := by
      intro k k0 k1
      have C : CH (yCa Y) (Y 101 2) := fun i i0 i1 => (L.lb i i0 i1).2.2.1
      refine wyR_cg C L.cn.2 (fun i i0 i1 => (L.lg i i0 i1).2.2.1) k0 ?_
      rw [← L.lc]; exact k1
    by_cases hd : 0 < Y 70 10 ∧ isC d ∧ ¬ Y 105 d = 0
    · rw [if_pos hd] at hv
      have rs := L.rs d hd.2.1 hd.2.2
      have h1 : tls X v := by
        rw [hv]
        exact ⟨rs.1.1, by rw [L.lc]; exact rs.1.2⟩
      refine ⟨Or.inr ⟨h1, (key v h1.1 h1.2).2 ⟨?_, hd.2.2⟩, fun i i0 i1 y => ?_⟩, cgq v (by have := h1.1; omega) h1.2⟩
      · rw [hv]; exact rs.2.1
      · have y1 := ((key i i0 (by have := h1.2; omega)).1 y).1
        rw [hv] at i1
        exact rs.2.2 i i0 i1 y1
    · rw [if_neg hd] at hv
      refine ⟨Or.inl ⟨hv, fun i i0 i1 y => ?_⟩, ?_⟩
      · have y1 := (key i i0 i1).1 y
        refine hd ⟨by omega, ?_, y1.2⟩
        rw [← y1.1]
        rw [L.lc] at i1
        exact (L.lb i i0 i1).1
      · have c0 : 0 ≤ X 35 4 := by rw [L.lc]; exact L.cn.1
        exact cgq v (by omega) (by omega)
theorem enb_at {x u : Int} : mEnb Y u x j = if x = 107 ∧ 0 ≤ j ∧ j < u then (if Y 95 j = -1 then 0 else 1) else if x = 108 ∧ 0 ≤ j ∧ j < u then Y 94 j else Y x j := rfl
theorem enb_0 : mEnb Y 0 = Y := by
  funext x j
  rw [enb_at, if_neg (by omega), if_neg (by omega)]
theorem enb_s (h0 : 0 ≤ n) : up (up (mEnb Y n) 107 n (if Y 95 n = -1 then 0 else 1)) 108 n (Y 94 n) = mEnb Y (n + 1) := by
  funext x j
  rw [up_at, up_at, enb_at, enb_at]
  by_cases hj : j = n
  · subst hj
    generalize (if Y 95 j = -1 then (0 : Int) else 1) = V
    by_cases h7 : x = 107
    · rw [if_neg (by omega), if_pos ⟨h7, rfl⟩, if_pos (by omega)]
    · by_cases h8 : x = 108
      · rw [if_pos ⟨h8, rfl⟩, if_neg (by omega), if_pos (by omega)]
      · rw [if_neg (by omega), if_neg (by omega), if_neg (by omega), if_neg (by omega), if_neg (by omega), if_neg (by omega)]
  · rw [if_neg (by omega), if_neg (by omega)]
    generalize (if Y 95 j = -1 then (0 : Int) else 1) = V
    by_cases h7 : x = 107 ∧ 0 ≤ j ∧ j < n
    · rw [if_pos h7, if_pos (by omega)]
    · rw [if_neg h7]
      by_cases h8 : x = 108 ∧ 0 ≤ j ∧ j < n
      · rw [if_pos h8, if_neg (by omega), if_pos (by omega)]
      · rw [if_neg h8, if_neg (by omega), if_neg (by omega)]
theorem e167l (S : Sh Y) (hb : ∀ c, isC c → Y 94 c = 0 ∨ Y 94 c = 1) : ∀ (f : Nat) (n : Int), 0 ≤ n → n + f = 96 → WP 167 17 [(2, 70), (0, n)] [] (dsB ++ tl) (mEnb Y n) Q = Q (dsB ++ tl) (mEnb Y 96) [(0, Y 101 1)] := by
  intro f
  induction f with
  | zero =>
    intro n h0 h1
    have hn : n = 96 := by omega
    subst hn
    have S' : Sh (mEnb Y 96) := Sh_enb S
    have e1 : mEnb Y 96 101 1 = Y 101 1 := rfl
    rw [p167_17]
    simp only [p167_18, p167_20, p167_23, p167_24, p167_27, p167_28, p167_29, p167_32, p167_33, p167_34, p167_35, p167_38, p167_39, p167_42, p167_43, p167_44, p167_45, p167_48, p167_49, p167_50, p167_53, p167_54, p167_55, p167_56, p167_59, p167_62, p167_63, p167_66, p167_67, p167_68, K_70, K_101, L_101, sh_70_36 S', e1, b2_T, b2_F, Int.reduceEq, Int.reduceLT, Int.reduceLE, Int.reduceAdd, Int.reduceSub, Int.reduceMul, Int.reduceNeg, reduceIte, if_true, if_false, true_or, or_true, false_or, or_false, false_and, and_false, eq_self, not_false_eq_true, not_true_eq_false, true_and, and_true, List.cons_append, List.nil_append, List.append_nil, b2_0, b2_1, b2_01, Classical.not_not, Int.lt_irrefl]
  | succ f ih =>
    intro n h0 h1
    have n1 : n < 96 := by omega
    have n2 : ¬ 96 ≤ n := by omega
    have S' : Sh (mEnb Y n) := Sh_enb S
    have w1 : w32 (n + 1) = n + 1 := w32_id (by omega) (by omega)
    have e1 : mEnb Y n 95 n = Y 95 n := enb_f (by decide) (by decide)
    have e2 : mEnb Y n 94 n = Y 94 n := enb_f (by decide) (by decide)
    have hb1 := hb n ⟨h0, n1⟩
    have r := ih (n + 1) (by omega) (by omega)
    rw [← enb_s h0] at r
    rw [p167_17]
    by_cases hz : Y 95 n = -1
    · rw [if_pos hz] at r
      have S2 : Sh (up (mEnb Y n) 107 n 0) := Sh_ar S' (by decide)
      have e3 : up (mEnb Y n) 107 n 0 94 n = Y 94 n := e2
      simp only [p167_18, p167_20, p167_23, p167_24, p167_27, p167_28, p167_29, p167_32, p167_33, p167_34, p167_35, p167_38, p167_39, p167_42, p167_43, p167_44, p167_45, p167_48, p167_49, p167_50, p167_53, p167_54, p167_55, p167_56, p167_59, p167_62, p167_63, p167_66, p167_67, p167_68, K_70, K_72, L_72, K_73, L_73, K_74, L_74, K_75, L_75, K_76, L_76, K_86, L_86, K_87, L_87, K_88, L_88, K_89, L_89, K_90, L_90, K_91, L_91, K_92, L_92, K_93, L_93, K_94, L_94, K_95, L_95, K_96, L_96, K_97, L_97, K_98, L_98, K_99, L_99, K_100, L_100, K_101, L_101, K_102, L_102, K_103, L_103, K_104, L_104, K_105, L_105, K_106, L_106, K_107, L_107, K_108, L_108, K_109, L_109, sh_70_1 S, sh_70_2 S, sh_70_3 S, sh_70_4 S, sh_70_5 S, sh_70_17 S, sh_70_18 S, sh_70_19 S, sh_70_20 S, sh_70_21 S, sh_70_22 S, sh_70_23 S, sh_70_27 S, sh_70_28 S, sh_70_29 S, sh_70_31 S, sh_70_32 S, sh_70_33 S, sh_70_34 S, sh_70_35 S, sh_70_36 S, sh_70_37 S, sh_70_38 S, sh_70_39 S, sh_70_40 S, sh_70_41 S, sh_70_42 S, sh_70_43 S, sh_70_44 S, K_70, K_107, L_107, K_108, L_108, sh_70_28 S', sh_70_29 S', sh_70_42 S', sh_70_28 S2, sh_70_43 S2, e1, e3, hz, hb1, h0, n1, n2, w1, r, b2_T, b2_F, Int.reduceEq, Int.reduceLT, Int.reduceLE, Int.reduceAdd, Int.reduceSub, Int.reduceMul, Int.reduceNeg, reduceIte, if_true, if_false, true_or, or_true, false_or, or_false, false_and, and_false, eq_self, not_false_eq_true, not_true_eq_false, true_and, and_true, List.cons_append, List.nil_append, List.append_nil, b2_0, b2_1, b2_01, Classical.not_not]
    · rw [if_neg hz] at r
      have S2 : Sh (up (mEnb Y n) 107 n 1) := Sh_ar S' (by decide)
      have e3 : up (mEnb Y n) 107 n 1 94 n = Y 94 n := e2
      simp only [p167_18, p167_20, p167_23, p167_24, p167_27, p167_28, p167_29, p167_32, p167_33, p167_34, p167_35, p167_38, p167_39, p167_42, p167_43, p167_44, p167_45, p167_48, p167_49, p167_50, p167_53, p167_54, p167_55, p167_56, p167_59, p167_62, p167_63, p167_66, p167_67, p167_68, K_70, K_94, L_94, K_95, L_95, K_107, L_107, K_108, L_108, sh_70_28 S', sh_70_29 S', sh_70_42 S', sh_70_28 S2, sh_70_43 S2, e1, e3, hz, hb1, h0, n1, n2, w1, r, b2_T, b2_F, Int.reduceEq, Int.reduceLT, Int.reduceLE, Int.reduceAdd, Int.reduceSub, Int.reduceMul, Int.reduceNeg, reduceIte, if_true, if_false, true_or, or_true, false_or, or_false, false_and, and_false, eq_self, not_false_eq_true, not_true_eq_false, true_and, and_true, List.cons_append, List.nil_append, List.append_nil, b2_0, b2_1, b2_01, Classical.not_not]
def mRun (m : Mm) (v : Int) : Mm := mEnb (up (mRuns m 0) 70 10 v) 96
theorem e167 (W : WG m) (hr : 0 ≤ m 70 10 ∧ m 70 10 < 1000000) : WP 167 0 [(2, 70), (3, 0)] [] (dsB ++ tl) m Q = Q (dsB ++ tl) (mRun m (m 70 10 + 1)) [(0, mRuns m 0 101 1)] := by
  obtain ⟨W1, PE1, F1⟩ := runs_w (w := 0) W (by decide)
  obtain ⟨t, ht, a, T, t45, t1⟩ := (mruns_f W.S W.p W.v (w := 0) (by decide)).2.2
  have e := fun (Q : Ds → Mm → List MV → Prop) => e166 (tl := tl) (Q := Q) (w := 0) W.S W.p W.v (by decide)
  have hb : ∀ c, isC c → mRuns m 0 94 c = 0 ∨ mRuns m 0 94 c = 1 := fun c hc => by
    have y : mRuns m 0 94 c = t 94 c := by
      rw [ht]
      unfold mStop
      rw [up_at, if_neg (fun y => absurd y.1 (by decide)), up_at, if_neg (fun y => absurd y.1 (by decide))]
    rw [y]
    exact T.dn c hc
  have f10 : mRuns m 0 70 10 = m 70 10 := F1 70 10 (by decide) (by decide) (by omega) (by omega) (by omega)
  unfold mRun
  obtain ⟨q, hq⟩ : ∃ q, q = mRuns m 0 := ⟨_, rfl⟩
  rw [← hq] at W1 e hb f10 ⊢
  have S1 := W1.S
  have S2 : Sh (up q 70 10 (m 70 10 + 1)) := Sh.up S1 (by decide)
  have w1 : w32 (m 70 10 + 1) = m 70 10 + 1 := w32_id (by omega) (by omega)
  have r := e167l (tl := tl) (Q := Q) S2 hb 96 0 (by omega) (by omega)
  rw [enb_0] at r
  have e1 : up q 70 10 (m 70 10 + 1) 101 1 = q 101 1 := rfl
  rw [e1] at r
  simp only [p167_0, p167_1, p167_2, p167_5, p167_6, p167_7, p167_10, p167_11, p167_12, p167_15, p167_16, K_70, e, f10, w1, r, b2_T, b2_F, Int.reduceEq, Int.reduceLT, Int.reduceLE, Int.reduceAdd, Int.reduceSub, Int.reduceMul, Int.reduceNeg, reduceIte, if_true, if_false, true_or, or_true, false_or, or_false, false_and, and_false, eq_self, not_false_eq_true, not_true_eq_false, true_and, and_true, List.cons_append, List.nil_append, List.append_nil, b2_0, b2_1, b2_01, Classical.not_not]
theorem mRun_f (W : WG m) : (∀ x j, ¬ (86 ≤ x ∧ x ≤ 109) → ¬ (x = 70 ∧ (j = 10 ∨ j = 24 ∨ j = 25 ∨ j = 26 ∨ j = 30 ∨ j = 45)) → mRun m v x j = m x j) ∧ Sh (mRun m v) ∧ mRun m v 70 10 = v := by
  obtain ⟨W1, PE1, F1⟩ := runs_w (w := 0) W (by decide)
  unfold mRun
  refine ⟨fun x j h1 h2 => ?_, Sh_enb (Sh.up W1.S (by decide)), ?_⟩
  · rw [enb_f (by omega) (by omega), up_at, if_neg (by omega)]
    exact F1 x j (by omega) (by omega) (by omega) (by omega) (by omega)
  · rw [enb_f (by decide) (by decide), up_at, if_pos ⟨rfl, rfl⟩]
theorem LR_run (W : WG m) (R : RF X 34 (mRuns m 0)) : LR X (mRun m v) := by
  obtain ⟨t, ht, a, T, t45, t1⟩ := (mruns_f W.S W.p W.v (w := 0) (by decide)).2.2
  exact LR_of R (runs_45 W (by decide)) ht a T t45
end RUN
