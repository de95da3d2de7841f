/-! fragile: the class's side -/
abbrev wkP (g : Mm) (bell tick c s : Int) : Prop := (¬ g 76 c = 0 ∨ (¬ g 72 c = 0 ∧ ¬ g 72 c = 8)) ∧ ¬ nxt c s = -1 ∧ (g 72 (nxt c s) = 0 ∧ g 76 (nxt c s) = 0) ∧ ¬ MT (mvG g c (nxt c s)) bell tick
def wkc (g : Mm) (c s : Int) : Int := 8 * c + (if g 76 c = 0 then 0 else 4) + s
def wkR (g : Mm) (bell tick : Int) : Nat → Int × (Int → Int)
  | 0 => (0, fun _ => 0)
  | n + 1 => if wkP g bell tick ((n : Int) / 4) ((n : Int) % 4) then ((wkR g bell tick n).1 + 1, fun i => if i = (wkR g bell tick n).1 then wkc g ((n : Int) / 4) ((n : Int) % 4) else (wkR g bell tick n).2 i) else wkR g bell tick n
/-- a list of numbers in an array -/
def LSq (m : Mm) (A n : Int) (x : Int × (Int → Int)) : Prop := n = x.1 ∧ ∀ i, 0 ≤ i → i < x.1 → m A i = x.2 i
/-- what a wish may change of the class's -/
def FC (m X : Mm) (A f : Int) : Prop := ∀ x j, ¬ (18 ≤ x ∧ x ≤ 33) → ¬ (52 ≤ x ∧ x ≤ 69) → ¬ x = A → ¬ (x = 0 ∧ j = f) → X x j = m x j
section FRAGILE
variable {tl : Ds} {m X Y g h : Mm} {Q : Ds → Mm → List MV → Prop} {p q c k a b s o t v i j d A f bell tick : Int}
theorem wkR_b : ∀ n : Nat, 0 ≤ (wkR g bell tick n).1 ∧ (wkR g bell tick n).1 ≤ n := by
  intro n
  induction n with
  | zero => exact ⟨Int.le_refl _, Int.le_refl _⟩
  | succ n ih =>
    have e : wkR g bell tick (n + 1) = if wkP g bell tick ((n : Int) / 4) ((n : Int) % 4) then ((wkR g bell tick n).1 + 1, fun i => if i = (wkR g bell tick n).1 then wkc g ((n : Int) / 4) ((n : Int) % 4) else (wkR g bell tick n).2 i) else wkR g bell tick n := rfl
    rw [e]
    obtain ⟨B, hB⟩ : ∃ B : Prop, B = wkP g bell tick ((n : Int) / 4) ((n : Int) % 4) := ⟨_, rfl⟩
    split
    · show 0 ≤ (wkR g bell tick n).1 + 1 ∧ (wkR g bell tick n).1 + 1 ≤ ((n + 1 : Nat) : Int)
      clear hB B
      omega
    · clear hB B
      omega
theorem Sh_bec (S : Sh X) : Sh (bec X 18 9) := fun q hq => by
  have h1 : ∀ q ∈ SL, ¬ (19 ≤ q.1 ∧ q.1 ≤ 26) ∧ ¬ (q.1 = 18 ∧ q.2.1 = 8) := by decide
  have h2 := h1 q hq
  have e : bec X 18 9 q.1 q.2.1 = X q.1 q.2.1 := by
    unfold bec
    rw [up_at, if_neg h2.2]
    unfold bcg
    rw [if_neg (by omega)]
  rw [e]
  exact S q hq
theorem Sh_plc (S : Sh X) : Sh (plc X 18 c k a b) := Sh_ar (Sh_ar (Sh_ar S (by decide)) (by decide)) (by decide)
theorem Sh_clr (S : Sh X) : Sh (clr X 18 c) := by
  unfold clr
  split
  · exact Sh_ar (Sh_plc S) (by decide)
  · exact S
theorem Sh_mov (S : Sh X) : Sh (mov X 18 c o) := by
  unfold mov
  split
  · exact Sh_ar (Sh_ar S (by decide)) (by decide)
  · try dsimp only
    generalize (if X (18 + 1) c = 3 then X (18 + 4) c else -1) = t
    apply Sh_clr
    split
    · exact Sh_ar (Sh_ar (Sh_plc S) (by decide)) (by decide)
    · exact Sh_ar (Sh_plc S) (by decide)
theorem clr_f {x : Int} (h : ¬ (p + 1 ≤ x ∧ x ≤ p + 5)) : clr X p c x j = X x j := by
  unfold clr
  split
  · rw [up_at, if_neg (by omega), plc_f (by omega)]
  · rfl
theorem mov_f {x : Int} (h : ¬ (p + 1 ≤ x ∧ x ≤ p + 5)) : mov X p c o x j = X x j := by
  unfold mov
  split
  · rw [up_at, if_neg (by omega), up_at, if_neg (by omega)]
  · try dsimp only
    generalize (if X (p + 1) c = 3 then X (p + 4) c else -1) = t
    rw [clr_f h]
    split
    · rw [up_at, if_neg (by omega), up_at, if_neg (by omega), plc_f (by omega)]
    · rw [up_at, if_neg (by omega), plc_f (by omega)]
theorem FC_refl : FC m m A f := fun _ _ _ _ _ _ => rfl
theorem FC_tr (h1 : FC m X A f) (h2 : FC X Y A f) : FC m Y A f := fun x j a b c d => (h2 x j a b c d).trans (h1 x j a b c d)
theorem FC_W (h : FW m X 52) : FC m X A f := fun x j a b c d => h x j (by omega) (by omega)
theorem FC_18 (h : ∀ x j, ¬ (18 ≤ x ∧ x ≤ 26) → X x j = m x j) : FC m X A f := fun x j a b c d => h x j (by omega)
theorem PR_FC (P : PR m 9 g) (F : FC m X A f) (hA : A < 9) : PR X 9 g := PR_m P (fun x j h1 h2 => F x j (by omega) (by omega) (by omega) (by omega))
theorem e99 (S : Sh m) (h0 : 0 ≤ m 0 9 ∧ m 0 9 < 384) : WP 99 0 [(2, 0), (0, v)] [] (dsB ++ tl) m Q = Q (dsB ++ tl) (up (up m 4 (m 0 9) v) 0 9 (m 0 9 + 1)) [] := by
  have a0 := h0.1
  have a1 := h0.2
  have w1 : w32 (m 0 9 + 1) = m 0 9 + 1 := w32_id (by omega) (by omega)
  simp only [p99_0, p99_1, p99_4, p99_5, p99_8, p99_9, p99_12, p99_13, p99_16, p99_17, p99_20, p99_21, p99_22, p99_23, p99_24, p99_27, p99_28, p99_29, p99_32, K_0, K_4, L_4, sh_0_8 S, a0, a1, w1, n_1010, up_at, b2_T, b2_F, Int.reduceEq, Int.reduceLT, Int.reduceLE, Int.reduceAdd, Int.reduceSub, Int.reduceMul, Int.reduceNeg, reduceIte, if_true, if_false, true_or, or_true, false_or, or_false, false_and, and_false, eq_self, not_false_eq_true, not_true_eq_false, true_and, and_true, List.cons_append, List.nil_append, List.append_nil, b2_0, b2_1, b2_01, Classical.not_not]
/-- one side of one cell -/
theorem frag_1 (W : WG g) (hc : isC c) (hs : okS s) (S : Sh X) (P : PR X 9 g) {n : Nat} (hn : (n : Int) = 4 * c + s) (L : LSq X 4 (X 0 9) (wkR g bell tick n)) : ∃ X', Sh X' ∧ FC X X' 4 9 ∧ LSq X' 4 (X' 0 9) (wkR g bell tick (n + 1)) ∧ ∀ (tl : Ds) (Q : Ds → Mm → List MV → Prop) (q5 : MV), ∃ q5' : MV, WP 89 34 [(2, 0), (0, bell), (0, tick), (0, c), (0, s), q5] [] (dsB ++ tl) X Q = WP 89 34 [(2, 0), (0, bell), (0, tick), (0, c), (0, s + 1), q5'] [] (dsB ++ tl) X' Q := by
  have c0 := hc.1
  have c1 := hc.2
  have s0 := hs.1
  have s1 := hs.2
  have w1 : w32 (s + 1) = s + 1 := w32_id (by omega) (by omega)
  have n4 : (n : Int) / 4 = c := by omega
  have n5 : (n : Int) % 4 = s := by omega
  have wb := wkR_b (g := g) (bell := bell) (tick := tick) n
  have e1 : wkR g bell tick (n + 1) = if wkP g bell tick c s then ((wkR g bell tick n).1 + 1, fun i => if i = (wkR g bell tick n).1 then wkc g c s else (wkR g bell tick n).2 i) else wkR g bell tick n := by
    show (if wkP g bell tick ((n : Int) / 4) ((n : Int) % 4) then ((wkR g bell tick n).1 + 1, fun i => if i = (wkR g bell tick n).1 then wkc g ((n : Int) / 4) ((n : Int) % 4) else (wkR g bell tick n).2 i) else wkR g bell tick n) = _
    rw [n4, n5]
  have p9 := fun tl => PA_9 (tl := tl) S
  have kc := P.k c hc
  have bc := P.b c hc
  have e30' := fun (tl : Ds) (Q : Ds → Mm → List MV → Prop) => e30 (c := c) (Q := Q) (p9 tl)
  have e29' := fun (tl : Ds) (Q : Ds → Mm → List MV → Prop) => e29 (c := nxt c s) (Q := Q) (p9 tl)
  simp only [Int.reduceAdd] at e30' e29' kc bc
  simp only [kc, bc] at e30'
  by_cases hM : ¬ g 76 c = 0 ∨ (¬ g 72 c = 0 ∧ ¬ g 72 c = 8)
  · have y30 : (0 ≤ c ∧ c < 96) ∧ (¬ g 76 c = 0 ∨ (¬ g 72 c = 0 ∧ ¬ g 72 c = 8)) := ⟨hc, hM⟩
    simp only [b2_t y30] at e30'
    by_cases hF : ¬ nxt c s = -1 ∧ (g 72 (nxt c s) = 0 ∧ g 76 (nxt c s) = 0)
    · have oc := (nxt_c (s := s) hc).resolve_left hF.1
      have hco : ¬ c = nxt c s := by
        intro y
        have h1 := hF.2
        rw [← y] at h1
        rcases hM with z | z
        · exact z h1.2
        · exact z.1 h1.1
      have ko := P.k _ oc
      have bo := P.b _ oc
      simp only [Int.reduceAdd] at ko bo
      have y29 : (0 ≤ nxt c s ∧ nxt c s < 96) ∧ X 10 (nxt c s) = 0 ∧ X 14 (nxt c s) = 0 := ⟨oc, by rw [ko]; exact hF.2.1, by rw [bo]; exact hF.2.2⟩
      simp only [b2_t y29] at e29'
      have hm : ¬ g 76 c = 0 ∨ ¬ g 72 c = 0 := hM.imp id (fun y => y.1)
      have WG' : WG (mvG g c (nxt c s)) := WG_mv W hc oc hco hm hF.2
      have S1 : Sh (bec X 18 9) := Sh_bec S
      have P1 : PR (bec X 18 9) 18 g := PR_bec P W.v
      have S2 : Sh (mov (bec X 18 9) 18 c (nxt c s)) := Sh_mov S1
      have P2 : PR (mov (bec X 18 9) 18 c (nxt c s)) 18 (mvG g c (nxt c s)) := PR_mov P1 W.p W.n hc oc hco hm
      obtain ⟨X3, S3, F3, _, h3⟩ := c51_52 (m := mov (bec X 18 9) 18 c (nxt c s)) (g := mvG g c (nxt c s)) (w := 1) (p := 18) (Or.inr rfl) bell tick S2 WG'.S P2 WG'.p WG'.v (by decide)
      have e23' := fun (tl : Ds) (Q : Ds → Mm → List MV → Prop) => e23 (Q := Q) (PA_18 (tl := tl) S) (p9 tl) (Or.inr (by decide)) (fun d d0 d1 => by
        have := P.b d ⟨d0, d1⟩
        rw [this]
        exact (W.p d ⟨d0, d1⟩).l)
      have e38' := fun (tl : Ds) (Q : Ds → Mm → List MV → Prop) => e38 (Q := Q) (c := c) (o := nxt c s) (PA_18 (tl := tl) S1) hc oc
      have f3 : FC X X3 4 9 := FC_tr (FC_18 (fun x j h => by
        rw [mov_f (by omega), bec_f (by omega)])) (FC_W F3)
      have f09 : X3 0 9 = X 0 9 := by
        rw [F3 0 9 (by decide) (by decide), mov_f (by decide), bec_f (by decide)]
      have f4 : ∀ j, X3 4 j = X 4 j := fun j => by
        rw [F3 4 j (by decide) (by decide), mov_f (by decide), bec_f (by decide)]
      by_cases hT : MT (mvG g c (nxt c s)) bell tick
      · have hW : ¬ wkP g bell tick c s := fun y => y.2.2.2 hT
        rw [if_neg hW] at e1
        rw [e1]
        refine ⟨X3, S3, f3, ⟨by rw [f09]; exact L.1, fun i i0 i1 => by rw [f4]; exact L.2 i i0 i1⟩, fun tl Q q5 => ⟨(0, nxt c s), ?_⟩⟩
        have y30 := e30' tl
        have y29' := e29' tl
        have y23 := e23' tl
        have y38 := e38' tl
        have y51 := h3 tl
        simp only [b2_t hT] at y51
        rw [p89_34]
        simp only [p89_36, p89_37, p89_40, p89_41, p89_43, p89_46, p89_48, p89_49, p89_52, p89_53, p89_56, p89_59, p89_60, p89_63, p89_65, p89_68, p89_71, p89_72, p89_75, p89_76, p89_79, p89_82, p89_83, p89_86, p89_87, p89_89, p89_92, p89_93, p89_96, p89_97, p89_100, p89_101, p89_102, p89_105, p89_108, p89_109, p89_111, p89_112, p89_113, p89_114, p89_117, p89_118, p89_121, p89_124, p89_125, p89_128, p89_129, p89_130, p89_132, p89_133, p89_136, p89_139, K_0, K_52, sh_0_0 S, sh_0_1 S, sh_0_0 S1, sh_0_1 S1, sh_0_1 S2, sh_0_5 S2, K_9, K_18, s1, w1, e111 hc.1 hc.2, y30, y29', y23, y38, y51, b2_T, b2_F, Int.reduceEq, Int.reduceLT, Int.reduceLE, Int.reduceAdd, Int.reduceSub, Int.reduceMul, Int.reduceNeg, reduceIte, if_true, if_false, true_or, or_true, false_or, or_false, false_and, and_false, eq_self, not_false_eq_true, not_true_eq_false, true_and, and_true, List.cons_append, List.nil_append, List.append_nil, b2_0, b2_1, b2_01, Classical.not_not]
      · have hW : wkP g bell tick c s := ⟨hM, hF.1, hF.2, hT⟩
        rw [if_pos hW] at e1
        rw [e1]
        have cb : 0 ≤ X3 0 9 ∧ X3 0 9 < 384 := by
          rw [f09, L.1]
          have := wb
          clear hW hT
          omega
        have e28' := fun (tl : Ds) (Q : Ds → Mm → List MV → Prop) => e28 (c := c) (Q := Q) (PA_9 (tl := tl) S3)
        have b3 : X3 14 c = g 76 c := by
          rw [F3 14 c (by decide) (by decide), mov_f (by decide), bec_f (by decide)]
          exact bc
        simp only [Int.reduceAdd] at e28'
        simp only [b3] at e28'
        have w8 : w32 (8 * c) = 8 * c := w32_id (by omega) (by omega)
        refine ⟨up (up X3 4 (X3 0 9) (wkc g c s)) 0 9 (X3 0 9 + 1), Sh.up (Sh_ar S3 (by decide)) (by decide), ?_, ⟨?_, fun i i0 i1 => ?_⟩, fun tl Q q5 => ⟨(0, nxt c s), ?_⟩⟩
        · intro x j a b c' d
          rw [up_at, if_neg (by omega), up_at, if_neg (by omega)]
          exact f3 x j a b c' d
        · simp only [up_at, b2_T, b2_F, Int.reduceEq, Int.reduceLT, Int.reduceLE, Int.reduceAdd, Int.reduceSub, Int.reduceMul, Int.reduceNeg, reduceIte, if_true, if_false, true_or, or_true, false_or, or_false, false_and, and_false, eq_self, not_false_eq_true, not_true_eq_false, true_and, and_true, List.cons_append, List.nil_append, List.append_nil, b2_0, b2_1, b2_01, Classical.not_not]
          rw [f09, L.1]
        · have i1' : i < (wkR g bell tick n).1 + 1 := i1
          show (up (up X3 4 (X3 0 9) (wkc g c s)) 0 9 (X3 0 9 + 1)) 4 i = if i = (wkR g bell tick n).1 then wkc g c s else (wkR g bell tick n).2 i
          rw [up_at, if_neg (fun y => absurd y.1 (by decide)), up_at, f09, L.1]
          by_cases hi : i = (wkR g bell tick n).1
          · rw [if_pos ⟨rfl, hi⟩, if_pos hi]
          · rw [if_neg (fun y => hi y.2), if_neg hi, f4]
            exact L.2 i i0 (by clear hW hT; omega)
        · have y30 := e30' tl
          have y29' := e29' tl
          have y23 := e23' tl
          have y38 := e38' tl
          have y51 := h3 tl
          simp only [b2_f hT] at y51
          have y99 := fun (Q : Ds → Mm → List MV → Prop) => e99 (tl := tl) (Q := Q) (v := wkc g c s) S3 cb
          have y28 := e28' tl
          rw [p89_34]
          unfold wkc at y99 ⊢
          by_cases hb : g 76 c = 0
          · have z28 : ¬ ((0 ≤ c ∧ c < 96) ∧ ¬ g 76 c = 0) := fun y => y.2 hb
            simp only [b2_f z28] at y28
            have w9 : w32 (8 * c + 0) = 8 * c + 0 := w32_id (by omega) (by omega)
            have wa : w32 (8 * c + 0 + s) = 8 * c + 0 + s := w32_id (by omega) (by omega)
            simp only [if_pos hb] at y99 ⊢
            simp only [p89_36, p89_37, p89_40, p89_41, p89_43, p89_46, p89_48, p89_49, p89_52, p89_53, p89_56, p89_59, p89_60, p89_63, p89_65, p89_68, p89_71, p89_72, p89_75, p89_76, p89_79, p89_82, p89_83, p89_86, p89_87, p89_89, p89_92, p89_93, p89_96, p89_97, p89_100, p89_101, p89_102, p89_105, p89_108, p89_109, p89_111, p89_112, p89_113, p89_114, p89_117, p89_118, p89_121, p89_124, p89_125, p89_128, p89_129, p89_130, p89_132, p89_133, p89_136, p89_139, K_0, K_52, sh_0_0 S, sh_0_1 S, sh_0_0 S1, sh_0_1 S1, sh_0_1 S2, sh_0_5 S2, sh_0_0 S3, K_9, K_18, s1, w1, w8, w9, wa, e111 hc.1 hc.2, y30, y29', y23, y38, y51, y28, y99, b2_T, b2_F, Int.reduceEq, Int.reduceLT, Int.reduceLE, Int.reduceAdd, Int.reduceSub, Int.reduceMul, Int.reduceNeg, reduceIte, if_true, if_false, true_or, or_true, false_or, or_false, false_and, and_false, eq_self, not_false_eq_true, not_true_eq_false, true_and, and_true, List.cons_append, List.nil_append, List.append_nil, b2_0, b2_1, b2_01, Classical.not_not]
          · have z28 : (0 ≤ c ∧ c < 96) ∧ ¬ g 76 c = 0 := ⟨hc, hb⟩
            simp only [b2_t z28] at y28
            have w9 : w32 (8 * c + 4) = 8 * c + 4 := w32_id (by omega) (by omega)
            have wa : w32 (8 * c + 4 + s) = 8 * c + 4 + s := w32_id (by omega) (by omega)
            simp only [if_neg hb] at y99 ⊢
            simp only [p89_36, p89_37, p89_40, p89_41, p89_43, p89_46, p89_48, p89_49, p89_52, p89_53, p89_56, p89_59, p89_60, p89_63, p89_65, p89_68, p89_71, p89_72, p89_75, p89_76, p89_79, p89_82, p89_83, p89_86, p89_87, p89_89, p89_92, p89_93, p89_96, p89_97, p89_100, p89_101, p89_102, p89_105, p89_108, p89_109, p89_111, p89_112, p89_113, p89_114, p89_117, p89_118, p89_121, p89_124, p89_125, p89_128, p89_129, p89_130, p89_132, p89_133, p89_136, p89_139, K_0, K_52, sh_0_0 S, sh_0_1 S, sh_0_0 S1, sh_0_1 S1, sh_0_1 S2, sh_0_5 S2, sh_0_0 S3, K_9, K_18, s1, w1, w8, w9, wa, e111 hc.1 hc.2, y30, y29', y23, y38, y51, y28, y99, b2_T, b2_F, Int.reduceEq, Int.reduceLT, Int.reduceLE, Int.reduceAdd, Int.reduceSub, Int.reduceMul, Int.reduceNeg, reduceIte, if_true, if_false, true_or, or_true, false_or, or_false, false_and, and_false, eq_self, not_false_eq_true, not_true_eq_false, true_and, and_true, List.cons_append, List.nil_append, List.append_nil, b2_0, b2_1, b2_01, Classical.not_not]
    · have hW : ¬ wkP g bell tick c s := fun y => hF ⟨y.2.1, y.2.2.1⟩
      rw [if_neg hW] at e1
      rw [e1]
      have y29 : ¬ ((0 ≤ nxt c s ∧ nxt c s < 96) ∧ X 10 (nxt c s) = 0 ∧ X 14 (nxt c s) = 0) := by
        intro y
        have ko := P.k _ y.1
        have bo := P.b _ y.1
        simp only [Int.reduceAdd] at ko bo
        rw [ko, bo] at y
        exact hF ⟨by have := y.1.1; omega, y.2⟩
      simp only [b2_f y29] at e29'
      refine ⟨X, S, FC_refl, L, fun tl Q q5 => ⟨(0, nxt c s), ?_⟩⟩
      have y30 := e30' tl
      have y29' := e29' tl
      rw [p89_34]
      simp only [p89_36, p89_37, p89_40, p89_41, p89_43, p89_46, p89_48, p89_49, p89_52, p89_53, p89_56, p89_59, p89_60, p89_63, p89_65, p89_68, p89_71, p89_72, p89_75, p89_76, p89_79, p89_82, p89_83, p89_86, p89_87, p89_89, p89_92, p89_93, p89_96, p89_97, p89_100, p89_101, p89_102, p89_105, p89_108, p89_109, p89_111, p89_112, p89_113, p89_114, p89_117, p89_118, p89_121, p89_124, p89_125, p89_128, p89_129, p89_130, p89_132, p89_133, p89_136, p89_139, K_0, sh_0_0 S, K_9, s1, w1, e111 hc.1 hc.2, y30, y29', b2_T, b2_F, Int.reduceEq, Int.reduceLT, Int.reduceLE, Int.reduceAdd, Int.reduceSub, Int.reduceMul, Int.reduceNeg, reduceIte, if_true, if_false, true_or, or_true, false_or, or_false, false_and, and_false, eq_self, not_false_eq_true, not_true_eq_false, true_and, and_true, List.cons_append, List.nil_append, List.append_nil, b2_0, b2_1, b2_01, Classical.not_not]
  · have hW : ¬ wkP g bell tick c s := fun y => hM y.1
    rw [if_neg hW] at e1
    rw [e1]
    have y30 : ¬ ((0 ≤ c ∧ c < 96) ∧ (¬ g 76 c = 0 ∨ (¬ g 72 c = 0 ∧ ¬ g 72 c = 8))) := fun y => hM y.2
    simp only [b2_f y30] at e30'
    refine ⟨X, S, FC_refl, L, fun tl Q q5 => ⟨(0, nxt c s), ?_⟩⟩
    have y30 := e30' tl
    rw [p89_34]
    simp only [p89_36, p89_37, p89_40, p89_41, p89_43, p89_46, p89_48, p89_49, p89_52, p89_53, p89_56, p89_59, p89_60, p89_63, p89_65, p89_68, p89_71, p89_72, p89_75, p89_76, p89_79, p89_82, p89_83, p89_86, p89_87, p89_89, p89_92, p89_93, p89_96, p89_97, p89_100, p89_101, p89_102, p89_105, p89_108, p89_109, p89_111, p89_112, p89_113, p89_114, p89_117, p89_118, p89_121, p89_124, p89_125, p89_128, p89_129, p89_130, p89_132, p89_133, p89_136, p89_139, K_0, sh_0_0 S, K_9, s1, w1, e111 hc.1 hc.2, y30, b2_T, b2_F, Int.reduceEq, Int.reduceLT, Int.reduceLE, Int.reduceAdd, Int.reduceSub, Int.reduceMul, Int.reduceNeg, reduceIte, if_true, if_false, true_or, or_true, false_or, or_false, false_and, and_false, eq_self, not_false_eq_true, not_true_eq_false, true_and, and_true, List.cons_append, List.nil_append, List.append_nil, b2_0, b2_1, b2_01, Classical.not_not]
theorem frag_c (W : WG g) (hc : isC c) : ∀ (k : Nat) (s : Int) (X : Mm) (n : Nat), s + k = 4 → 0 ≤ s → (n : Int) = 4 * c + s → Sh X → PR X 9 g → LSq X 4 (X 0 9) (wkR g bell tick n) → ∃ X', Sh X' ∧ FC X X' 4 9 ∧ LSq X' 4 (X' 0 9) (wkR g bell tick (n + k)) ∧ ∀ (tl : Ds) (Q : Ds → Mm → List MV → Prop) (q5 : MV), ∃ q5' : MV, WP 89 34 [(2, 0), (0, bell), (0, tick), (0, c), (0, s), q5] [] (dsB ++ tl) X Q = WP 89 25 [(2, 0), (0, bell), (0, tick), (0, c + 1), (0, 4), q5'] [] (dsB ++ tl) X' Q := by
  have w1 : w32 (c + 1) = c + 1 := w32_id (by have := hc.1; omega) (by have := hc.2; omega)
  intro k
  induction k with
  | zero =>
    intro s X n hs h0 hn S P L
    have hs : s = 4 := by omega
    subst hs
    refine ⟨X, S, FC_refl, L, fun tl Q q5 => ⟨q5, ?_⟩⟩
    rw [p89_34]
    simp only [p89_36, p89_37, p89_142, p89_145, w1, b2_T, b2_F, Int.reduceEq, Int.reduceLT, Int.reduceLE, Int.reduceAdd, Int.reduceSub, Int.reduceMul, Int.reduceNeg, reduceIte, if_true, if_false, true_or, or_true, false_or, or_false, false_and, and_false, eq_self, not_false_eq_true, not_true_eq_false, true_and, and_true, List.cons_append, List.nil_append, List.append_nil, b2_0, b2_1, b2_01, Classical.not_not, Int.lt_irrefl]
  | succ k ih =>
    intro s X n hs h0 hn S P L
    obtain ⟨X1, S1, F1, L1, h1⟩ := frag_1 W hc ⟨h0, by omega⟩ S P hn L
    obtain ⟨X2, S2, F2, L2, h2⟩ := ih (s + 1) X1 (n + 1) (by omega) (by omega) (by omega) S1 (PR_FC P F1 (by decide)) L1
    refine ⟨X2, S2, FC_tr F1 F2, by rw [show n + (k + 1) = n + 1 + k by omega]; exact L2, fun tl Q q5 => ?_⟩
    obtain ⟨q5', e1⟩ := h1 tl Q q5
    obtain ⟨q5'', e2⟩ := h2 tl Q q5'
    exact ⟨q5'', by rw [e1, e2]⟩
theorem frag_l (W : WG g) : ∀ (k c : Nat) (X : Mm), c + k = 96 → Sh X → PR X 9 g → LSq X 4 (X 0 9) (wkR g bell tick (4 * c)) → ∃ X', Sh X' ∧ FC X X' 4 9 ∧ LSq X' 4 (X' 0 9) (wkR g bell tick 384) ∧ ∀ (tl : Ds) (Q : Ds → Mm → List MV → Prop) (q4 q5 : MV), (q4.1 = 0 ∨ q4.1 = 3) → WP 89 25 [(2, 0), (0, bell), (0, tick), (0, (c : Int)), q4, q5] [] (dsB ++ tl) X Q = Q (dsB ++ tl) X' [(0, X' 0 9)] := by
  intro k
  induction k with
  | zero =>
    intro c X hc S P L
    have hc : c = 96 := by omega
    subst hc
    have c1 : ((96 : Nat) : Int) = 96 := rfl
    refine ⟨X, S, FC_refl, L, fun tl Q q4 q5 _ => ?_⟩
    rw [p89_25]
    simp only [p89_26, p89_28, p89_148, p89_149, p89_152, K_0, c1, b2_T, b2_F, Int.reduceEq, Int.reduceLT, Int.reduceLE, Int.reduceAdd, Int.reduceSub, Int.reduceMul, Int.reduceNeg, reduceIte, if_true, if_false, true_or, or_true, false_or, or_false, false_and, and_false, eq_self, not_false_eq_true, not_true_eq_false, true_and, and_true, List.cons_append, List.nil_append, List.append_nil, b2_0, b2_1, b2_01, Classical.not_not, Int.lt_irrefl]
  | succ k ih =>
    intro c X hc S P L
    have cc : isC (c : Int) := ⟨by omega, by omega⟩
    have c1 : ((c + 1 : Nat) : Int) = (c : Int) + 1 := rfl
    have g1 : (c : Int) < 96 := cc.2
    obtain ⟨X1, S1, F1, L1, h1⟩ := frag_c W cc 4 0 X (4 * c) (by omega) (by omega) (by omega) S P L
    obtain ⟨X2, S2, F2, L2, h2⟩ := ih (c + 1) X1 (by omega) S1 (PR_FC P F1 (by decide)) (by rw [show 4 * (c + 1) = 4 * c + 4 by omega]; exact L1)
    refine ⟨X2, S2, FC_tr F1 F2, L2, fun tl Q q4 q5 h4 => ?_⟩
    obtain ⟨q5', e1⟩ := h1 tl Q q5
    have e2 := h2 tl Q (0, 4) q5' (Or.inl rfl)
    rw [c1] at e2
    rw [← e2, ← e1, p89_25]
    simp only [p89_26, p89_28, p89_31, p89_32, g1, b2_T, b2_F, Int.reduceEq, Int.reduceLT, Int.reduceLE, Int.reduceAdd, Int.reduceSub, Int.reduceMul, Int.reduceNeg, reduceIte, if_true, if_false, true_or, or_true, false_or, or_false, false_and, and_false, eq_self, not_false_eq_true, not_true_eq_false, true_and, and_true, List.cons_append, List.nil_append, List.append_nil, b2_0, b2_1, b2_01, Classical.not_not]
theorem e89 (W : WG m) (P : PR m 9 m) : ∃ X, Sh X ∧ FC m X 4 9 ∧ (LSq X 4 (X 0 9) (if MT m bell tick then wkR m bell tick 384 else (0, fun _ => 0))) ∧ ∀ (tl : Ds) (Q : Ds → Mm → List MV → Prop), WP 89 0 [(2, 0), (0, bell), (0, tick), (3, 0), (3, 0), (3, 0)] [] (dsB ++ tl) m Q = Q (dsB ++ tl) X [(0, if MT m bell tick then X 0 9 else -1)] := by
  have S := W.S
  have S0 : Sh (up m 0 9 0) := Sh.up S (by decide)
  have P0 : PR (up m 0 9 0) 9 m := PR_m P (fun x j h1 h2 => by rw [up_at, if_neg (by omega)])
  obtain ⟨m1, S1, F1, _, h1⟩ := c51_52 (m := up m 0 9 0) (g := m) (w := 1) (p := 9) (Or.inl rfl) bell tick S0 S P0 W.p W.v (by decide)
  have f1 : FC m m1 4 9 := by
    intro x j a b c d
    rw [F1 x j (by omega) (by omega), up_at, if_neg d]
  have c9 : m1 0 9 = 0 := by
    rw [F1 0 9 (by decide) (by decide)]
    simp only [up_at, b2_T, b2_F, Int.reduceEq, Int.reduceLT, Int.reduceLE, Int.reduceAdd, Int.reduceSub, Int.reduceMul, Int.reduceNeg, reduceIte, if_true, if_false, true_or, or_true, false_or, or_false, false_and, and_false, eq_self, not_false_eq_true, not_true_eq_false, true_and, and_true, List.cons_append, List.nil_append, List.append_nil, b2_0, b2_1, b2_01, Classical.not_not]
  by_cases hT : MT m bell tick
  · obtain ⟨X, S2, F2, L2, h2⟩ := frag_l (bell := bell) (tick := tick) W 96 0 m1 (by omega) S1 (PR_FC P f1 (by decide)) ⟨c9, fun i i0 i1 => absurd i1 (by show ¬ i < 0; omega)⟩
    refine ⟨X, S2, FC_tr f1 F2, by rw [if_pos hT]; exact L2, fun tl Q => ?_⟩
    have y51 := h1 tl
    simp only [b2_t hT] at y51
    have y2 := h2 tl Q (3, 0) (3, 0) (Or.inr rfl)
    have n0 : ((0 : Nat) : Int) = 0 := rfl
    rw [n0] at y2
    rw [if_pos hT, ← y2]
    simp only [p89_0, p89_1, p89_2, p89_5, p89_6, p89_9, p89_10, p89_13, p89_14, p89_15, p89_18, p89_21, p89_22, p89_23, p89_24, K_0, K_52, sh_0_0 S0, sh_0_5 S0, y51, b2_T, b2_F, Int.reduceEq, Int.reduceLT, Int.reduceLE, Int.reduceAdd, Int.reduceSub, Int.reduceMul, Int.reduceNeg, reduceIte, if_true, if_false, true_or, or_true, false_or, or_false, false_and, and_false, eq_self, not_false_eq_true, not_true_eq_false, true_and, and_true, List.cons_append, List.nil_append, List.append_nil, b2_0, b2_1, b2_01, Classical.not_not]
  · refine ⟨m1, S1, f1, by rw [if_neg hT]; exact ⟨c9, fun i i0 i1 => absurd i1 (by show ¬ i < 0; omega)⟩, fun tl Q => ?_⟩
    have y51 := h1 tl
    simp only [b2_f hT] at y51
    rw [if_neg hT]
    simp only [p89_0, p89_1, p89_2, p89_5, p89_6, p89_9, p89_10, p89_13, p89_14, p89_15, p89_18, p89_21, p89_22, p89_23, p89_24, K_0, K_52, sh_0_0 S0, sh_0_5 S0, y51, b2_T, b2_F, Int.reduceEq, Int.reduceLT, Int.reduceLE, Int.reduceAdd, Int.reduceSub, Int.reduceMul, Int.reduceNeg, reduceIte, if_true, if_false, true_or, or_true, false_or, or_false, false_and, and_false, eq_self, not_false_eq_true, not_true_eq_false, true_and, and_true, List.cons_append, List.nil_append, List.append_nil, b2_0, b2_1, b2_01, Classical.not_not]
end FRAGILE
