/-! fits: the reference's side -/
abbrev rA (k : Int) : Int := if k = 1 then 1 else if k = 2 ∨ k = 4 ∨ k = 6 then 3 else if k = 9 then 12 else 0
abbrev rB (k : Int) : Int := if k = 4 then 9 else if k = 6 then 3 else 0
section FITS3
variable {tl : Ds} {m X Y Z g h : Mm} {Q : Ds → Mm → List MV → Prop} {p q c k a b s o t v i j d A f bell tick : Int}
theorem PE_ly (E : PE g h) : PE (ly g c k a b) (ly h c k a b) := by
  refine ⟨fun d hd => ?_, fun d hd => ?_, fun d hd => ?_, fun d hd => ?_, ?_, fun y y0 y1 => ?_⟩
  · rw [ly_72, ly_72, E.k d hd]
  · rw [ly_72, ly_73, ly_74, ly_73, ly_74]
    by_cases h1 : d = c
    · rw [if_pos h1, if_pos h1, if_pos h1, if_pos h1, if_pos h1]
      exact fun _ => ⟨rfl, rfl⟩
    · rw [if_neg h1, if_neg h1, if_neg h1, if_neg h1, if_neg h1]
      exact E.a d hd
  · rw [ly_72, ly_75, ly_75]
    by_cases h1 : d = c
    · rw [if_pos h1, if_pos h1, if_pos h1]
      exact fun _ => rfl
    · rw [if_neg h1, if_neg h1, if_neg h1]
      exact E.o d hd
  · rw [ly_f (by decide), ly_f (by decide)]; exact E.b d hd
  · rw [ly_f (by decide), ly_f (by decide)]; exact E.s
  · rw [ly_f (by decide)] at y1
    rw [ly_f (by decide), ly_f (by decide), ly_f (by decide), ly_f (by decide), ly_f (by decide), ly_f (by decide)]
    exact E.t y y0 y1
theorem PE_of2 (E : PE (ly g c k a b) h) (hc : isC c) (h6 : g 72 c = 0 ∧ g 76 c = 0) : PE g (up h 72 c 0) := by
  have hb := E.b c hc
  rw [ly_f (by decide), h6.2] at hb
  have e : up (up h 72 c 0) 76 c 0 = up h 72 c 0 := by
    apply fx
    intro x j
    rw [up_at]
    split
    · rename_i y
      rw [y.1, y.2]
      exact hb.symm
    · rfl
  have E1 := PE_off E hc h6
  rw [e] at E1
  exact E1
/-- one piece -/
theorem rfit_1 (W : WG g) (hB : isC bell) (hc : isC c) (h6 : g 72 c = 0 ∧ g 76 c = 0) (hk : 1 ≤ k ∧ k ≤ 9) (ha : 0 ≤ a ∧ a ≤ mstA k) (hb : lsB k ≤ b ∧ b ≤ msB k) (hO : okF k a b) (WY : WG Y) (E : PE g Y) (L : LSq Y 111 (Y 70 49) (ftR g c bell tick (ix k a b))) : ∃ Y', WG Y' ∧ PE g Y' ∧ FK Y Y' 111 49 ∧ LSq Y' 111 (Y' 70 49) (ftR g c bell tick (ix k a (b + 1))) ∧ ∀ (tl : Ds) (Q : Ds → Mm → List MV → Prop), WP 179 0 [(2, 70), (0, c), (0, k), (0, a), (0, b), (0, bell), (0, tick)] [] (dsB ++ tl) Y Q = Q (dsB ++ tl) Y' [] := by
  have c0 := hc.1
  have c1 := hc.2
  have a15 : 0 ≤ a ∧ a ≤ 15 := by
    unfold mstA at ha
    omega
  have b9 : 0 ≤ b ∧ b ≤ 9 := by
    unfold lsB msB at hb
    omega
  have S := WY.S
  have e1 := ft_ix (g := g) (c := c) (bell := bell) (tick := tick) hk a15 b9
  have idx := ix_d hk a15 b9
  have wb := ftR_b (g := g) (c := c) (bell := bell) (tick := tick) (ix k a b)
  have hC : canP k a b 0 0 := (can_ok ha hb hk).2 hO
  have y6 : Y 72 c = 0 ∧ Y 76 c = 0 := by rw [E.k c hc, E.b c hc]; exact h6
  have WGg : WG (ly g c k a b) := WG_ly W hc (by rw [h6.1, h6.2]; exact hC) h6
  have WG' : WG (ly Y c k a b) := WG_ly WY hc (by rw [y6.1, y6.2]; exact hC) y6
  have EG : PE (ly g c k a b) (ly Y c k a b) := PE_ly E
  have rw' := runs_w (w := 1) WG' (by decide)
  have det : MT (ly g c k a b) bell tick ↔ MT (ly Y c k a b) bell tick := met_det WGg WG' EG (by decide) (by decide)
  have x172 := fun (tl : Ds) (Q : Ds → Mm → List MV → Prop) => e172 (tl := tl) (Q := Q) (w := 1) (bell := bell) (tick := tick) WG' (by decide) hB
  obtain ⟨Z, hZ⟩ : ∃ Z, Z = mRuns (ly Y c k a b) 1 := ⟨_, rfl⟩
  have det' : MT (ly g c k a b) bell tick ↔ metP (Z 103 (96 * 1 + bell)) bell tick := by rw [hZ]; exact det
  clear det
  rw [← hZ] at rw' x172
  have SZ := rw'.1.S
  have EZ : PE (ly g c k a b) Z := PE_tr EG rw'.2.1
  have fZ : FK Y Z 111 49 := FK_tr (FK_7 (fun x j h => ly_f (by omega))) (FK_G rw'.2.2 (Or.inl rfl))
  have f49 : Z 70 49 = Y 70 49 := by
    rw [rw'.2.2 70 49 (by decide) (by decide) (by decide) (by decide) (by decide), ly_f (by decide)]
  have f111 : ∀ j, Z 111 j = Y 111 j := fun j => by
    rw [rw'.2.2 111 j (by decide) (fun y => absurd y.1 (by decide)) (fun y => absurd y.1 (by decide)) (fun y => absurd y.1 (by decide)) (fun y => absurd y.1 (by decide)), ly_f (by decide)]
  by_cases hT : metP (Z 103 (96 * 1 + bell)) bell tick
  · have hP : ftP g c bell tick k a b := ⟨hO, det'.2 hT⟩
    rw [if_pos hP] at e1
    rw [e1]
    have cb0 := ftR_c (g := g) (c := c) (bell := bell) (tick := tick) idx.2.2.2.1 (by rw [idx.1, idx.2.1, idx.2.2.1]; exact hP)
    have cb : 0 ≤ Z 70 49 ∧ Z 70 49 < 62 := by
      rw [f49, L.1]
      exact ⟨wb.1, cb0⟩
    have cb1 := cb.1
    have cb2 : Z 70 49 < 64 := Int.lt_trans cb.2 (by decide)
    have S4 : Sh (up (up Z 111 (Z 70 49) (1000 * k + 10 * a + b)) 70 49 (Z 70 49 + 1)) := Sh.up (Sh_ar SZ (by decide)) (by decide)
    have E4 : PE (ly g c k a b) (up (up Z 111 (Z 70 49) (1000 * k + 10 * a + b)) 70 49 (Z 70 49 + 1)) := PE_tr EZ (PE_cg (fun x j h1 h2 => by rw [up_at, if_neg (fun y => by have := y.1; clear hP hC; omega), up_at, if_neg (fun y => by have := y.1; clear hP hC; omega)]) rfl)
    have E5 := PE_of2 E4 hc h6
    have S5 : Sh (up (up (up Z 111 (Z 70 49) (1000 * k + 10 * a + b)) 70 49 (Z 70 49 + 1)) 72 c 0) := Sh_ar S4 (by decide)
    refine ⟨up (up (up Z 111 (Z 70 49) (1000 * k + 10 * a + b)) 70 49 (Z 70 49 + 1)) 72 c 0, WG_pe W E5 S5, E5, ?_, ⟨?_, fun i i0 i1 => ?_⟩, fun tl Q => ?_⟩
    · intro x j z1 z2 z3 z4 z5 z6 z7 z8
      rw [up_at, if_neg (fun y => z1 (by rw [y.1]; decide)), up_at, if_neg z8, up_at, if_neg (fun y => z7 y.1)]
      exact fZ x j z1 z2 z3 z4 z5 z6 z7 z8
    · simp only [up_at, b2_T, b2_F, Int.reduceEq, Int.reduceLT, Int.reduceLE, Int.reduceAdd, Int.reduceSub, Int.reduceMul, Int.reduceNeg, reduceIte, if_true, if_false, true_or, or_true, false_or, or_false, false_and, and_false, eq_self, not_false_eq_true, not_true_eq_false, true_and, and_true, List.cons_append, List.nil_append, List.append_nil, b2_0, b2_1, b2_01, Classical.not_not]
      rw [f49, L.1]
    · have i1' : i < (ftR g c bell tick (ix k a b)).1 + 1 := i1
      show up (up (up Z 111 (Z 70 49) (1000 * k + 10 * a + b)) 70 49 (Z 70 49 + 1)) 72 c 0 111 i = if i = (ftR g c bell tick (ix k a b)).1 then 1000 * k + 10 * a + b else (ftR g c bell tick (ix k a b)).2 i
      rw [up_at, if_neg (fun y => absurd y.1 (by decide)), up_at, if_neg (fun y => absurd y.1 (by decide)), up_at, f49, L.1]
      by_cases hi : i = (ftR g c bell tick (ix k a b)).1
      · rw [if_pos ⟨rfl, hi⟩, if_pos hi]
      · rw [if_neg (fun y => hi y.2), if_neg hi, f111]
        exact L.2 i i0 (lt_ne i1' hi)
    · have y172 := x172 tl
      simp only [b2_t hT] at y172
      have y128 := fun (Q : Ds → Mm → List MV → Prop) => e128 (tl := tl) (Q := Q) (k := k) (a := a) (b := b) S hc
      have k1 := hk.1
      have k2 := hk.2
      have w2 : w32 (1000 * k) = 1000 * k := w32_id (by clear hP hC; omega) (by clear hP hC; omega)
      have w3 : w32 (10 * a) = 10 * a := w32_id (by clear hP hC; omega) (by clear hP hC; omega)
      have w4 : w32 (1000 * k + 10 * a) = 1000 * k + 10 * a := w32_id (by clear hP hC; omega) (by clear hP hC; omega)
      have w5 : w32 (1000 * k + 10 * a + b) = 1000 * k + 10 * a + b := w32_id (by clear hP hC; omega) (by clear hP hC; omega)
      have w6 : w32 (Z 70 49 + 1) = Z 70 49 + 1 := w32_id (by clear hP hC; omega) (by clear hP hC; omega)
      simp only [p179_0, p179_1, p179_2, p179_3, p179_4, p179_6, p179_9, p179_10, p179_11, p179_13, p179_15, p179_18, p179_21, p179_22, p179_25, p179_26, p179_29, p179_32, p179_33, p179_34, p179_36, p179_37, p179_38, p179_39, p179_41, p179_42, p179_43, p179_44, p179_45, p179_48, p179_49, p179_50, p179_53, p179_54, p179_57, p179_58, p179_59, p179_60, K_70, K_111, L_111, K_72, L_72, sh_70_48 SZ, sh_70_1 SZ, y128, y172, w2, w3, w4, w5, w6, c0, c1, cb1, cb2, up_at, b2_T, b2_F, Int.reduceEq, Int.reduceLT, Int.reduceLE, Int.reduceAdd, Int.reduceSub, Int.reduceMul, Int.reduceNeg, reduceIte, if_true, if_false, true_or, or_true, false_or, or_false, false_and, and_false, eq_self, not_false_eq_true, not_true_eq_false, true_and, and_true, List.cons_append, List.nil_append, List.append_nil, b2_0, b2_1, b2_01, Classical.not_not]
  · have hP : ¬ ftP g c bell tick k a b := fun y => hT (det'.1 y.2)
    rw [if_neg hP] at e1
    rw [e1]
    have E5 := PE_of2 EZ hc h6
    have S5 : Sh (up Z 72 c 0) := Sh_ar SZ (by decide)
    refine ⟨up Z 72 c 0, WG_pe W E5 S5, E5, FK_tr fZ (FK_7 (fun x j h => by rw [up_at, if_neg (fun y => h (by rw [y.1]; decide))])), ⟨by rw [up_at, if_neg (fun y => absurd y.1 (by decide)), f49]; exact L.1, fun i i0 i1 => by rw [up_at, if_neg (fun y => absurd y.1 (by decide)), f111]; exact L.2 i i0 i1⟩, fun tl Q => ?_⟩
    have y172 := x172 tl
    simp only [b2_f hT] at y172
    have y128 := fun (Q : Ds → Mm → List MV → Prop) => e128 (tl := tl) (Q := Q) (k := k) (a := a) (b := b) S hc
    simp only [p179_0, p179_1, p179_2, p179_3, p179_4, p179_6, p179_9, p179_10, p179_11, p179_13, p179_15, p179_18, p179_21, p179_22, p179_25, p179_26, p179_29, p179_32, p179_33, p179_34, p179_36, p179_37, p179_38, p179_39, p179_41, p179_42, p179_43, p179_44, p179_45, p179_48, p179_49, p179_50, p179_53, p179_54, p179_57, p179_58, p179_59, p179_60, K_70, K_72, L_72, sh_70_1 SZ, y128, y172, c0, c1, b2_T, b2_F, Int.reduceEq, Int.reduceLT, Int.reduceLE, Int.reduceAdd, Int.reduceSub, Int.reduceMul, Int.reduceNeg, reduceIte, if_true, if_false, true_or, or_true, false_or, or_false, false_and, and_false, eq_self, not_false_eq_true, not_true_eq_false, true_and, and_true, List.cons_append, List.nil_append, List.append_nil, b2_0, b2_1, b2_01, Classical.not_not]
theorem rA_m (hk : 1 ≤ k ∧ k ≤ 9) (h3 : ¬ k = 3) (h8 : ¬ k = 8) : rA k ≤ mstA k ∧ rB k = msB k ∧ 0 ≤ rA k := by
  have k0 : k = 1 ∨ k = 2 ∨ k = 4 ∨ k = 5 ∨ k = 6 ∨ k = 7 ∨ k = 9 := by omega
  rcases k0 with rfl | rfl | rfl | rfl | rfl | rfl | rfl <;> decide
theorem rok (hk : 1 ≤ k ∧ k ≤ 9) (h3 : ¬ k = 3) (h8 : ¬ k = 8) (ha : 0 ≤ a ∧ a ≤ rA k) (hb : lsB k ≤ b ∧ b ≤ msB k) : (k = 9 → endP a) ↔ okF k a b := by
  have k0 : k = 1 ∨ k = 2 ∨ k = 4 ∨ k = 5 ∨ k = 6 ∨ k = 7 ∨ k = 9 := by omega
  unfold rA at ha
  unfold lsB msB at hb
  rcases k0 with rfl | rfl | rfl | rfl | rfl | rfl | rfl
  · exact ⟨fun _ => by simp only [b2_T, b2_F, Int.reduceEq, Int.reduceLT, Int.reduceLE, Int.reduceAdd, Int.reduceSub, Int.reduceMul, Int.reduceNeg, reduceIte, if_true, if_false, true_or, or_true, false_or, or_false, false_and, and_false, eq_self, not_false_eq_true, not_true_eq_false, true_and, and_true, List.cons_append, List.nil_append, List.append_nil, b2_0, b2_1, b2_01, Classical.not_not] at ha hb; omega, fun _ y => absurd y (by decide)⟩
  · exact ⟨fun _ => by simp only [b2_T, b2_F, Int.reduceEq, Int.reduceLT, Int.reduceLE, Int.reduceAdd, Int.reduceSub, Int.reduceMul, Int.reduceNeg, reduceIte, if_true, if_false, true_or, or_true, false_or, or_false, false_and, and_false, eq_self, not_false_eq_true, not_true_eq_false, true_and, and_true, List.cons_append, List.nil_append, List.append_nil, b2_0, b2_1, b2_01, Classical.not_not] at ha hb; omega, fun _ y => absurd y (by decide)⟩
  · exact ⟨fun _ => by simp only [b2_T, b2_F, Int.reduceEq, Int.reduceLT, Int.reduceLE, Int.reduceAdd, Int.reduceSub, Int.reduceMul, Int.reduceNeg, reduceIte, if_true, if_false, true_or, or_true, false_or, or_false, false_and, and_false, eq_self, not_false_eq_true, not_true_eq_false, true_and, and_true, List.cons_append, List.nil_append, List.append_nil, b2_0, b2_1, b2_01, Classical.not_not] at ha hb; omega, fun _ y => absurd y (by decide)⟩
  · exact ⟨fun _ => by simp only [b2_T, b2_F, Int.reduceEq, Int.reduceLT, Int.reduceLE, Int.reduceAdd, Int.reduceSub, Int.reduceMul, Int.reduceNeg, reduceIte, if_true, if_false, true_or, or_true, false_or, or_false, false_and, and_false, eq_self, not_false_eq_true, not_true_eq_false, true_and, and_true, List.cons_append, List.nil_append, List.append_nil, b2_0, b2_1, b2_01, Classical.not_not] at ha hb; omega, fun _ y => absurd y (by decide)⟩
  · exact ⟨fun _ => by simp only [b2_T, b2_F, Int.reduceEq, Int.reduceLT, Int.reduceLE, Int.reduceAdd, Int.reduceSub, Int.reduceMul, Int.reduceNeg, reduceIte, if_true, if_false, true_or, or_true, false_or, or_false, false_and, and_false, eq_self, not_false_eq_true, not_true_eq_false, true_and, and_true, List.cons_append, List.nil_append, List.append_nil, b2_0, b2_1, b2_01, Classical.not_not] at ha hb; omega, fun _ y => absurd y (by decide)⟩
  · exact ⟨fun _ => by simp only [b2_T, b2_F, Int.reduceEq, Int.reduceLT, Int.reduceLE, Int.reduceAdd, Int.reduceSub, Int.reduceMul, Int.reduceNeg, reduceIte, if_true, if_false, true_or, or_true, false_or, or_false, false_and, and_false, eq_self, not_false_eq_true, not_true_eq_false, true_and, and_true, List.cons_append, List.nil_append, List.append_nil, b2_0, b2_1, b2_01, Classical.not_not] at ha hb; omega, fun _ y => absurd y (by decide)⟩
  · refine ⟨fun y => ?_, fun y _ => ?_⟩
    · have z := y rfl
      clear y
      simp only [b2_T, b2_F, Int.reduceEq, Int.reduceLT, Int.reduceLE, Int.reduceAdd, Int.reduceSub, Int.reduceMul, Int.reduceNeg, reduceIte, if_true, if_false, true_or, or_true, false_or, or_false, false_and, and_false, eq_self, not_false_eq_true, not_true_eq_false, true_and, and_true, List.cons_append, List.nil_append, List.append_nil, b2_0, b2_1, b2_01, Classical.not_not] at ha hb
      omega
    · omega
theorem rfit_b (W : WG g) (hB : isC bell) (hc : isC c) (h6 : g 72 c = 0 ∧ g 76 c = 0) (hk : 1 ≤ k ∧ k ≤ 9) (h3 : ¬ k = 3) (h8 : ¬ k = 8) (ha : 0 ≤ a ∧ a ≤ rA k) : ∀ (j : Nat) (b : Int) (Y : Mm), b + j = msB k + 1 → lsB k ≤ b → WG Y → PE g Y → LSq Y 111 (Y 70 49) (ftR g c bell tick (ix k a b)) → ∃ Y', WG Y' ∧ PE g Y' ∧ FK Y Y' 111 49 ∧ LSq Y' 111 (Y' 70 49) (ftR g c bell tick (ix k a (msB k + 1))) ∧ ∀ (tl : Ds) (Q : Ds → Mm → List MV → Prop), WP 180 148 [(2, 70), (0, c), (0, bell), (0, tick), (0, k), (0, rA k), (0, rB k), (0, a), (0, b)] [] (dsB ++ tl) Y Q = WP 180 116 [(2, 70), (0, c), (0, bell), (0, tick), (0, k), (0, rA k), (0, rB k), (0, a + 1), (0, msB k + 1)] [] (dsB ++ tl) Y' Q := by
  have am := rA_m hk h3 h8
  have ha2 : 0 ≤ a ∧ a ≤ mstA k := ⟨ha.1, Int.le_trans ha.2 am.1⟩
  have a15 : 0 ≤ a ∧ a ≤ 15 := by
    unfold mstA at ha2
    omega
  have w1 : w32 (a + 1) = a + 1 := w32_id (by omega) (by omega)
  intro j
  induction j with
  | zero =>
    intro b Y hb hl WY E L
    have hb : b = msB k + 1 := by omega
    subst hb
    have nb : rB k < msB k + 1 := by rw [am.2.1]; omega
    refine ⟨Y, WY, E, FK_refl, L, fun tl Q => ?_⟩
    rw [p180_148]
    generalize rB k = RB at nb ⊢
    simp only [p180_150, p180_152, p180_189, p180_192, eq_true nb, w1, b2_T, b2_F, Int.reduceEq, Int.reduceLT, Int.reduceLE, Int.reduceAdd, Int.reduceSub, Int.reduceMul, Int.reduceNeg, reduceIte, if_true, if_false, true_or, or_true, false_or, or_false, false_and, and_false, eq_self, not_false_eq_true, not_true_eq_false, true_and, and_true, List.cons_append, List.nil_append, List.append_nil, b2_0, b2_1, b2_01, Classical.not_not]
  | succ j ih =>
    intro b Y hb hl WY E L
    have hb2 : lsB k ≤ b ∧ b ≤ msB k := ⟨hl, by omega⟩
    have b9 : 0 ≤ b ∧ b ≤ 9 := by
      unfold lsB msB at hb2
      omega
    have w2 : w32 (b + 1) = b + 1 := w32_id (by omega) (by omega)
    have nb : ¬ rB k < b := by rw [am.2.1]; omega
    have ok := rok hk h3 h8 ha hb2
    by_cases hO : k = 9 → endP a
    · obtain ⟨Y1, W1, E1, F1, L1, h1⟩ := rfit_1 W hB hc h6 hk ha2 hb2 (ok.1 hO) WY E L
      obtain ⟨Y2, W2, E2, F2, L2, h2⟩ := ih (b + 1) Y1 (by clear hO ok; omega) (by clear hO ok; omega) W1 E1 L1
      refine ⟨Y2, W2, E2, FK_tr F1 F2, L2, fun tl Q => ?_⟩
      have y1 := h1 tl
      rw [← h2 tl Q, p180_148]
      generalize rB k = RB at nb ⊢
      by_cases h9 : k = 9
      · have ea := hO h9
        simp only [h9] at y1
        simp only [p180_150, p180_152, p180_155, p180_157, p180_159, p180_162, p180_164, p180_167, p180_170, p180_171, p180_172, p180_174, p180_176, p180_178, p180_179, p180_180, p180_183, p180_186, K_70, eq_false nb, h9, e125, b2_t ea, y1, w2, b2_T, b2_F, Int.reduceEq, Int.reduceLT, Int.reduceLE, Int.reduceAdd, Int.reduceSub, Int.reduceMul, Int.reduceNeg, reduceIte, if_true, if_false, true_or, or_true, false_or, or_false, false_and, and_false, eq_self, not_false_eq_true, not_true_eq_false, true_and, and_true, List.cons_append, List.nil_append, List.append_nil, b2_0, b2_1, b2_01, Classical.not_not]
      · simp only [p180_150, p180_152, p180_155, p180_157, p180_159, p180_162, p180_164, p180_167, p180_170, p180_171, p180_172, p180_174, p180_176, p180_178, p180_179, p180_180, p180_183, p180_186, K_70, eq_false nb, h9, y1, w2, b2_T, b2_F, Int.reduceEq, Int.reduceLT, Int.reduceLE, Int.reduceAdd, Int.reduceSub, Int.reduceMul, Int.reduceNeg, reduceIte, if_true, if_false, true_or, or_true, false_or, or_false, false_and, and_false, eq_self, not_false_eq_true, not_true_eq_false, true_and, and_true, List.cons_append, List.nil_append, List.append_nil, b2_0, b2_1, b2_01, Classical.not_not]
    · have h9 : k = 9 := Classical.byContradiction fun y => hO (fun z => absurd z y)
      have ea : ¬ endP a := fun y => hO (fun _ => y)
      have e1 := ft_ix (g := g) (c := c) (bell := bell) (tick := tick) hk a15 b9
      rw [if_neg (fun y => hO (ok.2 y.1))] at e1
      obtain ⟨Y2, W2, E2, F2, L2, h2⟩ := ih (b + 1) Y (by clear hO ok; omega) (by clear hO ok; omega) WY E (by rw [e1]; exact L)
      refine ⟨Y2, W2, E2, F2, L2, fun tl Q => ?_⟩
      rw [← h2 tl Q, p180_148]
      generalize rB k = RB at nb ⊢
      simp only [p180_150, p180_152, p180_155, p180_157, p180_159, p180_162, p180_164, p180_167, p180_170, p180_171, p180_172, p180_174, p180_176, p180_178, p180_179, p180_180, p180_183, p180_186, eq_false nb, h9, e125, b2_f ea, w2, b2_T, b2_F, Int.reduceEq, Int.reduceLT, Int.reduceLE, Int.reduceAdd, Int.reduceSub, Int.reduceMul, Int.reduceNeg, reduceIte, if_true, if_false, true_or, or_true, false_or, or_false, false_and, and_false, eq_self, not_false_eq_true, not_true_eq_false, true_and, and_true, List.cons_append, List.nil_append, List.append_nil, b2_0, b2_1, b2_01, Classical.not_not]
theorem rfit_a (W : WG g) (hB : isC bell) (hc : isC c) (h6 : g 72 c = 0 ∧ g 76 c = 0) (hk : 1 ≤ k ∧ k ≤ 9) (h3 : ¬ k = 3) (h8 : ¬ k = 8) : ∀ (j : Nat) (a : Int) (Y : Mm), a + j = rA k + 1 → 0 ≤ a → WG Y → PE g Y → LSq Y 111 (Y 70 49) (ftR g c bell tick (ix k a 0)) → ∃ Y', WG Y' ∧ PE g Y' ∧ FK Y Y' 111 49 ∧ LSq Y' 111 (Y' 70 49) (ftR g c bell tick (ix k (rA k + 1) 0)) ∧ ∀ (tl : Ds) (Q : Ds → Mm → List MV → Prop) (q8 : MV), (q8.1 = 0 ∨ q8.1 = 3) → ∃ q8' : MV, (q8'.1 = 0 ∨ q8'.1 = 3) ∧ WP 180 116 [(2, 70), (0, c), (0, bell), (0, tick), (0, k), (0, rA k), (0, rB k), (0, a), q8] [] (dsB ++ tl) Y Q = WP 180 36 [(2, 70), (0, c), (0, bell), (0, tick), (0, k + 1), (0, rA k), (0, rB k), (0, rA k + 1), q8'] [] (dsB ++ tl) Y' Q := by
  have am := rA_m hk h3 h8
  have w1 : w32 (k + 1) = k + 1 := w32_id (by omega) (by omega)
  intro j
  induction j with
  | zero =>
    intro a Y ha h0 WY E L
    have ha : a = rA k + 1 := by omega
    subst ha
    have nb : rA k < rA k + 1 := by omega
    refine ⟨Y, WY, E, FK_refl, L, fun tl Q q8 hq => ⟨q8, hq, ?_⟩⟩
    rw [p180_116]
    generalize rA k = RA at nb ⊢
    simp only [p180_118, p180_120, p180_195, p180_198, eq_true nb, w1, b2_T, b2_F, Int.reduceEq, Int.reduceLT, Int.reduceLE, Int.reduceAdd, Int.reduceSub, Int.reduceMul, Int.reduceNeg, reduceIte, if_true, if_false, true_or, or_true, false_or, or_false, false_and, and_false, eq_self, not_false_eq_true, not_true_eq_false, true_and, and_true, List.cons_append, List.nil_append, List.append_nil, b2_0, b2_1, b2_01, Classical.not_not]
  | succ j ih =>
    intro a Y ha h0 WY E L
    have ha2 : 0 ≤ a ∧ a ≤ rA k := ⟨h0, by omega⟩
    have ha3 : 0 ≤ a ∧ a ≤ mstA k := ⟨h0, Int.le_trans ha2.2 am.1⟩
    have sk := ix_a (g := g) (c := c) (bell := bell) (tick := tick) hk ha3
    have lb : ∃ j : Nat, lsB k + (j : Int) = msB k + 1 := by
      refine ⟨(msB k + 1 - lsB k).toNat, ?_⟩
      unfold lsB msB
      omega
    obtain ⟨jb, hjb⟩ := lb
    obtain ⟨Y1, W1, E1, F1, L1, h1⟩ := rfit_b W hB hc h6 hk h3 h8 ha2 jb (lsB k) Y hjb (Int.le_refl _) WY E (by rw [sk.1]; exact L)
    obtain ⟨Y2, W2, E2, F2, L2, h2⟩ := ih (a + 1) Y1 (by omega) (by omega) W1 E1 (by rw [sk.2]; exact L1)
    have nb : ¬ rA k < a := by omega
    refine ⟨Y2, W2, E2, FK_tr F1 F2, L2, fun tl Q q8 hq => ?_⟩
    obtain ⟨q8', hq', e2⟩ := h2 tl Q (0, msB k + 1) (Or.inl rfl)
    refine ⟨q8', hq', ?_⟩
    rw [← e2, ← h1 tl Q, p180_116]
    have el : (if 0 < rB k then (1 : Int) else 0) = lsB k := by
      have k0 : k = 1 ∨ k = 2 ∨ k = 4 ∨ k = 5 ∨ k = 6 ∨ k = 7 ∨ k = 9 := by omega
      rcases k0 with rfl | rfl | rfl | rfl | rfl | rfl | rfl <;> rfl
    rw [← el]
    generalize rA k = RA at nb ⊢
    by_cases hr : 0 < rB k
    · rw [if_pos hr]
      generalize rB k = RB at hr ⊢
      simp only [p180_118, p180_120, p180_123, p180_125, p180_126, p180_129, p180_131, p180_133, p180_136, p180_138, p180_141, p180_142, p180_145, p180_146, eq_false nb, h3, h8, eq_true hr, b2_T, b2_F, Int.reduceEq, Int.reduceLT, Int.reduceLE, Int.reduceAdd, Int.reduceSub, Int.reduceMul, Int.reduceNeg, reduceIte, if_true, if_false, true_or, or_true, false_or, or_false, false_and, and_false, eq_self, not_false_eq_true, not_true_eq_false, true_and, and_true, List.cons_append, List.nil_append, List.append_nil, b2_0, b2_1, b2_01, Classical.not_not]
    · rw [if_neg hr]
      generalize rB k = RB at hr ⊢
      simp only [p180_118, p180_120, p180_123, p180_125, p180_126, p180_129, p180_131, p180_133, p180_136, p180_138, p180_141, p180_142, p180_145, p180_146, eq_false nb, h3, h8, eq_false hr, b2_T, b2_F, Int.reduceEq, Int.reduceLT, Int.reduceLE, Int.reduceAdd, Int.reduceSub, Int.reduceMul, Int.reduceNeg, reduceIte, if_true, if_false, true_or, or_true, false_or, or_false, false_and, and_false, eq_self, not_false_eq_true, not_true_eq_false, true_and, and_true, List.cons_append, List.nil_append, List.append_nil, b2_0, b2_1, b2_01, Classical.not_not]
theorem rfit_k (W : WG g) (hB : isC bell) (h8b : g 72 bell = 8) (hc : isC c) (h6 : g 72 c = 0 ∧ g 76 c = 0) : ∀ (j : Nat) (k : Int) (Y : Mm), k + j = 10 → 1 ≤ k → WG Y → PE g Y → LSq Y 111 (Y 70 49) (ftR g c bell tick (ix k 0 0)) → ∃ Y', WG Y' ∧ PE g Y' ∧ FK Y Y' 111 49 ∧ LSq Y' 111 (Y' 70 49) (ftR g c bell tick 1440) ∧ ∀ (tl : Ds) (Q : Ds → Mm → List MV → Prop) (q5 q6 q7 q8 : MV), (q5.1 = 0 ∨ q5.1 = 3) → (q6.1 = 0 ∨ q6.1 = 3) → (q7.1 = 0 ∨ q7.1 = 3) → (q8.1 = 0 ∨ q8.1 = 3) → WP 180 36 [(2, 70), (0, c), (0, bell), (0, tick), (0, k), q5, q6, q7, q8] [] (dsB ++ tl) Y Q = Q (dsB ++ tl) Y' [(0, Y' 70 49)] := by
  intro j
  induction j with
  | zero =>
    intro k Y hk h0 WY E L
    have hk : k = 10 := by omega
    subst hk
    refine ⟨Y, WY, E, FK_refl, L, fun tl Q q5 q6 q7 q8 _ _ _ _ => ?_⟩
    rw [p180_36]
    simp only [p180_38, p180_40, p180_201, p180_202, p180_205, K_70, b2_T, b2_F, Int.reduceEq, Int.reduceLT, Int.reduceLE, Int.reduceAdd, Int.reduceSub, Int.reduceMul, Int.reduceNeg, reduceIte, if_true, if_false, true_or, or_true, false_or, or_false, false_and, and_false, eq_self, not_false_eq_true, not_true_eq_false, true_and, and_true, List.cons_append, List.nil_append, List.append_nil, b2_0, b2_1, b2_01, Classical.not_not]
  | succ j ih =>
    intro k Y hk h0 WY E L
    have hk2 : 1 ≤ k ∧ k ≤ 9 := ⟨h0, by omega⟩
    have nb : ¬ 9 < k := by omega
    have w1 : w32 (k + 1) = k + 1 := w32_id (by omega) (by omega)
    have k0 : k = 1 ∨ k = 2 ∨ k = 3 ∨ k = 4 ∨ k = 5 ∨ k = 6 ∨ k = 7 ∨ k = 8 ∨ k = 9 := by omega
    have bl : isC bell ∧ Y 72 bell = 8 := ⟨hB, by rw [E.k bell hB]; exact h8b⟩
    -- up to the loop over a
    have head : ∀ (tl : Ds) (Q : Ds → Mm → List MV → Prop) (q5 q6 q7 q8 : MV), WP 180 36 [(2, 70), (0, c), (0, bell), (0, tick), (0, k), q5, q6, q7, q8] [] (dsB ++ tl) Y Q = WP 180 116 [(2, 70), (0, c), (0, bell), (0, tick), (0, k), (0, rA k), (0, rB k), (0, 0), q8] [] (dsB ++ tl) Y Q := by
      intro tl Q q5 q6 q7 q8
      have y173 := fun (Q : Ds → Mm → List MV → Prop) => e173 (tl := tl) (Q := Q) (c := bell) WY.S
      simp only [b2_t bl] at y173
      rw [p180_36]
      rcases k0 with rfl | rfl | rfl | rfl | rfl | rfl | rfl | rfl | rfl
      all_goals simp only [p180_38, p180_40, p180_43, p180_44, p180_45, p180_48, p180_51, p180_53, p180_54, p180_57, p180_58, p180_61, p180_63, p180_66, p180_69, p180_70, p180_73, p180_75, p180_77, p180_80, p180_82, p180_85, p180_86, p180_88, p180_90, p180_91, p180_94, p180_96, p180_99, p180_101, p180_103, p180_106, p180_107, p180_110, p180_111, p180_113, p180_114, K_70, y173, e124, rA, rB, b2_T, b2_F, Int.reduceEq, Int.reduceLT, Int.reduceLE, Int.reduceAdd, Int.reduceSub, Int.reduceMul, Int.reduceNeg, reduceIte, if_true, if_false, true_or, or_true, false_or, or_false, false_and, and_false, eq_self, not_false_eq_true, not_true_eq_false, true_and, and_true, List.cons_append, List.nil_append, List.append_nil, b2_0, b2_1, b2_01, Classical.not_not]
    by_cases h38 : k = 3 ∨ k = 8
    · -- nothing is tried
      have sk : ftR g c bell tick (ix (k + 1) 0 0) = ftR g c bell tick (ix k 0 0) := by
        apply ft_sk'
        · unfold ix
          omega
        · intro i i0 i1
          unfold ix at i0 i1
          have e2 : (i : Int) / 160 + 1 = k := by omega
          rw [e2]
          omega
      obtain ⟨Y2, W2, E2, F2, L2, h2⟩ := ih (k + 1) Y (by omega) (by omega) WY E (by rw [sk]; exact L)
      refine ⟨Y2, W2, E2, F2, L2, fun tl Q q5 q6 q7 q8 h5 h6' h7 h8 => ?_⟩
      rw [head tl Q, ← h2 tl Q (0, rA k) (0, rB k) (0, 0) q8 (Or.inl rfl) (Or.inl rfl) (Or.inl rfl) h8, p180_116]
      rcases h38 with rfl | rfl
      · simp only [p180_118, p180_120, p180_123, p180_125, p180_126, p180_129, p180_131, p180_133, p180_195, p180_198, w1, rA, rB, b2_T, b2_F, Int.reduceEq, Int.reduceLT, Int.reduceLE, Int.reduceAdd, Int.reduceSub, Int.reduceMul, Int.reduceNeg, reduceIte, if_true, if_false, true_or, or_true, false_or, or_false, false_and, and_false, eq_self, not_false_eq_true, not_true_eq_false, true_and, and_true, List.cons_append, List.nil_append, List.append_nil, b2_0, b2_1, b2_01, Classical.not_not]
        simp only [show w32 4 = 4 by decide]
      · simp only [p180_118, p180_120, p180_123, p180_125, p180_126, p180_129, p180_131, p180_133, p180_195, p180_198, w1, rA, rB, b2_T, b2_F, Int.reduceEq, Int.reduceLT, Int.reduceLE, Int.reduceAdd, Int.reduceSub, Int.reduceMul, Int.reduceNeg, reduceIte, if_true, if_false, true_or, or_true, false_or, or_false, false_and, and_false, eq_self, not_false_eq_true, not_true_eq_false, true_and, and_true, List.cons_append, List.nil_append, List.append_nil, b2_0, b2_1, b2_01, Classical.not_not]
        simp only [show w32 9 = 9 by decide]
    · have h3 : ¬ k = 3 := fun y => h38 (Or.inl y)
      have h8 : ¬ k = 8 := fun y => h38 (Or.inr y)
      have am := rA_m hk2 h3 h8
      have m0 : ∃ j : Nat, (0 : Int) + (j : Int) = rA k + 1 := ⟨(rA k + 1).toNat, by have := am.2.2; omega⟩
      obtain ⟨ja, hja⟩ := m0
      obtain ⟨Y1, W1, E1, F1, L1, h1⟩ := rfit_a W hB hc h6 hk2 h3 h8 ja 0 Y hja (Int.le_refl _) WY E L
      have sk : ftR g c bell tick (ix (k + 1) 0 0) = ftR g c bell tick (ix k (rA k + 1) 0) := by
        apply ft_sk'
        · unfold ix
          have := am.1
          unfold mstA at this
          omega
        · intro i i0 i1
          unfold ix at i0 i1
          rcases k0 with rfl | rfl | rfl | rfl | rfl | rfl | rfl | rfl | rfl
          all_goals (simp only [rA, b2_T, b2_F, Int.reduceEq, Int.reduceLT, Int.reduceLE, Int.reduceAdd, Int.reduceSub, Int.reduceMul, Int.reduceNeg, reduceIte, if_true, if_false, true_or, or_true, false_or, or_false, false_and, and_false, eq_self, not_false_eq_true, not_true_eq_false, true_and, and_true, List.cons_append, List.nil_append, List.append_nil, b2_0, b2_1, b2_01, Classical.not_not] at i0; omega)
      obtain ⟨Y2, W2, E2, F2, L2, h2⟩ := ih (k + 1) Y1 (by omega) (by omega) W1 E1 (by rw [sk]; exact L1)
      refine ⟨Y2, W2, E2, FK_tr F1 F2, L2, fun tl Q q5 q6 q7 q8 h5 h6' h7 h8' => ?_⟩
      obtain ⟨q8', hq', e1⟩ := h1 tl Q q8 h8'
      rw [head tl Q, e1, h2 tl Q (0, rA k) (0, rB k) (0, rA k + 1) q8' (Or.inl rfl) (Or.inl rfl) (Or.inl rfl) hq']
theorem e180 (W : WG m) (hc : isC c) (h6 : m 72 c = 0 ∧ m 76 c = 0) : ∃ Y, WG Y ∧ PE m Y ∧ FK m Y 111 49 ∧ (LSq Y 111 (Y 70 49) (if isC bell ∧ m 72 bell = 8 then ftR m c bell tick 1440 else (0, fun _ => 0))) ∧ ∀ (tl : Ds) (Q : Ds → Mm → List MV → Prop), WP 180 0 [(2, 70), (0, c), (0, bell), (0, tick), (3, 0), (3, 0), (3, 0), (3, 0), (3, 0)] [] (dsB ++ tl) m Q = Q (dsB ++ tl) Y [(0, Y 70 49)] := by
  have S := W.S
  have S0 : Sh (up m 70 49 0) := Sh.up S (by decide)
  have E0 : PE m (up m 70 49 0) := PE_cg (fun x j h1 h2 => by rw [up_at, if_neg (by omega)]) rfl
  have W0 := WG_pe W E0 S0
  have f0 : FK m (up m 70 49 0) 111 49 := fun x j z1 z2 z3 z4 z5 z6 z7 z8 => by rw [up_at, if_neg z8]
  have z49 : up m 70 49 0 70 49 = 0 := by simp only [up_at, b2_T, b2_F, Int.reduceEq, Int.reduceLT, Int.reduceLE, Int.reduceAdd, Int.reduceSub, Int.reduceMul, Int.reduceNeg, reduceIte, if_true, if_false, true_or, or_true, false_or, or_false, false_and, and_false, eq_self, not_false_eq_true, not_true_eq_false, true_and, and_true, List.cons_append, List.nil_append, List.append_nil, b2_0, b2_1, b2_01, Classical.not_not]
  have e126' := fun (tl : Ds) (Q : Ds → Mm → List MV → Prop) => e126 (tl := tl) (Q := Q) (c := c) S hc
  simp only [b2_t h6] at e126'
  by_cases h8 : isC bell ∧ m 72 bell = 8
  · have i0 : ix 1 0 0 = 0 := rfl
    obtain ⟨Y, W2, E2, F2, L2, h2⟩ := rfit_k (bell := bell) (tick := tick) W h8.1 h8.2 hc h6 9 1 (up m 70 49 0) (by decide) (by decide) W0 E0 (by rw [i0]; exact ⟨z49, fun i i0 i1 => absurd i1 (by show ¬ i < 0; omega)⟩)
    refine ⟨Y, W2, E2, FK_tr f0 F2, by rw [if_pos h8]; exact L2, fun tl Q => ?_⟩
    have y126 := e126' tl
    rw [← h2 tl Q (3, 0) (3, 0) (3, 0) (3, 0) (Or.inr rfl) (Or.inr rfl) (Or.inr rfl) (Or.inr rfl)]
    simp only [p180_0, p180_1, p180_4, p180_7, p180_8, p180_9, p180_12, p180_13, p180_14, p180_15, p180_18, p180_21, p180_22, p180_24, p180_27, p180_28, p180_29, p180_30, p180_33, p180_34, K_70, e122, b2_t hc, y126, b2_T, b2_F, Int.reduceEq, Int.reduceLT, Int.reduceLE, Int.reduceAdd, Int.reduceSub, Int.reduceMul, Int.reduceNeg, reduceIte, if_true, if_false, true_or, or_true, false_or, or_false, false_and, and_false, eq_self, not_false_eq_true, not_true_eq_false, true_and, and_true, List.cons_append, List.nil_append, List.append_nil, b2_0, b2_1, b2_01, Classical.not_not]
  · refine ⟨up m 70 49 0, W0, E0, f0, by rw [if_neg h8]; exact ⟨z49, fun i i0 i1 => absurd i1 (by show ¬ i < 0; omega)⟩, fun tl Q => ?_⟩
    have y126 := e126' tl
    have y173 := fun (Q : Ds → Mm → List MV → Prop) => e173 (tl := tl) (Q := Q) (c := bell) S0
    have nb : ¬ (isC bell ∧ up m 70 49 0 72 bell = 8) := h8
    simp only [b2_f nb] at y173
    rw [z49]
    simp only [p180_0, p180_1, p180_4, p180_7, p180_8, p180_9, p180_12, p180_13, p180_14, p180_15, p180_18, p180_21, p180_22, p180_24, p180_27, p180_28, p180_29, p180_30, p180_33, p180_34, p180_36, p180_38, p180_40, p180_43, p180_44, p180_45, p180_48, p180_201, p180_202, p180_205, K_70, e122, b2_t hc, y126, y173, up_at, b2_T, b2_F, Int.reduceEq, Int.reduceLT, Int.reduceLE, Int.reduceAdd, Int.reduceSub, Int.reduceMul, Int.reduceNeg, reduceIte, if_true, if_false, true_or, or_true, false_or, or_false, false_and, and_false, eq_self, not_false_eq_true, not_true_eq_false, true_and, and_true, List.cons_append, List.nil_append, List.append_nil, b2_0, b2_1, b2_01, Classical.not_not]
end FITS3
