/-! calls, both sides: the plan, what is told, run -/
section CALLS4
variable {tl : Ds} {ds ds' : Ds} {m X Y Z X' Y' g h A B : Mm} {Q : Ds → Mm → List MV → Prop} {p q c k a b s o v i j d n w t c1 c2 s1 s2 : Int} {M M' : Nat} {as as' : List MV}
theorem rf_at {x e r : Int} : rf m e r x j = if x = e ∧ j = r then w32 (m e r + 1) else m x j := rfl
theorem JS_rf (J : JS ds A B n) (hk : 0 ≤ k ∧ k < 8) : JS ds (rf A 3 k) (rf B 71 k) (n + 1) := by
  have fA : ∀ x j, ¬ x = 3 → rf A 3 k x j = A x j := fun x j h => by rw [rf_at, if_neg (fun y => h y.1)]
  have fB : ∀ x j, ¬ x = 71 → rf B 71 k x j = B x j := fun x j h => by rw [rf_at, if_neg (fun y => h y.1)]
  have SA : Sh (rf A 3 k) := Sh_ar J.S (by decide)
  have SB : Sh (rf B 71 k) := Sh_ar J.W.S (by decide)
  have W := J.W
  refine ⟨⟨SB, PV_cg W.p (fun j => fB _ _ (by decide)) (fun j => fB _ _ (by decide)) (fun j => fB _ _ (by decide)) (fun j => fB _ _ (by decide)) (fun j => fB _ _ (by decide)), SV_cg W.v (fun x j h1 h2 => fB _ _ (by omega)) (fB _ _ (by decide)), PN_cg W.n (fun x j h1 h2 => fB _ _ (by omega))⟩, SA, ?_, ?_, ?_, ?_, ?_, ?_, ?_, ?_, ?_, J.Dt, by have := J.Ln; omega, by have := J.Sl; omega⟩
  · exact PR_pe (PR_m J.P (fun x j h1 h2 => fA x j (by omega))) (PE_cg (fun x j h1 h2 => fB x j (by omega)) (fB _ _ (by decide)))
  · exact ZP_cg J.Z (fun x j h1 h2 => fA x j (by omega))
  · rw [fA _ _ (by decide), fB _ _ (by decide)]
    have := J.Rn
    omega
  · intro i i0 i1
    rw [rf_at, rf_at, J.Rf i i0 i1, J.Rf k hk.1 hk.2]
    simp only [b2_T, b2_F, Int.reduceEq, Int.reduceLT, Int.reduceLE, Int.reduceAdd, Int.reduceSub, Int.reduceMul, Int.reduceNeg, reduceIte, if_true, if_false, true_or, or_true, false_or, or_false, false_and, and_false, eq_self, not_false_eq_true, not_true_eq_false, true_and, and_true, List.cons_append, List.nil_append, List.append_nil, b2_0, b2_1, b2_01, Classical.not_not]
  · exact LT0_cg J.Lt (fun x j h1 h2 => fA x j (by omega)) (fA _ _ (by decide)) (fun j _ => fB _ _ (by decide)) (fun j _ => fB _ _ (by decide)) (fun x j h1 h2 _ => fB _ _ (by omega)) (fun j => ⟨fB _ _ (by decide), fB _ _ (by decide)⟩)
  · exact LSX_cg J.Wk (fun i => fA _ _ (by decide)) (fun i => fB _ _ (by decide)) (fA _ _ (by decide)) (fB _ _ (by decide))
  · exact LSX_cg J.Ft (fun i => fA _ _ (by decide)) (fun i => fB _ _ (by decide)) (fA _ _ (by decide)) (fB _ _ (by decide))
  · exact LSX_cg J.Fw (fun i => fA _ _ (by decide)) (fun i => fB _ _ (by decide)) (fA _ _ (by decide)) (fB _ _ (by decide))
  · exact SHV_fr J.Hv (fun x j h => fA x j (by omega)) (fun x j h1 h2 => fB x j (by omega))
/-- a refused call -/
theorem CALL_no {v : MV} (J : JS ds m m n) (hk : 0 ≤ k ∧ k < 8) (hA : ∀ Q, WP M 0 as [] ds m Q = Q ds (rf m 3 k) [v]) (hB : Sh (rf m 3 k) → (∀ x j, ¬ x = 3 → rf m 3 k x j = m x j) → ∀ Q, WP M' 0 as' [] ds (rf m 3 k) Q = Q ds (rf (rf m 3 k) 71 k) [v]) (ht : v.1 = tgM M := by rfl) : CALL M M' as as' ds m n := by
  have SA : Sh (rf m 3 k) := Sh_ar J.S (by decide)
  have fA : ∀ x j, ¬ x = 3 → rf m 3 k x j = m x j := fun x j h => by rw [rf_at, if_neg (fun y => h y.1)]
  exact CALL_of J hA (fun x j h => fA x j (by omega)) SA (fun J1 => JS_rf J1 hk) (hB SA fA) (fun x j h => by rw [rf_at, if_neg (by omega)]) ht
theorem SHV_fr2 (H : SHV ds X Y) (f : ∀ x j, x = 1 ∨ x = 2 ∨ 114 ≤ x → X' x j = X x j) (g : ∀ x j, 80 ≤ x → x ≤ 82 → Y' x j = Y x j) (g4 : ∀ j, j < 3840 → Y' 84 j = Y 84 j) (g5 : ∀ j, j < 104 → Y' 85 j = Y 85 j) : SHV ds X' Y' := by
  have oc : ∀ s a, own X' s a ↔ own X s a := fun s a => own_cg (f _ _ (Or.inl rfl)) (f _ _ (Or.inr (Or.inl rfl)))
  refine ⟨fun s hs => ?_, fun s a hs h => H.b s a hs ((oc s a).1 h), fun s t a hs ht h1 h2 => H.d s t a hs ht ((oc s a).1 h1) ((oc t a).1 h2)⟩
  exact SK_cg (H.k s hs) (f _ _ (Or.inl rfl)) (f _ _ (Or.inr (Or.inl rfl))) (fun a j h => f a j (Or.inr (Or.inr (H.b s a hs h).1))) (g _ _ (by decide) (by decide)) (g _ _ (by decide) (by decide)) (fun i _ _ => g _ _ (by decide) (by decide)) (fun i _ _ => g4 _ (by omega)) (fun i _ _ => g5 _ (by omega)) (fun a _ => ⟨rfl, rfl⟩)
theorem JS_pl (J : JS ds A B n) (W' : WG Y') (S' : Sh X') (P' : PR X' 9 Y') (Z' : ZP X' 9) (f : ∀ x j, ¬ (9 ≤ x ∧ x ≤ 26) → X' x j = A x j) (g : ∀ x j, ¬ (72 ≤ x ∧ x ≤ 79) → ¬ (x = 70 ∧ j = 6) → ¬ (x = 84 ∧ 3840 ≤ j) → ¬ (x = 85 ∧ 104 ≤ j) → Y' x j = B x j) : JS ds X' Y' (n + 1) := by
  refine ⟨W', S', P', Z', ?_, ?_, ?_, ?_, ?_, ?_, ?_, J.Dt, by have := J.Ln; omega, by have := J.Sl; omega⟩
  · rw [f _ _ (by decide), g _ _ (by decide) (by decide) (by omega) (by omega)]
    have := J.Rn
    omega
  · intro i i0 i1
    rw [f _ _ (by decide), g _ _ (by decide) (by omega) (by omega) (by omega)]
    exact J.Rf i i0 i1
  · exact LT0_cg J.Lt (fun x j h1 h2 => f x j (by omega)) (f _ _ (by decide)) (fun j _ => g _ _ (by decide) (by omega) (by omega) (by omega)) (fun j _ => g _ _ (by decide) (by omega) (by omega) (by omega)) (fun x j h1 h2 _ => g _ _ (by omega) (by omega) (by omega) (by omega)) (fun j => ⟨g _ _ (by decide) (by omega) (by omega) (by omega), g _ _ (by decide) (by omega) (by omega) (by omega)⟩)
  · exact LSX_cg J.Wk (fun i => f _ _ (by decide)) (fun i => g _ _ (by decide) (by omega) (by omega) (by omega)) (f _ _ (by decide)) (g _ _ (by decide) (by decide) (by omega) (by omega))
  · exact LSX_cg J.Ft (fun i => f _ _ (by decide)) (fun i => g _ _ (by decide) (by omega) (by omega) (by omega)) (f _ _ (by decide)) (g _ _ (by decide) (by decide) (by omega) (by omega))
  · exact LSX_cg J.Fw (fun i => f _ _ (by decide)) (fun i => g _ _ (by decide) (by omega) (by omega) (by omega)) (f _ _ (by decide)) (g _ _ (by decide) (by decide) (by omega) (by omega))
  · exact SHV_fr2 J.Hv (fun x j h => f x j (by omega)) (fun x j h1 h2 => g x j (by omega) (by omega) (by omega) (by omega)) (fun j h => g _ _ (by decide) (by omega) (by omega) (by omega)) (fun j h => g _ _ (by decide) (by omega) (by omega) (by omega))
/-- a call that changes the plan -/
theorem CALL_pl {v : MV} (J : JS ds m m n) (hA : ∀ Q, WP M 0 as [] ds m Q = Q ds X [v]) (SX : Sh X) (fA : ∀ x j, ¬ (9 ≤ x ∧ x ≤ 26) → X x j = m x j) (hB : ∀ Q, WP M' 0 as' [] ds X Q = Q ds Z [v]) (fB : ∀ x j, ¬ (72 ≤ x ∧ x ≤ 79) → ¬ (x = 70 ∧ j = 6) → ¬ (x = 84 ∧ 3840 ≤ j) → ¬ (x = 85 ∧ 104 ≤ j) → Z x j = X x j) (K : JS ds m X n → WG Z ∧ PR X 9 Z ∧ ZP X 9) (ht : v.1 = tgM M := by rfl) : CALL M M' as as' ds m n :=
  CALL_of J hA (fun x j h => fA x j (by omega)) SX (fun J1 => JS_pl J1 (K J1).1 SX (K J1).2.1 (K J1).2.2 fA fB) hB (fun x j h => fB x j (by omega) (by omega) (by omega) (by omega)) ht
theorem call_put (J : JS ds m m n) : CALL 66 129 [(2, 0), (0, c), (0, k), (0, a), (0, b)] [(2, 70), (0, c), (0, k), (0, a), (0, b)] ds m n := by
  obtain ⟨tl, rfl⟩ := J.Dt
  by_cases hc : isC c
  · have kc := J.P.k c hc
    have bc := J.P.b c hc
    simp only [Int.reduceAdd] at kc bc
    by_cases hp : canP k a b (m 10 c) (m 14 c)
    · have hx : xPut m c k a b = plc m 9 c k a b := by
        unfold xPut
        rw [if_pos hc, if_pos hp]
      have ha : aPut c k a b (m 10 c) (m 14 c) = 1 := by
        unfold aPut
        rw [if_pos hc, if_pos hp]
      have f72 : plc m 9 c k a b 72 c = m 72 c := plc_f (by decide)
      have f76 : plc m 9 c k a b 76 c = m 76 c := plc_f (by decide)
      have hp2 : canP k a b (plc m 9 c k a b 72 c) (plc m 9 c k a b 76 c) := by
        rw [f72, f76, ← kc, ← bc]
        exact hp
      have hz : mPut (plc m 9 c k a b) c k a b = ly (plc m 9 c k a b) c k a b := by
        unfold mPut
        rw [if_pos hc, if_pos hp2]
      have ha2 : aPut c k a b (plc m 9 c k a b 72 c) (plc m 9 c k a b 76 c) = 1 := by
        unfold aPut
        rw [if_pos hc, if_pos hp2]
      have S1 : Sh (plc m 9 c k a b) := Sh_plc9 J.S
      have k1 := hp.1
      refine CALL_pl (v := (0, 1)) (X := plc m 9 c k a b) (Z := ly (plc m 9 c k a b) c k a b) J (fun Q => ?_) S1 (fun x j h => plc_f (by omega)) (fun Q => ?_) (fun x j h _ _ _ => ly_f (by omega)) (fun J1 => ⟨WG_ly2 J1.W hc hp2, PR_ly J1.P ⟨k1.1, k1.2.1⟩ k1.2.2, ZP_plc J.Z (Or.inl (by have := k1.1; omega))⟩)
      · rw [e66 J.S, hx, ha]
      · rw [e129 S1, hz, ha2]
    · have hx : xPut m c k a b = rf m 3 6 := by
        unfold xPut
        rw [if_pos hc, if_neg hp]
      have ha : aPut c k a b (m 10 c) (m 14 c) = -6 := by
        unfold aPut
        rw [if_pos hc, if_neg hp]
      refine CALL_no (v := (0, -6)) (k := 6) J (by decide) (fun Q => ?_) (fun SA fA Q => ?_)
      · rw [e66 J.S, hx, ha]
      · have hp2 : ¬ canP k a b (rf m 3 6 72 c) (rf m 3 6 76 c) := by
          rw [fA 72 c (by decide), fA 76 c (by decide), ← kc, ← bc]
          exact hp
        have hz : mPut (rf m 3 6) c k a b = rf (rf m 3 6) 71 6 := by
          unfold mPut
          rw [if_pos hc, if_neg hp2]
        have ha2 : aPut c k a b (rf m 3 6 72 c) (rf m 3 6 76 c) = -6 := by
          unfold aPut
          rw [if_pos hc, if_neg hp2]
        rw [e129 SA, hz, ha2]
  · have hx : xPut m c k a b = rf m 3 1 := if_neg hc
    have ha : ∀ u v, aPut c k a b u v = -1 := fun u v => if_neg hc
    refine CALL_no (v := (0, -1)) (k := 1) J (by decide) (fun Q => ?_) (fun SA fA Q => ?_)
    · rw [e66 J.S, hx, ha]
    · have hz : mPut (rf m 3 1) c k a b = rf (rf m 3 1) 71 1 := if_neg hc
      rw [e129 SA, hz, ha]
theorem call_ball (J : JS ds m m n) : CALL 68 132 [(2, 0), (0, c)] [(2, 70), (0, c)] ds m n := by
  obtain ⟨tl, rfl⟩ := J.Dt
  by_cases hc : isC c
  · have kc := J.P.k c hc
    have bc := J.P.b c hc
    simp only [Int.reduceAdd] at kc bc
    by_cases hp : m 14 c = 0 ∧ (m 10 c = 0 ∨ m 10 c = 9)
    · have hx : xBall m c = up m 14 c 1 := by
        unfold xBall
        rw [if_pos hc, if_pos hp]
      have ha : aBall c (m 10 c) (m 14 c) = 1 := by
        unfold aBall
        rw [if_pos hc, if_pos hp]
      have f : ∀ x j, ¬ x = 14 → up m 14 c 1 x j = m x j := fun x j h => by rw [up_at, if_neg (fun y => h y.1)]
      have f72 : up m 14 c 1 72 c = m 72 c := f _ _ (by decide)
      have f76 : up m 14 c 1 76 c = m 76 c := f _ _ (by decide)
      have hp2 : up m 14 c 1 76 c = 0 ∧ (up m 14 c 1 72 c = 0 ∨ up m 14 c 1 72 c = 9) := by
        rw [f72, f76, ← kc, ← bc]
        exact hp
      have hz : mBall (up m 14 c 1) c = up (up m 14 c 1) 76 c 1 := by
        unfold mBall
        rw [if_pos hc, if_pos hp2]
      have ha2 : aBall c (up m 14 c 1 72 c) (up m 14 c 1 76 c) = 1 := by
        unfold aBall
        rw [if_pos hc, if_pos hp2]
      have S1 : Sh (up m 14 c 1) := Sh_ar J.S (by decide)
      refine CALL_pl (v := (0, 1)) (X := up m 14 c 1) (Z := up (up m 14 c 1) 76 c 1) J (fun Q => ?_) S1 (fun x j h => f x j (by omega)) (fun Q => ?_) (fun x j h _ _ _ => by rw [up_at, if_neg (by omega)]) (fun J1 => ⟨PV_ball J1.W hc hp2.2, PR_ball J1.P, ZP_up J.Z (by decide)⟩)
      · rw [e68 J.S, hx, ha]
      · rw [e132 S1, hz, ha2]
    · have hx : xBall m c = rf m 3 6 := by
        unfold xBall
        rw [if_pos hc, if_neg hp]
      have ha : aBall c (m 10 c) (m 14 c) = -6 := by
        unfold aBall
        rw [if_pos hc, if_neg hp]
      refine CALL_no (v := (0, -6)) (k := 6) J (by decide) (fun Q => ?_) (fun SA fA Q => ?_)
      · rw [e68 J.S, hx, ha]
      · have hp2 : ¬ (rf m 3 6 76 c = 0 ∧ (rf m 3 6 72 c = 0 ∨ rf m 3 6 72 c = 9)) := by
          rw [fA 72 c (by decide), fA 76 c (by decide), ← kc, ← bc]
          exact hp
        have hz : mBall (rf m 3 6) c = rf (rf m 3 6) 71 6 := by
          unfold mBall
          rw [if_pos hc, if_neg hp2]
        have ha2 : aBall c (rf m 3 6 72 c) (rf m 3 6 76 c) = -6 := by
          unfold aBall
          rw [if_pos hc, if_neg hp2]
        rw [e132 SA, hz, ha2]
  · have hx : xBall m c = rf m 3 1 := if_neg hc
    have ha : ∀ u v, aBall c u v = -1 := fun u v => if_neg hc
    refine CALL_no (v := (0, -1)) (k := 1) J (by decide) (fun Q => ?_) (fun SA fA Q => ?_)
    · rw [e68 J.S, hx, ha]
    · have hz : mBall (rf m 3 1) c = rf (rf m 3 1) 71 1 := if_neg hc
      rw [e132 SA, hz, ha]
theorem call_raze (J : JS ds m m n) : CALL 69 133 [(2, 0), (0, c), (3, 0)] [(2, 70), (0, c), (3, 0)] ds m n := by
  obtain ⟨tl, rfl⟩ := J.Dt
  by_cases hc : isC c
  · have kc := J.P.k c hc
    simp only [Int.reduceAdd] at kc
    have ha : ∀ u, aRaze c u = u := fun u => if_pos hc
    by_cases h3 : m 10 c = 3
    · have h3' : m 72 c = 3 := by rw [← kc]; exact h3
      have oc := J.P.o c hc h3'
      simp only [Int.reduceAdd] at oc
      have mc := (J.W.p c hc).ma h3'
      have hx : xRaze m c = clr (clr m 9 (m 75 c)) 9 c := by
        unfold xRaze
        rw [if_pos hc, if_pos h3, oc]
      have S1 : Sh (clr (clr m 9 (m 75 c)) 9 c) := Sh_clr9 (Sh_clr9 J.S)
      have f : ∀ x j, ¬ (10 ≤ x ∧ x ≤ 14) → clr (clr m 9 (m 75 c)) 9 c x j = m x j := fun x j h => by rw [clr_f (by omega), clr_f (by omega)]
      have f72 := f 72 c (by decide)
      have f75 := f 75 c (by decide)
      obtain ⟨X, hX⟩ : ∃ X, X = clr (clr m 9 (m 75 c)) 9 c := ⟨_, rfl⟩
      rw [← hX] at hx S1 f f72 f75
      have hz : mRaze X c = rz2 X c (X 75 c) := by
        unfold mRaze rz2
        rw [if_pos hc, if_pos (f72.trans h3')]
      refine CALL_pl (v := (0, m 10 c)) (X := X) (Z := rz2 X c (X 75 c)) J (fun Q => ?_) S1 (fun x j h => f x j (by omega)) (fun Q => ?_) (fun x j h _ _ _ => ?_) (fun J1 => ⟨PV_raze3 J1.W hc (f72.trans h3'), ?_, ?_⟩)
      · rw [e69 J.S, hx, ha]
      · rw [e133 S1 (fun _ _ => by rw [f75]; exact mc.1), hz, ha, f72, kc]
      · unfold rz2
        rw [up_at, if_neg (by omega), up_at, if_neg (by omega), up_at, if_neg (by omega)]
      · have pr := PR_raze3 J1.P J1.W hc (f72.trans h3')
        rw [f75] at pr
        rw [← hX] at pr
        rw [f75]
        exact pr
      · rw [hX]
        exact ZP_clr (ZP_clr J.Z)
    · have h3' : ¬ m 72 c = 3 := by rw [← kc]; exact h3
      have hx : xRaze m c = clr m 9 c := by
        unfold xRaze
        rw [if_pos hc, if_neg h3]
      have S1 : Sh (clr m 9 c) := Sh_clr9 J.S
      have f : ∀ x j, ¬ (10 ≤ x ∧ x ≤ 14) → clr m 9 c x j = m x j := fun x j h => clr_f (by omega)
      have f72 := f 72 c (by decide)
      have hz : mRaze (clr m 9 c) c = up (up (clr m 9 c) 72 c 0) 76 c 0 := by
        unfold mRaze
        rw [if_pos hc, if_neg (fun y => h3' (f72.symm.trans y))]
      refine CALL_pl (v := (0, m 10 c)) (X := clr m 9 c) (Z := up (up (clr m 9 c) 72 c 0) 76 c 0) J (fun Q => ?_) S1 (fun x j h => f x j (by omega)) (fun Q => ?_) (fun x j h _ _ _ => by rw [up_at, if_neg (by omega), up_at, if_neg (by omega)]) (fun J1 => ⟨PV_clear J1.W hc (fun y => h3' (f72.symm.trans y)), PR_clr J1.P hc, ZP_clr J.Z⟩)
      · rw [e69 J.S, hx, ha]
      · rw [e133 S1 (fun _ y => absurd (f72.symm.trans y) h3'), hz, ha, f72, kc]
  · have hx : xRaze m c = rf m 3 1 := if_neg hc
    have ha : ∀ u, aRaze c u = -1 := fun u => if_neg hc
    refine CALL_no (v := (0, -1)) (k := 1) J (by decide) (fun Q => ?_) (fun SA fA Q => ?_)
    · rw [e69 J.S, hx, ha]
    · have hz : mRaze (rf m 3 1) c = rf (rf m 3 1) 71 1 := if_neg hc
      rw [e133 SA (fun y => absurd y hc), hz, ha]
theorem call_cords (J : JS ds m m n) : CALL 67 130 [(2, 0), (0, c1), (0, s1), (0, c2), (0, s2), (3, 0)] [(2, 70), (0, c1), (0, s1), (0, c2), (0, s2)] ds m n := by
  obtain ⟨tl, rfl⟩ := J.Dt
  by_cases hc : isC c1 ∧ isC c2
  · have k1 := J.P.k c1 hc.1
    have b1 := J.P.b c1 hc.1
    have k2 := J.P.k c2 hc.2
    have b2 := J.P.b c2 hc.2
    simp only [Int.reduceAdd] at k1 b1 k2 b2
    by_cases hp : okS s1 ∧ okS s2 ∧ ¬ c1 = c2 ∧ (m 10 c1 = 0 ∧ m 14 c1 = 0) ∧ (m 10 c2 = 0 ∧ m 14 c2 = 0)
    · have hx : xCord m c1 s1 c2 s2 = xcr m c1 s1 c2 s2 := by
        unfold xCord xcr
        rw [if_pos hc, if_pos hp]
      have ha : aCord c1 s1 c2 s2 (m 10 c1 = 0 ∧ m 14 c1 = 0) (m 10 c2 = 0 ∧ m 14 c2 = 0) = 1 := by
        unfold aCord
        rw [if_pos hc, if_pos hp]
      have f : ∀ x j, ¬ (10 ≤ x ∧ x ≤ 13) → xcr m c1 s1 c2 s2 x j = m x j := fun x j h => xcr_f h
      have S1 : Sh (xcr m c1 s1 c2 s2) := by
        unfold xcr plc
        exact Sh_ar (Sh_ar (Sh_ar (Sh_ar (Sh_ar (Sh_ar (Sh_ar (Sh_ar J.S (by decide)) (by decide)) (by decide)) (by decide)) (by decide)) (by decide)) (by decide)) (by decide)
      have fk1 := f 72 c1 (by decide)
      have fk2 := f 72 c2 (by decide)
      have fb1 := f 76 c1 (by decide)
      have fb2 := f 76 c2 (by decide)
      have zx : ZP (xcr m c1 s1 c2 s2) 9 := by
        unfold xcr
        exact ZP_up (ZP_plc (ZP_up (ZP_plc J.Z (Or.inl (by decide))) (by decide)) (Or.inl (by decide))) (by decide)
      have pr := fun (Y : Mm) (P : PR m 9 Y) => PR_crd (c1 := c1) (s1 := s1) (c2 := c2) (s2 := s2) P
      obtain ⟨X, hX⟩ : ∃ X, X = xcr m c1 s1 c2 s2 := ⟨_, rfl⟩
      rw [← hX] at hx f S1 fk1 fk2 fb1 fb2 zx pr
      have hp2 : okS s1 ∧ okS s2 ∧ ¬ c1 = c2 ∧ (X 72 c1 = 0 ∧ X 76 c1 = 0) ∧ (X 72 c2 = 0 ∧ X 76 c2 = 0) := by
        rw [fk1, fk2, fb1, fb2, ← k1, ← k2, ← b1, ← b2]
        exact hp
      have hz : mCord X c1 s1 c2 s2 = crd X c1 s1 c2 s2 := by
        unfold mCord crd
        rw [if_pos hc, if_pos hp2]
      have ha2 : aCord c1 s1 c2 s2 (X 72 c1 = 0 ∧ X 76 c1 = 0) (X 72 c2 = 0 ∧ X 76 c2 = 0) = 1 := by
        unfold aCord
        rw [if_pos hc, if_pos hp2]
      refine CALL_pl (v := (0, 1)) (X := X) (Z := crd X c1 s1 c2 s2) J (fun Q => ?_) S1 (fun x j h => f x j (by omega)) (fun Q => ?_) (fun x j h _ _ _ => crd_f (by omega)) (fun J1 => ⟨WG_crd J1.W hc.1 hc.2 hp2.1 hp2.2.1 hp2.2.2.1 hp2.2.2.2.1 hp2.2.2.2.2, pr X J1.P, zx⟩)
      · rw [e67 J.S, hx, ha]
      · rw [e130 S1, hz, ha2]
    · have hx : xCord m c1 s1 c2 s2 = rf m 3 6 := by
        unfold xCord
        rw [if_pos hc, if_neg hp]
      have ha : aCord c1 s1 c2 s2 (m 10 c1 = 0 ∧ m 14 c1 = 0) (m 10 c2 = 0 ∧ m 14 c2 = 0) = -6 := by
        unfold aCord
        rw [if_pos hc, if_neg hp]
      refine CALL_no (v := (0, -6)) (k := 6) J (by decide) (fun Q => ?_) (fun SA fA Q => ?_)
      · rw [e67 J.S, hx, ha]
      · have hp2 : ¬ (okS s1 ∧ okS s2 ∧ ¬ c1 = c2 ∧ (rf m 3 6 72 c1 = 0 ∧ rf m 3 6 76 c1 = 0) ∧ (rf m 3 6 72 c2 = 0 ∧ rf m 3 6 76 c2 = 0)) := by
          rw [fA 72 c1 (by decide), fA 76 c1 (by decide), fA 72 c2 (by decide), fA 76 c2 (by decide), ← k1, ← k2, ← b1, ← b2]
          exact hp
        have hz : mCord (rf m 3 6) c1 s1 c2 s2 = rf (rf m 3 6) 71 6 := by
          unfold mCord
          rw [if_pos hc, if_neg hp2]
        have ha2 : aCord c1 s1 c2 s2 (rf m 3 6 72 c1 = 0 ∧ rf m 3 6 76 c1 = 0) (rf m 3 6 72 c2 = 0 ∧ rf m 3 6 76 c2 = 0) = -6 := by
          unfold aCord
          rw [if_pos hc, if_neg hp2]
        rw [e130 SA, hz, ha2]
  · have hx : xCord m c1 s1 c2 s2 = rf m 3 1 := if_neg hc
    refine CALL_no (v := (0, -1)) (k := 1) J (by decide) (fun Q => ?_) (fun SA fA Q => ?_)
    · have ha : aCord c1 s1 c2 s2 (m 10 c1 = 0 ∧ m 14 c1 = 0) (m 10 c2 = 0 ∧ m 14 c2 = 0) = -1 := if_neg hc
      rw [e67 J.S, hx, ha]
    · have hz : mCord (rf m 3 1) c1 s1 c2 s2 = rf (rf m 3 1) 71 1 := if_neg hc
      have ha2 : aCord c1 s1 c2 s2 (rf m 3 1 72 c1 = 0 ∧ rf m 3 1 76 c1 = 0) (rf m 3 1 72 c2 = 0 ∧ rf m 3 1 76 c2 = 0) = -1 := if_neg hc
      rw [e130 SA, hz, ha2]
theorem call_start (J : JS ds m m n) : CALL 70 134 [(2, 0), (0, c), (0, s), (0, t)] [(2, 70), (0, c), (0, s), (0, t)] ds m n := by
  obtain ⟨tl, rfl⟩ := J.Dt
  have sn := J.W.v.n
  have sc := J.P.s
  have sn9 : 0 ≤ m 9 8 ∧ m 9 8 ≤ 4 := by rw [sc]; exact sn
  by_cases hc : isC c
  · by_cases hp : okS s ∧ 0 ≤ t ∧ t ≤ 99
    · by_cases hn : m 9 8 < 4
      · have hx : xStart m c s t = adS m 9 c s t := by
          unfold xStart
          rw [if_pos hc, if_pos hp, if_pos hn]
        have ha : aStart c s t (m 9 8) = m 9 8 + 1 := by
          unfold aStart
          rw [if_pos hc, if_pos hp, if_pos hn]
        have S1 : Sh (adS m 9 c s t) := Sh.up (Sh_ar (Sh_ar (Sh_ar J.S (by decide)) (by decide)) (by decide)) (by decide)
        have f : ∀ x j, ¬ (9 ≤ x ∧ x ≤ 17) → adS m 9 c s t x j = m x j := fun x j h => by
          unfold adS
          rw [up_at, if_neg (by omega), up_at, if_neg (by omega), up_at, if_neg (by omega), up_at, if_neg (by omega)]
        have f6 := f 70 6 (by decide)
        have zx : ZP (adS m 9 c s t) 9 := by
          unfold adS
          exact ZP_up (ZP_up (ZP_up (ZP_up J.Z (by decide)) (by decide)) (by decide)) (by decide)
        have pr := fun (Y : Mm) (P : PR m 9 Y) => PR_yst (c := c) (s := s) (t := t) P
        obtain ⟨X, hX⟩ : ∃ X, X = adS m 9 c s t := ⟨_, rfl⟩
        rw [← hX] at hx f S1 f6 zx pr
        have hn2 : X 70 6 < 4 := by rw [f6, ← sc]; exact hn
        have hz : mStart X c s t = yst X c s t := by
          unfold mStart yst
          rw [if_pos hc, if_pos hp, if_pos hn2]
        have ha2 : aStart c s t (X 70 6) = m 9 8 + 1 := by
          unfold aStart
          rw [if_pos hc, if_pos hp, if_pos hn2, f6, sc]
        refine CALL_pl (v := (0, m 9 8 + 1)) (X := X) (Z := yst X c s t) J (fun Q => ?_) S1 (fun x j h => f x j (by omega)) (fun Q => ?_) (fun x j h h2 _ _ => yst_f (by omega) h2) (fun J1 => ⟨WG_yst J1.W hc hp.1 hp.2 hn2, pr X J1.P, zx⟩)
        · rw [e70 J.S sn9, hx, ha]
        · rw [e134 S1 (by rw [f6]; exact sn), hz, ha2]
      · have hx : xStart m c s t = rf m 3 7 := by
          unfold xStart
          rw [if_pos hc, if_pos hp, if_neg hn]
        have ha : aStart c s t (m 9 8) = -7 := by
          unfold aStart
          rw [if_pos hc, if_pos hp, if_neg hn]
        refine CALL_no (v := (0, -7)) (k := 7) J (by decide) (fun Q => ?_) (fun SA fA Q => ?_)
        · rw [e70 J.S sn9, hx, ha]
        · have f6 : rf m 3 7 70 6 = m 9 8 := by rw [fA 70 6 (by decide), sc]
          have hz : mStart (rf m 3 7) c s t = rf (rf m 3 7) 71 7 := by
            unfold mStart
            rw [if_pos hc, if_pos hp, if_neg (by rw [f6]; exact hn)]
          rw [e134 SA (by rw [f6]; exact sn9), hz, f6, ha]
    · have hx : xStart m c s t = rf m 3 6 := by
        unfold xStart
        rw [if_pos hc, if_neg hp]
      have ha : aStart c s t (m 9 8) = -6 := by
        unfold aStart
        rw [if_pos hc, if_neg hp]
      refine CALL_no (v := (0, -6)) (k := 6) J (by decide) (fun Q => ?_) (fun SA fA Q => ?_)
      · rw [e70 J.S sn9, hx, ha]
      · have f6 : rf m 3 6 70 6 = m 9 8 := by rw [fA 70 6 (by decide), sc]
        have hz : mStart (rf m 3 6) c s t = rf (rf m 3 6) 71 6 := by
          unfold mStart
          rw [if_pos hc, if_neg hp]
        rw [e134 SA (by rw [f6]; exact sn9), hz, f6, ha]
  · have hx : xStart m c s t = rf m 3 1 := if_neg hc
    have ha : aStart c s t (m 9 8) = -1 := if_neg hc
    refine CALL_no (v := (0, -1)) (k := 1) J (by decide) (fun Q => ?_) (fun SA fA Q => ?_)
    · rw [e70 J.S sn9, hx, ha]
    · have f6 : rf m 3 1 70 6 = m 9 8 := by rw [fA 70 6 (by decide), sc]
      have hz : mStart (rf m 3 1) c s t = rf (rf m 3 1) 71 1 := if_neg hc
      rw [e134 SA (by rw [f6]; exact sn9), hz, f6, ha]
theorem call_noStarts (J : JS ds m m n) : CALL 71 135 [(2, 0), (3, 0)] [(2, 70), (3, 0)] ds m n := by
  obtain ⟨tl, rfl⟩ := J.Dt
  have S1 : Sh (up m 9 8 0) := Sh.up J.S (by decide)
  have f6 : up m 9 8 0 70 6 = m 9 8 := J.P.s.symm
  refine CALL_pl (v := (0, m 9 8)) (X := up m 9 8 0) (Z := up (up m 9 8 0) 70 6 0) J (fun Q => e71 J.S) S1 (fun x j h => by rw [up_at, if_neg (by omega)]) (fun Q => ?_) (fun x j _ h _ _ => by rw [up_at, if_neg h]) (fun J1 => ⟨WG_s0 J1.W, PR_s0 J1.P, ZP_up J.Z (by decide)⟩)
  rw [e135 S1, f6]
theorem call_at (J : JS ds m m n) : CALL 72 138 [(2, 0), (0, c), (0, w)] [(2, 70), (0, c), (0, w)] ds m n := by
  obtain ⟨tl, rfl⟩ := J.Dt
  refine CALL_rd J (fun Q => e72 J.S) (fun Q => ?_)
  rw [e138 J.W.S]
  refine q_eq ?_
  unfold mAt xAt
  by_cases hc : isC c
  · have kc := J.P.k c hc
    have bc := J.P.b c hc
    have ac := J.P.a c hc
    have oc := J.P.o c hc
    have zc := J.Z c hc
    simp only [Int.reduceAdd] at kc bc ac oc zc
    rw [if_pos hc, if_pos hc]
    by_cases hw : 0 ≤ w ∧ w ≤ 4
    · have h : w = 0 ∨ w = 1 ∨ w = 2 ∨ w = 3 ∨ w = 4 := by omega
      rw [kc] at zc ⊢
      rw [bc]
      by_cases k0 : m 72 c = 0
      · have z := zc k0
        rcases h with rfl | rfl | rfl | rfl | rfl <;> simp only [k0, z.1, z.2, b2_T, b2_F, Int.reduceEq, Int.reduceLT, Int.reduceLE, Int.reduceAdd, Int.reduceSub, Int.reduceMul, Int.reduceNeg, reduceIte, if_true, if_false, true_or, or_true, false_or, or_false, false_and, and_false, eq_self, not_false_eq_true, not_true_eq_false, true_and, and_true, List.cons_append, List.nil_append, List.append_nil, b2_0, b2_1, b2_01, Classical.not_not]
      · have a2 := ac k0
        by_cases k3 : m 72 c = 3
        · have o2 := oc k3
          rcases h with rfl | rfl | rfl | rfl | rfl <;> simp only [k3, a2.1, a2.2, o2, b2_T, b2_F, Int.reduceEq, Int.reduceLT, Int.reduceLE, Int.reduceAdd, Int.reduceSub, Int.reduceMul, Int.reduceNeg, reduceIte, if_true, if_false, true_or, or_true, false_or, or_false, false_and, and_false, eq_self, not_false_eq_true, not_true_eq_false, true_and, and_true, List.cons_append, List.nil_append, List.append_nil, b2_0, b2_1, b2_01, Classical.not_not]
        · rcases h with rfl | rfl | rfl | rfl | rfl <;> simp only [k0, k3, a2.1, a2.2, b2_T, b2_F, Int.reduceEq, Int.reduceLT, Int.reduceLE, Int.reduceAdd, Int.reduceSub, Int.reduceMul, Int.reduceNeg, reduceIte, if_true, if_false, true_or, or_true, false_or, or_false, false_and, and_false, eq_self, not_false_eq_true, not_true_eq_false, true_and, and_true, List.cons_append, List.nil_append, List.append_nil, b2_0, b2_1, b2_01, Classical.not_not]
    · have w0 : ¬ w = 0 := by omega
      have w1 : ¬ w = 1 := by omega
      have w2 : ¬ w = 2 := by omega
      have w3 : ¬ w = 3 := by omega
      have w4 : ¬ w = 4 := by omega
      have w5 : ¬ (0 ≤ w ∧ w ≤ 2) := by omega
      rw [if_neg w3, if_neg w4, if_neg w5, if_neg w0, if_neg w1, if_neg w2, if_neg w3, if_neg w4]
  · rw [if_neg hc, if_neg hc]
end CALLS4
