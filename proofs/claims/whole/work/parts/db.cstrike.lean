/-! a strike in full on both sides -/
def xStr (m : Mm) (r : Int) (g : Mm) (c s k u : Int) : Mm := xHit (xNote m r g c s k (2 * u)) r (mNote g c s k u) c s (cnt g)
section CSTRIKE
variable {tl : Ds} {m h g q : Mm} {Q : Ds → Mm → List MV → Prop} {r p n w v k j c s o f i t l ti wy b u a x : Int}
theorem strike_note (A : GA g n) (hc : isC c) (h1 : ¬ x = 86) (h2 : ¬ x = 87) (h3 : ¬ x = 88) (h4 : ¬ x = 89) (h5 : ¬ x = 90) (h6 : ¬ x = 91) (h7 : ¬ x = 92) (h8 : ¬ x = 70) (h9 : ¬ x = 94) (ha : ¬ x = 93) (hb : ¬ x = 97) (hd : ¬ x = 98) (he : ¬ x = 99) : mStrike g c s k u x j = mNote g c s k u x j := by
  have on := A.on c hc
  by_cases k8 : g 72 c = 8
  · exact hit_8 k8 (by omega) ha
  · have t : ∀ x j, ¬ x = 102 → ¬ x = 101 → ¬ x = 106 → ¬ x = 109 → mTold g c s k u x j = g x j := fun x j => told_f
    have e : mNote g c s k u x j = mTold g c s k u x j := by
      unfold mNote
      rw [if_neg k8]
    rw [e]
    unfold mStrike mHit
    split
    · exact off_f hb hd he
    · split
      · rfl
      · rw [work_fr (by rw [t 72 c (by decide) (by decide) (by decide) (by decide)]; exact k8) h1 h2 h3 h4 h5 h6 h7 h8 h9]
        unfold mTm
        rw [up_at, if_neg (fun y => ha y.1)]
theorem work_94 : mWork g c s i 94 j = g 94 j ∨ mWork g c s i 94 j = 1 := by
  have e0 : mTm g c 94 j = g 94 j := rfl
  have e1 : up (mTm g c) 94 c 1 94 j = g 94 j ∨ up (mTm g c) 94 c 1 94 j = 1 := by
    rw [up_at]
    split
    · right; rfl
    · left; rfl
  unfold mWork mLead mSpl
  repeat' split
  all_goals first | exact Or.inl rfl | exact e1 | (rw [add_f (by decide) (by decide) (by decide) (by decide) (by decide) (by decide) (by decide) (by decide)]; exact e1) | (rw [add_f (by decide) (by decide) (by decide) (by decide) (by decide) (by decide) (by decide) (by decide)]; exact Or.inl rfl) | (rw [sp1_f (by decide) (by decide) (by decide) (by decide) (by decide) (by decide) (by decide) (by decide), sp1_f (by decide) (by decide) (by decide) (by decide) (by decide) (by decide) (by decide) (by decide), sp1_f (by decide) (by decide) (by decide) (by decide) (by decide) (by decide) (by decide) (by decide), sp1_f (by decide) (by decide) (by decide) (by decide) (by decide) (by decide) (by decide) (by decide)]; exact Or.inl rfl) | (rw [ring_f (by decide) (by decide) (by decide) (by decide)]; exact Or.inl rfl)
theorem strike_94 : mStrike g c s k u 94 j = g 94 j ∨ mStrike g c s k u 94 j = 1 := by
  have t : mTold g c s k u 94 j = g 94 j := told_f (by decide) (by decide) (by decide) (by decide)
  unfold mStrike mHit
  split
  · left
    rw [off_f (by decide) (by decide) (by decide), t]
  · split
    · exact Or.inl t
    · have h := work_94 (g := mTold g c s k u) (c := c) (s := s) (i := cnt g) (j := j)
      rw [t] at h
      exact h
theorem ring_104 {y : Int} : mRing g y i 104 j = if g 105 y = 0 ∧ j = y then i else g 104 j := by
  unfold mRing
  by_cases h : g 105 y = 0
  · simp only [h, up_at, b2_T, b2_F, Int.reduceEq, Int.reduceLT, Int.reduceLE, Int.reduceAdd, Int.reduceSub, Int.reduceMul, Int.reduceNeg, reduceIte, if_true, if_false, true_or, or_true, false_or, or_false, false_and, and_false, eq_self, not_false_eq_true, not_true_eq_false, true_and, and_true, List.cons_append, List.nil_append, List.append_nil, b2_0, b2_1, b2_01, Classical.not_not]
  · simp only [h, up_at, b2_T, b2_F, Int.reduceEq, Int.reduceLT, Int.reduceLE, Int.reduceAdd, Int.reduceSub, Int.reduceMul, Int.reduceNeg, reduceIte, if_true, if_false, true_or, or_true, false_or, or_false, false_and, and_false, eq_self, not_false_eq_true, not_true_eq_false, true_and, and_true, List.cons_append, List.nil_append, List.append_nil, b2_0, b2_1, b2_01, Classical.not_not]
theorem note_104 : mNote g c s k u 104 (96 * g 70 45 + j) = if (g 72 c = 8 ∧ g 105 (96 * g 70 45 + c) = 0) ∧ j = c then cnt g else g 104 (96 * g 70 45 + j) := by
  have e1 : ∀ y, mTold g c s k u 104 y = g 104 y := fun y => told_f (by decide) (by decide) (by decide) (by decide)
  have e2 : ∀ y, mTold g c s k u 105 y = g 105 y := fun y => told_f (by decide) (by decide) (by decide) (by decide)
  unfold mNote
  by_cases h8 : g 72 c = 8
  · rw [if_pos h8, ring_104, e1, e2]
    by_cases h : g 105 (96 * g 70 45 + c) = 0
    · by_cases hj : j = c
      · rw [if_pos ⟨h, by rw [hj]⟩, if_pos ⟨⟨h8, h⟩, hj⟩]
      · rw [if_neg (fun x => by omega), if_neg (fun x => hj x.2)]
    · rw [if_neg (fun x => h x.1), if_neg (fun x => h x.1.2)]
  · rw [if_neg h8, if_neg (fun x => h8 x.1.1), e1]
theorem GT_strike (T : GT g) (A : GA g (cnt g)) (hc : isC c) (hu : u = 0 ∨ u = 1) : GT (mStrike g c s k u) := by
  have e45 : mStrike g c s k u 70 45 = g 70 45 := strike_70 (by decide) (by decide)
  have e72 : ∀ j, mStrike g c s k u 72 j = g 72 j := fun j => strike_f (by decide) (by decide) (by decide) (by decide) (by decide) (by decide) (by decide) (by decide) (by decide) (by decide) (by decide) (by decide) (by decide) (by decide) (by decide) (by decide) (by decide) (by decide) (by decide) (by decide)
  have sn : ∀ x j, (x = 102 ∨ x = 103 ∨ x = 104 ∨ x = 105 ∨ x = 106 ∨ x = 109) → mStrike g c s k u x j = mNote g c s k u x j := fun x j hx => strike_note A hc (by omega) (by omega) (by omega) (by omega) (by omega) (by omega) (by omega) (by omega) (by omega) (by omega) (by omega) (by omega) (by omega)
  have ec : cnt (mStrike g c s k u) = cnt g + 1 := strike_n
  have n2 : ∀ i, i < cnt g → mStrike g c s k u 102 (6000 * g 70 45 + 6 * i + 1) = g 102 (6000 * g 70 45 + 6 * i + 1) := fun i hi => by
    rw [sn 102 _ (by decide), note_t (by decide) (by decide) (by decide) (by decide)]
    exact told_o (e := 1) (by decide) hi
  have n3 : mStrike g c s k u 102 (6000 * g 70 45 + 6 * cnt g + 1) = c := by
    rw [sn 102 _ (by decide), note_t (by decide) (by decide) (by decide) (by decide), told_e (e := 1) (by decide)]
    simp only [b2_T, b2_F, Int.reduceEq, Int.reduceLT, Int.reduceLE, Int.reduceAdd, Int.reduceSub, Int.reduceMul, Int.reduceNeg, reduceIte, if_true, if_false, true_or, or_true, false_or, or_false, false_and, and_false, eq_self, not_false_eq_true, not_true_eq_false, true_and, and_true, List.cons_append, List.nil_append, List.append_nil, b2_0, b2_1, b2_01, Classical.not_not]
  refine ⟨fun d hd k0 k7 k9 => ?_, fun d hd => ?_, fun d hd => ?_, fun d hd => ?_, fun d hd => ?_, fun i i0 i1 => ?_, fun d hd => ?_, fun i i0 i1 => ?_⟩
  · rw [e72] at k0 k7 k9
    have t := T.tm d hd k0 k7 k9
    rw [e45, strike_93 hc A, sn 106 _ (by decide), note_t (by decide) (by decide) (by decide) (by decide), told_106]
    by_cases hdc : d = c
    · subst hdc
      have on := A.on d hd
      rw [if_pos ⟨rfl, by omega, k0⟩, if_pos rfl, t]
    · rw [if_neg (fun y => hdc y.1), if_neg hdc, t]
  · have t := T.rg d hd
    have b := A.rg d hd
    have nw := A.nw
    rw [e45, sn 105 _ (by decide), sn 103 _ (by decide), note_105, note_103]
    by_cases h8 : g 72 c = 8 ∧ d = c
    · obtain ⟨h8, hdc⟩ := h8
      subst hdc
      rw [if_pos ⟨h8, rfl⟩]
      by_cases h0 : g 105 (96 * g 70 45 + d) = 0
      · rw [if_pos ⟨⟨h8, h0⟩, rfl⟩]
        constructor
        · intro y; omega
        · intro y; omega
      · rw [if_neg (fun y => h0 y.1.2)]
        constructor
        · intro y; omega
        · intro y; exact absurd (t.2 y) h0
    · rw [if_neg h8, if_neg (fun y => h8 ⟨y.1.1, y.2⟩)]
      exact t
  · have t := T.lo d hd
    rw [e45, sn 109 _ (by decide), note_t (by decide) (by decide) (by decide) (by decide), told_109]
    split
    · split
      · split
        · left; rfl
        · right; rfl
      · right; rfl
    · exact t
  · have t := T.dn d hd
    rcases strike_94 (g := g) (c := c) (s := s) (k := k) (u := u) (j := d) with y | y
    · rw [y]; exact t
    · exact Or.inr y
  · rw [e45, e72, sn 105 _ (by decide), note_105]
    split
    · rename_i h
      intro _
      rw [h.2]; exact h.1
    · exact T.k8 d hd
  · rw [ec] at i1
    rw [e45, e72, sn 105 _ (by decide)]
    by_cases hi : i = cnt g
    · subst hi
      rw [n3, note_105]
      intro h8
      have b := A.rg c hc
      rw [if_pos ⟨h8, rfl⟩]
      omega
    · have h2 : i < cnt g := by omega
      rw [n2 i h2, note_105]
      intro h8
      have t := T.hr i i0 h2 h8
      have lg := (A.lg i i0 h2).1
      have b := A.rg _ lg
      split
      · rename_i h
        have b := A.rg c hc
        omega
      · exact t
  · rw [e45, ec, sn 105 _ (by decide), sn 104 _ (by decide), note_105, note_104]
    by_cases h1 : (g 72 c = 8 ∧ g 105 (96 * g 70 45 + c) = 0) ∧ d = c
    · rw [if_pos h1]
      intro _
      have cn := A.tm c hc
      refine ⟨⟨by omega, by omega⟩, by rw [n3]; exact h1.2.symm, fun i i0 i1 => ?_⟩
      rw [n2 i i1]
      intro h
      have t := T.hr i i0 i1 (by rw [h, h1.2]; exact h1.1.1)
      rw [h, h1.2] at t
      exact t h1.1.2
    · rw [if_neg h1]
      intro h
      have h2 : ¬ g 105 (96 * g 70 45 + d) = 0 := by
        by_cases h3 : g 72 c = 8 ∧ d = c
        · intro y
          apply h1
          rw [h3.2] at y
          exact ⟨⟨h3.1, y⟩, h3.2⟩
        · rw [if_neg h3] at h
          exact h
      have t := T.rs d hd h2
      refine ⟨⟨t.1.1, by omega⟩, ?_, fun i i0 i1 => ?_⟩
      · rw [n2 _ t.1.2]
        exact t.2.1
      · rw [n2 i (by omega)]
        exact t.2.2 i i0 i1
  · rw [ec] at i1
    rw [e45, sn 102 _ (by decide), sn 102 _ (by decide), note_t (by decide) (by decide) (by decide) (by decide), note_t (by decide) (by decide) (by decide) (by decide)]
    by_cases hi : i = cnt g
    · subst hi
      rw [told_e (e := 4) (by decide), told_e (e := 5) (by decide)]
      simp only [b2_T, b2_F, Int.reduceEq, Int.reduceLT, Int.reduceLE, Int.reduceAdd, Int.reduceSub, Int.reduceMul, Int.reduceNeg, reduceIte, if_true, if_false, true_or, or_true, false_or, or_false, false_and, and_false, eq_self, not_false_eq_true, not_true_eq_false, true_and, and_true, List.cons_append, List.nil_append, List.append_nil, b2_0, b2_1, b2_01, Classical.not_not]
      refine ⟨?_, hu⟩
      split
      · exact Or.inl rfl
      · exact Or.inr rfl
    · rw [told_o (e := 4) (by decide) (by omega), told_o (e := 5) (by decide) (by omega)]
      exact T.fl i i0 (by omega)
theorem nsp_95 (hc : isC c) (h : g 93 c = 0) : nsp g ≤ 95 := by
  have e := sm_pt (f := fun c => if g 72 c = 5 ∧ ¬ g 93 c = 0 then 1 else 0) (h := fun y => if y = c then 1 else if g 72 y = 5 ∧ ¬ g 93 y = 0 then 1 else 0) (c := c) (fun y hy => by simp only [hy, if_false]) 96
  have b := sm_b (f := fun y => if y = c then 1 else if g 72 y = 5 ∧ ¬ g 93 y = 0 then 1 else 0) (fun y => by
    split
    · omega
    · split <;> omega) 96
  rw [if_pos ⟨hc.1, hc.2⟩] at e
  simp only [if_true, h, not_true_eq_false, and_false, if_false] at e
  have e2 : nsp g = sm (fun c => if g 72 c = 5 ∧ ¬ g 93 c = 0 then 1 else 0) 96 := rfl
  omega
theorem GA_note (A : GA g (cnt g)) (hn : cnt g < 1000) (hc : isC c) (hs : okS s) (hk : -1 ≤ k ∧ k < cnt g) : GA (mNote g c s k u) (cnt g + 1) := by
  have t : ∀ x j, ¬ x = 102 → ¬ x = 101 → ¬ x = 106 → ¬ x = 109 → mTold g c s k u x j = g x j := fun x j => told_f
  have A1 := GA_told (u := u) A hn hc hs hk
  have rc := A.rc
  have rg := A.rg c hc
  unfold mNote
  split
  · have e : 96 * g 70 45 + c = 96 * mTold g c s k u 70 45 + c := by rw [t 70 45 (by decide) (by decide) (by decide) (by decide)]
    rw [e]
    apply GA_ring A1 hc
    · rw [t 70 45 (by decide) (by decide) (by decide) (by decide), t 105 _ (by decide) (by decide) (by decide) (by decide)]
      omega
    · rw [t 70 45 (by decide) (by decide) (by decide) (by decide), told_101, if_neg (by decide), if_neg (by decide)]
      omega
  · exact A1
theorem FR_note (hr : r = 34 ∨ r = 52) (hc : ¬ c = -1) : FR m (xNote m r g c s k f) r := by
  intro a j h1 h2
  rw [xNote_e hc, log_f (by omega), pre_f (by omega) (by omega) (by omega)]
theorem FR_up (hk : 0 ≤ k ∧ k ≤ 17 ∧ ¬ k = 12) : FR m (up m (r + k) i l) r := fun a j h1 h2 => by
  rw [up_at, if_neg (fun x => h2 (by omega))]
theorem FR_sp1 : FR m (xSp1 m r c s i o) r := by
  unfold xSp1
  split
  · exact FR_refl
  · exact FR_set
theorem FR_hit : FR m (xHit m r g c s i) r := by
  have fp : FR m (xPush m (r + 6) (g 95 c) (opp s) i) r := fun a j h1 h2 => xpush_f (by omega)
  have fs : FR m (xSpl m r c s i) r := by
    unfold xSpl
    exact FR_trans (FR_trans (FR_trans FR_sp1 FR_sp1) FR_sp1) FR_sp1
  have fu : FR m (up m (r + 16) c 1) r := FR_up (by decide)
  unfold xHit
  repeat' split
  all_goals first | exact FR_refl | exact FR_set | exact fp | exact fs | exact fu | exact FR_trans fu FR_set
theorem CS (R : RR m r p g w v) (hr : r = 34 ∨ r = 52) (hp : p = 9 ∨ p = 18) (a : GI g) (T : GT g) (hn : cnt g < 1000) (hc : isC c) (hs : okS s) (hk : -1 ≤ k ∧ k < cnt g) (hu : u = 0 ∨ u = 1) : (∀ (tl : Ds) (Q : Ds → Mm → List MV → Prop), WP 62 0 [(2, r), (0, c), (0, s), (0, k), (0, 2 * u), (3, 0), (3, 0)] [] (dsB ++ tl) m Q = Q (dsB ++ tl) (xNote m r g c s k (2 * u)) [(0, cnt g)]) ∧ (∀ (tl : Ds) (Q : Ds → Mm → List MV → Prop), WP 63 0 [(2, r), (0, c), (0, s), (0, cnt g), (3, 0), (3, 0), (3, 0), (3, 0)] [] (dsB ++ tl) (xNote m r g c s k (2 * u)) Q = Q (dsB ++ tl) (xStr m r g c s k u) []) ∧ RR (xStr m r g c s k u) r p (mStrike g c s k u) w v ∧ FR m (xStr m r g c s k u) r := by
  have cn := a.cn
  have A := a.a
  have hc1 : ¬ c = -1 := by have := hc.1; omega
  have nb := nsp_b (g := g)
  have lc := R.X.lc
  have RN : RR (xNote m r g c s k (2 * u)) r p (mNote g c s k u) w v := RR_note R T hr hp ⟨cn.1, hn⟩ hc hu
  have AN : GA (mNote g c s k u) (cnt g + 1) := GA_note A hn hc hs hk
  have nf : ∀ x j, (x = 70 ∨ (72 ≤ x ∧ x ≤ 79) ∨ (86 ≤ x ∧ x ≤ 99)) → mNote g c s k u x j = g x j := fun x j hx => note_f (by omega) (by omega) (by omega) (by omega) (by omega) (by omega) (by omega)
  have qN : QI (mNote g c s k u) (4 + cnt g + 2 * nsp g) := QI_cg a.q (nf 70 24 (by omega)) (nf 70 25 (by omega)) (fun j => nf 91 j (by omega)) (fun j => nf 92 j (by omega))
  have n106 : mNote g c s k u 106 (96 * mNote g c s k u 70 45 + c) = g 106 (96 * g 70 45 + c) + 1 := by
    rw [nf 70 45 (by omega), note_t (by decide) (by decide) (by decide) (by decide), told_106, if_pos rfl]
  refine ⟨fun tl Q => ?_, fun tl Q => ?_, ?_, ?_⟩
  · have hf : 2 * u = 0 ∨ 2 * u = 2 := by omega
    rcases hr with rfl | rfl
    · rw [e62_34 R hp T A (by omega) (by have := lc; simp only [Int.reduceAdd] at this; omega) hc hs hf]
      have := lc
      simp only [Int.reduceAdd] at this
      rw [this]
    · rw [e62_52 R hp T A (by omega) (by have := lc; simp only [Int.reduceAdd] at this; omega) hc hs hf]
      have := lc
      simp only [Int.reduceAdd] at this
      rw [this]
  · have ro := RN.B.ro
    have rb := sm_b (f := rlf (mNote g c s k u)) rlf_b 96
    have rd : rlc (mNote g c s k u) = sm (rlf (mNote g c s k u)) 96 := rfl
    unfold xStr
    exact e63 RN hr hp AN qN (by omega) (fun k5 h1 => by
      rw [nf 72 c (by omega)] at k5
      rw [n106] at h1
      have t := T.tm c hc (by omega) (by omega) (by omega)
      have := nsp_95 (g := g) hc (by omega)
      omega) hc hs (by omega)
  · by_cases k8 : g 72 c = 8
    · have on := A.on c hc
      have hb : g 95 c = -1 := by omega
      have e : xStr m r g c s k u = xNote m r g c s k (2 * u) := by
        unfold xStr xHit
        rw [nf 95 c (by omega), nf 72 c (by omega), if_neg (not_not_intro hb), k8]
        simp only [b2_T, b2_F, Int.reduceEq, Int.reduceLT, Int.reduceLE, Int.reduceAdd, Int.reduceSub, Int.reduceMul, Int.reduceNeg, reduceIte, if_true, if_false, true_or, or_true, false_or, or_false, false_and, and_false, eq_self, not_false_eq_true, not_true_eq_false, true_and, and_true, List.cons_append, List.nil_append, List.append_nil, b2_0, b2_1, b2_01, Classical.not_not]
      rw [e]
      exact RR_gg RN (fun x j hx => hit_8 k8 hb hx)
    · have eN : mNote g c s k u = mTold g c s k u := if_neg k8
      have t : ∀ x j, ¬ x = 102 → ¬ x = 101 → ¬ x = 106 → ¬ x = 109 → mTold g c s k u x j = g x j := fun x j => told_f
      unfold xStr mStrike
      rw [eN] at RN AN qN n106 ⊢
      refine RR_hit RN hr hp AN qN (by omega) hc hs ?_ ?_ ?_
      · rw [t 72 c (by decide) (by decide) (by decide) (by decide)]; exact k8
      · intro k0 k7 k9
        rw [t 72 c (by decide) (by decide) (by decide) (by decide)] at k0 k7 k9
        rw [n106, t 93 c (by decide) (by decide) (by decide) (by decide), T.tm c hc k0 k7 k9]
      · intro k3
        rw [t 72 c (by decide) (by decide) (by decide) (by decide)] at k3
        have ma := (A.p c hc).ma k3
        rw [t 70 45 (by decide) (by decide) (by decide) (by decide), t 75 c (by decide) (by decide) (by decide) (by decide), told_106, if_neg ma.2.2.2, t 93 _ (by decide) (by decide) (by decide) (by decide), T.tm _ ma.1 (by omega) (by omega) (by omega)]
  · unfold xStr
    exact FR_trans (FR_note hr hc1) FR_hit
end CSTRIKE
