/-! a plan with one piece moved is a plan -/
section MOVED
variable {Y g h : Mm} {p q c k a b s o t v i j d : Int}
theorem PV_mPc (pv : PV Y) (hc : isC c) (ho : isC o) (hco : ¬ c = o) (hk : ¬ Y 72 c = 0) (hb : Y 76 c = 0) (hf : Y 72 o = 0 ∧ Y 76 o = 0) : PV (mPc Y c o) := by
  have e6 : ∀ j, mPc Y c o 76 j = Y 76 j := fun j => mPc_f (by decide)
  have ex : ∀ u, Y 72 u = 3 → ¬ u = o := fun u hu hx => by
    rw [hx] at hu
    omega
  intro d hd
  by_cases h1 : d = c
  · subst h1
    have e2 : mPc Y d o 72 d = 0 := by rw [mPc_72 hco, if_pos rfl]
    refine ⟨by rw [e2]; decide, ?_, ?_, ?_, ?_, ?_, ?_, by rw [e6]; exact Or.inl hb, ?_, ?_⟩
    all_goals rw [e2]
    · exact fun y => absurd y (by decide)
    · exact fun y => absurd y (by decide)
    · exact fun y => absurd y (by decide)
    · exact fun y => absurd y (by decide)
    · exact fun y => absurd y (by decide)
    · exact fun y => absurd y (by decide)
    · exact fun _ => Or.inl rfl
    · exact fun y => absurd y (by decide)
  · by_cases h2 : d = o
    · subst h2
      have e2 : mPc Y c d 72 d = Y 72 c := by rw [mPc_72 hco, if_neg h1, if_pos rfl]
      have e3 : mPc Y c d 73 d = Y 73 c := by rw [mPc_73, if_pos rfl]
      have e4 : mPc Y c d 74 d = Y 74 c := by rw [mPc_74, if_pos rfl]
      have p := pv c hc
      refine ⟨by rw [e2]; exact p.k, by rw [e2, e3]; exact p.a1, by rw [e2, e3]; exact p.a4, ?_, by rw [e2, e4]; exact p.bt, by rw [e2, e4]; exact p.bb, by rw [e2, e3]; exact p.e, by rw [e6]; exact Or.inl hf.2, ?_, ?_⟩
      · rw [e2]
        intro h3
        have ma := p.ma h3
        have m3 := ma.2.1
        have e5 : mPc Y c d 75 d = Y 75 c := by
          rw [mPc_75, if_neg (fun y => ex _ m3 y.2.symm), if_pos rfl]
        rw [e5]
        refine ⟨ma.1, ?_, ?_, ex _ m3⟩
        · rw [mPc_72 hco, if_neg ma.2.2.2, if_neg (ex _ m3)]
          exact m3
        · rw [mPc_75, if_pos ⟨h3, rfl⟩]
      · rw [e6]
        intro y
        rw [hf.2] at y
        exact absurd y (by decide)
      · rw [e6]
        exact fun _ => hf.2
    · have e2 : mPc Y c o 72 d = Y 72 d := by rw [mPc_72 hco, if_neg h1, if_neg h2]
      have e3 : mPc Y c o 73 d = Y 73 d := by rw [mPc_73, if_neg h2]
      have e4 : mPc Y c o 74 d = Y 74 d := by rw [mPc_74, if_neg h2]
      have p := pv d hd
      refine ⟨by rw [e2]; exact p.k, by rw [e2, e3]; exact p.a1, by rw [e2, e3]; exact p.a4, ?_, by rw [e2, e4]; exact p.bt, by rw [e2, e4]; exact p.bb, by rw [e2, e3]; exact p.e, by rw [e6]; exact p.l, by rw [e6, e2]; exact p.o, by rw [e6, e2]; exact p.z3⟩
      rw [e2]
      intro h3
      have ma := p.ma h3
      by_cases h4 : Y 72 c = 3 ∧ d = Y 75 c
      · have e5 : mPc Y c o 75 d = o := by rw [mPc_75, if_pos h4]
        rw [e5]
        refine ⟨ho, ?_, ?_, fun y => h2 y.symm⟩
        · rw [mPc_72 hco, if_neg (fun y => hco y.symm), if_pos rfl]
          exact h4.1
        · rw [mPc_75, if_neg (fun y => h2 (h4.2.trans y.2.symm)), if_pos rfl]
          exact h4.2.symm
      · have e5 : mPc Y c o 75 d = Y 75 d := by rw [mPc_75, if_neg h4, if_neg h2]
        rw [e5]
        have u1 : ¬ Y 75 d = c := fun y => by
          apply h4
          have y1 := ma.2.1
          have y2 := ma.2.2.1
          rw [y] at y1 y2
          exact ⟨y1, y2.symm⟩
        have u2 := ex _ ma.2.1
        refine ⟨ma.1, ?_, ?_, ma.2.2.2⟩
        · rw [mPc_72 hco, if_neg u1, if_neg u2]
          exact ma.2.1
        · rw [mPc_75, if_neg ?_, if_neg u2]
          · exact ma.2.2.1
          · intro y
            have z := ((pv c hc).ma y.1).2.2.1
            rw [← y.2, ma.2.2.1] at z
            exact h1 z
theorem PV_bm (pv : PV Y) (hc : isC c) (ho : isC o) (hco : ¬ c = o) (hf : Y 72 o = 0 ∧ Y 76 o = 0) : PV (up (up Y 76 c 0) 76 o 1) := by
  have e : ∀ x j, ¬ x = 76 → up (up Y 76 c 0) 76 o 1 x j = Y x j := fun x j h => by rw [up_at, if_neg (fun y => h y.1), up_at, if_neg (fun y => h y.1)]
  have e6 : ∀ j, up (up Y 76 c 0) 76 o 1 76 j = if j = o then 1 else if j = c then 0 else Y 76 j := fun j => by simp only [up_at, b2_T, b2_F, Int.reduceEq, Int.reduceLT, Int.reduceLE, Int.reduceAdd, Int.reduceSub, Int.reduceMul, Int.reduceNeg, reduceIte, if_true, if_false, true_or, or_true, false_or, or_false, false_and, and_false, eq_self, not_false_eq_true, not_true_eq_false, true_and, and_true, List.cons_append, List.nil_append, List.append_nil, b2_0, b2_1, b2_01, Classical.not_not]
  intro d hd
  have p := pv d hd
  refine ⟨?_, ?_, ?_, ?_, ?_, ?_, ?_, ?_, ?_, ?_⟩
  · rw [e 72 d (by decide)]; exact p.k
  · rw [e 72 d (by decide), e 73 d (by decide)]; exact p.a1
  · rw [e 72 d (by decide), e 73 d (by decide)]; exact p.a4
  · rw [e 72 d (by decide), e 75 d (by decide), e 72 _ (by decide), e 75 _ (by decide)]; exact p.ma
  · rw [e 72 d (by decide), e 74 d (by decide)]; exact p.bt
  · rw [e 72 d (by decide), e 74 d (by decide)]; exact p.bb
  · rw [e 72 d (by decide), e 73 d (by decide)]; exact p.e
  · rw [e6]
    split
    · exact Or.inr rfl
    · split
      · exact Or.inl rfl
      · exact p.l
  · rw [e6, e 72 d (by decide)]
    split
    · rename_i h
      intro _
      left
      rw [h]; exact hf.1
    · split
      · exact fun y => absurd y (by decide)
      · exact p.o
  · rw [e6, e 72 d (by decide)]
    intro h3
    have z := p.z3 h3
    rw [if_neg (fun y => by rw [y] at h3; omega)]
    split
    · rfl
    · exact z
theorem WG_mv (W : WG Y) (hc : isC c) (ho : isC o) (hco : ¬ c = o) (hm : ¬ Y 76 c = 0 ∨ ¬ Y 72 c = 0) (hf : Y 72 o = 0 ∧ Y 76 o = 0) : WG (mvG Y c o) := by
  unfold mvG
  by_cases h1 : Y 76 c = 0
  · rw [if_neg (not_not_intro h1)]
    have hk := hm.resolve_left (fun y => y h1)
    refine ⟨?_, PV_mPc W.p hc ho hco hk h1 hf, SV_cg W.v (fun x j _ _ => mPc_f (by omega)) (mPc_f (by decide)), fun d hd => ?_⟩
    · unfold mPc
      try dsimp only
      have S1 : Sh (up (up (up (up (up Y 72 o (Y 72 c)) 73 o (Y 73 c)) 74 o (Y 74 c)) 75 o (Y 75 c)) 72 c 0) := Sh_ar (Sh_ar (Sh_ar (Sh_ar (Sh_ar W.S (by decide)) (by decide)) (by decide)) (by decide)) (by decide)
      split
      · exact Sh_ar S1 (by decide)
      · exact S1
    · rw [mPc_72 hco, mPc_73, mPc_74]
      by_cases h2 : d = c
      · rw [if_pos h2]
        exact fun y => absurd rfl y
      · rw [if_neg h2]
        by_cases h3 : d = o
        · rw [if_pos h3, if_pos h3, if_pos h3]
          exact W.n c hc
        · rw [if_neg h3, if_neg h3, if_neg h3]
          exact W.n d hd
  · rw [if_pos h1]
    have e : ∀ x j, ¬ x = 76 → up (up Y 76 c 0) 76 o 1 x j = Y x j := fun x j h => by rw [up_at, if_neg (fun y => h y.1), up_at, if_neg (fun y => h y.1)]
    exact ⟨Sh_ar (Sh_ar W.S (by decide)) (by decide), PV_bm W.p hc ho hco hf, SV_cg W.v (fun x j _ _ => e x j (by omega)) (e 70 6 (by decide)), PN_cg W.n (fun x j _ _ => e x j (by omega))⟩
theorem PE_mPc (E : PE g h) (hc : isC c) (hco : ¬ c = o) (hk : ¬ g 72 c = 0) : PE (mPc g c o) (mPc h c o) := by
  have a := E.a c hc hk
  have kc := E.k c hc
  have hf : ∀ x j (q : Mm), ¬ (72 ≤ x ∧ x ≤ 75) → mPc q c o x j = q x j := fun x j q h => mPc_f h
  refine ⟨fun d hd => ?_, fun d hd => ?_, fun d hd => ?_, fun d hd => ?_, ?_, fun y y0 => ?_⟩
  · rw [mPc_72 hco, mPc_72 hco, E.k d hd, kc]
  · rw [mPc_72 hco, mPc_73, mPc_73, mPc_74, mPc_74]
    by_cases h1 : d = c
    · rw [if_pos h1]
      exact fun y => absurd rfl y
    · rw [if_neg h1]
      by_cases h2 : d = o
      · rw [if_pos h2, if_pos h2, if_pos h2, if_pos h2, if_pos h2]
        exact fun _ => a
      · rw [if_neg h2, if_neg h2, if_neg h2, if_neg h2, if_neg h2]
        exact E.a d hd
  · rw [mPc_72 hco, mPc_75, mPc_75, kc]
    by_cases h1 : d = c
    · rw [if_pos h1]
      exact fun y => absurd y (by decide)
    · rw [if_neg h1]
      by_cases h5 : g 72 c = 3
      · rw [E.o c hc h5]
        by_cases h2 : d = o
        · rw [if_pos h2]
          intro _
          by_cases h6 : g 72 c = 3 ∧ d = g 75 c
          · rw [if_pos h6, if_pos h6]
          · rw [if_neg h6, if_neg h6, if_pos h2, if_pos h2]
        · rw [if_neg h2, if_neg h2, if_neg h2]
          intro h3
          by_cases h6 : g 72 c = 3 ∧ d = g 75 c
          · rw [if_pos h6, if_pos h6]
          · rw [if_neg h6, if_neg h6]
            exact E.o d hd h3
      · simp only [h5, b2_T, b2_F, Int.reduceEq, Int.reduceLT, Int.reduceLE, Int.reduceAdd, Int.reduceSub, Int.reduceMul, Int.reduceNeg, reduceIte, if_true, if_false, true_or, or_true, false_or, or_false, false_and, and_false, eq_self, not_false_eq_true, not_true_eq_false, true_and, and_true, List.cons_append, List.nil_append, List.append_nil, b2_0, b2_1, b2_01, Classical.not_not]
        by_cases h2 : d = o
        · rw [if_pos h2]
          exact fun y => absurd y h5
        · rw [if_neg h2, if_neg h2, if_neg h2]
          exact E.o d hd
  · rw [hf _ _ _ (by decide), hf _ _ _ (by decide)]; exact E.b d hd
  · rw [hf _ _ _ (by decide), hf _ _ _ (by decide)]; exact E.s
  · rw [hf _ _ _ (by decide), hf _ _ _ (by decide), hf _ _ _ (by decide), hf _ _ _ (by decide), hf _ _ _ (by decide), hf _ _ _ (by decide), hf _ _ _ (by decide)]
    exact E.t y y0
theorem PE_up (E : PE g h) : PE (up g 76 c v) (up h 76 c v) := by
  have f : ∀ (q : Mm) x j, ¬ x = 76 → up q 76 c v x j = q x j := fun q x j h => by rw [up_at, if_neg (fun y => h y.1)]
  refine ⟨fun d hd => ?_, fun d hd => ?_, fun d hd => ?_, fun d hd => ?_, ?_, fun y y0 => ?_⟩
  · rw [f _ _ _ (by decide), f _ _ _ (by decide)]; exact E.k d hd
  · rw [f g 72 d (by decide), f g 73 d (by decide), f g 74 d (by decide), f h 73 d (by decide), f h 74 d (by decide)]; exact E.a d hd
  · rw [f g 72 d (by decide), f g 75 d (by decide), f h 75 d (by decide)]; exact E.o d hd
  · simp only [up_at, b2_T, b2_F, Int.reduceEq, Int.reduceLT, Int.reduceLE, Int.reduceAdd, Int.reduceSub, Int.reduceMul, Int.reduceNeg, reduceIte, if_true, if_false, true_or, or_true, false_or, or_false, false_and, and_false, eq_self, not_false_eq_true, not_true_eq_false, true_and, and_true, List.cons_append, List.nil_append, List.append_nil, b2_0, b2_1, b2_01, Classical.not_not]
    rw [E.b d hd]
  · exact E.s
  · exact E.t y y0
theorem PE_mv (E : PE g h) (hc : isC c) (hco : ¬ c = o) (hm : ¬ g 76 c = 0 ∨ ¬ g 72 c = 0) : PE (mvG g c o) (mvG h c o) := by
  unfold mvG
  rw [E.b c hc]
  by_cases h1 : g 76 c = 0
  · rw [if_neg (not_not_intro h1), if_neg (not_not_intro h1)]
    exact PE_mPc E hc hco (hm.resolve_left (fun y => y h1))
  · rw [if_pos h1, if_pos h1]
    exact PE_up (PE_up E)
/-- there and back -/
theorem PE_back (pv : PV Y) (hc : isC c) (ho : isC o) (hco : ¬ c = o) (hk : ¬ Y 72 c = 0) (hf : Y 72 o = 0) : PE Y (mPc (mPc Y c o) o c) := by
  have hoc : ¬ o = c := fun y => hco y.symm
  have k2 : mPc Y c o 72 o = Y 72 c := by rw [mPc_72 hco, if_neg hoc, if_pos rfl]
  have hf2 : ∀ x j, ¬ (72 ≤ x ∧ x ≤ 75) → mPc (mPc Y c o) o c x j = Y x j := fun x j h => by rw [mPc_f h, mPc_f h]
  have ex : ∀ u, Y 72 u = 3 → ¬ u = o := fun u hu hx => by
    rw [hx] at hu
    omega
  refine ⟨fun d hd => ?_, fun d hd => ?_, fun d hd => ?_, fun d hd => hf2 _ _ (by decide), hf2 _ _ (by decide), fun y _ _ => ⟨hf2 _ _ (by decide), hf2 _ _ (by decide), hf2 _ _ (by decide)⟩⟩
  · rw [mPc_72 hoc, k2, mPc_72 hco]
    by_cases h1 : d = o
    · rw [if_pos h1, h1, hf]
    · rw [if_neg h1]
      by_cases h2 : d = c
      · rw [if_pos h2, h2]
      · rw [if_neg h2, if_neg h2, if_neg h1]
  · intro hkd
    have h1 : ¬ d = o := fun y => hkd (by rw [y]; exact hf)
    rw [mPc_73, mPc_74, mPc_73, mPc_74, mPc_73, mPc_74, if_pos rfl, if_pos rfl]
    by_cases h2 : d = c
    · rw [if_pos h2, if_pos h2, h2]
      exact ⟨rfl, rfl⟩
    · rw [if_neg h2, if_neg h2, if_neg h1, if_neg h1]
      exact ⟨rfl, rfl⟩
  · intro h3
    have h1 : ¬ d = o := ex d h3
    have o75 : mPc Y c o 75 o = Y 75 c := by
      by_cases h5 : Y 72 c = 3
      · have m3 := ((pv c hc).ma h5).2.1
        rw [mPc_75, if_neg (fun y => ex _ m3 y.2.symm), if_pos rfl]
      · rw [mPc_75, if_neg (fun y => h5 y.1), if_pos rfl]
    rw [mPc_75, k2, o75]
    by_cases h5 : Y 72 c = 3 ∧ d = Y 75 c
    · rw [if_pos h5, h5.2]
      exact ((pv c hc).ma h5.1).2.2.1.symm
    · rw [if_neg h5]
      by_cases h2 : d = c
      · rw [if_pos h2, h2]
      · rw [if_neg h2, mPc_75, if_neg h5, if_neg h1]
end MOVED
