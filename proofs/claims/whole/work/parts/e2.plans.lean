/-! the calls on the plan keep what a plan must be, on both sides -/
section PLANS
variable {tl : Ds} {m X Y Z g h : Mm} {p q c k a b s o v i j d n w t c1 c2 s1 s2 : Int}
theorem WG_ly2 (W : WG g) (hc : isC c) (hk : canP k a b (g 72 c) (g 76 c)) : WG (ly g c k a b) := by
  have k1 := hk.1
  have hk0 : g 72 c = 0 := hk.2.2.2.2.2.2.1
  have hkb := hk.2.2.2.2.2.2.2
  have kr : 0 ≤ k ∧ k ≤ 9 := ⟨Int.le_trans (by decide) k1.1, k1.2.1⟩
  have nM' := nAM (k := k) (a := a) ⟨k1.1, k1.2.1⟩
  have e6 : ∀ j, ly g c k a b 76 j = g 76 j := fun j => ly_f (by decide)
  refine ⟨Sh_ly W.S, fun d hd => ?_, SV_cg W.v (fun x j h1 h2 => ly_f (by omega)) (ly_f (by decide)), fun d hd => ?_⟩
  · by_cases h : d = c
    · subst h
      have e2 : ly g d k a b 72 d = k := by rw [ly_72, if_pos rfl]
      have e3 : ly g d k a b 73 d = nM k a := by rw [ly_73, if_pos rfl]
      have e4 : ly g d k a b 74 d = nB k b := by rw [ly_74, if_pos rfl]
      have c1 := hk.2.1
      have c2 := hk.2.2.1
      have c9 := hk.2.2.2.1
      have c4 := hk.2.2.2.2.1
      have c6 := hk.2.2.2.2.2.1
      refine ⟨by rw [e2]; exact kr, ?_, ?_, ?_, ?_, ?_, ?_, by rw [e6]; exact (W.p d hd).l, ?_, ?_⟩
      · rw [e2, e3]
        intro y
        have z : nM k a = a := by unfold nM; rw [if_pos (Or.inl y)]
        rw [z]; exact c1 y
      · rw [e2, e3]
        intro y
        have y2 : k = 2 ∨ k = 4 ∨ k = 6 := by
          rcases y with y | y | y | y
          · exact Or.inl y
          · exact absurd y k1.2.2
          · exact Or.inr (Or.inl y)
          · exact Or.inr (Or.inr y)
        have z : nM k a = a := by unfold nM; rw [if_pos (Or.inr (Or.inl y2))]
        have z2 := c2 y2
        rw [z]
        exact ⟨z2.1, Int.lt_of_le_of_lt z2.2 (by decide)⟩
      · rw [e2]
        exact fun y => absurd y k1.2.2
      · rw [e2, e4]
        intro y
        have z : nB k b = b := by unfold nB; rw [if_pos (Or.inl y)]
        rw [z]; exact c4 y
      · rw [e2, e4]
        intro y
        have z : nB k b = b := by unfold nB; rw [if_pos (Or.inr y)]
        rw [z]; exact c6 y
      · rw [e2, e3]
        intro y
        have z : nM k a = a := by unfold nM; rw [if_pos (Or.inr (Or.inr (Or.inl y)))]
        rw [z]; exact c9 y
      · rw [e6, e2]
        intro y
        exact Or.inr (hkb.resolve_left (fun z => by rw [y] at z; exact absurd z (by decide)))
      · rw [e2]
        exact fun y => absurd y k1.2.2
    · have e2 : ly g c k a b 72 d = g 72 d := by rw [ly_72, if_neg h]
      have e3 : ly g c k a b 73 d = g 73 d := by rw [ly_73, if_neg h]
      have e4 : ly g c k a b 74 d = g 74 d := by rw [ly_74, if_neg h]
      have e5 : ly g c k a b 75 d = g 75 d := by rw [ly_75, if_neg h]
      have p := W.p d hd
      refine ⟨by rw [e2]; exact p.k, by rw [e2, e3]; exact p.a1, by rw [e2, e3]; exact p.a4, ?_, by rw [e2, e4]; exact p.bt, by rw [e2, e4]; exact p.bb, by rw [e2, e3]; exact p.e, by rw [e6]; exact p.l, by rw [e6, e2]; exact p.o, by rw [e6, e2]; exact p.z3⟩
      rw [e2, e5]
      intro h3
      have ma := p.ma h3
      have u : ¬ g 75 d = c := fun y => by
        have z := ma.2.1
        rw [y, hk0] at z
        exact absurd z (by decide)
      rw [ly_72, if_neg u, ly_75, if_neg u]
      exact ma
  · rw [ly_72, ly_73, ly_74]
    by_cases h : d = c
    · rw [if_pos h, if_pos h, if_pos h]
      intro _
      rw [← nM']
      unfold nA nB
      constructor
      · split <;> rfl
      · split <;> rfl
    · rw [if_neg h, if_neg h, if_neg h]
      exact W.n d hd
theorem PV_ball (W : WG g) (hc : isC c) (hb : g 72 c = 0 ∨ g 72 c = 9) : WG (up g 76 c 1) := by
  have e : ∀ x j, ¬ x = 76 → up g 76 c 1 x j = g x j := fun x j h => by rw [up_at, if_neg (fun y => h y.1)]
  have e6 : ∀ j, up g 76 c 1 76 j = if j = c then 1 else g 76 j := fun j => by simp only [up_at, b2_T, b2_F, Int.reduceEq, Int.reduceLT, Int.reduceLE, Int.reduceAdd, Int.reduceSub, Int.reduceMul, Int.reduceNeg, reduceIte, if_true, if_false, true_or, or_true, false_or, or_false, false_and, and_false, eq_self, not_false_eq_true, not_true_eq_false, true_and, and_true, List.cons_append, List.nil_append, List.append_nil, b2_0, b2_1, b2_01, Classical.not_not]
  refine ⟨Sh_ar W.S (by decide), fun d hd => ?_, SV_cg W.v (fun x j _ _ => e x j (by omega)) (e 70 6 (by decide)), PN_cg W.n (fun x j _ _ => e x j (by omega))⟩
  have p := W.p d hd
  refine ⟨?_, ?_, ?_, ?_, ?_, ?_, ?_, ?_, ?_, ?_⟩
  · rw [e 72 d (by decide)]; exact p.k
  · rw [e 72 d (by decide), e 73 d (by decide)]; exact p.a1
  · rw [e 72 d (by decide), e 73 d (by decide)]; exact p.a4
  · rw [e 72 d (by decide), e 75 d (by decide), e 72 _ (by decide), e 75 _ (by decide)]; exact p.ma
  · rw [e 72 d (by decide), e 74 d (by decide)]; exact p.bt
  · rw [e 72 d (by decide), e 74 d (by decide)]; exact p.bb
  · rw [e 72 d (by decide), e 73 d (by decide)]; exact p.e
  · rw [e6]
    split
    · exact Or.inr rfl
    · exact p.l
  · rw [e6, e 72 d (by decide)]
    split
    · rename_i h
      intro _
      rw [h]; exact hb
    · exact p.o
  · rw [e6, e 72 d (by decide)]
    intro h3
    rw [if_neg (fun y => by rw [y] at h3; omega)]
    exact p.z3 h3
/-- a cell is made empty -/
theorem PV_clear (W : WG g) (hc : isC c) (h3 : ¬ g 72 c = 3) : WG (up (up g 72 c 0) 76 c 0) := by
  have e : ∀ x j, ¬ x = 72 → ¬ x = 76 → up (up g 72 c 0) 76 c 0 x j = g x j := fun x j h1 h2 => by rw [up_at, if_neg (fun y => h2 y.1), up_at, if_neg (fun y => h1 y.1)]
  have e2 : ∀ j, up (up g 72 c 0) 76 c 0 72 j = if j = c then 0 else g 72 j := fun j => by simp only [up_at, b2_T, b2_F, Int.reduceEq, Int.reduceLT, Int.reduceLE, Int.reduceAdd, Int.reduceSub, Int.reduceMul, Int.reduceNeg, reduceIte, if_true, if_false, true_or, or_true, false_or, or_false, false_and, and_false, eq_self, not_false_eq_true, not_true_eq_false, true_and, and_true, List.cons_append, List.nil_append, List.append_nil, b2_0, b2_1, b2_01, Classical.not_not]
  have e6 : ∀ j, up (up g 72 c 0) 76 c 0 76 j = if j = c then 0 else g 76 j := fun j => by simp only [up_at, b2_T, b2_F, Int.reduceEq, Int.reduceLT, Int.reduceLE, Int.reduceAdd, Int.reduceSub, Int.reduceMul, Int.reduceNeg, reduceIte, if_true, if_false, true_or, or_true, false_or, or_false, false_and, and_false, eq_self, not_false_eq_true, not_true_eq_false, true_and, and_true, List.cons_append, List.nil_append, List.append_nil, b2_0, b2_1, b2_01, Classical.not_not]
  refine ⟨Sh_ar (Sh_ar W.S (by decide)) (by decide), fun d hd => ?_, SV_cg W.v (fun x j _ _ => e x j (by omega) (by omega)) (e 70 6 (by decide) (by decide)), fun d hd => ?_⟩
  · by_cases h1 : d = c
    · have k0 : up (up g 72 c 0) 76 c 0 72 d = 0 := by rw [e2, if_pos h1]
      have b0 : up (up g 72 c 0) 76 c 0 76 d = 0 := by rw [e6, if_pos h1]
      refine ⟨?_, ?_, ?_, ?_, ?_, ?_, ?_, ?_, ?_, ?_⟩
      · rw [k0]; decide
      · rw [k0]; exact fun y => absurd y (by decide)
      · rw [k0]; exact fun y => absurd y (by decide)
      · rw [k0]; exact fun y => absurd y (by decide)
      · rw [k0]; exact fun y => absurd y (by decide)
      · rw [k0]; exact fun y => absurd y (by decide)
      · rw [k0]; exact fun y => absurd y (by decide)
      · exact Or.inl b0
      · exact fun _ => Or.inl k0
      · exact fun _ => b0
    · have k0 : up (up g 72 c 0) 76 c 0 72 d = g 72 d := by rw [e2, if_neg h1]
      have b0 : up (up g 72 c 0) 76 c 0 76 d = g 76 d := by rw [e6, if_neg h1]
      have p := W.p d hd
      refine ⟨?_, ?_, ?_, ?_, ?_, ?_, ?_, ?_, ?_, ?_⟩
      · rw [k0]; exact p.k
      · rw [k0, e 73 d (by decide) (by decide)]; exact p.a1
      · rw [k0, e 73 d (by decide) (by decide)]; exact p.a4
      · rw [k0, e 75 d (by decide) (by decide), e 75 _ (by decide) (by decide), e2]
        intro y
        have ma := p.ma y
        rw [if_neg (fun z => by
          have := ma.2.1
          rw [z] at this
          exact h3 this)]
        exact ma
      · rw [k0, e 74 d (by decide) (by decide)]; exact p.bt
      · rw [k0, e 74 d (by decide) (by decide)]; exact p.bb
      · rw [k0, e 73 d (by decide) (by decide)]; exact p.e
      · rw [b0]; exact p.l
      · rw [b0, k0]; exact p.o
      · rw [k0, b0]; exact p.z3
  · rw [e2, e 73 d (by decide) (by decide), e 74 d (by decide) (by decide)]
    split
    · exact fun y => absurd rfl y
    · exact W.n d hd
/-- both cords of a pair are taken away -/
def rz2 (g : Mm) (c o : Int) : Mm := up (up (up g 72 o 0) 72 c 0) 76 c 0
theorem PV_raze3 (W : WG g) (hc : isC c) (h3 : g 72 c = 3) : WG (rz2 g c (g 75 c)) := by
  have mc := (W.p c hc).ma h3
  obtain ⟨o, ho⟩ : ∃ o, o = g 75 c := ⟨_, rfl⟩
  rw [← ho] at mc ⊢
  have e : ∀ x j, ¬ x = 72 → ¬ x = 76 → rz2 g c o x j = g x j := fun x j h1 h2 => by
    unfold rz2
    rw [up_at, if_neg (fun y => h2 y.1), up_at, if_neg (fun y => h1 y.1), up_at, if_neg (fun y => h1 y.1)]
  have e2 : ∀ j, rz2 g c o 72 j = if j = c then 0 else if j = o then 0 else g 72 j := fun j => by
    unfold rz2
    simp only [up_at, b2_T, b2_F, Int.reduceEq, Int.reduceLT, Int.reduceLE, Int.reduceAdd, Int.reduceSub, Int.reduceMul, Int.reduceNeg, reduceIte, if_true, if_false, true_or, or_true, false_or, or_false, false_and, and_false, eq_self, not_false_eq_true, not_true_eq_false, true_and, and_true, List.cons_append, List.nil_append, List.append_nil, b2_0, b2_1, b2_01, Classical.not_not]
  have e6 : ∀ j, rz2 g c o 76 j = if j = c then 0 else g 76 j := fun j => by
    unfold rz2
    simp only [up_at, b2_T, b2_F, Int.reduceEq, Int.reduceLT, Int.reduceLE, Int.reduceAdd, Int.reduceSub, Int.reduceMul, Int.reduceNeg, reduceIte, if_true, if_false, true_or, or_true, false_or, or_false, false_and, and_false, eq_self, not_false_eq_true, not_true_eq_false, true_and, and_true, List.cons_append, List.nil_append, List.append_nil, b2_0, b2_1, b2_01, Classical.not_not]
  refine ⟨Sh_ar (Sh_ar (Sh_ar W.S (by decide)) (by decide)) (by decide), fun d hd => ?_, SV_cg W.v (fun x j _ _ => e x j (by omega) (by omega)) (e 70 6 (by decide) (by decide)), fun d hd => ?_⟩
  · have p := W.p d hd
    by_cases h1 : d = c ∨ d = o
    · have k0 : rz2 g c o 72 d = 0 := by
        rw [e2]
        rcases h1 with h1 | h1
        · rw [if_pos h1]
        · rw [h1]
          split <;> simp
      have b0 : rz2 g c o 76 d = 0 := by
        rw [e6]
        rcases h1 with h1 | h1
        · rw [if_pos h1]
        · split
          · rfl
          · rw [h1]
            exact (W.p o mc.1).z3 mc.2.1
      refine ⟨?_, ?_, ?_, ?_, ?_, ?_, ?_, ?_, ?_, ?_⟩
      · rw [k0]; decide
      · rw [k0]; exact fun y => absurd y (by decide)
      · rw [k0]; exact fun y => absurd y (by decide)
      · rw [k0]; exact fun y => absurd y (by decide)
      · rw [k0]; exact fun y => absurd y (by decide)
      · rw [k0]; exact fun y => absurd y (by decide)
      · rw [k0]; exact fun y => absurd y (by decide)
      · exact Or.inl b0
      · exact fun _ => Or.inl k0
      · exact fun _ => b0
    · have hdc : ¬ d = c := fun y => h1 (Or.inl y)
      have hdo : ¬ d = o := fun y => h1 (Or.inr y)
      have k0 : rz2 g c o 72 d = g 72 d := by rw [e2, if_neg hdc, if_neg hdo]
      have b0 : rz2 g c o 76 d = g 76 d := by rw [e6, if_neg hdc]
      refine ⟨?_, ?_, ?_, ?_, ?_, ?_, ?_, ?_, ?_, ?_⟩
      · rw [k0]; exact p.k
      · rw [k0, e 73 d (by decide) (by decide)]; exact p.a1
      · rw [k0, e 73 d (by decide) (by decide)]; exact p.a4
      · rw [k0, e 75 d (by decide) (by decide), e 75 _ (by decide) (by decide), e2]
        intro y
        have ma := p.ma y
        rw [if_neg (fun z => by
          have y1 := ma.2.2.1
          rw [z, ← ho] at y1
          exact hdo y1.symm), if_neg (fun z => by
          have y1 := ma.2.2.1
          rw [z, mc.2.2.1] at y1
          exact hdc y1.symm)]
        exact ma
      · rw [k0, e 74 d (by decide) (by decide)]; exact p.bt
      · rw [k0, e 74 d (by decide) (by decide)]; exact p.bb
      · rw [k0, e 73 d (by decide) (by decide)]; exact p.e
      · rw [b0]; exact p.l
      · rw [b0, k0]; exact p.o
      · rw [k0, b0]; exact p.z3
  · rw [e2, e 73 d (by decide) (by decide), e 74 d (by decide) (by decide)]
    split
    · exact fun y => absurd rfl y
    · split
      · exact fun y => absurd rfl y
      · exact W.n d hd
/-- two cords are laid -/
def crd (g : Mm) (c1 s1 c2 s2 : Int) : Mm := up (up (ly (ly g c1 3 s1 0) c2 3 s2 0) 75 c1 c2) 75 c2 c1
theorem crd_72 : crd g c1 s1 c2 s2 72 j = if j = c2 then 3 else if j = c1 then 3 else g 72 j := by
  unfold crd
  rw [up_at, if_neg (fun y => absurd y.1 (by decide)), up_at, if_neg (fun y => absurd y.1 (by decide)), ly_72, ly_72]
theorem crd_73 : crd g c1 s1 c2 s2 73 j = if j = c2 then s2 else if j = c1 then s1 else g 73 j := by
  unfold crd
  rw [up_at, if_neg (fun y => absurd y.1 (by decide)), up_at, if_neg (fun y => absurd y.1 (by decide)), ly_73, ly_73]
  rfl
theorem crd_74 : crd g c1 s1 c2 s2 74 j = if j = c2 then 0 else if j = c1 then 0 else g 74 j := by
  unfold crd
  rw [up_at, if_neg (fun y => absurd y.1 (by decide)), up_at, if_neg (fun y => absurd y.1 (by decide)), ly_74, ly_74]
  rfl
theorem crd_75 : crd g c1 s1 c2 s2 75 j = if j = c2 then c1 else if j = c1 then c2 else g 75 j := by
  unfold crd
  rw [up_at, up_at, ly_75, ly_75]
  simp only [b2_T, b2_F, Int.reduceEq, Int.reduceLT, Int.reduceLE, Int.reduceAdd, Int.reduceSub, Int.reduceMul, Int.reduceNeg, reduceIte, if_true, if_false, true_or, or_true, false_or, or_false, false_and, and_false, eq_self, not_false_eq_true, not_true_eq_false, true_and, and_true, List.cons_append, List.nil_append, List.append_nil, b2_0, b2_1, b2_01, Classical.not_not]
  by_cases h : j = c2
  · rw [if_pos h, if_pos h]
  · rw [if_neg h, if_neg h, if_neg h]
    by_cases h1 : j = c1
    · rw [if_pos h1, if_pos h1]
    · rw [if_neg h1, if_neg h1, if_neg h1]
theorem crd_f (h : ¬ (72 ≤ i ∧ i ≤ 75)) : crd g c1 s1 c2 s2 i j = g i j := by
  unfold crd
  rw [up_at, if_neg (by omega), up_at, if_neg (by omega), ly_f h, ly_f h]
theorem WG_crd (W : WG g) (h1 : isC c1) (h2 : isC c2) (o1 : okS s1) (o2 : okS s2) (hn : ¬ c1 = c2) (f1 : g 72 c1 = 0 ∧ g 76 c1 = 0) (f2 : g 72 c2 = 0 ∧ g 76 c2 = 0) : WG (crd g c1 s1 c2 s2) := by
  have e6 : ∀ j, crd g c1 s1 c2 s2 76 j = g 76 j := fun j => crd_f (by decide)
  have hn' : ¬ c2 = c1 := fun y => hn y.symm
  refine ⟨?_, fun d hd => ?_, SV_cg W.v (fun x j _ _ => crd_f (by omega)) (crd_f (by decide)), fun d hd => ?_⟩
  · unfold crd
    exact Sh_ar (Sh_ar (Sh_ly (Sh_ly W.S)) (by decide)) (by decide)
  · have p := W.p d hd
    by_cases g2 : d = c2
    · subst g2
      have k0 : crd g c1 s1 d s2 72 d = 3 := by rw [crd_72, if_pos rfl]
      have a0 : crd g c1 s1 d s2 73 d = s2 := by rw [crd_73, if_pos rfl]
      refine ⟨?_, ?_, ?_, ?_, ?_, ?_, ?_, ?_, ?_, ?_⟩
      · rw [k0]; decide
      · rw [k0]; exact fun y => absurd y (by decide)
      · rw [a0]; exact fun _ => o2
      · intro _
        rw [crd_75, if_pos rfl, crd_72, if_neg hn, if_pos rfl, crd_75, if_neg hn, if_pos rfl]
        exact ⟨h1, rfl, rfl, hn⟩
      · rw [k0]; exact fun y => absurd y (by decide)
      · rw [k0]; exact fun y => absurd y (by decide)
      · rw [k0]; exact fun y => absurd y (by decide)
      · rw [e6]; exact p.l
      · rw [e6, f2.2]; exact fun y => absurd y (by decide)
      · rw [e6]; exact fun _ => f2.2
    · by_cases g1 : d = c1
      · subst g1
        have k0 : crd g d s1 c2 s2 72 d = 3 := by rw [crd_72, if_neg g2, if_pos rfl]
        have a0 : crd g d s1 c2 s2 73 d = s1 := by rw [crd_73, if_neg g2, if_pos rfl]
        refine ⟨?_, ?_, ?_, ?_, ?_, ?_, ?_, ?_, ?_, ?_⟩
        · rw [k0]; decide
        · rw [k0]; exact fun y => absurd y (by decide)
        · rw [a0]; exact fun _ => o1
        · intro _
          rw [crd_75, if_neg g2, if_pos rfl, crd_72, if_pos rfl, crd_75, if_pos rfl]
          exact ⟨h2, rfl, rfl, hn'⟩
        · rw [k0]; exact fun y => absurd y (by decide)
        · rw [k0]; exact fun y => absurd y (by decide)
        · rw [k0]; exact fun y => absurd y (by decide)
        · rw [e6]; exact p.l
        · rw [e6, f1.2]; exact fun y => absurd y (by decide)
        · rw [e6]; exact fun _ => f1.2
      · have k0 : crd g c1 s1 c2 s2 72 d = g 72 d := by rw [crd_72, if_neg g2, if_neg g1]
        have a0 : crd g c1 s1 c2 s2 73 d = g 73 d := by rw [crd_73, if_neg g2, if_neg g1]
        have b0 : crd g c1 s1 c2 s2 74 d = g 74 d := by rw [crd_74, if_neg g2, if_neg g1]
        have m0 : crd g c1 s1 c2 s2 75 d = g 75 d := by rw [crd_75, if_neg g2, if_neg g1]
        refine ⟨?_, ?_, ?_, ?_, ?_, ?_, ?_, ?_, ?_, ?_⟩
        · rw [k0]; exact p.k
        · rw [k0, a0]; exact p.a1
        · rw [k0, a0]; exact p.a4
        · rw [k0, m0]
          intro y
          have ma := p.ma y
          have u1 : ¬ g 75 d = c1 := fun z => by
            have y1 := ma.2.1
            rw [z, f1.1] at y1
            exact absurd y1 (by decide)
          have u2 : ¬ g 75 d = c2 := fun z => by
            have y1 := ma.2.1
            rw [z, f2.1] at y1
            exact absurd y1 (by decide)
          rw [crd_72, if_neg u2, if_neg u1, crd_75, if_neg u2, if_neg u1]
          exact ma
        · rw [k0, b0]; exact p.bt
        · rw [k0, b0]; exact p.bb
        · rw [k0, a0]; exact p.e
        · rw [e6]; exact p.l
        · rw [e6, k0]; exact p.o
        · rw [k0, e6]; exact p.z3
  · rw [crd_72, crd_73, crd_74]
    by_cases g2 : d = c2
    · rw [if_pos g2, if_pos g2, if_pos g2]
      exact fun _ => ⟨rfl, rfl⟩
    · rw [if_neg g2, if_neg g2, if_neg g2]
      by_cases g1 : d = c1
      · rw [if_pos g1, if_pos g1, if_pos g1]
        exact fun _ => ⟨rfl, rfl⟩
      · rw [if_neg g1, if_neg g1, if_neg g1]
        exact W.n d hd
def xcr (X : Mm) (c1 s1 c2 s2 : Int) : Mm := up (plc (up (plc X 9 c1 3 s1 0) 13 c1 c2) 9 c2 3 s2 0) 13 c2 c1
theorem xcr_10 : xcr X c1 s1 c2 s2 10 j = if j = c2 then 3 else if j = c1 then 3 else X 10 j := by
  unfold xcr plc
  simp only [up_at, b2_T, b2_F, Int.reduceEq, Int.reduceLT, Int.reduceLE, Int.reduceAdd, Int.reduceSub, Int.reduceMul, Int.reduceNeg, reduceIte, if_true, if_false, true_or, or_true, false_or, or_false, false_and, and_false, eq_self, not_false_eq_true, not_true_eq_false, true_and, and_true, List.cons_append, List.nil_append, List.append_nil, b2_0, b2_1, b2_01, Classical.not_not]
theorem xcr_11 : xcr X c1 s1 c2 s2 11 j = if j = c2 then s2 else if j = c1 then s1 else X 11 j := by
  unfold xcr plc
  simp only [up_at, b2_T, b2_F, Int.reduceEq, Int.reduceLT, Int.reduceLE, Int.reduceAdd, Int.reduceSub, Int.reduceMul, Int.reduceNeg, reduceIte, if_true, if_false, true_or, or_true, false_or, or_false, false_and, and_false, eq_self, not_false_eq_true, not_true_eq_false, true_and, and_true, List.cons_append, List.nil_append, List.append_nil, b2_0, b2_1, b2_01, Classical.not_not]
  rfl
theorem xcr_12 : xcr X c1 s1 c2 s2 12 j = if j = c2 then 0 else if j = c1 then 0 else X 12 j := by
  unfold xcr plc
  simp only [up_at, b2_T, b2_F, Int.reduceEq, Int.reduceLT, Int.reduceLE, Int.reduceAdd, Int.reduceSub, Int.reduceMul, Int.reduceNeg, reduceIte, if_true, if_false, true_or, or_true, false_or, or_false, false_and, and_false, eq_self, not_false_eq_true, not_true_eq_false, true_and, and_true, List.cons_append, List.nil_append, List.append_nil, b2_0, b2_1, b2_01, Classical.not_not]
  rfl
theorem xcr_13 : xcr X c1 s1 c2 s2 13 j = if j = c2 then c1 else if j = c1 then c2 else X 13 j := by
  unfold xcr plc
  simp only [up_at, b2_T, b2_F, Int.reduceEq, Int.reduceLT, Int.reduceLE, Int.reduceAdd, Int.reduceSub, Int.reduceMul, Int.reduceNeg, reduceIte, if_true, if_false, true_or, or_true, false_or, or_false, false_and, and_false, eq_self, not_false_eq_true, not_true_eq_false, true_and, and_true, List.cons_append, List.nil_append, List.append_nil, b2_0, b2_1, b2_01, Classical.not_not]
theorem xcr_f (h : ¬ (10 ≤ i ∧ i ≤ 13)) : xcr X c1 s1 c2 s2 i j = X i j := by
  unfold xcr plc
  rw [up_at, if_neg (by omega), up_at, if_neg (by omega), up_at, if_neg (by omega), up_at, if_neg (by omega), up_at, if_neg (by omega), up_at, if_neg (by omega), up_at, if_neg (by omega), up_at, if_neg (by omega)]
theorem PR_crd (P : PR X 9 Y) : PR (xcr X c1 s1 c2 s2) 9 (crd Y c1 s1 c2 s2) := by
  refine ⟨fun d hd => ?_, fun d hd => ?_, fun d hd => ?_, fun d hd => ?_, ?_, fun y y0 y1 => ?_⟩
  · show xcr X c1 s1 c2 s2 10 d = _
    rw [xcr_10, crd_72]
    have := P.k d hd
    simp only [Int.reduceAdd] at this
    rw [this]
  · show _ → xcr X c1 s1 c2 s2 11 d = _ ∧ xcr X c1 s1 c2 s2 12 d = _
    rw [xcr_11, xcr_12, crd_72, crd_73, crd_74]
    by_cases g2 : d = c2
    · rw [if_pos g2, if_pos g2, if_pos g2, if_pos g2, if_pos g2]
      exact fun _ => ⟨rfl, rfl⟩
    · rw [if_neg g2, if_neg g2, if_neg g2, if_neg g2, if_neg g2]
      by_cases g1 : d = c1
      · rw [if_pos g1, if_pos g1, if_pos g1, if_pos g1, if_pos g1]
        exact fun _ => ⟨rfl, rfl⟩
      · rw [if_neg g1, if_neg g1, if_neg g1, if_neg g1, if_neg g1]
        exact P.a d hd
  · show _ → xcr X c1 s1 c2 s2 13 d = _
    rw [xcr_13, crd_72, crd_75]
    by_cases g2 : d = c2
    · rw [if_pos g2, if_pos g2, if_pos g2]
      exact fun _ => rfl
    · rw [if_neg g2, if_neg g2, if_neg g2]
      by_cases g1 : d = c1
      · rw [if_pos g1, if_pos g1, if_pos g1]
        exact fun _ => rfl
      · rw [if_neg g1, if_neg g1, if_neg g1]
        exact P.o d hd
  · rw [xcr_f (by decide), crd_f (by decide)]; exact P.b d hd
  · rw [xcr_f (by decide), crd_f (by decide)]; exact P.s
  · rw [crd_f (by decide)] at y1
    rw [xcr_f (by decide), xcr_f (by decide), xcr_f (by decide), crd_f (by decide), crd_f (by decide), crd_f (by decide)]
    exact P.t y y0 y1
def yst (Y : Mm) (c s t : Int) : Mm := up (up (up (up Y 77 (Y 70 6) c) 78 (Y 70 6) s) 79 (Y 70 6) t) 70 6 (Y 70 6 + 1)
theorem yst_7 : yst Y c s t 77 j = (if j = Y 70 6 then c else Y 77 j) ∧ yst Y c s t 78 j = (if j = Y 70 6 then s else Y 78 j) ∧ yst Y c s t 79 j = (if j = Y 70 6 then t else Y 79 j) ∧ yst Y c s t 70 6 = Y 70 6 + 1 := by
  unfold yst
  simp only [up_at, b2_T, b2_F, Int.reduceEq, Int.reduceLT, Int.reduceLE, Int.reduceAdd, Int.reduceSub, Int.reduceMul, Int.reduceNeg, reduceIte, if_true, if_false, true_or, or_true, false_or, or_false, false_and, and_false, eq_self, not_false_eq_true, not_true_eq_false, true_and, and_true, List.cons_append, List.nil_append, List.append_nil, b2_0, b2_1, b2_01, Classical.not_not]
theorem yst_f (h : ¬ (77 ≤ i ∧ i ≤ 79)) (h2 : ¬ (i = 70 ∧ j = 6)) : yst Y c s t i j = Y i j := by
  unfold yst
  rw [up_at, if_neg h2, up_at, if_neg (by omega), up_at, if_neg (by omega), up_at, if_neg (by omega)]
theorem WG_yst (W : WG Y) (hc : isC c) (hs : okS s) (ht : 0 ≤ t ∧ t ≤ 99) (hn : Y 70 6 < 4) : WG (yst Y c s t) := by
  have v := W.v
  have e : ∀ x j, 72 ≤ x → x ≤ 76 → yst Y c s t x j = Y x j := fun x j h1 h2 => yst_f (by omega) (by omega)
  refine ⟨?_, PV_cg W.p (fun j => e _ _ (by decide) (by decide)) (fun j => e _ _ (by decide) (by decide)) (fun j => e _ _ (by decide) (by decide)) (fun j => e _ _ (by decide) (by decide)) (fun j => e _ _ (by decide) (by decide)), ⟨?_, fun i i0 i1 => ?_⟩, PN_cg W.n (fun x j h1 h2 => e _ _ h1 (by omega))⟩
  · unfold yst
    exact Sh.up (Sh_ar (Sh_ar (Sh_ar W.S (by decide)) (by decide)) (by decide)) (by decide)
  · have n0 := v.n
    rw [(yst_7 (j := 0)).2.2.2]
    omega
  · rw [(yst_7 (j := 0)).2.2.2] at i1
    rw [yst_7.1, yst_7.2.1, yst_7.2.2.1]
    by_cases h : i = Y 70 6
    · rw [if_pos h, if_pos h, if_pos h]
      exact ⟨hc, hs, ht⟩
    · rw [if_neg h, if_neg h, if_neg h]
      exact v.v i i0 (by omega)
theorem PR_yst (P : PR X 9 Y) : PR (adS X 9 c s t) 9 (yst Y c s t) := by
  have f : ∀ x j, 10 ≤ x → x ≤ 14 → adS X 9 c s t x j = X x j := fun x j h1 h2 => by
    unfold adS
    rw [up_at, if_neg (by omega), up_at, if_neg (by omega), up_at, if_neg (by omega), up_at, if_neg (by omega)]
  have g : ∀ x j, 72 ≤ x → x ≤ 76 → yst Y c s t x j = Y x j := fun x j h1 h2 => yst_f (by omega) (by omega)
  refine ⟨fun d hd => ?_, fun d hd => ?_, fun d hd => ?_, fun d hd => ?_, ?_, fun y y0 y1 => ?_⟩
  · rw [f _ _ (by decide) (by decide), g _ _ (by decide) (by decide)]; exact P.k d hd
  · rw [f _ _ (by decide) (by decide), f _ _ (by decide) (by decide), g _ _ (by decide) (by decide), g _ _ (by decide) (by decide), g _ _ (by decide) (by decide)]; exact P.a d hd
  · rw [f _ _ (by decide) (by decide), g _ _ (by decide) (by decide), g _ _ (by decide) (by decide)]; exact P.o d hd
  · rw [f _ _ (by decide) (by decide), g _ _ (by decide) (by decide)]; exact P.b d hd
  · rw [(yst_7 (j := 0)).2.2.2, ← P.s]
    unfold adS
    simp only [up_at, b2_T, b2_F, Int.reduceEq, Int.reduceLT, Int.reduceLE, Int.reduceAdd, Int.reduceSub, Int.reduceMul, Int.reduceNeg, reduceIte, if_true, if_false, true_or, or_true, false_or, or_false, false_and, and_false, eq_self, not_false_eq_true, not_true_eq_false, true_and, and_true, List.cons_append, List.nil_append, List.append_nil, b2_0, b2_1, b2_01, Classical.not_not]
  · rw [(yst_7 (j := 0)).2.2.2] at y1
    rw [yst_7.1, yst_7.2.1, yst_7.2.2.1, ← P.s]
    rw [← P.s] at y1
    have pt := P.t y y0
    rw [← P.s] at pt
    unfold adS
    simp only [up_at, b2_T, b2_F, Int.reduceEq, Int.reduceLT, Int.reduceLE, Int.reduceAdd, Int.reduceSub, Int.reduceMul, Int.reduceNeg, reduceIte, if_true, if_false, true_or, or_true, false_or, or_false, false_and, and_false, eq_self, not_false_eq_true, not_true_eq_false, true_and, and_true, List.cons_append, List.nil_append, List.append_nil, b2_0, b2_1, b2_01, Classical.not_not]
    by_cases h : y = X 9 8
    · simp only [h, b2_T, b2_F, Int.reduceEq, Int.reduceLT, Int.reduceLE, Int.reduceAdd, Int.reduceSub, Int.reduceMul, Int.reduceNeg, reduceIte, if_true, if_false, true_or, or_true, false_or, or_false, false_and, and_false, eq_self, not_false_eq_true, not_true_eq_false, true_and, and_true, List.cons_append, List.nil_append, List.append_nil, b2_0, b2_1, b2_01, Classical.not_not, and_self]
    · simp only [h, b2_T, b2_F, Int.reduceEq, Int.reduceLT, Int.reduceLE, Int.reduceAdd, Int.reduceSub, Int.reduceMul, Int.reduceNeg, reduceIte, if_true, if_false, true_or, or_true, false_or, or_false, false_and, and_false, eq_self, not_false_eq_true, not_true_eq_false, true_and, and_true, List.cons_append, List.nil_append, List.append_nil, b2_0, b2_1, b2_01, Classical.not_not]
      exact pt (by omega)
theorem WG_s0 (W : WG Y) : WG (up Y 70 6 0) := ⟨Sh.up W.S (by decide), PV_cg W.p (fun _ => rfl) (fun _ => rfl) (fun _ => rfl) (fun _ => rfl) (fun _ => rfl), ⟨by simp only [up_at, b2_T, b2_F, Int.reduceEq, Int.reduceLT, Int.reduceLE, Int.reduceAdd, Int.reduceSub, Int.reduceMul, Int.reduceNeg, reduceIte, if_true, if_false, true_or, or_true, false_or, or_false, false_and, and_false, eq_self, not_false_eq_true, not_true_eq_false, true_and, and_true, List.cons_append, List.nil_append, List.append_nil, b2_0, b2_1, b2_01, Classical.not_not], fun i i0 i1 => by
    simp only [up_at, b2_T, b2_F, Int.reduceEq, Int.reduceLT, Int.reduceLE, Int.reduceAdd, Int.reduceSub, Int.reduceMul, Int.reduceNeg, reduceIte, if_true, if_false, true_or, or_true, false_or, or_false, false_and, and_false, eq_self, not_false_eq_true, not_true_eq_false, true_and, and_true, List.cons_append, List.nil_append, List.append_nil, b2_0, b2_1, b2_01, Classical.not_not] at i1
    omega⟩, PN_cg W.n (fun x j h1 h2 => by rw [up_at, if_neg (by omega)])⟩
theorem PR_s0 (P : PR X 9 Y) : PR (up X 9 8 0) 9 (up Y 70 6 0) := by
  have f : ∀ x j, ¬ x = 9 → up X 9 8 0 x j = X x j := fun x j h => by rw [up_at, if_neg (fun y => h y.1)]
  have g : ∀ x j, ¬ x = 70 → up Y 70 6 0 x j = Y x j := fun x j h => by rw [up_at, if_neg (fun y => h y.1)]
  refine ⟨fun d hd => ?_, fun d hd => ?_, fun d hd => ?_, fun d hd => ?_, ?_, fun y y0 y1 => ?_⟩
  · rw [f _ _ (by decide), g _ _ (by decide)]; exact P.k d hd
  · rw [f _ _ (by decide), f _ _ (by decide), g _ _ (by decide), g _ _ (by decide), g _ _ (by decide)]; exact P.a d hd
  · rw [f _ _ (by decide), g _ _ (by decide), g _ _ (by decide)]; exact P.o d hd
  · rw [f _ _ (by decide), g _ _ (by decide)]; exact P.b d hd
  · simp only [up_at, b2_T, b2_F, Int.reduceEq, Int.reduceLT, Int.reduceLE, Int.reduceAdd, Int.reduceSub, Int.reduceMul, Int.reduceNeg, reduceIte, if_true, if_false, true_or, or_true, false_or, or_false, false_and, and_false, eq_self, not_false_eq_true, not_true_eq_false, true_and, and_true, List.cons_append, List.nil_append, List.append_nil, b2_0, b2_1, b2_01, Classical.not_not]
  · simp only [up_at, b2_T, b2_F, Int.reduceEq, Int.reduceLT, Int.reduceLE, Int.reduceAdd, Int.reduceSub, Int.reduceMul, Int.reduceNeg, reduceIte, if_true, if_false, true_or, or_true, false_or, or_false, false_and, and_false, eq_self, not_false_eq_true, not_true_eq_false, true_and, and_true, List.cons_append, List.nil_append, List.append_nil, b2_0, b2_1, b2_01, Classical.not_not] at y1
    omega
theorem PR_raze3 (P : PR X 9 Y) (W : WG Y) (hc : isC c) (h3 : Y 72 c = 3) : PR (clr (clr X 9 (Y 75 c)) 9 c) 9 (rz2 Y c (Y 75 c)) := by
  have mc := (W.p c hc).ma h3
  have z := (W.p _ mc.1).z3 mc.2.1
  have e : up (up Y 72 (Y 75 c) 0) 76 (Y 75 c) 0 = up Y 72 (Y 75 c) 0 := by
    funext x j
    rw [up_at]
    by_cases h : x = 76 ∧ j = Y 75 c
    · rw [if_pos h, up_at, if_neg (fun y => by rw [h.1] at y; exact absurd y.1 (by decide)), h.1, h.2, z]
    · rw [if_neg h]
  have p1 := PR_clr (c := Y 75 c) P mc.1
  rw [e] at p1
  exact PR_clr p1 hc
/-- numbers that don't count stay zero in the class's plan -/
theorem ZP_plc (z : ZP X p) (hk : ¬ k = 0 ∨ (a = 0 ∧ b = 0)) : ZP (plc X p c k a b) p := fun d hd => by
  rw [plc_1, plc_2, plc_3]
  by_cases h : d = c
  · rw [if_pos h, if_pos h, if_pos h]
    intro hk0
    rcases hk with y | y
    · exact absurd hk0 y
    · rw [y.1, y.2]
      refine ⟨?_, ?_⟩
      · unfold nA
        split <;> rfl
      · unfold nB
        split <;> rfl
  · rw [if_neg h, if_neg h, if_neg h]
    exact z d hd
theorem ZP_up (z : ZP X p) (hi : ¬ (p + 1 ≤ i ∧ i ≤ p + 3)) : ZP (up X i j v) p := ZP_cg z (fun x j h1 h2 => by rw [up_at, if_neg (by omega)])
theorem ZP_clr (z : ZP X p) : ZP (clr X p c) p := by
  unfold clr
  split
  · exact ZP_up (ZP_plc z (Or.inr ⟨rfl, rfl⟩)) (by omega)
  · exact z
theorem ZP_bec (z : ZP X q) : ZP (bec X p q) p := fun d hd => by
  rw [bec_1' (by decide) hd, bec_1' (by decide) hd, bec_1' (by decide) hd]
  exact z d hd
end PLANS
