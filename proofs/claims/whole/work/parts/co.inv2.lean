/-! the reference's run: what holds, over works and strikes -/
theorem PV_cg {g h : Mm} (p : PV g) (h2 : ∀ j, h 72 j = g 72 j) (h3 : ∀ j, h 73 j = g 73 j) (h4 : ∀ j, h 74 j = g 74 j) (h5 : ∀ j, h 75 j = g 75 j) (h6 : ∀ j, h 76 j = g 76 j) : PV h := by
  intro d hd
  have p := p d hd
  refine ⟨?_, ?_, ?_, ?_, ?_, ?_, ?_, ?_, ?_, ?_⟩ <;> simp only [h2, h3, h4, h5, h6]
  · exact p.k
  · exact p.a1
  · exact p.a4
  · exact p.ma
  · exact p.bt
  · exact p.bb
  · exact p.e
  · exact p.l
  · exact p.o
  · exact p.z3
section INV2
variable {g : Mm} {n b c s k i t r to j u x o : Int}
theorem sp1_f (h1 : ¬ x = 86) (h2 : ¬ x = 87) (h3 : ¬ x = 88) (h4 : ¬ x = 89) (h5 : ¬ x = 90) (h6 : ¬ x = 91) (h7 : ¬ x = 92) (h8 : ¬ x = 70) : mSp1 g c s i o x j = g x j := by
  unfold mSp1
  split
  · rfl
  · exact add_f h1 h2 h3 h4 h5 h6 h7 h8
theorem sp1_70 (h1 : ¬ j = 24) (h2 : ¬ j = 25) : mSp1 g c s i o 70 j = g 70 j := by
  unfold mSp1
  split
  · rfl
  · exact add_70 h1 h2
theorem ring_f (h1 : ¬ x = 103) (h2 : ¬ x = 104) (h3 : ¬ x = 105) (h4 : ¬ x = 101) : mRing g t i x j = g x j := by
  unfold mRing
  try dsimp only
  split <;> simp only [up_at, h1, h2, h3, h4, b2_T, b2_F, Int.reduceEq, Int.reduceLT, Int.reduceLE, Int.reduceAdd, Int.reduceSub, Int.reduceMul, Int.reduceNeg, reduceIte, if_true, if_false, true_or, or_true, false_or, or_false, false_and, and_false, eq_self, not_false_eq_true, not_true_eq_false, true_and, and_true, List.cons_append, List.nil_append, List.append_nil, b2_0, b2_1, b2_01, Classical.not_not]
theorem work_f (h1 : ¬ x = 86) (h2 : ¬ x = 87) (h3 : ¬ x = 88) (h4 : ¬ x = 89) (h5 : ¬ x = 90) (h6 : ¬ x = 91) (h7 : ¬ x = 92) (h8 : ¬ x = 70) (h9 : ¬ x = 94) (ha : ¬ x = 103) (hb : ¬ x = 104) (hc : ¬ x = 105) (hd : ¬ x = 101) : mWork g c s i x j = mTm g c x j := by
  unfold mWork mLead mSpl
  repeat' split
  all_goals first | rfl | (rw [add_f h1 h2 h3 h4 h5 h6 h7 h8]; done) | (rw [add_f h1 h2 h3 h4 h5 h6 h7 h8, up_at, if_neg (fun y => h9 y.1)]; done) | (rw [sp1_f h1 h2 h3 h4 h5 h6 h7 h8, sp1_f h1 h2 h3 h4 h5 h6 h7 h8, sp1_f h1 h2 h3 h4 h5 h6 h7 h8, sp1_f h1 h2 h3 h4 h5 h6 h7 h8]; done) | (rw [up_at, if_neg (fun y => h9 y.1)]; done) | (rw [ring_f ha hb hc hd]; done)
theorem work_70 (h1 : ¬ j = 24) (h2 : ¬ j = 25) : mWork g c s i 70 j = g 70 j := by
  unfold mWork mLead mSpl
  repeat' split
  all_goals first | rfl | (rw [add_70 h1 h2]; rfl) | (rw [sp1_70 h1 h2, sp1_70 h1 h2, sp1_70 h1 h2, sp1_70 h1 h2]; rfl) | (rw [ring_f (by decide) (by decide) (by decide) (by decide)]; rfl)
theorem QI_work (q : QI g b) (hb : b < 1990) (hs : okS s) : QI (mWork g c s i) (b + 1 + 2 * (if g 72 c = 5 ∧ g 93 c = 0 then 1 else 0)) := by
  by_cases h5 : g 72 c = 5 ∧ g 93 c = 0
  · rw [if_pos h5]
    have e : mWork g c s i = mSpl (mTm g c) c s i := by
      unfold mWork
      simp only [h5.1, h5.2, b2_T, b2_F, Int.reduceEq, Int.reduceLT, Int.reduceLE, Int.reduceAdd, Int.reduceSub, Int.reduceMul, Int.reduceNeg, reduceIte, if_true, if_false, true_or, or_true, false_or, or_false, false_and, and_false, eq_self, not_false_eq_true, not_true_eq_false, true_and, and_true, List.cons_append, List.nil_append, List.append_nil, b2_0, b2_1, b2_01, Classical.not_not]
    rw [e]
    have q0 : QI (mTm g c) b := QI_tm q
    have s0 : s = 0 ∨ s = 1 ∨ s = 2 ∨ s = 3 := by have := hs.1; have := hs.2; omega
    have z : ∀ h : Mm, mSp1 h c s i s = h := fun h => if_pos rfl
    unfold mSpl
    rcases s0 with rfl | rfl | rfl | rfl
    · rw [z]
      exact QI_mono (QI_sp1 (QI_sp1 (QI_sp1 q0 (by omega)) (by omega)) (by omega)) (by omega)
    · rw [z]
      exact QI_mono (QI_sp1 (QI_sp1 (QI_sp1 q0 (by omega)) (by omega)) (by omega)) (by omega)
    · rw [z]
      exact QI_mono (QI_sp1 (QI_sp1 (QI_sp1 q0 (by omega)) (by omega)) (by omega)) (by omega)
    · rw [z]
      exact QI_mono (QI_sp1 (QI_sp1 (QI_sp1 q0 (by omega)) (by omega)) (by omega)) (by omega)
  · rw [if_neg h5]
    have q0 : QI (mTm g c) b := QI_tm q
    have q1 : QI (up (mTm g c) 94 c 1) b := q
    unfold mWork mLead
    repeat' split
    all_goals first | exact QI_mono (QI_add q0 (by omega)) (by omega) | exact QI_mono (QI_add q1 (by omega)) (by omega) | exact QI_mono q0 (by omega) | exact QI_mono q1 (by omega) | (exfalso; omega) | skip
    have e : ∀ x j, (x = 70 ∨ x = 91 ∨ x = 92) → mRing (mTm g c) (96 * g 70 45 + c) i x j = mTm g c x j := fun x j hx => ring_f (by omega) (by omega) (by omega) (by omega)
    unfold QI
    rw [e 70 24 (by omega), e 70 25 (by omega)]
    refine ⟨⟨q0.1.1, by have := q0.1.2; omega⟩, ⟨q0.2.1.1, by have := q0.2.1.2; omega⟩, fun t h1 h2 => ?_⟩
    rw [e 91 t (by omega), e 92 t (by omega)]
    intro h3
    have := q0.2.2 t h1 h2 h3
    omega
theorem GA_sp1 (a : GA g n) (q : QI g b) (hc : isC c) (hi : 0 ≤ i ∧ i < n) : GA (mSp1 g c s i o) n := by
  unfold mSp1
  have nw := a.nw
  split
  · exact a
  · exact GA_add a q (nxt_c hc) opp_s (by omega) (by omega)
theorem GA_lead (a : GA g n) (q : QI g b) (hc : isC c) (hi : 0 ≤ i ∧ i < n) (ht : 0 ≤ t ∧ t < 100) : GA (mLead g c t i) n := by
  unfold mLead
  have nw := a.nw
  exact GA_add a q (nxt_c hc) opp_s (by omega) (by omega)
theorem GA_work (a : GA g n) (q : QI g b) (hb : b < 1990) (hc : isC c) (hs : okS s) (hi : 0 ≤ i ∧ i < n) (ht : g 93 c + 1 ≤ n) (hr : g 105 (96 * g 70 45 + c) + 1 ≤ n) (hk : g 101 (6 * g 70 45 + 4) + 1 ≤ n) : GA (mWork g c s i) n := by
  have a0 : GA (mTm g c) n := GA_tm a ht (a.tm c hc).1
  have q0 : QI (mTm g c) b := QI_tm q
  have a1 : GA (up (mTm g c) 94 c 1) n := GA_dn a0
  have q1 : QI (up (mTm g c) 94 c 1) b := q
  have nw := a.nw
  have pc := a.p c hc
  unfold mWork
  split
  · split
    · exact GA_add a1 q1 (nxt_c hc) hs (by omega) (by omega)
    · exact a0
  · split
    · split
      · exact a0
      · exact GA_lead a0 q0 hc hi (by omega)
    · split
      · rename_i h3
        split
        · exact GA_lead a0 q0 (pc.ma h3).1 hi (by omega)
        · exact a0
      · split
        · rename_i h4
          have := pc.bt h4
          split
          · exact GA_lead a0 q0 hc hi (by omega)
          · exact a0
        · split
          · split
            · unfold mSpl
              exact GA_sp1 (GA_sp1 (GA_sp1 (GA_sp1 a0 q0 hc hi) (QI_sp1 q0 (by omega)) hc hi) (QI_sp1 (QI_sp1 q0 (by omega)) (by omega)) hc hi) (QI_sp1 (QI_sp1 (QI_sp1 q0 (by omega)) (by omega)) (by omega)) hc hi
            · exact a0
          · split
            · split
              · exact GA_lead a0 q0 hc hi (by omega)
              · exact a0
            · split
              · exact a1
              · split
                · exact GA_ring a0 hc hr hk
                · exact a0
theorem ne_ad {X a : Int} (h : ¬ a = 0) : (X = X + a) = False := eq_false (by omega)
theorem told_e {e : Int} (h0 : 0 ≤ e ∧ e < 6) : mTold g c s k u 102 (6000 * g 70 45 + 6 * cnt g + e) = if e = 0 then g 70 26 else if e = 1 then c else if e = 2 then s else if e = 3 then k else if e = 4 then (if hsm g c then 0 else 1) else u := by
  have h : e = 0 ∨ e = 1 ∨ e = 2 ∨ e = 3 ∨ e = 4 ∨ e = 5 := by omega
  unfold mTold
  rcases h with rfl | rfl | rfl | rfl | rfl | rfl
  all_goals simp only [up_at, Int.add_zero, Int.add_right_inj, ne_ad (a := 1) (by decide), ne_ad (a := 2) (by decide), ne_ad (a := 3) (by decide), ne_ad (a := 4) (by decide), ne_ad (a := 5) (by decide), b2_T, b2_F, Int.reduceEq, Int.reduceLT, Int.reduceLE, Int.reduceAdd, Int.reduceSub, Int.reduceMul, Int.reduceNeg, reduceIte, if_true, if_false, true_or, or_true, false_or, or_false, false_and, and_false, eq_self, not_false_eq_true, not_true_eq_false, true_and, and_true, List.cons_append, List.nil_append, List.append_nil, b2_0, b2_1, b2_01, Classical.not_not]
theorem told_o {e : Int} (h0 : 0 ≤ e ∧ e < 6) (hi : i < cnt g) : mTold g c s k u 102 (6000 * g 70 45 + 6 * i + e) = g 102 (6000 * g 70 45 + 6 * i + e) := by
  unfold mTold
  simp only [up_at]
  rw [if_neg (by omega), if_neg (by omega), if_neg (by omega), if_neg (by omega), if_neg (by omega), if_neg (by omega), if_neg (by omega), if_neg (by omega), if_neg (by omega), if_neg (by omega)]
theorem told_f (h1 : ¬ x = 102) (h2 : ¬ x = 101) (h3 : ¬ x = 106) (h4 : ¬ x = 109) : mTold g c s k u x j = g x j := by
  unfold mTold
  simp only [up_at, h1, h2, h3, h4, b2_T, b2_F, Int.reduceEq, Int.reduceLT, Int.reduceLE, Int.reduceAdd, Int.reduceSub, Int.reduceMul, Int.reduceNeg, reduceIte, if_true, if_false, true_or, or_true, false_or, or_false, false_and, and_false, eq_self, not_false_eq_true, not_true_eq_false, true_and, and_true, List.cons_append, List.nil_append, List.append_nil, b2_0, b2_1, b2_01, Classical.not_not]
theorem told_n : cnt (mTold g c s k u) = cnt g + 1 := by
  have e : mTold g c s k u 70 45 = g 70 45 := told_f (by decide) (by decide) (by decide) (by decide)
  unfold cnt
  rw [e]
  unfold mTold
  simp only [up_at, Int.add_right_inj, b2_T, b2_F, Int.reduceEq, Int.reduceLT, Int.reduceLE, Int.reduceAdd, Int.reduceSub, Int.reduceMul, Int.reduceNeg, reduceIte, if_true, if_false, true_or, or_true, false_or, or_false, false_and, and_false, eq_self, not_false_eq_true, not_true_eq_false, true_and, and_true, List.cons_append, List.nil_append, List.append_nil, b2_0, b2_1, b2_01, Classical.not_not]
theorem told_101 : mTold g c s k u 101 (6 * g 70 45 + j) = if j = 3 then g 101 (6 * g 70 45 + 3) + (if hsm g c then 0 else 1) else if j = 2 then cnt g + 1 else g 101 (6 * g 70 45 + j) := by
  unfold mTold
  simp only [up_at, Int.add_right_inj, b2_T, b2_F, Int.reduceEq, Int.reduceLT, Int.reduceLE, Int.reduceAdd, Int.reduceSub, Int.reduceMul, Int.reduceNeg, reduceIte, if_true, if_false, true_or, or_true, false_or, or_false, false_and, and_false, eq_self, not_false_eq_true, not_true_eq_false, true_and, and_true, List.cons_append, List.nil_append, List.append_nil, b2_0, b2_1, b2_01, Classical.not_not]
theorem told_106 : mTold g c s k u 106 (96 * g 70 45 + j) = if j = c then g 106 (96 * g 70 45 + c) + 1 else g 106 (96 * g 70 45 + j) := by
  unfold mTold
  simp only [up_at, Int.add_right_inj, b2_T, b2_F, Int.reduceEq, Int.reduceLT, Int.reduceLE, Int.reduceAdd, Int.reduceSub, Int.reduceMul, Int.reduceNeg, reduceIte, if_true, if_false, true_or, or_true, false_or, or_false, false_and, and_false, eq_self, not_false_eq_true, not_true_eq_false, true_and, and_true, List.cons_append, List.nil_append, List.append_nil, b2_0, b2_1, b2_01, Classical.not_not]
theorem told_109 : mTold g c s k u 109 (96 * g 70 45 + j) = if j = c then (if g 109 (96 * g 70 45 + c) = 0 then (if hsm g c then 0 else 1) else 1) else g 109 (96 * g 70 45 + j) := by
  unfold mTold
  simp only [up_at, Int.add_right_inj, b2_T, b2_F, Int.reduceEq, Int.reduceLT, Int.reduceLE, Int.reduceAdd, Int.reduceSub, Int.reduceMul, Int.reduceNeg, reduceIte, if_true, if_false, true_or, or_true, false_or, or_false, false_and, and_false, eq_self, not_false_eq_true, not_true_eq_false, true_and, and_true, List.cons_append, List.nil_append, List.append_nil, b2_0, b2_1, b2_01, Classical.not_not]
theorem GA_told (a : GA g (cnt g)) (hn : cnt g < 1000) (hc : isC c) (hs : okS s) (hk : -1 ≤ k ∧ k < cnt g) : GA (mTold g c s k u) (cnt g + 1) := by
  have f : ∀ x j, (x = 70 ∨ x = 72 ∨ x = 73 ∨ x = 74 ∨ x = 75 ∨ x = 76 ∨ x = 86 ∨ x = 87 ∨ x = 88 ∨ x = 90 ∨ x = 91 ∨ x = 93 ∨ x = 95 ∨ x = 96 ∨ x = 97 ∨ x = 98 ∨ x = 99 ∨ x = 105) → mTold g c s k u x j = g x j := fun x j hx => told_f (by omega) (by omega) (by omega) (by omega)
  have e70 : ∀ j, mTold g c s k u 70 j = g 70 j := fun j => f 70 j (by omega)
  refine ⟨Sh_told a.S, PV_cg a.p (fun j => f 72 j (by omega)) (fun j => f 73 j (by omega)) (fun j => f 74 j (by omega)) (fun j => f 75 j (by omega)) (fun j => f 76 j (by omega)), ?_, ?_, ?_, ?_, ?_, ?_, ?_, ?_, ?_, ?_, ?_, ?_, ?_⟩
  · rw [e70]; exact a.bk
  · rw [e70]; exact a.nw
  · intro d hd
    have := a.tm d hd
    rw [f 93 d (by omega)]; omega
  · intro d hd
    have := a.rg d hd
    rw [e70, f 105 _ (by omega)]; omega
  · intro d hd
    have := a.hs d hd
    rw [e70, told_106]
    split
    · rename_i h; subst h; omega
    · omega
  · have := a.rc
    rw [e70, told_101, if_neg (by decide), if_neg (by decide)]; omega
  · have := a.lc
    rw [e70, told_101, if_pos rfl]
    split <;> omega
  · rw [e70]; exact a.bm
  · intro d hd
    have := a.on d hd
    rw [f 95 d (by omega), f 72 d (by omega), e70]; exact this
  · intro y h1 h2
    rw [e70] at h2
    have := a.at' y h1 h2
    rw [f 96 _ (by omega), f 97 _ (by omega), f 98 _ (by omega), f 99 _ (by omega)]
    refine ⟨this.1, this.2.elim Or.inl (fun z => Or.inr ⟨z.1, z.2.1, z.2.2.1, z.2.2.2.1, by have := z.2.2.2.2; omega⟩)⟩
  · intro y h1 h2
    rw [e70] at h2
    have := a.nd y h1 h2
    rw [f 86 _ (by omega), f 87 _ (by omega), f 88 _ (by omega), f 90 _ (by omega), e70]
    exact ⟨this.1, this.2.1, by have := this.2.2.1; omega, this.2.2.2⟩
  · intro y h1 h2
    rw [f 91 _ (by omega), e70]; exact a.fs y h1 h2
  · intro y h1 h2
    rw [e70]
    by_cases hy : y = cnt g
    · subst hy
      rw [told_e (e := 1) (by omega), told_e (e := 2) (by omega), told_e (e := 3) (by omega)]
      simp only [b2_T, b2_F, Int.reduceEq, Int.reduceLT, Int.reduceLE, Int.reduceAdd, Int.reduceSub, Int.reduceMul, Int.reduceNeg, reduceIte, if_true, if_false, true_or, or_true, false_or, or_false, false_and, and_false, eq_self, not_false_eq_true, not_true_eq_false, true_and, and_true, List.cons_append, List.nil_append, List.append_nil, b2_0, b2_1, b2_01, Classical.not_not]
      exact ⟨hc, hs, hk.1, hk.2⟩
    · rw [told_o (e := 1) (by omega) (by omega), told_o (e := 2) (by omega) (by omega), told_o (e := 3) (by omega) (by omega)]
      exact a.lg y h1 (by omega)
end INV2
