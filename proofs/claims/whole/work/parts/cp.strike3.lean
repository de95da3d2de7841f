/-! the reference's run: a strike, a set one, a ball that rolls on -/
abbrev fre (g : Mm) (o f : Int) : Prop := g 72 o = 0 ∨ (g 72 o = 7 ∧ ¬ g 94 o = 0) ∨ (g 72 o = 9 ∧ jand (jshr (g 73 o) f) 1 = 1)
def mLand (g : Mm) (k : Int) : Int := if ¬ g 89 k = 0 ∧ ¬ hsm g (g 86 k) then (if hsm g (nxt (g 86 k) (opp (g 87 k))) then nxt (g 86 k) (opp (g 87 k)) else g 86 k) else g 86 k
def mDoes (g : Mm) (k : Int) : Mm := mStrike g (mLand g k) (g 87 k) (g 88 k) 0
def mGo1 (g : Mm) (n c o : Int) : Mm := up (up (up (up g 95 c (-1)) 95 o n) 96 n o) 98 n (g 98 n - 1)
def mGo2 (g : Mm) (n c o f : Int) : Mm := if g 72 o = 9 then up (mGo1 g n c o) 97 n (oth (g 73 o) f) else mGo1 g n c o
def mGo (g : Mm) (n c o f : Int) : Mm := if g 98 n - 1 = 0 then up (mGo2 g n c o f) 97 n (-1) else mGo2 g n c o f
def mGone (g : Mm) (n c : Int) : Mm := up (up (up g 95 c (-1)) 97 n (-1)) 101 (6 * g 70 45 + 5) (w32 (g 101 (6 * g 70 45 + 5) + 1))
def mRoll (g : Mm) (n : Int) : Mm :=
  if nxt (g 96 n) (g 97 n) = -1 then mGone g n (g 96 n)
  else if ¬ g 95 (nxt (g 96 n) (g 97 n)) = -1 ∨ ¬ fre g (nxt (g 96 n) (g 97 n)) (opp (g 97 n)) then mStrike (up g 97 n (-1)) (nxt (g 96 n) (g 97 n)) (opp (g 97 n)) (g 99 n) 1
  else mGo g n (g 96 n) (nxt (g 96 n) (g 97 n)) (opp (g 97 n))
theorem nsp_b {g : Mm} : 0 ≤ nsp g ∧ nsp g ≤ 96 := by
  have h := sm_b (f := fun c => if g 72 c = 5 ∧ ¬ g 93 c = 0 then 1 else 0) (fun c => by split <;> omega) 96
  exact h
theorem nsp_cg {g h : Mm} (e1 : ∀ j, h 72 j = g 72 j) (e2 : ∀ j, h 93 j = g 93 j) : nsp h = nsp g := by
  unfold nsp
  exact sm_cg 96 (fun c _ _ => by simp only [e1, e2])
section STRIKE3
variable {tl : Ds} {m g : Mm} {Q : Ds → Mm → List MV → Prop} {c s i b k u j n : Int}
theorem work_101 (h4 : ¬ j = 4) : mWork g c s i 101 (6 * g 70 45 + j) = g 101 (6 * g 70 45 + j) := by
  have hr : ∀ (h : Mm) t, h 70 45 = g 70 45 → h 101 = g 101 → mRing h t i 101 (6 * g 70 45 + j) = g 101 (6 * g 70 45 + j) := by
    intro h t e1 e2
    unfold mRing
    try dsimp only
    split <;> simp only [up_at, e1, e2, Int.add_right_inj, h4, b2_T, b2_F, Int.reduceEq, Int.reduceLT, Int.reduceLE, Int.reduceAdd, Int.reduceSub, Int.reduceMul, Int.reduceNeg, reduceIte, if_true, if_false, true_or, or_true, false_or, or_false, false_and, and_false, eq_self, not_false_eq_true, not_true_eq_false, true_and, and_true, List.cons_append, List.nil_append, List.append_nil, b2_0, b2_1, b2_01, Classical.not_not]
  unfold mWork mLead mSpl
  repeat' split
  all_goals first | rfl | (rw [add_f (by decide) (by decide) (by decide) (by decide) (by decide) (by decide) (by decide) (by decide)]; rfl) | (rw [sp1_f (by decide) (by decide) (by decide) (by decide) (by decide) (by decide) (by decide) (by decide), sp1_f (by decide) (by decide) (by decide) (by decide) (by decide) (by decide) (by decide) (by decide), sp1_f (by decide) (by decide) (by decide) (by decide) (by decide) (by decide) (by decide) (by decide), sp1_f (by decide) (by decide) (by decide) (by decide) (by decide) (by decide) (by decide) (by decide)]; rfl) | exact hr _ _ rfl rfl
theorem work_cnt : cnt (mWork g c s i) = cnt g := by
  unfold cnt
  rw [work_70 (by decide) (by decide), work_101 (by decide)]
theorem nsp_work (hc : isC c) (ht : 0 ≤ g 93 c) : nsp (mWork g c s i) = nsp g + if g 72 c = 5 ∧ g 93 c = 0 then 1 else 0 := by
  have e1 : ∀ j, mWork g c s i 72 j = g 72 j := fun j => work_f (x := 72) (by decide) (by decide) (by decide) (by decide) (by decide) (by decide) (by decide) (by decide) (by decide) (by decide) (by decide) (by decide) (by decide)
  have e2 : ∀ j, mWork g c s i 93 j = mTm g c 93 j := fun j => work_f (x := 93) (by decide) (by decide) (by decide) (by decide) (by decide) (by decide) (by decide) (by decide) (by decide) (by decide) (by decide) (by decide) (by decide)
  have e3 : mTm g c 93 c = g 93 c + 1 := by
    unfold mTm
    simp only [up_at, b2_T, b2_F, Int.reduceEq, Int.reduceLT, Int.reduceLE, Int.reduceAdd, Int.reduceSub, Int.reduceMul, Int.reduceNeg, reduceIte, if_true, if_false, true_or, or_true, false_or, or_false, false_and, and_false, eq_self, not_false_eq_true, not_true_eq_false, true_and, and_true, List.cons_append, List.nil_append, List.append_nil, b2_0, b2_1, b2_01, Classical.not_not]
  unfold nsp
  rw [sm_pt (c := c) (f := fun c => if g 72 c = 5 ∧ ¬ g 93 c = 0 then 1 else 0) (h := fun x => if mWork g c s i 72 x = 5 ∧ ¬ mWork g c s i 93 x = 0 then 1 else 0)]
  · rw [if_pos ⟨hc.1, hc.2⟩]
    simp only [e1, e2, e3]
    by_cases h5 : g 72 c = 5
    · by_cases h6 : g 93 c = 0
      · rw [if_pos ⟨h5, by omega⟩, if_neg (fun x => x.2 h6), if_pos ⟨h5, h6⟩]
        omega
      · rw [if_pos ⟨h5, by omega⟩, if_pos ⟨h5, h6⟩, if_neg (fun x => h6 x.2)]
        omega
    · rw [if_neg (fun x => h5 x.1), if_neg (fun x => h5 x.1), if_neg (fun x => h5 x.1)]
      omega
  · intro x hx
    have e4 : mTm g c 93 x = g 93 x := by
      unfold mTm
      simp only [up_at, hx, b2_T, b2_F, Int.reduceEq, Int.reduceLT, Int.reduceLE, Int.reduceAdd, Int.reduceSub, Int.reduceMul, Int.reduceNeg, reduceIte, if_true, if_false, true_or, or_true, false_or, or_false, false_and, and_false, eq_self, not_false_eq_true, not_true_eq_false, true_and, and_true, List.cons_append, List.nil_append, List.append_nil, b2_0, b2_1, b2_01, Classical.not_not]
    simp only [e1, e2, e4]
theorem off_f {x to : Int} (h1 : ¬ x = 97) (h2 : ¬ x = 98) (h3 : ¬ x = 99) : mOff g n c to i x j = g x j := by
  unfold mOff
  split
  · simp only [up_at, h1, h2, h3, b2_T, b2_F, Int.reduceEq, Int.reduceLT, Int.reduceLE, Int.reduceAdd, Int.reduceSub, Int.reduceMul, Int.reduceNeg, reduceIte, if_true, if_false, true_or, or_true, false_or, or_false, false_and, and_false, eq_self, not_false_eq_true, not_true_eq_false, true_and, and_true, List.cons_append, List.nil_append, List.append_nil, b2_0, b2_1, b2_01, Classical.not_not]
  · rfl
theorem QI_cg {g h : Mm} (q : QI g b) (h1 : h 70 24 = g 70 24) (h2 : h 70 25 = g 70 25) (h3 : ∀ j, h 91 j = g 91 j) (h4 : ∀ j, h 92 j = g 92 j) : QI h b := by
  unfold QI
  rw [h1, h2]
  refine ⟨q.1, q.2.1, fun t t0 t1 => ?_⟩
  rw [h3, h4]
  exact q.2.2 t t0 t1
theorem GI_hit (a : GA g n) (e : cnt g = n) (hn : 0 ≤ n ∧ n ≤ 1000) (q : QI g (4 + (n - 1) + 2 * nsp g)) (hc : isC c) (hs : okS s) (hi : 0 ≤ i ∧ i < n) (ht : g 93 c + 1 ≤ n) (hr : g 105 (96 * g 70 45 + c) + 1 ≤ n) (hk : g 101 (6 * g 70 45 + 4) + 1 ≤ n) : GI (mHit g c s i) := by
  have nb := nsp_b (g := g)
  unfold mHit
  split
  · have on := a.on c hc
    have e2 : cnt (mOff g (g 95 c) c (opp s) i) = n := by
      unfold cnt
      rw [off_f (by decide) (by decide) (by decide), off_f (by decide) (by decide) (by decide)]
      exact e
    refine ⟨?_, ?_, ?_⟩
    · rw [e2]; exact hn
    · rw [e2]
      exact GA_off a (by omega) opp_s hi
    · rw [e2, nsp_cg (g := g) (fun j => off_f (by decide) (by decide) (by decide)) (fun j => off_f (by decide) (by decide) (by decide))]
      exact QI_cg (QI_mono q (by omega)) (off_f (by decide) (by decide) (by decide)) (off_f (by decide) (by decide) (by decide)) (fun j => off_f (by decide) (by decide) (by decide)) (fun j => off_f (by decide) (by decide) (by decide))
  · split
    · exact ⟨by rw [e]; exact hn, by rw [e]; exact a, by rw [e]; exact QI_mono q (by omega)⟩
    · refine ⟨?_, ?_, ?_⟩
      · rw [work_cnt, e]; exact hn
      · rw [work_cnt, e]; exact GA_work a q (by omega) hc hs hi ht hr hk
      · rw [work_cnt, e, nsp_work hc (a.tm c hc).1]
        exact QI_mono (QI_work q (by omega) hs) (by split <;> omega)
theorem GI_strike (a : GI g) (hn : cnt g < 1000) (hc : isC c) (hs : okS s) (hk : -1 ≤ k ∧ k < cnt g) : GI (mStrike g c s k u) := by
  have f : ∀ x j, (x = 70 ∨ x = 72 ∨ x = 91 ∨ x = 92 ∨ x = 93 ∨ x = 105) → mTold g c s k u x j = g x j := fun x j hx => told_f (by omega) (by omega) (by omega) (by omega)
  have e70 : ∀ j, mTold g c s k u 70 j = g 70 j := fun j => f 70 j (by omega)
  have cn := a.cn
  have en : nsp (mTold g c s k u) = nsp g := nsp_cg (fun j => f 72 j (by omega)) (fun j => f 93 j (by omega))
  have t1 := a.a.tm c hc
  have t2 := a.a.rg c hc
  have t3 := a.a.rc
  unfold mStrike
  apply GI_hit (GA_told a.a hn hc hs hk) told_n (by omega) ?_ hc hs (by omega) ?_ ?_ ?_
  · rw [en]
    exact QI_cg (QI_mono a.q (by omega)) (e70 24) (e70 25) (fun j => f 91 j (by omega)) (fun j => f 92 j (by omega))
  · rw [f 93 c (by omega)]; omega
  · rw [e70, f 105 _ (by omega)]; omega
  · rw [e70, told_101, if_neg (by decide), if_neg (by decide)]; omega
theorem e158 (a : GI m) (hn : cnt m < 1000) (hc : isC c) (hs : okS s) (hu : u = 0 ∨ u = 1) : WP 158 0 [(2, 70), (0, c), (0, s), (0, k), (0, u), (3, 0), (3, 0), (3, 0)] [] (dsB ++ tl) m Q = Q (dsB ++ tl) (mStrike m c s k u) [] := by
  have f : ∀ x j, (x = 70 ∨ x = 72 ∨ x = 73 ∨ x = 74 ∨ x = 75 ∨ x = 76 ∨ x = 91 ∨ x = 92 ∨ x = 93 ∨ x = 95 ∨ x = 105) → mTold m c s k u x j = m x j := fun x j hx => told_f (by omega) (by omega) (by omega) (by omega)
  have e70 : ∀ j, mTold m c s k u 70 j = m 70 j := fun j => f 70 j (by omega)
  have cn := a.cn
  have nb := nsp_b (g := m)
  have t1 := a.a.tm
  have t2 := a.a.rg c hc
  have t3 := a.a.rc
  have t4 := a.a.lc
  have t5 := a.a.hs c hc
  have t6 := a.a.on c hc
  have t7 := a.a.bm
  have w : WI (mTold m c s k u) c (4 + cnt m + 2 * nsp m) := by
    refine ⟨?_, ?_, ?_, ?_, ?_, ?_, ?_, ?_, ?_⟩
    · exact Sh_told a.a.S
    · exact QI_cg a.q (e70 24) (e70 25) (fun j => f 91 j (by omega)) (fun j => f 92 j (by omega))
    · omega
    · exact PV_cg a.a.p (fun j => f 72 j (by omega)) (fun j => f 73 j (by omega)) (fun j => f 74 j (by omega)) (fun j => f 75 j (by omega)) (fun j => f 76 j (by omega))
    · rw [e70]; exact a.a.bk
    · rw [e70]; exact a.a.nw
    · intro d hd
      have := t1 d hd
      rw [f 93 d (by omega)]; omega
    · rw [e70, f 105 _ (by omega)]; omega
    · rw [e70, told_101, if_neg (by decide), if_neg (by decide)]; omega
  have eh : (if hsm (mTold m c s k u) c then (0 : Int) else 1) = if hsm m c then 0 else 1 := by
    unfold hsm
    simp only [f 72 c (by omega), f 95 c (by omega)]
  rw [e158a a.a.S a.a.bk ⟨cn.1, hn⟩ hc (by omega) (by omega) hu, ← eh, e158b w hc hs (by rw [f 95 c (by omega)]; omega)]
  rfl
end STRIKE3
