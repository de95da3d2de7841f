/-! a strike on both sides -/
def mNote (g : Mm) (c s k u : Int) : Mm := if g 72 c = 8 then mRing (mTold g c s k u) (96 * g 70 45 + c) (cnt g) else mTold g c s k u
section RELHIT
variable {m h g q : Mm} {r p n w v k j c s o f i t l ti wy b u : Int}
/-- the relation does not look at times -/
theorem RR_gg (R : RR m r p g w v) (e : ∀ x j, ¬ x = 93 → q x j = g x j) : RR m r p q w v := by
  have e45 := e 70 45 (by decide)
  have ec : cnt q = cnt g := by
    unfold cnt
    rw [e45, e 101 _ (by decide)]
  refine ⟨R.S, R.pp, ?_, ?_, ?_, ?_, ?_, ?_⟩
  · exact PR_g R.P (fun x j h1 h2 => e x j (by omega)) (e 70 6 (by decide))
  · exact RC_g R.C (fun x j hx => e x j (by omega)) e45
  · exact RB_g R.B (fun x j hx => e x j (by omega)) (e 70 30 (by decide)) (by rw [e45, e 101 _ (by decide)])
  · exact RS_g R.X (e 70 26 (by decide)) (by rw [e45, e 101 _ (by decide)]) (by rw [e45, e 101 _ (by decide)]) ec
  · exact RLo_g R.L e45 ec (fun j => e 102 j (by decide)) (fun j => e 72 j (by decide))
  · exact RQ_g R.Q (fun x j h1 h2 => e x j (by omega)) (e 70 24 (by decide)) (e 70 25 (by decide))
/-- a domino falls, a gate opens -/
theorem RR_dn (R : RR m r p g w v) (hr : r = 34 ∨ r = 52) (hp : p = 9 ∨ p = 18) : RR (up m (r + 16) c 1) r p (up g 94 c 1) w v := by
  have e : ∀ x j, ¬ x = 94 → up g 94 c 1 x j = g x j := fun x j hx => by simp only [up_at, hx, b2_T, b2_F, Int.reduceEq, Int.reduceLT, Int.reduceLE, Int.reduceAdd, Int.reduceSub, Int.reduceMul, Int.reduceNeg, reduceIte, if_true, if_false, true_or, or_true, false_or, or_false, false_and, and_false, eq_self, not_false_eq_true, not_true_eq_false, true_and, and_true, List.cons_append, List.nil_append, List.append_nil, b2_0, b2_1, b2_01, Classical.not_not]
  have f : ∀ x j, ¬ x = r + 16 → up m (r + 16) c 1 x j = m x j := fun x j hx => by simp only [up_at, hx, b2_T, b2_F, Int.reduceEq, Int.reduceLT, Int.reduceLE, Int.reduceAdd, Int.reduceSub, Int.reduceMul, Int.reduceNeg, reduceIte, if_true, if_false, true_or, or_true, false_or, or_false, false_and, and_false, eq_self, not_false_eq_true, not_true_eq_false, true_and, and_true, List.cons_append, List.nil_append, List.append_nil, b2_0, b2_1, b2_01, Classical.not_not]
  refine ⟨Sh_ar R.S (by rcases hr with rfl | rfl <;> decide), ?_, ?_, ?_, ?_, ?_, ?_, ?_⟩
  · rw [f _ _ (by omega)]; exact R.pp
  · exact PR_g (PR_m R.P (fun x j h1 h2 => f x j (by omega))) (fun x j h1 h2 => e x j (by omega)) (e 70 6 (by decide))
  · have C := R.C
    refine ⟨fun d hd => ?_, fun d hd => ?_, fun d hd => ?_, fun d hd => ?_, fun d hd => ?_⟩
    · rw [f _ _ (by omega)]; exact C.hi d hd
    · rw [f _ _ (by omega)]; exact C.ri d hd
    · rw [f _ _ (by omega)]; exact C.fr d hd
    · have := C.ch d hd
      simp only [up_at, b2_T, b2_F, Int.reduceEq, Int.reduceLT, Int.reduceLE, Int.reduceAdd, Int.reduceSub, Int.reduceMul, Int.reduceNeg, reduceIte, if_true, if_false, true_or, or_true, false_or, or_false, false_and, and_false, eq_self, not_false_eq_true, not_true_eq_false, true_and, and_true, List.cons_append, List.nil_append, List.append_nil, b2_0, b2_1, b2_01, Classical.not_not]
      rw [this]
    · rw [f _ _ (by omega)]; exact C.lo d hd
  · exact RB_g (RB_m R.B (fun x j h1 h2 => f x j (by omega))) (fun x j hx => e x j (by omega)) rfl rfl
  · exact RS_g (RS_m R.X (f _ _ (by omega)) (f _ _ (by omega)) (f _ _ (by omega)) (f _ _ (by omega)) (f _ _ (by omega))) rfl rfl rfl rfl
  · exact RLo_g (RLo_m R.L (fun x j h1 h2 => f x j (by omega))) rfl rfl (fun j => rfl) (fun j => rfl)
  · exact RQ_g (RQ_m R.Q (fun x j h1 h2 => f x j (by omega))) (fun x j h1 h2 => e x j (by omega)) rfl rfl
theorem RR_spl (R : RR m r p g w v) (hr : r = 34 ∨ r = 52) (hp : p = 9 ∨ p = 18) (nw : 0 ≤ g 70 26 ∧ g 70 26 < 400) (q : QI g b) (hb : b < 1990) : RR (xSpl m r c s i) r p (mSpl g c s i) w v := by
  have R1 := RR_sp1 (c := c) (s := s) (i := i) (o := 0) R hr hp nw q
  have q1 := QI_sp1 (c := c) (s := s) (i := i) (o := 0) q (by omega)
  have n1 : 0 ≤ mSp1 g c s i 0 70 26 ∧ mSp1 g c s i 0 70 26 < 400 := by rw [sp1_26]; exact nw
  have R2 := RR_sp1 (c := c) (s := s) (i := i) (o := 1) R1 hr hp n1 q1
  have q2 := QI_sp1 (c := c) (s := s) (i := i) (o := 1) q1 (by omega)
  have n2 : 0 ≤ mSp1 (mSp1 g c s i 0) c s i 1 70 26 ∧ mSp1 (mSp1 g c s i 0) c s i 1 70 26 < 400 := by rw [sp1_26]; exact n1
  have R3 := RR_sp1 (c := c) (s := s) (i := i) (o := 2) R2 hr hp n2 q2
  have q3 := QI_sp1 (c := c) (s := s) (i := i) (o := 2) q2 (by omega)
  have n3 : 0 ≤ mSp1 (mSp1 (mSp1 g c s i 0) c s i 1) c s i 2 70 26 ∧ mSp1 (mSp1 (mSp1 g c s i 0) c s i 1) c s i 2 70 26 < 400 := by rw [sp1_26]; exact n2
  exact RR_sp1 (c := c) (s := s) (i := i) (o := 3) R3 hr hp n3 q3
theorem opp_opp (h : okS s) : opp (opp s) = s := by
  have h1 := h.1
  have h2 := h.2
  unfold opp
  omega
theorem xpush_f {B : Int} {a : Int} (h : ¬ (B ≤ a ∧ a ≤ B + 5)) : xPush m B n w k a j = m a j := by
  unfold xPush
  split
  · simp only [up_at, show ¬ a = B by omega, show ¬ a = B + 3 by omega, show ¬ a = B + 4 by omega, show ¬ a = B + 5 by omega, b2_T, b2_F, Int.reduceEq, Int.reduceLT, Int.reduceLE, Int.reduceAdd, Int.reduceSub, Int.reduceMul, Int.reduceNeg, reduceIte, if_true, if_false, true_or, or_true, false_or, or_false, false_and, and_false, eq_self, not_false_eq_true, not_true_eq_false, true_and, and_true, List.cons_append, List.nil_append, List.append_nil, b2_0, b2_1, b2_01, Classical.not_not]
  · rfl
theorem Sh_xpush {B : Int} (S : Sh m) (hB : B = 40 ∨ B = 58) : Sh (xPush m B n w k) := by
  unfold xPush
  split
  · rcases hB with rfl | rfl
    · exact Sh.up (Sh_ar (Sh_ar (Sh_ar S (by decide)) (by decide)) (by decide)) (by decide)
    · exact Sh.up (Sh_ar (Sh_ar (Sh_ar S (by decide)) (by decide)) (by decide)) (by decide)
  · exact S
theorem RR_push (R : RR m r p g w v) (hr : r = 34 ∨ r = 52) (hp : p = 9 ∨ p = 18) (hn : 0 ≤ n ∧ n < 96) (hb : n < g 70 30) (hP : ¬ g 72 c = 9 ∨ jand (jshr (g 73 c) t) 1 = 1) (ht : ¬ t = -1) : RR (xPush m (r + 6) n t i) r p (mOff g n c t i) w v := by
  have f : ∀ x j, ¬ (r + 6 ≤ x ∧ x ≤ r + 11) → xPush m (r + 6) n t i x j = m x j := fun x j hx => xpush_f (by omega)
  have e : ∀ x j, ¬ x = 97 → ¬ x = 98 → ¬ x = 99 → mOff g n c t i x j = g x j := fun x j => off_f
  have ec : cnt (mOff g n c t i) = cnt g := by
    unfold cnt
    rw [e 70 45 (by decide) (by decide) (by decide), e 101 _ (by decide) (by decide) (by decide)]
  have e45 := e 70 45 (by decide) (by decide) (by decide)
  refine ⟨Sh_xpush R.S (by omega), ?_, ?_, ?_, RB_push R.B hr hn hb hP ht, ?_, ?_, ?_⟩
  · rw [f _ _ (by omega)]; exact R.pp
  · exact PR_g (PR_m R.P (fun x j h1 h2 => f x j (by omega))) (fun x j h1 h2 => e x j (by omega) (by omega) (by omega)) (e 70 6 (by decide) (by decide) (by decide))
  · exact RC_g (RC_m R.C (fun x j h1 h2 => f x j (by omega))) (fun x j hx => e x j (by omega) (by omega) (by omega)) e45
  · exact RS_g (RS_m R.X (f _ _ (by omega)) (f _ _ (by omega)) (f _ _ (by omega)) (f _ _ (by omega)) (f _ _ (by omega))) (e 70 26 (by decide) (by decide) (by decide)) (by rw [e45, e 101 _ (by decide) (by decide) (by decide)]) (by rw [e45, e 101 _ (by decide) (by decide) (by decide)]) ec
  · exact RLo_g (RLo_m R.L (fun x j h1 h2 => f x j (by omega))) e45 ec (fun j => e 102 j (by decide) (by decide) (by decide)) (fun j => e 72 j (by decide) (by decide) (by decide))
  · exact RQ_g (RQ_m R.Q (fun x j h1 h2 => f x j (by omega))) (fun x j h1 h2 => e x j (by omega) (by omega) (by omega)) (e 70 24 (by decide) (by decide) (by decide)) (e 70 25 (by decide) (by decide) (by decide))
/-- works: the class's against the reference's (g: after the telling) -/
theorem RR_hit (R : RR m r p g w v) (hr : r = 34 ∨ r = 52) (hp : p = 9 ∨ p = 18) (A : GA g n) (q : QI g b) (hb : b < 1990) (hc : isC c) (hs : okS s) (h8 : ¬ g 72 c = 8) (ht : ¬ g 72 c = 0 → ¬ g 72 c = 7 → ¬ g 72 c = 9 → g 106 (96 * g 70 45 + c) = g 93 c + 1) (hm : g 72 c = 3 → g 106 (96 * g 70 45 + g 75 c) = g 93 (g 75 c)) : RR (xHit m r g c s i) r p (mHit g c s i) w v := by
  have nw := A.nw
  have e0 : ∀ x j, ¬ x = 93 → mTm g c x j = g x j := fun x j hx => by
    unfold mTm
    simp only [up_at, hx, b2_T, b2_F, Int.reduceEq, Int.reduceLT, Int.reduceLE, Int.reduceAdd, Int.reduceSub, Int.reduceMul, Int.reduceNeg, reduceIte, if_true, if_false, true_or, or_true, false_or, or_false, false_and, and_false, eq_self, not_false_eq_true, not_true_eq_false, true_and, and_true, List.cons_append, List.nil_append, List.append_nil, b2_0, b2_1, b2_01, Classical.not_not]
  have R0 : RR m r p (mTm g c) w v := RR_gg R e0
  have q0 : QI (mTm g c) b := QI_tm q
  have os := opp_s (s := s)
  have pk := (A.p c hc).k
  unfold xHit mHit
  by_cases hb1 : g 95 c = -1
  · rw [if_neg (not_not_intro hb1), if_neg (not_not_intro hb1)]
    by_cases k0 : g 72 c = 0
    · rw [if_pos k0]
      simp only [k0, b2_T, b2_F, Int.reduceEq, Int.reduceLT, Int.reduceLE, Int.reduceAdd, Int.reduceSub, Int.reduceMul, Int.reduceNeg, reduceIte, if_true, if_false, true_or, or_true, false_or, or_false, false_and, and_false, eq_self, not_false_eq_true, not_true_eq_false, true_and, and_true, List.cons_append, List.nil_append, List.append_nil, b2_0, b2_1, b2_01, Classical.not_not]
      exact R
    · rw [if_neg k0]
      unfold mWork
      by_cases k1 : g 72 c = 1
      · rw [if_pos k1, if_pos k1]
        by_cases hx : g 94 c = 0 ∧ s % 2 = g 73 c
        · rw [if_pos hx, if_pos hx]
          have z := RR_set (ti := 2) (c := c) (wy := opp s) (k := i) (l := 1) (RR_dn (c := c) R0 hr hp) hr hp (by decide) nw q0
          rw [opp_opp hs] at z
          exact z
        · rw [if_neg hx, if_neg hx]
          exact R0
      · rw [if_neg k1, if_neg k1]
        by_cases k2 : g 72 c = 2
        · rw [if_pos k2, if_pos k2]
          by_cases hx : s = g 73 c
          · rw [if_pos hx, if_pos hx]
            exact R0
          · rw [if_neg hx, if_neg hx]
            exact RR_set (ti := 1) (c := c) (wy := g 73 c) (k := i) (l := 0) R0 hr hp (by decide) nw q0
        · rw [if_neg k2, if_neg k2]
          by_cases k3 : g 72 c = 3
          · rw [if_pos k3, if_pos k3]
            have ma := (A.p c hc).ma k3
            have e1 : mTm g c 93 (g 75 c) = g 93 (g 75 c) := by
              unfold mTm
              simp only [up_at, ma.2.2.2, b2_T, b2_F, Int.reduceEq, Int.reduceLT, Int.reduceLE, Int.reduceAdd, Int.reduceSub, Int.reduceMul, Int.reduceNeg, reduceIte, if_true, if_false, true_or, or_true, false_or, or_false, false_and, and_false, eq_self, not_false_eq_true, not_true_eq_false, true_and, and_true, List.cons_append, List.nil_append, List.append_nil, b2_0, b2_1, b2_01, Classical.not_not]
            have ht := ht (by omega) (by omega) (by omega)
            have hm := hm k3
            rw [e1]
            by_cases hx : g 93 c = 0 ∧ g 93 (g 75 c) = 0
            · rw [if_pos hx, if_pos (by omega)]
              exact RR_set (ti := 1) (c := g 75 c) (wy := g 73 (g 75 c)) (k := i) (l := 0) R0 hr hp (by decide) nw q0
            · rw [if_neg hx, if_neg (by omega)]
              exact R0
          · rw [if_neg k3, if_neg k3]
            by_cases k4 : g 72 c = 4
            · rw [if_pos k4, if_pos k4]
              have ht := ht (by omega) (by omega) (by omega)
              have bt := (A.p c hc).bt k4
              by_cases hx : g 93 c = 0
              · rw [if_pos hx, if_pos (by omega)]
                exact RR_set (ti := g 74 c) (c := c) (wy := g 73 c) (k := i) (l := 0) R0 hr hp (by omega) nw q0
              · rw [if_neg hx, if_neg (by omega)]
                exact R0
            · rw [if_neg k4, if_neg k4]
              by_cases k5 : g 72 c = 5
              · rw [if_pos k5, if_pos k5]
                have ht := ht (by omega) (by omega) (by omega)
                by_cases hx : g 93 c = 0
                · rw [if_pos hx, if_pos (by omega)]
                  exact RR_spl R0 hr hp nw q0 hb
                · rw [if_neg hx, if_neg (by omega)]
                  exact R0
              · rw [if_neg k5, if_neg k5]
                by_cases k6 : g 72 c = 6
                · rw [if_pos k6, if_pos k6]
                  have ht := ht (by omega) (by omega) (by omega)
                  by_cases hx : g 93 c + 1 = g 74 c
                  · rw [if_pos hx, if_pos (by omega)]
                    exact RR_set (ti := 1) (c := c) (wy := g 73 c) (k := i) (l := 0) R0 hr hp (by decide) nw q0
                  · rw [if_neg hx, if_neg (by omega)]
                    exact R0
                · rw [if_neg k6, if_neg k6]
                  by_cases k7 : g 72 c = 7
                  · rw [if_pos k7, if_pos k7]
                    exact RR_dn R0 hr hp
                  · rw [if_neg k7, if_neg k7, if_neg h8]
                    exact R0
  · rw [if_pos hb1, if_pos hb1]
    have on := (A.on c hc).resolve_left hb1
    have bm := A.bm
    have o1 : ¬ opp s = -1 := by have := os.1; omega
    by_cases hP : ¬ g 72 c = 9 ∨ jand (jshr (g 73 c) (opp s)) 1 = 1
    · rw [if_pos hP]
      exact RR_push R hr hp ⟨on.1, by omega⟩ on.2.1 hP o1
    · rw [if_neg hP]
      have e : mOff g (g 95 c) c (opp s) i = g := by
        unfold mOff
        rw [if_neg (fun x => hP x.2)]
      rw [e]
      exact R
end RELHIT
