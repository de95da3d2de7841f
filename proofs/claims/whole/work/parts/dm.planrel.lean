/-! changes of a plan on both sides -/
section PLANREL
variable {X Y : Mm} {p q c k a b s o t v i j : Int}
theorem plc_1 : plc X p c k a b (p + 1) j = if j = c then k else X (p + 1) j := by
  unfold plc
  simp only [up_at, Int.add_right_inj, b2_T, b2_F, Int.reduceEq, Int.reduceLT, Int.reduceLE, Int.reduceAdd, Int.reduceSub, Int.reduceMul, Int.reduceNeg, reduceIte, if_true, if_false, true_or, or_true, false_or, or_false, false_and, and_false, eq_self, not_false_eq_true, not_true_eq_false, true_and, and_true, List.cons_append, List.nil_append, List.append_nil, b2_0, b2_1, b2_01, Classical.not_not]
theorem plc_2 : plc X p c k a b (p + 2) j = if j = c then nA k a else X (p + 2) j := by
  unfold plc
  simp only [up_at, Int.add_right_inj, b2_T, b2_F, Int.reduceEq, Int.reduceLT, Int.reduceLE, Int.reduceAdd, Int.reduceSub, Int.reduceMul, Int.reduceNeg, reduceIte, if_true, if_false, true_or, or_true, false_or, or_false, false_and, and_false, eq_self, not_false_eq_true, not_true_eq_false, true_and, and_true, List.cons_append, List.nil_append, List.append_nil, b2_0, b2_1, b2_01, Classical.not_not]
theorem plc_3 : plc X p c k a b (p + 3) j = if j = c then nB k b else X (p + 3) j := by
  unfold plc
  simp only [up_at, Int.add_right_inj, b2_T, b2_F, Int.reduceEq, Int.reduceLT, Int.reduceLE, Int.reduceAdd, Int.reduceSub, Int.reduceMul, Int.reduceNeg, reduceIte, if_true, if_false, true_or, or_true, false_or, or_false, false_and, and_false, eq_self, not_false_eq_true, not_true_eq_false, true_and, and_true, List.cons_append, List.nil_append, List.append_nil, b2_0, b2_1, b2_01, Classical.not_not]
theorem plc_f (h : ¬ (p + 1 ≤ i ∧ i ≤ p + 3)) : plc X p c k a b i j = X i j := by
  unfold plc
  rw [up_at, if_neg (by omega), up_at, if_neg (by omega), up_at, if_neg (by omega)]
theorem ly_72 : ly Y c k a b 72 j = if j = c then k else Y 72 j := by
  unfold ly
  simp only [up_at, b2_T, b2_F, Int.reduceEq, Int.reduceLT, Int.reduceLE, Int.reduceAdd, Int.reduceSub, Int.reduceMul, Int.reduceNeg, reduceIte, if_true, if_false, true_or, or_true, false_or, or_false, false_and, and_false, eq_self, not_false_eq_true, not_true_eq_false, true_and, and_true, List.cons_append, List.nil_append, List.append_nil, b2_0, b2_1, b2_01, Classical.not_not]
theorem ly_73 : ly Y c k a b 73 j = if j = c then nM k a else Y 73 j := by
  unfold ly
  simp only [up_at, b2_T, b2_F, Int.reduceEq, Int.reduceLT, Int.reduceLE, Int.reduceAdd, Int.reduceSub, Int.reduceMul, Int.reduceNeg, reduceIte, if_true, if_false, true_or, or_true, false_or, or_false, false_and, and_false, eq_self, not_false_eq_true, not_true_eq_false, true_and, and_true, List.cons_append, List.nil_append, List.append_nil, b2_0, b2_1, b2_01, Classical.not_not]
theorem ly_74 : ly Y c k a b 74 j = if j = c then nB k b else Y 74 j := by
  unfold ly
  simp only [up_at, b2_T, b2_F, Int.reduceEq, Int.reduceLT, Int.reduceLE, Int.reduceAdd, Int.reduceSub, Int.reduceMul, Int.reduceNeg, reduceIte, if_true, if_false, true_or, or_true, false_or, or_false, false_and, and_false, eq_self, not_false_eq_true, not_true_eq_false, true_and, and_true, List.cons_append, List.nil_append, List.append_nil, b2_0, b2_1, b2_01, Classical.not_not]
theorem ly_75 : ly Y c k a b 75 j = if j = c then -1 else Y 75 j := by
  unfold ly
  simp only [up_at, b2_T, b2_F, Int.reduceEq, Int.reduceLT, Int.reduceLE, Int.reduceAdd, Int.reduceSub, Int.reduceMul, Int.reduceNeg, reduceIte, if_true, if_false, true_or, or_true, false_or, or_false, false_and, and_false, eq_self, not_false_eq_true, not_true_eq_false, true_and, and_true, List.cons_append, List.nil_append, List.append_nil, b2_0, b2_1, b2_01, Classical.not_not]
theorem ly_f (h : ¬ (72 ≤ i ∧ i ≤ 75)) : ly Y c k a b i j = Y i j := by
  unfold ly
  rw [up_at, if_neg (by omega), up_at, if_neg (by omega), up_at, if_neg (by omega), up_at, if_neg (by omega)]
theorem nAM (h : 1 ≤ k ∧ k ≤ 9) : nA k a = nM k a := by
  unfold nA nM
  split <;> split <;> omega
theorem PR_ly (P : PR X p Y) (hk : 1 ≤ k ∧ k ≤ 9) (h3 : ¬ k = 3) : PR (plc X p c k a b) p (ly Y c k a b) := by
  refine ⟨fun d hd => ?_, fun d hd => ?_, fun d hd => ?_, fun d hd => ?_, ?_, fun y y0 y1 => ?_⟩
  · rw [plc_1, ly_72, P.k d hd]
  · rw [plc_2, plc_3, ly_72, ly_73, ly_74, nAM hk]
    by_cases h : d = c
    · rw [if_pos h, if_pos h, if_pos h, if_pos h, if_pos h]
      exact fun _ => ⟨rfl, rfl⟩
    · rw [if_neg h, if_neg h, if_neg h, if_neg h, if_neg h]
      exact P.a d hd
  · rw [plc_f (by omega), ly_72, ly_75]
    by_cases h : d = c
    · rw [if_pos h]
      exact fun y => absurd y h3
    · rw [if_neg h, if_neg h]
      exact P.o d hd
  · rw [plc_f (by omega), ly_f (by decide)]; exact P.b d hd
  · rw [plc_f (by omega), ly_f (by decide)]; exact P.s
  · rw [ly_f (by decide)] at y1
    rw [plc_f (by omega), plc_f (by omega), plc_f (by omega), ly_f (by decide), ly_f (by decide), ly_f (by decide)]
    exact P.t y y0 y1
theorem PR_ball (P : PR X p Y) : PR (up X (p + 5) c v) p (up Y 76 c v) := by
  have fX : ∀ x j, ¬ x = p + 5 → up X (p + 5) c v x j = X x j := fun x j h => by rw [up_at, if_neg (fun y => h y.1)]
  have fY : ∀ x j, ¬ x = 76 → up Y 76 c v x j = Y x j := fun x j h => by rw [up_at, if_neg (fun y => h y.1)]
  refine ⟨fun d hd => ?_, fun d hd => ?_, fun d hd => ?_, fun d hd => ?_, ?_, fun y y0 y1 => ?_⟩
  · rw [fX _ _ (by omega)]; exact P.k d hd
  · rw [fX _ _ (by omega), fX _ _ (by omega)]; exact P.a d hd
  · rw [fX _ _ (by omega)]; exact P.o d hd
  · have := P.b d hd
    simp only [up_at, b2_T, b2_F, Int.reduceEq, Int.reduceLT, Int.reduceLE, Int.reduceAdd, Int.reduceSub, Int.reduceMul, Int.reduceNeg, reduceIte, if_true, if_false, true_or, or_true, false_or, or_false, false_and, and_false, eq_self, not_false_eq_true, not_true_eq_false, true_and, and_true, List.cons_append, List.nil_append, List.append_nil, b2_0, b2_1, b2_01, Classical.not_not]
    rw [this]
  · rw [fX _ _ (by omega)]; exact P.s
  · rw [fX _ _ (by omega), fX _ _ (by omega), fX _ _ (by omega)]; exact P.t y y0 y1
theorem clr_e (hc : isC c) : clr X p c = up (plc X p c 0 0 0) (p + 5) c 0 := if_pos hc
theorem PR_clr (P : PR X p Y) (hc : isC c) : PR (clr X p c) p (up (up Y 72 c 0) 76 c 0) := by
  rw [clr_e hc]
  apply PR_ball
  refine ⟨fun d hd => ?_, fun d hd => ?_, fun d hd => ?_, fun d hd => ?_, ?_, fun y y0 y1 => ?_⟩
  · rw [plc_1, up_at, P.k d hd]
    simp only [b2_T, b2_F, Int.reduceEq, Int.reduceLT, Int.reduceLE, Int.reduceAdd, Int.reduceSub, Int.reduceMul, Int.reduceNeg, reduceIte, if_true, if_false, true_or, or_true, false_or, or_false, false_and, and_false, eq_self, not_false_eq_true, not_true_eq_false, true_and, and_true, List.cons_append, List.nil_append, List.append_nil, b2_0, b2_1, b2_01, Classical.not_not]
  · rw [plc_2, plc_3]
    simp only [up_at, b2_T, b2_F, Int.reduceEq, Int.reduceLT, Int.reduceLE, Int.reduceAdd, Int.reduceSub, Int.reduceMul, Int.reduceNeg, reduceIte, if_true, if_false, true_or, or_true, false_or, or_false, false_and, and_false, eq_self, not_false_eq_true, not_true_eq_false, true_and, and_true, List.cons_append, List.nil_append, List.append_nil, b2_0, b2_1, b2_01, Classical.not_not]
    by_cases h : d = c
    · rw [if_pos h]
      exact fun y => absurd rfl y
    · rw [if_neg h, if_neg h, if_neg h]
      exact P.a d hd
  · rw [plc_f (by omega)]
    simp only [up_at, b2_T, b2_F, Int.reduceEq, Int.reduceLT, Int.reduceLE, Int.reduceAdd, Int.reduceSub, Int.reduceMul, Int.reduceNeg, reduceIte, if_true, if_false, true_or, or_true, false_or, or_false, false_and, and_false, eq_self, not_false_eq_true, not_true_eq_false, true_and, and_true, List.cons_append, List.nil_append, List.append_nil, b2_0, b2_1, b2_01, Classical.not_not]
    by_cases h : d = c
    · rw [if_pos h]
      exact fun y => absurd y (by decide)
    · rw [if_neg h]
      exact P.o d hd
  · rw [plc_f (by omega), up_at, if_neg (by omega)]; exact P.b d hd
  · rw [plc_f (by omega), up_at, if_neg (by omega)]; exact P.s
  · rw [plc_f (by omega), plc_f (by omega), plc_f (by omega)]
    exact P.t y y0 y1
theorem bec_1' (h : 1 ≤ i ∧ i ≤ 5) (hj : 0 ≤ j ∧ j < 96) : bec X p q (p + i) j = X (q + i) j := by
  unfold bec
  rw [up_at, if_neg (by omega)]
  unfold bcg
  rw [if_pos (Or.inl (by omega)), show q + (p + i - p) = q + i by omega]
theorem bec_6' (h : 6 ≤ i ∧ i ≤ 8) (hj : 0 ≤ j ∧ j < 4) : bec X p q (p + i) j = X (q + i) j := by
  unfold bec
  rw [up_at, if_neg (by omega)]
  unfold bcg
  rw [if_pos (Or.inr (by omega)), show q + (p + i - p) = q + i by omega]
theorem bec_8' : bec X p q p 8 = X q 8 := by
  unfold bec
  simp only [up_at, b2_T, b2_F, Int.reduceEq, Int.reduceLT, Int.reduceLE, Int.reduceAdd, Int.reduceSub, Int.reduceMul, Int.reduceNeg, reduceIte, if_true, if_false, true_or, or_true, false_or, or_false, false_and, and_false, eq_self, not_false_eq_true, not_true_eq_false, true_and, and_true, List.cons_append, List.nil_append, List.append_nil, b2_0, b2_1, b2_01, Classical.not_not]
theorem bec_f (h : ¬ (p ≤ i ∧ i ≤ p + 8)) : bec X p q i j = X i j := by
  unfold bec
  rw [up_at, if_neg (by omega), bcg_of (by omega)]
theorem PR_bec (P : PR X q Y) (v : SV Y) : PR (bec X p q) p Y := by
  have vn := v.n
  refine ⟨fun d hd => ?_, fun d hd => ?_, fun d hd => ?_, fun d hd => ?_, ?_, fun y y0 y1 => ?_⟩
  · rw [bec_1' (by decide) hd]; exact P.k d hd
  · rw [bec_1' (by decide) hd, bec_1' (by decide) hd]; exact P.a d hd
  · rw [bec_1' (by decide) hd]; exact P.o d hd
  · rw [bec_1' (by decide) hd]; exact P.b d hd
  · rw [bec_8']; exact P.s
  · rw [bec_6' (by decide) (by omega), bec_6' (by decide) (by omega), bec_6' (by decide) (by omega)]
    exact P.t y y0 y1
theorem PR_mX {Z : Mm} (P : PR X p Y) (f : ∀ x j, p ≤ x → x ≤ p + 8 → Z x j = X x j) : PR Z p Y := PR_m P f
/-- a piece or a ball moved on the reference's side -/
def mPc (g : Mm) (c o : Int) : Mm :=
  let h := up (up (up (up (up g 72 o (g 72 c)) 73 o (g 73 c)) 74 o (g 74 c)) 75 o (g 75 c)) 72 c 0
  if g 72 c = 3 then up h 75 (g 75 c) o else h
def mvG (g : Mm) (c o : Int) : Mm := if ¬ g 76 c = 0 then up (up g 76 c 0) 76 o 1 else mPc g c o
theorem mPc_72 (h : ¬ c = o) : mPc Y c o 72 j = if j = c then 0 else if j = o then Y 72 c else Y 72 j := by
  unfold mPc
  try dsimp only
  split <;> simp only [up_at, b2_T, b2_F, Int.reduceEq, Int.reduceLT, Int.reduceLE, Int.reduceAdd, Int.reduceSub, Int.reduceMul, Int.reduceNeg, reduceIte, if_true, if_false, true_or, or_true, false_or, or_false, false_and, and_false, eq_self, not_false_eq_true, not_true_eq_false, true_and, and_true, List.cons_append, List.nil_append, List.append_nil, b2_0, b2_1, b2_01, Classical.not_not]
theorem mPc_73 : mPc Y c o 73 j = if j = o then Y 73 c else Y 73 j := by
  unfold mPc
  try dsimp only
  split <;> simp only [up_at, b2_T, b2_F, Int.reduceEq, Int.reduceLT, Int.reduceLE, Int.reduceAdd, Int.reduceSub, Int.reduceMul, Int.reduceNeg, reduceIte, if_true, if_false, true_or, or_true, false_or, or_false, false_and, and_false, eq_self, not_false_eq_true, not_true_eq_false, true_and, and_true, List.cons_append, List.nil_append, List.append_nil, b2_0, b2_1, b2_01, Classical.not_not]
theorem mPc_74 : mPc Y c o 74 j = if j = o then Y 74 c else Y 74 j := by
  unfold mPc
  try dsimp only
  split <;> simp only [up_at, b2_T, b2_F, Int.reduceEq, Int.reduceLT, Int.reduceLE, Int.reduceAdd, Int.reduceSub, Int.reduceMul, Int.reduceNeg, reduceIte, if_true, if_false, true_or, or_true, false_or, or_false, false_and, and_false, eq_self, not_false_eq_true, not_true_eq_false, true_and, and_true, List.cons_append, List.nil_append, List.append_nil, b2_0, b2_1, b2_01, Classical.not_not]
theorem mPc_75 : mPc Y c o 75 j = if Y 72 c = 3 ∧ j = Y 75 c then o else if j = o then Y 75 c else Y 75 j := by
  unfold mPc
  by_cases h : Y 72 c = 3
  · simp only [if_pos h, up_at, h, b2_T, b2_F, Int.reduceEq, Int.reduceLT, Int.reduceLE, Int.reduceAdd, Int.reduceSub, Int.reduceMul, Int.reduceNeg, reduceIte, if_true, if_false, true_or, or_true, false_or, or_false, false_and, and_false, eq_self, not_false_eq_true, not_true_eq_false, true_and, and_true, List.cons_append, List.nil_append, List.append_nil, b2_0, b2_1, b2_01, Classical.not_not]
  · simp only [if_neg h, up_at, h, b2_T, b2_F, Int.reduceEq, Int.reduceLT, Int.reduceLE, Int.reduceAdd, Int.reduceSub, Int.reduceMul, Int.reduceNeg, reduceIte, if_true, if_false, true_or, or_true, false_or, or_false, false_and, and_false, eq_self, not_false_eq_true, not_true_eq_false, true_and, and_true, List.cons_append, List.nil_append, List.append_nil, b2_0, b2_1, b2_01, Classical.not_not]
theorem mPc_f (h : ¬ (72 ≤ i ∧ i ≤ 75)) : mPc Y c o i j = Y i j := by
  unfold mPc
  try dsimp only
  split
  · rw [up_at, if_neg (by omega), up_at, if_neg (by omega), up_at, if_neg (by omega), up_at, if_neg (by omega), up_at, if_neg (by omega), up_at, if_neg (by omega)]
  · rw [up_at, if_neg (by omega), up_at, if_neg (by omega), up_at, if_neg (by omega), up_at, if_neg (by omega), up_at, if_neg (by omega)]
theorem PR_mov (P : PR X p Y) (pv : PV Y) (pn : PN Y) (hc : isC c) (ho : isC o) (hco : ¬ c = o) (hm : ¬ Y 76 c = 0 ∨ ¬ Y 72 c = 0) : PR (mov X p c o) p (mvG Y c o) := by
  have b := P.b c hc
  have kk := P.k c hc
  unfold mov mvG
  rw [b]
  by_cases h1 : Y 76 c = 0
  · rw [if_neg (not_not_intro h1), if_neg (not_not_intro h1)]
    have hk := hm.resolve_left (fun x => x h1)
    have ha := P.a c hc hk
    have na := pn c hc hk
    obtain ⟨t, ht⟩ : ∃ t, t = if Y 72 c = 3 then Y 75 c else -1 := ⟨_, rfl⟩
    have e1 : (if X (p + 1) c = 3 then X (p + 4) c else -1) = t := by
      rw [kk, ht]
      by_cases h3 : Y 72 c = 3
      · rw [if_pos h3, if_pos h3]; exact P.o c hc h3
      · rw [if_neg h3, if_neg h3]
    have e2 : (0 ≤ t ∧ t < 96) ↔ Y 72 c = 3 := by
      rw [ht]
      by_cases h3 : Y 72 c = 3
      · rw [if_pos h3]
        exact ⟨fun _ => h3, fun _ => ((pv c hc).ma h3).1⟩
      · rw [if_neg h3]
        exact ⟨fun y => absurd y (by omega), fun y => absurd y h3⟩
    dsimp only
    rw [e1, clr_e hc, kk, ha.1, ha.2]
    have z : ∀ x j, (if 0 ≤ t ∧ t < 96 then up (up (plc X p o (Y 72 c) (Y 73 c) (Y 74 c)) (p + 4) o t) (p + 4) t o else up (plc X p o (Y 72 c) (Y 73 c) (Y 74 c)) (p + 4) o t) x j = if x = p + 4 then (if Y 72 c = 3 ∧ j = t then o else if j = o then t else X x j) else plc X p o (Y 72 c) (Y 73 c) (Y 74 c) x j := by
      intro x j
      by_cases hx : x = p + 4
      · subst hx
        rw [if_pos rfl]
        by_cases h3 : Y 72 c = 3
        · rw [if_pos (e2.2 h3)]
          simp only [up_at, h3, b2_T, b2_F, Int.reduceEq, Int.reduceLT, Int.reduceLE, Int.reduceAdd, Int.reduceSub, Int.reduceMul, Int.reduceNeg, reduceIte, if_true, if_false, true_or, or_true, false_or, or_false, false_and, and_false, eq_self, not_false_eq_true, not_true_eq_false, true_and, and_true, List.cons_append, List.nil_append, List.append_nil, b2_0, b2_1, b2_01, Classical.not_not]
          rw [plc_f (by omega)]
        · rw [if_neg (fun y => h3 (e2.1 y)), if_neg (fun y => h3 y.1)]
          simp only [up_at, b2_T, b2_F, Int.reduceEq, Int.reduceLT, Int.reduceLE, Int.reduceAdd, Int.reduceSub, Int.reduceMul, Int.reduceNeg, reduceIte, if_true, if_false, true_or, or_true, false_or, or_false, false_and, and_false, eq_self, not_false_eq_true, not_true_eq_false, true_and, and_true, List.cons_append, List.nil_append, List.append_nil, b2_0, b2_1, b2_01, Classical.not_not]
          rw [plc_f (by omega)]
      · rw [if_neg hx]
        split
        · rw [up_at, if_neg (fun y => hx y.1), up_at, if_neg (fun y => hx y.1)]
        · rw [up_at, if_neg (fun y => hx y.1)]
    obtain ⟨Z, hZ⟩ : ∃ Z, Z = (if 0 ≤ t ∧ t < 96 then up (up (plc X p o (Y 72 c) (Y 73 c) (Y 74 c)) (p + 4) o t) (p + 4) t o else up (plc X p o (Y 72 c) (Y 73 c) (Y 74 c)) (p + 4) o t) := ⟨_, rfl⟩
    rw [← hZ] at z ⊢
    have zo : ∀ x j, ¬ x = p + 4 → Z x j = plc X p o (Y 72 c) (Y 73 c) (Y 74 c) x j := fun x j h => by rw [z, if_neg h]
    have z4 : ∀ j, Z (p + 4) j = if Y 72 c = 3 ∧ j = t then o else if j = o then t else X (p + 4) j := fun j => by rw [z, if_pos rfl]
    have fZ : ∀ x j, ¬ x = p + 5 → up (plc Z p c 0 0 0) (p + 5) c 0 x j = plc Z p c 0 0 0 x j := fun x j h => by rw [up_at, if_neg (fun y => h y.1)]
    refine ⟨fun d hd => ?_, fun d hd => ?_, fun d hd => ?_, fun d hd => ?_, ?_, fun y y0 y1 => ?_⟩
    · rw [fZ _ _ (by omega), plc_1, zo _ _ (by omega), plc_1, mPc_72 hco, P.k d hd]
    · rw [fZ _ _ (by omega), fZ _ _ (by omega), plc_2, plc_3, zo _ _ (by omega), zo _ _ (by omega), plc_2, plc_3, mPc_72 hco, mPc_73, mPc_74]
      by_cases h2 : d = c
      · rw [if_pos h2, if_pos h2, if_pos h2]
        exact fun y => absurd rfl y
      · rw [if_neg h2, if_neg h2, if_neg h2]
        by_cases h4 : d = o
        · rw [if_pos h4, if_pos h4, if_pos h4, if_pos h4, if_pos h4]
          exact fun _ => na
        · rw [if_neg h4, if_neg h4, if_neg h4, if_neg h4, if_neg h4]
          exact P.a d hd
    · rw [fZ _ _ (by omega), plc_f (by omega), z4, mPc_72 hco, mPc_75]
      by_cases h2 : d = c
      · rw [if_pos h2]
        exact fun y => absurd y (by decide)
      · rw [if_neg h2]
        by_cases h4 : d = o
        · rw [if_pos h4]
          intro h3
          have ht3 : t = Y 75 c := by rw [ht, if_pos h3]
          rw [ht3, if_pos h4, if_pos h4]
        · rw [if_neg h4, if_neg h4, if_neg h4]
          intro h3
          by_cases h5 : Y 72 c = 3
          · have ht3 : t = Y 75 c := by rw [ht, if_pos h5]
            rw [ht3, P.o d hd h3]
          · rw [if_neg (fun y => h5 y.1), if_neg (fun y => h5 y.1)]
            exact P.o d hd h3
    · have e5 : up (plc Z p c 0 0 0) (p + 5) c 0 (p + 5) d = if d = c then 0 else X (p + 5) d := by
        rw [up_at, plc_f (by omega), zo _ _ (by omega), plc_f (by omega)]
        simp only [b2_T, b2_F, Int.reduceEq, Int.reduceLT, Int.reduceLE, Int.reduceAdd, Int.reduceSub, Int.reduceMul, Int.reduceNeg, reduceIte, if_true, if_false, true_or, or_true, false_or, or_false, false_and, and_false, eq_self, not_false_eq_true, not_true_eq_false, true_and, and_true, List.cons_append, List.nil_append, List.append_nil, b2_0, b2_1, b2_01, Classical.not_not]
      rw [e5, mPc_f (by decide)]
      by_cases h2 : d = c
      · rw [if_pos h2, h2, h1]
      · rw [if_neg h2]
        exact P.b d hd
    · rw [fZ _ _ (by omega), plc_f (by omega), zo _ _ (by omega), plc_f (by omega), mPc_f (by decide)]
      exact P.s
    · rw [mPc_f (by decide)] at y1
      rw [fZ _ _ (by omega), plc_f (by omega), zo _ _ (by omega), plc_f (by omega), fZ _ _ (by omega), plc_f (by omega), zo _ _ (by omega), plc_f (by omega), fZ _ _ (by omega), plc_f (by omega), zo _ _ (by omega), plc_f (by omega), mPc_f (by decide), mPc_f (by decide), mPc_f (by decide)]
      exact P.t y y0 y1
  · rw [if_pos h1, if_pos h1]
    exact PR_ball (PR_ball P)
end PLANREL
