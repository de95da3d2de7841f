/-! keep and load, both sides -/
theorem n_96 : (96 : Int).toNat = 96 := rfl
theorem n_4 : (4 : Int).toNat = 4 := rfl
def dsP (ds : Ds) : Ds := ds ++ [(10, 96)] ++ [(10, 96)] ++ [(10, 96)] ++ [(10, 96)] ++ [(11, 96)] ++ [(10, 4)] ++ [(10, 4)] ++ [(10, 4)]
def plI (m : Mm) (q : Int) : Mm := up (al (up (al (up (al (up (al (up (al (up (al (up (al (up (al m (q + 1) (dfl 10)) q 0 (q + 1)) (q + 2) (dfl 10)) q 1 (q + 2)) (q + 3) (dfl 10)) q 2 (q + 3)) (q + 4) (dfl 10)) q 3 (q + 4)) (q + 5) (dfl 11)) q 4 (q + 5)) (q + 6) (dfl 10)) q 5 (q + 6)) (q + 7) (dfl 10)) q 6 (q + 7)) (q + 8) (dfl 10)) q 7 (q + 8)
section LOAD
variable {tl : Ds} {ds ds' : Ds} {m X Y Z X' Y' g h G A B : Mm} {Q : Ds → Mm → List MV → Prop} {p q c k a b s o v i j d n w t r e x : Int} {M M' : Nat} {as as' : List MV}
theorem e22 (h0 : 0 ≤ q) (hl : (ds.length : Int) = q + 1) (hq : dk ds q = 3) : WP 22 0 [(2, q)] [] ds m Q = Q (dsP ds) (plI m q) [] := by
  have k1 := dk_s (d := (10, 96)) (by omega) hq
  have k2 := dk_s (d := (10, 96)) k1.2 k1.1
  have k3 := dk_s (d := (10, 96)) k2.2 k2.1
  have k4 := dk_s (d := (10, 96)) k3.2 k3.1
  have k5 := dk_s (d := (11, 96)) k4.2 k4.1
  have k6 := dk_s (d := (10, 4)) k5.2 k5.1
  have k7 := dk_s (d := (10, 4)) k6.2 k6.1
  have k8 := dk_s (d := (10, 4)) k7.2 k7.1
  unfold dsP plI
  simp only [p22_0, p22_1, p22_4, p22_5, p22_7, p22_9, p22_12, p22_13, p22_15, p22_17, p22_20, p22_21, p22_23, p22_25, p22_28, p22_29, p22_31, p22_33, p22_36, p22_37, p22_39, p22_41, p22_44, p22_45, p22_46, p22_48, p22_51, p22_52, p22_53, p22_55, p22_58, p22_59, p22_60, p22_62, p22_65, hq, k1.1, k2.1, k3.1, k4.1, k5.1, k6.1, k7.1, k8.1, h0, n_m0, n_96, n_4, ln_1, hl, Int.add_assoc, b2_T, b2_F, Int.reduceEq, Int.reduceLT, Int.reduceLE, Int.reduceAdd, Int.reduceSub, Int.reduceMul, Int.reduceNeg, reduceIte, if_true, if_false, true_or, or_true, false_or, or_false, false_and, and_false, eq_self, not_false_eq_true, not_true_eq_false, true_and, and_true, List.cons_append, List.nil_append, List.append_nil, b2_0, b2_1, b2_01, Classical.not_not]
theorem plI_q (hj : 0 ≤ j ∧ j ≤ 7) : plI m q q j = q + 1 + j := by
  have h : j = 0 ∨ j = 1 ∨ j = 2 ∨ j = 3 ∨ j = 4 ∨ j = 5 ∨ j = 6 ∨ j = 7 := by omega
  have a1 : ¬ q = q + 1 := by omega
  have a2 : ¬ q = q + 2 := by omega
  have a3 : ¬ q = q + 3 := by omega
  have a4 : ¬ q = q + 4 := by omega
  have a5 : ¬ q = q + 5 := by omega
  have a6 : ¬ q = q + 6 := by omega
  have a7 : ¬ q = q + 7 := by omega
  have a8 : ¬ q = q + 8 := by omega
  unfold plI
  rcases h with rfl | rfl | rfl | rfl | rfl | rfl | rfl | rfl <;> simp only [up_at, al_at, a1, a2, a3, a4, a5, a6, a7, a8, Int.add_assoc, b2_T, b2_F, Int.reduceEq, Int.reduceLT, Int.reduceLE, Int.reduceAdd, Int.reduceSub, Int.reduceMul, Int.reduceNeg, reduceIte, if_true, if_false, true_or, or_true, false_or, or_false, false_and, and_false, eq_self, not_false_eq_true, not_true_eq_false, true_and, and_true, List.cons_append, List.nil_append, List.append_nil, b2_0, b2_1, b2_01, Classical.not_not]
theorem plI_a (hi : 1 ≤ i ∧ i ≤ 8) : plI m q (q + i) j = 0 := by
  have d0 : ∀ j, dfl 10 j = 0 := fun _ => rfl
  have d1 : ∀ j, dfl 11 j = 0 := fun _ => rfl
  have h0 : ¬ q + i = q := by omega
  unfold plI
  simp only [up_at, al_at, h0, d0, d1, b2_T, b2_F, Int.reduceEq, Int.reduceLT, Int.reduceLE, Int.reduceAdd, Int.reduceSub, Int.reduceMul, Int.reduceNeg, reduceIte, if_true, if_false, true_or, or_true, false_or, or_false, false_and, and_false, eq_self, not_false_eq_true, not_true_eq_false, true_and, and_true, List.cons_append, List.nil_append, List.append_nil, b2_0, b2_1, b2_01, Classical.not_not]
  repeat' split
  all_goals first | rfl | (exfalso; omega)
theorem plI_f (h1 : ¬ (q + 1 ≤ x ∧ x ≤ q + 8)) (h2 : ¬ (x = q ∧ 0 ≤ j ∧ j ≤ 7)) : plI m q x j = m x j := by
  unfold plI
  rw [up_at, if_neg (by omega), al_at, if_neg (by omega), up_at, if_neg (by omega), al_at, if_neg (by omega), up_at, if_neg (by omega), al_at, if_neg (by omega), up_at, if_neg (by omega), al_at, if_neg (by omega), up_at, if_neg (by omega), al_at, if_neg (by omega), up_at, if_neg (by omega), al_at, if_neg (by omega), up_at, if_neg (by omega), al_at, if_neg (by omega), up_at, if_neg (by omega), al_at, if_neg (by omega)]
theorem dsP_e : dsP ds = ds ++ [(10, 96), (10, 96), (10, 96), (10, 96), (11, 96), (10, 4), (10, 4), (10, 4)] := by
  unfold dsP
  simp only [List.append_assoc, List.cons_append, List.nil_append]
theorem PA_new (hl : (ds.length : Int) = q + 1) (hq : dk ds q = 3) (hX : ∀ j, 0 ≤ j → j ≤ 7 → X q j = q + 1 + j) : PA (dsP ds) X q := by
  have z := fun (i : Nat) => dk_in (ds := ds) (x := [(10, 96), (10, 96), (10, 96), (10, 96), (11, 96), (10, 4), (10, 4), (10, 4)]) i
  rw [← dsP_e] at z
  have t : ∀ (i : Nat) (k : Int), q + k = (ds.length : Int) + (i : Int) → dk (dsP ds) (q + k) = ([(10, 96), (10, 96), (10, 96), (10, 96), (11, 96), (10, 4), (10, 4), (10, 4)].getD i (99, 0)).1 ∧ dl (dsP ds) (q + k) = ([(10, 96), (10, 96), (10, 96), (10, 96), (11, 96), (10, 4), (10, 4), (10, 4)].getD i (99, 0)).2 := fun i k h => by
    rw [h]
    exact z i
  have t1 := t 0 1 (by omega)
  have t2 := t 1 2 (by omega)
  have t3 := t 2 3 (by omega)
  have t4 := t 3 4 (by omega)
  have t5 := t 4 5 (by omega)
  have t6 := t 5 6 (by omega)
  have t7 := t 6 7 (by omega)
  have t8 := t 7 8 (by omega)
  have x0 : X q 0 = q + 1 := (hX 0 (by decide) (by decide)).trans (by omega)
  have x1 : X q 1 = q + 2 := (hX 1 (by decide) (by decide)).trans (by omega)
  have x2 : X q 2 = q + 3 := (hX 2 (by decide) (by decide)).trans (by omega)
  have x3 : X q 3 = q + 4 := (hX 3 (by decide) (by decide)).trans (by omega)
  have x4 : X q 4 = q + 5 := (hX 4 (by decide) (by decide)).trans (by omega)
  have x5 : X q 5 = q + 6 := (hX 5 (by decide) (by decide)).trans (by omega)
  have x6 : X q 6 = q + 7 := (hX 6 (by decide) (by decide)).trans (by omega)
  have x7 : X q 7 = q + 8 := (hX 7 (by decide) (by decide)).trans (by omega)
  have y0 := dk_ap (ds := ds) (x := [(10, 96), (10, 96), (10, 96), (10, 96), (11, 96), (10, 4), (10, 4), (10, 4)]) (a := q) (by omega)
  rw [← dsP_e] at y0
  refine ⟨y0.1.trans hq, ⟨x0, x1, x2, x3, x4, x5, x6, x7⟩, ⟨t1.1, t2.1, t3.1, t4.1, t5.1, t6.1, t7.1, t8.1⟩, ?_⟩
  rw [t1.2, t2.2, t3.2, t4.2, t5.2, t6.2, t7.2, t8.2]
  exact ⟨rfl, rfl, rfl, rfl, rfl, rfl, rfl, rfl⟩
theorem pc_eq (P : PR X 9 Y) : sm (fun c => b2 (isK 0 (Y 72 c))) 96 = sm (fun c => b2 (¬ X 10 c = 0)) 96 := sm_cg 96 (fun c c0 c1 => by
  have kc := P.k c ⟨c0, by omega⟩
  simp only [Int.reduceAdd] at kc
  refine b2_cg ?_
  rw [kc]
  constructor
  · intro y
    rcases y with y | y
    · exact y.2
    · exact absurd rfl y.1
  · exact fun y => Or.inl ⟨rfl, y⟩)
theorem SK_p (H : SHV ds X Y) (hs : isH s) (h : ¬ X 2 s < 0) : SPla ds X Y s := by
  rcases H.k s hs with y | y | y
  · unfold SNon at y
    omega
  · have := y.n
    omega
  · exact y
theorem e154 (S : Sh m) (hs : isH s) (h : m 80 s = 0) : WP 154 0 [(2, 70), (0, s)] [] (dsB ++ tl) m Q = Q (dsB ++ tl) (mLod m s) [(0, sm (fun c => b2 (isK 0 (mLod m s 72 c))) 96)] := by
  have S1 : Sh (mLod m s) := mLod_Sh S
  simp only [p154_0, p154_1, p154_4, p154_7, p154_8, p154_9, p154_12, p154_13, p154_14, p154_17, p154_18, p154_19, p154_22, p154_23, p154_24, p154_25, p154_28, p154_31, p154_33, p154_36, p154_38, p154_41, p154_42, p154_43, p154_44, p154_47, p154_48, p154_49, p154_52, e139, b2_t hs, K_70, K_80, L_80, sh_70_11 S, hs.1, hs.2, h, e150 S (show 0 ≤ s ∧ s ≤ 8 by omega), e136 S1, b2_T, b2_F, Int.reduceEq, Int.reduceLT, Int.reduceLE, Int.reduceAdd, Int.reduceSub, Int.reduceMul, Int.reduceNeg, reduceIte, if_true, if_false, true_or, or_true, false_or, or_false, false_and, and_false, eq_self, not_false_eq_true, not_true_eq_false, true_and, and_true, List.cons_append, List.nil_append, List.append_nil, b2_0, b2_1, b2_01, Classical.not_not]
theorem e154no (S : Sh m) (h : (¬ isH s ∧ w = -1) ∨ (isH s ∧ 100 ≤ m 80 s ∧ w = -2) ∨ (isH s ∧ ¬ 100 ≤ m 80 s ∧ ¬ m 80 s = 0 ∧ w = -3)) : WP 154 0 [(2, 70), (0, s)] [] (dsB ++ tl) m Q = Q (dsB ++ tl) (rf m 71 (-w)) [(0, w)] := by
  rcases h with ⟨h, rfl⟩ | ⟨h, h2, rfl⟩ | ⟨h, h2, h3, rfl⟩
  · simp only [p154_0, p154_1, p154_4, p154_7, p154_8, p154_9, p154_12, p154_13, p154_14, p154_17, p154_18, p154_19, p154_22, p154_23, p154_24, p154_25, p154_28, p154_31, p154_33, p154_36, p154_38, p154_41, p154_42, p154_43, p154_44, p154_47, p154_48, p154_49, p154_52, e139, b2_f h, K_70, e121 S (show -7 ≤ (-1 : Int) ∧ (-1 : Int) ≤ -1 by decide), b2_T, b2_F, Int.reduceEq, Int.reduceLT, Int.reduceLE, Int.reduceAdd, Int.reduceSub, Int.reduceMul, Int.reduceNeg, reduceIte, if_true, if_false, true_or, or_true, false_or, or_false, false_and, and_false, eq_self, not_false_eq_true, not_true_eq_false, true_and, and_true, List.cons_append, List.nil_append, List.append_nil, b2_0, b2_1, b2_01, Classical.not_not]
  · have h3 : ¬ m 80 s = 0 := by omega
    simp only [p154_0, p154_1, p154_4, p154_7, p154_8, p154_9, p154_12, p154_13, p154_14, p154_17, p154_18, p154_19, p154_22, p154_23, p154_24, p154_25, p154_28, p154_31, p154_33, p154_36, p154_38, p154_41, p154_42, p154_43, p154_44, p154_47, p154_48, p154_49, p154_52, e139, b2_t h, e140 S h, b2_t h2, h3, h.1, h.2, K_70, K_80, L_80, sh_70_11 S, e121 S (show -7 ≤ (-2 : Int) ∧ (-2 : Int) ≤ -1 by decide), b2_T, b2_F, Int.reduceEq, Int.reduceLT, Int.reduceLE, Int.reduceAdd, Int.reduceSub, Int.reduceMul, Int.reduceNeg, reduceIte, if_true, if_false, true_or, or_true, false_or, or_false, false_and, and_false, eq_self, not_false_eq_true, not_true_eq_false, true_and, and_true, List.cons_append, List.nil_append, List.append_nil, b2_0, b2_1, b2_01, Classical.not_not]
  · simp only [p154_0, p154_1, p154_4, p154_7, p154_8, p154_9, p154_12, p154_13, p154_14, p154_17, p154_18, p154_19, p154_22, p154_23, p154_24, p154_25, p154_28, p154_31, p154_33, p154_36, p154_38, p154_41, p154_42, p154_43, p154_44, p154_47, p154_48, p154_49, p154_52, e139, b2_t h, e140 S h, b2_f h2, h3, h.1, h.2, K_70, K_80, L_80, sh_70_11 S, e121 S (show -7 ≤ (-3 : Int) ∧ (-3 : Int) ≤ -1 by decide), b2_T, b2_F, Int.reduceEq, Int.reduceLT, Int.reduceLE, Int.reduceAdd, Int.reduceSub, Int.reduceMul, Int.reduceNeg, reduceIte, if_true, if_false, true_or, or_true, false_or, or_false, false_and, and_false, eq_self, not_false_eq_true, not_true_eq_false, true_and, and_true, List.cons_append, List.nil_append, List.append_nil, b2_0, b2_1, b2_01, Classical.not_not]
theorem e81no (S : Sh m) (h : (¬ isH s ∧ w = -1) ∨ (isH s ∧ ¬ m 1 s < 0 ∧ w = -2) ∨ (isH s ∧ m 1 s < 0 ∧ m 2 s < 0 ∧ w = -3)) : WP 81 0 [(2, 0), (0, s), (3, 0)] [] (dsB ++ tl) m Q = Q (dsB ++ tl) (rf m 3 (-w)) [(0, w)] := by
  rcases h with ⟨h, rfl⟩ | ⟨h, h2, rfl⟩ | ⟨h, h2, h3, rfl⟩
  · simp only [p81_0, p81_1, p81_4, p81_7, p81_8, p81_9, p81_12, p81_13, p81_14, p81_17, p81_18, p81_19, p81_22, p81_23, p81_25, p81_28, p81_29, p81_30, p81_33, p81_34, p81_35, p81_36, p81_37, p81_40, p81_41, p81_43, p81_46, p81_47, p81_48, p81_51, p81_52, p81_55, p81_56, p81_59, p81_62, e109, b2_f h, K_0, K_3, L_3, sh_0_0 S, sh_0_1 S, sh_0_2 S, sh_0_3 S, sh_0_4 S, sh_0_5 S, sh_0_7 S, sh_0_8 S, sh_0_10 S, sh_0_12 S, sh_0_14 S, sh_0_15 S, e95 S (show -7 ≤ (-1 : Int) ∧ (-1 : Int) ≤ -1 by decide), b2_T, b2_F, Int.reduceEq, Int.reduceLT, Int.reduceLE, Int.reduceAdd, Int.reduceSub, Int.reduceMul, Int.reduceNeg, reduceIte, if_true, if_false, true_or, or_true, false_or, or_false, false_and, and_false, eq_self, not_false_eq_true, not_true_eq_false, true_and, and_true, List.cons_append, List.nil_append, List.append_nil, b2_0, b2_1, b2_01, Classical.not_not]
  · simp only [p81_0, p81_1, p81_4, p81_7, p81_8, p81_9, p81_12, p81_13, p81_14, p81_17, p81_18, p81_19, p81_22, p81_23, p81_25, p81_28, p81_29, p81_30, p81_33, p81_34, p81_35, p81_36, p81_37, p81_40, p81_41, p81_43, p81_46, p81_47, p81_48, p81_51, p81_52, p81_55, p81_56, p81_59, p81_62, e109, b2_t h, K_0, K_3, L_3, sh_0_0 S, sh_0_1 S, sh_0_2 S, sh_0_3 S, sh_0_4 S, sh_0_5 S, sh_0_7 S, sh_0_8 S, sh_0_10 S, sh_0_12 S, sh_0_14 S, sh_0_15 S, K_1, L_1, h.1, h.2, h2, e95 S (show -7 ≤ (-2 : Int) ∧ (-2 : Int) ≤ -1 by decide), b2_T, b2_F, Int.reduceEq, Int.reduceLT, Int.reduceLE, Int.reduceAdd, Int.reduceSub, Int.reduceMul, Int.reduceNeg, reduceIte, if_true, if_false, true_or, or_true, false_or, or_false, false_and, and_false, eq_self, not_false_eq_true, not_true_eq_false, true_and, and_true, List.cons_append, List.nil_append, List.append_nil, b2_0, b2_1, b2_01, Classical.not_not]
  · simp only [p81_0, p81_1, p81_4, p81_7, p81_8, p81_9, p81_12, p81_13, p81_14, p81_17, p81_18, p81_19, p81_22, p81_23, p81_25, p81_28, p81_29, p81_30, p81_33, p81_34, p81_35, p81_36, p81_37, p81_40, p81_41, p81_43, p81_46, p81_47, p81_48, p81_51, p81_52, p81_55, p81_56, p81_59, p81_62, e109, b2_t h, K_0, K_3, L_3, sh_0_0 S, sh_0_1 S, sh_0_2 S, sh_0_3 S, sh_0_4 S, sh_0_5 S, sh_0_7 S, sh_0_8 S, sh_0_10 S, sh_0_12 S, sh_0_14 S, sh_0_15 S, K_1, L_1, K_2, L_2, h.1, h.2, h2, h3, e95 S (show -7 ≤ (-3 : Int) ∧ (-3 : Int) ≤ -1 by decide), b2_T, b2_F, Int.reduceEq, Int.reduceLT, Int.reduceLE, Int.reduceAdd, Int.reduceSub, Int.reduceMul, Int.reduceNeg, reduceIte, if_true, if_false, true_or, or_true, false_or, or_false, false_and, and_false, eq_self, not_false_eq_true, not_true_eq_false, true_and, and_true, List.cons_append, List.nil_append, List.append_nil, b2_0, b2_1, b2_01, Classical.not_not]
theorem PA_bec (S : Sh m) : PA (dsB ++ tl) (bec m 9 q) 9 := by
  have h := PA_9 (tl := tl) S
  have e : ∀ j, ¬ j = 8 → bec m 9 q 9 j = m 9 j := fun j hj => by
    unfold bec
    rw [up_at, if_neg (fun y => hj y.2), bcg_of (by omega)]
  obtain ⟨g0, ⟨g1, g2, g3, g4, g5, g6, g7, g8⟩, ⟨k1, k2, k3, k4, k5, k6, k7, k8⟩, ⟨n1, n2, n3, n4, n5, n6, n7, n8⟩⟩ := h
  exact ⟨g0, ⟨(e _ (by decide)).trans g1, (e _ (by decide)).trans g2, (e _ (by decide)).trans g3, (e _ (by decide)).trans g4, (e _ (by decide)).trans g5, (e _ (by decide)).trans g6, (e _ (by decide)).trans g7, (e _ (by decide)).trans g8⟩, ⟨k1, k2, k3, k4, k5, k6, k7, k8⟩, ⟨n1, n2, n3, n4, n5, n6, n7, n8⟩⟩
theorem Sh_bec9 (S : Sh m) : Sh (bec m 9 q) := fun z hz => by
  have h1 : ∀ z ∈ SL, ¬ (10 ≤ z.1 ∧ z.1 ≤ 17) ∧ ¬ (z.1 = 9 ∧ z.2.1 = 8) := by decide
  have y := h1 z hz
  have e : bec m 9 q z.1 z.2.1 = m z.1 z.2.1 := by
    unfold bec
    rw [up_at, if_neg y.2, bcg_of (by omega)]
  rw [e]
  exact S z hz
theorem Sh_becH (S : Sh m) (h : 114 ≤ p) : Sh (bec m p q) := fun z hz => by
  have h1 := SL_lt z hz
  rw [bec_f (by omega)]
  exact S z hz
theorem e81 (S : Sh m) (hs : isH s) (h1 : m 1 s < 0) (h2 : ¬ m 2 s < 0) (A : PA (dsB ++ tl) m (m 2 s)) (l : 114 ≤ m 2 s) (hb : ∀ c : Int, 0 ≤ c → c < 96 → m (m 2 s + 5) c = 0 ∨ m (m 2 s + 5) c = 1) : WP 81 0 [(2, 0), (0, s), (3, 0)] [] (dsB ++ tl) m Q = Q (dsB ++ tl) (bec m 9 (m 2 s)) [(0, sm (fun c => b2 (¬ bec m 9 (m 2 s) 10 c = 0)) 96)] := by
  have S1 : Sh (bec m 9 (m 2 s)) := Sh_bec9 S
  have y23 := fun (Q : Ds → Mm → List MV → Prop) => e23 (Q := Q) (PA_9 (tl := tl) S) A (by omega) hb
  have y40 := fun (Q : Ds → Mm → List MV → Prop) => e40 (Q := Q) (PA_bec (tl := tl) (q := m 2 s) S)
  simp only [Int.reduceAdd] at y40
  simp only [p81_0, p81_1, p81_4, p81_7, p81_8, p81_9, p81_12, p81_13, p81_14, p81_17, p81_18, p81_19, p81_22, p81_23, p81_25, p81_28, p81_29, p81_30, p81_33, p81_34, p81_35, p81_36, p81_37, p81_40, p81_41, p81_43, p81_46, p81_47, p81_48, p81_51, p81_52, p81_55, p81_56, p81_59, p81_62, e109, b2_t hs, K_0, K_3, L_3, sh_0_0 S, sh_0_1 S, sh_0_2 S, sh_0_3 S, sh_0_4 S, sh_0_5 S, sh_0_7 S, sh_0_8 S, sh_0_10 S, sh_0_12 S, sh_0_14 S, sh_0_15 S, K_1, L_1, K_2, L_2, K_9, hs.1, hs.2, h1, h2, y23, y40, sh_0_0 S1, b2_T, b2_F, Int.reduceEq, Int.reduceLT, Int.reduceLE, Int.reduceAdd, Int.reduceSub, Int.reduceMul, Int.reduceNeg, reduceIte, if_true, if_false, true_or, or_true, false_or, or_false, false_and, and_false, eq_self, not_false_eq_true, not_true_eq_false, true_and, and_true, List.cons_append, List.nil_append, List.append_nil, b2_0, b2_1, b2_01, Classical.not_not]
theorem call_load (J : JS ds m m n) : CALL 81 154 [(2, 0), (0, s), (3, 0)] [(2, 70), (0, s)] ds m n := by
  obtain ⟨tl, rfl⟩ := J.Dt
  have S := J.S
  by_cases hs : isH s
  · have fs := SK_f J.Hv hs
    by_cases c1 : m 1 s < 0
    · by_cases c2 : m 2 s < 0
      · refine CALL_no (v := (0, -3)) (k := 3) J (by decide) (fun Q => e81no S (Or.inr (Or.inr ⟨hs, c1, c2, rfl⟩))) (fun SA fA Q => e154no SA (Or.inr (Or.inr ⟨hs, ?_, ?_, rfl⟩)))
        · rw [fA 80 s (by decide)]
          exact fun y => fs.2.1.2 y c1
        · rw [fA 80 s (by decide)]
          exact fun y => fs.1.2 y c2
      · have Pl := SK_p J.Hv hs c2
        have l := Pl.l
        have k := Pl.k
        have PP := Pl.P
        have pv := Pl.pv
        have hb : ∀ c : Int, 0 ≤ c → c < 96 → m (m 2 s + 5) c = 0 ∨ m (m 2 s + 5) c = 1 := fun c c0 c1 => by
          rw [PP.b c ⟨c0, c1⟩]
          exact (pv c ⟨c0, c1⟩).l
        have hA := fun (Q : Ds → Mm → List MV → Prop) => e81 (Q := Q) S hs c1 c2 Pl.A l hb
        have SX : Sh (bec m 9 (m 2 s)) := Sh_bec9 S
        have f : ∀ x j, ¬ (9 ≤ x ∧ x ≤ 17) → bec m 9 (m 2 s) x j = m x j := fun x j h => bec_f (by omega)
        have zX : ZP (bec m 9 (m 2 s)) 9 := ZP_bec Pl.z
        have pX : PR (bec m 9 (m 2 s)) 9 (pG m s) := PR_bec PP Pl.sv
        obtain ⟨X, hX⟩ : ∃ X, X = bec m 9 (m 2 s) := ⟨_, rfl⟩
        rw [← hX] at hA SX f zX pX
        have eg : pG X s = pG m s := pG_cg (fun i _ _ => f _ _ (by decide)) (fun i _ _ => f _ _ (by decide))
        have sv : SV (pG X s) := by rw [eg]; exact Pl.sv
        have pv2 : PV (pG X s) := by rw [eg]; exact pv
        have pn : PN (pG X s) := by rw [eg]; exact Pl.pn
        have EL : PE (pG X s) (mLod X s) := PE_lod sv.n.2
        have SZ : Sh (mLod X s) := mLod_Sh SX
        have pZ : PR X 9 (mLod X s) := PR_pe (by rw [eg]; exact pX) EL
        have hB := fun (Q : Ds → Mm → List MV → Prop) => e154 (tl := tl) (Q := Q) SX hs (by rw [f 80 s (by decide)]; exact k)
        rw [pc_eq pZ] at hB
        exact CALL_pl (v := (0, sm (fun c => b2 (¬ X 10 c = 0)) 96)) (X := X) (Z := mLod X s) J hA SX (fun x j h => f x j (by omega)) hB (fun x j h1 h2 _ _ => mLod_f h1 h2) (fun J1 => ⟨⟨SZ, PV_pe pv2 EL, SV_pe sv EL, PN_pe pn EL⟩, pZ, zX⟩)
    · refine CALL_no (v := (0, -2)) (k := 2) J (by decide) (fun Q => e81no S (Or.inr (Or.inl ⟨hs, c1, rfl⟩))) (fun SA fA Q => e154no SA (Or.inr (Or.inl ⟨hs, ?_, rfl⟩)))
      rw [fA 80 s (by decide)]
      exact fs.2.1.1 c1
  · exact CALL_no (v := (0, -1)) (k := 1) J (by decide) (fun Q => e81no S (Or.inl ⟨hs, rfl⟩)) (fun SA fA Q => e154no SA (Or.inl ⟨hs, rfl⟩))
end LOAD
