/-! new cells; row -/
theorem al_at {m : Mm} {a b j : Int} {f : Int → Int} : al m a f b j = if b = a then f j else m b j := rfl
theorem n_m0 : ((List.map cat ([] : List MV)).sum ≤ 8) = True := eq_true (by decide)
theorem dk_ap {ds x : Ds} {a : Int} (h : a < (ds.length : Int)) : dk (ds ++ x) a = dk ds a ∧ dl (ds ++ x) a = dl ds a := by
  match a, h with
  | .ofNat k, h =>
    have h2 : k < ds.length := Int.ofNat_lt.mp h
    simp only [dk, dl]
    show ((ds ++ x).getD k (99, 0)).1 = _ ∧ ((ds ++ x).getD k (99, 0)).2 = _
    simp only [List.getD_eq_getElem?_getD, List.getElem?_append_left h2]
    exact ⟨trivial, trivial⟩
  | .negSucc k, _ => exact ⟨rfl, rfl⟩
theorem dk_in {ds x : Ds} (i : Nat) : dk (ds ++ x) ((ds.length : Int) + (i : Int)) = (x.getD i (99, 0)).1 ∧ dl (ds ++ x) ((ds.length : Int) + (i : Int)) = (x.getD i (99, 0)).2 := by
  have e : ((ds.length : Int) + (i : Int)) = ((ds.length + i : Nat) : Int) := (Int.natCast_add _ _).symm
  rw [e]
  have h2 : ds.length ≤ ds.length + i := Nat.le_add_right _ _
  show ((ds ++ x).getD (ds.length + i) (99, 0)).1 = _ ∧ ((ds ++ x).getD (ds.length + i) (99, 0)).2 = _
  simp only [List.getD_eq_getElem?_getD, List.getElem?_append_right h2, Nat.add_sub_cancel_left]
  exact ⟨trivial, trivial⟩
theorem ln_1 {ds : Ds} {d : Nat × Nat} : ((ds ++ [d]).length : Int) = (ds.length : Int) + 1 := by
  rw [List.length_append]
  rfl
theorem dk_s {ds : Ds} {d : Nat × Nat} {q : Int} {k : Nat} (h : q < (ds.length : Int)) (hk : dk ds q = k) : dk (ds ++ [d]) q = k ∧ q < ((ds ++ [d]).length : Int) := ⟨(dk_ap h).1.trans hk, by rw [ln_1]; omega⟩
theorem dk_z {ds : Ds} {d : Nat × Nat} : dk (ds ++ [d]) (ds.length : Int) = d.1 ∧ dl (ds ++ [d]) (ds.length : Int) = d.2 := by
  have y := dk_in (ds := ds) (x := [d]) 0
  rw [show ((ds.length : Int) + ((0 : Nat) : Int)) = (ds.length : Int) by omega] at y
  exact y
theorem Sh_al {m : Mm} {a : Int} {f : Int → Int} (S : Sh m) (h : 114 ≤ a) : Sh (al m a f) := fun q hq => by
  have h1 := SL_lt q hq
  rw [al_at, if_neg (by omega)]
  exact S q hq
def xRw (m : Mm) (s so L L' : Int) : Mm := up (up (al (up (al (up m 2 s (-1)) L (dfl 4)) L 0 so) L' (dfl 12)) L 1 L') 1 s L
def rwZ (Y : Mm) (s n : Int) : Mm := fun a j => if a = 82 ∧ 100 * s ≤ j ∧ j < 100 * s + n then 0 else Y a j
section ROW
variable {tl : Ds} {ds ds' : Ds} {m X Y Z X' Y' g h A B : Mm} {Q : Ds → Mm → List MV → Prop} {p q c k a b s o v i j d n nn w t r e so L L' : Int} {M M' : Nat} {as as' : List MV}
theorem e43 (h0 : 0 ≤ r) (hr : dk ds r = 4) (hl : r < (ds.length : Int)) (hn : 0 ≤ n ∧ n ≤ 100) : WP 43 0 [(2, r), (0, o), (0, n)] [] ds m Q = Q (ds ++ [(12, n.toNat)]) (up (al (up m r 0 o) (ds.length : Int) (dfl 12)) r 1 (ds.length : Int)) [] := by
  have k1 := dk_s (d := (12, n.toNat)) hl hr
  have g1 : ¬ n < 0 := by omega
  have g2 : n ≤ 30000 := by omega
  simp only [p43_0, p43_1, p43_4, p43_5, p43_6, p43_9, p43_10, p43_11, p43_14, p43_15, p43_18, p43_19, p43_21, p43_24, hr, k1.1, h0, hn.1, g1, g2, n_m0, b2_T, b2_F, Int.reduceEq, Int.reduceLT, Int.reduceLE, Int.reduceAdd, Int.reduceSub, Int.reduceMul, Int.reduceNeg, reduceIte, if_true, if_false, true_or, or_true, false_or, or_false, false_and, and_false, eq_self, not_false_eq_true, not_true_eq_false, true_and, and_true, List.cons_append, List.nil_append, List.append_nil, b2_0, b2_1, b2_01, Classical.not_not]
theorem e74no (S : Sh m) (h : (¬ isH s ∧ w = -1) ∨ (isH s ∧ nn < 0 ∧ w = -4) ∨ (isH s ∧ 0 ≤ nn ∧ ¬ (0 ≤ so ∧ so ≤ 3) ∧ w = -6) ∨ (isH s ∧ 0 ≤ nn ∧ (0 ≤ so ∧ so ≤ 3) ∧ 100 < nn ∧ w = -7)) : WP 74 0 [(2, 0), (0, s), (0, so), (0, nn)] [] (dsB ++ tl) m Q = Q (dsB ++ tl) (rf m 3 (-w)) [(0, w)] := by
  rcases h with ⟨h, rfl⟩ | ⟨h, h2, rfl⟩ | ⟨h, h2, h3, rfl⟩ | ⟨h, h2, h3, h4, rfl⟩
  · simp only [p74_0, p74_1, p74_4, p74_7, p74_8, p74_9, p74_12, p74_13, p74_14, p74_17, p74_18, p74_20, p74_23, p74_24, p74_25, p74_28, p74_29, p74_30, p74_33, p74_34, p74_36, p74_39, p74_40, p74_41, p74_43, p74_46, p74_47, p74_49, p74_52, e109, b2_f h, K_0, K_3, L_3, sh_0_0 S, sh_0_1 S, sh_0_2 S, sh_0_3 S, sh_0_4 S, sh_0_5 S, sh_0_7 S, sh_0_8 S, sh_0_10 S, sh_0_12 S, sh_0_14 S, sh_0_15 S, e95 S (show -7 ≤ (-1 : Int) ∧ (-1 : Int) ≤ -1 by decide), b2_T, b2_F, Int.reduceEq, Int.reduceLT, Int.reduceLE, Int.reduceAdd, Int.reduceSub, Int.reduceMul, Int.reduceNeg, reduceIte, if_true, if_false, true_or, or_true, false_or, or_false, false_and, and_false, eq_self, not_false_eq_true, not_true_eq_false, true_and, and_true, List.cons_append, List.nil_append, List.append_nil, b2_0, b2_1, b2_01, Classical.not_not]
  · simp only [p74_0, p74_1, p74_4, p74_7, p74_8, p74_9, p74_12, p74_13, p74_14, p74_17, p74_18, p74_20, p74_23, p74_24, p74_25, p74_28, p74_29, p74_30, p74_33, p74_34, p74_36, p74_39, p74_40, p74_41, p74_43, p74_46, p74_47, p74_49, p74_52, e109, b2_t h, h2, K_0, K_3, L_3, sh_0_0 S, sh_0_1 S, sh_0_2 S, sh_0_3 S, sh_0_4 S, sh_0_5 S, sh_0_7 S, sh_0_8 S, sh_0_10 S, sh_0_12 S, sh_0_14 S, sh_0_15 S, e95 S (show -7 ≤ (-4 : Int) ∧ (-4 : Int) ≤ -1 by decide), b2_T, b2_F, Int.reduceEq, Int.reduceLT, Int.reduceLE, Int.reduceAdd, Int.reduceSub, Int.reduceMul, Int.reduceNeg, reduceIte, if_true, if_false, true_or, or_true, false_or, or_false, false_and, and_false, eq_self, not_false_eq_true, not_true_eq_false, true_and, and_true, List.cons_append, List.nil_append, List.append_nil, b2_0, b2_1, b2_01, Classical.not_not]
  · have h2' : ¬ nn < 0 := by omega
    by_cases h5 : so < 0
    · simp only [p74_0, p74_1, p74_4, p74_7, p74_8, p74_9, p74_12, p74_13, p74_14, p74_17, p74_18, p74_20, p74_23, p74_24, p74_25, p74_28, p74_29, p74_30, p74_33, p74_34, p74_36, p74_39, p74_40, p74_41, p74_43, p74_46, p74_47, p74_49, p74_52, e109, b2_t h, h2', h5, K_0, K_3, L_3, sh_0_0 S, sh_0_1 S, sh_0_2 S, sh_0_3 S, sh_0_4 S, sh_0_5 S, sh_0_7 S, sh_0_8 S, sh_0_10 S, sh_0_12 S, sh_0_14 S, sh_0_15 S, e95 S (show -7 ≤ (-6 : Int) ∧ (-6 : Int) ≤ -1 by decide), b2_T, b2_F, Int.reduceEq, Int.reduceLT, Int.reduceLE, Int.reduceAdd, Int.reduceSub, Int.reduceMul, Int.reduceNeg, reduceIte, if_true, if_false, true_or, or_true, false_or, or_false, false_and, and_false, eq_self, not_false_eq_true, not_true_eq_false, true_and, and_true, List.cons_append, List.nil_append, List.append_nil, b2_0, b2_1, b2_01, Classical.not_not]
    · have h6 : 3 < so := by omega
      simp only [p74_0, p74_1, p74_4, p74_7, p74_8, p74_9, p74_12, p74_13, p74_14, p74_17, p74_18, p74_20, p74_23, p74_24, p74_25, p74_28, p74_29, p74_30, p74_33, p74_34, p74_36, p74_39, p74_40, p74_41, p74_43, p74_46, p74_47, p74_49, p74_52, e109, b2_t h, h2', h5, h6, K_0, K_3, L_3, sh_0_0 S, sh_0_1 S, sh_0_2 S, sh_0_3 S, sh_0_4 S, sh_0_5 S, sh_0_7 S, sh_0_8 S, sh_0_10 S, sh_0_12 S, sh_0_14 S, sh_0_15 S, e95 S (show -7 ≤ (-6 : Int) ∧ (-6 : Int) ≤ -1 by decide), b2_T, b2_F, Int.reduceEq, Int.reduceLT, Int.reduceLE, Int.reduceAdd, Int.reduceSub, Int.reduceMul, Int.reduceNeg, reduceIte, if_true, if_false, true_or, or_true, false_or, or_false, false_and, and_false, eq_self, not_false_eq_true, not_true_eq_false, true_and, and_true, List.cons_append, List.nil_append, List.append_nil, b2_0, b2_1, b2_01, Classical.not_not]
  · have h2' : ¬ nn < 0 := by omega
    have h5 : ¬ so < 0 := by omega
    have h6 : ¬ 3 < so := by omega
    simp only [p74_0, p74_1, p74_4, p74_7, p74_8, p74_9, p74_12, p74_13, p74_14, p74_17, p74_18, p74_20, p74_23, p74_24, p74_25, p74_28, p74_29, p74_30, p74_33, p74_34, p74_36, p74_39, p74_40, p74_41, p74_43, p74_46, p74_47, p74_49, p74_52, e109, b2_t h, h2', h5, h6, h4, K_0, K_3, L_3, sh_0_0 S, sh_0_1 S, sh_0_2 S, sh_0_3 S, sh_0_4 S, sh_0_5 S, sh_0_7 S, sh_0_8 S, sh_0_10 S, sh_0_12 S, sh_0_14 S, sh_0_15 S, e95 S (show -7 ≤ (-7 : Int) ∧ (-7 : Int) ≤ -1 by decide), b2_T, b2_F, Int.reduceEq, Int.reduceLT, Int.reduceLE, Int.reduceAdd, Int.reduceSub, Int.reduceMul, Int.reduceNeg, reduceIte, if_true, if_false, true_or, or_true, false_or, or_false, false_and, and_false, eq_self, not_false_eq_true, not_true_eq_false, true_and, and_true, List.cons_append, List.nil_append, List.append_nil, b2_0, b2_1, b2_01, Classical.not_not]
theorem e143no (S : Sh m) (h : (¬ isH s ∧ w = -1) ∨ (isH s ∧ nn < 0 ∧ w = -4) ∨ (isH s ∧ 0 ≤ nn ∧ ¬ (0 ≤ so ∧ so ≤ 3) ∧ w = -6) ∨ (isH s ∧ 0 ≤ nn ∧ (0 ≤ so ∧ so ≤ 3) ∧ 100 < nn ∧ w = -7)) : WP 143 0 [(2, 70), (0, s), (0, so), (0, nn), (3, 0)] [] (dsB ++ tl) m Q = Q (dsB ++ tl) (rf m 71 (-w)) [(0, w)] := by
  rcases h with ⟨h, rfl⟩ | ⟨h, h2, rfl⟩ | ⟨h, h2, h3, rfl⟩ | ⟨h, h2, h3, h4, rfl⟩
  · simp only [p143_0, p143_1, p143_4, p143_7, p143_8, p143_9, p143_12, p143_13, p143_14, p143_17, p143_18, p143_20, p143_23, p143_24, p143_25, p143_26, p143_27, p143_30, p143_33, p143_34, p143_36, p143_39, p143_40, p143_41, p143_43, p143_46, p143_47, p143_49, p143_52, e139, b2_f h, K_70, e121 S (show -7 ≤ (-1 : Int) ∧ (-1 : Int) ≤ -1 by decide), b2_T, b2_F, Int.reduceEq, Int.reduceLT, Int.reduceLE, Int.reduceAdd, Int.reduceSub, Int.reduceMul, Int.reduceNeg, reduceIte, if_true, if_false, true_or, or_true, false_or, or_false, false_and, and_false, eq_self, not_false_eq_true, not_true_eq_false, true_and, and_true, List.cons_append, List.nil_append, List.append_nil, b2_0, b2_1, b2_01, Classical.not_not]
  · simp only [p143_0, p143_1, p143_4, p143_7, p143_8, p143_9, p143_12, p143_13, p143_14, p143_17, p143_18, p143_20, p143_23, p143_24, p143_25, p143_26, p143_27, p143_30, p143_33, p143_34, p143_36, p143_39, p143_40, p143_41, p143_43, p143_46, p143_47, p143_49, p143_52, e139, b2_t h, h2, K_70, e121 S (show -7 ≤ (-4 : Int) ∧ (-4 : Int) ≤ -1 by decide), b2_T, b2_F, Int.reduceEq, Int.reduceLT, Int.reduceLE, Int.reduceAdd, Int.reduceSub, Int.reduceMul, Int.reduceNeg, reduceIte, if_true, if_false, true_or, or_true, false_or, or_false, false_and, and_false, eq_self, not_false_eq_true, not_true_eq_false, true_and, and_true, List.cons_append, List.nil_append, List.append_nil, b2_0, b2_1, b2_01, Classical.not_not]
  · have h2' : ¬ nn < 0 := by omega
    simp only [p143_0, p143_1, p143_4, p143_7, p143_8, p143_9, p143_12, p143_13, p143_14, p143_17, p143_18, p143_20, p143_23, p143_24, p143_25, p143_26, p143_27, p143_30, p143_33, p143_34, p143_36, p143_39, p143_40, p143_41, p143_43, p143_46, p143_47, p143_49, p143_52, e139, e120, b2_t h, b2_f h3, h2', K_70, e121 S (show -7 ≤ (-6 : Int) ∧ (-6 : Int) ≤ -1 by decide), b2_T, b2_F, Int.reduceEq, Int.reduceLT, Int.reduceLE, Int.reduceAdd, Int.reduceSub, Int.reduceMul, Int.reduceNeg, reduceIte, if_true, if_false, true_or, or_true, false_or, or_false, false_and, and_false, eq_self, not_false_eq_true, not_true_eq_false, true_and, and_true, List.cons_append, List.nil_append, List.append_nil, b2_0, b2_1, b2_01, Classical.not_not]
  · have h2' : ¬ nn < 0 := by omega
    simp only [p143_0, p143_1, p143_4, p143_7, p143_8, p143_9, p143_12, p143_13, p143_14, p143_17, p143_18, p143_20, p143_23, p143_24, p143_25, p143_26, p143_27, p143_30, p143_33, p143_34, p143_36, p143_39, p143_40, p143_41, p143_43, p143_46, p143_47, p143_49, p143_52, e139, e120, b2_t h, b2_t h3, h2', h4, K_70, e121 S (show -7 ≤ (-7 : Int) ∧ (-7 : Int) ≤ -1 by decide), b2_T, b2_F, Int.reduceEq, Int.reduceLT, Int.reduceLE, Int.reduceAdd, Int.reduceSub, Int.reduceMul, Int.reduceNeg, reduceIte, if_true, if_false, true_or, or_true, false_or, or_false, false_and, and_false, eq_self, not_false_eq_true, not_true_eq_false, true_and, and_true, List.cons_append, List.nil_append, List.append_nil, b2_0, b2_1, b2_01, Classical.not_not]
theorem e74 (S : Sh m) (hs : isH s) (hn : 0 ≤ nn ∧ nn ≤ 100) (ho : 0 ≤ so ∧ so ≤ 3) (hL : L = ((dsB ++ tl).length : Int)) (h114 : 114 ≤ L) : WP 74 0 [(2, 0), (0, s), (0, so), (0, nn)] [] (dsB ++ tl) m Q = Q (dsB ++ tl ++ [(4, 2)] ++ [(12, nn.toNat)]) (xRw m s so L (L + 1)) [(0, 1)] := by
  have h2 : ¬ nn < 0 := by omega
  have h3 : ¬ so < 0 := by omega
  have h4 : ¬ 3 < so := by omega
  have h5 : ¬ 100 < nn := by omega
  have S2 : Sh (up m 2 s (-1)) := Sh_ar S (by decide)
  have z1 := dk_z (ds := dsB ++ tl) (d := (4, 2))
  rw [← hL] at z1
  have l1 : L < ((dsB ++ tl ++ [(4, 2)]).length : Int) := by rw [ln_1, ← hL]; omega
  have l2 : ((dsB ++ tl ++ [(4, 2)]).length : Int) = L + 1 := by rw [ln_1, ← hL]
  have k43 := fun (m2 : Mm) (Q : Ds → Mm → List MV → Prop) => e43 (m := m2) (Q := Q) (o := so) (show 0 ≤ L by omega) z1.1 l1 hn
  rw [l2] at k43
  have y1 := dk_ap (ds := dsB ++ tl ++ [(4, 2)]) (x := [(12, nn.toNat)]) (a := L) l1
  have y2 : dk (dsB ++ tl ++ [(4, 2)] ++ [(12, nn.toNat)]) L = 4 := y1.1.trans z1.1
  have e1 : (dsB ++ tl ++ [(4, 2)] ++ [(12, nn.toNat)]) = dsB ++ (tl ++ [(4, 2)] ++ [(12, nn.toNat)]) := by simp only [List.append_assoc]
  have y3 : dk (dsB ++ tl ++ [(4, 2)] ++ [(12, nn.toNat)]) 1 = 13 := by rw [e1]; exact K_1
  have y4 : (dl (dsB ++ tl ++ [(4, 2)] ++ [(12, nn.toNat)]) 1 : Int) = 8 := by rw [e1]; exact L_1
  unfold xRw
  simp only [p74_0, p74_1, p74_4, p74_7, p74_8, p74_9, p74_12, p74_13, p74_14, p74_17, p74_18, p74_20, p74_23, p74_24, p74_25, p74_28, p74_29, p74_30, p74_33, p74_34, p74_36, p74_39, p74_40, p74_41, p74_43, p74_46, p74_47, p74_49, p74_52, p74_53, p74_54, p74_57, p74_58, p74_59, p74_60, p74_61, p74_64, p74_65, p74_68, p74_69, p74_70, p74_71, p74_74, p74_75, p74_76, e109, b2_t hs, h2, h3, h4, h5, K_0, K_3, L_3, sh_0_0 S, sh_0_1 S, sh_0_2 S, sh_0_3 S, sh_0_4 S, sh_0_5 S, sh_0_7 S, sh_0_8 S, sh_0_10 S, sh_0_12 S, sh_0_14 S, sh_0_15 S, K_2, L_2, sh_0_2 S2, hs.1, hs.2, ← hL, z1.1, k43, y2, y3, y4, b2_T, b2_F, Int.reduceEq, Int.reduceLT, Int.reduceLE, Int.reduceAdd, Int.reduceSub, Int.reduceMul, Int.reduceNeg, reduceIte, if_true, if_false, true_or, or_true, false_or, or_false, false_and, and_false, eq_self, not_false_eq_true, not_true_eq_false, true_and, and_true, List.cons_append, List.nil_append, List.append_nil, b2_0, b2_1, b2_01, Classical.not_not]
theorem Sh_rwZ (S : Sh Y) : Sh (rwZ Y s n) := fun q hq => by
  have h1 : ∀ q ∈ SL, ¬ q.1 = 82 := by decide
  have e : rwZ Y s n q.1 q.2.1 = Y q.1 q.2.1 := if_neg (fun y => h1 q hq y.1)
  rw [e]
  exact S q hq
theorem rwZ_s (h0 : 0 ≤ n) : up (rwZ Y s n) 82 (100 * s + n) 0 = rwZ Y s (n + 1) := by
  apply fx
  intro a j
  rw [up_at]
  unfold rwZ
  by_cases h1 : a = 82 ∧ j = 100 * s + n
  · rw [if_pos h1, if_pos (by omega)]
  · rw [if_neg h1]
    by_cases h2 : a = 82 ∧ 100 * s ≤ j ∧ j < 100 * s + n
    · rw [if_pos h2, if_pos (by omega)]
    · rw [if_neg h2, if_neg (by omega)]
theorem e143l (S : Sh Y) (hs : isH s) : ∀ (f : Nat) (n : Int), 0 ≤ n → n + f = 100 → WP 143 73 [(2, 70), (0, s), (0, so), (0, nn), (0, n)] [] (dsB ++ tl) (rwZ Y s n) Q = Q (dsB ++ tl) (rwZ Y s 100) [(0, 1)] := by
  intro f
  induction f with
  | zero =>
    intro n h0 h1
    have hn : n = 100 := by omega
    subst hn
    rw [p143_73]
    simp only [p143_75, p143_77, p143_80, p143_81, p143_84, p143_86, p143_87, p143_88, p143_90, p143_91, p143_92, p143_93, p143_96, p143_99, p143_100, b2_T, b2_F, Int.reduceEq, Int.reduceLT, Int.reduceLE, Int.reduceAdd, Int.reduceSub, Int.reduceMul, Int.reduceNeg, reduceIte, if_true, if_false, true_or, or_true, false_or, or_false, false_and, and_false, eq_self, not_false_eq_true, not_true_eq_false, true_and, and_true, List.cons_append, List.nil_append, List.append_nil, b2_0, b2_1, b2_01, Classical.not_not, Int.lt_irrefl]
  | succ f ih =>
    intro n h0 h1
    have n1 : n < 100 := by omega
    have S' : Sh (rwZ Y s n) := Sh_rwZ S
    have w0 : w32 (n + 1) = n + 1 := w32_id (by omega) (by omega)
    have w1 : w32 (100 * s) = 100 * s := w32_id (by omega) (by omega)
    have w2 : w32 (100 * s + n) = 100 * s + n := w32_id (by omega) (by omega)
    have w3 : 0 ≤ 100 * s + n := by omega
    have w4 : 100 * s + n < 800 := by omega
    have r := ih (n + 1) (by omega) (by omega)
    rw [← rwZ_s h0] at r
    rw [p143_73]
    simp only [p143_75, p143_77, p143_80, p143_81, p143_84, p143_86, p143_87, p143_88, p143_90, p143_91, p143_92, p143_93, p143_96, K_70, K_82, L_82, sh_70_13 S', n1, w0, w1, w2, w3, w4, r, b2_T, b2_F, Int.reduceEq, Int.reduceLT, Int.reduceLE, Int.reduceAdd, Int.reduceSub, Int.reduceMul, Int.reduceNeg, reduceIte, if_true, if_false, true_or, or_true, false_or, or_false, false_and, and_false, eq_self, not_false_eq_true, not_true_eq_false, true_and, and_true, List.cons_append, List.nil_append, List.append_nil, b2_0, b2_1, b2_01, Classical.not_not]
theorem rwZ_0 : rwZ Y s 0 = Y := by
  apply fx
  intro a j
  exact if_neg (fun y => by omega)
theorem e143 (S : Sh m) (hs : isH s) (hn : 0 ≤ nn ∧ nn ≤ 100) (ho : 0 ≤ so ∧ so ≤ 3) : WP 143 0 [(2, 70), (0, s), (0, so), (0, nn), (3, 0)] [] (dsB ++ tl) m Q = Q (dsB ++ tl) (rwZ (up (up m 80 s (100 + so)) 81 s nn) s 100) [(0, 1)] := by
  have h2 : ¬ nn < 0 := by omega
  have h5 : ¬ 100 < nn := by omega
  have S1 : Sh (up m 80 s (100 + so)) := Sh_ar S (by decide)
  have S2 : Sh (up (up m 80 s (100 + so)) 81 s nn) := Sh_ar S1 (by decide)
  have w1 : w32 (100 + so) = 100 + so := w32_id (by omega) (by omega)
  have r := e143l (tl := tl) (Q := Q) (so := so) (nn := nn) S2 hs 100 0 (by omega) (by omega)
  rw [rwZ_0] at r
  rw [← r]
  simp only [p143_0, p143_1, p143_4, p143_7, p143_8, p143_9, p143_12, p143_13, p143_14, p143_17, p143_18, p143_20, p143_23, p143_24, p143_25, p143_26, p143_27, p143_30, p143_33, p143_34, p143_36, p143_39, p143_40, p143_41, p143_43, p143_46, p143_47, p143_49, p143_52, p143_53, p143_54, p143_57, p143_58, p143_60, p143_61, p143_62, p143_63, p143_64, p143_67, p143_68, p143_69, p143_70, p143_71, e139, e120, b2_t hs, b2_t ho, h2, h5, K_70, K_80, L_80, K_81, L_81, sh_70_11 S, sh_70_12 S1, hs.1, hs.2, w1, b2_T, b2_F, Int.reduceEq, Int.reduceLT, Int.reduceLE, Int.reduceAdd, Int.reduceSub, Int.reduceMul, Int.reduceNeg, reduceIte, if_true, if_false, true_or, or_true, false_or, or_false, false_and, and_false, eq_self, not_false_eq_true, not_true_eq_false, true_and, and_true, List.cons_append, List.nil_append, List.append_nil, b2_0, b2_1, b2_01, Classical.not_not]
theorem rw_no (h : ¬ (isH s ∧ (0 ≤ nn ∧ nn ≤ 100) ∧ (0 ≤ so ∧ so ≤ 3))) : ∃ w, (-7 ≤ w ∧ w ≤ -1) ∧ ((¬ isH s ∧ w = -1) ∨ (isH s ∧ nn < 0 ∧ w = -4) ∨ (isH s ∧ 0 ≤ nn ∧ ¬ (0 ≤ so ∧ so ≤ 3) ∧ w = -6) ∨ (isH s ∧ 0 ≤ nn ∧ (0 ≤ so ∧ so ≤ 3) ∧ 100 < nn ∧ w = -7)) := by
  by_cases h1 : isH s
  · by_cases h2 : nn < 0
    · exact ⟨-4, by decide, Or.inr (Or.inl ⟨h1, h2, rfl⟩)⟩
    · by_cases h3 : 0 ≤ so ∧ so ≤ 3
      · exact ⟨-7, by decide, Or.inr (Or.inr (Or.inr ⟨h1, by omega, h3, by omega, rfl⟩))⟩
      · exact ⟨-6, by decide, Or.inr (Or.inr (Or.inl ⟨h1, by omega, h3, rfl⟩))⟩
  · exact ⟨-1, by decide, Or.inl ⟨h1, rfl⟩⟩
theorem call_row (J : JS ds m m n) : CALL 74 143 [(2, 0), (0, s), (0, so), (0, nn)] [(2, 70), (0, s), (0, so), (0, nn), (3, 0)] ds m n := by
  obtain ⟨tl, rfl⟩ := J.Dt
  have S := J.S
  by_cases hh : isH s ∧ (0 ≤ nn ∧ nn ≤ 100) ∧ (0 ≤ so ∧ so ≤ 3)
  · obtain ⟨hs, hn, ho⟩ := hh
    obtain ⟨L, hL⟩ : ∃ L, L = ((dsB ++ tl).length : Int) := ⟨_, rfl⟩
    have h114 : 114 ≤ L := by
      rw [hL, List.length_append, dsB_len]
      omega
    obtain ⟨ds2, hd⟩ : ∃ ds2, ds2 = dsB ++ tl ++ [(4, 2)] ++ [(12, nn.toNat)] := ⟨_, rfl⟩
    have l2 : ((dsB ++ tl ++ [(4, 2)]).length : Int) = L + 1 := by rw [ln_1, ← hL]
    have l3 : (ds2.length : Int) = L + 2 := by rw [hd, ln_1, l2]; omega
    have hA := fun (Q : Ds → Mm → List MV → Prop) => e74 (Q := Q) S hs hn ho hL h114
    rw [← hd] at hA
    have D : ∃ tl, ds2 = dsB ++ tl := ⟨tl ++ [(4, 2)] ++ [(12, nn.toNat)], by rw [hd]; simp only [List.append_assoc]⟩
    have z1 := dk_z (ds := dsB ++ tl) (d := (4, 2))
    rw [← hL] at z1
    have z2 := dk_z (ds := dsB ++ tl ++ [(4, 2)]) (d := (12, nn.toNat))
    rw [l2, ← hd] at z2
    have z3 := dk_ap (ds := dsB ++ tl ++ [(4, 2)]) (x := [(12, nn.toNat)]) (a := L) (by rw [l2]; omega)
    rw [← hd] at z3
    have dd : ∀ a, a < ((dsB ++ tl).length : Int) → dk ds2 a = dk (dsB ++ tl) a ∧ dl ds2 a = dl (dsB ++ tl) a := fun a ha => by
      have y1 := dk_ap (ds := dsB ++ tl) (x := [(4, 2)]) ha
      have y2 := dk_ap (ds := dsB ++ tl ++ [(4, 2)]) (x := [(12, nn.toNat)]) (a := a) (by rw [l2]; omega)
      rw [← hd] at y2
      exact ⟨y2.1.trans y1.1, y2.2.trans y1.2⟩
    have hsl : (sl ds2 : Int) ≤ (sl (dsB ++ tl) : Int) + 102 := by
      rw [hd, sl_add, sl_add]
      show (((sl (dsB ++ tl) + 2) + nn.toNat : Nat) : Int) ≤ _
      omega
    have SX : Sh (xRw m s so L (L + 1)) := Sh_ar (Sh_hi (Sh_al (Sh_hi (Sh_al (Sh_ar S (by decide)) h114) h114) (by omega)) h114) (by decide)
    have x2 : xRw m s so L (L + 1) 2 s = -1 := by
      unfold xRw
      rw [up_at, if_neg (by omega), up_at, if_neg (by omega), al_at, if_neg (by omega), up_at, if_neg (by omega), al_at, if_neg (by omega), up_at, if_pos ⟨rfl, rfl⟩]
    have x1 : xRw m s so L (L + 1) 1 s = L := by
      unfold xRw
      rw [up_at, if_pos ⟨rfl, rfl⟩]
    have xl0 : xRw m s so L (L + 1) L 0 = so := by
      unfold xRw
      rw [up_at, if_neg (by omega), up_at, if_neg (by omega), al_at, if_neg (by omega), up_at, if_pos ⟨rfl, rfl⟩]
    have xl1 : xRw m s so L (L + 1) L 1 = L + 1 := by
      unfold xRw
      rw [up_at, if_neg (by omega), up_at, if_pos ⟨rfl, rfl⟩]
    have xe : ∀ j, xRw m s so L (L + 1) (L + 1) j = 0 := fun j => by
      unfold xRw
      rw [up_at, if_neg (by omega), up_at, if_neg (by omega), al_at, if_pos rfl]
      rfl
    have f : ∀ x j, ¬ x = L → ¬ x = L + 1 → ¬ (x = 1 ∧ j = s) → ¬ (x = 2 ∧ j = s) → xRw m s so L (L + 1) x j = m x j := fun x j h1 h2 h3 h4 => by
      unfold xRw
      rw [up_at, if_neg h3, up_at, if_neg (by omega), al_at, if_neg h2, up_at, if_neg (by omega), al_at, if_neg h1, up_at, if_neg h4]
    obtain ⟨X, hX⟩ : ∃ X, X = xRw m s so L (L + 1) := ⟨_, rfl⟩
    rw [← hX] at hA SX x2 x1 xl0 xl1 xe f
    obtain ⟨Z, hZ⟩ : ∃ Z, Z = rwZ (up (up X 80 s (100 + so)) 81 s nn) s 100 := ⟨_, rfl⟩
    have hB : ∀ Q, WP 143 0 [(2, 70), (0, s), (0, so), (0, nn), (3, 0)] [] ds2 X Q = Q ds2 Z [(0, 1)] := fun Q => by
      obtain ⟨t2, h2⟩ := D
      rw [h2, hZ]
      exact e143 SX hs hn ho
    have SZ : Sh Z := by
      rw [hZ]
      exact Sh_rwZ (Sh_ar (Sh_ar SX (by decide)) (by decide))
    have g80 : Z 80 s = 100 + so := by
      rw [hZ]
      unfold rwZ
      rw [if_neg (by omega), up_at, if_neg (by omega), up_at, if_pos ⟨rfl, rfl⟩]
    have g81 : Z 81 s = nn := by
      rw [hZ]
      unfold rwZ
      rw [if_neg (by omega), up_at, if_pos ⟨rfl, rfl⟩]
    have g82 : ∀ i, 0 ≤ i → i < 100 → Z 82 (100 * s + i) = 0 := fun i i0 i1 => by
      rw [hZ]
      unfold rwZ
      rw [if_pos (by omega)]
    have gZ : ∀ x j, ¬ (x = 80 ∧ j = s) → ¬ (x = 81 ∧ j = s) → ¬ (x = 82 ∧ 100 * s ≤ j ∧ j < 100 * s + 100) → Z x j = X x j := fun x j h1 h2 h3 => by
      rw [hZ]
      unfold rwZ
      rw [if_neg h3, up_at, if_neg h2, up_at, if_neg h1]
    refine CALL_of (v := (0, 1)) (X := X) (Z := Z) J hA (fun x j h => f x j (by omega) (by omega) (by omega) (by omega)) SX (fun J1 => ?_) hB (fun x j h => gZ x j (by omega) (by omega) (by omega))
    have H1 := J1.Hv
    have Ln := J.Ln
    have Sl := J.Sl
    refine JS_s J1 SX SZ (fun x j h => f x j (by omega) (by omega) (by omega) (by omega)) (fun x j h => gZ x j (by omega) (by omega) (by omega)) ?_ D (by omega) (by omega)
    have ox : ∀ a, own X s a → a = L ∨ a = L + 1 := fun a h => by
      unfold own at h
      rw [x1, x2] at h
      omega
    refine SHV_s H1 hs ?_ (fun a h => ?_) dd (by omega) (fun t ht hn2 => ⟨f _ _ (by omega) (by omega) (by omega) (by omega), f _ _ (by omega) (by omega) (by omega) (by omega), fun a j h => ?_, gZ _ _ (by omega) (by omega) (by omega), gZ _ _ (by omega) (by omega) (by omega), fun i i0 i1 => gZ _ _ (by omega) (by omega) (by omega), fun i i0 i1 => gZ _ _ (by omega) (by omega) (by omega), fun i i0 i1 => gZ _ _ (by omega) (by omega) (by omega)⟩)
    · right; left
      refine ⟨x2, by rw [x1]; exact h114, ?_, by rw [x1]; exact xl1, by rw [x1, xl0]; exact g80, by rw [x1, xl0]; exact ho, by rw [g81]; exact hn, fun i i0 i1 => ?_⟩
      · rw [x1, g81]
        unfold RA
        rw [xl1, z2.1, z2.2]
        refine ⟨z3.1.trans z1.1, rfl, ?_⟩
        show (nn.toNat : Int) = nn
        omega
      · rw [g81] at i1
        rw [x1, xe, g82 i i0 (by omega)]
    · have := ox a h
      refine ⟨by omega, fun t ht hn2 h2 => ?_⟩
      have := (H1.b t a ht h2).2
      omega
    · have := (H1.b t a ht h)
      exact f a j (by omega) (by omega) (by omega) (by omega)
  · obtain ⟨w, hw, h⟩ := rw_no hh
    exact CALL_no (v := (0, w)) (k := -w) J (by omega) (fun Q => e74no S h) (fun SA fA Q => e143no SA h)
end ROW
