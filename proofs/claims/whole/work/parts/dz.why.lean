/-! why: the row of causes of a bell's first ring -/
def dpc (c : Int → Int) : Nat → Int → Int
  | 0, _ => 0
  | f + 1, k => if k = -1 then 0 else dpc c f (c k) + 1
def itc (c : Int → Int) : Nat → Int → Int
  | 0, k => k
  | j + 1, k => itc c j (c k)
/-- causes stand before what they cause -/
def CH (c : Int → Int) (n : Int) : Prop := ∀ i, 0 ≤ i → i < n → -1 ≤ c i ∧ c i < i
def wyR (c : Int → Int) (r i : Int) : Int := if 0 ≤ i ∧ i < dpc c 1001 r then itc c (dpc c 1001 r - 1 - i).toNat r else -1
section WHY
variable {tl : Ds} {m X Y Z g h G t : Mm} {Q : Ds → Mm → List MV → Prop} {p q k a b s o v i j d n w : Int} {c e : Int → Int} {q1 q2 q3 q4 : MV}
theorem dpc_b (C : CH c n) : ∀ (f : Nat) (k : Int), -1 ≤ k → k < n → 0 ≤ dpc c f k ∧ dpc c f k ≤ k + 1
  | 0, k, h0, h1 => by
    show 0 ≤ (0 : Int) ∧ (0 : Int) ≤ k + 1
    omega
  | f + 1, k, h0, h1 => by
    have e1 : dpc c (f + 1) k = if k = -1 then 0 else dpc c f (c k) + 1 := rfl
    rw [e1]
    by_cases hk : k = -1
    · rw [if_pos hk]; omega
    · rw [if_neg hk]
      have l := C k (by omega) h1
      have r := dpc_b C f (c k) l.1 (by omega)
      omega
theorem dpc_cg (C : CH c n) (ce : ∀ i, 0 ≤ i → i < n → e i = c i) : ∀ (f : Nat) (k : Int), -1 ≤ k → k < n → dpc e f k = dpc c f k
  | 0, k, h0, h1 => rfl
  | f + 1, k, h0, h1 => by
    have e1 : dpc c (f + 1) k = if k = -1 then 0 else dpc c f (c k) + 1 := rfl
    have e2 : dpc e (f + 1) k = if k = -1 then 0 else dpc e f (e k) + 1 := rfl
    rw [e1, e2]
    by_cases hk : k = -1
    · rw [if_pos hk, if_pos hk]
    · rw [if_neg hk, if_neg hk, ce k (by omega) h1]
      have l := C k (by omega) h1
      rw [dpc_cg C ce f (c k) l.1 (by omega)]
theorem itc_cg (C : CH c n) (ce : ∀ i, 0 ≤ i → i < n → e i = c i) : ∀ (f : Nat) (j : Nat) (k : Int), -1 ≤ k → k < n → (j : Int) + 1 ≤ dpc c f k → itc e j k = itc c j k
  | _, 0, k, h0, h1, h2 => rfl
  | 0, j + 1, k, h0, h1, h2 => by
    have : dpc c 0 k = 0 := rfl
    omega
  | f + 1, j + 1, k, h0, h1, h2 => by
    have e1 : dpc c (f + 1) k = if k = -1 then 0 else dpc c f (c k) + 1 := rfl
    rw [e1] at h2
    by_cases hk : k = -1
    · rw [if_pos hk] at h2
      omega
    · rw [if_neg hk] at h2
      have l := C k (by omega) h1
      show itc e j (e k) = itc c j (c k)
      rw [ce k (by omega) h1]
      exact itc_cg C ce f j (c k) l.1 (by omega) (by omega)
/-- enough fuel -/
theorem dpc_f (C : CH c n) : ∀ (f f' : Nat) (k : Int), -1 ≤ k → k < n → k + 1 ≤ f → k + 1 ≤ f' → dpc c f k = dpc c f' k
  | 0, 0, k, _, _, _, _ => rfl
  | 0, f' + 1, k, h0, h1, h2, h3 => by
    have hk : k = -1 := by omega
    have e1 : dpc c (f' + 1) k = if k = -1 then 0 else dpc c f' (c k) + 1 := rfl
    rw [e1, if_pos hk]
    rfl
  | f + 1, 0, k, h0, h1, h2, h3 => by
    have hk : k = -1 := by omega
    have e1 : dpc c (f + 1) k = if k = -1 then 0 else dpc c f (c k) + 1 := rfl
    rw [e1, if_pos hk]
    rfl
  | f + 1, f' + 1, k, h0, h1, h2, h3 => by
    have e1 : dpc c (f + 1) k = if k = -1 then 0 else dpc c f (c k) + 1 := rfl
    have e2 : dpc c (f' + 1) k = if k = -1 then 0 else dpc c f' (c k) + 1 := rfl
    rw [e1, e2]
    by_cases hk : k = -1
    · rw [if_pos hk, if_pos hk]
    · rw [if_neg hk, if_neg hk]
      have l := C k (by omega) h1
      rw [dpc_f C f f' (c k) l.1 (by omega) (by omega) (by omega)]
theorem wyR_cg (C : CH c n) (hn : n ≤ 1000) (ce : ∀ i, 0 ≤ i → i < n → e i = c i) (h0 : -1 ≤ k) (h1 : k < n) : wyR e k i = wyR c k i := by
  unfold wyR
  rw [dpc_cg C ce 1001 k h0 h1]
  by_cases h : 0 ≤ i ∧ i < dpc c 1001 k
  · rw [if_pos h, if_pos h]
    exact itc_cg C ce 1001 _ k h0 h1 (by omega)
  · rw [if_neg h, if_neg h]
theorem e20l (S : Sh m) (hc : 0 ≤ m 35 4 ∧ m 35 4 ≤ 1000) (C : CH (m 38) (m 35 4)) : ∀ (f : Nat) (k st kk : Int), -1 ≤ k → k < m 35 4 → k + 1 ≤ f → 0 ≤ kk → kk + k + 1 ≤ 1000 → -1 ≤ st → st ≤ kk → WP 20 7 [(2, 35), q1, (0, st), (0, k), (0, kk)] [] (dsB ++ tl) m Q = Q (dsB ++ tl) m [(0, st + dpc (m 38) f k)] := by
  intro f
  induction f with
  | zero =>
    intro k st kk h0 h1 h2 h3 h4 h5 h6
    have hk : k = -1 := by omega
    have ht : ¬ tls m k := fun y => by
      have := y.1
      omega
    have e1 : dpc (m 38) 0 k = 0 := rfl
    rw [e1, show st + 0 = st by omega, p20_7]
    by_cases h7 : kk < 1000
    · have h8 : ¬ 1000 ≤ kk := by omega
      simp only [p20_0, p20_1, p20_2, p20_3, p20_4, p20_5, p20_9, p20_12, p20_15, p20_16, p20_17, p20_20, p20_23, p20_26, p20_27, p20_30, p20_31, p20_32, p20_33, p20_36, p20_39, p20_40, e16 S hc, b2_f ht, K_27, K_28, L_28, K_29, L_29, K_30, L_30, K_31, L_31, K_32, L_32, K_33, L_33, K_34, K_35, K_36, L_36, K_37, L_37, K_38, L_38, K_39, L_39, K_40, K_41, L_41, K_42, L_42, K_43, L_43, K_44, L_44, K_45, L_45, K_46, L_46, K_47, L_47, K_48, L_48, K_49, L_49, K_50, L_50, K_51, L_51, K_52, K_53, K_54, L_54, K_55, L_55, K_56, L_56, K_57, L_57, K_58, K_59, L_59, K_60, L_60, K_61, L_61, K_62, L_62, K_63, L_63, K_64, L_64, K_65, L_65, K_66, L_66, K_67, L_67, K_68, L_68, K_69, L_69, sh_27_0 S, sh_27_1 S, sh_27_2 S, sh_27_3 S, sh_27_4 S, sh_27_5 S, sh_34_0 S, sh_34_1 S, sh_34_2 S, sh_34_3 S, sh_34_4 S, sh_34_5 S, sh_34_6 S, sh_34_7 S, sh_35_0 S, sh_35_1 S, sh_35_2 S, sh_35_3 S, sh_40_0 S, sh_40_1 S, sh_40_2 S, sh_40_3 S, sh_40_4 S, sh_40_5 S, sh_52_0 S, sh_52_1 S, sh_52_2 S, sh_52_3 S, sh_52_4 S, sh_52_5 S, sh_52_6 S, sh_52_7 S, sh_53_0 S, sh_53_1 S, sh_53_2 S, sh_53_3 S, sh_58_0 S, sh_58_1 S, sh_58_2 S, sh_58_3 S, sh_58_4 S, sh_58_5 S, h7, h8, b2_T, b2_F, Int.reduceEq, Int.reduceLT, Int.reduceLE, Int.reduceAdd, Int.reduceSub, Int.reduceMul, Int.reduceNeg, reduceIte, if_true, if_false, true_or, or_true, false_or, or_false, false_and, and_false, eq_self, not_false_eq_true, not_true_eq_false, true_and, and_true, List.cons_append, List.nil_append, List.append_nil, b2_0, b2_1, b2_01, Classical.not_not]
    · have h8 : 1000 ≤ kk := by omega
      simp only [p20_0, p20_1, p20_2, p20_3, p20_4, p20_5, p20_9, p20_12, p20_15, p20_16, p20_17, p20_20, p20_23, p20_26, p20_27, p20_30, p20_31, p20_32, p20_33, p20_36, p20_39, p20_40, K_27, K_28, L_28, K_29, L_29, K_30, L_30, K_31, L_31, K_32, L_32, K_33, L_33, K_34, K_35, K_36, L_36, K_37, L_37, K_38, L_38, K_39, L_39, K_40, K_41, L_41, K_42, L_42, K_43, L_43, K_44, L_44, K_45, L_45, K_46, L_46, K_47, L_47, K_48, L_48, K_49, L_49, K_50, L_50, K_51, L_51, K_52, K_53, K_54, L_54, K_55, L_55, K_56, L_56, K_57, L_57, K_58, K_59, L_59, K_60, L_60, K_61, L_61, K_62, L_62, K_63, L_63, K_64, L_64, K_65, L_65, K_66, L_66, K_67, L_67, K_68, L_68, K_69, L_69, sh_27_0 S, sh_27_1 S, sh_27_2 S, sh_27_3 S, sh_27_4 S, sh_27_5 S, sh_34_0 S, sh_34_1 S, sh_34_2 S, sh_34_3 S, sh_34_4 S, sh_34_5 S, sh_34_6 S, sh_34_7 S, sh_35_0 S, sh_35_1 S, sh_35_2 S, sh_35_3 S, sh_40_0 S, sh_40_1 S, sh_40_2 S, sh_40_3 S, sh_40_4 S, sh_40_5 S, sh_52_0 S, sh_52_1 S, sh_52_2 S, sh_52_3 S, sh_52_4 S, sh_52_5 S, sh_52_6 S, sh_52_7 S, sh_53_0 S, sh_53_1 S, sh_53_2 S, sh_53_3 S, sh_58_0 S, sh_58_1 S, sh_58_2 S, sh_58_3 S, sh_58_4 S, sh_58_5 S, h7, h8, b2_T, b2_F, Int.reduceEq, Int.reduceLT, Int.reduceLE, Int.reduceAdd, Int.reduceSub, Int.reduceMul, Int.reduceNeg, reduceIte, if_true, if_false, true_or, or_true, false_or, or_false, false_and, and_false, eq_self, not_false_eq_true, not_true_eq_false, true_and, and_true, List.cons_append, List.nil_append, List.append_nil, b2_0, b2_1, b2_01, Classical.not_not]
  | succ f ih =>
    intro k st kk h0 h1 h2 h3 h4 h5 h6
    have e1 : dpc (m 38) (f + 1) k = if k = -1 then 0 else dpc (m 38) f (m 38 k) + 1 := rfl
    rw [e1, p20_7]
    by_cases hk : k = -1
    · have ht : ¬ tls m k := fun y => by
        have := y.1
        omega
      rw [if_pos hk, show st + 0 = st by omega]
      by_cases h7 : kk < 1000
      · have h8 : ¬ 1000 ≤ kk := by omega
        simp only [p20_0, p20_1, p20_2, p20_3, p20_4, p20_5, p20_9, p20_12, p20_15, p20_16, p20_17, p20_20, p20_23, p20_26, p20_27, p20_30, p20_31, p20_32, p20_33, p20_36, p20_39, p20_40, e16 S hc, b2_f ht, K_27, K_28, L_28, K_29, L_29, K_30, L_30, K_31, L_31, K_32, L_32, K_33, L_33, K_34, K_35, K_36, L_36, K_37, L_37, K_38, L_38, K_39, L_39, K_40, K_41, L_41, K_42, L_42, K_43, L_43, K_44, L_44, K_45, L_45, K_46, L_46, K_47, L_47, K_48, L_48, K_49, L_49, K_50, L_50, K_51, L_51, K_52, K_53, K_54, L_54, K_55, L_55, K_56, L_56, K_57, L_57, K_58, K_59, L_59, K_60, L_60, K_61, L_61, K_62, L_62, K_63, L_63, K_64, L_64, K_65, L_65, K_66, L_66, K_67, L_67, K_68, L_68, K_69, L_69, sh_27_0 S, sh_27_1 S, sh_27_2 S, sh_27_3 S, sh_27_4 S, sh_27_5 S, sh_34_0 S, sh_34_1 S, sh_34_2 S, sh_34_3 S, sh_34_4 S, sh_34_5 S, sh_34_6 S, sh_34_7 S, sh_35_0 S, sh_35_1 S, sh_35_2 S, sh_35_3 S, sh_40_0 S, sh_40_1 S, sh_40_2 S, sh_40_3 S, sh_40_4 S, sh_40_5 S, sh_52_0 S, sh_52_1 S, sh_52_2 S, sh_52_3 S, sh_52_4 S, sh_52_5 S, sh_52_6 S, sh_52_7 S, sh_53_0 S, sh_53_1 S, sh_53_2 S, sh_53_3 S, sh_58_0 S, sh_58_1 S, sh_58_2 S, sh_58_3 S, sh_58_4 S, sh_58_5 S, h7, h8, b2_T, b2_F, Int.reduceEq, Int.reduceLT, Int.reduceLE, Int.reduceAdd, Int.reduceSub, Int.reduceMul, Int.reduceNeg, reduceIte, if_true, if_false, true_or, or_true, false_or, or_false, false_and, and_false, eq_self, not_false_eq_true, not_true_eq_false, true_and, and_true, List.cons_append, List.nil_append, List.append_nil, b2_0, b2_1, b2_01, Classical.not_not]
      · have h8 : 1000 ≤ kk := by omega
        simp only [p20_0, p20_1, p20_2, p20_3, p20_4, p20_5, p20_9, p20_12, p20_15, p20_16, p20_17, p20_20, p20_23, p20_26, p20_27, p20_30, p20_31, p20_32, p20_33, p20_36, p20_39, p20_40, K_27, K_28, L_28, K_29, L_29, K_30, L_30, K_31, L_31, K_32, L_32, K_33, L_33, K_34, K_35, K_36, L_36, K_37, L_37, K_38, L_38, K_39, L_39, K_40, K_41, L_41, K_42, L_42, K_43, L_43, K_44, L_44, K_45, L_45, K_46, L_46, K_47, L_47, K_48, L_48, K_49, L_49, K_50, L_50, K_51, L_51, K_52, K_53, K_54, L_54, K_55, L_55, K_56, L_56, K_57, L_57, K_58, K_59, L_59, K_60, L_60, K_61, L_61, K_62, L_62, K_63, L_63, K_64, L_64, K_65, L_65, K_66, L_66, K_67, L_67, K_68, L_68, K_69, L_69, sh_27_0 S, sh_27_1 S, sh_27_2 S, sh_27_3 S, sh_27_4 S, sh_27_5 S, sh_34_0 S, sh_34_1 S, sh_34_2 S, sh_34_3 S, sh_34_4 S, sh_34_5 S, sh_34_6 S, sh_34_7 S, sh_35_0 S, sh_35_1 S, sh_35_2 S, sh_35_3 S, sh_40_0 S, sh_40_1 S, sh_40_2 S, sh_40_3 S, sh_40_4 S, sh_40_5 S, sh_52_0 S, sh_52_1 S, sh_52_2 S, sh_52_3 S, sh_52_4 S, sh_52_5 S, sh_52_6 S, sh_52_7 S, sh_53_0 S, sh_53_1 S, sh_53_2 S, sh_53_3 S, sh_58_0 S, sh_58_1 S, sh_58_2 S, sh_58_3 S, sh_58_4 S, sh_58_5 S, h7, h8, b2_T, b2_F, Int.reduceEq, Int.reduceLT, Int.reduceLE, Int.reduceAdd, Int.reduceSub, Int.reduceMul, Int.reduceNeg, reduceIte, if_true, if_false, true_or, or_true, false_or, or_false, false_and, and_false, eq_self, not_false_eq_true, not_true_eq_false, true_and, and_true, List.cons_append, List.nil_append, List.append_nil, b2_0, b2_1, b2_01, Classical.not_not]
    · rw [if_neg hk]
      have l := C k (by omega) h1
      have ht : tls m k := ⟨by omega, h1⟩
      have h7 : kk < 1000 := by omega
      have h8 : ¬ 1000 ≤ kk := by omega
      have w1 : w32 (st + 1) = st + 1 := w32_id (by omega) (by omega)
      have w2 : w32 (kk + 1) = kk + 1 := w32_id (by omega) (by omega)
      have k0 : 0 ≤ k := ht.1
      have k1 : k < 1000 := by omega
      have r := ih (m 38 k) (st + 1) (kk + 1) l.1 (by omega) (by omega) (by omega) (by omega) (by omega) (by omega)
      simp only [p20_0, p20_1, p20_2, p20_3, p20_4, p20_5, p20_9, p20_12, p20_15, p20_16, p20_17, p20_20, p20_23, p20_26, p20_27, p20_30, p20_31, p20_32, p20_33, p20_36, p20_39, p20_40, e16 S hc, b2_t ht, K_27, K_28, L_28, K_29, L_29, K_30, L_30, K_31, L_31, K_32, L_32, K_33, L_33, K_34, K_35, K_36, L_36, K_37, L_37, K_38, L_38, K_39, L_39, K_40, K_41, L_41, K_42, L_42, K_43, L_43, K_44, L_44, K_45, L_45, K_46, L_46, K_47, L_47, K_48, L_48, K_49, L_49, K_50, L_50, K_51, L_51, K_52, K_53, K_54, L_54, K_55, L_55, K_56, L_56, K_57, L_57, K_58, K_59, L_59, K_60, L_60, K_61, L_61, K_62, L_62, K_63, L_63, K_64, L_64, K_65, L_65, K_66, L_66, K_67, L_67, K_68, L_68, K_69, L_69, sh_27_0 S, sh_27_1 S, sh_27_2 S, sh_27_3 S, sh_27_4 S, sh_27_5 S, sh_34_0 S, sh_34_1 S, sh_34_2 S, sh_34_3 S, sh_34_4 S, sh_34_5 S, sh_34_6 S, sh_34_7 S, sh_35_0 S, sh_35_1 S, sh_35_2 S, sh_35_3 S, sh_40_0 S, sh_40_1 S, sh_40_2 S, sh_40_3 S, sh_40_4 S, sh_40_5 S, sh_52_0 S, sh_52_1 S, sh_52_2 S, sh_52_3 S, sh_52_4 S, sh_52_5 S, sh_52_6 S, sh_52_7 S, sh_53_0 S, sh_53_1 S, sh_53_2 S, sh_53_3 S, sh_58_0 S, sh_58_1 S, sh_58_2 S, sh_58_3 S, sh_58_4 S, sh_58_5 S, h7, h8, w1, w2, k0, k1, r, b2_T, b2_F, Int.reduceEq, Int.reduceLT, Int.reduceLE, Int.reduceAdd, Int.reduceSub, Int.reduceMul, Int.reduceNeg, reduceIte, if_true, if_false, true_or, or_true, false_or, or_false, false_and, and_false, eq_self, not_false_eq_true, not_true_eq_false, true_and, and_true, List.cons_append, List.nil_append, List.append_nil, b2_0, b2_1, b2_01, Classical.not_not]
      exact q_eq (by omega)
theorem e20 (S : Sh m) (hc : 0 ≤ m 35 4 ∧ m 35 4 ≤ 1000) (C : CH (m 38) (m 35 4)) (h0 : -1 ≤ k) (h1 : k < m 35 4) : WP 20 0 [(2, 35), (0, k), (3, 0), (3, 0), (3, 0)] [] (dsB ++ tl) m Q = Q (dsB ++ tl) m [(0, dpc (m 38) 1001 k - 1)] := by
  have r := fun (q1 : MV) => e20l (tl := tl) (Q := Q) (q1 := q1) S hc C 1001 k (-1) 0 h0 h1 (by omega) (by omega) (by omega) (by omega) (by omega)
  simp only [p20_0, p20_1, p20_2, p20_3, p20_4, p20_5, p20_0, p20_1, p20_2, p20_3, p20_4, p20_5, p20_9, p20_12, p20_15, p20_16, p20_17, p20_20, p20_23, p20_26, p20_27, p20_30, p20_31, p20_32, p20_33, p20_36, p20_39, p20_40, r, b2_T, b2_F, Int.reduceEq, Int.reduceLT, Int.reduceLE, Int.reduceAdd, Int.reduceSub, Int.reduceMul, Int.reduceNeg, reduceIte, if_true, if_false, true_or, or_true, false_or, or_false, false_and, and_false, eq_self, not_false_eq_true, not_true_eq_false, true_and, and_true, List.cons_append, List.nil_append, List.append_nil, b2_0, b2_1, b2_01, Classical.not_not]
  exact q_eq (by omega)
theorem e21l (S : Sh m) (hc : 0 ≤ m 35 4 ∧ m 35 4 ≤ 1000) (C : CH (m 38) (m 35 4)) : ∀ (j f : Nat) (k s kk : Int), -1 ≤ k → k < m 35 4 → (j : Int) + 1 ≤ dpc (m 38) f k → 0 ≤ kk → kk + j = s → s < 2000 → WP 21 11 [(2, 35), q1, (0, s), (0, k), (0, kk)] [] (dsB ++ tl) m Q = Q (dsB ++ tl) m [(0, itc (m 38) j k)] := by
  intro j
  induction j with
  | zero =>
    intro f k s kk h0 h1 h2 h3 h4 h5
    have hk : 0 ≤ k := by
      have := (dpc_b C f k h0 h1).2
      omega
    have ht : tls m k := ⟨hk, h1⟩
    have h6 : s ≤ kk := by omega
    have h7 : ¬ kk < s := by omega
    rw [p21_11]
    simp only [p21_0, p21_1, p21_4, p21_5, p21_6, p21_7, p21_8, p21_9, p21_13, p21_14, p21_17, p21_18, p21_19, p21_22, p21_25, p21_26, p21_29, p21_30, p21_31, p21_32, p21_35, p21_38, p21_39, p21_40, p21_43, p21_46, p21_47, p21_50, p21_51, e16 S hc, b2_t ht, K_27, K_28, L_28, K_29, L_29, K_30, L_30, K_31, L_31, K_32, L_32, K_33, L_33, K_34, K_35, K_36, L_36, K_37, L_37, K_38, L_38, K_39, L_39, K_40, K_41, L_41, K_42, L_42, K_43, L_43, K_44, L_44, K_45, L_45, K_46, L_46, K_47, L_47, K_48, L_48, K_49, L_49, K_50, L_50, K_51, L_51, K_52, K_53, K_54, L_54, K_55, L_55, K_56, L_56, K_57, L_57, K_58, K_59, L_59, K_60, L_60, K_61, L_61, K_62, L_62, K_63, L_63, K_64, L_64, K_65, L_65, K_66, L_66, K_67, L_67, K_68, L_68, K_69, L_69, sh_27_0 S, sh_27_1 S, sh_27_2 S, sh_27_3 S, sh_27_4 S, sh_27_5 S, sh_34_0 S, sh_34_1 S, sh_34_2 S, sh_34_3 S, sh_34_4 S, sh_34_5 S, sh_34_6 S, sh_34_7 S, sh_35_0 S, sh_35_1 S, sh_35_2 S, sh_35_3 S, sh_40_0 S, sh_40_1 S, sh_40_2 S, sh_40_3 S, sh_40_4 S, sh_40_5 S, sh_52_0 S, sh_52_1 S, sh_52_2 S, sh_52_3 S, sh_52_4 S, sh_52_5 S, sh_52_6 S, sh_52_7 S, sh_53_0 S, sh_53_1 S, sh_53_2 S, sh_53_3 S, sh_58_0 S, sh_58_1 S, sh_58_2 S, sh_58_3 S, sh_58_4 S, sh_58_5 S, h6, h7, b2_T, b2_F, Int.reduceEq, Int.reduceLT, Int.reduceLE, Int.reduceAdd, Int.reduceSub, Int.reduceMul, Int.reduceNeg, reduceIte, if_true, if_false, true_or, or_true, false_or, or_false, false_and, and_false, eq_self, not_false_eq_true, not_true_eq_false, true_and, and_true, List.cons_append, List.nil_append, List.append_nil, b2_0, b2_1, b2_01, Classical.not_not]
    rfl
  | succ j ih =>
    intro f k s kk h0 h1 h2 h3 h4 h5
    match f, h2 with
    | 0, h2 =>
      have : dpc (m 38) 0 k = 0 := rfl
      omega
    | f + 1, h2 =>
      have e1 : dpc (m 38) (f + 1) k = if k = -1 then 0 else dpc (m 38) f (m 38 k) + 1 := rfl
      rw [e1] at h2
      by_cases hk : k = -1
      · rw [if_pos hk] at h2
        omega
      · rw [if_neg hk] at h2
        have l := C k (by omega) h1
        have ht : tls m k := ⟨by omega, h1⟩
        have h6 : ¬ s ≤ kk := by omega
        have h7 : kk < s := by omega
        have w2 : w32 (kk + 1) = kk + 1 := w32_id (by omega) (by omega)
        have k0 : 0 ≤ k := ht.1
        have k1 : k < 1000 := by omega
        have r := ih f (m 38 k) s (kk + 1) l.1 (by omega) (by omega) (by omega) (by omega) h5
        rw [p21_11]
        simp only [p21_0, p21_1, p21_4, p21_5, p21_6, p21_7, p21_8, p21_9, p21_13, p21_14, p21_17, p21_18, p21_19, p21_22, p21_25, p21_26, p21_29, p21_30, p21_31, p21_32, p21_35, p21_38, p21_39, p21_40, p21_43, p21_46, p21_47, p21_50, p21_51, e16 S hc, b2_t ht, K_27, K_28, L_28, K_29, L_29, K_30, L_30, K_31, L_31, K_32, L_32, K_33, L_33, K_34, K_35, K_36, L_36, K_37, L_37, K_38, L_38, K_39, L_39, K_40, K_41, L_41, K_42, L_42, K_43, L_43, K_44, L_44, K_45, L_45, K_46, L_46, K_47, L_47, K_48, L_48, K_49, L_49, K_50, L_50, K_51, L_51, K_52, K_53, K_54, L_54, K_55, L_55, K_56, L_56, K_57, L_57, K_58, K_59, L_59, K_60, L_60, K_61, L_61, K_62, L_62, K_63, L_63, K_64, L_64, K_65, L_65, K_66, L_66, K_67, L_67, K_68, L_68, K_69, L_69, sh_27_0 S, sh_27_1 S, sh_27_2 S, sh_27_3 S, sh_27_4 S, sh_27_5 S, sh_34_0 S, sh_34_1 S, sh_34_2 S, sh_34_3 S, sh_34_4 S, sh_34_5 S, sh_34_6 S, sh_34_7 S, sh_35_0 S, sh_35_1 S, sh_35_2 S, sh_35_3 S, sh_40_0 S, sh_40_1 S, sh_40_2 S, sh_40_3 S, sh_40_4 S, sh_40_5 S, sh_52_0 S, sh_52_1 S, sh_52_2 S, sh_52_3 S, sh_52_4 S, sh_52_5 S, sh_52_6 S, sh_52_7 S, sh_53_0 S, sh_53_1 S, sh_53_2 S, sh_53_3 S, sh_58_0 S, sh_58_1 S, sh_58_2 S, sh_58_3 S, sh_58_4 S, sh_58_5 S, h6, h7, w2, k0, k1, r, b2_T, b2_F, Int.reduceEq, Int.reduceLT, Int.reduceLE, Int.reduceAdd, Int.reduceSub, Int.reduceMul, Int.reduceNeg, reduceIte, if_true, if_false, true_or, or_true, false_or, or_false, false_and, and_false, eq_self, not_false_eq_true, not_true_eq_false, true_and, and_true, List.cons_append, List.nil_append, List.append_nil, b2_0, b2_1, b2_01, Classical.not_not]
        rfl
theorem e21 (S : Sh m) (hc : 0 ≤ m 35 4 ∧ m 35 4 ≤ 1000) (C : CH (m 38) (m 35 4)) (h0 : -1 ≤ k) (h1 : k < m 35 4) (hs : s < dpc (m 38) 1001 k) : WP 21 0 [(2, 35), (0, k), (0, s), (3, 0), (3, 0)] [] (dsB ++ tl) m Q = Q (dsB ++ tl) m [(0, if s < 0 then -1 else itc (m 38) s.toNat k)] := by
  by_cases h : s < 0
  · have h' : ¬ 0 ≤ s := by omega
    rw [if_pos h]
    simp only [p21_0, p21_1, p21_4, p21_5, p21_6, p21_7, p21_8, p21_9, p21_13, p21_14, p21_17, p21_18, p21_19, p21_22, p21_25, p21_26, p21_29, p21_30, p21_31, p21_32, p21_35, p21_38, p21_39, p21_40, p21_43, p21_46, p21_47, p21_50, p21_51, h, h', b2_T, b2_F, Int.reduceEq, Int.reduceLT, Int.reduceLE, Int.reduceAdd, Int.reduceSub, Int.reduceMul, Int.reduceNeg, reduceIte, if_true, if_false, true_or, or_true, false_or, or_false, false_and, and_false, eq_self, not_false_eq_true, not_true_eq_false, true_and, and_true, List.cons_append, List.nil_append, List.append_nil, b2_0, b2_1, b2_01, Classical.not_not]
  · have h' : 0 ≤ s := by omega
    rw [if_neg h]
    have b := dpc_b C 1001 k h0 h1
    have r := fun (q1 : MV) => e21l (tl := tl) (Q := Q) (q1 := q1) S hc C s.toNat 1001 k s 0 h0 h1 (by omega) (by omega) (by omega) (by omega)
    simp only [p21_0, p21_1, p21_4, p21_5, p21_6, p21_7, p21_8, p21_9, p21_13, p21_14, p21_17, p21_18, p21_19, p21_22, p21_25, p21_26, p21_29, p21_30, p21_31, p21_32, p21_35, p21_38, p21_39, p21_40, p21_43, p21_46, p21_47, p21_50, p21_51, r, h, h', b2_T, b2_F, Int.reduceEq, Int.reduceLT, Int.reduceLE, Int.reduceAdd, Int.reduceSub, Int.reduceMul, Int.reduceNeg, reduceIte, if_true, if_false, true_or, or_true, false_or, or_false, false_and, and_false, eq_self, not_false_eq_true, not_true_eq_false, true_and, and_true, List.cons_append, List.nil_append, List.append_nil, b2_0, b2_1, b2_01, Classical.not_not]
/-- strike i is the ring of cell d -/
abbrev rgA (m : Mm) (d i : Int) : Prop := ¬ jand (m 39 i) 4 = 0 ∧ m 37 i / 4 = d
theorem e19l (S : Sh m) (hc : 0 ≤ m 35 4 ∧ m 35 4 ≤ 1000) (hp : ∀ i, tls m i → 0 ≤ m 37 i ∧ m 37 i < 400) (hv : (v = -1 ∧ ∀ i, 0 ≤ i → i < m 35 4 → ¬ rgA m d i) ∨ (tls m v ∧ rgA m d v ∧ ∀ i, 0 ≤ i → i < v → ¬ rgA m d i)) : ∀ (f : Nat) (n : Int), 0 ≤ n → n + f = m 35 4 → (v = -1 ∨ n ≤ v) → WP 19 2 [(2, 35), (0, d), (0, n)] [] (dsB ++ tl) m Q = Q (dsB ++ tl) m [(0, v)] := by
  intro f
  induction f with
  | zero =>
    intro n h0 h1 h2
    have hv1 : v = -1 := by
      rcases hv with h | h
      · exact h.1
      · have := h.1.1
        have := h.1.2
        omega
    have h3 : m 35 4 ≤ n := by omega
    have h4 : ¬ n < m 35 4 := by omega
    rw [p19_2]
    simp only [p19_0, p19_1, p19_3, p19_4, p19_7, p19_10, p19_11, p19_12, p19_13, p19_16, p19_19, p19_20, p19_23, p19_24, p19_25, p19_26, p19_27, p19_28, p19_31, p19_32, p19_33, p19_36, p19_39, p19_40, K_27, K_28, L_28, K_29, L_29, K_30, L_30, K_31, L_31, K_32, L_32, K_33, L_33, K_34, K_35, K_36, L_36, K_37, L_37, K_38, L_38, K_39, L_39, K_40, K_41, L_41, K_42, L_42, K_43, L_43, K_44, L_44, K_45, L_45, K_46, L_46, K_47, L_47, K_48, L_48, K_49, L_49, K_50, L_50, K_51, L_51, K_52, K_53, K_54, L_54, K_55, L_55, K_56, L_56, K_57, L_57, K_58, K_59, L_59, K_60, L_60, K_61, L_61, K_62, L_62, K_63, L_63, K_64, L_64, K_65, L_65, K_66, L_66, K_67, L_67, K_68, L_68, K_69, L_69, sh_27_0 S, sh_27_1 S, sh_27_2 S, sh_27_3 S, sh_27_4 S, sh_27_5 S, sh_34_0 S, sh_34_1 S, sh_34_2 S, sh_34_3 S, sh_34_4 S, sh_34_5 S, sh_34_6 S, sh_34_7 S, sh_35_0 S, sh_35_1 S, sh_35_2 S, sh_35_3 S, sh_40_0 S, sh_40_1 S, sh_40_2 S, sh_40_3 S, sh_40_4 S, sh_40_5 S, sh_52_0 S, sh_52_1 S, sh_52_2 S, sh_52_3 S, sh_52_4 S, sh_52_5 S, sh_52_6 S, sh_52_7 S, sh_53_0 S, sh_53_1 S, sh_53_2 S, sh_53_3 S, sh_58_0 S, sh_58_1 S, sh_58_2 S, sh_58_3 S, sh_58_4 S, sh_58_5 S, h3, h4, hv1, b2_T, b2_F, Int.reduceEq, Int.reduceLT, Int.reduceLE, Int.reduceAdd, Int.reduceSub, Int.reduceMul, Int.reduceNeg, reduceIte, if_true, if_false, true_or, or_true, false_or, or_false, false_and, and_false, eq_self, not_false_eq_true, not_true_eq_false, true_and, and_true, List.cons_append, List.nil_append, List.append_nil, b2_0, b2_1, b2_01, Classical.not_not]
  | succ f ih =>
    intro n h0 h1 h2
    have ht : tls m n := ⟨h0, by omega⟩
    have h3 : ¬ m 35 4 ≤ n := by omega
    have h4 : n < m 35 4 := ht.2
    have n1 : n < 1000 := by omega
    have pb := hp n ht
    have j1 : jdiv (m 37 n) 4 = m 37 n / 4 := jdiv_nn (by omega) (by omega) (by omega) (by omega)
    have w2 : w32 (n + 1) = n + 1 := w32_id (by omega) (by omega)
    rw [p19_2]
    by_cases hr : rgA m d n
    · have hnv : v = n := by
        rcases hv with h | h
        · exact absurd hr (h.2 n h0 h4)
        · rcases h2 with z | z
          · have := h.1.1
            omega
          · by_cases y : n < v
            · exact absurd hr (h.2.2 n h0 y)
            · omega
      have r1 := hr.1
      have r2 := hr.2
      rw [hnv]
      simp only [p19_0, p19_1, p19_3, p19_4, p19_7, p19_10, p19_11, p19_12, p19_13, p19_16, p19_19, p19_20, p19_23, p19_24, p19_25, p19_26, p19_27, p19_28, p19_31, p19_32, p19_33, p19_36, p19_39, p19_40, e17 S hc, b2_t (And.intro ht r1), K_27, K_28, L_28, K_29, L_29, K_30, L_30, K_31, L_31, K_32, L_32, K_33, L_33, K_34, K_35, K_36, L_36, K_37, L_37, K_38, L_38, K_39, L_39, K_40, K_41, L_41, K_42, L_42, K_43, L_43, K_44, L_44, K_45, L_45, K_46, L_46, K_47, L_47, K_48, L_48, K_49, L_49, K_50, L_50, K_51, L_51, K_52, K_53, K_54, L_54, K_55, L_55, K_56, L_56, K_57, L_57, K_58, K_59, L_59, K_60, L_60, K_61, L_61, K_62, L_62, K_63, L_63, K_64, L_64, K_65, L_65, K_66, L_66, K_67, L_67, K_68, L_68, K_69, L_69, sh_27_0 S, sh_27_1 S, sh_27_2 S, sh_27_3 S, sh_27_4 S, sh_27_5 S, sh_34_0 S, sh_34_1 S, sh_34_2 S, sh_34_3 S, sh_34_4 S, sh_34_5 S, sh_34_6 S, sh_34_7 S, sh_35_0 S, sh_35_1 S, sh_35_2 S, sh_35_3 S, sh_40_0 S, sh_40_1 S, sh_40_2 S, sh_40_3 S, sh_40_4 S, sh_40_5 S, sh_52_0 S, sh_52_1 S, sh_52_2 S, sh_52_3 S, sh_52_4 S, sh_52_5 S, sh_52_6 S, sh_52_7 S, sh_53_0 S, sh_53_1 S, sh_53_2 S, sh_53_3 S, sh_58_0 S, sh_58_1 S, sh_58_2 S, sh_58_3 S, sh_58_4 S, sh_58_5 S, h0, h3, h4, n1, j1, r2, b2_T, b2_F, Int.reduceEq, Int.reduceLT, Int.reduceLE, Int.reduceAdd, Int.reduceSub, Int.reduceMul, Int.reduceNeg, reduceIte, if_true, if_false, true_or, or_true, false_or, or_false, false_and, and_false, eq_self, not_false_eq_true, not_true_eq_false, true_and, and_true, List.cons_append, List.nil_append, List.append_nil, b2_0, b2_1, b2_01, Classical.not_not]
    · have r := ih (n + 1) (by omega) (by omega) (by
        rcases hv with h | h
        · exact Or.inl h.1
        · rcases h2 with z | z
          · exact Or.inl z
          · refine Or.inr ?_
            by_cases y : n = v
            · rw [← y] at h
              exact absurd h.2.1 hr
            · omega)
      by_cases r1 : jand (m 39 n) 4 = 0
      · simp only [p19_0, p19_1, p19_3, p19_4, p19_7, p19_10, p19_11, p19_12, p19_13, p19_16, p19_19, p19_20, p19_23, p19_24, p19_25, p19_26, p19_27, p19_28, p19_31, p19_32, p19_33, p19_36, p19_39, p19_40, e17 S hc, b2_f (fun (y : tls m n ∧ ¬ jand (m 39 n) 4 = 0) => y.2 r1), K_27, K_28, L_28, K_29, L_29, K_30, L_30, K_31, L_31, K_32, L_32, K_33, L_33, K_34, K_35, K_36, L_36, K_37, L_37, K_38, L_38, K_39, L_39, K_40, K_41, L_41, K_42, L_42, K_43, L_43, K_44, L_44, K_45, L_45, K_46, L_46, K_47, L_47, K_48, L_48, K_49, L_49, K_50, L_50, K_51, L_51, K_52, K_53, K_54, L_54, K_55, L_55, K_56, L_56, K_57, L_57, K_58, K_59, L_59, K_60, L_60, K_61, L_61, K_62, L_62, K_63, L_63, K_64, L_64, K_65, L_65, K_66, L_66, K_67, L_67, K_68, L_68, K_69, L_69, sh_27_0 S, sh_27_1 S, sh_27_2 S, sh_27_3 S, sh_27_4 S, sh_27_5 S, sh_34_0 S, sh_34_1 S, sh_34_2 S, sh_34_3 S, sh_34_4 S, sh_34_5 S, sh_34_6 S, sh_34_7 S, sh_35_0 S, sh_35_1 S, sh_35_2 S, sh_35_3 S, sh_40_0 S, sh_40_1 S, sh_40_2 S, sh_40_3 S, sh_40_4 S, sh_40_5 S, sh_52_0 S, sh_52_1 S, sh_52_2 S, sh_52_3 S, sh_52_4 S, sh_52_5 S, sh_52_6 S, sh_52_7 S, sh_53_0 S, sh_53_1 S, sh_53_2 S, sh_53_3 S, sh_58_0 S, sh_58_1 S, sh_58_2 S, sh_58_3 S, sh_58_4 S, sh_58_5 S, h0, h3, h4, n1, w2, r, b2_T, b2_F, Int.reduceEq, Int.reduceLT, Int.reduceLE, Int.reduceAdd, Int.reduceSub, Int.reduceMul, Int.reduceNeg, reduceIte, if_true, if_false, true_or, or_true, false_or, or_false, false_and, and_false, eq_self, not_false_eq_true, not_true_eq_false, true_and, and_true, List.cons_append, List.nil_append, List.append_nil, b2_0, b2_1, b2_01, Classical.not_not]
      · have r2 : ¬ m 37 n / 4 = d := fun y => hr ⟨r1, y⟩
        simp only [p19_0, p19_1, p19_3, p19_4, p19_7, p19_10, p19_11, p19_12, p19_13, p19_16, p19_19, p19_20, p19_23, p19_24, p19_25, p19_26, p19_27, p19_28, p19_31, p19_32, p19_33, p19_36, p19_39, p19_40, e17 S hc, b2_t (And.intro ht r1), K_27, K_28, L_28, K_29, L_29, K_30, L_30, K_31, L_31, K_32, L_32, K_33, L_33, K_34, K_35, K_36, L_36, K_37, L_37, K_38, L_38, K_39, L_39, K_40, K_41, L_41, K_42, L_42, K_43, L_43, K_44, L_44, K_45, L_45, K_46, L_46, K_47, L_47, K_48, L_48, K_49, L_49, K_50, L_50, K_51, L_51, K_52, K_53, K_54, L_54, K_55, L_55, K_56, L_56, K_57, L_57, K_58, K_59, L_59, K_60, L_60, K_61, L_61, K_62, L_62, K_63, L_63, K_64, L_64, K_65, L_65, K_66, L_66, K_67, L_67, K_68, L_68, K_69, L_69, sh_27_0 S, sh_27_1 S, sh_27_2 S, sh_27_3 S, sh_27_4 S, sh_27_5 S, sh_34_0 S, sh_34_1 S, sh_34_2 S, sh_34_3 S, sh_34_4 S, sh_34_5 S, sh_34_6 S, sh_34_7 S, sh_35_0 S, sh_35_1 S, sh_35_2 S, sh_35_3 S, sh_40_0 S, sh_40_1 S, sh_40_2 S, sh_40_3 S, sh_40_4 S, sh_40_5 S, sh_52_0 S, sh_52_1 S, sh_52_2 S, sh_52_3 S, sh_52_4 S, sh_52_5 S, sh_52_6 S, sh_52_7 S, sh_53_0 S, sh_53_1 S, sh_53_2 S, sh_53_3 S, sh_58_0 S, sh_58_1 S, sh_58_2 S, sh_58_3 S, sh_58_4 S, sh_58_5 S, h0, h3, h4, n1, j1, r2, w2, r, b2_T, b2_F, Int.reduceEq, Int.reduceLT, Int.reduceLE, Int.reduceAdd, Int.reduceSub, Int.reduceMul, Int.reduceNeg, reduceIte, if_true, if_false, true_or, or_true, false_or, or_false, false_and, and_false, eq_self, not_false_eq_true, not_true_eq_false, true_and, and_true, List.cons_append, List.nil_append, List.append_nil, b2_0, b2_1, b2_01, Classical.not_not]
theorem e19 (S : Sh m) (hc : 0 ≤ m 35 4 ∧ m 35 4 ≤ 1000) (hp : ∀ i, tls m i → 0 ≤ m 37 i ∧ m 37 i < 400) (hv : (v = -1 ∧ ∀ i, 0 ≤ i → i < m 35 4 → ¬ rgA m d i) ∨ (tls m v ∧ rgA m d v ∧ ∀ i, 0 ≤ i → i < v → ¬ rgA m d i)) : WP 19 0 [(2, 35), (0, d), (3, 0)] [] (dsB ++ tl) m Q = Q (dsB ++ tl) m [(0, v)] := by
  have r := e19l (tl := tl) (Q := Q) S hc hp hv (m 35 4).toNat 0 (by omega) (by omega) (by
    rcases hv with h | h
    · exact Or.inl h.1
    · exact Or.inr h.1.1)
  simp only [p19_0, p19_1, r, b2_T, b2_F, Int.reduceEq, Int.reduceLT, Int.reduceLE, Int.reduceAdd, Int.reduceSub, Int.reduceMul, Int.reduceNeg, reduceIte, if_true, if_false, true_or, or_true, false_or, or_false, false_and, and_false, eq_self, not_false_eq_true, not_true_eq_false, true_and, and_true, List.cons_append, List.nil_append, List.append_nil, b2_0, b2_1, b2_01, Classical.not_not]
theorem e86 (S : Sh m) (hc : 0 ≤ m 35 4 ∧ m 35 4 ≤ 1000) (hp : ∀ i, tls m i → 0 ≤ m 37 i ∧ m 37 i < 400) (C : CH (m 38) (m 35 4)) (hi : -2147483648 ≤ i ∧ i < 2147483648) (hv : (v = -1 ∧ ∀ i, 0 ≤ i → i < m 35 4 → ¬ rgA m d i) ∨ (tls m v ∧ rgA m d v ∧ ∀ i, 0 ≤ i → i < v → ¬ rgA m d i)) : WP 86 0 [(2, 0), (0, d), (0, i), (3, 0), (3, 0)] [] (dsB ++ tl) m Q = Q (dsB ++ tl) m [(0, wyR (m 38) v i)] := by
  have v0 : -1 ≤ v ∧ v < m 35 4 := by
    rcases hv with h | h
    · omega
    · have := h.1.1
      have := h.1.2
      omega
  have b := dpc_b C 1001 v v0.1 v0.2
  unfold wyR
  by_cases h : i < 0
  · have h' : ¬ 0 ≤ i := by omega
    rw [if_neg (fun y => h' y.1)]
    simp only [p86_0, p86_1, p86_4, p86_5, p86_6, p86_7, p86_10, p86_13, p86_14, p86_15, p86_16, p86_19, p86_21, p86_22, p86_24, p86_25, p86_27, p86_30, p86_31, p86_32, p86_35, h, h', b2_T, b2_F, Int.reduceEq, Int.reduceLT, Int.reduceLE, Int.reduceAdd, Int.reduceSub, Int.reduceMul, Int.reduceNeg, reduceIte, if_true, if_false, true_or, or_true, false_or, or_false, false_and, and_false, eq_self, not_false_eq_true, not_true_eq_false, true_and, and_true, List.cons_append, List.nil_append, List.append_nil, b2_0, b2_1, b2_01, Classical.not_not]
  · have h' : 0 ≤ i := by omega
    have w1 : w32 (dpc (m 38) 1001 v - 1 - i) = dpc (m 38) 1001 v - 1 - i := w32_id (by omega) (by omega)
    have ea := fun (Q : Ds → Mm → List MV → Prop) => e19 (tl := tl) (Q := Q) S hc hp hv
    have eb := fun (Q : Ds → Mm → List MV → Prop) => e20 (tl := tl) (Q := Q) S hc C v0.1 v0.2
    have ec := fun (Q : Ds → Mm → List MV → Prop) => e21 (tl := tl) (Q := Q) (s := dpc (m 38) 1001 v - 1 - i) S hc C v0.1 v0.2 (by omega)
    by_cases g : i < dpc (m 38) 1001 v
    · have g' : ¬ dpc (m 38) 1001 v - 1 - i < 0 := by omega
      rw [if_pos ⟨h', g⟩]
      simp only [if_neg g'] at ec
      simp only [p86_0, p86_1, p86_4, p86_5, p86_6, p86_7, p86_10, p86_13, p86_14, p86_15, p86_16, p86_19, p86_21, p86_22, p86_24, p86_25, p86_27, p86_30, p86_31, p86_32, p86_35, K_0, K_3, L_3, sh_0_0 S, sh_0_1 S, sh_0_2 S, sh_0_3 S, sh_0_4 S, sh_0_5 S, sh_0_7 S, sh_0_8 S, sh_0_10 S, sh_0_12 S, sh_0_14 S, sh_0_15 S, K_27, K_28, L_28, K_29, L_29, K_30, L_30, K_31, L_31, K_32, L_32, K_33, L_33, K_34, K_35, K_36, L_36, K_37, L_37, K_38, L_38, K_39, L_39, K_40, K_41, L_41, K_42, L_42, K_43, L_43, K_44, L_44, K_45, L_45, K_46, L_46, K_47, L_47, K_48, L_48, K_49, L_49, K_50, L_50, K_51, L_51, K_52, K_53, K_54, L_54, K_55, L_55, K_56, L_56, K_57, L_57, K_58, K_59, L_59, K_60, L_60, K_61, L_61, K_62, L_62, K_63, L_63, K_64, L_64, K_65, L_65, K_66, L_66, K_67, L_67, K_68, L_68, K_69, L_69, sh_27_0 S, sh_27_1 S, sh_27_2 S, sh_27_3 S, sh_27_4 S, sh_27_5 S, sh_34_0 S, sh_34_1 S, sh_34_2 S, sh_34_3 S, sh_34_4 S, sh_34_5 S, sh_34_6 S, sh_34_7 S, sh_35_0 S, sh_35_1 S, sh_35_2 S, sh_35_3 S, sh_40_0 S, sh_40_1 S, sh_40_2 S, sh_40_3 S, sh_40_4 S, sh_40_5 S, sh_52_0 S, sh_52_1 S, sh_52_2 S, sh_52_3 S, sh_52_4 S, sh_52_5 S, sh_52_6 S, sh_52_7 S, sh_53_0 S, sh_53_1 S, sh_53_2 S, sh_53_3 S, sh_58_0 S, sh_58_1 S, sh_58_2 S, sh_58_3 S, sh_58_4 S, sh_58_5 S, h, h', ea, eb, ec, w1, b2_T, b2_F, Int.reduceEq, Int.reduceLT, Int.reduceLE, Int.reduceAdd, Int.reduceSub, Int.reduceMul, Int.reduceNeg, reduceIte, if_true, if_false, true_or, or_true, false_or, or_false, false_and, and_false, eq_self, not_false_eq_true, not_true_eq_false, true_and, and_true, List.cons_append, List.nil_append, List.append_nil, b2_0, b2_1, b2_01, Classical.not_not]
    · have g' : dpc (m 38) 1001 v - 1 - i < 0 := by omega
      rw [if_neg (fun y => g y.2)]
      simp only [if_pos g'] at ec
      simp only [p86_0, p86_1, p86_4, p86_5, p86_6, p86_7, p86_10, p86_13, p86_14, p86_15, p86_16, p86_19, p86_21, p86_22, p86_24, p86_25, p86_27, p86_30, p86_31, p86_32, p86_35, K_0, K_3, L_3, sh_0_0 S, sh_0_1 S, sh_0_2 S, sh_0_3 S, sh_0_4 S, sh_0_5 S, sh_0_7 S, sh_0_8 S, sh_0_10 S, sh_0_12 S, sh_0_14 S, sh_0_15 S, K_27, K_28, L_28, K_29, L_29, K_30, L_30, K_31, L_31, K_32, L_32, K_33, L_33, K_34, K_35, K_36, L_36, K_37, L_37, K_38, L_38, K_39, L_39, K_40, K_41, L_41, K_42, L_42, K_43, L_43, K_44, L_44, K_45, L_45, K_46, L_46, K_47, L_47, K_48, L_48, K_49, L_49, K_50, L_50, K_51, L_51, K_52, K_53, K_54, L_54, K_55, L_55, K_56, L_56, K_57, L_57, K_58, K_59, L_59, K_60, L_60, K_61, L_61, K_62, L_62, K_63, L_63, K_64, L_64, K_65, L_65, K_66, L_66, K_67, L_67, K_68, L_68, K_69, L_69, sh_27_0 S, sh_27_1 S, sh_27_2 S, sh_27_3 S, sh_27_4 S, sh_27_5 S, sh_34_0 S, sh_34_1 S, sh_34_2 S, sh_34_3 S, sh_34_4 S, sh_34_5 S, sh_34_6 S, sh_34_7 S, sh_35_0 S, sh_35_1 S, sh_35_2 S, sh_35_3 S, sh_40_0 S, sh_40_1 S, sh_40_2 S, sh_40_3 S, sh_40_4 S, sh_40_5 S, sh_52_0 S, sh_52_1 S, sh_52_2 S, sh_52_3 S, sh_52_4 S, sh_52_5 S, sh_52_6 S, sh_52_7 S, sh_53_0 S, sh_53_1 S, sh_53_2 S, sh_53_3 S, sh_58_0 S, sh_58_1 S, sh_58_2 S, sh_58_3 S, sh_58_4 S, sh_58_5 S, h, h', ea, eb, ec, w1, b2_T, b2_F, Int.reduceEq, Int.reduceLT, Int.reduceLE, Int.reduceAdd, Int.reduceSub, Int.reduceMul, Int.reduceNeg, reduceIte, if_true, if_false, true_or, or_true, false_or, or_false, false_and, and_false, eq_self, not_false_eq_true, not_true_eq_false, true_and, and_true, List.cons_append, List.nil_append, List.append_nil, b2_0, b2_1, b2_01, Classical.not_not]
/-- the reference's causes -/
def yCa (Y : Mm) : Int → Int := fun k => Y 102 (6 * k + 3)
theorem e171a (S : Sh m) (hn : n ≤ 1000) (C : CH (yCa m) n) : ∀ (f : Nat) (k st : Int), -1 ≤ k → k < n → k + 1 ≤ f → 0 ≤ st → st + k < 100000 → WP 171 35 [(2, 70), q1, q2, (0, st), (0, k), q3] [] (dsB ++ tl) m Q = WP 171 61 [(2, 70), q1, q2, (0, st + dpc (yCa m) f k), (0, -1), q3] [] (dsB ++ tl) m Q := by
  intro f
  induction f with
  | zero =>
    intro k st h0 h1 h2 h3 h4
    have hk : k = -1 := by omega
    have e1 : dpc (yCa m) 0 k = 0 := rfl
    rw [e1, show st + 0 = st by omega, hk, p171_35]
    simp only [p171_37, p171_38, b2_T, b2_F, Int.reduceEq, Int.reduceLT, Int.reduceLE, Int.reduceAdd, Int.reduceSub, Int.reduceMul, Int.reduceNeg, reduceIte, if_true, if_false, true_or, or_true, false_or, or_false, false_and, and_false, eq_self, not_false_eq_true, not_true_eq_false, true_and, and_true, List.cons_append, List.nil_append, List.append_nil, b2_0, b2_1, b2_01, Classical.not_not]
  | succ f ih =>
    intro k st h0 h1 h2 h3 h4
    have e1 : dpc (yCa m) (f + 1) k = if k = -1 then 0 else dpc (yCa m) f (yCa m k) + 1 := rfl
    rw [e1]
    by_cases hk : k = -1
    · rw [if_pos hk, show st + 0 = st by omega, hk, p171_35]
      simp only [p171_37, p171_38, b2_T, b2_F, Int.reduceEq, Int.reduceLT, Int.reduceLE, Int.reduceAdd, Int.reduceSub, Int.reduceMul, Int.reduceNeg, reduceIte, if_true, if_false, true_or, or_true, false_or, or_false, false_and, and_false, eq_self, not_false_eq_true, not_true_eq_false, true_and, and_true, List.cons_append, List.nil_append, List.append_nil, b2_0, b2_1, b2_01, Classical.not_not]
    · rw [if_neg hk]
      have l := C k (by omega) h1
      have k0 : 0 ≤ 6 * k + 3 := by omega
      have k1 : 6 * k + 3 < 18000 := by omega
      have w1 : w32 (st + 1) = st + 1 := w32_id (by omega) (by omega)
      have w2 : w32 (6 * k) = 6 * k := w32_id (by omega) (by omega)
      have w3 : w32 (6 * k + 3) = 6 * k + 3 := w32_id (by omega) (by omega)
      have r := ih (yCa m k) (st + 1) l.1 (by omega) (by omega) (by omega) (by omega)
      have e3 : m 102 (6 * k + 3) = yCa m k := rfl
      rw [p171_35]
      simp only [p171_37, p171_38, p171_41, p171_44, p171_45, p171_48, p171_50, p171_52, p171_53, p171_54, p171_55, p171_56, p171_58, K_70, K_72, L_72, K_73, L_73, K_74, L_74, K_75, L_75, K_76, L_76, K_86, L_86, K_87, L_87, K_88, L_88, K_89, L_89, K_90, L_90, K_91, L_91, K_92, L_92, K_93, L_93, K_94, L_94, K_95, L_95, K_96, L_96, K_97, L_97, K_98, L_98, K_99, L_99, K_100, L_100, K_101, L_101, K_102, L_102, K_103, L_103, K_104, L_104, K_105, L_105, K_106, L_106, K_107, L_107, K_108, L_108, K_109, L_109, sh_70_1 S, sh_70_2 S, sh_70_3 S, sh_70_4 S, sh_70_5 S, sh_70_17 S, sh_70_18 S, sh_70_19 S, sh_70_20 S, sh_70_21 S, sh_70_22 S, sh_70_23 S, sh_70_27 S, sh_70_28 S, sh_70_29 S, sh_70_31 S, sh_70_32 S, sh_70_33 S, sh_70_34 S, sh_70_35 S, sh_70_36 S, sh_70_37 S, sh_70_38 S, sh_70_39 S, sh_70_40 S, sh_70_41 S, sh_70_42 S, sh_70_43 S, sh_70_44 S, hk, k0, k1, w1, w2, w3, e3, r, b2_T, b2_F, Int.reduceEq, Int.reduceLT, Int.reduceLE, Int.reduceAdd, Int.reduceSub, Int.reduceMul, Int.reduceNeg, reduceIte, if_true, if_false, true_or, or_true, false_or, or_false, false_and, and_false, eq_self, not_false_eq_true, not_true_eq_false, true_and, and_true, List.cons_append, List.nil_append, List.append_nil, b2_0, b2_1, b2_01, Classical.not_not]
      rw [show st + 1 + dpc (yCa m) f (yCa m k) = st + (dpc (yCa m) f (yCa m k) + 1) by omega]
theorem e171b {z : Int} (S : Sh m) (hn : n ≤ 1000) (C : CH (yCa m) n) : ∀ (j f : Nat) (k u : Int), -1 ≤ k → k < n → (j : Int) + 1 ≤ dpc (yCa m) f k → u = i + j → 0 ≤ i → u < 100000 → WP 171 87 [(2, 70), q1, (0, i), (0, z), (0, k), (0, u)] [] (dsB ++ tl) m Q = Q (dsB ++ tl) m [(0, itc (yCa m) j k)] := by
  intro j
  induction j with
  | zero =>
    intro f k u h0 h1 h2 h3 h4 h5
    have h6 : u ≤ i := by omega
    have h7 : ¬ i < u := by omega
    rw [p171_87]
    simp only [p171_89, p171_90, p171_93, p171_94, p171_97, p171_99, p171_101, p171_102, p171_103, p171_104, p171_105, p171_107, p171_110, p171_113, p171_115, h6, h7, b2_T, b2_F, Int.reduceEq, Int.reduceLT, Int.reduceLE, Int.reduceAdd, Int.reduceSub, Int.reduceMul, Int.reduceNeg, reduceIte, if_true, if_false, true_or, or_true, false_or, or_false, false_and, and_false, eq_self, not_false_eq_true, not_true_eq_false, true_and, and_true, List.cons_append, List.nil_append, List.append_nil, b2_0, b2_1, b2_01, Classical.not_not]
    rfl
  | succ j ih =>
    intro f k u h0 h1 h2 h3 h4 h5
    match f, h2 with
    | 0, h2 =>
      have : dpc (yCa m) 0 k = 0 := rfl
      omega
    | f + 1, h2 =>
      have e1 : dpc (yCa m) (f + 1) k = if k = -1 then 0 else dpc (yCa m) f (yCa m k) + 1 := rfl
      rw [e1] at h2
      by_cases hk : k = -1
      · rw [if_pos hk] at h2
        omega
      · rw [if_neg hk] at h2
        have l := C k (by omega) h1
        have h6 : ¬ u ≤ i := by omega
        have h7 : i < u := by omega
        have k0 : 0 ≤ 6 * k + 3 := by omega
        have k1 : 6 * k + 3 < 18000 := by omega
        have w1 : w32 (u + -1) = u - 1 := by rw [w32_id] <;> omega
        have w2 : w32 (6 * k) = 6 * k := w32_id (by omega) (by omega)
        have w3 : w32 (6 * k + 3) = 6 * k + 3 := w32_id (by omega) (by omega)
        have r := ih f (yCa m k) (u - 1) l.1 (by omega) (by omega) (by omega) (by omega) (by omega)
        have e3 : m 102 (6 * k + 3) = yCa m k := rfl
        rw [p171_87]
        simp only [p171_89, p171_90, p171_93, p171_94, p171_97, p171_99, p171_101, p171_102, p171_103, p171_104, p171_105, p171_107, p171_110, p171_113, p171_115, K_70, K_72, L_72, K_73, L_73, K_74, L_74, K_75, L_75, K_76, L_76, K_86, L_86, K_87, L_87, K_88, L_88, K_89, L_89, K_90, L_90, K_91, L_91, K_92, L_92, K_93, L_93, K_94, L_94, K_95, L_95, K_96, L_96, K_97, L_97, K_98, L_98, K_99, L_99, K_100, L_100, K_101, L_101, K_102, L_102, K_103, L_103, K_104, L_104, K_105, L_105, K_106, L_106, K_107, L_107, K_108, L_108, K_109, L_109, sh_70_1 S, sh_70_2 S, sh_70_3 S, sh_70_4 S, sh_70_5 S, sh_70_17 S, sh_70_18 S, sh_70_19 S, sh_70_20 S, sh_70_21 S, sh_70_22 S, sh_70_23 S, sh_70_27 S, sh_70_28 S, sh_70_29 S, sh_70_31 S, sh_70_32 S, sh_70_33 S, sh_70_34 S, sh_70_35 S, sh_70_36 S, sh_70_37 S, sh_70_38 S, sh_70_39 S, sh_70_40 S, sh_70_41 S, sh_70_42 S, sh_70_43 S, sh_70_44 S, h6, h7, k0, k1, w1, w2, w3, e3, r, b2_T, b2_F, Int.reduceEq, Int.reduceLT, Int.reduceLE, Int.reduceAdd, Int.reduceSub, Int.reduceMul, Int.reduceNeg, reduceIte, if_true, if_false, true_or, or_true, false_or, or_false, false_and, and_false, eq_self, not_false_eq_true, not_true_eq_false, true_and, and_true, List.cons_append, List.nil_append, List.append_nil, b2_0, b2_1, b2_01, Classical.not_not]
        rfl
theorem e171 {d : Int} (S : Sh m) (hn : 0 < m 70 10 → m 101 2 ≤ 1000) (C : 0 < m 70 10 → CH (yCa m) (m 101 2)) (hr : 0 ≤ m 70 10) (rs : 0 < m 70 10 → isC d → ¬ m 105 d = 0 → 0 ≤ m 104 d ∧ m 104 d < m 101 2) : WP 171 0 [(2, 70), (0, d), (0, i), (3, 0), (3, 0), (3, 0)] [] (dsB ++ tl) m Q = Q (dsB ++ tl) m [(0, wyR (yCa m) (if 0 < m 70 10 ∧ isC d ∧ ¬ m 105 d = 0 then m 104 d else -1) i)] := by
  by_cases h : 0 < m 70 10 ∧ isC d ∧ ¬ m 105 d = 0
  · rw [if_pos h]
    obtain ⟨h1, hd, h5⟩ := h
    have hz : ¬ m 70 10 = 0 := by omega
    have d0 := hd.1
    have d1 : d < 288 := by
      have := hd.2
      omega
    have hn := hn h1
    have C := C h1
    have rs := rs h1 hd h5
    have b := dpc_b C 1001 (m 104 d) (by omega) (by omega)
    have ra := fun (q3 : MV) => e171a (tl := tl) (Q := Q) (q1 := (0, d)) (q2 := (0, i)) (q3 := q3) S hn C 1001 (m 104 d) 0 (by omega) (by omega) (by omega) (by omega) (by omega)
    rw [show (0 : Int) + dpc (yCa m) 1001 (m 104 d) = dpc (yCa m) 1001 (m 104 d) by omega] at ra
    obtain ⟨D, hD⟩ : ∃ D, D = dpc (yCa m) 1001 (m 104 d) := ⟨_, rfl⟩
    unfold wyR
    rw [← hD] at b ra ⊢
    have w1 : w32 (D - 1) = D - 1 := w32_id (by omega) (by omega)
    by_cases hi : 0 ≤ i ∧ i < D
    · rw [if_pos hi]
      have rb := fun (q1 : MV) (z : Int) => e171b (tl := tl) (Q := Q) (q1 := q1) (z := z) (i := i) S hn C (D - 1 - i).toNat 1001 (m 104 d) (D - 1) (by omega) (by omega) (by omega) (by omega) (by omega) (by omega)
      simp only [p171_0, p171_1, p171_4, p171_7, p171_8, p171_11, p171_14, p171_15, p171_18, p171_19, p171_20, p171_23, p171_24, p171_25, p171_26, p171_27, p171_28, p171_31, p171_32, p171_33, p171_37, p171_38, p171_41, p171_44, p171_45, p171_48, p171_50, p171_52, p171_53, p171_54, p171_55, p171_56, p171_58, p171_61, p171_62, p171_63, p171_64, p171_65, p171_66, p171_69, p171_72, p171_73, p171_74, p171_75, p171_78, p171_79, p171_80, p171_82, p171_83, p171_84, p171_85, p171_89, p171_90, p171_93, p171_94, p171_97, p171_99, p171_101, p171_102, p171_103, p171_104, p171_105, p171_107, p171_110, p171_113, p171_115, e120, e122, b2_t hd, b2_t (show 0 ≤ i ∧ i ≤ D - 1 by omega), K_70, K_72, L_72, K_73, L_73, K_74, L_74, K_75, L_75, K_76, L_76, K_86, L_86, K_87, L_87, K_88, L_88, K_89, L_89, K_90, L_90, K_91, L_91, K_92, L_92, K_93, L_93, K_94, L_94, K_95, L_95, K_96, L_96, K_97, L_97, K_98, L_98, K_99, L_99, K_100, L_100, K_101, L_101, K_102, L_102, K_103, L_103, K_104, L_104, K_105, L_105, K_106, L_106, K_107, L_107, K_108, L_108, K_109, L_109, sh_70_1 S, sh_70_2 S, sh_70_3 S, sh_70_4 S, sh_70_5 S, sh_70_17 S, sh_70_18 S, sh_70_19 S, sh_70_20 S, sh_70_21 S, sh_70_22 S, sh_70_23 S, sh_70_27 S, sh_70_28 S, sh_70_29 S, sh_70_31 S, sh_70_32 S, sh_70_33 S, sh_70_34 S, sh_70_35 S, sh_70_36 S, sh_70_37 S, sh_70_38 S, sh_70_39 S, sh_70_40 S, sh_70_41 S, sh_70_42 S, sh_70_43 S, sh_70_44 S, hz, h5, hd.2, d0, d1, ra, rb, w1, show i ≤ D - 1 by omega, hi.1, b2_T, b2_F, Int.reduceEq, Int.reduceLT, Int.reduceLE, Int.reduceAdd, Int.reduceSub, Int.reduceMul, Int.reduceNeg, reduceIte, if_true, if_false, true_or, or_true, false_or, or_false, false_and, and_false, eq_self, not_false_eq_true, not_true_eq_false, true_and, and_true, List.cons_append, List.nil_append, List.append_nil, b2_0, b2_1, b2_01, Classical.not_not]
    · rw [if_neg hi]
      simp only [p171_0, p171_1, p171_4, p171_7, p171_8, p171_11, p171_14, p171_15, p171_18, p171_19, p171_20, p171_23, p171_24, p171_25, p171_26, p171_27, p171_28, p171_31, p171_32, p171_33, p171_37, p171_38, p171_41, p171_44, p171_45, p171_48, p171_50, p171_52, p171_53, p171_54, p171_55, p171_56, p171_58, p171_61, p171_62, p171_63, p171_64, p171_65, p171_66, p171_69, p171_72, p171_73, p171_74, p171_75, p171_78, p171_79, p171_80, p171_82, p171_83, p171_84, p171_85, p171_89, p171_90, p171_93, p171_94, p171_97, p171_99, p171_101, p171_102, p171_103, p171_104, p171_105, p171_107, p171_110, p171_113, p171_115, e120, e122, b2_t hd, b2_f (show ¬ (0 ≤ i ∧ i ≤ D - 1) by omega), K_70, K_72, L_72, K_73, L_73, K_74, L_74, K_75, L_75, K_76, L_76, K_86, L_86, K_87, L_87, K_88, L_88, K_89, L_89, K_90, L_90, K_91, L_91, K_92, L_92, K_93, L_93, K_94, L_94, K_95, L_95, K_96, L_96, K_97, L_97, K_98, L_98, K_99, L_99, K_100, L_100, K_101, L_101, K_102, L_102, K_103, L_103, K_104, L_104, K_105, L_105, K_106, L_106, K_107, L_107, K_108, L_108, K_109, L_109, sh_70_1 S, sh_70_2 S, sh_70_3 S, sh_70_4 S, sh_70_5 S, sh_70_17 S, sh_70_18 S, sh_70_19 S, sh_70_20 S, sh_70_21 S, sh_70_22 S, sh_70_23 S, sh_70_27 S, sh_70_28 S, sh_70_29 S, sh_70_31 S, sh_70_32 S, sh_70_33 S, sh_70_34 S, sh_70_35 S, sh_70_36 S, sh_70_37 S, sh_70_38 S, sh_70_39 S, sh_70_40 S, sh_70_41 S, sh_70_42 S, sh_70_43 S, sh_70_44 S, hz, h5, hd.2, d0, d1, ra, w1, b2_T, b2_F, Int.reduceEq, Int.reduceLT, Int.reduceLE, Int.reduceAdd, Int.reduceSub, Int.reduceMul, Int.reduceNeg, reduceIte, if_true, if_false, true_or, or_true, false_or, or_false, false_and, and_false, eq_self, not_false_eq_true, not_true_eq_false, true_and, and_true, List.cons_append, List.nil_append, List.append_nil, b2_0, b2_1, b2_01, Classical.not_not]
  · rw [if_neg h]
    have e1 : wyR (yCa m) (-1) i = -1 := by
      unfold wyR
      have e2 : dpc (yCa m) 1001 (-1) = 0 := rfl
      rw [e2, if_neg (by omega)]
    rw [e1]
    by_cases hz : m 70 10 = 0
    · simp only [p171_0, p171_1, p171_4, p171_7, p171_8, p171_11, p171_14, p171_15, p171_18, p171_19, p171_20, p171_23, p171_24, p171_25, p171_26, p171_27, p171_28, p171_31, p171_32, p171_33, p171_37, p171_38, p171_41, p171_44, p171_45, p171_48, p171_50, p171_52, p171_53, p171_54, p171_55, p171_56, p171_58, p171_61, p171_62, p171_63, p171_64, p171_65, p171_66, p171_69, p171_72, p171_73, p171_74, p171_75, p171_78, p171_79, p171_80, p171_82, p171_83, p171_84, p171_85, p171_89, p171_90, p171_93, p171_94, p171_97, p171_99, p171_101, p171_102, p171_103, p171_104, p171_105, p171_107, p171_110, p171_113, p171_115, e122, K_70, K_72, L_72, K_73, L_73, K_74, L_74, K_75, L_75, K_76, L_76, K_86, L_86, K_87, L_87, K_88, L_88, K_89, L_89, K_90, L_90, K_91, L_91, K_92, L_92, K_93, L_93, K_94, L_94, K_95, L_95, K_96, L_96, K_97, L_97, K_98, L_98, K_99, L_99, K_100, L_100, K_101, L_101, K_102, L_102, K_103, L_103, K_104, L_104, K_105, L_105, K_106, L_106, K_107, L_107, K_108, L_108, K_109, L_109, sh_70_1 S, sh_70_2 S, sh_70_3 S, sh_70_4 S, sh_70_5 S, sh_70_17 S, sh_70_18 S, sh_70_19 S, sh_70_20 S, sh_70_21 S, sh_70_22 S, sh_70_23 S, sh_70_27 S, sh_70_28 S, sh_70_29 S, sh_70_31 S, sh_70_32 S, sh_70_33 S, sh_70_34 S, sh_70_35 S, sh_70_36 S, sh_70_37 S, sh_70_38 S, sh_70_39 S, sh_70_40 S, sh_70_41 S, sh_70_42 S, sh_70_43 S, sh_70_44 S, hz, b2_T, b2_F, Int.reduceEq, Int.reduceLT, Int.reduceLE, Int.reduceAdd, Int.reduceSub, Int.reduceMul, Int.reduceNeg, reduceIte, if_true, if_false, true_or, or_true, false_or, or_false, false_and, and_false, eq_self, not_false_eq_true, not_true_eq_false, true_and, and_true, List.cons_append, List.nil_append, List.append_nil, b2_0, b2_1, b2_01, Classical.not_not]
    · by_cases hd : isC d
      · have d0 := hd.1
        have d1 : d < 288 := by
          have := hd.2
          omega
        have h5 : m 105 d = 0 := Classical.byContradiction fun y => h ⟨by omega, hd, y⟩
        simp only [p171_0, p171_1, p171_4, p171_7, p171_8, p171_11, p171_14, p171_15, p171_18, p171_19, p171_20, p171_23, p171_24, p171_25, p171_26, p171_27, p171_28, p171_31, p171_32, p171_33, p171_37, p171_38, p171_41, p171_44, p171_45, p171_48, p171_50, p171_52, p171_53, p171_54, p171_55, p171_56, p171_58, p171_61, p171_62, p171_63, p171_64, p171_65, p171_66, p171_69, p171_72, p171_73, p171_74, p171_75, p171_78, p171_79, p171_80, p171_82, p171_83, p171_84, p171_85, p171_89, p171_90, p171_93, p171_94, p171_97, p171_99, p171_101, p171_102, p171_103, p171_104, p171_105, p171_107, p171_110, p171_113, p171_115, e122, b2_t hd, K_70, K_72, L_72, K_73, L_73, K_74, L_74, K_75, L_75, K_76, L_76, K_86, L_86, K_87, L_87, K_88, L_88, K_89, L_89, K_90, L_90, K_91, L_91, K_92, L_92, K_93, L_93, K_94, L_94, K_95, L_95, K_96, L_96, K_97, L_97, K_98, L_98, K_99, L_99, K_100, L_100, K_101, L_101, K_102, L_102, K_103, L_103, K_104, L_104, K_105, L_105, K_106, L_106, K_107, L_107, K_108, L_108, K_109, L_109, sh_70_1 S, sh_70_2 S, sh_70_3 S, sh_70_4 S, sh_70_5 S, sh_70_17 S, sh_70_18 S, sh_70_19 S, sh_70_20 S, sh_70_21 S, sh_70_22 S, sh_70_23 S, sh_70_27 S, sh_70_28 S, sh_70_29 S, sh_70_31 S, sh_70_32 S, sh_70_33 S, sh_70_34 S, sh_70_35 S, sh_70_36 S, sh_70_37 S, sh_70_38 S, sh_70_39 S, sh_70_40 S, sh_70_41 S, sh_70_42 S, sh_70_43 S, sh_70_44 S, hz, h5, hd.2, d0, d1, b2_T, b2_F, Int.reduceEq, Int.reduceLT, Int.reduceLE, Int.reduceAdd, Int.reduceSub, Int.reduceMul, Int.reduceNeg, reduceIte, if_true, if_false, true_or, or_true, false_or, or_false, false_and, and_false, eq_self, not_false_eq_true, not_true_eq_false, true_and, and_true, List.cons_append, List.nil_append, List.append_nil, b2_0, b2_1, b2_01, Classical.not_not]
      · simp only [p171_0, p171_1, p171_4, p171_7, p171_8, p171_11, p171_14, p171_15, p171_18, p171_19, p171_20, p171_23, p171_24, p171_25, p171_26, p171_27, p171_28, p171_31, p171_32, p171_33, p171_37, p171_38, p171_41, p171_44, p171_45, p171_48, p171_50, p171_52, p171_53, p171_54, p171_55, p171_56, p171_58, p171_61, p171_62, p171_63, p171_64, p171_65, p171_66, p171_69, p171_72, p171_73, p171_74, p171_75, p171_78, p171_79, p171_80, p171_82, p171_83, p171_84, p171_85, p171_89, p171_90, p171_93, p171_94, p171_97, p171_99, p171_101, p171_102, p171_103, p171_104, p171_105, p171_107, p171_110, p171_113, p171_115, e122, b2_f hd, K_70, K_72, L_72, K_73, L_73, K_74, L_74, K_75, L_75, K_76, L_76, K_86, L_86, K_87, L_87, K_88, L_88, K_89, L_89, K_90, L_90, K_91, L_91, K_92, L_92, K_93, L_93, K_94, L_94, K_95, L_95, K_96, L_96, K_97, L_97, K_98, L_98, K_99, L_99, K_100, L_100, K_101, L_101, K_102, L_102, K_103, L_103, K_104, L_104, K_105, L_105, K_106, L_106, K_107, L_107, K_108, L_108, K_109, L_109, sh_70_1 S, sh_70_2 S, sh_70_3 S, sh_70_4 S, sh_70_5 S, sh_70_17 S, sh_70_18 S, sh_70_19 S, sh_70_20 S, sh_70_21 S, sh_70_22 S, sh_70_23 S, sh_70_27 S, sh_70_28 S, sh_70_29 S, sh_70_31 S, sh_70_32 S, sh_70_33 S, sh_70_34 S, sh_70_35 S, sh_70_36 S, sh_70_37 S, sh_70_38 S, sh_70_39 S, sh_70_40 S, sh_70_41 S, sh_70_42 S, sh_70_43 S, sh_70_44 S, hz, b2_T, b2_F, Int.reduceEq, Int.reduceLT, Int.reduceLE, Int.reduceAdd, Int.reduceSub, Int.reduceMul, Int.reduceNeg, reduceIte, if_true, if_false, true_or, or_true, false_or, or_false, false_and, and_false, eq_self, not_false_eq_true, not_true_eq_false, true_and, and_true, List.cons_append, List.nil_append, List.append_nil, b2_0, b2_1, b2_01, Classical.not_not]
end WHY
