/-! keep, both sides -/
section KEEP2
variable {tl t2 : Ds} {ds ds' ds2 : Ds} {m m2 m3 X Y Z X' Y' g h G A B : Mm} {Q : Ds → Mm → List MV → Prop} {p q c k a b s o v i j d n w t r e x L : Int} {M M' : Nat} {as as' : List MV}
theorem PA_becp (h : PA ds m p) : PA ds (bec m p q) p := by
  have e : ∀ j, ¬ j = 8 → bec m p q p j = m p j := fun j hj => by
    unfold bec
    rw [up_at, if_neg (fun y => hj y.2), bcg_of (by omega)]
  obtain ⟨g0, ⟨g1, g2, g3, g4, g5, g6, g7, g8⟩, ⟨k1, k2, k3, k4, k5, k6, k7, k8⟩, ⟨n1, n2, n3, n4, n5, n6, n7, n8⟩⟩ := h
  exact ⟨g0, ⟨(e _ (by decide)).trans g1, (e _ (by decide)).trans g2, (e _ (by decide)).trans g3, (e _ (by decide)).trans g4, (e _ (by decide)).trans g5, (e _ (by decide)).trans g6, (e _ (by decide)).trans g7, (e _ (by decide)).trans g8⟩, ⟨k1, k2, k3, k4, k5, k6, k7, k8⟩, ⟨n1, n2, n3, n4, n5, n6, n7, n8⟩⟩
theorem e153 (S : Sh m) (hs : isH s) : WP 153 0 [(2, 70), (0, s)] [] (dsB ++ tl) m Q = Q (dsB ++ tl) (mSav (up m 80 s 0) s) [(0, sm (fun c => b2 (isK 0 (mSav (up m 80 s 0) s 72 c))) 96)] := by
  have S1 : Sh (up m 80 s 0) := Sh_ar S (by decide)
  have S2 : Sh (mSav (up m 80 s 0) s) := mSav_Sh S1
  simp only [p153_0, p153_1, p153_4, p153_7, p153_8, p153_9, p153_12, p153_13, p153_14, p153_17, p153_18, p153_19, p153_20, p153_21, p153_22, p153_25, p153_26, p153_27, p153_30, e139, b2_t hs, K_70, K_80, L_80, sh_70_11 S, hs.1, hs.2, e149 S1 (show 0 ≤ s ∧ s ≤ 8 by omega), e136 S2, b2_T, b2_F, Int.reduceEq, Int.reduceLT, Int.reduceLE, Int.reduceAdd, Int.reduceSub, Int.reduceMul, Int.reduceNeg, reduceIte, if_true, if_false, true_or, or_true, false_or, or_false, false_and, and_false, eq_self, not_false_eq_true, not_true_eq_false, true_and, and_true, List.cons_append, List.nil_append, List.append_nil, b2_0, b2_1, b2_01, Classical.not_not]
theorem e80c (S : Sh m) (A : PA (dsB ++ tl) m p) (l : 114 ≤ p) (hb : ∀ c : Int, 0 ≤ c → c < 96 → m 14 c = 0 ∨ m 14 c = 1) : WP 80 46 [(2, 0), (0, s), (2, p)] [] (dsB ++ tl) m Q = Q (dsB ++ tl) (bec m p 9) [(0, sm (fun c => b2 (¬ bec m p 9 10 c = 0)) 96)] := by
  have S1 : Sh (bec m p 9) := Sh_becH S l
  have y23 := fun (Q : Ds → Mm → List MV → Prop) => e23 (Q := Q) A (PA_9 (tl := tl) S) (by omega) hb
  have y40 := fun (Q : Ds → Mm → List MV → Prop) => e40 (Q := Q) (PA_9 (tl := tl) S1)
  simp only [Int.reduceAdd] at y40
  simp only [p80_46, p80_47, p80_48, p80_51, p80_54, p80_55, p80_58, p80_61, K_0, K_3, L_3, sh_0_0 S, sh_0_1 S, sh_0_2 S, sh_0_3 S, sh_0_4 S, sh_0_5 S, sh_0_7 S, sh_0_8 S, sh_0_10 S, sh_0_12 S, sh_0_14 S, sh_0_15 S, K_9, A.1, y23, y40, sh_0_0 S1, b2_T, b2_F, Int.reduceEq, Int.reduceLT, Int.reduceLE, Int.reduceAdd, Int.reduceSub, Int.reduceMul, Int.reduceNeg, reduceIte, if_true, if_false, true_or, or_true, false_or, or_false, false_and, and_false, eq_self, not_false_eq_true, not_true_eq_false, true_and, and_true, List.cons_append, List.nil_append, List.append_nil, b2_0, b2_1, b2_01, Classical.not_not]
theorem e80a (S : Sh m) (hs : isH s) (h : ¬ m 2 s < 0) : WP 80 0 [(2, 0), (0, s), (3, 0)] [] (dsB ++ tl) m Q = WP 80 46 [(2, 0), (0, s), (2, m 2 s)] [] (dsB ++ tl) m Q := by
  simp only [p80_0, p80_1, p80_4, p80_7, p80_8, p80_9, p80_12, p80_13, p80_14, p80_17, p80_18, p80_19, p80_20, p80_21, e109, b2_t hs, K_0, K_3, L_3, sh_0_0 S, sh_0_1 S, sh_0_2 S, sh_0_3 S, sh_0_4 S, sh_0_5 S, sh_0_7 S, sh_0_8 S, sh_0_10 S, sh_0_12 S, sh_0_14 S, sh_0_15 S, K_2, L_2, hs.1, hs.2, h, b2_T, b2_F, Int.reduceEq, Int.reduceLT, Int.reduceLE, Int.reduceAdd, Int.reduceSub, Int.reduceMul, Int.reduceNeg, reduceIte, if_true, if_false, true_or, or_true, false_or, or_false, false_and, and_false, eq_self, not_false_eq_true, not_true_eq_false, true_and, and_true, List.cons_append, List.nil_append, List.append_nil, b2_0, b2_1, b2_01, Classical.not_not]
theorem e80b (S : Sh m) (hs : isH s) (h : m 2 s < 0) (hL : L = ((dsB ++ tl).length : Int)) (h0 : 114 ≤ L) : WP 80 0 [(2, 0), (0, s), (3, 0)] [] (dsB ++ tl) m Q = WP 80 32 [(2, 0), (0, s), (2, L)] [] (dsP (dsB ++ tl ++ [(3, 9)])) (plI (al m L (dfl 3)) L) Q := by
  have z1 := dk_z (ds := dsB ++ tl) (d := (3, 9))
  rw [← hL] at z1
  have y22 := fun (m2 : Mm) (Q : Ds → Mm → List MV → Prop) => e22 (m := m2) (Q := Q) (ds := dsB ++ tl ++ [(3, 9)]) (q := L) (by omega) (by rw [ln_1, ← hL]) z1.1
  simp only [p80_0, p80_1, p80_4, p80_7, p80_8, p80_9, p80_12, p80_13, p80_14, p80_17, p80_18, p80_19, p80_20, p80_21, p80_24, p80_27, p80_28, p80_31, e109, b2_t hs, K_0, K_3, L_3, sh_0_0 S, sh_0_1 S, sh_0_2 S, sh_0_3 S, sh_0_4 S, sh_0_5 S, sh_0_7 S, sh_0_8 S, sh_0_10 S, sh_0_12 S, sh_0_14 S, sh_0_15 S, K_2, L_2, hs.1, hs.2, h, ← hL, z1.1, y22, b2_T, b2_F, Int.reduceEq, Int.reduceLT, Int.reduceLE, Int.reduceAdd, Int.reduceSub, Int.reduceMul, Int.reduceNeg, reduceIte, if_true, if_false, true_or, or_true, false_or, or_false, false_and, and_false, eq_self, not_false_eq_true, not_true_eq_false, true_and, and_true, List.cons_append, List.nil_append, List.append_nil, b2_0, b2_1, b2_01, Classical.not_not]
theorem e80d (S : Sh m) (hs : isH s) (hd : dk (dsB ++ tl) L = 3) : WP 80 32 [(2, 0), (0, s), (2, L)] [] (dsB ++ tl) m Q = WP 80 46 [(2, 0), (0, s), (2, L)] [] (dsB ++ tl) (up (up m 2 s L) 1 s (-1)) Q := by
  have S1 : Sh (up m 2 s L) := Sh_ar S (by decide)
  simp only [p80_32, p80_33, p80_36, p80_37, p80_38, p80_39, p80_40, p80_43, p80_44, p80_45, K_0, K_3, L_3, sh_0_0 S, sh_0_1 S, sh_0_2 S, sh_0_3 S, sh_0_4 S, sh_0_5 S, sh_0_7 S, sh_0_8 S, sh_0_10 S, sh_0_12 S, sh_0_14 S, sh_0_15 S, K_1, L_1, K_2, L_2, hs.1, hs.2, hd, sh_0_2 S1, b2_T, b2_F, Int.reduceEq, Int.reduceLT, Int.reduceLE, Int.reduceAdd, Int.reduceSub, Int.reduceMul, Int.reduceNeg, reduceIte, if_true, if_false, true_or, or_true, false_or, or_false, false_and, and_false, eq_self, not_false_eq_true, not_true_eq_false, true_and, and_true, List.cons_append, List.nil_append, List.append_nil, b2_0, b2_1, b2_01, Classical.not_not]
theorem keep_fin (J : JS ds m m n) (hs : isH s) (A : PA ds2 m3 p) (S3 : Sh m3) (l : 114 ≤ p) (lu : p + 8 < (ds2.length : Int)) (h2 : m3 2 s = p) (h1 : m3 1 s = -1) (f3 : ∀ x j, ¬ (p ≤ x ∧ x ≤ p + 8) → ¬ (x = 1 ∧ j = s) → ¬ (x = 2 ∧ j = s) → m3 x j = m x j) (hw : ∀ t a, isH t → ¬ t = s → own m t a → ¬ (p ≤ a ∧ a ≤ p + 8)) (dd : ∀ a, a < (ds.length : Int) → dk ds2 a = dk ds a ∧ dl ds2 a = dl ds a) (ln : (ds.length : Int) ≤ (ds2.length : Int)) (D : ∃ tl, ds2 = dsB ++ tl) (Ln : (ds2.length : Int) ≤ (ds.length : Int) + 9) (Sl : (sl ds2 : Int) ≤ (sl ds : Int) + 501) (hA : ∀ Q, WP 80 0 [(2, 0), (0, s), (3, 0)] [] ds m Q = Q ds2 (bec m3 p 9) [(0, sm (fun c => b2 (¬ bec m3 p 9 10 c = 0)) 96)]) : CALL 80 153 [(2, 0), (0, s), (3, 0)] [(2, 70), (0, s)] ds m n := by
  have SX : Sh (bec m3 p 9) := Sh_becH S3 l
  have f : ∀ x j, ¬ (p ≤ x ∧ x ≤ p + 8) → bec m3 p 9 x j = m3 x j := fun x j h => bec_f h
  have f' : ∀ x j, ¬ (p ≤ x ∧ x ≤ p + 8) → ¬ (x = 1 ∧ j = s) → ¬ (x = 2 ∧ j = s) → bec m3 p 9 x j = m x j := fun x j h1 h2 h3 => (f x j h1).trans (f3 x j h1 h2 h3)
  have z3 : ZP m3 9 := ZP_cg J.Z (fun x j a0 a1 => f3 x j (by omega) (by omega) (by omega))
  have zX : ZP (bec m3 p 9) p := ZP_bec z3
  have AX : PA ds2 (bec m3 p 9) p := PA_becp A
  have pR : ∀ g, PR m 9 g → SV g → PR (bec m3 p 9) p g := fun g P v => PR_bec (PR_m P (fun x j a0 a1 => f3 x j (by omega) (by omega) (by omega))) v
  have x2 : bec m3 p 9 2 s = p := (f 2 s (by omega)).trans h2
  have x1 : bec m3 p 9 1 s = -1 := (f 1 s (by omega)).trans h1
  obtain ⟨X, hX⟩ : ∃ X, X = bec m3 p 9 := ⟨_, rfl⟩
  rw [← hX] at SX f f' zX AX pR x2 x1 hA
  have SZ : Sh (mSav (up X 80 s 0) s) := mSav_Sh (Sh_ar SX (by decide))
  have gZ : ∀ x j, ¬ (x = 80 ∧ j = s) → ¬ (x = 84 ∧ 480 * s ≤ j ∧ j < 480 * s + 480) → ¬ (x = 85 ∧ 13 * s ≤ j ∧ j < 13 * s + 13) → mSav (up X 80 s 0) s x j = X x j := fun x j a0 a1 a2 => by
    rw [mSav_f a1 a2, up_at, if_neg a0]
  have g80 : mSav (up X 80 s 0) s 80 s = 0 := by
    rw [mSav_f (by omega) (by omega), up_at, if_pos ⟨rfl, rfl⟩]
  have hB : ∀ Q, WP 153 0 [(2, 70), (0, s)] [] ds2 X Q = Q ds2 (mSav (up X 80 s 0) s) [(0, sm (fun c => b2 (isK 0 (mSav (up X 80 s 0) s 72 c))) 96)] := fun Q => by
    obtain ⟨t2, ht⟩ := D
    rw [ht]
    exact e153 SX hs
  have pE : ∀ g, WG g → (∀ x j, 70 ≤ x → x ≤ 113 → X x j = g x j) → PE X (pG (mSav (up X 80 s 0) s) s) := fun g W hg => by
    refine PE_tr (PE_cg (h := up X 80 s 0) (fun x j a0 a1 => by rw [up_at, if_neg (by omega)]) rfl) (PE_sav (fun c hc => ?_) ?_)
    · rw [up_at, if_neg (fun y => absurd y.1 (by decide)), hg _ _ (by decide) (by decide)]
      exact (W.p c hc).l
    · rw [up_at, if_neg (fun y => absurd y.1 (by decide)), hg _ _ (by decide) (by decide)]
      exact W.v.n.2
  obtain ⟨Z, hZ⟩ : ∃ Z, Z = mSav (up X 80 s 0) s := ⟨_, rfl⟩
  rw [← hZ] at SZ gZ g80 hB pE
  have fr : ∀ x j, 70 ≤ x → x ≤ 113 → X x j = m x j := fun x j a0 a1 => f' x j (by omega) (by omega) (by omega)
  have eqc : sm (fun c => b2 (isK 0 (Z 72 c))) 96 = sm (fun c => b2 (¬ X 10 c = 0)) 96 := by
    refine pc_eq ?_
    refine PR_pe (PR_m (PR_pe J.P (PE_cg (h := X) (fun x j a0 a1 => fr x j (by omega) (by omega)) (fr 70 6 (by decide) (by decide)))) (fun x j a0 a1 => f' x j (by omega) (by omega) (by omega))) (PE_cg (fun x j a0 a1 => gZ x j (by omega) (by omega) (by omega)) (gZ _ _ (by omega) (by omega) (by omega)))
  rw [eqc] at hB
  refine CALL_of (v := (0, sm (fun c => b2 (¬ X 10 c = 0)) 96)) (X := X) (Z := Z) J hA (fun x j h => f' x j (by omega) (by omega) (by omega)) SX (fun J1 => ?_) hB (fun x j h => gZ x j (by omega) (by omega) (by omega))
  have H1 := J1.Hv
  have Ln1 := J.Ln
  have Sl1 := J.Sl
  refine JS_s J1 SX SZ (fun x j h => f' x j (by omega) (by omega) (by omega)) (fun x j h => gZ x j (by omega) (by omega) (by omega)) ?_ D (by omega) (by omega)
  have ox : ∀ a, own X s a → p ≤ a ∧ a ≤ p + 8 := fun a h => by
    unfold own at h
    rw [x1, x2] at h
    omega
  refine SHV_s H1 hs ?_ (fun a h => ?_) dd ln (fun t ht hn2 => ⟨f' _ _ (by omega) (by omega) (by omega), f' _ _ (by omega) (by omega) (by omega), fun a j h => ?_, gZ _ _ (by omega) (by omega) (by omega), gZ _ _ (by omega) (by omega) (by omega), fun i i0 i1 => gZ _ _ (by omega) (by omega) (by omega), fun i i0 i1 => gZ _ _ (by omega) (by omega) (by omega), fun i i0 i1 => gZ _ _ (by omega) (by omega) (by omega)⟩)
  · right; right
    have E := pE X J1.W (fun _ _ _ _ => rfl)
    refine ⟨x1, by rw [x2]; exact l, by rw [x2]; exact AX, g80, by rw [x2]; exact PR_pe (pR X J1.P J1.W.v) E, PV_pe J1.W.p E, SV_pe J1.W.v E, PN_pe J1.W.n E, by rw [x2]; exact zX⟩
  · have := ox a h
    exact ⟨by omega, fun t ht hn2 h2 => hw t a ht hn2 h2 this⟩
  · have y := hw t a ht hn2 h
    have b := (H1.b t a ht h)
    exact f' a j y (by omega) (by omega)
theorem e80no (S : Sh m) (h : ¬ isH s) : WP 80 0 [(2, 0), (0, s), (3, 0)] [] (dsB ++ tl) m Q = Q (dsB ++ tl) (rf m 3 1) [(0, -1)] := by
  simp only [p80_0, p80_1, p80_4, p80_7, p80_8, p80_9, p80_12, e109, b2_f h, K_0, K_3, L_3, sh_0_0 S, sh_0_1 S, sh_0_2 S, sh_0_3 S, sh_0_4 S, sh_0_5 S, sh_0_7 S, sh_0_8 S, sh_0_10 S, sh_0_12 S, sh_0_14 S, sh_0_15 S, e95 S (show -7 ≤ (-1 : Int) ∧ (-1 : Int) ≤ -1 by decide), b2_T, b2_F, Int.reduceEq, Int.reduceLT, Int.reduceLE, Int.reduceAdd, Int.reduceSub, Int.reduceMul, Int.reduceNeg, reduceIte, if_true, if_false, true_or, or_true, false_or, or_false, false_and, and_false, eq_self, not_false_eq_true, not_true_eq_false, true_and, and_true, List.cons_append, List.nil_append, List.append_nil, b2_0, b2_1, b2_01, Classical.not_not]
theorem e153no (S : Sh m) (h : ¬ isH s) : WP 153 0 [(2, 70), (0, s)] [] (dsB ++ tl) m Q = Q (dsB ++ tl) (rf m 71 1) [(0, -1)] := by
  simp only [p153_0, p153_1, p153_4, p153_7, p153_8, p153_9, p153_12, e139, b2_f h, K_70, e121 S (show -7 ≤ (-1 : Int) ∧ (-1 : Int) ≤ -1 by decide), b2_T, b2_F, Int.reduceEq, Int.reduceLT, Int.reduceLE, Int.reduceAdd, Int.reduceSub, Int.reduceMul, Int.reduceNeg, reduceIte, if_true, if_false, true_or, or_true, false_or, or_false, false_and, and_false, eq_self, not_false_eq_true, not_true_eq_false, true_and, and_true, List.cons_append, List.nil_append, List.append_nil, b2_0, b2_1, b2_01, Classical.not_not]
theorem call_keep (J : JS ds m m n) : CALL 80 153 [(2, 0), (0, s), (3, 0)] [(2, 70), (0, s)] ds m n := by
  obtain ⟨tl, rfl⟩ := J.Dt
  have S := J.S
  by_cases hs : isH s
  · have hb : ∀ c : Int, 0 ≤ c → c < 96 → m 14 c = 0 ∨ m 14 c = 1 := fun c c0 c1 => by
      have bc := J.P.b c ⟨c0, c1⟩
      simp only [Int.reduceAdd] at bc
      rw [bc]
      exact (J.W.p c ⟨c0, c1⟩).l
    by_cases c2 : m 2 s < 0
    · obtain ⟨L, hL⟩ : ∃ L, L = ((dsB ++ tl).length : Int) := ⟨_, rfl⟩
      have h114 : 114 ≤ L := by
        rw [hL, List.length_append, dsB_len]
        omega
      have hA1 := fun (Q : Ds → Mm → List MV → Prop) => e80b (Q := Q) S hs c2 hL h114
      have z1 := dk_z (ds := dsB ++ tl) (d := (3, 9))
      rw [← hL] at z1
      have l1 : ((dsB ++ tl ++ [(3, 9)]).length : Int) = L + 1 := by rw [ln_1, ← hL]
      have fq : ∀ x j, ¬ (L ≤ x ∧ x ≤ L + 8) → plI (al m L (dfl 3)) L x j = m x j := fun x j h => by
        rw [plI_f (by omega) (by omega), al_at, if_neg (by omega)]
      have qq : ∀ j, 0 ≤ j → j ≤ 7 → plI (al m L (dfl 3)) L L j = L + 1 + j := fun j j0 j1 => plI_q ⟨j0, j1⟩
      obtain ⟨m2, hm2⟩ : ∃ m2, m2 = plI (al m L (dfl 3)) L := ⟨_, rfl⟩
      rw [← hm2] at hA1 fq qq
      have S2 : Sh m2 := fun z hz => by
        have y := SL_lt z hz
        rw [fq _ _ (by omega)]
        exact S z hz
      have D : ∃ t2, dsP (dsB ++ tl ++ [(3, 9)]) = dsB ++ t2 := ⟨tl ++ [(3, 9)] ++ [(10, 96), (10, 96), (10, 96), (10, 96), (11, 96), (10, 4), (10, 4), (10, 4)], by rw [dsP_e]; simp only [List.append_assoc]⟩
      have f3 : ∀ x j, ¬ (L ≤ x ∧ x ≤ L + 8) → ¬ (x = 1 ∧ j = s) → ¬ (x = 2 ∧ j = s) → up (up m2 2 s L) 1 s (-1) x j = m x j := fun x j a0 a1 a2 => by
        rw [up_at, if_neg a1, up_at, if_neg a2, fq x j a0]
      have q3 : ∀ j, 0 ≤ j → j ≤ 7 → up (up m2 2 s L) 1 s (-1) L j = L + 1 + j := fun j j0 j1 => by
        rw [up_at, if_neg (by omega), up_at, if_neg (by omega)]
        exact qq j j0 j1
      have S3 : Sh (up (up m2 2 s L) 1 s (-1)) := Sh_ar (Sh_ar S2 (by decide)) (by decide)
      have A3 : PA (dsP (dsB ++ tl ++ [(3, 9)])) (up (up m2 2 s L) 1 s (-1)) L := PA_new l1 z1.1 q3
      have x2 : up (up m2 2 s L) 1 s (-1) 2 s = L := by rw [up_at, if_neg (fun y => absurd y.1 (by decide)), up_at, if_pos ⟨rfl, rfl⟩]
      have x1 : up (up m2 2 s L) 1 s (-1) 1 s = -1 := by rw [up_at, if_pos ⟨rfl, rfl⟩]
      have ln8 : ((dsP (dsB ++ tl ++ [(3, 9)])).length : Int) = L + 9 := by
        rw [dsP_e, List.length_append, Int.natCast_add, l1]
        show L + 1 + 8 = L + 9
        omega
      have hsl : (sl (dsP (dsB ++ tl ++ [(3, 9)])) : Int) = (sl (dsB ++ tl) : Int) + 501 := by
        unfold dsP
        rw [sl_add, sl_add, sl_add, sl_add, sl_add, sl_add, sl_add, sl_add, sl_add]
        show ((sl (dsB ++ tl) + 9 + 96 + 96 + 96 + 96 + 96 + 4 + 4 + 4 : Nat) : Int) = _
        omega
      have dd : ∀ a, a < ((dsB ++ tl).length : Int) → dk (dsP (dsB ++ tl ++ [(3, 9)])) a = dk (dsB ++ tl) a ∧ dl (dsP (dsB ++ tl ++ [(3, 9)])) a = dl (dsB ++ tl) a := fun a ha => by
        have y1 := dk_ap (ds := dsB ++ tl) (x := [(3, 9)]) ha
        have y2 := dk_ap (ds := dsB ++ tl ++ [(3, 9)]) (x := [(10, 96), (10, 96), (10, 96), (10, 96), (11, 96), (10, 4), (10, 4), (10, 4)]) (a := a) (by rw [l1]; omega)
        rw [dsP_e]
        exact ⟨y2.1.trans y1.1, y2.2.trans y1.2⟩
      refine keep_fin (ds2 := dsP (dsB ++ tl ++ [(3, 9)])) (m3 := up (up m2 2 s L) 1 s (-1)) (p := L) J hs A3 S3 h114 (by omega) x2 x1 f3 (fun t a ht hn h => ?_) dd (by omega) D (by omega) (by omega) (fun Q => ?_)
      · have := (J.Hv.b t a ht h).2
        omega
      · rw [hA1 Q]
        obtain ⟨t2, ht2⟩ := D
        rw [ht2] at A3 ⊢
        rw [e80d S2 hs A3.1]
        exact e80c S3 A3 h114 (fun c c0 c1 => by rw [f3 14 c (by omega) (by omega) (by omega)]; exact hb c c0 c1)
    · have Pl := SK_p J.Hv hs c2
      have l := Pl.l
      have ow : ∀ a, m 2 s ≤ a → a ≤ m 2 s + 8 → own m s a := fun a a0 a1 => Or.inr ⟨by omega, a0, a1⟩
      refine keep_fin (ds2 := dsB ++ tl) (m3 := m) (p := m 2 s) J hs Pl.A S l (J.Hv.b s _ hs (ow (m 2 s + 8) (by omega) (by omega))).2 rfl Pl.n (fun _ _ _ _ _ => rfl) (fun t a ht hn h y => hn (J.Hv.d t s a ht hs h (ow a y.1 y.2))) (fun _ _ => ⟨rfl, rfl⟩) (Int.le_refl _) ⟨tl, rfl⟩ (by omega) (by omega) (fun Q => ?_)
      rw [e80a S hs c2]
      exact e80c S Pl.A l hb
  · exact CALL_no (v := (0, -1)) (k := 1) J (by decide) (fun Q => e80no S hs) (fun SA fA Q => e153no SA hs)
end KEEP2
