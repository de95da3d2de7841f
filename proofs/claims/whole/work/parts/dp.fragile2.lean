/-! fragile: the reference's side -/
def FK (m Y : Mm) (A f : Int) : Prop := ∀ x j, ¬ (72 ≤ x ∧ x ≤ 76) → ¬ (86 ≤ x ∧ x ≤ 100) → ¬ (x = 70 ∧ (j = 24 ∨ j = 25 ∨ j = 26 ∨ j = 30 ∨ j = 45)) → ¬ (x = 101 ∧ 6 ≤ j) → ¬ (x = 102 ∧ 6000 ≤ j) → ¬ ((x = 103 ∨ x = 104 ∨ x = 105 ∨ x = 106 ∨ x = 109) ∧ 96 ≤ j) → ¬ x = A → ¬ (x = 70 ∧ j = f) → Y x j = m x j
section FRAGILE2
variable {tl : Ds} {m X Y Z g h : Mm} {Q : Ds → Mm → List MV → Prop} {p q c k a b s o t v i j d A f bell tick w : Int}
theorem FK_refl : FK m m A f := fun _ _ _ _ _ _ _ _ _ _ => rfl
theorem FK_tr (h1 : FK m X A f) (h2 : FK X Y A f) : FK m Y A f := fun x j a b c d e f' g' h' => (h2 x j a b c d e f' g' h').trans (h1 x j a b c d e f' g' h')
theorem FK_G (F : FG m X w) (hw : w = 1 ∨ w = 2) : FK m X A f := fun x j a b c d e f' g' h' => F x j b c (by omega) (by omega) (by omega)
theorem FK_7 (F : ∀ x j, ¬ (72 ≤ x ∧ x ≤ 76) → X x j = m x j) : FK m X A f := fun x j a b c d e f' g' h' => F x j a
theorem PV_pe (p : PV g) (E : PE g h) : PV h := by
  intro d hd
  have k := E.k d hd
  have pd := p d hd
  have a := E.a d hd
  refine ⟨by rw [k]; exact pd.k, ?_, ?_, ?_, ?_, ?_, ?_, by rw [E.b d hd]; exact pd.l, by rw [E.b d hd, k]; exact pd.o, by rw [E.b d hd, k]; exact pd.z3⟩
  · rw [k]
    intro h
    rw [(a (by rw [h]; decide)).1]
    exact pd.a1 h
  · rw [k]
    intro h
    have h0 : ¬ g 72 d = 0 := by clear pd; omega
    rw [(a h0).1]
    exact pd.a4 h
  · rw [k]
    intro h
    have ma := pd.ma h
    rw [E.o d hd h, E.k _ ma.1, E.o _ ma.1 ma.2.1]
    exact ma
  · rw [k]
    intro h
    rw [(a (by rw [h]; decide)).2]
    exact pd.bt h
  · rw [k]
    intro h
    rw [(a (by rw [h]; decide)).2]
    exact pd.bb h
  · rw [k]
    intro h
    rw [(a (by rw [h]; decide)).1]
    exact pd.e h
theorem SV_pe (v : SV g) (E : PE g h) : SV h := by
  refine ⟨by rw [E.s]; exact v.n, fun i i0 i1 => ?_⟩
  rw [E.s] at i1
  have t := E.t i i0 i1
  rw [t.1, t.2.1, t.2.2]
  exact v.v i i0 i1
theorem PN_pe (n : PN g) (E : PE g h) : PN h := by
  intro c hc hk
  rw [E.k c hc] at hk ⊢
  have a := E.a c hc hk
  rw [a.1, a.2]
  exact n c hc hk
theorem WG_pe (W : WG g) (E : PE g h) (S : Sh h) : WG h := ⟨S, PV_pe W.p E, SV_pe W.v E, PN_pe W.n E⟩
theorem Sh_mPc (S : Sh g) : Sh (mPc g c o) := by
  unfold mPc
  try dsimp only
  have S1 : Sh (up (up (up (up (up g 72 o (g 72 c)) 73 o (g 73 c)) 74 o (g 74 c)) 75 o (g 75 c)) 72 c 0) := Sh_ar (Sh_ar (Sh_ar (Sh_ar (Sh_ar S (by decide)) (by decide)) (by decide)) (by decide)) (by decide)
  split
  · exact Sh_ar S1 (by decide)
  · exact S1
theorem e175 (S : Sh m) (hc : isC c) (ho : isC o) (hco : ¬ c = o) (hm : m 72 c = 3 → isC (m 75 c)) : WP 175 0 [(2, 70), (0, c), (0, o)] [] (dsB ++ tl) m Q = Q (dsB ++ tl) (mPc m c o) [] := by
  have c0 := hc.1
  have c1 := hc.2
  have o0 := ho.1
  have o1 := ho.2
  have hoc : ¬ o = c := fun y => hco y.symm
  unfold mPc
  by_cases h3 : m 72 c = 3
  · have mc := hm h3
    have m0 := mc.1
    have m1 := mc.2
    simp only [if_pos h3]
    simp only [p175_0, p175_1, p175_4, p175_5, p175_6, p175_9, p175_10, p175_11, p175_12, p175_13, p175_16, p175_17, p175_18, p175_21, p175_22, p175_23, p175_24, p175_25, p175_28, p175_29, p175_30, p175_33, p175_34, p175_35, p175_36, p175_37, p175_40, p175_41, p175_42, p175_45, p175_46, p175_47, p175_48, p175_49, p175_52, p175_53, p175_54, p175_55, p175_56, p175_59, p175_60, p175_61, p175_62, p175_65, p175_66, p175_69, p175_70, p175_73, p175_74, p175_75, p175_76, p175_77, K_70, K_72, L_72, K_73, L_73, K_74, L_74, K_75, L_75, K_76, L_76, K_86, L_86, K_87, L_87, K_88, L_88, K_89, L_89, K_90, L_90, K_91, L_91, K_92, L_92, K_93, L_93, K_94, L_94, K_95, L_95, K_96, L_96, K_97, L_97, K_98, L_98, K_99, L_99, K_100, L_100, K_101, L_101, K_102, L_102, K_103, L_103, K_104, L_104, K_105, L_105, K_106, L_106, K_107, L_107, K_108, L_108, K_109, L_109, sh_70_1 S, sh_70_2 S, sh_70_3 S, sh_70_4 S, sh_70_5 S, sh_70_17 S, sh_70_18 S, sh_70_19 S, sh_70_20 S, sh_70_21 S, sh_70_22 S, sh_70_23 S, sh_70_27 S, sh_70_28 S, sh_70_29 S, sh_70_31 S, sh_70_32 S, sh_70_33 S, sh_70_34 S, sh_70_35 S, sh_70_36 S, sh_70_37 S, sh_70_38 S, sh_70_39 S, sh_70_40 S, sh_70_41 S, sh_70_42 S, sh_70_43 S, sh_70_44 S, c0, c1, o0, o1, hco, hoc, h3, m0, m1, up_at, b2_T, b2_F, Int.reduceEq, Int.reduceLT, Int.reduceLE, Int.reduceAdd, Int.reduceSub, Int.reduceMul, Int.reduceNeg, reduceIte, if_true, if_false, true_or, or_true, false_or, or_false, false_and, and_false, eq_self, not_false_eq_true, not_true_eq_false, true_and, and_true, List.cons_append, List.nil_append, List.append_nil, b2_0, b2_1, b2_01, Classical.not_not]
  · simp only [if_neg h3]
    simp only [p175_0, p175_1, p175_4, p175_5, p175_6, p175_9, p175_10, p175_11, p175_12, p175_13, p175_16, p175_17, p175_18, p175_21, p175_22, p175_23, p175_24, p175_25, p175_28, p175_29, p175_30, p175_33, p175_34, p175_35, p175_36, p175_37, p175_40, p175_41, p175_42, p175_45, p175_46, p175_47, p175_48, p175_49, p175_52, p175_53, p175_54, p175_55, p175_56, p175_59, p175_60, p175_61, p175_62, p175_65, p175_66, p175_69, p175_70, p175_73, p175_74, p175_75, p175_76, p175_77, K_70, K_72, L_72, K_73, L_73, K_74, L_74, K_75, L_75, K_76, L_76, K_86, L_86, K_87, L_87, K_88, L_88, K_89, L_89, K_90, L_90, K_91, L_91, K_92, L_92, K_93, L_93, K_94, L_94, K_95, L_95, K_96, L_96, K_97, L_97, K_98, L_98, K_99, L_99, K_100, L_100, K_101, L_101, K_102, L_102, K_103, L_103, K_104, L_104, K_105, L_105, K_106, L_106, K_107, L_107, K_108, L_108, K_109, L_109, sh_70_1 S, sh_70_2 S, sh_70_3 S, sh_70_4 S, sh_70_5 S, sh_70_17 S, sh_70_18 S, sh_70_19 S, sh_70_20 S, sh_70_21 S, sh_70_22 S, sh_70_23 S, sh_70_27 S, sh_70_28 S, sh_70_29 S, sh_70_31 S, sh_70_32 S, sh_70_33 S, sh_70_34 S, sh_70_35 S, sh_70_36 S, sh_70_37 S, sh_70_38 S, sh_70_39 S, sh_70_40 S, sh_70_41 S, sh_70_42 S, sh_70_43 S, sh_70_44 S, c0, c1, o0, o1, hco, hoc, h3, up_at, b2_T, b2_F, Int.reduceEq, Int.reduceLT, Int.reduceLE, Int.reduceAdd, Int.reduceSub, Int.reduceMul, Int.reduceNeg, reduceIte, if_true, if_false, true_or, or_true, false_or, or_false, false_and, and_false, eq_self, not_false_eq_true, not_true_eq_false, true_and, and_true, List.cons_append, List.nil_append, List.append_nil, b2_0, b2_1, b2_01, Classical.not_not]
/-- the memory when a try is undone -/
def mBk (Z : Mm) (c o : Int) : Mm := if ¬ Z 76 o = 0 then up (up Z 76 o 0) 76 c 1 else mPc Z o c
theorem PE_bk (W : WG Y) (hc : isC c) (ho : isC o) (hco : ¬ c = o) (hm : ¬ Y 76 c = 0 ∨ ¬ Y 72 c = 0) (hf : Y 72 o = 0 ∧ Y 76 o = 0) (E : PE (mvG Y c o) Z) : PE Y (mBk Z c o) := by
  have bo := E.b o ho
  unfold mBk
  rw [bo]
  unfold mvG at E ⊢
  by_cases h1 : Y 76 c = 0
  · have hk := hm.resolve_left (fun y => y h1)
    rw [if_neg (not_not_intro h1)] at E
    rw [if_neg (not_not_intro h1)]
    have e6 : mPc Y c o 76 o = 0 := by rw [mPc_f (by decide)]; exact hf.2
    rw [if_neg (not_not_intro e6)]
    have k2 : mPc Y c o 72 o = Y 72 c := by rw [mPc_72 hco, if_neg (fun y => hco y.symm), if_pos rfl]
    exact PE_tr (PE_back W.p hc ho hco hk hf.1) (PE_mPc E ho (fun y => hco y.symm) (by rw [k2]; exact hk))
  · rw [if_pos h1] at E
    rw [if_pos h1]
    have e6 : up (up Y 76 c 0) 76 o 1 76 o = 1 := by simp only [up_at, b2_T, b2_F, Int.reduceEq, Int.reduceLT, Int.reduceLE, Int.reduceAdd, Int.reduceSub, Int.reduceMul, Int.reduceNeg, reduceIte, if_true, if_false, true_or, or_true, false_or, or_false, false_and, and_false, eq_self, not_false_eq_true, not_true_eq_false, true_and, and_true, List.cons_append, List.nil_append, List.append_nil, b2_0, b2_1, b2_01, Classical.not_not]
    rw [if_pos (by rw [e6]; decide)]
    have l := (W.p c hc).l
    have E1 : PE Y (up (up (up (up Y 76 c 0) 76 o 1) 76 o 0) 76 c 1) := by
      have e : ∀ x j, ¬ x = 76 → up (up (up (up Y 76 c 0) 76 o 1) 76 o 0) 76 c 1 x j = Y x j := fun x j h => by simp only [up_at, h, b2_T, b2_F, Int.reduceEq, Int.reduceLT, Int.reduceLE, Int.reduceAdd, Int.reduceSub, Int.reduceMul, Int.reduceNeg, reduceIte, if_true, if_false, true_or, or_true, false_or, or_false, false_and, and_false, eq_self, not_false_eq_true, not_true_eq_false, true_and, and_true, List.cons_append, List.nil_append, List.append_nil, b2_0, b2_1, b2_01, Classical.not_not]
      refine ⟨fun d hd => e 72 d (by decide), fun d hd _ => ⟨e 73 d (by decide), e 74 d (by decide)⟩, fun d hd _ => e 75 d (by decide), fun d hd => ?_, e 70 6 (by decide), fun y _ _ => ⟨e 77 y (by decide), e 78 y (by decide), e 79 y (by decide)⟩⟩
      have y : up (up (up (up Y 76 c 0) 76 o 1) 76 o 0) 76 c 1 76 d = if d = c then 1 else if d = o then 0 else if d = o then 1 else if d = c then 0 else Y 76 d := by simp only [up_at, b2_T, b2_F, Int.reduceEq, Int.reduceLT, Int.reduceLE, Int.reduceAdd, Int.reduceSub, Int.reduceMul, Int.reduceNeg, reduceIte, if_true, if_false, true_or, or_true, false_or, or_false, false_and, and_false, eq_self, not_false_eq_true, not_true_eq_false, true_and, and_true, List.cons_append, List.nil_append, List.append_nil, b2_0, b2_1, b2_01, Classical.not_not]
      rw [y]
      by_cases h2 : d = c
      · rw [if_pos h2, h2]
        exact (l.resolve_left h1).symm
      · rw [if_neg h2]
        by_cases h3 : d = o
        · rw [if_pos h3, h3]
          exact hf.2.symm
        · rw [if_neg h3, if_neg h3, if_neg h2]
    exact PE_tr E1 (PE_up (PE_up E))
theorem mvG_f {x : Int} (h : ¬ (72 ≤ x ∧ x ≤ 76)) : mvG g c o x j = g x j := by
  unfold mvG
  split
  · rw [up_at, if_neg (by omega), up_at, if_neg (by omega)]
  · exact mPc_f (by omega)
theorem mBk_f {x : Int} (h : ¬ (72 ≤ x ∧ x ≤ 76)) : mBk g c o x j = g x j := by
  unfold mBk
  split
  · rw [up_at, if_neg (by omega), up_at, if_neg (by omega)]
  · exact mPc_f (by omega)
theorem Sh_mBk (S : Sh g) : Sh (mBk g c o) := by
  unfold mBk
  split
  · exact Sh_ar (Sh_ar S (by decide)) (by decide)
  · exact Sh_mPc S
/-- one side of one cell -/
theorem fref_1 (W : WG g) (hb : isC bell) (hc : isC c) (hs : okS s) (WY : WG Y) (E : PE g Y) {n : Nat} (hn : (n : Int) = 4 * c + s) (L : LSq Y 110 (Y 70 47) (wkR g bell tick n)) : ∃ Y', WG Y' ∧ PE g Y' ∧ FK Y Y' 110 47 ∧ LSq Y' 110 (Y' 70 47) (wkR g bell tick (n + 1)) ∧ ∀ (tl : Ds) (Q : Ds → Mm → List MV → Prop), WP 177 27 [(2, 70), (0, bell), (0, tick), (0, c), (0, s)] [] (dsB ++ tl) Y Q = WP 177 27 [(2, 70), (0, bell), (0, tick), (0, c), (0, s + 1)] [] (dsB ++ tl) Y' Q := by
  have c0 := hc.1
  have c1 := hc.2
  have s0 := hs.1
  have s1 := hs.2
  have w1 : w32 (s + 1) = s + 1 := w32_id (by omega) (by omega)
  have n4 : (n : Int) / 4 = c := by omega
  have n5 : (n : Int) % 4 = s := by omega
  have wb := wkR_b (g := g) (bell := bell) (tick := tick) n
  have e1 : wkR g bell tick (n + 1) = if wkP g bell tick c s then ((wkR g bell tick n).1 + 1, fun i => if i = (wkR g bell tick n).1 then wkc g c s else (wkR g bell tick n).2 i) else wkR g bell tick n := by
    show (if wkP g bell tick ((n : Int) / 4) ((n : Int) % 4) then ((wkR g bell tick n).1 + 1, fun i => if i = (wkR g bell tick n).1 then wkc g ((n : Int) / 4) ((n : Int) % 4) else (wkR g bell tick n).2 i) else wkR g bell tick n) = _
    rw [n4, n5]
  have S := WY.S
  have kc := E.k c hc
  have bc := E.b c hc
  by_cases hM : ¬ g 76 c = 0 ∨ (¬ g 72 c = 0 ∧ ¬ g 72 c = 8)
  · have hm : ¬ g 76 c = 0 ∨ ¬ g 72 c = 0 := hM.imp id (fun y => y.1)
    -- the look before the try
    have look : ∀ (tl : Ds) (Q : Ds → Mm → List MV → Prop), WP 177 27 [(2, 70), (0, bell), (0, tick), (0, c), (0, s)] [] (dsB ++ tl) Y Q = WP 176 0 [(2, 70), (0, c), (0, s), (0, bell), (0, tick), (3, 0), (3, 0), (3, 0)] [] (dsB ++ tl) Y (fun d2 m2 r2 => WP 177 71 [(2, 70), (0, bell), (0, tick), (0, c), (0, s)] r2 d2 m2 Q) := by
      intro tl Q
      rw [p177_27]
      by_cases hb : g 76 c = 0
      · have hk := hM.resolve_left (fun y => y hb)
        rw [hb] at bc
        simp only [p177_29, p177_30, p177_33, p177_34, p177_37, p177_38, p177_39, p177_42, p177_43, p177_46, p177_47, p177_48, p177_51, p177_52, p177_55, p177_56, p177_57, p177_59, p177_62, p177_63, p177_64, p177_66, p177_67, p177_68, K_70, K_72, L_72, K_73, L_73, K_74, L_74, K_75, L_75, K_76, L_76, K_86, L_86, K_87, L_87, K_88, L_88, K_89, L_89, K_90, L_90, K_91, L_91, K_92, L_92, K_93, L_93, K_94, L_94, K_95, L_95, K_96, L_96, K_97, L_97, K_98, L_98, K_99, L_99, K_100, L_100, K_101, L_101, K_102, L_102, K_103, L_103, K_104, L_104, K_105, L_105, K_106, L_106, K_107, L_107, K_108, L_108, K_109, L_109, sh_70_1 S, sh_70_2 S, sh_70_3 S, sh_70_4 S, sh_70_5 S, sh_70_17 S, sh_70_18 S, sh_70_19 S, sh_70_20 S, sh_70_21 S, sh_70_22 S, sh_70_23 S, sh_70_27 S, sh_70_28 S, sh_70_29 S, sh_70_31 S, sh_70_32 S, sh_70_33 S, sh_70_34 S, sh_70_35 S, sh_70_36 S, sh_70_37 S, sh_70_38 S, sh_70_39 S, sh_70_40 S, sh_70_41 S, sh_70_42 S, sh_70_43 S, sh_70_44 S, s1, c0, c1, bc, kc, hk.1, hk.2, b2_T, b2_F, Int.reduceEq, Int.reduceLT, Int.reduceLE, Int.reduceAdd, Int.reduceSub, Int.reduceMul, Int.reduceNeg, reduceIte, if_true, if_false, true_or, or_true, false_or, or_false, false_and, and_false, eq_self, not_false_eq_true, not_true_eq_false, true_and, and_true, List.cons_append, List.nil_append, List.append_nil, b2_0, b2_1, b2_01, Classical.not_not]
      · simp only [p177_29, p177_30, p177_33, p177_34, p177_37, p177_38, p177_39, p177_42, p177_43, p177_46, p177_47, p177_48, p177_51, p177_52, p177_55, p177_56, p177_57, p177_59, p177_62, p177_63, p177_64, p177_66, p177_67, p177_68, K_70, K_72, L_72, K_73, L_73, K_74, L_74, K_75, L_75, K_76, L_76, K_86, L_86, K_87, L_87, K_88, L_88, K_89, L_89, K_90, L_90, K_91, L_91, K_92, L_92, K_93, L_93, K_94, L_94, K_95, L_95, K_96, L_96, K_97, L_97, K_98, L_98, K_99, L_99, K_100, L_100, K_101, L_101, K_102, L_102, K_103, L_103, K_104, L_104, K_105, L_105, K_106, L_106, K_107, L_107, K_108, L_108, K_109, L_109, sh_70_1 S, sh_70_2 S, sh_70_3 S, sh_70_4 S, sh_70_5 S, sh_70_17 S, sh_70_18 S, sh_70_19 S, sh_70_20 S, sh_70_21 S, sh_70_22 S, sh_70_23 S, sh_70_27 S, sh_70_28 S, sh_70_29 S, sh_70_31 S, sh_70_32 S, sh_70_33 S, sh_70_34 S, sh_70_35 S, sh_70_36 S, sh_70_37 S, sh_70_38 S, sh_70_39 S, sh_70_40 S, sh_70_41 S, sh_70_42 S, sh_70_43 S, sh_70_44 S, s1, c0, c1, bc, hb, b2_T, b2_F, Int.reduceEq, Int.reduceLT, Int.reduceLE, Int.reduceAdd, Int.reduceSub, Int.reduceMul, Int.reduceNeg, reduceIte, if_true, if_false, true_or, or_true, false_or, or_false, false_and, and_false, eq_self, not_false_eq_true, not_true_eq_false, true_and, and_true, List.cons_append, List.nil_append, List.append_nil, b2_0, b2_1, b2_01, Classical.not_not]
    by_cases hF : ¬ nxt c s = -1 ∧ (g 72 (nxt c s) = 0 ∧ g 76 (nxt c s) = 0)
    · have oc := (nxt_c (s := s) hc).resolve_left hF.1
      obtain ⟨o, ho⟩ : ∃ o, o = nxt c s := ⟨_, rfl⟩
      have hco : ¬ c = o := by
        intro y
        have h1 := hF.2
        rw [← ho, ← y] at h1
        rcases hM with z | z
        · exact z h1.2
        · exact z.1 h1.1
      rw [← ho] at oc hF
      have e126' := fun (tl : Ds) (Q : Ds → Mm → List MV → Prop) => e126 (tl := tl) (Q := Q) (c := o) S oc
      have ho' := ho.symm
      have ko := E.k _ oc
      have bo := E.b _ oc
      have o0 := oc.1
      have o1 := oc.2
      have hmY : ¬ Y 76 c = 0 ∨ ¬ Y 72 c = 0 := by rw [bc, kc]; exact hm
      have hfY : Y 72 o = 0 ∧ Y 76 o = 0 := by rw [ko, bo]; exact hF.2
      have WG' : WG (mvG Y c o) := WG_mv WY hc oc hco hmY hfY
      have EG : PE (mvG g c o) (mvG Y c o) := PE_mv E hc hco hm
      have WGg : WG (mvG g c o) := WG_mv W hc oc hco hm hF.2
      have rw' := runs_w (w := 1) WG' (by decide)
      have det : MT (mvG g c o) bell tick ↔ MT (mvG Y c o) bell tick := met_det WGg WG' EG (by decide) (by decide)
      have x172 := fun (tl : Ds) (Q : Ds → Mm → List MV → Prop) => e172 (tl := tl) (Q := Q) (w := 1) (bell := bell) (tick := tick) WG' (by decide) hb
      obtain ⟨D, hD⟩ : ∃ D : Prop, D = metP (mRuns (mvG Y c o) 1 103 (96 * 1 + bell)) bell tick := ⟨_, rfl⟩
      obtain ⟨Z, hZ⟩ : ∃ Z, Z = mRuns (mvG Y c o) 1 := ⟨_, rfl⟩
      have det' : MT (mvG g c o) bell tick ↔ metP (Z 103 (96 * 1 + bell)) bell tick := by rw [hZ]; exact det
      clear hD D det
      rw [← hZ] at rw' x172
      have EB : PE Y (mBk Z c o) := PE_bk WY hc oc hco hmY hfY rw'.2.1
      have SB : Sh (mBk Z c o) := Sh_mBk rw'.1.S
      have WB : WG (mBk Z c o) := WG_pe WY EB SB
      have fB : FK Y (mBk Z c o) 110 47 := FK_tr (FK_tr (FK_7 (fun x j h => mvG_f h)) (FK_G rw'.2.2 (Or.inl rfl))) (FK_7 (fun x j h => mBk_f h))
      have f47 : mBk Z c o 70 47 = Y 70 47 := by
        rw [mBk_f (by decide), rw'.2.2 70 47 (by decide) (by decide) (by decide) (by decide) (by decide), mvG_f (by decide)]
      have f110 : ∀ j, mBk Z c o 110 j = Y 110 j := fun j => by
        rw [mBk_f (by decide), rw'.2.2 110 j (by decide) (fun y => absurd y.1 (by decide)) (fun y => absurd y.1 (by decide)) (fun y => absurd y.1 (by decide)) (fun y => absurd y.1 (by decide)), mvG_f (by decide)]
      -- the try up to the question
      have try1 : ∀ (tl : Ds) (Q : Ds → Mm → List MV → Prop), WP 176 0 [(2, 70), (0, c), (0, s), (0, bell), (0, tick), (3, 0), (3, 0), (3, 0)] [] (dsB ++ tl) Y Q = WP 176 101 [(2, 70), (0, c), (0, s), (0, bell), (0, tick), (0, o), (0, Y 76 c), (0, b2 (metP (Z 103 (96 * 1 + bell)) bell tick))] [] (dsB ++ tl) (mBk Z c o) Q := by
        intro tl Q
        have y126 := e126' tl
        simp only [b2_t hfY] at y126
        have y172 := x172 tl
        have zb : Z 76 o = mvG Y c o 76 o := rw'.2.1.b o oc
        have zk : Z 72 o = mvG Y c o 72 o := rw'.2.1.k o oc
        have SZ := rw'.1.S
        have hoc : ¬ o = c := fun y => hco y.symm
        by_cases hb : Y 76 c = 0
        · have hk := hmY.resolve_left (fun y => y hb)
          have eG : mvG Y c o = mPc Y c o := if_neg (not_not_intro hb)
          rw [eG] at y172 zb
          rw [mPc_f (by decide), hfY.2] at zb
          have eB : mBk Z c o = mPc Z o c := if_neg (not_not_intro zb)
          have y175 := fun (Q : Ds → Mm → List MV → Prop) => e175 (tl := tl) (Q := Q) S hc oc hco (fun h => ((WY.p c hc).ma h).1)
          have z175 := fun (Q : Ds → Mm → List MV → Prop) => e175 (tl := tl) (Q := Q) SZ oc hc hoc (fun h => ((rw'.1.p o oc).ma h).1)
          rw [eB]
          simp only [p176_0, p176_1, p176_2, p176_5, p176_7, p176_9, p176_10, p176_13, p176_14, p176_16, p176_19, p176_22, p176_23, p176_24, p176_27, p176_28, p176_29, p176_31, p176_33, p176_36, p176_37, p176_40, p176_41, p176_42, p176_43, p176_44, p176_47, p176_49, p176_50, p176_51, p176_54, p176_55, p176_56, p176_58, p176_61, p176_62, p176_63, p176_64, p176_66, p176_69, p176_71, p176_73, p176_76, p176_77, p176_80, p176_82, p176_83, p176_84, p176_85, p176_88, p176_89, p176_90, p176_91, p176_94, p176_95, p176_97, p176_98, K_70, K_72, L_72, K_73, L_73, K_74, L_74, K_75, L_75, K_76, L_76, K_86, L_86, K_87, L_87, K_88, L_88, K_89, L_89, K_90, L_90, K_91, L_91, K_92, L_92, K_93, L_93, K_94, L_94, K_95, L_95, K_96, L_96, K_97, L_97, K_98, L_98, K_99, L_99, K_100, L_100, K_101, L_101, K_102, L_102, K_103, L_103, K_104, L_104, K_105, L_105, K_106, L_106, K_107, L_107, K_108, L_108, K_109, L_109, sh_70_1 S, sh_70_2 S, sh_70_3 S, sh_70_4 S, sh_70_5 S, sh_70_17 S, sh_70_18 S, sh_70_19 S, sh_70_20 S, sh_70_21 S, sh_70_22 S, sh_70_23 S, sh_70_27 S, sh_70_28 S, sh_70_29 S, sh_70_31 S, sh_70_32 S, sh_70_33 S, sh_70_34 S, sh_70_35 S, sh_70_36 S, sh_70_37 S, sh_70_38 S, sh_70_39 S, sh_70_40 S, sh_70_41 S, sh_70_42 S, sh_70_43 S, sh_70_44 S, e123 hc.1 hc.2 hs.1 hs.2, ho', hF.1, y126, c0, c1, hb, y175, y172, z175, b2_T, b2_F, Int.reduceEq, Int.reduceLT, Int.reduceLE, Int.reduceAdd, Int.reduceSub, Int.reduceMul, Int.reduceNeg, reduceIte, if_true, if_false, true_or, or_true, false_or, or_false, false_and, and_false, eq_self, not_false_eq_true, not_true_eq_false, true_and, and_true, List.cons_append, List.nil_append, List.append_nil, b2_0, b2_1, b2_01, Classical.not_not]
        · have eG : mvG Y c o = up (up Y 76 c 0) 76 o 1 := if_pos hb
          rw [eG] at y172 zb
          have zb1 : Z 76 o = 1 := by
            rw [zb]
            simp only [up_at, b2_T, b2_F, Int.reduceEq, Int.reduceLT, Int.reduceLE, Int.reduceAdd, Int.reduceSub, Int.reduceMul, Int.reduceNeg, reduceIte, if_true, if_false, true_or, or_true, false_or, or_false, false_and, and_false, eq_self, not_false_eq_true, not_true_eq_false, true_and, and_true, List.cons_append, List.nil_append, List.append_nil, b2_0, b2_1, b2_01, Classical.not_not]
          have eB : mBk Z c o = up (up Z 76 o 0) 76 c 1 := if_pos (by rw [zb1]; decide)
          rw [eB]
          simp only [p176_0, p176_1, p176_2, p176_5, p176_7, p176_9, p176_10, p176_13, p176_14, p176_16, p176_19, p176_22, p176_23, p176_24, p176_27, p176_28, p176_29, p176_31, p176_33, p176_36, p176_37, p176_40, p176_41, p176_42, p176_43, p176_44, p176_47, p176_49, p176_50, p176_51, p176_54, p176_55, p176_56, p176_58, p176_61, p176_62, p176_63, p176_64, p176_66, p176_69, p176_71, p176_73, p176_76, p176_77, p176_80, p176_82, p176_83, p176_84, p176_85, p176_88, p176_89, p176_90, p176_91, p176_94, p176_95, p176_97, p176_98, K_70, K_72, L_72, K_73, L_73, K_74, L_74, K_75, L_75, K_76, L_76, K_86, L_86, K_87, L_87, K_88, L_88, K_89, L_89, K_90, L_90, K_91, L_91, K_92, L_92, K_93, L_93, K_94, L_94, K_95, L_95, K_96, L_96, K_97, L_97, K_98, L_98, K_99, L_99, K_100, L_100, K_101, L_101, K_102, L_102, K_103, L_103, K_104, L_104, K_105, L_105, K_106, L_106, K_107, L_107, K_108, L_108, K_109, L_109, sh_70_1 S, sh_70_2 S, sh_70_3 S, sh_70_4 S, sh_70_5 S, sh_70_17 S, sh_70_18 S, sh_70_19 S, sh_70_20 S, sh_70_21 S, sh_70_22 S, sh_70_23 S, sh_70_27 S, sh_70_28 S, sh_70_29 S, sh_70_31 S, sh_70_32 S, sh_70_33 S, sh_70_34 S, sh_70_35 S, sh_70_36 S, sh_70_37 S, sh_70_38 S, sh_70_39 S, sh_70_40 S, sh_70_41 S, sh_70_42 S, sh_70_43 S, sh_70_44 S, sh_70_5 SZ, e123 hc.1 hc.2 hs.1 hs.2, ho', hF.1, y126, c0, c1, o0, o1, hb, y172, up_at, b2_T, b2_F, Int.reduceEq, Int.reduceLT, Int.reduceLE, Int.reduceAdd, Int.reduceSub, Int.reduceMul, Int.reduceNeg, reduceIte, if_true, if_false, true_or, or_true, false_or, or_false, false_and, and_false, eq_self, not_false_eq_true, not_true_eq_false, true_and, and_true, List.cons_append, List.nil_append, List.append_nil, b2_0, b2_1, b2_01, Classical.not_not]
      by_cases hT : metP (Z 103 (96 * 1 + bell)) bell tick
      · have hW : ¬ wkP g bell tick c s := fun y => by
          have y4 := y.2.2.2
          rw [← ho] at y4
          exact y4 (det'.2 hT)
        rw [if_neg hW] at e1
        rw [e1]
        refine ⟨mBk Z c o, WB, PE_tr E EB, fB, ⟨by rw [f47]; exact L.1, fun i i0 i1 => by rw [f110]; exact L.2 i i0 i1⟩, fun tl Q => ?_⟩
        rw [look tl Q, try1 tl, b2_t hT]
        simp only [p176_101, p176_103, p176_142, p177_71, p177_74, w1, b2_T, b2_F, Int.reduceEq, Int.reduceLT, Int.reduceLE, Int.reduceAdd, Int.reduceSub, Int.reduceMul, Int.reduceNeg, reduceIte, if_true, if_false, true_or, or_true, false_or, or_false, false_and, and_false, eq_self, not_false_eq_true, not_true_eq_false, true_and, and_true, List.cons_append, List.nil_append, List.append_nil, b2_0, b2_1, b2_01, Classical.not_not]
      · have hW : wkP g bell tick c s := ⟨hM, by rw [← ho]; exact hF.1, by rw [← ho]; exact hF.2, fun y => by
          rw [← ho] at y
          exact hT (det'.1 y)⟩
        rw [if_pos hW] at e1
        rw [e1]
        have cb : 0 ≤ mBk Z c o 70 47 ∧ mBk Z c o 70 47 < 384 := by
          rw [f47, L.1]
          have := wb
          clear hW hT
          omega
        have S3 : Sh (up (up (mBk Z c o) 110 (mBk Z c o 70 47) (wkc g c s)) 70 47 (mBk Z c o 70 47 + 1)) := Sh.up (Sh_ar SB (by decide)) (by decide)
        have E3 : PE Y (up (up (mBk Z c o) 110 (mBk Z c o 70 47) (wkc g c s)) 70 47 (mBk Z c o 70 47 + 1)) := PE_tr EB (PE_cg (fun x j h1 h2 => by rw [up_at, if_neg (by omega), up_at, if_neg (by omega)]) rfl)
        have cb0 := cb.1
        have cb1 := cb.2
        have w7 : w32 (mBk Z c o 70 47 + 1) = mBk Z c o 70 47 + 1 := w32_id (by omega) (by omega)
        have w8 : w32 (8 * c) = 8 * c := w32_id (by omega) (by omega)
        refine ⟨up (up (mBk Z c o) 110 (mBk Z c o 70 47) (wkc g c s)) 70 47 (mBk Z c o 70 47 + 1), WG_pe WY E3 S3, PE_tr E E3, ?_, ⟨?_, fun i i0 i1 => ?_⟩, fun tl Q => ?_⟩
        · intro x j a b c' d e' f' g' h'
          rw [up_at, if_neg h', up_at, if_neg (fun y => g' y.1)]
          exact fB x j a b c' d e' f' g' h'
        · simp only [up_at, b2_T, b2_F, Int.reduceEq, Int.reduceLT, Int.reduceLE, Int.reduceAdd, Int.reduceSub, Int.reduceMul, Int.reduceNeg, reduceIte, if_true, if_false, true_or, or_true, false_or, or_false, false_and, and_false, eq_self, not_false_eq_true, not_true_eq_false, true_and, and_true, List.cons_append, List.nil_append, List.append_nil, b2_0, b2_1, b2_01, Classical.not_not]
          rw [f47, L.1]
        · have i1' : i < (wkR g bell tick n).1 + 1 := i1
          show (up (up (mBk Z c o) 110 (mBk Z c o 70 47) (wkc g c s)) 70 47 (mBk Z c o 70 47 + 1)) 110 i = if i = (wkR g bell tick n).1 then wkc g c s else (wkR g bell tick n).2 i
          rw [up_at, if_neg (fun y => absurd y.1 (by decide)), up_at, f47, L.1]
          by_cases hi : i = (wkR g bell tick n).1
          · rw [if_pos ⟨rfl, hi⟩, if_pos hi]
          · rw [if_neg (fun y => hi y.2), if_neg hi, f110]
            exact L.2 i i0 (by clear hW hT; omega)
        · rw [look tl Q, try1 tl, b2_f hT]
          unfold wkc
          by_cases hb : g 76 c = 0
          · have w9 : w32 (8 * c + 0) = 8 * c + 0 := w32_id (by omega) (by omega)
            have wa : w32 (8 * c + 0 + s) = 8 * c + 0 + s := w32_id (by omega) (by omega)
            rw [if_pos hb, bc, hb]
            simp only [p176_101, p176_103, p176_106, p176_107, p176_110, p176_111, p176_114, p176_116, p176_117, p176_118, p176_120, p176_123, p176_124, p176_127, p176_128, p176_129, p176_130, p176_131, p176_132, p176_133, p176_134, p176_137, p176_138, p176_139, p176_142, p177_71, p177_74, K_70, K_110, L_110, sh_70_46 SB, cb0, cb1, w1, w7, w8, w9, wa, up_at, b2_T, b2_F, Int.reduceEq, Int.reduceLT, Int.reduceLE, Int.reduceAdd, Int.reduceSub, Int.reduceMul, Int.reduceNeg, reduceIte, if_true, if_false, true_or, or_true, false_or, or_false, false_and, and_false, eq_self, not_false_eq_true, not_true_eq_false, true_and, and_true, List.cons_append, List.nil_append, List.append_nil, b2_0, b2_1, b2_01, Classical.not_not]
          · have w9 : w32 (8 * c + 4) = 8 * c + 4 := w32_id (by omega) (by omega)
            have wa : w32 (8 * c + 4 + s) = 8 * c + 4 + s := w32_id (by omega) (by omega)
            rw [if_neg hb, bc]
            simp only [p176_101, p176_103, p176_106, p176_107, p176_110, p176_111, p176_114, p176_116, p176_117, p176_118, p176_120, p176_123, p176_124, p176_127, p176_128, p176_129, p176_130, p176_131, p176_132, p176_133, p176_134, p176_137, p176_138, p176_139, p176_142, p177_71, p177_74, K_70, K_110, L_110, sh_70_46 SB, hb, cb0, cb1, w1, w7, w8, w9, wa, up_at, b2_T, b2_F, Int.reduceEq, Int.reduceLT, Int.reduceLE, Int.reduceAdd, Int.reduceSub, Int.reduceMul, Int.reduceNeg, reduceIte, if_true, if_false, true_or, or_true, false_or, or_false, false_and, and_false, eq_self, not_false_eq_true, not_true_eq_false, true_and, and_true, List.cons_append, List.nil_append, List.append_nil, b2_0, b2_1, b2_01, Classical.not_not]
    · have hW : ¬ wkP g bell tick c s := fun y => hF ⟨y.2.1, y.2.2.1⟩
      rw [if_neg hW] at e1
      rw [e1]
      refine ⟨Y, WY, E, FK_refl, L, fun tl Q => ?_⟩
      rw [look tl Q]
      by_cases h1 : nxt c s = -1
      · simp only [p176_0, p176_1, p176_2, p176_5, p176_7, p176_9, p176_10, p176_13, p176_14, p176_16, p176_19, p176_22, e123 hc.1 hc.2 hs.1 hs.2, h1, p177_71, p177_74, w1, b2_T, b2_F, Int.reduceEq, Int.reduceLT, Int.reduceLE, Int.reduceAdd, Int.reduceSub, Int.reduceMul, Int.reduceNeg, reduceIte, if_true, if_false, true_or, or_true, false_or, or_false, false_and, and_false, eq_self, not_false_eq_true, not_true_eq_false, true_and, and_true, List.cons_append, List.nil_append, List.append_nil, b2_0, b2_1, b2_01, Classical.not_not]
      · have oc := (nxt_c (s := s) hc).resolve_left h1
        have nf : ¬ (Y 72 (nxt c s) = 0 ∧ Y 76 (nxt c s) = 0) := by
          rw [E.k _ oc, E.b _ oc]
          exact fun y => hF ⟨h1, y⟩
        have y126 := fun (Q : Ds → Mm → List MV → Prop) => e126 (tl := tl) (Q := Q) (c := nxt c s) S oc
        simp only [b2_f nf] at y126
        simp only [p176_0, p176_1, p176_2, p176_5, p176_7, p176_9, p176_10, p176_13, p176_14, p176_16, p176_19, p176_22, K_70, e123 hc.1 hc.2 hs.1 hs.2, h1, y126, p177_71, p177_74, w1, b2_T, b2_F, Int.reduceEq, Int.reduceLT, Int.reduceLE, Int.reduceAdd, Int.reduceSub, Int.reduceMul, Int.reduceNeg, reduceIte, if_true, if_false, true_or, or_true, false_or, or_false, false_and, and_false, eq_self, not_false_eq_true, not_true_eq_false, true_and, and_true, List.cons_append, List.nil_append, List.append_nil, b2_0, b2_1, b2_01, Classical.not_not]
  · have hW : ¬ wkP g bell tick c s := fun y => hM y.1
    rw [if_neg hW] at e1
    rw [e1]
    refine ⟨Y, WY, E, FK_refl, L, fun tl Q => ?_⟩
    have hb : g 76 c = 0 := Classical.byContradiction fun y => hM (Or.inl y)
    rw [hb] at bc
    rw [p177_27]
    by_cases hk : g 72 c = 0
    · rw [hk] at kc
      simp only [p177_29, p177_30, p177_33, p177_34, p177_37, p177_38, p177_39, p177_42, p177_43, p177_46, p177_47, p177_48, p177_51, p177_52, p177_55, p177_56, p177_57, p177_59, p177_62, p177_63, p177_64, p177_66, p177_67, p177_68, p177_71, p177_74, K_70, K_72, L_72, K_73, L_73, K_74, L_74, K_75, L_75, K_76, L_76, K_86, L_86, K_87, L_87, K_88, L_88, K_89, L_89, K_90, L_90, K_91, L_91, K_92, L_92, K_93, L_93, K_94, L_94, K_95, L_95, K_96, L_96, K_97, L_97, K_98, L_98, K_99, L_99, K_100, L_100, K_101, L_101, K_102, L_102, K_103, L_103, K_104, L_104, K_105, L_105, K_106, L_106, K_107, L_107, K_108, L_108, K_109, L_109, sh_70_1 S, sh_70_2 S, sh_70_3 S, sh_70_4 S, sh_70_5 S, sh_70_17 S, sh_70_18 S, sh_70_19 S, sh_70_20 S, sh_70_21 S, sh_70_22 S, sh_70_23 S, sh_70_27 S, sh_70_28 S, sh_70_29 S, sh_70_31 S, sh_70_32 S, sh_70_33 S, sh_70_34 S, sh_70_35 S, sh_70_36 S, sh_70_37 S, sh_70_38 S, sh_70_39 S, sh_70_40 S, sh_70_41 S, sh_70_42 S, sh_70_43 S, sh_70_44 S, s1, c0, c1, bc, kc, w1, b2_T, b2_F, Int.reduceEq, Int.reduceLT, Int.reduceLE, Int.reduceAdd, Int.reduceSub, Int.reduceMul, Int.reduceNeg, reduceIte, if_true, if_false, true_or, or_true, false_or, or_false, false_and, and_false, eq_self, not_false_eq_true, not_true_eq_false, true_and, and_true, List.cons_append, List.nil_append, List.append_nil, b2_0, b2_1, b2_01, Classical.not_not]
    · have hk8 : g 72 c = 8 := Classical.byContradiction fun y => hM (Or.inr ⟨hk, y⟩)
      rw [hk8] at kc
      simp only [p177_29, p177_30, p177_33, p177_34, p177_37, p177_38, p177_39, p177_42, p177_43, p177_46, p177_47, p177_48, p177_51, p177_52, p177_55, p177_56, p177_57, p177_59, p177_62, p177_63, p177_64, p177_66, p177_67, p177_68, p177_71, p177_74, K_70, K_72, L_72, K_73, L_73, K_74, L_74, K_75, L_75, K_76, L_76, K_86, L_86, K_87, L_87, K_88, L_88, K_89, L_89, K_90, L_90, K_91, L_91, K_92, L_92, K_93, L_93, K_94, L_94, K_95, L_95, K_96, L_96, K_97, L_97, K_98, L_98, K_99, L_99, K_100, L_100, K_101, L_101, K_102, L_102, K_103, L_103, K_104, L_104, K_105, L_105, K_106, L_106, K_107, L_107, K_108, L_108, K_109, L_109, sh_70_1 S, sh_70_2 S, sh_70_3 S, sh_70_4 S, sh_70_5 S, sh_70_17 S, sh_70_18 S, sh_70_19 S, sh_70_20 S, sh_70_21 S, sh_70_22 S, sh_70_23 S, sh_70_27 S, sh_70_28 S, sh_70_29 S, sh_70_31 S, sh_70_32 S, sh_70_33 S, sh_70_34 S, sh_70_35 S, sh_70_36 S, sh_70_37 S, sh_70_38 S, sh_70_39 S, sh_70_40 S, sh_70_41 S, sh_70_42 S, sh_70_43 S, sh_70_44 S, s1, c0, c1, bc, kc, w1, b2_T, b2_F, Int.reduceEq, Int.reduceLT, Int.reduceLE, Int.reduceAdd, Int.reduceSub, Int.reduceMul, Int.reduceNeg, reduceIte, if_true, if_false, true_or, or_true, false_or, or_false, false_and, and_false, eq_self, not_false_eq_true, not_true_eq_false, true_and, and_true, List.cons_append, List.nil_append, List.append_nil, b2_0, b2_1, b2_01, Classical.not_not]
theorem fref_c (W : WG g) (hb : isC bell) (hc : isC c) : ∀ (k : Nat) (s : Int) (Y : Mm) (n : Nat), s + k = 4 → 0 ≤ s → (n : Int) = 4 * c + s → WG Y → PE g Y → LSq Y 110 (Y 70 47) (wkR g bell tick n) → ∃ Y', WG Y' ∧ PE g Y' ∧ FK Y Y' 110 47 ∧ LSq Y' 110 (Y' 70 47) (wkR g bell tick (n + k)) ∧ ∀ (tl : Ds) (Q : Ds → Mm → List MV → Prop), WP 177 27 [(2, 70), (0, bell), (0, tick), (0, c), (0, s)] [] (dsB ++ tl) Y Q = WP 177 18 [(2, 70), (0, bell), (0, tick), (0, c + 1), (0, 4)] [] (dsB ++ tl) Y' Q := by
  have w1 : w32 (c + 1) = c + 1 := w32_id (by have := hc.1; omega) (by have := hc.2; omega)
  intro k
  induction k with
  | zero =>
    intro s Y n hs h0 hn WY E L
    have hs : s = 4 := by omega
    subst hs
    refine ⟨Y, WY, E, FK_refl, L, fun tl Q => ?_⟩
    rw [p177_27]
    simp only [p177_29, p177_30, p177_77, p177_80, w1, b2_T, b2_F, Int.reduceEq, Int.reduceLT, Int.reduceLE, Int.reduceAdd, Int.reduceSub, Int.reduceMul, Int.reduceNeg, reduceIte, if_true, if_false, true_or, or_true, false_or, or_false, false_and, and_false, eq_self, not_false_eq_true, not_true_eq_false, true_and, and_true, List.cons_append, List.nil_append, List.append_nil, b2_0, b2_1, b2_01, Classical.not_not, Int.lt_irrefl]
  | succ k ih =>
    intro s Y n hs h0 hn WY E L
    obtain ⟨Y1, S1, E1, F1, L1, h1⟩ := fref_1 W hb hc ⟨h0, by omega⟩ WY E hn L
    obtain ⟨Y2, S2, E2, F2, L2, h2⟩ := ih (s + 1) Y1 (n + 1) (by omega) (by omega) (by omega) S1 E1 L1
    refine ⟨Y2, S2, E2, FK_tr F1 F2, by rw [show n + (k + 1) = n + 1 + k by omega]; exact L2, fun tl Q => ?_⟩
    rw [h1 tl Q, h2 tl Q]
theorem fref_l (W : WG g) (hb : isC bell) : ∀ (k c : Nat) (Y : Mm), c + k = 96 → WG Y → PE g Y → LSq Y 110 (Y 70 47) (wkR g bell tick (4 * c)) → ∃ Y', WG Y' ∧ PE g Y' ∧ FK Y Y' 110 47 ∧ LSq Y' 110 (Y' 70 47) (wkR g bell tick 384) ∧ ∀ (tl : Ds) (Q : Ds → Mm → List MV → Prop) (q4 : MV), WP 177 18 [(2, 70), (0, bell), (0, tick), (0, (c : Int)), q4] [] (dsB ++ tl) Y Q = Q (dsB ++ tl) Y' [(0, Y' 70 47)] := by
  intro k
  induction k with
  | zero =>
    intro c Y hc WY E L
    have hc : c = 96 := by omega
    subst hc
    have c1 : ((96 : Nat) : Int) = 96 := rfl
    refine ⟨Y, WY, E, FK_refl, L, fun tl Q q4 => ?_⟩
    rw [p177_18]
    simp only [p177_19, p177_21, p177_83, p177_84, p177_87, K_70, c1, b2_T, b2_F, Int.reduceEq, Int.reduceLT, Int.reduceLE, Int.reduceAdd, Int.reduceSub, Int.reduceMul, Int.reduceNeg, reduceIte, if_true, if_false, true_or, or_true, false_or, or_false, false_and, and_false, eq_self, not_false_eq_true, not_true_eq_false, true_and, and_true, List.cons_append, List.nil_append, List.append_nil, b2_0, b2_1, b2_01, Classical.not_not, Int.lt_irrefl]
  | succ k ih =>
    intro c Y hc WY E L
    have cc : isC (c : Int) := ⟨by omega, by omega⟩
    have c1 : ((c + 1 : Nat) : Int) = (c : Int) + 1 := rfl
    have g1 : (c : Int) < 96 := cc.2
    obtain ⟨Y1, S1, E1, F1, L1, h1⟩ := fref_c W hb cc 4 0 Y (4 * c) (by omega) (by omega) (by omega) WY E L
    obtain ⟨Y2, S2, E2, F2, L2, h2⟩ := ih (c + 1) Y1 (by omega) S1 E1 (by rw [show 4 * (c + 1) = 4 * c + 4 by omega]; exact L1)
    refine ⟨Y2, S2, E2, FK_tr F1 F2, L2, fun tl Q q4 => ?_⟩
    have e2 := h2 tl Q (0, 4)
    rw [c1] at e2
    rw [← e2, ← h1 tl Q, p177_18]
    simp only [p177_19, p177_21, p177_24, p177_25, g1, b2_T, b2_F, Int.reduceEq, Int.reduceLT, Int.reduceLE, Int.reduceAdd, Int.reduceSub, Int.reduceMul, Int.reduceNeg, reduceIte, if_true, if_false, true_or, or_true, false_or, or_false, false_and, and_false, eq_self, not_false_eq_true, not_true_eq_false, true_and, and_true, List.cons_append, List.nil_append, List.append_nil, b2_0, b2_1, b2_01, Classical.not_not]
theorem e177 (W : WG m) : ∃ Y, WG Y ∧ PE m Y ∧ FK m Y 110 47 ∧ (LSq Y 110 (Y 70 47) (if MT m bell tick then wkR m bell tick 384 else (0, fun _ => 0))) ∧ ∀ (tl : Ds) (Q : Ds → Mm → List MV → Prop), WP 177 0 [(2, 70), (0, bell), (0, tick), (3, 0), (3, 0)] [] (dsB ++ tl) m Q = Q (dsB ++ tl) Y [(0, if MT m bell tick then Y 70 47 else -1)] := by
  have S0 : Sh (up m 70 47 0) := Sh.up W.S (by decide)
  have E0 : PE m (up m 70 47 0) := PE_cg (fun x j h1 h2 => by rw [up_at, if_neg (by omega)]) rfl
  have W0 := WG_pe W E0 S0
  have det : MT m bell tick ↔ MT (up m 70 47 0) bell tick := met_det W W0 E0 (by decide) (by decide)
  have x174 := fun (tl : Ds) (Q : Ds → Mm → List MV → Prop) => e174 (tl := tl) (Q := Q) (bell := bell) (tick := tick) W0
  have rw' := runs_w (w := 1) W0 (by decide)
  have f0 : FK m (up m 70 47 0) 110 47 := fun x j a b c' d e' f' g' h' => by rw [up_at, if_neg h']
  have z47 : up m 70 47 0 70 47 = 0 := by simp only [up_at, b2_T, b2_F, Int.reduceEq, Int.reduceLT, Int.reduceLE, Int.reduceAdd, Int.reduceSub, Int.reduceMul, Int.reduceNeg, reduceIte, if_true, if_false, true_or, or_true, false_or, or_false, false_and, and_false, eq_self, not_false_eq_true, not_true_eq_false, true_and, and_true, List.cons_append, List.nil_append, List.append_nil, b2_0, b2_1, b2_01, Classical.not_not]
  by_cases hT : MT m bell tick
  · have hT' := det.1 hT
    have h8 := met_8 W0 (w := 1) (by decide) hT'
    have hb : isC bell := hT'.1
    have cnd : isC bell ∧ up m 70 47 0 72 bell = 8 := ⟨hb, h8⟩
    simp only [b2_t hT', if_pos cnd] at x174
    obtain ⟨Z, hZ⟩ : ∃ Z, Z = mRuns (up m 70 47 0) 1 := ⟨_, rfl⟩
    rw [← hZ] at rw' x174
    have fZ : FK m Z 110 47 := FK_tr f0 (FK_G rw'.2.2 (Or.inl rfl))
    have zz : Z 70 47 = 0 := by rw [rw'.2.2 70 47 (by decide) (by decide) (by decide) (by decide) (by decide)]; exact z47
    obtain ⟨Y, W2, E2, F2, L2, h2⟩ := fref_l (bell := bell) (tick := tick) W hb 96 0 Z (by omega) rw'.1 (PE_tr E0 rw'.2.1) ⟨zz, fun i i0 i1 => absurd i1 (by show ¬ i < 0; omega)⟩
    refine ⟨Y, W2, E2, FK_tr fZ F2, by rw [if_pos hT]; exact L2, fun tl Q => ?_⟩
    have y2 := h2 tl Q (3, 0)
    have n0 : ((0 : Nat) : Int) = 0 := rfl
    rw [n0] at y2
    have y1 := x174 tl
    rw [if_pos hT, ← y2]
    simp only [p177_0, p177_1, p177_2, p177_5, p177_6, p177_7, p177_8, p177_11, p177_14, p177_15, p177_16, p177_17, K_70, y1, b2_T, b2_F, Int.reduceEq, Int.reduceLT, Int.reduceLE, Int.reduceAdd, Int.reduceSub, Int.reduceMul, Int.reduceNeg, reduceIte, if_true, if_false, true_or, or_true, false_or, or_false, false_and, and_false, eq_self, not_false_eq_true, not_true_eq_false, true_and, and_true, List.cons_append, List.nil_append, List.append_nil, b2_0, b2_1, b2_01, Classical.not_not]
  · have hT' : ¬ MT (up m 70 47 0) bell tick := fun y => hT (det.2 y)
    simp only [b2_f hT'] at x174
    obtain ⟨Z, hZ⟩ : ∃ Z, Z = if isC bell ∧ up m 70 47 0 72 bell = 8 then mRuns (up m 70 47 0) 1 else up m 70 47 0 := ⟨_, rfl⟩
    have pz : WG Z ∧ PE m Z ∧ FK m Z 110 47 ∧ Z 70 47 = 0 := by
      rw [hZ]
      split
      · obtain ⟨Z2, hZ2⟩ : ∃ Z, Z = mRuns (up m 70 47 0) 1 := ⟨_, rfl⟩
        rw [← hZ2] at rw' ⊢
        exact ⟨rw'.1, PE_tr E0 rw'.2.1, FK_tr f0 (FK_G rw'.2.2 (Or.inl rfl)), by rw [rw'.2.2 70 47 (by decide) (by decide) (by decide) (by decide) (by decide)]; exact z47⟩
      · exact ⟨W0, E0, f0, z47⟩
    rw [← hZ] at x174
    refine ⟨Z, pz.1, pz.2.1, pz.2.2.1, by rw [if_neg hT]; exact ⟨pz.2.2.2, fun i i0 i1 => absurd i1 (by show ¬ i < 0; omega)⟩, fun tl Q => ?_⟩
    have y1 := x174 tl
    rw [if_neg hT]
    simp only [p177_0, p177_1, p177_2, p177_5, p177_6, p177_7, p177_8, p177_11, p177_14, p177_15, p177_16, p177_17, K_70, y1, b2_T, b2_F, Int.reduceEq, Int.reduceLT, Int.reduceLE, Int.reduceAdd, Int.reduceSub, Int.reduceMul, Int.reduceNeg, reduceIte, if_true, if_false, true_or, or_true, false_or, or_false, false_and, and_false, eq_self, not_false_eq_true, not_true_eq_false, true_and, and_true, List.cons_append, List.nil_append, List.append_nil, b2_0, b2_1, b2_01, Classical.not_not]
end FRAGILE2
