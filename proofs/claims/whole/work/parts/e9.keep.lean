/-! plans on shelves: saves and loads of the reference -/
def svP (Y : Mm) (s n : Int) : Mm := fun a j => if a = 84 ∧ 480 * s ≤ j ∧ j < 480 * s + 5 * n then (if (j - 480 * s) % 5 = 0 then Y 72 ((j - 480 * s) / 5) else if (j - 480 * s) % 5 = 1 then Y 73 ((j - 480 * s) / 5) else if (j - 480 * s) % 5 = 2 then Y 74 ((j - 480 * s) / 5) else if (j - 480 * s) % 5 = 3 then Y 75 ((j - 480 * s) / 5) else if Y 76 ((j - 480 * s) / 5) = 0 then 0 else 1) else Y a j
def svS (Y : Mm) (s n : Int) : Mm := fun a j => if a = 85 ∧ 13 * s + 1 ≤ j ∧ j < 13 * s + 1 + n then Y 77 (j - (13 * s + 1)) else if a = 85 ∧ 13 * s + 5 ≤ j ∧ j < 13 * s + 5 + n then Y 78 (j - (13 * s + 5)) else if a = 85 ∧ 13 * s + 9 ≤ j ∧ j < 13 * s + 9 + n then Y 79 (j - (13 * s + 9)) else Y a j
def mSav (Y : Mm) (s : Int) : Mm := svS (up (svP Y s 96) 85 (13 * s) (Y 70 6)) s 4
def ldX (G Y : Mm) (lo hi n : Int) : Mm := fun a j => if (lo ≤ a ∧ a ≤ hi) ∧ 0 ≤ j ∧ j < n then G a j else Y a j
def mLod (Y : Mm) (s : Int) : Mm := ldX (pG Y s) (up (ldX (pG Y s) Y 72 76 96) 70 6 (Y 85 (13 * s))) 77 79 4
section KEEP
variable {tl : Ds} {ds ds' : Ds} {m X Y Z X' Y' g h G A B : Mm} {Q : Ds → Mm → List MV → Prop} {p q c k a b s o v i j d n w t r e x : Int} {M M' : Nat} {as as' : List MV}
theorem svP_f (h : ¬ a = 84) : svP Y s n a j = Y a j := if_neg (fun y => h y.1)
theorem svS_f (h : ¬ a = 85) : svS Y s n a j = Y a j := by
  unfold svS
  rw [if_neg (fun y => h y.1), if_neg (fun y => h y.1), if_neg (fun y => h y.1)]
theorem Sh_svP (S : Sh Y) : Sh (svP Y s n) := fun q hq => by
  have h1 : ∀ q ∈ SL, ¬ q.1 = 84 := by decide
  rw [svP_f (h1 q hq)]
  exact S q hq
theorem Sh_svS (S : Sh Y) : Sh (svS Y s n) := fun q hq => by
  have h1 : ∀ q ∈ SL, ¬ q.1 = 85 := by decide
  rw [svS_f (h1 q hq)]
  exact S q hq
theorem svP_0 : svP Y s 0 = Y := by
  apply fx
  intro a j
  exact if_neg (fun y => by omega)
theorem svS_0 : svS Y s 0 = Y := by
  apply fx
  intro a j
  unfold svS
  rw [if_neg (by omega), if_neg (by omega), if_neg (by omega)]
theorem svP_at (h0 : 0 ≤ c ∧ c < n) (hi : 0 ≤ i ∧ i < 5) : svP Y s n 84 (480 * s + 5 * c + i) = if i = 0 then Y 72 c else if i = 1 then Y 73 c else if i = 2 then Y 74 c else if i = 3 then Y 75 c else if Y 76 c = 0 then 0 else 1 := by
  unfold svP
  rw [if_pos (by omega), show (480 * s + 5 * c + i - 480 * s) % 5 = i by omega, show (480 * s + 5 * c + i - 480 * s) / 5 = c by omega]
theorem svP_s (h0 : 0 ≤ n) (hv : v = if Y 76 n = 0 then 0 else 1) : up (up (up (up (up (svP Y s n) 84 (480 * s + 5 * n) (Y 72 n)) 84 (480 * s + 5 * n + 1) (Y 73 n)) 84 (480 * s + 5 * n + 2) (Y 74 n)) 84 (480 * s + 5 * n + 3) (Y 75 n)) 84 (480 * s + 5 * n + 4) v = svP Y s (n + 1) := by
  apply fx
  intro a j
  rw [up_at, up_at, up_at, up_at, up_at]
  have key : ∀ i, 0 ≤ i → i < 5 → svP Y s (n + 1) 84 (480 * s + 5 * n + i) = if i = 0 then Y 72 n else if i = 1 then Y 73 n else if i = 2 then Y 74 n else if i = 3 then Y 75 n else if Y 76 n = 0 then 0 else 1 := fun i i0 i1 => svP_at (by omega) ⟨i0, i1⟩
  by_cases h4 : a = 84 ∧ j = 480 * s + 5 * n + 4
  · rw [if_pos h4, h4.1, h4.2, key 4 (by omega) (by omega), hv]
    rfl
  · rw [if_neg h4]
    by_cases h3 : a = 84 ∧ j = 480 * s + 5 * n + 3
    · rw [if_pos h3, h3.1, h3.2, key 3 (by omega) (by omega)]
      rfl
    · rw [if_neg h3]
      by_cases h2 : a = 84 ∧ j = 480 * s + 5 * n + 2
      · rw [if_pos h2, h2.1, h2.2, key 2 (by omega) (by omega)]
        rfl
      · rw [if_neg h2]
        by_cases h1 : a = 84 ∧ j = 480 * s + 5 * n + 1
        · rw [if_pos h1, h1.1, h1.2, key 1 (by omega) (by omega)]
          rfl
        · rw [if_neg h1]
          by_cases h0' : a = 84 ∧ j = 480 * s + 5 * n
          · have y := key 0 (by omega) (by omega)
            rw [show 480 * s + 5 * n + 0 = 480 * s + 5 * n by omega] at y
            rw [if_pos h0', h0'.1, h0'.2, y]
            rfl
          · rw [if_neg h0']
            by_cases hr : a = 84 ∧ 480 * s ≤ j ∧ j < 480 * s + 5 * n
            · have e1 : svP Y s n a j = _ := if_pos hr
              have e2 : svP Y s (n + 1) a j = _ := if_pos (show a = 84 ∧ 480 * s ≤ j ∧ j < 480 * s + 5 * (n + 1) by omega)
              rw [e1, e2]
            · have e1 : svP Y s n a j = _ := if_neg hr
              have e2 : svP Y s (n + 1) a j = _ := if_neg (show ¬ (a = 84 ∧ 480 * s ≤ j ∧ j < 480 * s + 5 * (n + 1)) by omega)
              rw [e1, e2]
theorem svS_s (h0 : 0 ≤ n) (h4 : n < 4) : up (up (up (svS Y s n) 85 (13 * s + 1 + n) (Y 77 n)) 85 (13 * s + 5 + n) (Y 78 n)) 85 (13 * s + 9 + n) (Y 79 n) = svS Y s (n + 1) := by
  apply fx
  intro a j
  rw [up_at, up_at, up_at]
  unfold svS
  by_cases h9 : a = 85 ∧ j = 13 * s + 9 + n
  · rw [if_pos h9, if_neg (by omega), if_neg (by omega), if_pos (by omega), h9.2, show 13 * s + 9 + n - (13 * s + 9) = n by omega]
  · rw [if_neg h9]
    by_cases h5 : a = 85 ∧ j = 13 * s + 5 + n
    · rw [if_pos h5, if_neg (by omega), if_pos (by omega), h5.2, show 13 * s + 5 + n - (13 * s + 5) = n by omega]
    · rw [if_neg h5]
      by_cases h1 : a = 85 ∧ j = 13 * s + 1 + n
      · rw [if_pos h1, if_pos (by omega), h1.2, show 13 * s + 1 + n - (13 * s + 1) = n by omega]
      · rw [if_neg h1]
        by_cases a1 : a = 85 ∧ 13 * s + 1 ≤ j ∧ j < 13 * s + 1 + n
        · rw [if_pos a1, if_pos (by omega)]
        · have n1 : ¬ (a = 85 ∧ 13 * s + 1 ≤ j ∧ j < 13 * s + 1 + (n + 1)) := by omega
          rw [if_neg a1, if_neg n1]
          by_cases a2 : a = 85 ∧ 13 * s + 5 ≤ j ∧ j < 13 * s + 5 + n
          · rw [if_pos a2, if_pos (by omega)]
          · have n2 : ¬ (a = 85 ∧ 13 * s + 5 ≤ j ∧ j < 13 * s + 5 + (n + 1)) := by omega
            rw [if_neg a2, if_neg n2]
            by_cases a3 : a = 85 ∧ 13 * s + 9 ≤ j ∧ j < 13 * s + 9 + n
            · rw [if_pos a3, if_pos (by omega)]
            · have n3 : ¬ (a = 85 ∧ 13 * s + 9 ≤ j ∧ j < 13 * s + 9 + (n + 1)) := by omega
              rw [if_neg a3, if_neg n3]
theorem e149a (S : Sh Y) (hs : 0 ≤ s ∧ s ≤ 8) : ∀ (f : Nat) (n : Int) (q3 : MV), 0 ≤ n → n + f = 96 → ∃ q3' : MV, WP 149 2 [(2, 70), (0, s), (0, n), q3] [] (dsB ++ tl) (svP Y s n) Q = WP 149 100 [(2, 70), (0, s), (0, 96), q3'] [] (dsB ++ tl) (svP Y s 96) Q := by
  intro f
  induction f with
  | zero =>
    intro n q3 h0 h1
    have hn : n = 96 := by omega
    subst hn
    refine ⟨q3, ?_⟩
    simp only [p149_2, p149_3, p149_5, b2_T, b2_F, Int.reduceEq, Int.reduceLT, Int.reduceLE, Int.reduceAdd, Int.reduceSub, Int.reduceMul, Int.reduceNeg, reduceIte, if_true, if_false, true_or, or_true, false_or, or_false, false_and, and_false, eq_self, not_false_eq_true, not_true_eq_false, true_and, and_true, List.cons_append, List.nil_append, List.append_nil, b2_0, b2_1, b2_01, Classical.not_not, Int.lt_irrefl]
  | succ f ih =>
    intro n q3 h0 h1
    have n1 : n < 96 := by omega
    have S' : Sh (svP Y s n) := Sh_svP S
    have w0 : w32 (n + 1) = n + 1 := w32_id (by omega) (by omega)
    have w1 : w32 (480 * s) = 480 * s := w32_id (by omega) (by omega)
    have w2 : w32 (5 * n) = 5 * n := w32_id (by omega) (by omega)
    have w3 : w32 (480 * s + 5 * n) = 480 * s + 5 * n := w32_id (by omega) (by omega)
    have v1 : w32 (480 * s + 5 * n + 1) = 480 * s + 5 * n + 1 := w32_id (by omega) (by omega)
    have v2 : w32 (480 * s + 5 * n + 2) = 480 * s + 5 * n + 2 := w32_id (by omega) (by omega)
    have v3 : w32 (480 * s + 5 * n + 3) = 480 * s + 5 * n + 3 := w32_id (by omega) (by omega)
    have v4 : w32 (480 * s + 5 * n + 4) = 480 * s + 5 * n + 4 := w32_id (by omega) (by omega)
    have b0 : 0 ≤ 480 * s + 5 * n ∧ 480 * s + 5 * n < 4320 := by omega
    have b1 : 0 ≤ 480 * s + 5 * n + 1 ∧ 480 * s + 5 * n + 1 < 4320 := by omega
    have b2' : 0 ≤ 480 * s + 5 * n + 2 ∧ 480 * s + 5 * n + 2 < 4320 := by omega
    have b3 : 0 ≤ 480 * s + 5 * n + 3 ∧ 480 * s + 5 * n + 3 < 4320 := by omega
    have b4 : 0 ≤ 480 * s + 5 * n + 4 ∧ 480 * s + 5 * n + 4 < 4320 := by omega
    have e2 : svP Y s n 72 n = Y 72 n := svP_f (by decide)
    have e3 : svP Y s n 73 n = Y 73 n := svP_f (by decide)
    have e4 : svP Y s n 74 n = Y 74 n := svP_f (by decide)
    have e5 : svP Y s n 75 n = Y 75 n := svP_f (by decide)
    have e6 : svP Y s n 76 n = Y 76 n := svP_f (by decide)
    obtain ⟨q3', r⟩ := ih (n + 1) (0, 480 * s + 5 * n) (by omega) (by omega)
    refine ⟨q3', ?_⟩
    by_cases hb : Y 76 n = 0
    · rw [← svP_s (v := 0) h0 (by rw [if_pos hb])] at r
      rw [p149_2]
      simp only [p149_3, p149_5, p149_8, p149_11, p149_12, p149_13, p149_14, p149_15, p149_16, p149_17, p149_18, p149_19, p149_22, p149_23, p149_24, p149_27, p149_28, p149_29, p149_30, p149_31, p149_34, p149_35, p149_36, p149_37, p149_38, p149_41, p149_42, p149_43, p149_44, p149_45, p149_48, p149_49, p149_50, p149_51, p149_52, p149_55, p149_56, p149_57, p149_58, p149_59, p149_62, p149_63, p149_64, p149_65, p149_66, p149_69, p149_70, p149_71, p149_72, p149_73, p149_76, p149_77, p149_78, p149_79, p149_80, p149_83, p149_84, p149_85, p149_88, p149_89, p149_92, p149_93, p149_94, p149_97, K_70, K_72, L_72, K_73, L_73, K_74, L_74, K_75, L_75, K_76, L_76, K_84, L_84, sh_70_1 S', sh_70_2 S', sh_70_3 S', sh_70_4 S', sh_70_5 S', sh_70_15 S', n1, h0, w0, w1, w2, w3, v1, v2, v3, v4, b0, b1, b2', b3, b4, e2, e3, e4, e5, e6, hb, r, up_at, b2_T, b2_F, Int.reduceEq, Int.reduceLT, Int.reduceLE, Int.reduceAdd, Int.reduceSub, Int.reduceMul, Int.reduceNeg, reduceIte, if_true, if_false, true_or, or_true, false_or, or_false, false_and, and_false, eq_self, not_false_eq_true, not_true_eq_false, true_and, and_true, List.cons_append, List.nil_append, List.append_nil, b2_0, b2_1, b2_01, Classical.not_not]
    · rw [← svP_s (v := 1) h0 (by rw [if_neg hb])] at r
      rw [p149_2]
      simp only [p149_3, p149_5, p149_8, p149_11, p149_12, p149_13, p149_14, p149_15, p149_16, p149_17, p149_18, p149_19, p149_22, p149_23, p149_24, p149_27, p149_28, p149_29, p149_30, p149_31, p149_34, p149_35, p149_36, p149_37, p149_38, p149_41, p149_42, p149_43, p149_44, p149_45, p149_48, p149_49, p149_50, p149_51, p149_52, p149_55, p149_56, p149_57, p149_58, p149_59, p149_62, p149_63, p149_64, p149_65, p149_66, p149_69, p149_70, p149_71, p149_72, p149_73, p149_76, p149_77, p149_78, p149_79, p149_80, p149_83, p149_84, p149_85, p149_88, p149_89, p149_92, p149_93, p149_94, p149_97, K_70, K_72, L_72, K_73, L_73, K_74, L_74, K_75, L_75, K_76, L_76, K_84, L_84, sh_70_1 S', sh_70_2 S', sh_70_3 S', sh_70_4 S', sh_70_5 S', sh_70_15 S', n1, h0, w0, w1, w2, w3, v1, v2, v3, v4, b0, b1, b2', b3, b4, e2, e3, e4, e5, e6, hb, r, up_at, b2_T, b2_F, Int.reduceEq, Int.reduceLT, Int.reduceLE, Int.reduceAdd, Int.reduceSub, Int.reduceMul, Int.reduceNeg, reduceIte, if_true, if_false, true_or, or_true, false_or, or_false, false_and, and_false, eq_self, not_false_eq_true, not_true_eq_false, true_and, and_true, List.cons_append, List.nil_append, List.append_nil, b2_0, b2_1, b2_01, Classical.not_not]
theorem e149b (S : Sh Y) (hs : 0 ≤ s ∧ s ≤ 8) {q3 : MV} : ∀ (f : Nat) (n : Int), 0 ≤ n → n + f = 4 → WP 149 115 [(2, 70), (0, s), (0, n), q3] [] (dsB ++ tl) (svS Y s n) Q = Q (dsB ++ tl) (svS Y s 4) [] := by
  intro f
  induction f with
  | zero =>
    intro n h0 h1
    have hn : n = 4 := by omega
    subst hn
    simp only [p149_115, p149_116, p149_117, p149_184, b2_T, b2_F, Int.reduceEq, Int.reduceLT, Int.reduceLE, Int.reduceAdd, Int.reduceSub, Int.reduceMul, Int.reduceNeg, reduceIte, if_true, if_false, true_or, or_true, false_or, or_false, false_and, and_false, eq_self, not_false_eq_true, not_true_eq_false, true_and, and_true, List.cons_append, List.nil_append, List.append_nil, b2_0, b2_1, b2_01, Classical.not_not, Int.lt_irrefl]
  | succ f ih =>
    intro n h0 h1
    have n1 : n < 4 := by omega
    have S' : Sh (svS Y s n) := Sh_svS S
    have w0 : w32 (n + 1) = n + 1 := w32_id (by omega) (by omega)
    have w1 : w32 (13 * s) = 13 * s := w32_id (by omega) (by omega)
    have v1 : w32 (13 * s + 1) = 13 * s + 1 := w32_id (by omega) (by omega)
    have v5 : w32 (13 * s + 5) = 13 * s + 5 := w32_id (by omega) (by omega)
    have v9 : w32 (13 * s + 9) = 13 * s + 9 := w32_id (by omega) (by omega)
    have u1 : w32 (13 * s + 1 + n) = 13 * s + 1 + n := w32_id (by omega) (by omega)
    have u5 : w32 (13 * s + 5 + n) = 13 * s + 5 + n := w32_id (by omega) (by omega)
    have u9 : w32 (13 * s + 9 + n) = 13 * s + 9 + n := w32_id (by omega) (by omega)
    have b1 : 0 ≤ 13 * s + 1 + n ∧ 13 * s + 1 + n < 117 := by omega
    have b5 : 0 ≤ 13 * s + 5 + n ∧ 13 * s + 5 + n < 117 := by omega
    have b9 : 0 ≤ 13 * s + 9 + n ∧ 13 * s + 9 + n < 117 := by omega
    have e7 : svS Y s n 77 n = Y 77 n := svS_f (by decide)
    have e8 : svS Y s n 78 n = Y 78 n := svS_f (by decide)
    have e9 : svS Y s n 79 n = Y 79 n := svS_f (by decide)
    have r := ih (n + 1) (by omega) (by omega)
    rw [← svS_s h0 n1] at r
    rw [p149_115]
    simp only [p149_116, p149_117, p149_120, p149_121, p149_124, p149_126, p149_127, p149_128, p149_129, p149_130, p149_131, p149_132, p149_133, p149_136, p149_137, p149_138, p149_139, p149_140, p149_143, p149_145, p149_146, p149_147, p149_148, p149_149, p149_150, p149_151, p149_152, p149_155, p149_156, p149_157, p149_158, p149_159, p149_162, p149_164, p149_165, p149_166, p149_168, p149_169, p149_170, p149_171, p149_172, p149_175, p149_176, p149_177, p149_178, p149_181, K_70, K_77, L_77, K_78, L_78, K_79, L_79, K_85, L_85, sh_70_7 S', sh_70_8 S', sh_70_9 S', sh_70_16 S', n1, h0, w0, w1, v1, v5, v9, u1, u5, u9, b1, b5, b9, e7, e8, e9, r, up_at, b2_T, b2_F, Int.reduceEq, Int.reduceLT, Int.reduceLE, Int.reduceAdd, Int.reduceSub, Int.reduceMul, Int.reduceNeg, reduceIte, if_true, if_false, true_or, or_true, false_or, or_false, false_and, and_false, eq_self, not_false_eq_true, not_true_eq_false, true_and, and_true, List.cons_append, List.nil_append, List.append_nil, b2_0, b2_1, b2_01, Classical.not_not]
theorem e149 (S : Sh m) (hs : 0 ≤ s ∧ s ≤ 8) : WP 149 0 [(2, 70), (0, s), (3, 0), (3, 0)] [] (dsB ++ tl) m Q = Q (dsB ++ tl) (mSav m s) [] := by
  obtain ⟨q3, r⟩ := e149a (tl := tl) (Q := Q) S hs 96 0 (3, 0) (by omega) (by omega)
  rw [svP_0] at r
  have S1 : Sh (svP m s 96) := Sh_svP S
  have S2 : Sh (up (svP m s 96) 85 (13 * s) (m 70 6)) := Sh_ar S1 (by decide)
  have r2 := e149b (tl := tl) (Q := Q) (q3 := q3) S2 hs 4 0 (by omega) (by omega)
  rw [svS_0] at r2
  have w1 : w32 (13 * s) = 13 * s := w32_id (by omega) (by omega)
  have b1 : 0 ≤ 13 * s ∧ 13 * s < 117 := by omega
  have e6 : svP m s 96 70 6 = m 70 6 := svP_f (by decide)
  unfold mSav
  simp only [p149_0, p149_1, r]
  simp only [p149_100, p149_101, p149_104, p149_106, p149_107, p149_108, p149_109, p149_112, p149_113, p149_114, K_70, K_85, L_85, sh_70_16 S1, w1, b1, e6, r2, b2_T, b2_F, Int.reduceEq, Int.reduceLT, Int.reduceLE, Int.reduceAdd, Int.reduceSub, Int.reduceMul, Int.reduceNeg, reduceIte, if_true, if_false, true_or, or_true, false_or, or_false, false_and, and_false, eq_self, not_false_eq_true, not_true_eq_false, true_and, and_true, List.cons_append, List.nil_append, List.append_nil, b2_0, b2_1, b2_01, Classical.not_not]
theorem ldX_f {lo hi : Int} (h : ¬ (lo ≤ a ∧ a ≤ hi)) : ldX G Y lo hi n a j = Y a j := if_neg (fun y => h y.1)
theorem ldX_0 {lo hi : Int} : ldX G Y lo hi 0 = Y := by
  apply fx
  intro a j
  exact if_neg (fun y => by omega)
theorem ldX_Sh {lo hi : Int} (S : Sh Y) (h : 71 < lo) (h2 : hi < 80) : Sh (ldX G Y lo hi n) := fun q hq => by
  have h1 : ∀ q ∈ SL, ¬ (71 < q.1 ∧ q.1 < 80) := by decide
  have y1 := h1 q hq
  rw [ldX_f (by omega)]
  exact S q hq
theorem ldX_5 (h0 : 0 ≤ n) : up (up (up (up (up (ldX G Y 72 76 n) 72 n (G 72 n)) 73 n (G 73 n)) 74 n (G 74 n)) 75 n (G 75 n)) 76 n (G 76 n) = ldX G Y 72 76 (n + 1) := by
  apply fx
  intro a j
  rw [up_at, up_at, up_at, up_at, up_at]
  unfold ldX
  by_cases h4 : a = 76 ∧ j = n
  · rw [if_pos h4, if_pos (by omega), h4.1, h4.2]
  · rw [if_neg h4]
    by_cases h3 : a = 75 ∧ j = n
    · rw [if_pos h3, if_pos (by omega), h3.1, h3.2]
    · rw [if_neg h3]
      by_cases h2 : a = 74 ∧ j = n
      · rw [if_pos h2, if_pos (by omega), h2.1, h2.2]
      · rw [if_neg h2]
        by_cases h1 : a = 73 ∧ j = n
        · rw [if_pos h1, if_pos (by omega), h1.1, h1.2]
        · rw [if_neg h1]
          by_cases h0' : a = 72 ∧ j = n
          · rw [if_pos h0', if_pos (by omega), h0'.1, h0'.2]
          · rw [if_neg h0']
            by_cases hr : (72 ≤ a ∧ a ≤ 76) ∧ 0 ≤ j ∧ j < n
            · rw [if_pos hr, if_pos (by omega)]
            · rw [if_neg hr, if_neg (by omega)]
theorem ldX_3 (h0 : 0 ≤ n) : up (up (up (ldX G Y 77 79 n) 77 n (G 77 n)) 78 n (G 78 n)) 79 n (G 79 n) = ldX G Y 77 79 (n + 1) := by
  apply fx
  intro a j
  rw [up_at, up_at, up_at]
  unfold ldX
  by_cases h4 : a = 79 ∧ j = n
  · rw [if_pos h4, if_pos (by omega), h4.1, h4.2]
  · rw [if_neg h4]
    by_cases h3 : a = 78 ∧ j = n
    · rw [if_pos h3, if_pos (by omega), h3.1, h3.2]
    · rw [if_neg h3]
      by_cases h2 : a = 77 ∧ j = n
      · rw [if_pos h2, if_pos (by omega), h2.1, h2.2]
      · rw [if_neg h2]
        by_cases hr : (77 ≤ a ∧ a ≤ 79) ∧ 0 ≤ j ∧ j < n
        · rw [if_pos hr, if_pos (by omega)]
        · rw [if_neg hr, if_neg (by omega)]
theorem pG_c (hc : isC c) : pG Y s 72 c = Y 84 (480 * s + 5 * c) ∧ pG Y s 73 c = Y 84 (480 * s + 5 * c + 1) ∧ pG Y s 74 c = Y 84 (480 * s + 5 * c + 2) ∧ pG Y s 75 c = Y 84 (480 * s + 5 * c + 3) ∧ pG Y s 76 c = b2 (Y 84 (480 * s + 5 * c + 4) = 1) := by
  unfold pG
  refine ⟨?_, ?_, ?_, ?_, ?_⟩
  · rw [if_pos (by decide), if_pos hc, show 480 * s + 5 * c + (72 - 72) = 480 * s + 5 * c by omega]
  · rw [if_pos (by decide), if_pos hc, show 480 * s + 5 * c + (73 - 72) = 480 * s + 5 * c + 1 by omega]
  · rw [if_pos (by decide), if_pos hc, show 480 * s + 5 * c + (74 - 72) = 480 * s + 5 * c + 2 by omega]
  · rw [if_pos (by decide), if_pos hc, show 480 * s + 5 * c + (75 - 72) = 480 * s + 5 * c + 3 by omega]
  · rw [if_neg (by decide), if_pos rfl, if_pos hc]
theorem pG_t (hi : 0 ≤ i ∧ i < 4) : pG Y s 77 i = Y 85 (13 * s + 1 + i) ∧ pG Y s 78 i = Y 85 (13 * s + 5 + i) ∧ pG Y s 79 i = Y 85 (13 * s + 9 + i) := by
  unfold pG
  refine ⟨?_, ?_, ?_⟩
  · rw [if_neg (by decide), if_neg (by decide), if_pos (by decide), if_pos hi, show 13 * s + 1 + 4 * (77 - 77) + i = 13 * s + 1 + i by omega]
  · rw [if_neg (by decide), if_neg (by decide), if_pos (by decide), if_pos hi, show 13 * s + 1 + 4 * (78 - 77) + i = 13 * s + 5 + i by omega]
  · rw [if_neg (by decide), if_neg (by decide), if_pos (by decide), if_pos hi, show 13 * s + 1 + 4 * (79 - 77) + i = 13 * s + 9 + i by omega]
theorem pG_6 : pG Y s 70 6 = Y 85 (13 * s) := by
  unfold pG
  rw [if_neg (by decide), if_neg (by decide), if_neg (by decide), if_pos (by decide)]
theorem e150a (S : Sh Y) (hs : 0 ≤ s ∧ s ≤ 8) (hG : G = pG Y s) : ∀ (f : Nat) (n : Int) (q3 : MV), 0 ≤ n → n + f = 96 → ∃ q3' : MV, WP 150 2 [(2, 70), (0, s), (0, n), q3] [] (dsB ++ tl) (ldX G Y 72 76 n) Q = WP 150 101 [(2, 70), (0, s), (0, 96), q3'] [] (dsB ++ tl) (ldX G Y 72 76 96) Q := by
  intro f
  induction f with
  | zero =>
    intro n q3 h0 h1
    have hn : n = 96 := by omega
    subst hn
    refine ⟨q3, ?_⟩
    simp only [p150_2, p150_3, p150_5, b2_T, b2_F, Int.reduceEq, Int.reduceLT, Int.reduceLE, Int.reduceAdd, Int.reduceSub, Int.reduceMul, Int.reduceNeg, reduceIte, if_true, if_false, true_or, or_true, false_or, or_false, false_and, and_false, eq_self, not_false_eq_true, not_true_eq_false, true_and, and_true, List.cons_append, List.nil_append, List.append_nil, b2_0, b2_1, b2_01, Classical.not_not, Int.lt_irrefl]
  | succ f ih =>
    intro n q3 h0 h1
    have n1 : n < 96 := by omega
    have S' : Sh (ldX G Y 72 76 n) := ldX_Sh S (by decide) (by decide)
    have w0 : w32 (n + 1) = n + 1 := w32_id (by omega) (by omega)
    have w1 : w32 (480 * s) = 480 * s := w32_id (by omega) (by omega)
    have w2 : w32 (5 * n) = 5 * n := w32_id (by omega) (by omega)
    have w3 : w32 (480 * s + 5 * n) = 480 * s + 5 * n := w32_id (by omega) (by omega)
    have v1 : w32 (480 * s + 5 * n + 1) = 480 * s + 5 * n + 1 := w32_id (by omega) (by omega)
    have v2 : w32 (480 * s + 5 * n + 2) = 480 * s + 5 * n + 2 := w32_id (by omega) (by omega)
    have v3 : w32 (480 * s + 5 * n + 3) = 480 * s + 5 * n + 3 := w32_id (by omega) (by omega)
    have v4 : w32 (480 * s + 5 * n + 4) = 480 * s + 5 * n + 4 := w32_id (by omega) (by omega)
    have b0 : 0 ≤ 480 * s + 5 * n ∧ 480 * s + 5 * n < 4320 := by omega
    have b1 : 0 ≤ 480 * s + 5 * n + 1 ∧ 480 * s + 5 * n + 1 < 4320 := by omega
    have b2' : 0 ≤ 480 * s + 5 * n + 2 ∧ 480 * s + 5 * n + 2 < 4320 := by omega
    have b3 : 0 ≤ 480 * s + 5 * n + 3 ∧ 480 * s + 5 * n + 3 < 4320 := by omega
    have b4 : 0 ≤ 480 * s + 5 * n + 4 ∧ 480 * s + 5 * n + 4 < 4320 := by omega
    have e84 : ∀ j, ldX G Y 72 76 n 84 j = Y 84 j := fun j => ldX_f (by decide)
    have pg := pG_c (Y := Y) (s := s) (c := n) ⟨h0, n1⟩
    rw [← hG] at pg
    obtain ⟨q3', r⟩ := ih (n + 1) (0, 480 * s + 5 * n) (by omega) (by omega)
    refine ⟨q3', ?_⟩
    rw [← ldX_5 h0, pg.1, pg.2.1, pg.2.2.1, pg.2.2.2.1, pg.2.2.2.2] at r
    by_cases hb : Y 84 (480 * s + 5 * n + 4) = 1
    · rw [b2_t hb] at r
      rw [p150_2]
      simp only [p150_3, p150_5, p150_8, p150_11, p150_12, p150_13, p150_14, p150_15, p150_16, p150_17, p150_18, p150_19, p150_22, p150_23, p150_24, p150_27, p150_28, p150_29, p150_30, p150_31, p150_34, p150_35, p150_36, p150_39, p150_40, p150_41, p150_42, p150_43, p150_44, p150_45, p150_48, p150_49, p150_50, p150_53, p150_54, p150_55, p150_56, p150_57, p150_58, p150_59, p150_62, p150_63, p150_64, p150_67, p150_68, p150_69, p150_70, p150_71, p150_72, p150_73, p150_76, p150_77, p150_78, p150_81, p150_82, p150_83, p150_84, p150_85, p150_86, p150_89, p150_90, p150_93, p150_94, p150_95, p150_98, K_70, K_72, L_72, K_73, L_73, K_74, L_74, K_75, L_75, K_76, L_76, K_84, L_84, sh_70_1 S', sh_70_2 S', sh_70_3 S', sh_70_4 S', sh_70_5 S', sh_70_15 S', n1, h0, w0, w1, w2, w3, v1, v2, v3, v4, b0, b1, b2', b3, b4, e84, hb, r, up_at, b2_T, b2_F, Int.reduceEq, Int.reduceLT, Int.reduceLE, Int.reduceAdd, Int.reduceSub, Int.reduceMul, Int.reduceNeg, reduceIte, if_true, if_false, true_or, or_true, false_or, or_false, false_and, and_false, eq_self, not_false_eq_true, not_true_eq_false, true_and, and_true, List.cons_append, List.nil_append, List.append_nil, b2_0, b2_1, b2_01, Classical.not_not]
    · rw [b2_f hb] at r
      rw [p150_2]
      simp only [p150_3, p150_5, p150_8, p150_11, p150_12, p150_13, p150_14, p150_15, p150_16, p150_17, p150_18, p150_19, p150_22, p150_23, p150_24, p150_27, p150_28, p150_29, p150_30, p150_31, p150_34, p150_35, p150_36, p150_39, p150_40, p150_41, p150_42, p150_43, p150_44, p150_45, p150_48, p150_49, p150_50, p150_53, p150_54, p150_55, p150_56, p150_57, p150_58, p150_59, p150_62, p150_63, p150_64, p150_67, p150_68, p150_69, p150_70, p150_71, p150_72, p150_73, p150_76, p150_77, p150_78, p150_81, p150_82, p150_83, p150_84, p150_85, p150_86, p150_89, p150_90, p150_93, p150_94, p150_95, p150_98, K_70, K_72, L_72, K_73, L_73, K_74, L_74, K_75, L_75, K_76, L_76, K_84, L_84, sh_70_1 S', sh_70_2 S', sh_70_3 S', sh_70_4 S', sh_70_5 S', sh_70_15 S', n1, h0, w0, w1, w2, w3, v1, v2, v3, v4, b0, b1, b2', b3, b4, e84, hb, r, up_at, b2_T, b2_F, Int.reduceEq, Int.reduceLT, Int.reduceLE, Int.reduceAdd, Int.reduceSub, Int.reduceMul, Int.reduceNeg, reduceIte, if_true, if_false, true_or, or_true, false_or, or_false, false_and, and_false, eq_self, not_false_eq_true, not_true_eq_false, true_and, and_true, List.cons_append, List.nil_append, List.append_nil, b2_0, b2_1, b2_01, Classical.not_not]
theorem e150b (S : Sh Y) (hs : 0 ≤ s ∧ s ≤ 8) (hG : ∀ i, 0 ≤ i → i < 4 → G 77 i = Y 85 (13 * s + 1 + i) ∧ G 78 i = Y 85 (13 * s + 5 + i) ∧ G 79 i = Y 85 (13 * s + 9 + i)) {q3 : MV} : ∀ (f : Nat) (n : Int), 0 ≤ n → n + f = 4 → WP 150 116 [(2, 70), (0, s), (0, n), q3] [] (dsB ++ tl) (ldX G Y 77 79 n) Q = Q (dsB ++ tl) (ldX G Y 77 79 4) [] := by
  intro f
  induction f with
  | zero =>
    intro n h0 h1
    have hn : n = 4 := by omega
    subst hn
    simp only [p150_116, p150_117, p150_118, p150_185, b2_T, b2_F, Int.reduceEq, Int.reduceLT, Int.reduceLE, Int.reduceAdd, Int.reduceSub, Int.reduceMul, Int.reduceNeg, reduceIte, if_true, if_false, true_or, or_true, false_or, or_false, false_and, and_false, eq_self, not_false_eq_true, not_true_eq_false, true_and, and_true, List.cons_append, List.nil_append, List.append_nil, b2_0, b2_1, b2_01, Classical.not_not, Int.lt_irrefl]
  | succ f ih =>
    intro n h0 h1
    have n1 : n < 4 := by omega
    have S' : Sh (ldX G Y 77 79 n) := ldX_Sh S (by decide) (by decide)
    have w0 : w32 (n + 1) = n + 1 := w32_id (by omega) (by omega)
    have w1 : w32 (13 * s) = 13 * s := w32_id (by omega) (by omega)
    have v1 : w32 (13 * s + 1) = 13 * s + 1 := w32_id (by omega) (by omega)
    have v5 : w32 (13 * s + 5) = 13 * s + 5 := w32_id (by omega) (by omega)
    have v9 : w32 (13 * s + 9) = 13 * s + 9 := w32_id (by omega) (by omega)
    have u1 : w32 (13 * s + 1 + n) = 13 * s + 1 + n := w32_id (by omega) (by omega)
    have u5 : w32 (13 * s + 5 + n) = 13 * s + 5 + n := w32_id (by omega) (by omega)
    have u9 : w32 (13 * s + 9 + n) = 13 * s + 9 + n := w32_id (by omega) (by omega)
    have b1 : 0 ≤ 13 * s + 1 + n ∧ 13 * s + 1 + n < 117 := by omega
    have b5 : 0 ≤ 13 * s + 5 + n ∧ 13 * s + 5 + n < 117 := by omega
    have b9 : 0 ≤ 13 * s + 9 + n ∧ 13 * s + 9 + n < 117 := by omega
    have e85 : ∀ j, ldX G Y 77 79 n 85 j = Y 85 j := fun j => ldX_f (by decide)
    have pg := hG n h0 n1
    have r := ih (n + 1) (by omega) (by omega)
    rw [← ldX_3 h0, pg.1, pg.2.1, pg.2.2] at r
    rw [p150_116]
    simp only [p150_117, p150_118, p150_121, p150_122, p150_125, p150_126, p150_127, p150_130, p150_132, p150_133, p150_134, p150_135, p150_136, p150_137, p150_138, p150_139, p150_140, p150_141, p150_144, p150_145, p150_146, p150_149, p150_151, p150_152, p150_153, p150_154, p150_155, p150_156, p150_157, p150_158, p150_159, p150_160, p150_163, p150_164, p150_165, p150_168, p150_170, p150_171, p150_172, p150_174, p150_175, p150_176, p150_177, p150_178, p150_179, p150_182, K_70, K_77, L_77, K_78, L_78, K_79, L_79, K_85, L_85, sh_70_7 S', sh_70_8 S', sh_70_9 S', sh_70_16 S', n1, h0, w0, w1, v1, v5, v9, u1, u5, u9, b1, b5, b9, e85, r, up_at, b2_T, b2_F, Int.reduceEq, Int.reduceLT, Int.reduceLE, Int.reduceAdd, Int.reduceSub, Int.reduceMul, Int.reduceNeg, reduceIte, if_true, if_false, true_or, or_true, false_or, or_false, false_and, and_false, eq_self, not_false_eq_true, not_true_eq_false, true_and, and_true, List.cons_append, List.nil_append, List.append_nil, b2_0, b2_1, b2_01, Classical.not_not]
theorem e150 (S : Sh m) (hs : 0 ≤ s ∧ s ≤ 8) : WP 150 0 [(2, 70), (0, s), (3, 0), (3, 0)] [] (dsB ++ tl) m Q = Q (dsB ++ tl) (mLod m s) [] := by
  obtain ⟨q3, r⟩ := e150a (tl := tl) (Q := Q) (G := pG m s) S hs rfl 96 0 (3, 0) (by omega) (by omega)
  rw [ldX_0] at r
  have S1 : Sh (ldX (pG m s) m 72 76 96) := ldX_Sh S (by decide) (by decide)
  have S2 : Sh (up (ldX (pG m s) m 72 76 96) 70 6 (m 85 (13 * s))) := Sh.up S1 (by decide)
  have e85 : ∀ j, ldX (pG m s) m 72 76 96 85 j = m 85 j := fun j => ldX_f (by decide)
  have r2 := e150b (tl := tl) (Q := Q) (q3 := q3) (G := pG m s) S2 hs (fun i i0 i1 => by
    rw [up_at, if_neg (fun y => absurd y.1 (by decide)), up_at, if_neg (fun y => absurd y.1 (by decide)), up_at, if_neg (fun y => absurd y.1 (by decide)), e85, e85, e85]
    exact pG_t ⟨i0, i1⟩) 4 0 (by omega) (by omega)
  rw [ldX_0] at r2
  have w1 : w32 (13 * s) = 13 * s := w32_id (by omega) (by omega)
  have b1 : 0 ≤ 13 * s ∧ 13 * s < 117 := by omega
  unfold mLod
  simp only [p150_0, p150_1, r]
  simp only [p150_101, p150_102, p150_103, p150_106, p150_108, p150_109, p150_110, p150_111, p150_114, p150_115, K_70, K_85, L_85, sh_70_16 S1, w1, b1, e85, r2, b2_T, b2_F, Int.reduceEq, Int.reduceLT, Int.reduceLE, Int.reduceAdd, Int.reduceSub, Int.reduceMul, Int.reduceNeg, reduceIte, if_true, if_false, true_or, or_true, false_or, or_false, false_and, and_false, eq_self, not_false_eq_true, not_true_eq_false, true_and, and_true, List.cons_append, List.nil_append, List.append_nil, b2_0, b2_1, b2_01, Classical.not_not]
theorem mSav_f (h1 : ¬ (a = 84 ∧ 480 * s ≤ j ∧ j < 480 * s + 480)) (h2 : ¬ (a = 85 ∧ 13 * s ≤ j ∧ j < 13 * s + 13)) : mSav Y s a j = Y a j := by
  unfold mSav svS svP
  rw [if_neg (by omega), if_neg (by omega), if_neg (by omega), up_at, if_neg (by omega), if_neg (by omega)]
theorem mSav_Sh (S : Sh Y) : Sh (mSav Y s) := Sh_svS (Sh_ar (Sh_svP S) (by decide))
theorem mSav_84 : mSav Y s 84 j = svP Y s 96 84 j := by
  unfold mSav
  rw [svS_f (by decide), up_at, if_neg (fun y => absurd y.1 (by decide))]
theorem PE_sav (hb : ∀ c, isC c → Y 76 c = 0 ∨ Y 76 c = 1) (hn : Y 70 6 ≤ 4) : PE Y (pG (mSav Y s) s) := by
  have key : ∀ c i, isC c → 0 ≤ i → i < 5 → mSav Y s 84 (480 * s + 5 * c + i) = if i = 0 then Y 72 c else if i = 1 then Y 73 c else if i = 2 then Y 74 c else if i = 3 then Y 75 c else if Y 76 c = 0 then 0 else 1 := fun c i hc i0 i1 => by
    rw [mSav_84]
    exact svP_at hc ⟨i0, i1⟩
  refine ⟨fun c hc => ?_, fun c hc _ => ⟨?_, ?_⟩, fun c hc _ => ?_, fun c hc => ?_, ?_, fun i i0 i1 => ?_⟩
  · have y := key c 0 hc (by decide) (by decide)
    rw [show 480 * s + 5 * c + 0 = 480 * s + 5 * c by omega] at y
    rw [(pG_c hc).1, y]
    rfl
  · rw [(pG_c hc).2.1, key c 1 hc (by decide) (by decide)]
    rfl
  · rw [(pG_c hc).2.2.1, key c 2 hc (by decide) (by decide)]
    rfl
  · rw [(pG_c hc).2.2.2.1, key c 3 hc (by decide) (by decide)]
    rfl
  · have y : mSav Y s 84 (480 * s + 5 * c + 4) = if Y 76 c = 0 then 0 else 1 := key c 4 hc (by decide) (by decide)
    rw [(pG_c hc).2.2.2.2, y]
    rcases hb c hc with z | z
    · rw [if_pos z, z]
      rfl
    · rw [if_neg (by omega), z]
      rfl
  · rw [pG_6]
    unfold mSav svS
    rw [if_neg (by omega), if_neg (by omega), if_neg (by omega), up_at, if_pos ⟨rfl, rfl⟩]
  · have z := pG_t (Y := mSav Y s) (s := s) (i := i) ⟨i0, by omega⟩
    rw [z.1, z.2.1, z.2.2]
    unfold mSav svS
    refine ⟨?_, ?_, ?_⟩
    · rw [if_pos (by omega), up_at, if_neg (fun y => absurd y.1 (by decide)), svP_f (by decide), show 13 * s + 1 + i - (13 * s + 1) = i by omega]
    · rw [if_neg (by omega), if_pos (by omega), up_at, if_neg (fun y => absurd y.1 (by decide)), svP_f (by decide), show 13 * s + 5 + i - (13 * s + 5) = i by omega]
    · rw [if_neg (by omega), if_neg (by omega), if_pos (by omega), up_at, if_neg (fun y => absurd y.1 (by decide)), svP_f (by decide), show 13 * s + 9 + i - (13 * s + 9) = i by omega]
theorem mLod_f (h1 : ¬ (72 ≤ a ∧ a ≤ 79)) (h2 : ¬ (a = 70 ∧ j = 6)) : mLod Y s a j = Y a j := by
  unfold mLod
  rw [ldX_f (by omega), up_at, if_neg h2, ldX_f (by omega)]
theorem mLod_Sh (S : Sh Y) : Sh (mLod Y s) := ldX_Sh (Sh.up (ldX_Sh S (by decide) (by decide)) (by decide)) (by decide) (by decide)
theorem PE_lod (hn : pG Y s 70 6 ≤ 4) : PE (pG Y s) (mLod Y s) := by
  have h7 : ∀ a c, 72 ≤ a → a ≤ 76 → isC c → mLod Y s a c = pG Y s a c := fun a c a0 a1 hc => by
    unfold mLod
    rw [ldX_f (by omega), up_at, if_neg (by omega)]
    exact if_pos ⟨⟨a0, a1⟩, hc.1, hc.2⟩
  refine ⟨fun c hc => h7 _ _ (by decide) (by decide) hc, fun c hc _ => ⟨h7 _ _ (by decide) (by decide) hc, h7 _ _ (by decide) (by decide) hc⟩, fun c hc _ => h7 _ _ (by decide) (by decide) hc, fun c hc => h7 _ _ (by decide) (by decide) hc, ?_, fun i i0 i1 => ?_⟩
  · rw [pG_6]
    unfold mLod
    rw [ldX_f (by decide), up_at, if_pos ⟨rfl, rfl⟩]
  · have z : ∀ a, 77 ≤ a → a ≤ 79 → mLod Y s a i = pG Y s a i := fun a a0 a1 => if_pos ⟨⟨a0, a1⟩, i0, by omega⟩
    exact ⟨z _ (by decide) (by decide), z _ (by decide) (by decide), z _ (by decide) (by decide)⟩
end KEEP
