/-! the latest run as it is told, on both sides -/
abbrev LR (X Y : Mm) : Prop := (X 34 10 = Y 101 0) ∧ (X 34 9 = Y 101 1) ∧ (X 35 4 = Y 101 2) ∧ (0 ≤ Y 101 2 ∧ Y 101 2 ≤ 1000) ∧ (X 34 11 = Y 101 3) ∧ (X 34 12 = Y 101 4) ∧ (X 40 8 = Y 101 5) ∧ (∀ c, isC c → X 49 c = Y 103 c) ∧ (∀ c, isC c → X 48 c = Y 105 c ∧ 0 ≤ Y 105 c) ∧ (∀ c, isC c → X 47 c = Y 106 c) ∧ (∀ c, isC c → (X 41 c = -1 ↔ Y 107 c = 0) ∧ (Y 107 c = 0 ∨ Y 107 c = 1)) ∧ (∀ c, isC c → X 50 c = Y 108 c ∧ (Y 108 c = 0 ∨ Y 108 c = 1)) ∧ (∀ i, 0 ≤ i → i < Y 101 2 → X 36 i = Y 102 (6 * i) ∧ X 37 i = 4 * Y 102 (6 * i + 1) + Y 102 (6 * i + 2) ∧ X 38 i = Y 102 (6 * i + 3) ∧ X 39 i = Y 102 (6 * i + 4) + 2 * Y 102 (6 * i + 5) + (if Y 105 (Y 102 (6 * i + 1)) = 0 then 0 else 4)) ∧ (∀ i, 0 ≤ i → i < Y 101 2 → isC (Y 102 (6 * i + 1)) ∧ okS (Y 102 (6 * i + 2)) ∧ (-1 ≤ Y 102 (6 * i + 3) ∧ Y 102 (6 * i + 3) < i) ∧ (Y 102 (6 * i + 4) = 0 ∨ Y 102 (6 * i + 4) = 1) ∧ (Y 102 (6 * i + 5) = 0 ∨ Y 102 (6 * i + 5) = 1)) ∧ (∀ c, isC c → ¬ Y 105 c = 0 → (0 ≤ Y 104 c ∧ Y 104 c < Y 101 2) ∧ Y 102 (6 * Y 104 c + 1) = c ∧ ∀ i, 0 ≤ i → i < Y 104 c → ¬ Y 102 (6 * i + 1) = c)
theorem LR.en {X Y : Mm} (x : LR X Y) : X 34 10 = Y 101 0 := x.1
theorem LR.ti {X Y : Mm} (x : LR X Y) : X 34 9 = Y 101 1 := x.2.1
theorem LR.lc {X Y : Mm} (x : LR X Y) : X 35 4 = Y 101 2 := x.2.2.1
theorem LR.cn {X Y : Mm} (x : LR X Y) : 0 ≤ Y 101 2 ∧ Y 101 2 ≤ 1000 := x.2.2.2.1
theorem LR.ls {X Y : Mm} (x : LR X Y) : X 34 11 = Y 101 3 := x.2.2.2.2.1
theorem LR.rg {X Y : Mm} (x : LR X Y) : X 34 12 = Y 101 4 := x.2.2.2.2.2.1
theorem LR.go {X Y : Mm} (x : LR X Y) : X 40 8 = Y 101 5 := x.2.2.2.2.2.2.1
theorem LR.fr {X Y : Mm} (x : LR X Y) : ∀ c, isC c → X 49 c = Y 103 c := x.2.2.2.2.2.2.2.1
theorem LR.ri {X Y : Mm} (x : LR X Y) : ∀ c, isC c → X 48 c = Y 105 c ∧ 0 ≤ Y 105 c := x.2.2.2.2.2.2.2.2.1
theorem LR.hi {X Y : Mm} (x : LR X Y) : ∀ c, isC c → X 47 c = Y 106 c := x.2.2.2.2.2.2.2.2.2.1
theorem LR.nu {X Y : Mm} (x : LR X Y) : ∀ c, isC c → (X 41 c = -1 ↔ Y 107 c = 0) ∧ (Y 107 c = 0 ∨ Y 107 c = 1) := x.2.2.2.2.2.2.2.2.2.2.1
theorem LR.ch {X Y : Mm} (x : LR X Y) : ∀ c, isC c → X 50 c = Y 108 c ∧ (Y 108 c = 0 ∨ Y 108 c = 1) := x.2.2.2.2.2.2.2.2.2.2.2.1
theorem LR.lg {X Y : Mm} (x : LR X Y) : ∀ i, 0 ≤ i → i < Y 101 2 → X 36 i = Y 102 (6 * i) ∧ X 37 i = 4 * Y 102 (6 * i + 1) + Y 102 (6 * i + 2) ∧ X 38 i = Y 102 (6 * i + 3) ∧ X 39 i = Y 102 (6 * i + 4) + 2 * Y 102 (6 * i + 5) + (if Y 105 (Y 102 (6 * i + 1)) = 0 then 0 else 4) := x.2.2.2.2.2.2.2.2.2.2.2.2.1
theorem LR.lb {X Y : Mm} (x : LR X Y) : ∀ i, 0 ≤ i → i < Y 101 2 → isC (Y 102 (6 * i + 1)) ∧ okS (Y 102 (6 * i + 2)) ∧ (-1 ≤ Y 102 (6 * i + 3) ∧ Y 102 (6 * i + 3) < i) ∧ (Y 102 (6 * i + 4) = 0 ∨ Y 102 (6 * i + 4) = 1) ∧ (Y 102 (6 * i + 5) = 0 ∨ Y 102 (6 * i + 5) = 1) := x.2.2.2.2.2.2.2.2.2.2.2.2.2.1
theorem LR.rs {X Y : Mm} (x : LR X Y) : ∀ c, isC c → ¬ Y 105 c = 0 → (0 ≤ Y 104 c ∧ Y 104 c < Y 101 2) ∧ Y 102 (6 * Y 104 c + 1) = c ∧ ∀ i, 0 ≤ i → i < Y 104 c → ¬ Y 102 (6 * i + 1) = c := x.2.2.2.2.2.2.2.2.2.2.2.2.2.2
def mEnb (Y : Mm) (t : Int) : Mm := fun a j => if a = 107 ∧ 0 ≤ j ∧ j < t then (if Y 95 j = -1 then 0 else 1) else if a = 108 ∧ 0 ≤ j ∧ j < t then Y 94 j else Y a j
section LATEST
variable {tl : Ds} {m X Y Z g h G t : Mm} {Q : Ds → Mm → List MV → Prop} {p q c k a b s o v i j d n : Int}
theorem enb_f {x u : Int} (h1 : ¬ x = 107) (h2 : ¬ x = 108) : mEnb Y u x j = Y x j := by
  unfold mEnb
  rw [if_neg (fun y => h1 y.1), if_neg (fun y => h2 y.1)]
theorem Sh_enb (S : Sh Y) {u : Int} : Sh (mEnb Y u) := fun q hq => by
  have h1 : ∀ q ∈ SL, ¬ q.1 = 107 ∧ ¬ q.1 = 108 := by decide
  rw [enb_f (h1 q hq).1 (h1 q hq).2]
  exact S q hq
theorem LR_of (R : RF X 34 Y) (e45 : Y 70 45 = 0) {e : Int} (ht : Y = mStop t e) (a : GI t) (T : GT t) (t45 : t 70 45 = 0) : LR X (mEnb (up Y 70 10 v) 96) := by
  have f : ∀ x j, ¬ x = 107 → ¬ x = 108 → ¬ x = 70 → mEnb (up Y 70 10 v) 96 x j = Y x j := fun x j h1 h2 h3 => by
    rw [enb_f h1 h2, up_at, if_neg (fun y => h3 y.1)]
  have ft : ∀ x j, ¬ x = 101 → ¬ x = 70 → Y x j = t x j := fun x j h1 h2 => by
    rw [ht]
    unfold mStop
    rw [up_at, if_neg (fun y => h2 y.1), up_at, if_neg (fun y => h1 y.1)]
  have f101 : ∀ j, ¬ j = 0 → Y 101 j = t 101 j := fun j h1 => by
    rw [ht]
    unfold mStop
    rw [up_at, if_neg (fun y => absurd y.1 (by decide)), up_at, if_neg (fun y => h1 (by rw [y.2, t45]; rfl))]
  have ec : cnt Y = Y 101 2 := by
    unfold cnt
    rw [e45]
    rfl
  have ect : cnt t = Y 101 2 := by
    unfold cnt
    rw [t45, f101 2 (by decide)]
    rfl
  have z96 : ∀ c : Int, 96 * 0 + c = c := fun c => by omega
  have z6 : ∀ c : Int, 6000 * 0 + c = c := fun c => by omega
  have C := R.C
  have lgt := a.a.lg
  have flt := T.fl
  have hrt := T.hr
  have k8t := T.k8
  have rst := T.rs
  have rgt := a.a.rg
  rw [ect] at lgt
  simp only [ect, t45, z96, z6] at lgt flt hrt k8t rst rgt
  have h107 : ∀ c, isC c → mEnb (up Y 70 10 v) 96 107 c = if Y 95 c = -1 then 0 else 1 := fun c hc => by
    have y : mEnb (up Y 70 10 v) 96 107 c = if up Y 70 10 v 95 c = -1 then 0 else 1 := if_pos ⟨rfl, hc.1, hc.2⟩
    have z : up Y 70 10 v 95 c = Y 95 c := rfl
    rw [y, z]
  have h108 : ∀ c, isC c → mEnb (up Y 70 10 v) 96 108 c = Y 94 c := fun c hc => by
    have y : mEnb (up Y 70 10 v) 96 108 c = up Y 70 10 v 94 c := by
      unfold mEnb
      rw [if_neg (fun y => absurd y.1 (by decide)), if_pos ⟨rfl, hc.1, hc.2⟩]
    have z : up Y 70 10 v 94 c = Y 94 c := rfl
    rw [y, z]
  have i1 : ∀ j : Int, mEnb (up Y 70 10 v) 96 101 j = Y 101 j := fun j => f 101 j (by decide) (by decide) (by decide)
  have i2 : ∀ j : Int, mEnb (up Y 70 10 v) 96 102 j = Y 102 j := fun j => f 102 j (by decide) (by decide) (by decide)
  have i3 : ∀ j : Int, mEnb (up Y 70 10 v) 96 103 j = Y 103 j := fun j => f 103 j (by decide) (by decide) (by decide)
  have i4 : ∀ j : Int, mEnb (up Y 70 10 v) 96 104 j = Y 104 j := fun j => f 104 j (by decide) (by decide) (by decide)
  have i5 : ∀ j : Int, mEnb (up Y 70 10 v) 96 105 j = Y 105 j := fun j => f 105 j (by decide) (by decide) (by decide)
  have i6 : ∀ j : Int, mEnb (up Y 70 10 v) 96 106 j = Y 106 j := fun j => f 106 j (by decide) (by decide) (by decide)
  have t2 : ∀ j : Int, Y 102 j = t 102 j := fun j => ft 102 j (by decide) (by decide)
  have t4 : ∀ j : Int, Y 104 j = t 104 j := fun j => ft 104 j (by decide) (by decide)
  have t5 : ∀ j : Int, Y 105 j = t 105 j := fun j => ft 105 j (by decide) (by decide)
  have t7 : ∀ j : Int, Y 72 j = t 72 j := fun j => ft 72 j (by decide) (by decide)
  have en := R.en
  have ti := R.ti
  have ls := R.ls
  have rg := R.rg
  have go := R.go
  have lc := R.lc
  rw [ec] at lc
  rw [e45] at en ti ls rg go
  refine ⟨?_, ?_, ?_, ?_, ?_, ?_, ?_, ?_, ?_, ?_, ?_, ?_, ?_, ?_, ?_⟩
  · rw [i1]; exact en
  · rw [i1]; exact ti
  · rw [i1]; exact lc
  · rw [i1, ← ect]; exact a.cn
  · rw [i1]; exact ls
  · rw [i1]; exact rg
  · rw [i1]; exact go
  · intro c hc
    have l := C.fr c hc
    rw [e45, z96] at l
    rw [i3]; exact l
  · intro c hc
    have l := C.ri c hc
    rw [e45, z96] at l
    rw [i5]
    exact ⟨l, by rw [t5]; exact (rgt c hc).1⟩
  · intro c hc
    have l := C.hi c hc
    rw [e45, z96] at l
    rw [i6]; exact l
  · intro c hc
    have l := R.nu c hc
    simp only [Int.reduceAdd] at l
    rw [h107 c hc, l]
    by_cases h : Y 95 c = -1
    · rw [if_pos h]
      exact ⟨⟨fun _ => rfl, fun _ => h⟩, Or.inl rfl⟩
    · rw [if_neg h]
      exact ⟨⟨fun y => absurd y h, fun y => absurd y (by decide)⟩, Or.inr rfl⟩
  · intro c hc
    have l := C.ch c hc
    rw [h108 c hc]
    refine ⟨l, ?_⟩
    rw [ft 94 c (by decide) (by decide)]
    exact T.dn c hc
  · intro i i0 i9
    rw [i1] at i9
    have l := R.L i i0 (by rw [ec]; exact i9) (by show i < 1000; have := a.cn; rw [ect] at this; omega)
    simp only [e45, z6] at l
    rw [i2, i2, i2, i2, i2, i2, i5]
    refine ⟨l.1, l.2.1, l.2.2.1, ?_⟩
    have l4 := l.2.2.2
    simp only [Int.reduceAdd] at l4
    rw [l4, t7, t5]
    have y1 := lgt i i0 i9
    by_cases h8 : t 72 (Y 102 (6 * i + 1)) = 8
    · rw [if_pos h8, if_neg ?_]
      have y2 := hrt i i0 i9
      rw [← t2] at y2
      exact y2 h8
    · rw [if_neg h8, if_pos ?_]
      refine Classical.byContradiction fun y => h8 ?_
      have y3 := y1.1
      rw [← t2] at y3
      exact k8t _ y3 y
  · intro i i0 i9
    rw [i1] at i9
    rw [i2, i2, i2, i2, i2, t2, t2, t2, t2, t2]
    have y1 := lgt i i0 i9
    have y2 := flt i i0 i9
    exact ⟨y1.1, y1.2.1, y1.2.2, y2.1, y2.2⟩
  · intro c hc
    rw [i5, i4, i1, i2, t5, t4, t2]
    simp only [i2, t2]
    exact rst c hc
theorem e82 (W : WG m) (P : PR m 9 m) (hr : 0 ≤ m 0 6 ∧ m 0 6 < 1000000) : ∃ X, Sh X ∧ (∀ x j, ¬ (27 ≤ x ∧ x ≤ 51) → ¬ (x = 0 ∧ j = 6) → X x j = m x j) ∧ X 0 6 = m 0 6 + 1 ∧ RF X 34 (mRuns m 0) ∧ ∀ (tl : Ds) (Q : Ds → Mm → List MV → Prop), WP 82 0 [(2, 0)] [] (dsB ++ tl) m Q = Q (dsB ++ tl) X [(0, X 34 9)] := by
  have S := W.S
  have w1 : w32 (m 0 6 + 1) = m 0 6 + 1 := w32_id (by omega) (by omega)
  have S0 : Sh (up m 0 6 (m 0 6 + 1)) := Sh.up S (by decide)
  have P0 : PR (up m 0 6 (m 0 6 + 1)) 9 m := PR_m P (fun x j h1 h2 => by rw [up_at, if_neg (by omega)])
  obtain ⟨X, S1, F1, R1, h1⟩ := c51_34 (m := up m 0 6 (m 0 6 + 1)) (g := m) (w := 0) (p := 9) (Or.inl rfl) (-1) (-1) S0 S P0 W.p W.v (by decide)
  refine ⟨X, S1, fun x j h2 h3 => by rw [F1 x j (by omega) (by omega), up_at, if_neg h3], ?_, R1 (by omega), fun tl Q => ?_⟩
  · rw [F1 0 6 (by decide) (by decide)]
    simp only [up_at, b2_T, b2_F, Int.reduceEq, Int.reduceLT, Int.reduceLE, Int.reduceAdd, Int.reduceSub, Int.reduceMul, Int.reduceNeg, reduceIte, if_true, if_false, true_or, or_true, false_or, or_false, false_and, and_false, eq_self, not_false_eq_true, not_true_eq_false, true_and, and_true, List.cons_append, List.nil_append, List.append_nil, b2_0, b2_1, b2_01, Classical.not_not]
  · have y1 := h1 tl
    generalize b2 (metP (mRuns m 0 103 (96 * 0 + -1)) (-1) (-1)) = zz at y1
    simp only [p82_0, p82_1, p82_2, p82_5, p82_6, p82_7, p82_10, p82_11, p82_14, p82_15, p82_18, p82_19, p82_20, p82_23, p82_24, p82_25, p82_28, p82_31, K_0, K_34, sh_0_0 S0, sh_0_4 S0, sh_0_4 S1, w1, y1, b2_T, b2_F, Int.reduceEq, Int.reduceLT, Int.reduceLE, Int.reduceAdd, Int.reduceSub, Int.reduceMul, Int.reduceNeg, reduceIte, if_true, if_false, true_or, or_true, false_or, or_false, false_and, and_false, eq_self, not_false_eq_true, not_true_eq_false, true_and, and_true, List.cons_append, List.nil_append, List.append_nil, b2_0, b2_1, b2_01, Classical.not_not]
end LATEST
