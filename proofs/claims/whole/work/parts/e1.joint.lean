/-! THE JOINT STATE of class and reference between two calls -/
def ZP (X : Mm) (p : Int) : Prop := ∀ c, isC c → X (p + 1) c = 0 → X (p + 2) c = 0 ∧ X (p + 3) c = 0
abbrev isH (s : Int) : Prop := 0 ≤ s ∧ s < 8
/-- the plan that the reference keeps on a shelf -/
def pG (Y : Mm) (s : Int) : Mm := fun a j => if 72 ≤ a ∧ a ≤ 75 then (if isC j then Y 84 (480 * s + 5 * j + (a - 72)) else 0) else if a = 76 then (if isC j then b2 (Y 84 (480 * s + 5 * j + 4) = 1) else 0) else if 77 ≤ a ∧ a ≤ 79 then (if 0 ≤ j ∧ j < 4 then Y 85 (13 * s + 1 + 4 * (a - 77) + j) else 0) else if a = 70 ∧ j = 6 then Y 85 (13 * s) else 0
abbrev SRow (ds : Ds) (X : Mm) (Y : Mm) (s : Int) : Prop := (X 2 s = -1) ∧ (114 ≤ X 1 s) ∧ (RA ds X (X 1 s) (Y 81 s)) ∧ (X (X 1 s) 1 = X 1 s + 1) ∧ (Y 80 s = 100 + X (X 1 s) 0) ∧ (0 ≤ X (X 1 s) 0 ∧ X (X 1 s) 0 ≤ 3) ∧ (0 ≤ Y 81 s ∧ Y 81 s ≤ 100) ∧ (∀ i, 0 ≤ i → i < Y 81 s → X (X 1 s + 1) i = Y 82 (100 * s + i))
theorem SRow.n {ds : Ds} {X : Mm} {Y : Mm} {s : Int} (x : SRow ds X Y s) : X 2 s = -1 := x.1
theorem SRow.l {ds : Ds} {X : Mm} {Y : Mm} {s : Int} (x : SRow ds X Y s) : 114 ≤ X 1 s := x.2.1
theorem SRow.r {ds : Ds} {X : Mm} {Y : Mm} {s : Int} (x : SRow ds X Y s) : RA ds X (X 1 s) (Y 81 s) := x.2.2.1
theorem SRow.a {ds : Ds} {X : Mm} {Y : Mm} {s : Int} (x : SRow ds X Y s) : X (X 1 s) 1 = X 1 s + 1 := x.2.2.2.1
theorem SRow.k {ds : Ds} {X : Mm} {Y : Mm} {s : Int} (x : SRow ds X Y s) : Y 80 s = 100 + X (X 1 s) 0 := x.2.2.2.2.1
theorem SRow.o {ds : Ds} {X : Mm} {Y : Mm} {s : Int} (x : SRow ds X Y s) : 0 ≤ X (X 1 s) 0 ∧ X (X 1 s) 0 ≤ 3 := x.2.2.2.2.2.1
theorem SRow.z {ds : Ds} {X : Mm} {Y : Mm} {s : Int} (x : SRow ds X Y s) : 0 ≤ Y 81 s ∧ Y 81 s ≤ 100 := x.2.2.2.2.2.2.1
theorem SRow.e {ds : Ds} {X : Mm} {Y : Mm} {s : Int} (x : SRow ds X Y s) : ∀ i, 0 ≤ i → i < Y 81 s → X (X 1 s + 1) i = Y 82 (100 * s + i) := x.2.2.2.2.2.2.2
abbrev SPla (ds : Ds) (X : Mm) (Y : Mm) (s : Int) : Prop := (X 1 s = -1) ∧ (114 ≤ X 2 s) ∧ (PA ds X (X 2 s)) ∧ (Y 80 s = 0) ∧ (PR X (X 2 s) (pG Y s)) ∧ (PV (pG Y s)) ∧ (SV (pG Y s)) ∧ (PN (pG Y s)) ∧ (ZP X (X 2 s))
theorem SPla.n {ds : Ds} {X : Mm} {Y : Mm} {s : Int} (x : SPla ds X Y s) : X 1 s = -1 := x.1
theorem SPla.l {ds : Ds} {X : Mm} {Y : Mm} {s : Int} (x : SPla ds X Y s) : 114 ≤ X 2 s := x.2.1
theorem SPla.A {ds : Ds} {X : Mm} {Y : Mm} {s : Int} (x : SPla ds X Y s) : PA ds X (X 2 s) := x.2.2.1
theorem SPla.k {ds : Ds} {X : Mm} {Y : Mm} {s : Int} (x : SPla ds X Y s) : Y 80 s = 0 := x.2.2.2.1
theorem SPla.P {ds : Ds} {X : Mm} {Y : Mm} {s : Int} (x : SPla ds X Y s) : PR X (X 2 s) (pG Y s) := x.2.2.2.2.1
theorem SPla.pv {ds : Ds} {X : Mm} {Y : Mm} {s : Int} (x : SPla ds X Y s) : PV (pG Y s) := x.2.2.2.2.2.1
theorem SPla.sv {ds : Ds} {X : Mm} {Y : Mm} {s : Int} (x : SPla ds X Y s) : SV (pG Y s) := x.2.2.2.2.2.2.1
theorem SPla.pn {ds : Ds} {X : Mm} {Y : Mm} {s : Int} (x : SPla ds X Y s) : PN (pG Y s) := x.2.2.2.2.2.2.2.1
theorem SPla.z {ds : Ds} {X : Mm} {Y : Mm} {s : Int} (x : SPla ds X Y s) : ZP X (X 2 s) := x.2.2.2.2.2.2.2.2
def SNon (X Y : Mm) (s : Int) : Prop := X 1 s = -1 ∧ X 2 s = -1 ∧ Y 80 s = -1
def SK (ds : Ds) (X Y : Mm) (s : Int) : Prop := SNon X Y s ∨ SRow ds X Y s ∨ SPla ds X Y s
/-- the cells of a shelf -/
def own (X : Mm) (s a : Int) : Prop := (¬ X 1 s = -1 ∧ X 1 s ≤ a ∧ a ≤ X 1 s + 1) ∨ (¬ X 2 s = -1 ∧ X 2 s ≤ a ∧ a ≤ X 2 s + 8)
abbrev SHV (ds : Ds) (X : Mm) (Y : Mm) : Prop := (∀ s, isH s → SK ds X Y s) ∧ (∀ s a, isH s → own X s a → 114 ≤ a ∧ a < (ds.length : Int)) ∧ (∀ s t a, isH s → isH t → own X s a → own X t a → s = t)
theorem SHV.k {ds : Ds} {X : Mm} {Y : Mm} (x : SHV ds X Y) : ∀ s, isH s → SK ds X Y s := x.1
theorem SHV.b {ds : Ds} {X : Mm} {Y : Mm} (x : SHV ds X Y) : ∀ s a, isH s → own X s a → 114 ≤ a ∧ a < (ds.length : Int) := x.2.1
theorem SHV.d {ds : Ds} {X : Mm} {Y : Mm} (x : SHV ds X Y) : ∀ s t a, isH s → isH t → own X s a → own X t a → s = t := x.2.2
def LSX (X : Mm) (A n : Int) (Y : Mm) (B k b : Int) : Prop := n = k ∧ (0 ≤ n ∧ n ≤ b) ∧ ∀ i, 0 ≤ i → i < n → X A i = Y B i
abbrev JS (ds : Ds) (X : Mm) (Y : Mm) (n : Int) : Prop := (WG Y) ∧ (Sh X) ∧ (PR X 9 Y) ∧ (ZP X 9) ∧ (X 0 6 = Y 70 10 ∧ 0 ≤ X 0 6 ∧ X 0 6 ≤ n) ∧ (∀ k, 0 ≤ k → k < 8 → X 3 k = Y 71 k) ∧ (LT0 X Y) ∧ (LSX X 4 (X 0 9) Y 110 (Y 70 47) 384) ∧ (LSX X 5 (X 0 11) Y 111 (Y 70 49) 62) ∧ (LSX X 6 (X 0 13) Y 112 (Y 70 51) 2) ∧ (SHV ds X Y) ∧ (∃ tl, ds = dsB ++ tl) ∧ ((ds.length : Int) ≤ 114 + 9 * n) ∧ ((sl ds : Int) ≤ (sl dsB : Int) + 501 * n)
theorem JS.W {ds : Ds} {X : Mm} {Y : Mm} {n : Int} (x : JS ds X Y n) : WG Y := x.1
theorem JS.S {ds : Ds} {X : Mm} {Y : Mm} {n : Int} (x : JS ds X Y n) : Sh X := x.2.1
theorem JS.P {ds : Ds} {X : Mm} {Y : Mm} {n : Int} (x : JS ds X Y n) : PR X 9 Y := x.2.2.1
theorem JS.Z {ds : Ds} {X : Mm} {Y : Mm} {n : Int} (x : JS ds X Y n) : ZP X 9 := x.2.2.2.1
theorem JS.Rn {ds : Ds} {X : Mm} {Y : Mm} {n : Int} (x : JS ds X Y n) : X 0 6 = Y 70 10 ∧ 0 ≤ X 0 6 ∧ X 0 6 ≤ n := x.2.2.2.2.1
theorem JS.Rf {ds : Ds} {X : Mm} {Y : Mm} {n : Int} (x : JS ds X Y n) : ∀ k, 0 ≤ k → k < 8 → X 3 k = Y 71 k := x.2.2.2.2.2.1
theorem JS.Lt {ds : Ds} {X : Mm} {Y : Mm} {n : Int} (x : JS ds X Y n) : LT0 X Y := x.2.2.2.2.2.2.1
theorem JS.Wk {ds : Ds} {X : Mm} {Y : Mm} {n : Int} (x : JS ds X Y n) : LSX X 4 (X 0 9) Y 110 (Y 70 47) 384 := x.2.2.2.2.2.2.2.1
theorem JS.Ft {ds : Ds} {X : Mm} {Y : Mm} {n : Int} (x : JS ds X Y n) : LSX X 5 (X 0 11) Y 111 (Y 70 49) 62 := x.2.2.2.2.2.2.2.2.1
theorem JS.Fw {ds : Ds} {X : Mm} {Y : Mm} {n : Int} (x : JS ds X Y n) : LSX X 6 (X 0 13) Y 112 (Y 70 51) 2 := x.2.2.2.2.2.2.2.2.2.1
theorem JS.Hv {ds : Ds} {X : Mm} {Y : Mm} {n : Int} (x : JS ds X Y n) : SHV ds X Y := x.2.2.2.2.2.2.2.2.2.2.1
theorem JS.Dt {ds : Ds} {X : Mm} {Y : Mm} {n : Int} (x : JS ds X Y n) : ∃ tl, ds = dsB ++ tl := x.2.2.2.2.2.2.2.2.2.2.2.1
theorem JS.Ln {ds : Ds} {X : Mm} {Y : Mm} {n : Int} (x : JS ds X Y n) : (ds.length : Int) ≤ 114 + 9 * n := x.2.2.2.2.2.2.2.2.2.2.2.2.1
theorem JS.Sl {ds : Ds} {X : Mm} {Y : Mm} {n : Int} (x : JS ds X Y n) : (sl ds : Int) ≤ (sl dsB : Int) + 501 * n := x.2.2.2.2.2.2.2.2.2.2.2.2.2
/-- the answer's sort: a long of element alone -/
def tgM (M : Nat) : Nat := if M = 77 then 1 else 0
section JOINT
variable {ds ds' : Ds} {m X Y Z X' Y' g h : Mm} {p q k a b s o v i j d n n' w A B f f' : Int}
theorem ZP_cg (z : ZP X p) (f : ∀ x j, p + 1 ≤ x → x ≤ p + 3 → X' x j = X x j) : ZP X' p := fun c hc hk => by
  rw [f _ _ (by omega) (by omega)] at hk
  rw [f _ _ (by omega) (by omega), f _ _ (by omega) (by omega)]
  exact z c hc hk
theorem LSX_cg (l : LSX X A n Y B k b) (f : ∀ i, X' A i = X A i) (g : ∀ i, Y' B i = Y B i) (hn : n' = n) (hk : f' = k) : LSX X' A n' Y' B f' b := by
  rw [hn, hk]
  refine ⟨l.1, l.2.1, fun i i0 i1 => ?_⟩
  rw [f, g]
  exact l.2.2 i i0 i1
theorem LR_cg (L : LR X Y) (f : ∀ x j, 34 ≤ x → x ≤ 51 → X' x j = X x j) (g1 : ∀ j, j < 6 → Y' 101 j = Y 101 j) (g2 : ∀ j, j < 6000 → Y' 102 j = Y 102 j) (g3 : ∀ x j, 103 ≤ x → x ≤ 106 → j < 96 → Y' x j = Y x j) (g7 : ∀ j, Y' 107 j = Y 107 j ∧ Y' 108 j = Y 108 j) : LR X' Y' := by
  have c2 : Y' 101 2 = Y 101 2 := g1 2 (by decide)
  have cn := L.cn
  refine ⟨?_, ?_, ?_, ?_, ?_, ?_, ?_, ?_, ?_, ?_, ?_, ?_, ?_, ?_, ?_⟩
  · rw [f _ _ (by decide) (by decide), g1 _ (by decide)]; exact L.en
  · rw [f _ _ (by decide) (by decide), g1 _ (by decide)]; exact L.ti
  · rw [f _ _ (by decide) (by decide), c2]; exact L.lc
  · rw [c2]; exact L.cn
  · rw [f _ _ (by decide) (by decide), g1 _ (by decide)]; exact L.ls
  · rw [f _ _ (by decide) (by decide), g1 _ (by decide)]; exact L.rg
  · rw [f _ _ (by decide) (by decide), g1 _ (by decide)]; exact L.go
  · intro c hc
    rw [f _ _ (by decide) (by decide), g3 _ _ (by decide) (by decide) hc.2]; exact L.fr c hc
  · intro c hc
    rw [f _ _ (by decide) (by decide), g3 _ _ (by decide) (by decide) hc.2]; exact L.ri c hc
  · intro c hc
    rw [f _ _ (by decide) (by decide), g3 _ _ (by decide) (by decide) hc.2]; exact L.hi c hc
  · intro c hc
    rw [f _ _ (by decide) (by decide), (g7 c).1]; exact L.nu c hc
  · intro c hc
    rw [f _ _ (by decide) (by decide), (g7 c).2]; exact L.ch c hc
  · intro i i0 i1
    rw [c2] at i1
    have lb := (L.lb i i0 i1).1
    rw [f _ _ (by decide) (by decide), f _ _ (by decide) (by decide), f _ _ (by decide) (by decide), f _ _ (by decide) (by decide), g2 (6 * i) (by omega), g2 (6 * i + 1) (by omega), g2 (6 * i + 2) (by omega), g2 (6 * i + 3) (by omega), g2 (6 * i + 4) (by omega), g2 (6 * i + 5) (by omega), g3 _ _ (by decide) (by decide) lb.2]
    exact L.lg i i0 i1
  · intro i i0 i1
    rw [c2] at i1
    rw [g2 (6 * i + 1) (by omega), g2 (6 * i + 2) (by omega), g2 (6 * i + 3) (by omega), g2 (6 * i + 4) (by omega), g2 (6 * i + 5) (by omega)]
    exact L.lb i i0 i1
  · intro c hc h5
    rw [g3 _ _ (by decide) (by decide) hc.2] at h5
    have l := L.rs c hc h5
    rw [g3 104 _ (by decide) (by decide) hc.2, c2, g2 (6 * Y 104 c + 1) (by omega)]
    refine ⟨l.1, l.2.1, fun i i0 i1 => ?_⟩
    rw [g2 (6 * i + 1) (by omega)]
    exact l.2.2 i i0 i1
theorem LT0_cg (L : LT0 X Y) (f : ∀ x j, 34 ≤ x → x ≤ 51 → X' x j = X x j) (f6 : X' 0 6 = X 0 6) (g1 : ∀ j, j < 6 → Y' 101 j = Y 101 j) (g2 : ∀ j, j < 6000 → Y' 102 j = Y 102 j) (g3 : ∀ x j, 103 ≤ x → x ≤ 106 → j < 96 → Y' x j = Y x j) (g7 : ∀ j, Y' 107 j = Y 107 j ∧ Y' 108 j = Y 108 j) : LT0 X' Y' := by
  rcases L with h | ⟨h, L⟩
  · left
    rw [f6, f _ _ (by decide) (by decide)]
    exact h
  · right
    rw [f6]
    exact ⟨h, LR_cg L f g1 g2 g3 g7⟩
theorem pG_cg (f : ∀ i, 480 * s ≤ i → i < 480 * s + 480 → Y' 84 i = Y 84 i) (g : ∀ i, 13 * s ≤ i → i < 13 * s + 13 → Y' 85 i = Y 85 i) : pG Y' s = pG Y s := by
  funext a j
  unfold pG
  by_cases h1 : 72 ≤ a ∧ a ≤ 75
  · rw [if_pos h1, if_pos h1]
    by_cases h2 : isC j
    · rw [if_pos h2, if_pos h2, f _ (by omega) (by omega)]
    · rw [if_neg h2, if_neg h2]
  · rw [if_neg h1, if_neg h1]
    by_cases h3 : a = 76
    · rw [if_pos h3, if_pos h3]
      by_cases h2 : isC j
      · rw [if_pos h2, if_pos h2, f _ (by omega) (by omega)]
      · rw [if_neg h2, if_neg h2]
    · rw [if_neg h3, if_neg h3]
      by_cases h4 : 77 ≤ a ∧ a ≤ 79
      · rw [if_pos h4, if_pos h4]
        by_cases h2 : 0 ≤ j ∧ j < 4
        · rw [if_pos h2, if_pos h2, g _ (by omega) (by omega)]
        · rw [if_neg h2, if_neg h2]
      · rw [if_neg h4, if_neg h4]
        by_cases h5 : a = 70 ∧ j = 6
        · rw [if_pos h5, if_pos h5, g _ (by omega) (by omega)]
        · rw [if_neg h5, if_neg h5]
theorem PA_dd (h : PA ds X p) (e : ∀ a j, p ≤ a → a ≤ p + 8 → X' a j = X a j) (dd : ∀ a, p ≤ a → a ≤ p + 8 → dk ds' a = dk ds a ∧ dl ds' a = dl ds a) : PA ds' X' p := by
  obtain ⟨g0, ⟨g1, g2, g3, g4, g5, g6, g7, g8⟩, ⟨k1, k2, k3, k4, k5, k6, k7, k8⟩, ⟨n1, n2, n3, n4, n5, n6, n7, n8⟩⟩ := h
  have d0 := dd p (by omega) (by omega)
  have d1 := dd (p + 1) (by omega) (by omega)
  have d2 := dd (p + 2) (by omega) (by omega)
  have d3 := dd (p + 3) (by omega) (by omega)
  have d4 := dd (p + 4) (by omega) (by omega)
  have d5 := dd (p + 5) (by omega) (by omega)
  have d6 := dd (p + 6) (by omega) (by omega)
  have d7 := dd (p + 7) (by omega) (by omega)
  have d8 := dd (p + 8) (by omega) (by omega)
  have e0 := fun j => e p j (by omega) (by omega)
  refine ⟨d0.1.trans g0, ⟨(e0 _).trans g1, (e0 _).trans g2, (e0 _).trans g3, (e0 _).trans g4, (e0 _).trans g5, (e0 _).trans g6, (e0 _).trans g7, (e0 _).trans g8⟩, ⟨d1.1.trans k1, d2.1.trans k2, d3.1.trans k3, d4.1.trans k4, d5.1.trans k5, d6.1.trans k6, d7.1.trans k7, d8.1.trans k8⟩, ?_⟩
  rw [d1.2, d2.2, d3.2, d4.2, d5.2, d6.2, d7.2, d8.2]
  exact ⟨n1, n2, n3, n4, n5, n6, n7, n8⟩
theorem SK_cg (h : SK ds X Y s) (x1 : X' 1 s = X 1 s) (x2 : X' 2 s = X 2 s) (xo : ∀ a j, own X s a → X' a j = X a j) (y0 : Y' 80 s = Y 80 s) (y1 : Y' 81 s = Y 81 s) (y2 : ∀ i, 0 ≤ i → i < 100 → Y' 82 (100 * s + i) = Y 82 (100 * s + i)) (y4 : ∀ i, 480 * s ≤ i → i < 480 * s + 480 → Y' 84 i = Y 84 i) (y5 : ∀ i, 13 * s ≤ i → i < 13 * s + 13 → Y' 85 i = Y 85 i) (dd : ∀ a, own X s a → dk ds' a = dk ds a ∧ dl ds' a = dl ds a) : SK ds' X' Y' s := by
  rcases h with h | h | h
  · left
    unfold SNon at h ⊢
    rw [x1, x2, y0]
    exact h
  · right; left
    have l := h.l
    have o0 : own X s (X 1 s) := Or.inl ⟨by omega, by omega, by omega⟩
    have o1 : own X s (X 1 s + 1) := Or.inl ⟨by omega, by omega, by omega⟩
    have e0 := fun j => xo _ j o0
    have e1 := fun j => xo _ j o1
    have a0 := dd _ o0
    have a1 := dd _ o1
    have r := h.r
    have z := h.z
    refine ⟨by rw [x2]; exact h.n, by rw [x1]; exact l, ?_, ?_, ?_, ?_, by rw [y1]; exact z, ?_⟩
    · rw [x1, y1]
      unfold RA at r ⊢
      rw [e0, a0.1]
      rw [h.a] at r ⊢
      rw [a1.1, a1.2]
      exact r
    · rw [x1, e0]; exact h.a
    · rw [x1, e0, y0]; exact h.k
    · rw [x1, e0]; exact h.o
    · intro i i0 i1
      rw [y1] at i1
      rw [x1, e1, y2 i i0 (by omega)]
      exact h.e i i0 i1
  · right; right
    have l := h.l
    have on : ∀ a, X 2 s ≤ a → a ≤ X 2 s + 8 → own X s a := fun a a0 a1 => Or.inr ⟨by omega, a0, a1⟩
    have pg := pG_cg y4 y5
    refine ⟨by rw [x1]; exact h.n, by rw [x2]; exact l, ?_, by rw [y0]; exact h.k, ?_, by rw [pg]; exact h.pv, by rw [pg]; exact h.sv, by rw [pg]; exact h.pn, ?_⟩
    · rw [x2]
      exact PA_dd h.A (fun a j a0 a1 => xo a j (on a a0 a1)) (fun a a0 a1 => dd a (on a a0 a1))
    · rw [x2, pg]
      exact PR_m h.P (fun x j a0 a1 => xo x j (on x a0 a1))
    · rw [x2]
      exact ZP_cg h.z (fun x j a0 a1 => xo x j (on x (by omega) (by omega)))
theorem own_cg (x1 : X' 1 s = X 1 s) (x2 : X' 2 s = X 2 s) : own X' s a ↔ own X s a := by
  unfold own
  rw [x1, x2]
theorem SHV_fr (H : SHV ds X Y) (f : ∀ x j, x = 1 ∨ x = 2 ∨ 114 ≤ x → X' x j = X x j) (g : ∀ x j, 80 ≤ x → x ≤ 85 → Y' x j = Y x j) : SHV ds X' Y' := by
  have oc : ∀ s a, own X' s a ↔ own X s a := fun s a => own_cg (f _ _ (Or.inl rfl)) (f _ _ (Or.inr (Or.inl rfl)))
  refine ⟨fun s hs => ?_, fun s a hs h => H.b s a hs ((oc s a).1 h), fun s t a hs ht h1 h2 => H.d s t a hs ht ((oc s a).1 h1) ((oc t a).1 h2)⟩
  exact SK_cg (H.k s hs) (f _ _ (Or.inl rfl)) (f _ _ (Or.inr (Or.inl rfl))) (fun a j h => f a j (Or.inr (Or.inr (H.b s a hs h).1))) (g _ _ (by decide) (by decide)) (g _ _ (by decide) (by decide)) (fun i _ _ => g _ _ (by decide) (by decide)) (fun i _ _ => g _ _ (by decide) (by decide)) (fun i _ _ => g _ _ (by decide) (by decide)) (fun a _ => ⟨rfl, rfl⟩)
theorem WG_rf (W : WG Y) (S : Sh Y') (g : ∀ x j, 70 ≤ x → x ≤ 113 → Y' x j = Y x j) : WG Y' := ⟨S, PV_cg W.p (fun j => g 72 j (by decide) (by decide)) (fun j => g 73 j (by decide) (by decide)) (fun j => g 74 j (by decide) (by decide)) (fun j => g 75 j (by decide) (by decide)) (fun j => g 76 j (by decide) (by decide)), SV_cg W.v (fun x j h1 h2 => g x j (by omega) (by omega)) (g 70 6 (by decide) (by decide)), PN_cg W.n (fun x j h1 h2 => g x j (by omega) (by omega))⟩
theorem PR_rf (P : PR X p Y) (g : ∀ x j, 70 ≤ x → x ≤ 113 → Y' x j = Y x j) : PR X p Y' := PR_pe P (PE_cg (fun x j h1 h2 => g x j (by omega) (by omega)) (g 70 6 (by decide) (by decide)))
/-- the reference's part may stand in another memory -/
theorem JS_Y (J : JS ds X Y n) (S : Sh Y') (g : ∀ x j, 70 ≤ x → x ≤ 113 → Y' x j = Y x j) : JS ds X Y' n := by
  refine ⟨WG_rf J.W S g, J.S, PR_rf J.P g, J.Z, ?_, ?_, ?_, ?_, ?_, ?_, ?_, J.Dt, J.Ln, J.Sl⟩
  · rw [g 70 10 (by decide) (by decide)]; exact J.Rn
  · intro k k0 k1
    rw [g 71 k (by decide) (by decide)]; exact J.Rf k k0 k1
  · exact LT0_cg J.Lt (fun _ _ _ _ => rfl) rfl (fun j _ => g _ _ (by decide) (by decide)) (fun j _ => g _ _ (by decide) (by decide)) (fun x j h1 h2 _ => g _ _ (by omega) (by omega)) (fun j => ⟨g _ _ (by decide) (by decide), g _ _ (by decide) (by decide)⟩)
  · exact LSX_cg J.Wk (fun _ => rfl) (fun i => g _ _ (by decide) (by decide)) rfl (g _ _ (by decide) (by decide))
  · exact LSX_cg J.Ft (fun _ => rfl) (fun i => g _ _ (by decide) (by decide)) rfl (g _ _ (by decide) (by decide))
  · exact LSX_cg J.Fw (fun _ => rfl) (fun i => g _ _ (by decide) (by decide)) rfl (g _ _ (by decide) (by decide))
  · exact SHV_fr J.Hv (fun _ _ _ => rfl) (fun x j h1 h2 => g x j (by omega) (by omega))
/-- the class's part may stand in another memory -/
theorem JS_X (J : JS ds X Y n) (S : Sh X') (f : ∀ x j, ¬ (70 ≤ x ∧ x ≤ 113) → X' x j = X x j) : JS ds X' Y n := by
  refine ⟨J.W, S, PR_m J.P (fun x j h1 h2 => f x j (by omega)), ZP_cg J.Z (fun x j h1 h2 => f x j (by omega)), ?_, ?_, ?_, ?_, ?_, ?_, ?_, J.Dt, J.Ln, J.Sl⟩
  · rw [f 0 6 (by decide)]; exact J.Rn
  · intro k k0 k1
    rw [f 3 k (by decide)]; exact J.Rf k k0 k1
  · exact LT0_cg J.Lt (fun x j h1 h2 => f x j (by omega)) (f 0 6 (by decide)) (fun _ _ => rfl) (fun _ _ => rfl) (fun _ _ _ _ _ => rfl) (fun _ => ⟨rfl, rfl⟩)
  · exact LSX_cg J.Wk (fun i => f _ _ (by decide)) (fun _ => rfl) (f _ _ (by decide)) rfl
  · exact LSX_cg J.Ft (fun i => f _ _ (by decide)) (fun _ => rfl) (f _ _ (by decide)) rfl
  · exact LSX_cg J.Fw (fun i => f _ _ (by decide)) (fun _ => rfl) (f _ _ (by decide)) rfl
  · exact SHV_fr J.Hv (fun x j h => f x j (by omega)) (fun _ _ _ _ => rfl)
theorem JS_n (J : JS ds X Y n) (h : n ≤ n') : JS ds X Y n' := ⟨J.W, J.S, J.P, J.Z, by have := J.Rn; omega, J.Rf, J.Lt, J.Wk, J.Ft, J.Fw, J.Hv, J.Dt, by have := J.Ln; omega, by have := J.Sl; omega⟩
/-- one call, on both sides, answers alike and keeps the joint state -/
def CALL (M M' : Nat) (as as' : List MV) (ds : Ds) (m : Mm) (n : Int) : Prop := ∃ ds' X Z v, (∀ Q, WP M 0 as [] ds m Q = Q ds' X [v]) ∧ (∀ Q, WP M' 0 as' [] ds' X Q = Q ds' Z [v]) ∧ JS ds' Z Z (n + 1) ∧ (∀ x j, x < 0 → Z x j = m x j) ∧ (∀ x j, x < 0 → X x j = m x j) ∧ v.1 = tgM M
theorem CALL_of {M M' : Nat} {as as' : List MV} {v : MV} (J : JS ds m m n) (hA : ∀ Q, WP M 0 as [] ds m Q = Q ds' X [v]) (fA : ∀ x j, x < 0 ∨ (70 ≤ x ∧ x ≤ 113) → X x j = m x j) (SX : Sh X) (K : JS ds m X n → JS ds' X Z (n + 1)) (hB : ∀ Q, WP M' 0 as' [] ds' X Q = Q ds' Z [v]) (fB : ∀ x j, ¬ (70 ≤ x ∧ x ≤ 113) → Z x j = X x j) (ht : v.1 = tgM M := by rfl) : CALL M M' as as' ds m n := by
  have J1 := K (JS_Y J SX (fun x j h1 h2 => fA x j (Or.inr ⟨h1, h2⟩)))
  refine ⟨ds', X, Z, v, hA, hB, JS_X J1 J1.W.S fB, fun x j h => ?_, fun x j h => fA x j (Or.inl h), ht⟩
  rw [fB x j (by omega), fA x j (Or.inl h)]
/-- a call that only reads -/
theorem CALL_rd {M M' : Nat} {as as' : List MV} {v : MV} (J : JS ds m m n) (hA : ∀ Q, WP M 0 as [] ds m Q = Q ds m [v]) (hB : ∀ Q, WP M' 0 as' [] ds m Q = Q ds m [v]) (ht : v.1 = tgM M := by rfl) : CALL M M' as as' ds m n := ⟨ds, m, m, v, hA, hB, JS_n J (by omega), fun _ _ _ => rfl, fun _ _ _ => rfl, ht⟩
end JOINT
