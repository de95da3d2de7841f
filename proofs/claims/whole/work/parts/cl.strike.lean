/-! the reference's run: works and strikes under one set of bounds -/
abbrev cnt (g : Mm) : Int := g 101 (6 * g 70 45 + 2)
abbrev PVc (g : Mm) (c : Int) : Prop := (0 ≤ g 72 c ∧ g 72 c ≤ 9) ∧ (g 72 c = 1 → 0 ≤ g 73 c ∧ g 73 c ≤ 1) ∧ (g 72 c = 2 ∨ g 72 c = 3 ∨ g 72 c = 4 ∨ g 72 c = 6 → 0 ≤ g 73 c ∧ g 73 c < 4) ∧ (g 72 c = 3 → isC (g 75 c) ∧ g 72 (g 75 c) = 3 ∧ g 75 (g 75 c) = c ∧ ¬ g 75 c = c) ∧ (g 72 c = 4 → 1 ≤ g 74 c ∧ g 74 c ≤ 60) ∧ (g 72 c = 6 → 1 ≤ g 74 c ∧ g 74 c ≤ 9) ∧ (g 72 c = 9 → (g 73 c = 3 ∨ g 73 c = 5 ∨ g 73 c = 6 ∨ g 73 c = 9 ∨ g 73 c = 10 ∨ g 73 c = 12)) ∧ (g 76 c = 0 ∨ g 76 c = 1) ∧ (g 76 c = 1 → g 72 c = 0 ∨ g 72 c = 9) ∧ (g 72 c = 3 → g 76 c = 0)
theorem PVc.k {g : Mm} {c : Int} (x : PVc g c) : 0 ≤ g 72 c ∧ g 72 c ≤ 9 := x.1
theorem PVc.a1 {g : Mm} {c : Int} (x : PVc g c) : g 72 c = 1 → 0 ≤ g 73 c ∧ g 73 c ≤ 1 := x.2.1
theorem PVc.a4 {g : Mm} {c : Int} (x : PVc g c) : g 72 c = 2 ∨ g 72 c = 3 ∨ g 72 c = 4 ∨ g 72 c = 6 → 0 ≤ g 73 c ∧ g 73 c < 4 := x.2.2.1
theorem PVc.ma {g : Mm} {c : Int} (x : PVc g c) : g 72 c = 3 → isC (g 75 c) ∧ g 72 (g 75 c) = 3 ∧ g 75 (g 75 c) = c ∧ ¬ g 75 c = c := x.2.2.2.1
theorem PVc.bt {g : Mm} {c : Int} (x : PVc g c) : g 72 c = 4 → 1 ≤ g 74 c ∧ g 74 c ≤ 60 := x.2.2.2.2.1
theorem PVc.bb {g : Mm} {c : Int} (x : PVc g c) : g 72 c = 6 → 1 ≤ g 74 c ∧ g 74 c ≤ 9 := x.2.2.2.2.2.1
theorem PVc.e {g : Mm} {c : Int} (x : PVc g c) : g 72 c = 9 → (g 73 c = 3 ∨ g 73 c = 5 ∨ g 73 c = 6 ∨ g 73 c = 9 ∨ g 73 c = 10 ∨ g 73 c = 12) := x.2.2.2.2.2.2.1
theorem PVc.l {g : Mm} {c : Int} (x : PVc g c) : g 76 c = 0 ∨ g 76 c = 1 := x.2.2.2.2.2.2.2.1
theorem PVc.o {g : Mm} {c : Int} (x : PVc g c) : g 76 c = 1 → g 72 c = 0 ∨ g 72 c = 9 := x.2.2.2.2.2.2.2.2.1
theorem PVc.z3 {g : Mm} {c : Int} (x : PVc g c) : g 72 c = 3 → g 76 c = 0 := x.2.2.2.2.2.2.2.2.2
def PV (g : Mm) : Prop := ∀ c, isC c → PVc g c
abbrev WI (g : Mm) (c b : Int) : Prop := (Sh g) ∧ (QI g b) ∧ (b < 1990) ∧ (PV g) ∧ (0 ≤ g 70 45 ∧ g 70 45 ≤ 2) ∧ (0 ≤ g 70 26 ∧ g 70 26 < 400) ∧ (∀ d, isC d → 0 ≤ g 93 d ∧ g 93 d < 2000) ∧ (0 ≤ g 105 (96 * g 70 45 + c) ∧ g 105 (96 * g 70 45 + c) < 2000) ∧ (0 ≤ g 101 (6 * g 70 45 + 4) ∧ g 101 (6 * g 70 45 + 4) < 2000)
theorem WI.S {g : Mm} {c b : Int} (x : WI g c b) : Sh g := x.1
theorem WI.q {g : Mm} {c b : Int} (x : WI g c b) : QI g b := x.2.1
theorem WI.hb {g : Mm} {c b : Int} (x : WI g c b) : b < 1990 := x.2.2.1
theorem WI.p {g : Mm} {c b : Int} (x : WI g c b) : PV g := x.2.2.2.1
theorem WI.bk {g : Mm} {c b : Int} (x : WI g c b) : 0 ≤ g 70 45 ∧ g 70 45 ≤ 2 := x.2.2.2.2.1
theorem WI.nw {g : Mm} {c b : Int} (x : WI g c b) : 0 ≤ g 70 26 ∧ g 70 26 < 400 := x.2.2.2.2.2.1
theorem WI.tm {g : Mm} {c b : Int} (x : WI g c b) : ∀ d, isC d → 0 ≤ g 93 d ∧ g 93 d < 2000 := x.2.2.2.2.2.2.1
theorem WI.rg {g : Mm} {c b : Int} (x : WI g c b) : 0 ≤ g 105 (96 * g 70 45 + c) ∧ g 105 (96 * g 70 45 + c) < 2000 := x.2.2.2.2.2.2.2.1
theorem WI.rc {g : Mm} {c b : Int} (x : WI g c b) : 0 ≤ g 101 (6 * g 70 45 + 4) ∧ g 101 (6 * g 70 45 + 4) < 2000 := x.2.2.2.2.2.2.2.2
section STRIKE
variable {tl : Ds} {m : Mm} {Q : Ds → Mm → List MV → Prop} {c s i b k u : Int}
theorem e160 (w : WI m c b) (hc : isC c) (hs : okS s) : WP 160 0 [(2, 70), (0, c), (0, s), (0, i), (3, 0), (3, 0), (3, 0)] [] (dsB ++ tl) m Q = Q (dsB ++ tl) (mWork m c s i) [] := by
  have hb := w.hb
  have p := w.p c hc
  have hk := p.k
  have ht := w.tm c hc
  have k0 : m 72 c = 0 ∨ m 72 c = 1 ∨ m 72 c = 2 ∨ m 72 c = 3 ∨ m 72 c = 4 ∨ m 72 c = 5 ∨ m 72 c = 6 ∨ m 72 c = 7 ∨ m 72 c = 8 ∨ m 72 c = 9 := by omega
  rcases k0 with h | h | h | h | h | h | h | h | h | h
  · exact e160_0 w.S hc (Or.inl h) ht
  · exact e160_1 w.S w.q (by omega) hc hs h w.nw ht
  · exact e160_2 w.S w.q (by omega) hc hs h (p.a4 (by omega)) w.nw ht
  · exact e160_3 w.S w.q (by omega) hc h (p.ma h).1 ((w.p _ (p.ma h).1).a4 (by have := (p.ma h).2.1; omega)) w.nw ht
  · exact e160_4 w.S w.q (by omega) hc h (p.a4 (by omega)) (by have := p.bt h; omega) w.nw ht
  · exact e160_5 w.S w.q w.hb hc h w.nw ht
  · exact e160_6 w.S w.q (by omega) hc h (p.a4 (by omega)) w.nw ht
  · exact e160_7 w.S hc h ht
  · exact e160_8 w.S hc h w.bk ht w.rg w.rc
  · exact e160_0 w.S hc (Or.inr h) ht
end STRIKE
