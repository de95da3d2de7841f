/-! a run of the class against a run of the reference (g) -/
abbrev PR (m : Mm) (p : Int) (g : Mm) : Prop := (∀ c, isC c → m (p + 1) c = g 72 c) ∧ (∀ c, isC c → ¬ g 72 c = 0 → m (p + 2) c = g 73 c ∧ m (p + 3) c = g 74 c) ∧ (∀ c, isC c → g 72 c = 3 → m (p + 4) c = g 75 c) ∧ (∀ c, isC c → m (p + 5) c = g 76 c) ∧ (m p 8 = g 70 6) ∧ (∀ i, 0 ≤ i → i < g 70 6 → m (p + 6) i = g 77 i ∧ m (p + 7) i = g 78 i ∧ m (p + 8) i = g 79 i)
theorem PR.k {m : Mm} {p : Int} {g : Mm} (x : PR m p g) : ∀ c, isC c → m (p + 1) c = g 72 c := x.1
theorem PR.a {m : Mm} {p : Int} {g : Mm} (x : PR m p g) : ∀ c, isC c → ¬ g 72 c = 0 → m (p + 2) c = g 73 c ∧ m (p + 3) c = g 74 c := x.2.1
theorem PR.o {m : Mm} {p : Int} {g : Mm} (x : PR m p g) : ∀ c, isC c → g 72 c = 3 → m (p + 4) c = g 75 c := x.2.2.1
theorem PR.b {m : Mm} {p : Int} {g : Mm} (x : PR m p g) : ∀ c, isC c → m (p + 5) c = g 76 c := x.2.2.2.1
theorem PR.s {m : Mm} {p : Int} {g : Mm} (x : PR m p g) : m p 8 = g 70 6 := x.2.2.2.2.1
theorem PR.t {m : Mm} {p : Int} {g : Mm} (x : PR m p g) : ∀ i, 0 ≤ i → i < g 70 6 → m (p + 6) i = g 77 i ∧ m (p + 7) i = g 78 i ∧ m (p + 8) i = g 79 i := x.2.2.2.2.2
abbrev RC (m : Mm) (r : Int) (g : Mm) : Prop := (∀ c, isC c → m (r + 13) c = g 106 (96 * g 70 45 + c)) ∧ (∀ c, isC c → m (r + 14) c = g 105 (96 * g 70 45 + c)) ∧ (∀ c, isC c → m (r + 15) c = g 103 (96 * g 70 45 + c)) ∧ (∀ c, isC c → m (r + 16) c = g 94 c) ∧ (∀ c, isC c → m (r + 17) c = g 109 (96 * g 70 45 + c))
theorem RC.hi {m : Mm} {r : Int} {g : Mm} (x : RC m r g) : ∀ c, isC c → m (r + 13) c = g 106 (96 * g 70 45 + c) := x.1
theorem RC.ri {m : Mm} {r : Int} {g : Mm} (x : RC m r g) : ∀ c, isC c → m (r + 14) c = g 105 (96 * g 70 45 + c) := x.2.1
theorem RC.fr {m : Mm} {r : Int} {g : Mm} (x : RC m r g) : ∀ c, isC c → m (r + 15) c = g 103 (96 * g 70 45 + c) := x.2.2.1
theorem RC.ch {m : Mm} {r : Int} {g : Mm} (x : RC m r g) : ∀ c, isC c → m (r + 16) c = g 94 c := x.2.2.2.1
theorem RC.lo {m : Mm} {r : Int} {g : Mm} (x : RC m r g) : ∀ c, isC c → m (r + 17) c = g 109 (96 * g 70 45 + c) := x.2.2.2.2
abbrev RB (m : Mm) (r : Int) (g : Mm) : Prop := (∀ c, isC c → m (r + 7) c = g 95 c) ∧ (m (r + 6) 6 = g 70 30) ∧ (m (r + 6) 7 = rlc g) ∧ (m (r + 6) 8 = g 101 (6 * g 70 45 + 5)) ∧ (∀ n, 0 ≤ n → n < g 70 30 → m (r + 8) n = g 96 n ∧ m (r + 9) n = g 97 n ∧ (g 97 n = -1 ∨ (m (r + 10) n = g 98 n ∧ m (r + 11) n = g 99 n)))
theorem RB.nu {m : Mm} {r : Int} {g : Mm} (x : RB m r g) : ∀ c, isC c → m (r + 7) c = g 95 c := x.1
theorem RB.ct {m : Mm} {r : Int} {g : Mm} (x : RB m r g) : m (r + 6) 6 = g 70 30 := x.2.1
theorem RB.ro {m : Mm} {r : Int} {g : Mm} (x : RB m r g) : m (r + 6) 7 = rlc g := x.2.2.1
theorem RB.go {m : Mm} {r : Int} {g : Mm} (x : RB m r g) : m (r + 6) 8 = g 101 (6 * g 70 45 + 5) := x.2.2.2.1
theorem RB.ba {m : Mm} {r : Int} {g : Mm} (x : RB m r g) : ∀ n, 0 ≤ n → n < g 70 30 → m (r + 8) n = g 96 n ∧ m (r + 9) n = g 97 n ∧ (g 97 n = -1 ∨ (m (r + 10) n = g 98 n ∧ m (r + 11) n = g 99 n)) := x.2.2.2.2
abbrev RS (m : Mm) (r : Int) (g : Mm) : Prop := (m r 9 = g 70 26) ∧ (m r 10 = 1) ∧ (m r 11 = g 101 (6 * g 70 45 + 3)) ∧ (m r 12 = g 101 (6 * g 70 45 + 4)) ∧ (m (r + 1) 4 = cnt g)
theorem RS.ti {m : Mm} {r : Int} {g : Mm} (x : RS m r g) : m r 9 = g 70 26 := x.1
theorem RS.en {m : Mm} {r : Int} {g : Mm} (x : RS m r g) : m r 10 = 1 := x.2.1
theorem RS.ls {m : Mm} {r : Int} {g : Mm} (x : RS m r g) : m r 11 = g 101 (6 * g 70 45 + 3) := x.2.2.1
theorem RS.rg {m : Mm} {r : Int} {g : Mm} (x : RS m r g) : m r 12 = g 101 (6 * g 70 45 + 4) := x.2.2.2.1
theorem RS.lc {m : Mm} {r : Int} {g : Mm} (x : RS m r g) : m (r + 1) 4 = cnt g := x.2.2.2.2
def RLo (m : Mm) (r : Int) (g : Mm) : Prop := ∀ i, 0 ≤ i → i < cnt g → i < LL r → m (r + 2) i = g 102 (6000 * g 70 45 + 6 * i) ∧ m (r + 3) i = 4 * g 102 (6000 * g 70 45 + 6 * i + 1) + g 102 (6000 * g 70 45 + 6 * i + 2) ∧ m (r + 4) i = g 102 (6000 * g 70 45 + 6 * i + 3) ∧ m (r + 5) i = g 102 (6000 * g 70 45 + 6 * i + 4) + 2 * g 102 (6000 * g 70 45 + 6 * i + 5) + (if g 72 (g 102 (6000 * g 70 45 + 6 * i + 1)) = 8 then 4 else 0)
abbrev RQf (m : Mm) (g : Mm) (f : Int → Int) : Prop := (0 ≤ m 27 6 ∧ m 27 6 ≤ g 70 24) ∧ (m 27 7 = g 70 25) ∧ (∀ i, 0 ≤ i → i < m 27 6 → (0 ≤ f i ∧ f i < g 70 24) ∧ m 31 i = 4 * g 86 (f i) + g 87 (f i) ∧ m 32 i = g 88 (f i) ∧ m 33 i = g 89 (f i) ∧ ((m 30 i = -1 ∧ g 90 (f i) = -1) ∨ (0 ≤ m 30 i ∧ m 30 i < m 27 6 ∧ g 90 (f i) = f (m 30 i)))) ∧ (∀ i j, 0 ≤ i → i < j → j < m 27 6 → ¬ f i = f j) ∧ (∀ t, 0 ≤ t → t < 400 → (m 28 t = -1 ∧ m 29 t = -1 ∧ g 91 t = -1) ∨ ((0 ≤ m 28 t ∧ m 28 t < m 27 6) ∧ ¬ g 91 t = -1 ∧ g 91 t = f (m 28 t) ∧ (0 ≤ m 29 t ∧ m 29 t < m 27 6) ∧ g 92 t = f (m 29 t))) ∧ (∀ t, 400 ≤ t → t < 520 → g 91 t = -1 ∨ (g 92 t < g 70 24 ∧ ∀ i, 0 ≤ i → i < m 27 6 → ¬ f i = g 92 t))
theorem RQf.sz {m : Mm} {g : Mm} {f : Int → Int} (x : RQf m g f) : 0 ≤ m 27 6 ∧ m 27 6 ≤ g 70 24 := x.1
theorem RQf.wt {m : Mm} {g : Mm} {f : Int → Int} (x : RQf m g f) : m 27 7 = g 70 25 := x.2.1
theorem RQf.nd {m : Mm} {g : Mm} {f : Int → Int} (x : RQf m g f) : ∀ i, 0 ≤ i → i < m 27 6 → (0 ≤ f i ∧ f i < g 70 24) ∧ m 31 i = 4 * g 86 (f i) + g 87 (f i) ∧ m 32 i = g 88 (f i) ∧ m 33 i = g 89 (f i) ∧ ((m 30 i = -1 ∧ g 90 (f i) = -1) ∨ (0 ≤ m 30 i ∧ m 30 i < m 27 6 ∧ g 90 (f i) = f (m 30 i))) := x.2.2.1
theorem RQf.ij {m : Mm} {g : Mm} {f : Int → Int} (x : RQf m g f) : ∀ i j, 0 ≤ i → i < j → j < m 27 6 → ¬ f i = f j := x.2.2.2.1
theorem RQf.ts {m : Mm} {g : Mm} {f : Int → Int} (x : RQf m g f) : ∀ t, 0 ≤ t → t < 400 → (m 28 t = -1 ∧ m 29 t = -1 ∧ g 91 t = -1) ∨ ((0 ≤ m 28 t ∧ m 28 t < m 27 6) ∧ ¬ g 91 t = -1 ∧ g 91 t = f (m 28 t) ∧ (0 ≤ m 29 t ∧ m 29 t < m 27 6) ∧ g 92 t = f (m 29 t)) := x.2.2.2.2.1
theorem RQf.tb {m : Mm} {g : Mm} {f : Int → Int} (x : RQf m g f) : ∀ t, 400 ≤ t → t < 520 → g 91 t = -1 ∨ (g 92 t < g 70 24 ∧ ∀ i, 0 ≤ i → i < m 27 6 → ¬ f i = g 92 t) := x.2.2.2.2.2
/-- w, v: a set strike that is looked at, on both sides -/
def RQ (m g : Mm) (w v : Int) : Prop := ∃ f, RQf m g f ∧ ((w = -1 ∧ v = -1) ∨ (0 ≤ w ∧ w < m 27 6 ∧ f w = v))
abbrev GT (g : Mm) : Prop := (∀ c, isC c → ¬ g 72 c = 0 → ¬ g 72 c = 7 → ¬ g 72 c = 9 → g 93 c = g 106 (96 * g 70 45 + c)) ∧ (∀ c, isC c → (g 105 (96 * g 70 45 + c) = 0 ↔ g 103 (96 * g 70 45 + c) = -1)) ∧ (∀ c, isC c → g 109 (96 * g 70 45 + c) = 0 ∨ g 109 (96 * g 70 45 + c) = 1) ∧ (∀ c, isC c → g 94 c = 0 ∨ g 94 c = 1) ∧ (∀ c, isC c → ¬ g 105 (96 * g 70 45 + c) = 0 → g 72 c = 8) ∧ (∀ i, 0 ≤ i → i < cnt g → g 72 (g 102 (6000 * g 70 45 + 6 * i + 1)) = 8 → ¬ g 105 (96 * g 70 45 + g 102 (6000 * g 70 45 + 6 * i + 1)) = 0) ∧ (∀ c, isC c → ¬ g 105 (96 * g 70 45 + c) = 0 → (0 ≤ g 104 (96 * g 70 45 + c) ∧ g 104 (96 * g 70 45 + c) < cnt g) ∧ g 102 (6000 * g 70 45 + 6 * g 104 (96 * g 70 45 + c) + 1) = c ∧ ∀ i, 0 ≤ i → i < g 104 (96 * g 70 45 + c) → ¬ g 102 (6000 * g 70 45 + 6 * i + 1) = c) ∧ (∀ i, 0 ≤ i → i < cnt g → (g 102 (6000 * g 70 45 + 6 * i + 4) = 0 ∨ g 102 (6000 * g 70 45 + 6 * i + 4) = 1) ∧ (g 102 (6000 * g 70 45 + 6 * i + 5) = 0 ∨ g 102 (6000 * g 70 45 + 6 * i + 5) = 1))
theorem GT.tm {g : Mm} (x : GT g) : ∀ c, isC c → ¬ g 72 c = 0 → ¬ g 72 c = 7 → ¬ g 72 c = 9 → g 93 c = g 106 (96 * g 70 45 + c) := x.1
theorem GT.rg {g : Mm} (x : GT g) : ∀ c, isC c → (g 105 (96 * g 70 45 + c) = 0 ↔ g 103 (96 * g 70 45 + c) = -1) := x.2.1
theorem GT.lo {g : Mm} (x : GT g) : ∀ c, isC c → g 109 (96 * g 70 45 + c) = 0 ∨ g 109 (96 * g 70 45 + c) = 1 := x.2.2.1
theorem GT.dn {g : Mm} (x : GT g) : ∀ c, isC c → g 94 c = 0 ∨ g 94 c = 1 := x.2.2.2.1
theorem GT.k8 {g : Mm} (x : GT g) : ∀ c, isC c → ¬ g 105 (96 * g 70 45 + c) = 0 → g 72 c = 8 := x.2.2.2.2.1
theorem GT.hr {g : Mm} (x : GT g) : ∀ i, 0 ≤ i → i < cnt g → g 72 (g 102 (6000 * g 70 45 + 6 * i + 1)) = 8 → ¬ g 105 (96 * g 70 45 + g 102 (6000 * g 70 45 + 6 * i + 1)) = 0 := x.2.2.2.2.2.1
theorem GT.rs {g : Mm} (x : GT g) : ∀ c, isC c → ¬ g 105 (96 * g 70 45 + c) = 0 → (0 ≤ g 104 (96 * g 70 45 + c) ∧ g 104 (96 * g 70 45 + c) < cnt g) ∧ g 102 (6000 * g 70 45 + 6 * g 104 (96 * g 70 45 + c) + 1) = c ∧ ∀ i, 0 ≤ i → i < g 104 (96 * g 70 45 + c) → ¬ g 102 (6000 * g 70 45 + 6 * i + 1) = c := x.2.2.2.2.2.2.1
theorem GT.fl {g : Mm} (x : GT g) : ∀ i, 0 ≤ i → i < cnt g → (g 102 (6000 * g 70 45 + 6 * i + 4) = 0 ∨ g 102 (6000 * g 70 45 + 6 * i + 4) = 1) ∧ (g 102 (6000 * g 70 45 + 6 * i + 5) = 0 ∨ g 102 (6000 * g 70 45 + 6 * i + 5) = 1) := x.2.2.2.2.2.2.2
abbrev RR (m : Mm) (r p : Int) (g : Mm) (w v : Int) : Prop := (Sh m) ∧ (m r 8 = p) ∧ (PR m p g) ∧ (RC m r g) ∧ (RB m r g) ∧ (RS m r g) ∧ (RLo m r g) ∧ (RQ m g w v)
theorem RR.S {m : Mm} {r p : Int} {g : Mm} {w v : Int} (x : RR m r p g w v) : Sh m := x.1
theorem RR.pp {m : Mm} {r p : Int} {g : Mm} {w v : Int} (x : RR m r p g w v) : m r 8 = p := x.2.1
theorem RR.P {m : Mm} {r p : Int} {g : Mm} {w v : Int} (x : RR m r p g w v) : PR m p g := x.2.2.1
theorem RR.C {m : Mm} {r p : Int} {g : Mm} {w v : Int} (x : RR m r p g w v) : RC m r g := x.2.2.2.1
theorem RR.B {m : Mm} {r p : Int} {g : Mm} {w v : Int} (x : RR m r p g w v) : RB m r g := x.2.2.2.2.1
theorem RR.X {m : Mm} {r p : Int} {g : Mm} {w v : Int} (x : RR m r p g w v) : RS m r g := x.2.2.2.2.2.1
theorem RR.L {m : Mm} {r p : Int} {g : Mm} {w v : Int} (x : RR m r p g w v) : RLo m r g := x.2.2.2.2.2.2.1
theorem RR.Q {m : Mm} {r p : Int} {g : Mm} {w v : Int} (x : RR m r p g w v) : RQ m g w v := x.2.2.2.2.2.2.2
/-- what a run may change of the class's -/
def FR (m h : Mm) (r : Int) : Prop := ∀ a j, ¬ (27 ≤ a ∧ a ≤ 33) → ¬ (r ≤ a ∧ a ≤ r + 17 ∧ ¬ a = r + 12) → h a j = m a j
/-- with the balls that are due -/
def FW (m h : Mm) (r : Int) : Prop := ∀ a j, ¬ (27 ≤ a ∧ a ≤ 33) → ¬ (r ≤ a ∧ a ≤ r + 17) → h a j = m a j
section REL
variable {m h g k : Mm} {r p w v : Int}
theorem FR_refl : FR m m r := fun a j _ _ => rfl
theorem FR_trans {h2 : Mm} (f : FR m h r) (f2 : FR h h2 r) : FR m h2 r := fun a j x y => (f2 a j x y).trans (f a j x y)
theorem FW_refl : FW m m r := fun a j _ _ => rfl
theorem FW_trans {h2 : Mm} (f : FW m h r) (f2 : FW h h2 r) : FW m h2 r := fun a j x y => (f2 a j x y).trans (f a j x y)
theorem FR_W (f : FR m h r) : FW m h r := fun a j x y => f a j x (fun z => y ⟨z.1, z.2.1⟩)
theorem PR_m (a : PR m p g) (f : ∀ x j, p ≤ x → x ≤ p + 8 → h x j = m x j) : PR h p g := by
  refine ⟨fun c hc => ?_, fun c hc hk => ?_, fun c hc hk => ?_, fun c hc => ?_, ?_, fun i i0 i1 => ?_⟩
  · rw [f _ _ (by omega) (by omega)]; exact a.k c hc
  · rw [f _ _ (by omega) (by omega), f _ _ (by omega) (by omega)]; exact a.a c hc hk
  · rw [f _ _ (by omega) (by omega)]; exact a.o c hc hk
  · rw [f _ _ (by omega) (by omega)]; exact a.b c hc
  · rw [f _ _ (by omega) (by omega)]; exact a.s
  · rw [f _ _ (by omega) (by omega), f _ _ (by omega) (by omega), f _ _ (by omega) (by omega)]; exact a.t i i0 i1
theorem PR_g (a : PR m p g) (f : ∀ x j, 72 ≤ x → x ≤ 79 → k x j = g x j) (f6 : k 70 6 = g 70 6) : PR m p k := by
  refine ⟨fun c hc => ?_, fun c hc hk => ?_, fun c hc hk => ?_, fun c hc => ?_, ?_, fun i i0 i1 => ?_⟩
  · rw [f _ _ (by omega) (by omega)]; exact a.k c hc
  · rw [f _ _ (by omega) (by omega)] at hk
    rw [f 73 _ (by omega) (by omega), f 74 _ (by omega) (by omega)]; exact a.a c hc hk
  · rw [f _ _ (by omega) (by omega)] at hk
    rw [f 75 _ (by omega) (by omega)]; exact a.o c hc hk
  · rw [f _ _ (by omega) (by omega)]; exact a.b c hc
  · rw [f6]; exact a.s
  · rw [f6] at i1
    rw [f 77 _ (by omega) (by omega), f 78 _ (by omega) (by omega), f 79 _ (by omega) (by omega)]; exact a.t i i0 i1
theorem RC_m (a : RC m r g) (f : ∀ x j, r + 13 ≤ x → x ≤ r + 17 → h x j = m x j) : RC h r g := by
  refine ⟨fun c hc => ?_, fun c hc => ?_, fun c hc => ?_, fun c hc => ?_, fun c hc => ?_⟩
  · rw [f _ _ (by omega) (by omega)]; exact a.hi c hc
  · rw [f _ _ (by omega) (by omega)]; exact a.ri c hc
  · rw [f _ _ (by omega) (by omega)]; exact a.fr c hc
  · rw [f _ _ (by omega) (by omega)]; exact a.ch c hc
  · rw [f _ _ (by omega) (by omega)]; exact a.lo c hc
theorem RC_g (a : RC m r g) (f : ∀ x j, (x = 94 ∨ x = 103 ∨ x = 105 ∨ x = 106 ∨ x = 109) → k x j = g x j) (f45 : k 70 45 = g 70 45) : RC m r k := by
  refine ⟨fun c hc => ?_, fun c hc => ?_, fun c hc => ?_, fun c hc => ?_, fun c hc => ?_⟩
  · rw [f45, f _ _ (by omega)]; exact a.hi c hc
  · rw [f45, f _ _ (by omega)]; exact a.ri c hc
  · rw [f45, f _ _ (by omega)]; exact a.fr c hc
  · rw [f _ _ (by omega)]; exact a.ch c hc
  · rw [f45, f _ _ (by omega)]; exact a.lo c hc
theorem RB_m (a : RB m r g) (f : ∀ x j, r + 6 ≤ x → x ≤ r + 11 → h x j = m x j) : RB h r g := by
  refine ⟨fun c hc => ?_, ?_, ?_, ?_, fun n n0 n1 => ?_⟩
  · rw [f _ _ (by omega) (by omega)]; exact a.nu c hc
  · rw [f _ _ (by omega) (by omega)]; exact a.ct
  · rw [f _ _ (by omega) (by omega)]; exact a.ro
  · rw [f _ _ (by omega) (by omega)]; exact a.go
  · rw [f _ _ (by omega) (by omega), f _ _ (by omega) (by omega), f _ _ (by omega) (by omega), f _ _ (by omega) (by omega)]; exact a.ba n n0 n1
theorem rlc_cg (f30 : k 70 30 = g 70 30) (f : ∀ j, k 97 j = g 97 j) : rlc k = rlc g := by
  unfold rlc
  exact sm_cg 96 (fun c _ _ => by unfold rlf; rw [f30, f])
theorem RB_g (a : RB m r g) (f : ∀ x j, (x = 95 ∨ x = 96 ∨ x = 97 ∨ x = 98 ∨ x = 99) → k x j = g x j) (f30 : k 70 30 = g 70 30) (f5 : k 101 (6 * k 70 45 + 5) = g 101 (6 * g 70 45 + 5)) : RB m r k := by
  refine ⟨fun c hc => ?_, ?_, ?_, ?_, fun n n0 n1 => ?_⟩
  · rw [f _ _ (by omega)]; exact a.nu c hc
  · rw [f30]; exact a.ct
  · rw [rlc_cg f30 (fun j => f 97 j (by omega))]; exact a.ro
  · rw [f5]; exact a.go
  · rw [f30] at n1
    rw [f 96 _ (by omega), f 97 _ (by omega), f 98 _ (by omega), f 99 _ (by omega)]; exact a.ba n n0 n1
theorem RS_m (a : RS m r g) (f9 : h r 9 = m r 9) (f10 : h r 10 = m r 10) (f11 : h r 11 = m r 11) (f12 : h r 12 = m r 12) (f4 : h (r + 1) 4 = m (r + 1) 4) : RS h r g := ⟨f9.trans a.ti, f10.trans a.en, f11.trans a.ls, f12.trans a.rg, f4.trans a.lc⟩
theorem RS_g (a : RS m r g) (f26 : k 70 26 = g 70 26) (f3 : k 101 (6 * k 70 45 + 3) = g 101 (6 * g 70 45 + 3)) (f4 : k 101 (6 * k 70 45 + 4) = g 101 (6 * g 70 45 + 4)) (f2 : cnt k = cnt g) : RS m r k := ⟨a.ti.trans f26.symm, a.en, a.ls.trans f3.symm, a.rg.trans f4.symm, a.lc.trans f2.symm⟩
theorem RLo_m (a : RLo m r g) (f : ∀ x j, r + 2 ≤ x → x ≤ r + 5 → h x j = m x j) : RLo h r g := by
  intro i i0 i1 i2
  rw [f _ _ (by omega) (by omega), f _ _ (by omega) (by omega), f _ _ (by omega) (by omega), f _ _ (by omega) (by omega)]
  exact a i i0 i1 i2
theorem RLo_g (a : RLo m r g) (f45 : k 70 45 = g 70 45) (fc : cnt k = cnt g) (f1 : ∀ j, k 102 j = g 102 j) (f2 : ∀ j, k 72 j = g 72 j) : RLo m r k := by
  intro i i0 i1 i2
  rw [fc] at i1
  simp only [f45, f1, f2]
  exact a i i0 i1 i2
theorem RQ_m (a : RQ m g w v) (f : ∀ x j, 27 ≤ x → x ≤ 33 → h x j = m x j) : RQ h g w v := by
  obtain ⟨φ, a, z⟩ := a
  have e : ∀ x j, 27 ≤ x ∧ x ≤ 33 → h x j = m x j := fun x j hx => f x j hx.1 hx.2
  refine ⟨φ, ⟨?_, ?_, fun i => ?_, fun i j => ?_, fun t => ?_, fun t => ?_⟩, by rw [e 27 6 (by decide)]; exact z⟩
  · rw [e 27 6 (by decide)]; exact a.sz
  · rw [e 27 7 (by decide)]; exact a.wt
  · rw [e 27 6 (by decide), e 31 i (by decide), e 32 i (by decide), e 33 i (by decide), e 30 i (by decide)]; exact a.nd i
  · rw [e 27 6 (by decide)]; exact a.ij i j
  · rw [e 27 6 (by decide), e 28 t (by decide), e 29 t (by decide)]; exact a.ts t
  · rw [e 27 6 (by decide)]; exact a.tb t
theorem RQ_g (a : RQ m g w v) (f : ∀ x j, 86 ≤ x → x ≤ 92 → k x j = g x j) (f24 : k 70 24 = g 70 24) (f25 : k 70 25 = g 70 25) : RQ m k w v := by
  obtain ⟨φ, a, z⟩ := a
  have e : ∀ x j, 86 ≤ x ∧ x ≤ 92 → k x j = g x j := fun x j hx => f x j hx.1 hx.2
  refine ⟨φ, ⟨?_, ?_, fun i => ?_, a.ij, fun t => ?_, fun t => ?_⟩, z⟩
  · rw [f24]; exact a.sz
  · rw [f25]; exact a.wt
  · rw [f24, e 86 _ (by decide), e 87 _ (by decide), e 88 _ (by decide), e 89 _ (by decide), e 90 _ (by decide)]; exact a.nd i
  · rw [e 91 t (by decide), e 92 t (by decide)]; exact a.ts t
  · rw [e 91 t (by decide), e 92 t (by decide), f24]; exact a.tb t
theorem RQ_nil (a : RQ m g w v) : RQ m g (-1) (-1) := by
  obtain ⟨φ, a, z⟩ := a
  exact ⟨φ, a, Or.inl ⟨rfl, rfl⟩⟩
theorem RQ_first (a : RQ m g w v) {t : Int} (h0 : 0 ≤ t) (h1 : t < 400) : RQ m g (m 28 t) (g 91 t) := by
  obtain ⟨φ, a, z⟩ := a
  refine ⟨φ, a, ?_⟩
  rcases a.ts t h0 h1 with y | y
  · exact Or.inl ⟨y.1, y.2.2⟩
  · exact Or.inr ⟨y.1.1, y.1.2, y.2.2.1.symm⟩
theorem RQ_next (a : RQ m g w v) (hw : ¬ w = -1) : RQ m g (m 30 w) (g 90 v) := by
  obtain ⟨φ, a, z⟩ := a
  refine ⟨φ, a, ?_⟩
  have z := z.resolve_left (fun x => hw x.1)
  have n := a.nd w z.1 z.2.1
  rw [z.2.2] at n
  rcases n.2.2.2.2 with y | y
  · exact Or.inl y
  · exact Or.inr ⟨y.1, y.2.1, y.2.2.symm⟩
end REL
