/-! fits: what is looked for; the class's side -/
abbrev endP (a : Int) : Prop := a = 3 ∨ a = 5 ∨ a = 6 ∨ a = 9 ∨ a = 10 ∨ a = 12
abbrev okF (k a b : Int) : Prop := (k = 1 ∧ a ≤ 1 ∧ b = 0) ∨ (k = 2 ∧ a ≤ 3 ∧ b = 0) ∨ (k = 4 ∧ a ≤ 3 ∧ 1 ≤ b) ∨ (k = 5 ∧ a = 0 ∧ b = 0) ∨ (k = 6 ∧ a ≤ 3 ∧ 1 ≤ b ∧ b ≤ 3) ∨ (k = 7 ∧ a = 0 ∧ b = 0) ∨ (k = 9 ∧ endP a ∧ b = 0)
abbrev ftP (g : Mm) (c bell tick k a b : Int) : Prop := okF k a b ∧ MT (ly g c k a b) bell tick
def ftR (g : Mm) (c bell tick : Int) : Nat → Int × (Int → Int)
  | 0 => (0, fun _ => 0)
  | n + 1 => if ftP g c bell tick ((n : Int) / 160 + 1) ((n : Int) % 160 / 10) ((n : Int) % 10) then ((ftR g c bell tick n).1 + 1, fun i => if i = (ftR g c bell tick n).1 then 1000 * ((n : Int) / 160 + 1) + 10 * ((n : Int) % 160 / 10) + (n : Int) % 10 else (ftR g c bell tick n).2 i) else ftR g c bell tick n
def ftN : Nat → Nat
  | 0 => 0
  | n + 1 => if okF ((n : Int) / 160 + 1) ((n : Int) % 160 / 10) ((n : Int) % 10) then ftN n + 1 else ftN n
abbrev msB (k : Int) : Int := if k = 8 then -1 else if k = 4 then 9 else if k = 6 then 3 else 0
abbrev lsB (k : Int) : Int := if k = 4 ∨ k = 6 then 1 else 0
section FITS
variable {tl : Ds} {m X Y g h : Mm} {Q : Ds → Mm → List MV → Prop} {p q c k a b s o t v i j d A f bell tick : Int}
theorem ftR_s (n : Nat) : ftR g c bell tick (n + 1) = if ftP g c bell tick ((n : Int) / 160 + 1) ((n : Int) % 160 / 10) ((n : Int) % 10) then ((ftR g c bell tick n).1 + 1, fun i => if i = (ftR g c bell tick n).1 then 1000 * ((n : Int) / 160 + 1) + 10 * ((n : Int) % 160 / 10) + (n : Int) % 10 else (ftR g c bell tick n).2 i) else ftR g c bell tick n := rfl
theorem ftR_b : ∀ n : Nat, 0 ≤ (ftR g c bell tick n).1 ∧ (ftR g c bell tick n).1 ≤ ftN n := by
  intro n
  induction n with
  | zero => exact ⟨Int.le_refl _, Int.le_refl _⟩
  | succ n ih =>
    have e2 : ftN (n + 1) = if okF ((n : Int) / 160 + 1) ((n : Int) % 160 / 10) ((n : Int) % 10) then ftN n + 1 else ftN n := rfl
    rw [ftR_s, e2]
    by_cases h : okF ((n : Int) / 160 + 1) ((n : Int) % 160 / 10) ((n : Int) % 10)
    · rw [if_pos h]
      split
      · show 0 ≤ (ftR g c bell tick n).1 + 1 ∧ (ftR g c bell tick n).1 + 1 ≤ ((ftN n + 1 : Nat) : Int)
        clear h
        omega
      · clear h
        omega
    · rw [if_neg h, if_neg (fun y => h y.1)]
      exact ih
theorem ftN_m : ∀ d n : Nat, ftN n ≤ ftN (n + d) := by
  intro d
  induction d with
  | zero => exact fun n => Nat.le_refl _
  | succ d ih =>
    intro n
    refine Nat.le_trans (ih n) ?_
    have e2 : ftN (n + (d + 1)) = if okF (((n + d : Nat) : Int) / 160 + 1) (((n + d : Nat) : Int) % 160 / 10) (((n + d : Nat) : Int) % 10) then ftN (n + d) + 1 else ftN (n + d) := rfl
    rw [e2]
    split
    · exact Nat.le_succ _
    · exact Nat.le_refl _
theorem ftN_62 : ftN 1440 = 62 := by decide +kernel
theorem ftR_c {n : Nat} (h : n < 1440) (hk : ftP g c bell tick ((n : Int) / 160 + 1) ((n : Int) % 160 / 10) ((n : Int) % 10)) : (ftR g c bell tick n).1 < 62 := by
  have h1 := (ftR_b (g := g) (c := c) (bell := bell) (tick := tick) (n + 1)).2
  rw [ftR_s, if_pos hk] at h1
  have h1' : (ftR g c bell tick n).1 + 1 ≤ (ftN (n + 1) : Int) := h1
  have h2 := ftN_m (1440 - (n + 1)) (n + 1)
  rw [show n + 1 + (1440 - (n + 1)) = 1440 by omega, ftN_62] at h2
  clear hk h1
  omega
theorem ft_sk : ∀ d n : Nat, (∀ i : Nat, n ≤ i → i < n + d → ¬ okF ((i : Int) / 160 + 1) ((i : Int) % 160 / 10) ((i : Int) % 10)) → ftR g c bell tick (n + d) = ftR g c bell tick n := by
  intro d
  induction d with
  | zero => exact fun n _ => rfl
  | succ d ih =>
    intro n h
    have e := ftR_s (g := g) (c := c) (bell := bell) (tick := tick) (n + d)
    rw [if_neg (fun y => h (n + d) (by omega) (by omega) y.1)] at e
    exact e.trans (ih n (fun i i0 i1 => h i i0 (by omega)))
theorem ft_sk' {n n' : Nat} (hn : n ≤ n') (h : ∀ i : Nat, n ≤ i → i < n' → ¬ okF ((i : Int) / 160 + 1) ((i : Int) % 160 / 10) ((i : Int) % 10)) : ftR g c bell tick n' = ftR g c bell tick n := by
  have e := ft_sk (g := g) (c := c) (bell := bell) (tick := tick) (n' - n) n (fun i i0 i1 => h i i0 (by omega))
  rw [show n + (n' - n) = n' by omega] at e
  exact e
theorem Sh_ly' (S : Sh g) : Sh (ly g c k a b) := Sh_ly S
theorem WG_ly (W : WG g) (hc : isC c) (hk : canP k a b (g 72 c) (g 76 c)) (h6 : g 72 c = 0 ∧ g 76 c = 0) : WG (ly g c k a b) := by
  have k1 := hk.1
  have kr : 0 ≤ k ∧ k ≤ 9 := ⟨Int.le_trans (by decide) k1.1, k1.2.1⟩
  have nM' := nAM (k := k) (a := a) ⟨k1.1, k1.2.1⟩
  have e6 : ∀ j, ly g c k a b 76 j = g 76 j := fun j => ly_f (by decide)
  refine ⟨Sh_ly W.S, fun d hd => ?_, SV_cg W.v (fun x j h1 h2 => ly_f (by omega)) (ly_f (by decide)), fun d hd => ?_⟩
  · by_cases h : d = c
    · subst h
      have e2 : ly g d k a b 72 d = k := by rw [ly_72, if_pos rfl]
      have e3 : ly g d k a b 73 d = nM k a := by rw [ly_73, if_pos rfl]
      have e4 : ly g d k a b 74 d = nB k b := by rw [ly_74, if_pos rfl]
      have c1 := hk.2.1
      have c2 := hk.2.2.1
      have c9 := hk.2.2.2.1
      have c4 := hk.2.2.2.2.1
      have c6 := hk.2.2.2.2.2.1
      refine ⟨by rw [e2]; exact kr, ?_, ?_, ?_, ?_, ?_, ?_, by rw [e6, h6.2]; exact Or.inl rfl, ?_, ?_⟩
      · rw [e2, e3]
        intro y
        have z : nM k a = a := by unfold nM; rw [if_pos (Or.inl y)]
        rw [z]; exact c1 y
      · rw [e2, e3]
        intro y
        have y2 : k = 2 ∨ k = 4 ∨ k = 6 := by
          rcases y with y | y | y | y
          · exact Or.inl y
          · exact absurd y k1.2.2
          · exact Or.inr (Or.inl y)
          · exact Or.inr (Or.inr y)
        have z : nM k a = a := by unfold nM; rw [if_pos (Or.inr (Or.inl y2))]
        have z2 := c2 y2
        rw [z]
        exact ⟨z2.1, Int.lt_of_le_of_lt z2.2 (by decide)⟩
      · rw [e2]
        exact fun y => absurd y k1.2.2
      · rw [e2, e4]
        intro y
        have z : nB k b = b := by unfold nB; rw [if_pos (Or.inl y)]
        rw [z]; exact c4 y
      · rw [e2, e4]
        intro y
        have z : nB k b = b := by unfold nB; rw [if_pos (Or.inr y)]
        rw [z]; exact c6 y
      · rw [e2, e3]
        intro y
        have z : nM k a = a := by unfold nM; rw [if_pos (Or.inr (Or.inr (Or.inl y)))]
        rw [z]; exact c9 y
      · rw [e6, h6.2]
        exact fun y => absurd y (by decide)
      · rw [e6]
        exact fun _ => h6.2
    · have e2 : ly g c k a b 72 d = g 72 d := by rw [ly_72, if_neg h]
      have e3 : ly g c k a b 73 d = g 73 d := by rw [ly_73, if_neg h]
      have e4 : ly g c k a b 74 d = g 74 d := by rw [ly_74, if_neg h]
      have e5 : ly g c k a b 75 d = g 75 d := by rw [ly_75, if_neg h]
      have p := W.p d hd
      refine ⟨by rw [e2]; exact p.k, by rw [e2, e3]; exact p.a1, by rw [e2, e3]; exact p.a4, ?_, by rw [e2, e4]; exact p.bt, by rw [e2, e4]; exact p.bb, by rw [e2, e3]; exact p.e, by rw [e6]; exact p.l, by rw [e6, e2]; exact p.o, by rw [e6, e2]; exact p.z3⟩
      rw [e2, e5]
      intro h3
      have ma := p.ma h3
      have u : ¬ g 75 d = c := fun y => by
        have z := ma.2.1
        rw [y, h6.1] at z
        exact absurd z (by decide)
      rw [ly_72, if_neg u, ly_75, if_neg u]
      exact ma
  · rw [ly_72, ly_73, ly_74]
    by_cases h : d = c
    · rw [if_pos h, if_pos h, if_pos h]
      intro _
      rw [← nM']
      unfold nA nB
      constructor
      · split <;> rfl
      · split <;> rfl
    · rw [if_neg h, if_neg h, if_neg h]
      exact W.n d hd
/-- laid and taken away -/
theorem PE_off (E : PE (ly g c k a b) h) (hc : isC c) (h6 : g 72 c = 0 ∧ g 76 c = 0) : PE g (up (up h 72 c 0) 76 c 0) := by
  have f : ∀ x j, ¬ x = 72 → ¬ x = 76 → up (up h 72 c 0) 76 c 0 x j = h x j := fun x j h1 h2 => by rw [up_at, if_neg (fun y => h2 y.1), up_at, if_neg (fun y => h1 y.1)]
  have f2 : ∀ j, up (up h 72 c 0) 76 c 0 72 j = if j = c then 0 else h 72 j := fun j => by simp only [up_at, b2_T, b2_F, Int.reduceEq, Int.reduceLT, Int.reduceLE, Int.reduceAdd, Int.reduceSub, Int.reduceMul, Int.reduceNeg, reduceIte, if_true, if_false, true_or, or_true, false_or, or_false, false_and, and_false, eq_self, not_false_eq_true, not_true_eq_false, true_and, and_true, List.cons_append, List.nil_append, List.append_nil, b2_0, b2_1, b2_01, Classical.not_not]
  have f6 : ∀ j, up (up h 72 c 0) 76 c 0 76 j = if j = c then 0 else h 76 j := fun j => by simp only [up_at, b2_T, b2_F, Int.reduceEq, Int.reduceLT, Int.reduceLE, Int.reduceAdd, Int.reduceSub, Int.reduceMul, Int.reduceNeg, reduceIte, if_true, if_false, true_or, or_true, false_or, or_false, false_and, and_false, eq_self, not_false_eq_true, not_true_eq_false, true_and, and_true, List.cons_append, List.nil_append, List.append_nil, b2_0, b2_1, b2_01, Classical.not_not]
  refine ⟨fun d hd => ?_, fun d hd hk => ?_, fun d hd hk => ?_, fun d hd => ?_, ?_, fun y y0 y1 => ?_⟩
  · rw [f2]
    by_cases h1 : d = c
    · rw [if_pos h1, h1, h6.1]
    · have := E.k d hd
      rw [ly_72, if_neg h1] at this
      rw [if_neg h1, this]
  · have h1 : ¬ d = c := fun y => hk (by rw [y]; exact h6.1)
    have := E.a d hd (by rw [ly_72, if_neg h1]; exact hk)
    rw [ly_73, ly_74, if_neg h1, if_neg h1] at this
    rw [f 73 d (by decide) (by decide), f 74 d (by decide) (by decide)]
    exact this
  · have h1 : ¬ d = c := fun y => by rw [y, h6.1] at hk; exact absurd hk (by decide)
    have := E.o d hd (by rw [ly_72, if_neg h1]; exact hk)
    rw [ly_75, if_neg h1] at this
    rw [f 75 d (by decide) (by decide)]
    exact this
  · rw [f6]
    by_cases h1 : d = c
    · rw [if_pos h1, h1, h6.2]
    · have := E.b d hd
      rw [ly_f (by decide)] at this
      rw [if_neg h1, this]
  · have := E.s
    rw [ly_f (by decide)] at this
    exact (f 70 6 (by decide) (by decide)).trans this
  · have := E.t y y0 (by rw [ly_f (by decide)]; exact y1)
    rw [ly_f (by decide), ly_f (by decide), ly_f (by decide)] at this
    rw [f 77 y (by decide) (by decide), f 78 y (by decide) (by decide), f 79 y (by decide) (by decide)]
    exact this
theorem can_ok (h0 : 0 ≤ a ∧ a ≤ mstA k) (hb : lsB k ≤ b ∧ b ≤ msB k) (hk : 1 ≤ k ∧ k ≤ 9) : canP k a b 0 0 ↔ okF k a b := by
  have k0 : k = 1 ∨ k = 2 ∨ k = 3 ∨ k = 4 ∨ k = 5 ∨ k = 6 ∨ k = 7 ∨ k = 8 ∨ k = 9 := by omega
  unfold mstA at h0
  unfold lsB msB at hb
  rcases k0 with rfl | rfl | rfl | rfl | rfl | rfl | rfl | rfl | rfl
  all_goals (simp only [b2_T, b2_F, Int.reduceEq, Int.reduceLT, Int.reduceLE, Int.reduceAdd, Int.reduceSub, Int.reduceMul, Int.reduceNeg, reduceIte, if_true, if_false, true_or, or_true, false_or, or_false, false_and, and_false, eq_self, not_false_eq_true, not_true_eq_false, true_and, and_true, List.cons_append, List.nil_append, List.append_nil, b2_0, b2_1, b2_01, Classical.not_not] at h0 hb ⊢; omega)
theorem e100 (S : Sh m) (h0 : 0 ≤ m 0 11 ∧ m 0 11 < 62) : WP 100 0 [(2, 0), (0, v)] [] (dsB ++ tl) m Q = Q (dsB ++ tl) (up (up m 5 (m 0 11) v) 0 11 (m 0 11 + 1)) [] := by
  have a0 := h0.1
  have a1 := h0.2
  have w1 : w32 (m 0 11 + 1) = m 0 11 + 1 := w32_id (by omega) (by omega)
  simp only [p100_0, p100_1, p100_4, p100_5, p100_8, p100_9, p100_12, p100_13, p100_16, p100_17, p100_20, p100_21, p100_22, p100_23, p100_24, p100_27, p100_28, p100_29, p100_32, K_0, K_5, L_5, sh_0_10 S, a0, a1, w1, n_1010, up_at, b2_T, b2_F, Int.reduceEq, Int.reduceLT, Int.reduceLE, Int.reduceAdd, Int.reduceSub, Int.reduceMul, Int.reduceNeg, reduceIte, if_true, if_false, true_or, or_true, false_or, or_false, false_and, and_false, eq_self, not_false_eq_true, not_true_eq_false, true_and, and_true, List.cons_append, List.nil_append, List.append_nil, b2_0, b2_1, b2_01, Classical.not_not]
end FITS
