/-! a new object of each is in the joint state -/
def EqU (n : Int) (m g : Mm) : Prop := ∀ b j, 0 ≤ b → b < n → m b j = g b j
section BEGIN2
variable {m g : Mm} {q n a i v L r p f : Int} {u : Int → Int}
theorem EqU_le (h : EqU n m g) (hn : i ≤ n) : EqU i m g := fun b j h0 h1 => h b j h0 (by omega)
theorem EqU_al (h : EqU n m g) (hn : i ≤ n + 1) : EqU i (al m n u) (al g n u) := fun b j h0 h1 => by
  rw [al_at, al_at]
  by_cases hb : b = n
  · rw [if_pos hb, if_pos hb]
  · rw [if_neg hb, if_neg hb]
    exact h b j h0 (by omega)
theorem EqU_up (h : EqU n m g) : EqU n (up m a i v) (up g a i v) := fun b j h0 h1 => by
  rw [up_at, up_at]
  by_cases hb : b = a ∧ j = i
  · rw [if_pos hb, if_pos hb]
  · rw [if_neg hb, if_neg hb]
    exact h b j h0 h1
theorem EqU_mk : ∀ (l : List (Nat × Int)) (L : Int) (m g : Mm), EqU L m g → EqU (L + l.length) (mkA q l L m) (mkA q l L g) := by
  intro l
  induction l with
  | nil =>
    intro L m g h
    exact EqU_le h (by show L + ((0 : Nat) : Int) ≤ L; omega)
  | cons z t ih =>
    intro L m g h
    have y := ih (L + 1) _ _ (EqU_up (a := q) (i := z.2) (v := L) (EqU_al (u := dfl z.1) h (Int.le_refl _)))
    refine EqU_le y ?_
    rw [List.length_cons]
    omega
theorem mk_neg (hq : 0 ≤ q) {b j : Int} (hb : b < 0) : ∀ (l : List (Nat × Int)) (L : Int) (m : Mm), 0 ≤ L → mkA q l L m b j = m b j := by
  intro l
  induction l with
  | nil => exact fun _ _ _ => rfl
  | cons z t ih =>
    intro L m hL
    have e : mkA q (z :: t) L m = mkA q t (L + 1) (up (al m L (dfl z.1)) q z.2 L) := rfl
    rw [e, ih (L + 1) _ (by omega), up_at, if_neg (by omega), al_at, if_neg (by omega)]
theorem EqU_A (h : EqU 1 m g) : EqU 9 (mA m) (mA g) := EqU_mk lF 1 m g h
theorem EqU_Pl (h : EqU q m g) : EqU (q + 9) (mPl q m) (mPl q g) := by
  have y := EqU_mk (q := q) lP (q + 1) _ _ (EqU_al (u := dfl 3) h (Int.le_refl _))
  refine EqU_le y ?_
  show q + 9 ≤ q + 1 + ((8 : Nat) : Int)
  omega
theorem EqU_Ca (h : EqU 27 m g) : EqU 34 (mCa m) (mCa g) := EqU_mk (q := 27) lC 28 _ _ (EqU_al (u := dfl 1) h (by decide))
theorem EqU_Rn (h : EqU r m g) : EqU (r + 18) (mRn r p f m) (mRn r p f g) := by
  have y1 := EqU_mk (q := r + 1) lL (r + 2) _ _ (EqU_al (i := r + 2) (u := dfl 2) (EqU_al (u := dfl 5) h (Int.le_refl _)) (by omega))
  have y2 := EqU_mk (q := r + 6) lBa (r + 7) _ _ (EqU_al (i := r + 7) (n := r + 6) (u := dfl 0) (EqU_le y1 (by show r + 6 ≤ r + 2 + ((4 : Nat) : Int); omega)) (by omega))
  have y3 := EqU_mk (q := r) lR (r + 13) _ _ (EqU_up (a := r) (i := 2) (v := r + 6) (EqU_le (i := r + 13) y2 (by show r + 13 ≤ r + 7 + ((6 : Nat) : Int); omega)))
  refine EqU_up (EqU_up (EqU_up (EqU_up (EqU_le y3 ?_))))
  show r + 18 ≤ r + 13 + ((5 : Nat) : Int)
  omega
theorem EqU_S8 (h : EqU 80 m g) : EqU 81 (mS8 m) (mS8 g) := EqU_up (EqU_up (EqU_up (EqU_up (EqU_up (EqU_up (EqU_up (EqU_up (EqU_up (EqU_al (u := dfl 10) h (by decide))))))))))
theorem EqU_0 : EqU 114 (m0 m) (m0 g) := by
  have h0 : EqU 0 m g := fun b j a b => by omega
  have h1 : EqU 1 (al m 0 (dfl 6)) (al g 0 (dfl 6)) := EqU_al h0 (by decide)
  have h2 := EqU_Pl (q := 18) (EqU_le (EqU_Pl (q := 9) (EqU_A h1)) (by decide))
  have h3 := EqU_up (a := 0) (i := 1) (v := 18) (EqU_up (a := 0) (i := 0) (v := 9) (EqU_Ca (EqU_le h2 (by decide))))
  have h4 := EqU_Rn (r := 52) (p := 18) (f := 5) (EqU_le (EqU_Rn (r := 34) (p := 9) (f := 4) h3) (by decide))
  have h5 := EqU_al (i := 71) (u := dfl 7) (n := 70) (EqU_le h4 (by decide)) (by decide)
  have h6 := EqU_mk (q := 70) lM1 71 _ _ h5
  have h7 := EqU_mk (q := 70) lM2 81 _ _ (EqU_S8 (EqU_le h6 (by decide)))
  exact EqU_le h7 (by decide)
theorem m0_neg {b j : Int} (hb : b < 0) : m0 m b j = m b j := by
  unfold m0
  rw [mk_neg (by decide) hb _ _ _ (by decide)]
  unfold mS8
  rw [up_at, if_neg (by omega), up_at, if_neg (by omega), up_at, if_neg (by omega), up_at, if_neg (by omega), up_at, if_neg (by omega), up_at, if_neg (by omega), up_at, if_neg (by omega), up_at, if_neg (by omega), up_at, if_neg (by omega), al_at, if_neg (by omega)]
  rw [mk_neg (by decide) hb _ _ _ (by decide), al_at, if_neg (by omega)]
  have rn : ∀ (r p f : Int) (m : Mm), 0 ≤ r → mRn r p f m b j = m b j := fun r p f m hr => by
    unfold mRn
    rw [up_at, if_neg (by omega), up_at, if_neg (by omega), up_at, if_neg (by omega), up_at, if_neg (by omega), mk_neg hr hb _ _ _ (by omega), up_at, if_neg (by omega), mk_neg (by omega) hb _ _ _ (by omega), al_at, if_neg (by omega), mk_neg (by omega) hb _ _ _ (by omega), al_at, if_neg (by omega), al_at, if_neg (by omega)]
  have pl : ∀ (q : Int) (m : Mm), 0 ≤ q → mPl q m b j = m b j := fun q m hq => by
    unfold mPl
    rw [mk_neg hq hb _ _ _ (by omega), al_at, if_neg (by omega)]
  rw [rn _ _ _ _ (by decide), rn _ _ _ _ (by decide), up_at, if_neg (by omega), up_at, if_neg (by omega)]
  unfold mCa
  rw [mk_neg (by decide) hb _ _ _ (by decide), al_at, if_neg (by omega), pl _ _ (by decide), pl _ _ (by decide)]
  unfold mA
  rw [mk_neg (by decide) hb _ _ _ (by decide), al_at, if_neg (by omega)]
end BEGIN2
def z0 : Mm := m0 (fun _ _ => 0)
theorem z0_S : ∀ q ∈ SL, 0 ≤ q.1 ∧ z0 q.1 q.2.1 = q.2.2 := by decide +kernel
theorem z0_c : ∀ n : Nat, n < 96 → z0 10 n = 0 ∧ z0 11 n = 0 ∧ z0 12 n = 0 ∧ z0 14 n = 0 ∧ z0 72 n = 0 ∧ z0 76 n = 0 := by decide +kernel
theorem z0_8 : ∀ n : Nat, n < 8 → z0 3 n = 0 ∧ z0 71 n = 0 ∧ z0 1 n = -1 ∧ z0 2 n = -1 ∧ z0 80 n = -1 := by decide +kernel
theorem z0_f : (z0 9 8 = 0 ∧ z0 70 6 = 0 ∧ z0 0 6 = 0 ∧ z0 70 10 = 0 ∧ z0 35 4 = 0) ∧ (z0 0 9 = 0 ∧ z0 0 11 = 0 ∧ z0 0 13 = 0 ∧ z0 70 47 = 0 ∧ z0 70 49 = 0 ∧ z0 70 51 = 0) := by decide +kernel
theorem JS_0 {m : Mm} : JS dsB (m0 m) (m0 m) 0 := by
  have e : ∀ b j, 0 ≤ b → b < 114 → m0 m b j = z0 b j := fun b j => EqU_0 b j
  have S : Sh (m0 m) := fun q hq => by
    have y := z0_S q hq
    rw [e _ _ y.1 (SL_lt q hq)]
    exact y.2
  have c : ∀ c, isC c → m0 m 10 c = 0 ∧ m0 m 11 c = 0 ∧ m0 m 12 c = 0 ∧ m0 m 14 c = 0 ∧ m0 m 72 c = 0 ∧ m0 m 76 c = 0 := fun c hc => by
    have y := z0_c c.toNat (by have := hc.1; have := hc.2; omega)
    rw [show ((c.toNat : Nat) : Int) = c by have := hc.1; omega] at y
    rw [e _ _ (by decide) (by decide), e _ _ (by decide) (by decide), e _ _ (by decide) (by decide), e _ _ (by decide) (by decide), e _ _ (by decide) (by decide), e _ _ (by decide) (by decide)]
    exact y
  have k8 : ∀ s, 0 ≤ s → s < 8 → m0 m 3 s = 0 ∧ m0 m 71 s = 0 ∧ m0 m 1 s = -1 ∧ m0 m 2 s = -1 ∧ m0 m 80 s = -1 := fun s s0 s1 => by
    have y := z0_8 s.toNat (by omega)
    rw [show ((s.toNat : Nat) : Int) = s by omega] at y
    rw [e _ _ (by decide) (by decide), e _ _ (by decide) (by decide), e _ _ (by decide) (by decide), e _ _ (by decide) (by decide), e _ _ (by decide) (by decide)]
    exact y
  obtain ⟨⟨f1, f2, f3, f4, f5⟩, f6, f7, f8, f9, fa, fb⟩ := z0_f
  rw [← e _ _ (by decide) (by decide)] at f1 f2 f3 f4 f5 f6 f7 f8 f9 fa fb
  obtain ⟨M, hM⟩ : ∃ M, M = m0 m := ⟨_, rfl⟩
  rw [← hM] at S c k8 f1 f2 f3 f4 f5 f6 f7 f8 f9 fa fb ⊢
  have ls : ∀ (A B x y b : Int), x = 0 → y = 0 → 0 ≤ b → LSX M A x M B y b := fun A B x y b hx hy hb => by
    rw [hx, hy]
    exact ⟨rfl, ⟨by decide, hb⟩, fun i i0 i1 => by omega⟩
  have no : ∀ s a, isH s → ¬ own M s a := fun s a hs h => by
    have y := k8 s hs.1 hs.2
    unfold own at h
    rw [y.2.2.1, y.2.2.2.1] at h
    omega
  refine ⟨⟨S, fun d hd => ?_, ⟨by rw [f2]; decide, fun i i0 i1 => by omega⟩, fun d hd h => absurd (c d hd).2.2.2.2.1 h⟩, S, ?_, fun d hd _ => ⟨(c d hd).2.1, (c d hd).2.2.1⟩, by rw [f3, f4]; decide, fun k k0 k1 => by rw [(k8 k k0 k1).1, (k8 k k0 k1).2.1], Or.inl ⟨f3, f5⟩, ls _ _ _ _ _ f6 f9 (by decide), ls _ _ _ _ _ f7 fa (by decide), ls _ _ _ _ _ f8 fb (by decide), ⟨fun s hs => Or.inl ⟨(k8 s hs.1 hs.2).2.2.1, (k8 s hs.1 hs.2).2.2.2.1, (k8 s hs.1 hs.2).2.2.2.2⟩, fun s a hs h => absurd h (no s a hs), fun s t a hs ht h1 h2 => absurd h1 (no s a hs)⟩, ⟨[], (List.append_nil _).symm⟩, by rw [dsB_len]; decide, by omega⟩
  · have k := (c d hd).2.2.2.2.1
    have b := (c d hd).2.2.2.2.2
    refine ⟨by rw [k]; decide, ?_, ?_, ?_, ?_, ?_, ?_, Or.inl b, ?_, ?_⟩ <;> intro y <;> first | (rw [k] at y; omega) | (rw [b] at y; omega)
  · refine ⟨fun d hd => ?_, fun d hd h => absurd (c d hd).2.2.2.2.1 h, fun d hd h => ?_, fun d hd => ?_, ?_, fun i i0 i1 => ?_⟩
    · exact (c d hd).1.trans (c d hd).2.2.2.2.1.symm
    · rw [(c d hd).2.2.2.2.1] at h
      omega
    · exact (c d hd).2.2.2.1.trans (c d hd).2.2.2.2.2.symm
    · exact f1.trans f2.symm
    · omega
