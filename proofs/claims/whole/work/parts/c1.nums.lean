/-! numbers of the small machine -/
def b2 (p : Prop) [Decidable p] : Int := if p then 1 else 0
theorem b2_t {p : Prop} [Decidable p] (h : p) : b2 p = 1 := if_pos h
theorem b2_f {p : Prop} [Decidable p] (h : ¬ p) : b2 p = 0 := if_neg h
theorem b2_0 {p : Prop} [Decidable p] : (b2 p = 0) = ¬ p := by
  by_cases h : p
  · simp [b2, h]
  · simp [b2, h]
theorem b2_1 {p : Prop} [Decidable p] : (b2 p = 1) = p := by
  by_cases h : p
  · simp [b2, h]
  · simp [b2, h]
theorem b2_01 {p : Prop} [Decidable p] : (b2 p = 0 ∨ b2 p = 1) = True := by
  by_cases h : p
  · simp [b2, h]
  · simp [b2, h]
theorem w32_id {z : Int} (h1 : -2147483648 ≤ z) (h2 : z < 2147483648) : w32 z = z := j_toInt h1 h2
theorem jdiv_nn {x y : Int} (h0 : 0 ≤ x) (h1 : x < 2147483648) (h2 : 0 < y) (h3 : y < 2147483648) : jdiv x y = x / y := by
  unfold jdiv
  rw [Int32.toInt_div, j_toInt (by omega) h1, j_toInt (by omega) h3, Int.tdiv_eq_ediv_of_nonneg h0]
  have e1 : 0 ≤ x / y := Int.ediv_nonneg h0 (by omega)
  have e2 : x / y ≤ x := Int.ediv_le_self y h0
  exact Int.bmod_eq_of_le (by omega) (by omega)
theorem jrem_nn {x y : Int} (h0 : 0 ≤ x) (h1 : x < 2147483648) (h2 : 0 < y) (h3 : y < 2147483648) : jrem x y = x % y := by
  have e : jrem x y = w32 (x - jdiv x y * y) := by
    unfold jrem jdiv w32
    rw [Int32.ofInt_sub, Int32.ofInt_mul, of_toInt]
  rw [e, jdiv_nn h0 h1 h2 h3]
  have e1 : x - x / y * y = x % y := by
    have := Int.mul_ediv_add_emod x y
    have h5 := Int.mul_comm y (x / y)
    omega
  rw [e1]
  have e2 := Int.emod_nonneg x (show y ≠ 0 by omega)
  have e3 := Int.emod_lt_of_pos x h2
  exact w32_id (by omega) (by omega)
theorem up_at {m : Mm} {a i v b j : Int} : up m a i v b j = if b = a ∧ j = i then v else m b j := rfl
theorem Sh.up {m : Mm} (S : Sh m) {a i v : Int} (h : ∀ q ∈ SL, ¬ (q.1 = a ∧ q.2.1 = i)) : Sh (up m a i v) := by
  intro q hq
  rw [up_at, if_neg (h q hq)]
  exact S q hq
theorem q_eq {ds : Ds} {m : Mm} {Q : Ds → Mm → List MV → Prop} {t : Nat} {a b : Int} (h : a = b) : Q ds m [(t, a)] = Q ds m [(t, b)] := by rw [h]
theorem b2_T {h : Decidable True} : @b2 True h = 1 := b2_t trivial
theorem b2_F {h : Decidable False} : @b2 False h = 0 := b2_f id
