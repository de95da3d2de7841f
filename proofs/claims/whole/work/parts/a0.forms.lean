/-! the steps' forms: what a step of each form says of WP -/
section FORMS
variable {M pc pc' pb len x y : Nat} {i : Instr} {ls st ls' st' lb sb2 z as r : List MV} {ds ds' db : Ds} {m m' mb : Mm} {Q : Ds → Mm → List MV → Prop}
theorem stp_of (h : mjCode M pc = some (i, len, x, y)) : mjStp M pc ls st ds m = stpI i M (pc + len) pc x y ls st ds m := by
  rw [mjStp, h]
theorem P_nx (h : mjCode M pc = some (i, len, x, y)) (h2 : stpI i M (pc + len) pc x y ls st ds m = some ((0, z), (pc', ls', st', ds', m'))) : WP M pc ls st ds m Q = WP M pc' ls' st' ds' m' Q := WP_nx ((stp_of h).trans h2)
theorem WP_no (h : mjStp M pc ls st ds m = none) : WP M pc ls st ds m Q = False := by
  refine propext ⟨fun ⟨n, d2, m2, r, h1, h2⟩ => ?_, fun h => h.elim⟩
  cases n with
  | zero => cases h1
  | succ n => rw [mjRun, h] at h1; cases h1
theorem P_if {cnd : Prop} [Decidable cnd] (h : mjCode M pc = some (i, len, x, y)) (h2 : stpI i M (pc + len) pc x y ls st ds m = if cnd then nx pc' ls' st' ds' m' else nx pb lb sb2 db mb) : WP M pc ls st ds m Q = if cnd then WP M pc' ls' st' ds' m' Q else WP M pb lb sb2 db mb Q := by
  by_cases hc : cnd
  · rw [if_pos hc] at h2 ⊢
    exact P_nx h h2
  · rw [if_neg hc] at h2 ⊢
    exact P_nx h h2
theorem P_gd {cnd : Prop} [Decidable cnd] (h : mjCode M pc = some (i, len, x, y)) (h2 : stpI i M (pc + len) pc x y ls st ds m = if cnd then nx pc' ls' st' ds' m' else none) : WP M pc ls st ds m Q = (cnd ∧ WP M pc' ls' st' ds' m' Q) := by
  by_cases hc : cnd
  · rw [if_pos hc] at h2
    rw [P_nx h h2]
    exact propext ⟨fun q => ⟨hc, q⟩, fun q => q.2⟩
  · rw [if_neg hc] at h2
    rw [WP_no ((stp_of h).trans h2)]
    exact propext ⟨fun q => q.elim, fun q => hc q.1⟩
theorem P_dv {s0 : Int} {w : Int} (h : mjCode M pc = some (i, len, x, y)) (h2 : stpI i M (pc + len) pc x y ls st ds m = match (if s0 = 0 then none else some w) with | some z => nx pc' ls' ((0, z) :: st') ds m | none => none) : WP M pc ls st ds m Q = (¬ s0 = 0 ∧ WP M pc' ls' ((0, w) :: st') ds m Q) := by
  by_cases hc : s0 = 0
  · rw [if_pos hc] at h2
    rw [WP_no ((stp_of h).trans h2)]
    exact propext ⟨fun q => q.elim, fun q => q.1 hc⟩
  · rw [if_neg hc] at h2
    rw [P_nx h h2]
    exact propext ⟨fun q => ⟨hc, q⟩, fun q => q.2⟩
theorem P_pf {c1 : Prop} [Decidable c1] {u : Nat} (h : mjCode M pc = some (i, len, x, y)) (h2 : stpI i M (pc + len) pc x y ls st ds m = if u = u ∧ c1 then nx pc' ls' st' ds' m' else none) : WP M pc ls st ds m Q = (c1 ∧ WP M pc' ls' st' ds' m' Q) := by
  rw [P_gd h h2]
  simp
theorem P_g3 {c1 c2 c3 : Prop} [Decidable c1] [Decidable c2] [Decidable c3] (h : mjCode M pc = some (i, len, x, y)) (h2 : stpI i M (pc + len) pc x y ls st ds m = if c1 ∧ c2 ∧ c3 then nx pc' ls' st' ds' m' else none) : WP M pc ls st ds m Q = (c1 ∧ c2 ∧ c3 ∧ WP M pc' ls' st' ds' m' Q) := by
  rw [P_gd h h2]
  exact propext ⟨fun ⟨⟨a, b, c⟩, d⟩ => ⟨a, b, c, d⟩, fun ⟨a, b, c, d⟩ => ⟨⟨a, b, c⟩, d⟩⟩
theorem P_s3 {u : Nat} {c1 c2 c3 : Prop} [Decidable c1] [Decidable c2] [Decidable c3] (h : mjCode M pc = some (i, len, x, y)) (h2 : stpI i M (pc + len) pc x y ls st ds m = if u = u ∧ True ∧ c1 ∧ c2 ∧ c3 then nx pc' ls' st' ds' m' else none) : WP M pc ls st ds m Q = (c1 ∧ c2 ∧ c3 ∧ WP M pc' ls' st' ds' m' Q) := by
  rw [P_gd h h2]
  exact propext ⟨fun ⟨⟨_, _, a, b, c⟩, d⟩ => ⟨a, b, c, d⟩, fun ⟨a, b, c, d⟩ => ⟨⟨rfl, trivial, a, b, c⟩, d⟩⟩
theorem P_s4 {u : Nat} {c0 c1 c2 c3 : Prop} [Decidable c0] [Decidable c1] [Decidable c2] [Decidable c3] (h : mjCode M pc = some (i, len, x, y)) (h2 : stpI i M (pc + len) pc x y ls st ds m = if u = u ∧ c0 ∧ c1 ∧ c2 ∧ c3 then nx pc' ls' st' ds' m' else none) : WP M pc ls st ds m Q = (c0 ∧ c1 ∧ c2 ∧ c3 ∧ WP M pc' ls' st' ds' m' Q) := by
  rw [P_gd h h2]
  exact propext ⟨fun ⟨⟨_, e, a, b, c⟩, d⟩ => ⟨e, a, b, c, d⟩, fun ⟨e, a, b, c, d⟩ => ⟨⟨rfl, e, a, b, c⟩, d⟩⟩
theorem P_sc {c1 c2 : Prop} [Decidable c1] [Decidable c2] {u : Nat} (h : mjCode M pc = some (i, len, x, y)) (h2 : stpI i M (pc + len) pc x y ls st ds m = if u = mjLaw ∧ c1 ∧ c2 then nx pc' ls' st' ds' m' else none) (hu : u = mjLaw := by rfl) : WP M pc ls st ds m Q = (c1 ∧ c2 ∧ WP M pc' ls' st' ds' m' Q) := by
  rw [P_gd h h2]
  exact propext ⟨fun ⟨⟨_, b, c⟩, d⟩ => ⟨b, c, d⟩, fun ⟨b, c, d⟩ => ⟨⟨hu, b, c⟩, d⟩⟩
def mkLX (X : Nat) (as : List MV) : List MV := as.flatMap sl1 ++ List.replicate (X - (as.flatMap sl1).length) (3, 0)
theorem P_cs {c X : Nat} {l0 : List MV} (h : mjCode M pc = some (i, len, x, y)) (hx : mjX c = X) (hy : stpI i M (pc + len) pc x y ls st ds m = mjCall false (c + 1) y pc' ls st ds m) (h1 : Nat.ble y st.length = true) (h2 : (st.take y).all (fun v => Nat.ble v.1 2) = true) (h3 : Nat.ble ((st.drop y).map cat).sum 8 = true) (h4 : Nat.ble (((st.take y).reverse).map cat).sum X = true) (h5 : mkLX X (st.take y).reverse = l0) (h6 : st.drop y = st') : WP M pc ls st ds m Q = WP c 0 l0 [] ds m (fun d2 m2 r2 => WP M pc' ls (r2 ++ st') d2 m2 Q) := by
  subst h5 h6
  have e1 : mjStp M pc ls st ds m = some ((c + 2, (st.take y).reverse), (pc', ls, st.drop y, ds, m)) := by
    rw [stp_of h, hy]
    unfold mjCall
    rw [if_pos ⟨Nat.le_of_ble_eq_true h1, h2, Nat.le_of_ble_eq_true h3, by rw [Nat.add_sub_cancel, hx]; exact Nat.le_of_ble_eq_true h4, fun q => by cases q⟩]
  rw [WP_call e1]
  unfold mkL mkLX
  rw [hx]
theorem P_cv {c X o : Nat} {a : Int} {l0 as1 : List MV} (h : mjCode M pc = some (i, len, x, y)) (hx : mjX c = X) (ho : mjO c = o) (hy : stpI i M (pc + len) pc x y ls st ds m = mjCall true (c + 1) y pc' ls st ds m) (h1 : Nat.ble y st.length = true) (h2 : (st.take y).all (fun v => Nat.ble v.1 2) = true) (h3 : Nat.ble ((st.drop y).map cat).sum 8 = true) (h4 : Nat.ble (((st.take y).reverse).map cat).sum X = true) (h5 : mkLX X (st.take y).reverse = l0) (h6 : st.drop y = st') (hr : (st.take y).reverse = (2, a) :: as1) : WP M pc ls st ds m Q = (dk ds a = o ∧ WP c 0 l0 [] ds m (fun d2 m2 r2 => WP M pc' ls (r2 ++ st') d2 m2 Q)) := by
  subst h5 h6 ho
  by_cases hd : dk ds a = mjO c
  · have e1 : mjStp M pc ls st ds m = some ((c + 2, (st.take y).reverse), (pc', ls, st.drop y, ds, m)) := by
      rw [stp_of h, hy]
      unfold mjCall
      rw [if_pos ⟨Nat.le_of_ble_eq_true h1, h2, Nat.le_of_ble_eq_true h3, by rw [Nat.add_sub_cancel, hx]; exact Nat.le_of_ble_eq_true h4, fun _ => by rw [Nat.add_sub_cancel, hr]; simp [rcv, hd]⟩]
    rw [WP_call e1]
    unfold mkL mkLX
    rw [hx]
    exact propext ⟨fun q => ⟨hd, q⟩, fun q => q.2⟩
  · have e1 : mjStp M pc ls st ds m = none := by
      rw [stp_of h, hy]
      unfold mjCall
      rw [if_neg]
      rintro ⟨-, -, -, -, h5⟩
      have := h5 rfl
      rw [Nat.add_sub_cancel, hr] at this
      simp [rcv] at this
      exact hd this
    rw [WP_no e1]
    exact propext ⟨fun q => q.elim, fun q => hd q.1⟩
theorem P_ri {v : Int} (h : mjCode M pc = some (.ireturn, len, x, y)) (hk : mjK M = 1) : WP M pc ls [(0, v)] ds m Q = Q ds m [(0, v)] := by
  refine WP_ret ((stp_of h).trans (?_ : _ = some ((1, [(0, v)]), (pc, ls, [(0, v)], ds, m))))
  simp [stpI, mjRet, hk]
theorem P_rb {v : Int} (h : mjCode M pc = some (.ireturn, len, x, y)) (hk : mjK M = 2) : WP M pc ls [(0, v)] ds m Q = ((v = 0 ∨ v = 1) ∧ Q ds m [(0, v)]) := by
  by_cases hv : v = 0 ∨ v = 1
  · rw [WP_ret ((stp_of h).trans (?_ : _ = some ((1, [(0, v)]), (pc, ls, [(0, v)], ds, m))))]
    · exact propext ⟨fun q => ⟨hv, q⟩, fun q => q.2⟩
    · simp [stpI, mjRet, hk, hv]
  · rw [WP_no ((stp_of h).trans (?_ : _ = none))]
    · exact propext ⟨fun q => q.elim, fun q => hv q.1⟩
    · simp [stpI, mjRet, hk]
      omega
theorem P_rl {v : Int} (h : mjCode M pc = some (.lreturn, len, x, y)) (hk : mjK M = 3) : WP M pc ls [(1, v)] ds m Q = Q ds m [(1, v)] := by
  refine WP_ret ((stp_of h).trans (?_ : _ = some ((1, [(1, v)]), (pc, ls, [(1, v)], ds, m))))
  simp [stpI, mjRet, hk]
theorem P_ra {v : Int} (h : mjCode M pc = some (.areturn, len, x, y)) (hk : mjK M = 4) : WP M pc ls [(2, v)] ds m Q = Q ds m [(2, v)] := by
  refine WP_ret ((stp_of h).trans (?_ : _ = some ((1, [(2, v)]), (pc, ls, [(2, v)], ds, m))))
  simp [stpI, mjRet, hk]
theorem P_rv (h : mjCode M pc = some (.return_, len, x, y)) (hk : mjK M = 0) : WP M pc ls [] ds m Q = Q ds m [] := by
  refine WP_ret ((stp_of h).trans (?_ : _ = some ((1, []), (pc, ls, [], ds, m))))
  simp [stpI, hk]
theorem P_lk {d : Int} {ps : Array (Int × Int)} {v off : Int} {tgt : Nat} (h : mjCode M pc = some (.lookupswitch d ps, len, x, y)) (e : Op.lookupswitch.offset ps.toList d v = off) (ht : (pc : Int) + off = (tgt : Int)) : WP M pc ls ((0, v) :: st) ds m Q = WP M tgt ls st ds m Q := by
  refine P_nx (z := []) h ?_
  show (if 0 ≤ (pc : Int) + Op.lookupswitch.offset ps.toList d v then nx ((pc : Int) + Op.lookupswitch.offset ps.toList d v).toNat ls st ds m else none) = _
  rw [e, ht, if_pos (Int.natCast_nonneg _), Int.toNat_natCast]
  rfl
end FORMS
