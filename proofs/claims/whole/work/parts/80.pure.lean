/-! what a run of the small machine keeps: the memory's sorts, the cells that are there, what lies below address 0 -/
def tgo (k : Nat) (j : Int) : Nat := if k < 8 then fTag k j.toNat else if k = 12 then 1 else if k = 13 ∨ k = 14 then 2 else 0
def vok (N : Nat) (v : MV) : Prop := (v.1 = 0 → -2147483648 ≤ v.2 ∧ v.2 < 2147483648) ∧ (v.1 = 1 → -9223372036854775808 ≤ v.2 ∧ v.2 < 9223372036854775808) ∧ (v.1 = 2 → -1 ≤ v.2 ∧ v.2 < N)
def mok (ds : Ds) (m : Mm) : Prop := ∀ (i : Nat) (d : Nat × Nat), ds[i]? = some d → d.1 < 15 ∧ (d.1 < 8 → d.2 = cF d.1) ∧ d.2 ≤ 30000 ∧ ∀ j : Int, vok ds.length (tgo d.1 j, m i j)
def ext (ds ds' : Ds) : Prop := ∃ t, ds' = ds ++ t
theorem ext.rf {ds : Ds} : ext ds ds := ⟨[], by simp⟩
theorem ext.tr {a b c : Ds} (h : ext a b) (k : ext b c) : ext a c := by
  obtain ⟨t, rfl⟩ := h
  obtain ⟨u, rfl⟩ := k
  exact ⟨t ++ u, by simp⟩
theorem ext.len {a b : Ds} (h : ext a b) : a.length ≤ b.length := by
  obtain ⟨t, rfl⟩ := h
  simp
def sl (ds : Ds) : Nat := (ds.map (·.2)).sum
theorem ext.sl {a b : Ds} (h : ext a b) : sl a ≤ sl b := by
  obtain ⟨t, rfl⟩ := h
  simp [_root_.Jvm.Pilot.@@N@@.sl]
theorem vok.mono {N N' : Nat} {v : MV} (h : vok N v) (hn : N ≤ N') : vok N' v := ⟨h.1, h.2.1, fun e => ⟨(h.2.2 e).1, by have := (h.2.2 e).2; omega⟩⟩
theorem vok_i (N : Nat) (x : Int32) : vok N (0, x.toInt) := by
  have h1 := Int32.le_toInt x
  have h2 := Int32.toInt_lt x
  exact ⟨fun _ => ⟨h1, h2⟩, fun h => (by cases h), fun h => (by cases h)⟩
theorem vok_l (N : Nat) (x : Int64) : vok N (1, x.toInt) := by
  have h1 := Int64.le_toInt x
  have h2 := Int64.toInt_lt x
  exact ⟨fun h => (by cases h), fun _ => ⟨h1, h2⟩, fun h => (by cases h)⟩
theorem vok_is {N : Nat} {z : Int} (h1 : -2147483648 ≤ z) (h2 : z < 2147483648) : vok N (0, z) := ⟨fun _ => ⟨h1, h2⟩, fun h => (by cases h), fun h => (by cases h)⟩
theorem vok_ls {N : Nat} {z : Int} (h1 : -9223372036854775808 ≤ z) (h2 : z < 9223372036854775808) : vok N (1, z) := ⟨fun h => (by cases h), fun _ => ⟨h1, h2⟩, fun h => (by cases h)⟩
theorem vok_r {N : Nat} {z : Int} (h1 : -1 ≤ z) (h2 : z < N) : vok N (2, z) := ⟨fun h => (by cases h), fun h => (by cases h), fun _ => ⟨h1, h2⟩⟩
theorem vok_bop {N : Nat} {i : Instr} {x y z : Int} (h : bop i x y = some z) : vok N (0, z) := by
  unfold bop at h
  split at h <;> (try split at h) <;> first | (cases h; done) | (cases h; exact vok_i N _)
theorem dk_get {ds : Ds} {a : Int} {k : Nat} (h : dk ds a = k) (hk : k ≠ 99) : ∃ (n : Nat) (d : Nat × Nat), a = (n : Int) ∧ ds[n]? = some d ∧ d.1 = k ∧ dl ds a = d.2 ∧ n < ds.length := by
  cases a with
  | negSucc n => exact absurd h.symm hk
  | ofNat n =>
    simp only [dk, dl] at h ⊢
    cases hd : ds[n]? with
    | none => simp [List.getD, hd] at h; exact absurd h.symm hk
    | some d =>
      simp [List.getD, hd] at h
      exact ⟨n, d, rfl, hd, h, by simp [hd], (List.getElem?_eq_some_iff.mp hd).1⟩
def nonneg (m m' : Mm) : Prop := ∀ a : Int, a < 0 → m' a = m a
theorem mok_up {ds : Ds} {m : Mm} (h : mok ds m) {n : Nat} {d : Nat × Nat} (hd : ds[n]? = some d) {i v : Int} (hv : vok ds.length (tgo d.1 i, v)) : mok ds (up m n i v) := by
  intro k e he
  obtain ⟨h1, h2, h3, h4⟩ := h k e he
  refine ⟨h1, h2, h3, fun j => ?_⟩
  unfold up
  by_cases hc : (k : Int) = n ∧ j = i
  · obtain ⟨hk, rfl⟩ := hc
    have : k = n := by omega
    subst this
    rw [hd] at he
    cases he
    rw [if_pos ⟨rfl, rfl⟩]
    exact hv
  · rw [if_neg hc]
    exact h4 j
theorem up_neg {m : Mm} {n : Nat} {i v : Int} : nonneg m (up m n i v) := by
  intro a ha
  funext j
  unfold up
  rw [if_neg]
  omega
theorem mok_al {ds : Ds} {m : Mm} (h : mok ds m) {k n : Nat} (hk : k < 15) (hc : k < 8 → n = cF k) (hn : n ≤ 30000) : mok (ds ++ [(k, n)]) (al m (ds.length : Int) (dfl k)) := by
  intro i e he
  have hl : (ds ++ [(k, n)]).length = ds.length + 1 := by simp
  by_cases hi : i < ds.length
  · rw [List.getElem?_append_left hi] at he
    obtain ⟨h1, h2, h3, h4⟩ := h i e he
    refine ⟨h1, h2, h3, fun j => ?_⟩
    unfold al
    rw [if_neg (by omega), hl]
    exact (h4 j).mono (by omega)
  · rw [List.getElem?_append_right (by omega)] at he
    have h0 : i - ds.length < 1 := (List.getElem?_eq_some_iff.mp he).1
    have hi0 : i = ds.length := by omega
    subst hi0
    rw [Nat.sub_self] at he
    cases he
    refine ⟨hk, hc, hn, fun j => ?_⟩
    unfold al
    rw [if_pos rfl, hl]
    refine ⟨fun _ => ?_, fun _ => ?_, fun ht => ?_⟩
    · unfold dfl
      split <;> (try split) <;> (try split) <;> omega
    · unfold dfl
      split <;> (try split) <;> (try split) <;> omega
    · unfold dfl
      split <;> (try split) <;> (try split) <;> omega
theorem al_neg {m : Mm} {n : Nat} {f : Int → Int} : nonneg m (al m n f) := by
  intro a ha
  funext j
  unfold al
  rw [if_neg]
  omega
theorem mok_cpy {ds : Ds} {m : Mm} (h : mok ds m) {a b : Nat} {d e : Nat × Nat} (hd : ds[a]? = some d) (he : ds[b]? = some e) (h1 : d.1 = 12) (h2 : e.1 = 12) {sp dp n : Int} : mok ds (cpy m a sp b dp n) := by
  intro k f hf
  obtain ⟨g1, g2, g3, g4⟩ := h k f hf
  refine ⟨g1, g2, g3, fun j => ?_⟩
  unfold cpy
  by_cases hc : (k : Int) = b ∧ dp ≤ j ∧ j < dp + n
  · rw [if_pos hc]
    have hk : k = b := by omega
    subst hk
    rw [he] at hf
    cases hf
    have := (h a d hd).2.2.2 (sp + (j - dp))
    have e1 : tgo e.1 j = 1 := by rw [h2]; rfl
    have e2 : tgo d.1 (sp + (j - dp)) = 1 := by rw [h1]; rfl
    rw [e1]
    rw [e2] at this
    exact this
  · rw [if_neg hc]
    exact g4 j
theorem cpy_neg {m : Mm} {a b : Nat} {sp dp n : Int} : nonneg m (cpy m a sp b dp n) := by
  intro q hq
  funext j
  unfold cpy
  rw [if_neg]
  omega
/-- what one step keeps -/
def Kp (ds : Ds) (m : Mm) (as ls' st' : List MV) (ds' : Ds) (m' : Mm) : Prop := mok ds' m' ∧ (∀ v ∈ ls', vok ds'.length v) ∧ (∀ v ∈ st', vok ds'.length v) ∧ (∀ v ∈ as, vok ds'.length v) ∧ ext ds ds' ∧ nonneg m m'
section KP
variable {k pc' : Nat} {as ls ls' st st' : List MV} {ds ds' : Ds} {m m' : Mm}
theorem kp_nx {pn : Nat} {l1 s1 : List MV} {d1 : Ds} {m1 : Mm} (h : nx pn l1 s1 d1 m1 = some ((k, as), (pc', ls', st', ds', m'))) (h1 : mok d1 m1) (h2 : ∀ v ∈ l1, vok d1.length v) (h3 : ∀ v ∈ s1, vok d1.length v) (h4 : ext ds d1) (h5 : nonneg m m1) : Kp ds m as ls' st' ds' m' := by
  unfold nx at h
  cases h
  exact ⟨h1, h2, h3, fun v hv => (by cases hv), h4, h5⟩
theorem nn_rf : nonneg m m := fun _ _ => rfl
theorem al_c {N : Nat} {v : MV} {l : List MV} (h1 : vok N v) (h2 : ∀ w ∈ l, vok N w) : ∀ w ∈ v :: l, vok N w := by
  intro w hw
  rcases List.mem_cons.mp hw with rfl | h
  · exact h1
  · exact h2 w h
theorem al_set {N i : Nat} {v : MV} {l : List MV} (h1 : vok N v) (h2 : ∀ w ∈ l, vok N w) : ∀ w ∈ l.set i v, vok N w := by
  intro w hw
  rcases List.mem_or_eq_of_mem_set hw with h | h
  · exact h2 w h
  · rw [h]; exact h1
theorem al_t {N : Nat} {v : MV} {l : List MV} (h : ∀ w ∈ v :: l, vok N w) : ∀ w ∈ l, vok N w := fun w hw => h w (List.mem_cons_of_mem _ hw)
theorem al_h {N : Nat} {v : MV} {l : List MV} (h : ∀ w ∈ v :: l, vok N w) : vok N v := h v List.mem_cons_self
theorem al_m {N N' : Nat} {l : List MV} (h : ∀ w ∈ l, vok N w) (hn : N ≤ N') : ∀ w ∈ l, vok N' w := fun w hw => (h w hw).mono hn
variable (hm : mok ds m) (hl : ∀ v ∈ ls, vok ds.length v) (hs : ∀ v ∈ st, vok ds.length v)
theorem kp_ldv {t pn j : Nat} (hm : mok ds m) (hl : ∀ v ∈ ls, vok ds.length v) (hs : ∀ v ∈ st, vok ds.length v) (h : ldv t pn j ls st ds m = some ((k, as), (pc', ls', st', ds', m'))) : Kp ds m as ls' st' ds' m' := by
  unfold ldv at h
  split at h
  · next v hv =>
    split at h
    · exact kp_nx h hm hl (al_c (hl v (List.mem_of_getElem? hv)) hs) ext.rf nn_rf
    · cases h
  · cases h
theorem kp_stv {t pn j : Nat} (hm : mok ds m) (hl : ∀ v ∈ ls, vok ds.length v) (hs : ∀ v ∈ st, vok ds.length v) (h : stv t pn j ls st ds m = some ((k, as), (pc', ls', st', ds', m'))) : Kp ds m as ls' st' ds' m' := by
  unfold stv at h
  split at h
  · split at h
    · exact kp_nx h hm (al_set (al_h hs) hl) (al_t hs) ext.rf nn_rf
    · cases h
  · cases h
theorem kp_bin {i : Instr} {pn : Nat} (hm : mok ds m) (hl : ∀ v ∈ ls, vok ds.length v) (hs : ∀ v ∈ st, vok ds.length v) (h : bin i pn ls st ds m = some ((k, as), (pc', ls', st', ds', m'))) : Kp ds m as ls' st' ds' m' := by
  unfold bin at h
  split at h
  · split at h
    · next z hz => exact kp_nx h hm hl (al_c (vok_bop hz) (al_t (al_t hs))) ext.rf nn_rf
    · cases h
  · cases h
theorem kp_cmp {c : ClassFile.Cond} {t pn : Nat} {x y : Int} {r : List MV} (hm : mok ds m) (hl : ∀ v ∈ ls, vok ds.length v) (hs : ∀ v ∈ r, vok ds.length v) (h : cmp c t pn x y ls r ds m = some ((k, as), (pc', ls', st', ds', m'))) : Kp ds m as ls' st' ds' m' := by
  unfold cmp at h
  split at h <;> split at h <;> exact kp_nx h hm hl hs ext.rf nn_rf
theorem kp_ald {q t pn : Nat} (hq : q = 10 ∧ t = 0 ∨ q = 11 ∧ t = 0 ∨ q = 12 ∧ t = 1) (hm : mok ds m) (hl : ∀ v ∈ ls, vok ds.length v) (hs : ∀ v ∈ st, vok ds.length v) (h : ald q t pn ls st ds m = some ((k, as), (pc', ls', st', ds', m'))) : Kp ds m as ls' st' ds' m' := by
  unfold ald at h
  split at h
  · next j a r =>
    split at h
    · next hc =>
      obtain ⟨n, d, rfl, hd, e1, -⟩ := dk_get hc.1 (by omega)
      refine kp_nx h hm hl (al_c ?_ (al_t (al_t hs))) ext.rf nn_rf
      have h4 := (hm n d hd).2.2.2 j
      have e2 : tgo d.1 j = t := by
        rw [e1]
        rcases hq with ⟨rfl, rfl⟩ | ⟨rfl, rfl⟩ | ⟨rfl, rfl⟩ <;> rfl
      rw [e2] at h4
      exact h4
    · cases h
  · cases h
theorem kp_ast {q t pn : Nat} {ok : Int → Prop} [DecidablePred ok] (hq : q = 10 ∧ t = 0 ∨ q = 11 ∧ t = 0 ∨ q = 12 ∧ t = 1) (hm : mok ds m) (hl : ∀ v ∈ ls, vok ds.length v) (hs : ∀ v ∈ st, vok ds.length v) (h : ast q t pn ok ls st ds m = some ((k, as), (pc', ls', st', ds', m'))) : Kp ds m as ls' st' ds' m' := by
  unfold ast at h
  split at h
  · next u v j a r =>
    split at h
    · next hc =>
      obtain ⟨n, d, rfl, hd, e1, -⟩ := dk_get hc.2.2.1 (by omega)
      refine kp_nx h (mok_up hm hd ?_) hl (al_t (al_t (al_t hs))) ext.rf up_neg
      have h4 := al_h hs
      have e2 : tgo d.1 j = u := by
        rw [e1, hc.1]
        rcases hq with ⟨rfl, rfl⟩ | ⟨rfl, rfl⟩ | ⟨rfl, rfl⟩ <;> rfl
      rw [e2]
      exact h4
    · cases h
  · cases h
theorem kp_call {rc : Bool} {x y pn : Nat} (hm : mok ds m) (hl : ∀ v ∈ ls, vok ds.length v) (hs : ∀ v ∈ st, vok ds.length v) (h : mjCall rc x y pn ls st ds m = some ((k, as), (pc', ls', st', ds', m'))) : Kp ds m as ls' st' ds' m' := by
  unfold mjCall at h
  split at h
  · cases h
    exact ⟨hm, hl, fun v hv => hs v (List.mem_of_mem_drop hv), fun v hv => hs v (List.mem_of_mem_take (List.mem_reverse.mp hv)), ext.rf, nn_rf⟩
  · cases h
theorem kp_ret {t pc : Nat} {ok : Int → Prop} [DecidablePred ok] (hm : mok ds m) (hl : ∀ v ∈ ls, vok ds.length v) (hs : ∀ v ∈ st, vok ds.length v) (h : mjRet t ok pc ls st ds m = some ((k, as), (pc', ls', st', ds', m'))) : Kp ds m as ls' st' ds' m' := by
  unfold mjRet at h
  split at h
  · split at h
    · cases h
      exact ⟨hm, hl, hs, hs, ext.rf, nn_rf⟩
    · cases h
  · cases h
end KP
/-- what an entry's numbers must be for that (the constants are of their sorts, the made cells of theirs) -/
def okN (e : Ent) : Bool := match e with
  | (_, i, _, x, y) => match i with
    | .iconst n => decide (-2147483648 ≤ n ∧ n < 2147483648)
    | .bipush n => decide (-128 ≤ n ∧ n < 128)
    | .sipush n => decide (-32768 ≤ n ∧ n < 32768)
    | .ldc_w _ => decide (x < 2147483648)
    | .ldc2_w _ => decide (x < 9223372036854775808)
    | .getfield _ => decide (x < 8 ∧ fTag x y ≤ 2)
    | .putfield _ => decide (x < 8 ∧ fTag x y ≤ 2)
    | .newarray _ => decide (8 ≤ x ∧ x < 13 ∧ 10 ≤ x)
    | .anewarray _ => decide (x = 13 ∨ x = 14)
    | .new _ => decide (x < 8 ∧ cF x ≤ 30000)
    | _ => true
set_option maxHeartbeats 4000000 in
theorem kp_stp {i : Instr} {M pn pc x y len : Nat} {k pc' : Nat} {as ls ls' st st' : List MV} {ds ds' : Ds} {m m' : Mm} (hn : okN (pc, i, len, x, y) = true) (hm : mok ds m) (hscr : ∀ j, 0 ≤ j → j < m (-3) 0 → vok ds.length (0, m (-2) j)) (hL : vok ds.length (0, m (-3) 0)) (hl : ∀ v ∈ ls, vok ds.length v) (hs : ∀ v ∈ st, vok ds.length v) (h : stpI i M pn pc x y ls st ds m = some ((k, as), (pc', ls', st', ds', m'))) : Kp ds m as ls' st' ds' m' := by
  cases i
  all_goals first
    | (dsimp only [stpI] at h; cases h; done)
    | (dsimp only [stpI] at h; exact kp_ldv hm hl hs h)
    | (dsimp only [stpI] at h; exact kp_stv hm hl hs h)
    | (dsimp only [stpI] at h; exact kp_bin hm hl hs h)
    | (dsimp only [stpI] at h; exact kp_ald (by omega) hm hl hs h)
    | (dsimp only [stpI] at h; exact kp_ast (by omega) hm hl hs h)
    | (dsimp only [stpI] at h; exact kp_call hm hl hs h)
    | (dsimp only [stpI] at h; exact kp_ret hm hl hs h)
    | skip
  case iinc j n =>
    dsimp only [stpI] at h
    split at h
    · exact kp_nx h hm (al_set (vok_i _ _) hl) hs ext.rf nn_rf
    · cases h
  case iconst n =>
    simp only [okN, decide_eq_true_eq] at hn
    exact kp_nx h hm hl (al_c (vok_is hn.1 hn.2) hs) ext.rf nn_rf
  case bipush n =>
    simp only [okN, decide_eq_true_eq] at hn
    exact kp_nx h hm hl (al_c (vok_is (by omega) (by omega)) hs) ext.rf nn_rf
  case sipush n =>
    simp only [okN, decide_eq_true_eq] at hn
    exact kp_nx h hm hl (al_c (vok_is (by omega) (by omega)) hs) ext.rf nn_rf
  case lconst n => exact kp_nx h hm hl (al_c (vok_ls (by omega) (by omega)) hs) ext.rf nn_rf
  case ldc_w n =>
    simp only [okN, decide_eq_true_eq] at hn
    exact kp_nx h hm hl (al_c (vok_is (by omega) (by omega)) hs) ext.rf nn_rf
  case ldc2_w n =>
    simp only [okN, decide_eq_true_eq] at hn
    exact kp_nx h hm hl (al_c (vok_ls (by omega) (by omega)) hs) ext.rf nn_rf
  case aconst_null => exact kp_nx h hm hl (al_c (vok_r (by omega) (by omega)) hs) ext.rf nn_rf
  case dup =>
    dsimp only [stpI] at h
    split at h
    · split at h
      · cases h
      · exact kp_nx h hm hl (al_c (al_h hs) hs) ext.rf nn_rf
    · cases h
  case dup2 =>
    dsimp only [stpI] at h
    split at h
    · split at h
      · cases h
      · exact kp_nx h hm hl (al_c (al_h hs) (al_c (al_h (al_t hs)) hs)) ext.rf nn_rf
    · cases h
  case pop =>
    dsimp only [stpI] at h
    split at h
    · split at h
      · cases h
      · exact kp_nx h hm hl (al_t hs) ext.rf nn_rf
    · cases h
  case ineg =>
    dsimp only [stpI] at h
    split at h
    · exact kp_nx h hm hl (al_c (vok_i _ _) (al_t hs)) ext.rf nn_rf
    · cases h
  case i2l =>
    dsimp only [stpI] at h
    split at h
    · have h0 := (al_h hs).1 rfl
      exact kp_nx h hm hl (al_c (vok_ls (by simp only at h0; omega) (by simp only at h0; omega)) (al_t hs)) ext.rf nn_rf
    · cases h
  case l2i =>
    dsimp only [stpI] at h
    split at h
    · exact kp_nx h hm hl (al_c (vok_i _ _) (al_t hs)) ext.rf nn_rf
    · cases h
  case i2b =>
    dsimp only [stpI] at h
    split at h
    · exact kp_nx h hm hl (al_c (vok_i _ _) (al_t hs)) ext.rf nn_rf
    · cases h
  case i2s =>
    dsimp only [stpI] at h
    split at h
    · exact kp_nx h hm hl (al_c (vok_i _ _) (al_t hs)) ext.rf nn_rf
    · cases h
  case lshl =>
    dsimp only [stpI] at h
    split at h
    · exact kp_nx h hm hl (al_c (vok_l _ _) (al_t (al_t hs))) ext.rf nn_rf
    · cases h
  case lor =>
    dsimp only [stpI] at h
    split at h
    · exact kp_nx h hm hl (al_c (vok_l _ _) (al_t (al_t hs))) ext.rf nn_rf
    · cases h
  case land =>
    dsimp only [stpI] at h
    split at h
    · exact kp_nx h hm hl (al_c (vok_l _ _) (al_t (al_t hs))) ext.rf nn_rf
    · cases h
  case lcmp =>
    dsimp only [stpI] at h
    split at h
    · refine kp_nx h hm hl (al_c ?_ (al_t (al_t hs))) ext.rf nn_rf
      unfold jcmp
      split <;> (try split) <;> exact vok_is (by omega) (by omega)
    · cases h
  case ifCond c o =>
    dsimp only [stpI] at h
    split at h
    · exact kp_cmp hm hl (al_t hs) h
    · cases h
  case if_icmp c o =>
    dsimp only [stpI] at h
    split at h
    · exact kp_cmp hm hl (al_t (al_t hs)) h
    · cases h
  case goto o => exact kp_nx h hm hl hs ext.rf nn_rf
  case ifnull o =>
    dsimp only [stpI] at h
    split at h
    · split at h <;> exact kp_nx h hm hl (al_t hs) ext.rf nn_rf
    · cases h
  case ifnonnull o =>
    dsimp only [stpI] at h
    split at h
    · split at h <;> exact kp_nx h hm hl (al_t hs) ext.rf nn_rf
    · cases h
  case tableswitch d lo hi offs =>
    dsimp only [stpI] at h
    split at h
    · split at h
      · split at h
        · exact kp_nx h hm hl (al_t hs) ext.rf nn_rf
        · cases h
      · split at h
        · split at h
          · exact kp_nx h hm hl (al_t hs) ext.rf nn_rf
          · cases h
        · cases h
    · cases h
  case lookupswitch d ps =>
    dsimp only [stpI] at h
    split at h
    · split at h
      · exact kp_nx h hm hl (al_t hs) ext.rf nn_rf
      · cases h
    · cases h
  case getfield idx =>
    dsimp only [stpI] at h
    simp only [okN, decide_eq_true_eq] at hn
    split at h
    · next a r =>
      split at h
      · next hc =>
        obtain ⟨n, d, rfl, hd, e1, -⟩ := dk_get hc (by omega)
        refine kp_nx h hm hl (al_c ?_ (al_t hs)) ext.rf nn_rf
        have h4 := (hm n d hd).2.2.2 (y : Int)
        have e2 : tgo d.1 (y : Int) = fTag x y := by
          unfold tgo
          rw [e1, if_pos hn.1]
          simp
        rw [e2] at h4
        exact h4
      · cases h
    · cases h
  case putfield idx =>
    dsimp only [stpI] at h
    simp only [okN, decide_eq_true_eq] at hn
    split at h
    · next u v a r =>
      split at h
      · next hc =>
        obtain ⟨n, d, rfl, hd, e1, -⟩ := dk_get hc.2 (by omega)
        refine kp_nx h (mok_up hm hd ?_) hl (al_t (al_t hs)) ext.rf up_neg
        have h4 := al_h hs
        have e2 : tgo d.1 (y : Int) = u := by
          unfold tgo
          rw [e1, if_pos hn.1, hc.1]
          simp
        rw [e2]
        exact h4
      · cases h
    · cases h
  case iaload =>
    dsimp only [stpI] at h
    split at h
    · split at h
      · next hc => exact kp_nx h hm hl (al_c (hscr _ hc.2.1 hc.2.2) (al_t (al_t hs))) ext.rf nn_rf
      · cases h
    · exact kp_ald (by omega) hm hl hs h
  case aaload =>
    dsimp only [stpI] at h
    split at h
    · next j a r =>
      split at h
      · next hc =>
        have h0 : dk ds a ≠ 99 := by omega
        obtain ⟨n, d, rfl, hd, e1, -⟩ := dk_get rfl h0
        refine kp_nx h hm hl (al_c ?_ (al_t (al_t hs))) ext.rf nn_rf
        have h4 := (hm n d hd).2.2.2 j
        have e2 : tgo d.1 j = 2 := by
          unfold tgo
          rw [e1, if_neg (by omega), if_neg (by omega), if_pos (by omega)]
        rw [e2] at h4
        exact h4
      · cases h
    · cases h
  case aastore =>
    dsimp only [stpI] at h
    split at h
    · next v j a r =>
      split at h
      · next hc =>
        have h0 : dk ds a ≠ 99 := by omega
        obtain ⟨n, d, rfl, hd, e1, -⟩ := dk_get rfl h0
        refine kp_nx h (mok_up hm hd ?_) hl (al_t (al_t (al_t hs))) ext.rf up_neg
        have h4 := al_h hs
        have e2 : tgo d.1 j = 2 := by
          unfold tgo
          rw [e1, if_neg (by omega), if_neg (by omega), if_pos (by omega)]
        rw [e2]
        exact h4
      · cases h
    · cases h
  case arraylength =>
    dsimp only [stpI] at h
    split at h
    · split at h
      · exact kp_nx h hm hl (al_c hL (al_t hs)) ext.rf nn_rf
      · cases h
    · next a r =>
      split at h
      · next hc =>
        obtain ⟨n, d, rfl, hd, e1, e2, -⟩ := dk_get (ds := ds) (a := a) rfl (by omega)
        have := (hm n d hd).2.2.1
        exact kp_nx h hm hl (al_c (vok_is (by omega) (by omega)) (al_t hs)) ext.rf nn_rf
      · cases h
    · cases h
  case newarray t =>
    dsimp only [stpI] at h
    simp only [okN, decide_eq_true_eq] at hn
    split at h
    · split at h
      · refine kp_nx h (mok_al hm (by omega) (fun _ => by omega) (by omega)) (al_m hl (by simp)) (al_c (vok_r (by omega) (by simp; omega)) (al_m (al_t hs) (by simp))) ⟨_, rfl⟩ al_neg
      · cases h
    · cases h
  case anewarray t =>
    dsimp only [stpI] at h
    simp only [okN, decide_eq_true_eq] at hn
    split at h
    · split at h
      · refine kp_nx h (mok_al hm (by omega) (fun _ => by omega) (by omega)) (al_m hl (by simp)) (al_c (vok_r (by omega) (by simp; omega)) (al_m (al_t hs) (by simp))) ⟨_, rfl⟩ al_neg
      · cases h
    · cases h
  case new t =>
    dsimp only [stpI] at h
    simp only [okN, decide_eq_true_eq] at hn
    exact kp_nx h (mok_al hm (by omega) (fun _ => rfl) hn.2) (al_m hl (by simp)) (al_c (vok_r (by omega) (by simp; omega)) (al_m hs (by simp))) ⟨_, rfl⟩ al_neg
  case invokestatic idx =>
    dsimp only [stpI] at h
    split at h
    · split at h
      · split at h
        · next hc =>
          obtain ⟨n1, d1, rfl, hd1, e1, -⟩ := dk_get hc.1 (by omega)
          obtain ⟨n2, d2, rfl, hd2, e2, -⟩ := dk_get hc.2.1 (by omega)
          exact kp_nx h (mok_cpy hm hd1 hd2 e1 e2) hl (al_t (al_t (al_t (al_t (al_t hs))))) ext.rf cpy_neg
        · cases h
      · cases h
    · exact kp_call hm hl hs h
  case invokespecial idx =>
    dsimp only [stpI] at h
    split at h
    · split at h
      · split at h
        · exact kp_nx h hm hl (al_t hs) ext.rf nn_rf
        · cases h
      · cases h
    · exact kp_call hm hl hs h
  case return_ =>
    dsimp only [stpI] at h
    split at h
    · split at h
      · cases h
        exact ⟨hm, hl, fun v hv => (by cases hv), fun v hv => (by cases hv), ext.rf, nn_rf⟩
      · cases h
    · cases h
