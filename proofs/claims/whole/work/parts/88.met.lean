/-! CALLS, and the contract that a run of the small machine gives -/
def ScrP (m : Mm) : Prop := (∀ j, 0 ≤ j → j < m (-3) 0 → -2147483648 ≤ m (-2) j ∧ m (-2) j < 2147483648) ∧ -2147483648 ≤ m (-3) 0 ∧ m (-3) 0 < 2147483648
theorem ScrP.kept {m m' : Mm} (h : ScrP m) (hn : nonneg m m') : ScrP m' := by
  unfold ScrP
  rw [hn (-3) (by omega), hn (-2) (by omega)]
  exact h
def RetI (M pc : Nat) (r : List MV) : Prop := (decode (mjB M) pc = .ok (.ireturn, 1) ∧ ∃ v : Int, r = [(0, v)] ∧ (mjK M = 1 ∨ mjK M = 2 ∧ (v = 0 ∨ v = 1))) ∨ (decode (mjB M) pc = .ok (.lreturn, 1) ∧ ∃ v : Int, r = [(1, v)] ∧ mjK M = 3) ∨ (decode (mjB M) pc = .ok (.areturn, 1) ∧ ∃ v : Int, r = [(2, v)] ∧ mjK M = 4) ∨ (decode (mjB M) pc = .ok (.return_, 1) ∧ r = [] ∧ mjK M = 0)
theorem RetI.small {M pc : Nat} {r : List MV} (h : RetI M pc r) : r = [] ∨ ∃ v : MV, r = [v] ∧ v.1 ≤ 2 := by
  rcases h with ⟨-, v, rfl, -⟩ | ⟨-, v, rfl, -⟩ | ⟨-, v, rfl, -⟩ | ⟨-, rfl, -⟩
  · exact Or.inr ⟨_, rfl, by simp⟩
  · exact Or.inr ⟨_, rfl, by simp⟩
  · exact Or.inr ⟨_, rfl, by simp⟩
  · exact Or.inl rfl
section PURE
variable {M pc pc' : Nat} {ls ls' st st' as r : List MV} {ds ds' : Ds} {m m' : Mm}
theorem nx_tag {pn k : Nat} {l1 s1 : List MV} (h : nx pn l1 s1 ds m = some ((k, as), (pc', ls', st', ds', m'))) : k = 0 := by
  unfold nx at h
  cases h
  rfl
set_option maxHeartbeats 4000000 in
/-- the steps that aren't 'next' are calls and returns -/
theorem stp_tag {i : Instr} {pn x y k : Nat} (h : stpI i M pn pc x y ls st ds m = some ((k, as), (pc', ls', st', ds', m'))) (hk : k ≠ 0) :
    ((∃ idx, i = .invokevirtual idx) ∧ mjCall true x y pn ls st ds m = some ((k, as), (pc', ls', st', ds', m'))) ∨ ((∃ idx, i = .invokestatic idx) ∧ x ≠ 1000 ∧ mjCall false x y pn ls st ds m = some ((k, as), (pc', ls', st', ds', m'))) ∨ ((∃ idx, i = .invokespecial idx) ∧ x ≠ 0 ∧ mjCall true x y pn ls st ds m = some ((k, as), (pc', ls', st', ds', m'))) ∨ i = .ireturn ∨ i = .lreturn ∨ i = .areturn ∨ i = .return_ := by
  cases i
  case invokevirtual idx => exact Or.inl ⟨⟨idx, rfl⟩, h⟩
  case invokestatic idx =>
    dsimp only [stpI] at h
    split at h
    · split at h
      · split at h
        · exact absurd (nx_tag h) hk
        · cases h
      · cases h
    · next hx => exact Or.inr (Or.inl ⟨⟨idx, rfl⟩, hx, h⟩)
  case invokespecial idx =>
    dsimp only [stpI] at h
    split at h
    · split at h
      · split at h
        · exact absurd (nx_tag h) hk
        · cases h
      · cases h
    · next hx => exact Or.inr (Or.inr (Or.inl ⟨⟨idx, rfl⟩, hx, h⟩))
  case ireturn => simp
  case lreturn => simp
  case areturn => simp
  case return_ => simp
  all_goals
    exfalso
    dsimp only [stpI, ldv, stv, bin, cmp, ald, ast] at h
    repeat' (split at h)
    all_goals first | (cases h; done) | exact hk (nx_tag h)
theorem stp_ret (hM : M < NM) (h : mjStp M pc ls st ds m = some ((1, r), (pc', ls', st', ds', m'))) : st = r ∧ ds' = ds ∧ m' = m ∧ RetI M pc r := by
  unfold mjStp at h
  cases hc : mjCode M pc with
  | none => rw [hc] at h; cases h
  | some q =>
  obtain ⟨i, len, x, y⟩ := q
  rw [hc] at h
  dsimp only at h
  obtain ⟨hd, hok, hn⟩ := code_facts hM hc
  have hcall : ∀ rc pn, mjCall rc x y pn ls st ds m = some ((1, r), (pc', ls', st', ds', m')) → x = 0 := by
    intro rc pn h
    unfold mjCall at h
    split at h
    · cases h; rfl
    · cases h
  rcases stp_tag h (by omega) with ⟨⟨idx, rfl⟩, h1⟩ | ⟨⟨idx, rfl⟩, hx, h1⟩ | ⟨⟨idx, rfl⟩, hx, h1⟩ | rfl | rfl | rfl | rfl
  · have := hcall _ _ h1
    simp only [okE, decide_eq_true_eq] at hok
    omega
  · have := hcall _ _ h1
    simp only [okE, if_neg hx, decide_eq_true_eq] at hok
    omega
  · exact absurd (hcall _ _ h1) hx
  · dsimp only [stpI, mjRet] at h
    simp only [okE, decide_eq_true_eq] at hok
    subst hok
    split at h
    · split at h
      · next hq =>
        cases h
        obtain ⟨rfl, hq⟩ := hq
        exact ⟨rfl, rfl, rfl, Or.inl ⟨hd, _, rfl, hq⟩⟩
      · cases h
    · cases h
  · dsimp only [stpI, mjRet] at h
    simp only [okE, decide_eq_true_eq] at hok
    subst hok
    split at h
    · split at h
      · next hq =>
        cases h
        obtain ⟨rfl, hq⟩ := hq
        exact ⟨rfl, rfl, rfl, Or.inr (Or.inl ⟨hd, _, rfl, hq⟩)⟩
      · cases h
    · cases h
  · dsimp only [stpI, mjRet] at h
    simp only [okE, decide_eq_true_eq] at hok
    subst hok
    split at h
    · split at h
      · next hq =>
        cases h
        obtain ⟨rfl, hq⟩ := hq
        exact ⟨rfl, rfl, rfl, Or.inr (Or.inr (Or.inl ⟨hd, _, rfl, hq⟩))⟩
      · cases h
    · cases h
  · dsimp only [stpI] at h
    simp only [okE, decide_eq_true_eq] at hok
    subst hok
    split at h
    · split at h
      · next hq =>
        cases h
        exact ⟨rfl, rfl, rfl, Or.inr (Or.inr (Or.inr ⟨hd, rfl, hq⟩))⟩
      · cases h
    · cases h
/-- what a call's step says -/
def CallS (M pc c : Nat) (as st' st : List MV) (ds : Ds) : Prop := st = as.reverse ++ st' ∧ (∀ v ∈ as, v.1 ≤ 2) ∧ (st'.map cat).sum ≤ 8 ∧ (as.map cat).sum ≤ mjX c ∧ mjF c + 1 ≤ mjF M ∧ 8 + (mjX c + 11) + mjL c ≤ mjL M ∧
  ((∃ idx, decode (mjB M) pc = .ok (.invokevirtual idx, 3) ∧ (mjO M, idx, c, 0) ∈ mjML ∧ as.length = mjN c + 1 ∧ rcv (mjO c) as ds = true) ∨ (∃ idx, decode (mjB M) pc = .ok (.invokestatic idx, 3) ∧ ((mjO M, idx, c, 1) ∈ mjML ∨ (mjO M, idx, c, 4) ∈ mjML) ∧ as.length = mjN c) ∨ (∃ idx, decode (mjB M) pc = .ok (.invokespecial idx, 3) ∧ ((mjO M, idx, c, 2) ∈ mjML ∨ (mjO M, idx, c, 5) ∈ mjML) ∧ (mjY c).name = "<init>" ∧ as.length = mjN c + 1 ∧ rcv (mjO c) as ds = true))
theorem call_inv {rc : Bool} {x y pn k : Nat} (h : mjCall rc x y pn ls st ds m = some ((k, as), (pc', ls', st', ds', m'))) : k = x + 1 ∧ pc' = pn ∧ ls' = ls ∧ ds' = ds ∧ m' = m ∧ st = as.reverse ++ st' ∧ as.length = y ∧ (∀ v ∈ as, v.1 ≤ 2) ∧ (st'.map cat).sum ≤ 8 ∧ (as.map cat).sum ≤ mjX (x - 1) ∧ (rc = true → rcv (mjO (x - 1)) as ds = true) := by
  unfold mjCall at h
  split at h
  · next hq =>
    obtain ⟨h1, h2, h3, h4, h5⟩ := hq
    cases h
    refine ⟨rfl, rfl, rfl, rfl, rfl, by rw [List.reverse_reverse, List.take_append_drop], by simp [h1], fun v hv => ?_, h3, h4, h5⟩
    exact Nat.le_of_ble_eq_true (List.all_eq_true.mp h2 v (List.mem_reverse.mp hv))
  · cases h
theorem stp_call {c : Nat} (hM : M < NM) (h : mjStp M pc ls st ds m = some ((c + 2, as), (pc', ls', st', ds', m'))) : pc' = pc + 3 ∧ ls' = ls ∧ ds' = ds ∧ m' = m ∧ CallS M pc c as st' st ds := by
  unfold mjStp at h
  cases hc : mjCode M pc with
  | none => rw [hc] at h; cases h
  | some q =>
  obtain ⟨i, len, x, y⟩ := q
  rw [hc] at h
  dsimp only at h
  obtain ⟨hd, hok, hn⟩ := code_facts hM hc
  rcases stp_tag h (by omega) with ⟨⟨idx, rfl⟩, h1⟩ | ⟨⟨idx, rfl⟩, hx, h1⟩ | ⟨⟨idx, rfl⟩, hx, h1⟩ | rfl | rfl | rfl | rfl
  · obtain ⟨e1, rfl, rfl, rfl, rfl, e2, e3, e4, e5, e6, e7⟩ := call_inv h1
    simp only [okE, decide_eq_true_eq] at hok
    obtain ⟨rfl, h0, -, hm, hy, hf, hL⟩ := hok
    have ex : x - 1 = c := by omega
    rw [ex] at hm hy hf hL e6 e7
    exact ⟨rfl, rfl, rfl, rfl, e2, e4, e5, e6, hf, hL, Or.inl ⟨idx, hd, hm, by omega, e7 rfl⟩⟩
  · obtain ⟨e1, rfl, rfl, rfl, rfl, e2, e3, e4, e5, e6, e7⟩ := call_inv h1
    simp only [okE, if_neg hx, decide_eq_true_eq] at hok
    obtain ⟨rfl, h0, -, hm, hy, hf, hL⟩ := hok
    have ex : x - 1 = c := by omega
    rw [ex] at hm hy hf hL e6
    exact ⟨rfl, rfl, rfl, rfl, e2, e4, e5, e6, hf, hL, Or.inr (Or.inl ⟨idx, hd, hm, by omega⟩)⟩
  · obtain ⟨e1, rfl, rfl, rfl, rfl, e2, e3, e4, e5, e6, e7⟩ := call_inv h1
    simp only [okE, if_neg hx, decide_eq_true_eq] at hok
    obtain ⟨rfl, -, hm, hy0, hy, hf, hL⟩ := hok
    have ex : x - 1 = c := by omega
    rw [ex] at hm hy0 hy hf hL e6 e7
    exact ⟨rfl, rfl, rfl, rfl, e2, e4, e5, e6, hf, hL, Or.inr (Or.inr ⟨idx, hd, hm, hy0, by omega, e7 rfl⟩)⟩
  · dsimp only [stpI, mjRet] at h
    repeat' (split at h)
    all_goals cases h
  · dsimp only [stpI, mjRet] at h
    repeat' (split at h)
    all_goals cases h
  · dsimp only [stpI, mjRet] at h
    repeat' (split at h)
    all_goals cases h
  · dsimp only [stpI] at h
    repeat' (split at h)
    all_goals cases h
theorem mlAll : ∀ q ∈ mjML, q.2.2.1 < mjLaw ∧ (q.2.2.2 = 0 ∨ q.2.2.2 = 2 ∨ q.2.2.2 = 5 → mjO q.2.2.1 < 8) ∧ (q.2.2.2 = 2 ∨ q.2.2.2 = 5 → mjK q.2.2.1 = 0) ∧ mjO q.2.2.1 < 10 := by decide +kernel
theorem CallS.lt {c : Nat} (h : CallS M pc c as st' st ds) : c < mjLaw ∧ mjO c < 10 := by
  obtain ⟨-, -, -, -, -, -, h⟩ := h
  rcases h with ⟨idx, -, hm, -⟩ | ⟨idx, -, hm | hm, -⟩ | ⟨idx, -, hm | hm, -⟩ <;> exact ⟨(mlAll _ hm).1, (mlAll _ hm).2.2.2⟩
theorem mkL_ok {c N : Nat} (h : ∀ v ∈ as, vok N v) : ∀ v ∈ mkL c as, vok N v := by
  intro v hv
  have h3 : vok N (3, 0) := ⟨fun q => (by cases q), fun q => (by cases q), fun q => (by cases q)⟩
  rcases List.mem_append.mp hv with h1 | h1
  · obtain ⟨w, hw, h2⟩ := List.mem_flatMap.mp h1
    unfold sl1 at h2
    split at h2
    · rcases List.mem_cons.mp h2 with rfl | h2
      · exact h v hw
      · rw [List.mem_singleton.mp h2]; exact h3
    · rw [List.mem_singleton.mp h2]; exact h w hw
  · rw [(List.mem_replicate.mp h1).2]; exact h3
theorem sl1_len {l : List MV} : (l.flatMap sl1).length = (l.map cat).sum := by
  induction l with
  | nil => rfl
  | cons v t ih =>
    rw [List.flatMap_cons, List.length_append, ih, List.map_cons, List.sum_cons]
    congr 1
    unfold sl1 cat
    split <;> rfl
theorem mkL_len {c : Nat} (h : (as.map cat).sum ≤ mjX c) : (mkL c as).length = mjX c := by
  unfold mkL
  rw [List.length_append, List.length_replicate, sl1_len]
  omega
theorem run_ok : ∀ (n M pc : Nat) (ls st : List MV) (ds : Ds) (m : Mm) (ds' : Ds) (m' : Mm) (r : List MV), mjRun n M pc ls st ds m = some (ds', m', r) → M < NM → mok ds m → ScrP m → (∀ v ∈ ls, vok ds.length v) → (∀ v ∈ st, vok ds.length v) → mok ds' m' ∧ (∀ v ∈ r, vok ds'.length v) ∧ ext ds ds' ∧ nonneg m m' ∧ (r = [] ∨ ∃ v : MV, r = [v] ∧ v.1 ≤ 2) := by
  intro n
  induction n with
  | zero => intro M pc ls st ds m ds' m' r h; cases h
  | succ n ih =>
    intro M pc ls st ds m ds' m' r h hM hm hsc hl hs
    rw [mjRun] at h
    cases hst : mjStp M pc ls st ds m with
    | none => rw [hst] at h; cases h
    | some q =>
      rw [hst] at h
      obtain ⟨⟨k, as⟩, pc1, ls1, st1, ds1, m1⟩ := q
      have K : Kp ds m as ls1 st1 ds1 m1 := by
        have h9 := hst
        unfold mjStp at h9
        cases hc : mjCode M pc with
        | none => rw [hc] at h9; cases h9
        | some q =>
        obtain ⟨i, len, x, y⟩ := q
        rw [hc] at h9
        exact kp_stp (code_facts hM hc).2.2 hm (fun j h0 h1 => vok_is (hsc.1 j h0 h1).1 (hsc.1 j h0 h1).2) (vok_is hsc.2.1 hsc.2.2) hl hs h9
      obtain ⟨a1, a2, a3, a4, a5, a6⟩ := K
      match k with
      | 0 =>
        obtain ⟨b1, b2, b3, b4, b5⟩ := ih _ _ _ _ _ _ _ _ _ h hM a1 (hsc.kept a6) a2 a3
        exact ⟨b1, b2, a5.tr b3, fun a ha => (b4 a ha).trans (a6 a ha), b5⟩
      | 1 =>
        dsimp only at h
        cases h
        exact ⟨a1, a4, a5, a6, (stp_ret hM hst).2.2.2.small⟩
      | c + 2 =>
        dsimp only at h
        cases hcr : mjRun n c 0 (mkL c as) [] ds1 m1 with
        | none => rw [hcr] at h; cases h
        | some q2 =>
          obtain ⟨d2, m2, r2⟩ := q2
          rw [hcr] at h
          have hlt := (stp_call hM hst).2.2.2.2.lt
          obtain ⟨b1, b2, b3, b4, b5⟩ := ih _ _ _ _ _ _ _ _ _ hcr (Nat.lt_trans hlt.1 (by decide +kernel)) a1 (hsc.kept a6) (mkL_ok a4) (fun v hv => by cases hv)
          obtain ⟨c1, c2, c3, c4, c5⟩ := ih _ _ _ _ _ _ _ _ _ h hM b1 ((hsc.kept a6).kept b4) (al_m a2 b3.len) (fun v hv => (List.mem_append.mp hv).elim (b2 v) (fun q => (a3 v q).mono b3.len))
          exact ⟨c1, c2, (a5.tr b3).tr c3, fun a ha => (c4 a ha).trans ((b4 a ha).trans (a6 a ha)), c5⟩
end PURE
