/-! THE CLAIM OUT OF ONE WALK OF THE LAW'S BODY. Your part is whole_start (and what it stands on); all else here is the same for every law, but numbers. -/
def R_law : String := "FallChainLaw"
def lw_P (b : Addr) (xs : List Int32) (args : Array Value) (s : State) : Prop := args = #[.ref b] ∧ s.IntsAt b xs ∧ xs.length ≤ 3072 ∧ (Jvm.Cond.and given_1 narrow_1).before args s = true
def lw_Q (_ : Array Value) (s : State) (o : Outcome) (t : State) : Prop := o = .returned (some (.int 1)) ∧ Framed s o t [] 600000 7302250
def lw_Z (below : List Frame) (a : Array Value) (s : State) : State → Prop := fun t => ∃ o, t.status = .running ∧ Ended t below o ∧ lw_Q a s o t
/-- the law's own end, with 1 on the stack, nothing written that was there before, its room as the claim has it -/
theorem lw_ret {p : Program} {l : Launch} {e : Env} {s : State} {m : MethodId} {below : List Frame} {meth : Method} {c : Code} {b : Nat} (hx : p.tables.exec = Jvm.exec) (hb : c.code = code) (hr : meth.sig.returnType = ret) (hlocks : meth.locks = false) {pc : Nat} {H : Heap} {ls : Array Slot} (hdg : decode code pc = .ok (.ireturn, 1)) : W p l e room_1 s m #[Value.ref b] below meth c H [] 600000 7302250 (lw_Z below #[Value.ref b] s) (F0 m pc ls [.int 1]) := by
  intro T hT X
  obtain ⟨fs, hret, hrun, hended, hW, hframe⟩ := X.leave (v := some (.int 1)) (hlocks := hlocks) (fun h => by rw [hr] at h; cases h)
  have hmeth' : T.vm.method? m = some meth := X.method'
  refine ⟨T.setFrames fs, ?_, .returned (some (.int 1)), hrun, hended, rfl, ⟨_, rfl⟩, hW, hframe⟩
  jvm_step X.here [X.here.top, hx, hb, hdg, hmeth', hr, ret, narrow_b1]
  (try refine ⟨rfl, ?_⟩); (try refine ⟨rfl, ?_⟩)
  first | (intro acts; rw [hret _ acts rfl rfl rfl]) | rw [hret _ _ rfl rfl rfl]
  exact Steps.refl _
/-- what holds at the law's entry: the machine, the code, the tables' words (any of lw_tbl by 'hts w (by decide +kernel)'), the script of L ints xs at the cell b, what the Statement gives of the start (any of its parts by flat_of_before) -/
def lw_At (p : Program) (s : State) (m : MethodId) (meth : Method) (c : Code) (b L : Nat) (xs : Nat → Int32) : Prop :=
  p.tables.exec = Jvm.exec ∧ c.code = code ∧ meth.sig.returnType = ret ∧ c.maxLocals = 4 ∧ s.vm.findClass R_law = some m.cls ∧ (∀ w ∈ lw_tbl, w.before #[Value.ref b] s = true) ∧ va_X b L xs s s.heap ∧ b < s.heap.size ∧ meth.locks = false ∧ (Jvm.Cond.and given_1 narrow_1).before #[Value.ref b] s = true

/-- THE LAW'S ENTRY: a run of the small machine over the law's own code gives the walk that the claim wants -/
def LawGoal : Prop := ∀ (L : Nat) (mm : Mm), L ≤ 3072 → mm (-3) 0 = (L : Int) → (∀ j : Int, 0 ≤ j → j < L → -2147483648 ≤ mm (-2) j ∧ mm (-2) j < 2147483648) → WP mjLaw 0 [(4, 0), (3, 0), (3, 0), (3, 0)] [] [] mm (fun ds' _ r => r = [(0, 1)] ∧ ds'.length ≤ 600000 ∧ sl ds' ≤ 7302250)
theorem arr_prim {s : State} {args : Array Value} {ty : FieldType} (h : (Jvm.Cond.arrayClass ty).before args s = true) (hv : ∀ cA, s.vm.findClass ("[" ++ ty.toString) = some cA → va_RA s cA ty) : ∃ cA : ClassId, ArrOfT s cA ty ∧ va_RA s cA ty := by
  obtain ⟨cA, kA, comp, h1, h2, h3⟩ := Cond.arrayClass_spec h
  exact ⟨cA, fun n z => ⟨fun k h => (by cases h), kA, h2, comp, h3⟩, hv cA h1⟩
theorem arr_obj {s : State} {C : String} (h : va_AO C s) : ∃ cA : ClassId, ArrOfT s cA (.object C) ∧ va_RA s cA (.object C) := by
  obtain ⟨comp, cA, kA, h1, h2, h3, h4, h5⟩ := Cond.arrayOver_spec h
  exact ⟨cA, fun n z => ⟨fun k h => (by cases h), kA, h3, comp, h4⟩, kA, comp, h3, h4, h1, h5⟩
theorem start_of (hG : LawGoal) {p : Program} {e : Env} {s : State} {m : MethodId} {below : List Frame} {meth : Method} {c : Code} (l : Launch) {b L : Nat} {xs : Nat → Int32} (hL : L ≤ 3072) (C0 : lw_At p s m meth c b L xs) : W p l e room_1 s m #[Value.ref b] below meth c s.heap [] 0 0 (lw_Z below #[Value.ref b] s) (entryFrame m ([Value.ref b] : List Value).toArray 4) := by
  obtain ⟨hx, hb, hr, hml, hown, hts, hX, hbl, hlocks, hgv⟩ := id C0
  have htG : ∀ w ∈ tblG, w.before #[Value.ref b] s = true := fun w hw => hts w (List.mem_filter.mp hw).1
  have hAO4 : va_AO RX4 s := va_AO.of (hts _ (in_tbl AO_RX4))
  have hAO3 : va_AO RX3 s := va_AO.of (hts _ (in_tbl AO_RX3))
  obtain ⟨a0, g0⟩ := arr_prim (htG _ (in_G AC_int rfl)) (fun cA h => h)
  obtain ⟨a1, g1⟩ := arr_prim (htG _ (in_G AC_boolean rfl)) (fun cA h => h)
  obtain ⟨a2, g2⟩ := arr_prim (htG _ (in_G AC_long rfl)) (fun cA h => h)
  obtain ⟨a3, g3⟩ := arr_obj hAO4
  obtain ⟨a4, g4⟩ := arr_obj hAO3
  obtain ⟨dA, d0, d1, d2, d3, d4⟩ : ∃ dA : Nat → ClassId, dA 0 = a0 ∧ dA 1 = a1 ∧ dA 2 = a2 ∧ dA 3 = a3 ∧ dA 4 = a4 := ⟨fun k => if k = 0 then a0 else if k = 1 then a1 else if k = 2 then a2 else if k = 3 then a3 else a4, rfl, rfl, rfl, rfl, rfl⟩
  have hcls : ∀ j : Nat, ∃ q : ClassId × (Nat → Nat), j < 8 → u_Kn s (cN j) (cT j) (cF j) q.1 q.2 := by
    intro j
    by_cases hj : j < 8
    · obtain ⟨cC, iS, hK⟩ := u_known (ws := tblG) htG (cls_ok j hj).1 (htG _ (ins_word hj))
      exact ⟨(cC, iS), fun _ => hK⟩
    · exact ⟨(0, fun _ => 0), fun h => absurd h hj⟩
  obtain ⟨D, hD⟩ : ∃ D : va_G, ∀ j, j < 8 → u_Kn s (cN j) (cT j) (cF j) (D.1 j) (D.2 j) := ⟨(fun j => (Classical.choose (hcls j)).1, fun j => (Classical.choose (hcls j)).2), fun j hj => Classical.choose_spec (hcls j) hj⟩
  have hK : va_K D vwCl (tysW dA) s := by
    refine ⟨fun k q hq => ?_, fun k q hq => ?_⟩
    · have hk : k < 8 := (List.getElem?_eq_some_iff.mp hq).1
      rw [(cls_ok k hk).2.2] at hq
      cases hq
      exact hD k hk
    · subst d0 d1 d2 d3 d4
      match k, hq with
      | 0, hq => cases hq; exact g0
      | 1, hq => cases hq; exact g1
      | 2, hq => cases hq; exact g2
      | 3, hq => cases hq; exact g3
      | 4, hq => cases hq; exact g4
      | k + 5, hq => cases hq
  have hPer : Per D dA s := by
    refine ⟨hK, fun q hq hk => ?_, hAO4, hAO3⟩
    have h1 := MLw q hq
    rw [if_neg (by omega)] at h1
    exact va_Nw.of rfl (hts _ (in_tbl h1))
  obtain ⟨mm, hm3, hm2⟩ : ∃ mm : Mm, mm (-3) 0 = (L : Int) ∧ ∀ j : Nat, j < L → mm (-2) j = (xs j).toInt := ⟨fun a j => if a = -3 then (L : Int) else (xs j.toNat).toInt, rfl, fun j _ => by simp⟩
  have hrange : ∀ j : Int, 0 ≤ j → j < L → -2147483648 ≤ mm (-2) j ∧ mm (-2) j < 2147483648 := by
    intro j h0 h1
    have := hm2 j.toNat (by omega)
    rw [show ((j.toNat : Nat) : Int) = j by omega] at this
    rw [this]
    exact ⟨Int32.le_toInt _, Int32.toInt_lt _⟩
  obtain ⟨n, ds', m', r, hrun, rfl, hc, hs2⟩ := hG L mm hL hm3 hrange
  have hF : Fx p room_1 s m #[Value.ref b] meth c D dA (fun q => s.heap.size ≤ q) s.heap mjLaw := ⟨⟨hx, hb, hml, hown, htG⟩, hPer, fun h => absurd h (by decide +kernel), fun _ h => h, by decide +kernel, by decide +kernel, by decide +kernel⟩
  rw [lg_entry_eq]
  refine snd_all n mjLaw 0 [(4, 0), (3, 0), (3, 0), (3, 0)] [] [] mm ds' m' [(0, 1)] hrun (fun i d h => by simp at h) ⟨fun j h0 h1 => hrange j h0 (by rw [hm3] at h1; exact h1), by rw [hm3]; omega, by rw [hm3]; omega⟩ (fun v hv => ?_) (fun v hv => by cases hv) p e room_1 s m #[Value.ref b] below meth c _ D dA (fun q => s.heap.size ≤ q) s.heap s.heap [] b 0 0 0 0 _ (fun i => i) hF ⟨by decide +kernel, ?_, fun k q h => by simp [wld] at h, ⟨fun i j p q h => by simp [wld] at h, fun k q h => by simp [wld] at h⟩, va_S.rf, rfl, rfl⟩ (fun _ => ⟨L, xs, hX, hbl, Nat.not_le.mpr hbl, by omega, hm3, hm2⟩) (by show ds'.length ≤ 0 + 600000; omega) (by show sl ds' ≤ 0 + 7302250; omega) ?_
  · have hv3 : v.1 = 3 ∨ v.1 = 4 := by
      simp only [List.mem_cons, List.not_mem_nil, or_false] at hv
      rcases hv with rfl | rfl | rfl | rfl <;> simp
    exact ⟨fun h => by omega, fun h => by omega, fun h => by omega⟩
  · refine lh_mono (lv_entry [Value.ref b] (n := 4) (Nat.le_of_ble_eq_true rfl)) (fun q hq => ?_)
    obtain ⟨v, h1, h2, h3⟩ := lst_mem.mp hq
    obtain ⟨qi, qv⟩ := q
    match qi, h1 with
    | 0, h1 =>
      cases h1
      dsimp only at h3
      rw [h3]
      exact List.mem_cons_self
    | 1, h1 => cases h1; exact absurd rfl h2
    | 2, h1 => cases h1; exact absurd rfl h2
    | 3, h1 => cases h1; exact absurd rfl h2
    | k + 4, h1 => simp at h1
  · intro pc' lsv' ρ' H' locs' cells' slots' hρ hP' hD' hS' hcc hss hret
    rcases hret with ⟨hd, v, hv, hk⟩ | ⟨hd, v, hv, hk⟩ | ⟨hd, v, hv, hk⟩ | ⟨hd, hv, hk⟩
    · refine va_forget hS'.2.2 (W.widen (k := 600000) (n := 7302250) (by omega) (by omega) ?_)
      exact lw_ret hx hb hr hlocks hd
    · cases hv
    · cases hv
    · cases hv
