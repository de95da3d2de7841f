section ST3
variable {p : Program} {l : Launch} {e : Env} {R : Room} {s : State} {mi : MethodId} {args : Array Value} {below : List Frame} {meth : Method} {c : Code}
variable {Q : State → Prop} {D : va_G} {dA : Nat → ClassId} {A : Nat → Prop} {H0 H : Heap} {locs : List Loc} {sb base sbase M cells slots : Nat} {lsv : Array Slot} {ρ : Nat → Nat}
variable {pc pc' x y : Nat} {z ls ls' st st' : List MV} {ds ds' : Ds} {m m' : Mm}
theorem cat_sum {r : List MV} : ((r.map (val ρ sb)).map fun v => v.category).sum = (r.map cat).sum := by
  rw [List.map_map]
  congr 1
  exact List.map_congr_left (fun v _ => val_cat2)
theorem cl_word {o idx x : Nat} (h : (o, idx, x) ∈ CLp.map (·.2)) : Jvm.Cond.classLink (cN o) idx (cN x) ∈ tblG := by
  obtain ⟨q, hq, hx⟩ := List.mem_map.mp h
  have := CLw q hq
  obtain ⟨pl, a, b, d⟩ := q
  cases hx
  exact in_G this rfl
theorem ins_word {x : Nat} (h : x < 8) : Jvm.Cond.instantiable (cN x) (cF x) ∈ tblG := by
  have h1 : x ∈ INSp.map (·.2) := by
    rw [show INSp.map (·.2) = [0, 1, 2, 3, 4, 5, 6, 7] by decide +kernel]
    simp only [List.mem_cons, List.not_mem_nil, or_false]
    omega
  obtain ⟨q, hq, hx⟩ := List.mem_map.mp h1
  have := INSw q hq
  obtain ⟨pl, a⟩ := q
  cases hx
  exact in_G this rfl
theorem ini_word {x : Nat} (h : x < 10) : Jvm.Cond.initialized (cN x) ∈ tblG := by
  have h1 : x ∈ INp.map (·.2) := by
    rw [show INp.map (·.2) = [0, 1, 2, 3, 4, 5, 6, 7, 8, 9] by decide +kernel]
    simp only [List.mem_cons, List.not_mem_nil, or_false]
    omega
  obtain ⟨q, hq, hx⟩ := List.mem_map.mp h1
  have := INw q hq
  obtain ⟨pl, a⟩ := q
  cases hx
  exact in_G this rfl
theorem dfl_o {x : Nat} {j : Int} (h : x < 8) : dfl x j = if fTag x j.toNat = 2 then -1 else 0 := by
  unfold dfl
  rw [if_neg (by omega), if_neg (by omega)]
theorem dv_ok {ty : FieldType} {t : Nat} (h : tyok ty t = true) : defaultValue ty = fvl ρ t (if t = 2 then -1 else 0) := by
  unfold tyok at h
  split at h
  · rfl
  · rfl
  · rfl
  · rfl
  · cases h
/-- the world behind a made cell -/
theorem Hp.mk {d : Nat × Nat} {q : Nat} {w : va_E} {H1 : Heap} {f : Int → Int} (P : Hp D dA A H0 sb base sbase M ls ds m ρ H locs cells slots lsv) (hm : mok ds m) (hl : ∀ v ∈ ls, vok ds.length v) (hw : cel dA (fun i => if i = ds.length then q else ρ i) d f = w) (hP : va_P D vwCl (wld dA ρ ds m ++ [(q, w)]) H1) (hD : va_D A (wld dA ρ ds m ++ [(q, w)])) (hS : va_S A H0 H1 locs) : Hp D dA A H0 sb base sbase M ls (ds ++ [d]) (al m (ds.length : Int) f) (fun i => if i = ds.length then q else ρ i) H1 locs (cells + 1) (slots + d.2) lsv := by
  have hr : ∀ i, i < ds.length → (fun i => if i = ds.length then q else ρ i) i = ρ i := fun i hi => if_neg (by omega)
  have e1 := wld_al (dA := dA) (d := d) (f := f) hm hr
  rw [hw] at e1
  rw [show (if ds.length = ds.length then q else ρ ds.length) = q from if_pos rfl] at e1
  refine ⟨P.1, lh_ext P.2.1 hl hr, by rw [e1]; exact hP, by rw [e1]; exact hD, hS, ?_, ?_⟩
  · rw [List.length_append, List.length_singleton, ← P.2.2.2.2.2.1]; omega
  · have := P.2.2.2.2.2.2
    simp only [sl, List.map_append, List.sum_append, List.map_cons, List.map_nil, List.sum_cons, List.sum_nil] at this ⊢
    omega
theorem sl_add {d : Nat × Nat} : sl (ds ++ [d]) = sl ds + d.2 := by
  simp [sl]
theorem st_new {idx len : Nat} (F : Fx p R s mi args meth c D dA A H0 M) (P : Hp D dA A H0 sb base sbase M ls ds m ρ H locs cells slots lsv) (hm : mok ds m) (hl : ∀ v ∈ ls, vok ds.length v) (hs : ∀ v ∈ st, vok ds.length v) (hd : decode (mjB M) pc = .ok (.new idx, len)) (hok : okE M (pc, .new idx, len, x, y) = true) (hn : okN (pc, .new idx, len, x, y) = true)
    (hR1 : (ds ++ [(x, cF x)]).length ≤ base + R.cells) (hR2 : sl (ds ++ [(x, cF x)]) ≤ sbase + R.slots)
    (kk : ∀ ρ' H locs cells slots, (∀ i, i < ds.length → ρ' i = ρ i) → Hp D dA A H0 sb base sbase M ls (ds ++ [(x, cF x)]) (al m (ds.length : Int) (dfl x)) ρ' H locs cells slots lsv → W p l e R s mi args below meth c H locs cells slots Q (F0 mi (pc + len) lsv (((2, (ds.length : Int)) :: st).map (val ρ' sb)))) : W p l e R s mi args below meth c H locs cells slots Q (F0 mi pc lsv (st.map (val ρ sb))) := by
  simp only [okE, okN, decide_eq_true_eq] at hok hn
  obtain ⟨rfl, hcl⟩ := hok
  obtain ⟨⟨hx, hb, hml, hown, hts⟩, hPer, hini, hA, -⟩ := F
  obtain ⟨c1, c2, c3⟩ := cls_ok x hn.1
  have hx8 := hn.1
  rw [sl_add] at hR2
  rw [List.length_append, List.length_singleton] at hR1
  have q1 := P.2.2.2.2.2.1
  have q2 := P.2.2.2.2.2.2
  refine va_new (D := D) (ci := x) (C := cN x) (T := cT x) (N := cF x) (Ts := tblG) (fs := (List.range (cF x)).map (fun (k : Nat) => fvl ρ (fTag x k) (dfl x (k : Int)))) hx hb hts c1 (cY x) (fun k hk => (fdecl x hx8 k hk).2.2.2) hown (hts _ (cl_word hcl)) (hts _ (ins_word hx8)) (hts _ (ini_word (by omega))) hPer.1 P.2.2.1 P.2.2.2.1 P.2.2.2.2.1 hA c3 ?_ (by omega) (by dsimp only at hR2; omega) hd (fun q H1 hP hD hS => ?_)
  · intro j hj
    have f2 := (fdecl x hx8 j hj).2.1
    have e1 : vp_V ((List.range (cF x)).map (fun (k : Nat) => fvl ρ (fTag x k) (dfl x (k : Int)))) j = fvl ρ (fTag x j) (dfl x (j : Int)) := by simp [vp_V, hj]
    rw [e1, dfl_o hx8]
    simp only [Int.toNat_natCast]
    exact dv_ok f2
  · have hr : ∀ i, i < ds.length → (fun i => if i = ds.length then q else ρ i) i = ρ i := fun i hi => if_neg (by omega)
    have K := kk (fun i => if i = ds.length then q else ρ i) H1 locs (cells + 1) (slots + cF x) hr (P.mk (d := (x, cF x)) hm hl ?_ hP hD hS)
    · rw [List.map_cons, vals_ext hs hr] at K
      have e2 : val (fun i => if i = ds.length then q else ρ i) sb (2, (ds.length : Int)) = .ref q := by
        show Value.ref (if ds.length = ds.length then q else ρ ds.length) = _
        rw [if_pos rfl]
      rw [e2] at K
      exact K
    · rw [cel_o hx8]
      congr 2
      refine List.map_congr_left (fun k _ => fvl_ext (N := 0) (fun ht => ?_) (fun i hi => by omega))
      dsimp only at ht ⊢
      rw [dfl_o hx8]
      simp only [Int.toNat_natCast]
      rw [if_pos ht]
      omega
theorem st_newa {t : ArrayType} {len : Nat} {n : Int} (F : Fx p R s mi args meth c D dA A H0 M) (P : Hp D dA A H0 sb base sbase M ls ds m ρ H locs cells slots lsv) (hm : mok ds m) (hl : ∀ v ∈ ls, vok ds.length v) (hs : ∀ v ∈ st, vok ds.length v) (hd : decode (mjB M) pc = .ok (.newarray t, len)) (hok : okE M (pc, .newarray t, len, x, y) = true) (h0 : 0 ≤ n) (h1 : n ≤ 30000)
    (hR1 : (ds ++ [(x, n.toNat)]).length ≤ base + R.cells) (hR2 : sl (ds ++ [(x, n.toNat)]) ≤ sbase + R.slots)
    (kk : ∀ ρ' H locs cells slots, (∀ i, i < ds.length → ρ' i = ρ i) → Hp D dA A H0 sb base sbase M ls (ds ++ [(x, n.toNat)]) (al m (ds.length : Int) (dfl x)) ρ' H locs cells slots lsv → W p l e R s mi args below meth c H locs cells slots Q (F0 mi (pc + len) lsv (((2, (ds.length : Int)) :: st).map (val ρ' sb)))) : W p l e R s mi args below meth c H locs cells slots Q (F0 mi pc lsv (.int (Int32.ofInt n) :: st.map (val ρ sb))) := by
  simp only [okE, decide_eq_true_eq] at hok
  obtain ⟨rfl, ht⟩ := hok
  obtain ⟨⟨hx, hb, hml, hown, hts⟩, hPer, hini, hA, -⟩ := F
  rw [sl_add] at hR2
  rw [List.length_append, List.length_singleton] at hR1
  dsimp only at hR2
  have q1 := P.2.2.2.2.2.1
  have q2 := P.2.2.2.2.2.2
  have e0 : (Int32.ofInt n).toInt = n := j_toInt (by omega) (by omega)
  have hneg : ¬ Int32.ofInt n < 0 := by
    rw [Int32.lt_iff_toInt_lt, e0]
    show ¬ n < 0
    omega
  have hN : (Int32.ofInt n).toNatClampNeg = n.toNat := by
    show (Int32.ofInt n).toInt.toNat = n.toNat
    rw [e0]
  have fin : ∀ (q : Nat) (cA : ClassId) (H1 : Heap) (w : va_E), (∀ ρ' : Nat → Nat, cel dA ρ' (x, n.toNat) (dfl x) = w) → va_P D vwCl (wld dA ρ ds m ++ [(q, w)]) H1 → va_D A (wld dA ρ ds m ++ [(q, w)]) → va_S A H0 H1 locs → W p l e R s mi args below meth c H1 locs (cells + 1) (slots + n.toNat) Q (F0 mi (pc + 2) lsv (.ref q :: st.map (val ρ sb))) := by
    intro q cA H1 w hw hP hD hS
    have hr : ∀ i, i < ds.length → (fun i => if i = ds.length then q else ρ i) i = ρ i := fun i hi => if_neg (by omega)
    have K := kk (fun i => if i = ds.length then q else ρ i) H1 locs (cells + 1) (slots + n.toNat) hr (P.mk (d := (x, n.toNat)) hm hl (hw _) hP hD hS)
    rw [List.map_cons, vals_ext hs hr] at K
    have e2 : val (fun i => if i = ds.length then q else ρ i) sb (2, (ds.length : Int)) = .ref q := by
      show Value.ref (if ds.length = ds.length then q else ρ ds.length) = _
      rw [if_pos rfl]
    rw [e2] at K
    exact K
  rcases ht with ⟨rfl, rfl⟩ | ⟨rfl, rfl⟩ | ⟨rfl, rfl⟩
  · refine va_newa (D := D) (atype := .int) hx hb (hts _ (in_G AC_int rfl)) (ty := .int) rfl hPer.1 P.2.2.1 P.2.2.2.1 P.2.2.2.2.1 hA (a0 := (n.toNat, .inl (fun (_ : Nat) => Int32.ofInt 0))) (fun cA => rfl) hneg hN (by show n.toNat * 4 ≤ _; omega) (by omega) (by omega) hd (fun q cA H1 hK' hP hD hS => ?_)
    have e3 : cA = dA 0 := Option.some.inj (((hK'.2 5 _ rfl).2 : s.vm.findClass _ = some cA).symm.trans ((hPer.1.2 0 _ rfl).2 : s.vm.findClass _ = some (dA 0)))
    subst e3
    exact fin q (dA 0) H1 _ (fun ρ' => rfl) hP hD hS
  · refine va_newa (D := D) (atype := .boolean) hx hb (hts _ (in_G AC_boolean rfl)) (ty := .boolean) rfl hPer.1 P.2.2.1 P.2.2.2.1 P.2.2.2.2.1 hA (a0 := (n.toNat, .inl (fun (_ : Nat) => Int32.ofInt 0))) (fun cA => rfl) hneg hN (by show n.toNat * 1 ≤ _; omega) (by omega) (by omega) hd (fun q cA H1 hK' hP hD hS => ?_)
    have e3 : cA = dA 1 := Option.some.inj (((hK'.2 5 _ rfl).2 : s.vm.findClass _ = some cA).symm.trans ((hPer.1.2 1 _ rfl).2 : s.vm.findClass _ = some (dA 1)))
    subst e3
    exact fin q (dA 0) H1 _ (fun ρ' => rfl) hP hD hS
  · refine va_newa (D := D) (atype := .long) hx hb (hts _ (in_G AC_long rfl)) (ty := .long) rfl hPer.1 P.2.2.1 P.2.2.2.1 P.2.2.2.2.1 hA (a0 := (n.toNat, .inr (.inl (fun (_ : Nat) => Int64.ofInt 0)))) (fun cA => rfl) hneg hN (by show n.toNat * 8 ≤ _; omega) (by omega) (by omega) hd (fun q cA H1 hK' hP hD hS => ?_)
    have e3 : cA = dA 2 := Option.some.inj (((hK'.2 5 _ rfl).2 : s.vm.findClass _ = some cA).symm.trans ((hPer.1.2 2 _ rfl).2 : s.vm.findClass _ = some (dA 2)))
    subst e3
    exact fin q (dA 0) H1 _ (fun ρ' => rfl) hP hD hS
theorem st_newq {idx len : Nat} {n : Int} (F : Fx p R s mi args meth c D dA A H0 M) (P : Hp D dA A H0 sb base sbase M ls ds m ρ H locs cells slots lsv) (hm : mok ds m) (hl : ∀ v ∈ ls, vok ds.length v) (hs : ∀ v ∈ st, vok ds.length v) (hd : decode (mjB M) pc = .ok (.anewarray idx, len)) (hok : okE M (pc, .anewarray idx, len, x, y) = true) (h0 : 0 ≤ n) (h1 : n ≤ 30000)
    (hR1 : (ds ++ [(x, n.toNat)]).length ≤ base + R.cells) (hR2 : sl (ds ++ [(x, n.toNat)]) ≤ sbase + R.slots)
    (kk : ∀ ρ' H locs cells slots, (∀ i, i < ds.length → ρ' i = ρ i) → Hp D dA A H0 sb base sbase M ls (ds ++ [(x, n.toNat)]) (al m (ds.length : Int) (dfl x)) ρ' H locs cells slots lsv → W p l e R s mi args below meth c H locs cells slots Q (F0 mi (pc + len) lsv (((2, (ds.length : Int)) :: st).map (val ρ' sb)))) : W p l e R s mi args below meth c H locs cells slots Q (F0 mi pc lsv (.int (Int32.ofInt n) :: st.map (val ρ sb))) := by
  simp only [okE, decide_eq_true_eq] at hok
  obtain ⟨rfl, ht⟩ := hok
  obtain ⟨⟨hx, hb, hml, hown, hts⟩, hPer, hini, hA, -⟩ := F
  rw [sl_add] at hR2
  rw [List.length_append, List.length_singleton] at hR1
  dsimp only at hR2
  have q1 := P.2.2.2.2.2.1
  have q2 := P.2.2.2.2.2.2
  have e0 : (Int32.ofInt n).toInt = n := j_toInt (by omega) (by omega)
  have hneg : ¬ Int32.ofInt n < 0 := by
    rw [Int32.lt_iff_toInt_lt, e0]
    show ¬ n < 0
    omega
  have hN : (Int32.ofInt n).toNatClampNeg = n.toNat := by
    show (Int32.ofInt n).toInt.toNat = n.toNat
    rw [e0]
  have fin : ∀ (q : Nat) (cA : ClassId) (H1 : Heap) (w : va_E), (∀ ρ' : Nat → Nat, cel dA ρ' (x, n.toNat) (dfl x) = w) → va_P D vwCl (wld dA ρ ds m ++ [(q, w)]) H1 → va_D A (wld dA ρ ds m ++ [(q, w)]) → va_S A H0 H1 locs → W p l e R s mi args below meth c H1 locs (cells + 1) (slots + n.toNat) Q (F0 mi (pc + 3) lsv (.ref q :: st.map (val ρ sb))) := by
    intro q cA H1 w hw hP hD hS
    have hr : ∀ i, i < ds.length → (fun i => if i = ds.length then q else ρ i) i = ρ i := fun i hi => if_neg (by omega)
    have K := kk (fun i => if i = ds.length then q else ρ i) H1 locs (cells + 1) (slots + n.toNat) hr (P.mk (d := (x, n.toNat)) hm hl (hw _) hP hD hS)
    rw [List.map_cons, vals_ext hs hr] at K
    have e2 : val (fun i => if i = ds.length then q else ρ i) sb (2, (ds.length : Int)) = .ref q := by
      show Value.ref (if ds.length = ds.length then q else ρ ds.length) = _
      rw [if_pos rfl]
    rw [e2] at K
    exact K
  rcases ht with ⟨rfl, ho, rfl⟩ | ⟨rfl, ho, rfl⟩
  · rw [ho] at hown
    refine va_newq (D := D) (C := RX4) hx hb hown (hts _ (cl_word (o := 6) (x := 4) (by decide +kernel))) hPer.2.2.1 hPer.1 P.2.2.1 P.2.2.2.1 P.2.2.2.2.1 hA hneg hN (by omega) (by omega) (by omega) hd (fun q cA H1 hK' hP hD hS => ?_)
    obtain ⟨-, -, -, -, -, e4⟩ := (hK'.2 5 _ rfl).2
    obtain ⟨-, -, -, -, -, e5⟩ := (hPer.1.2 3 _ rfl).2
    have e3 : cA = dA 3 := Option.some.inj (e4.symm.trans e5)
    subst e3
    exact fin q (dA 0) H1 _ (fun ρ' => rfl) hP hD hS
  · rw [ho] at hown
    refine va_newq (D := D) (C := RX3) hx hb hown (hts _ (cl_word (o := 6) (x := 3) (by decide +kernel))) hPer.2.2.2 hPer.1 P.2.2.1 P.2.2.2.1 P.2.2.2.2.1 hA hneg hN (by omega) (by omega) (by omega) hd (fun q cA H1 hK' hP hD hS => ?_)
    obtain ⟨-, -, -, -, -, e4⟩ := (hK'.2 5 _ rfl).2
    obtain ⟨-, -, -, -, -, e5⟩ := (hPer.1.2 4 _ rfl).2
    have e3 : cA = dA 4 := Option.some.inj (e4.symm.trans e5)
    subst e3
    exact fin q (dA 0) H1 _ (fun ρ' => rfl) hP hD hS
theorem of_nat (n : Nat) : Int32.ofInt (n : Int) = Int32.ofNat n := Int32.ofInt_eq_ofNat
theorem st_alen {n len : Nat} {d : Nat × Nat} (F : Fx p R s mi args meth c D dA A H0 M) (P : Hp D dA A H0 sb base sbase M ls ds m ρ H locs cells slots lsv) (hd : decode (mjB M) pc = .ok (.arraylength, len)) (hlen : len = 1) (hd1 : ds[n]? = some d) (h1 : 10 ≤ d.1) (h2 : d.1 ≤ 14)
    (K : W p l e R s mi args below meth c H locs cells slots Q (F0 mi (pc + len) lsv (.int (Int32.ofInt (d.2 : Int)) :: st.map (val ρ sb)))) : W p l e R s mi args below meth c H locs cells slots Q (F0 mi pc lsv (.ref (ρ n) :: st.map (val ρ sb))) := by
  subst hlen
  obtain ⟨⟨hx, hb, hml, hown, hts⟩, hPer, hini, hA, -⟩ := F
  have he := wld_get (dA := dA) (ρ := ρ) (m := m) hd1
  have hv : Int32.ofNat d.2 = Int32.ofInt (d.2 : Int) := (of_nat d.2).symm
  have hk : d.1 = 10 ∨ d.1 = 11 ∨ d.1 = 12 ∨ d.1 = 13 ∨ d.1 = 14 := by omega
  rcases hk with hk | hk | hk | hk | hk
  · rw [cel_i (by omega), hk] at he
    exact va_alen (D := D) hx hb hPer.1 P.2.2.1 n 0 he (ty := .int) rfl hv hd K
  · rw [cel_i (by omega), hk] at he
    exact va_alen (D := D) hx hb hPer.1 P.2.2.1 n 1 he (ty := .boolean) rfl hv hd K
  · rw [cel_l hk] at he
    exact va_alen (D := D) hx hb hPer.1 P.2.2.1 n 2 he (ty := .long) rfl hv hd K
  · rw [cel_r (by omega), hk] at he
    exact va_alen (D := D) hx hb hPer.1 P.2.2.1 n 3 he (ty := .object RX4) rfl hv hd K
  · rw [cel_r (by omega), hk] at he
    exact va_alen (D := D) hx hb hPer.1 P.2.2.1 n 4 he (ty := .object RX3) rfl hv hd K
end ST3
