section ST2
variable {p : Program} {l : Launch} {e : Env} {R : Room} {s : State} {mi : MethodId} {args : Array Value} {below : List Frame} {meth : Method} {c : Code}
variable {Q : State → Prop} {D : va_G} {dA : Nat → ClassId} {A : Nat → Prop} {H0 H : Heap} {locs : List Loc} {sb base sbase M cells slots : Nat} {lsv : Array Slot} {ρ : Nat → Nat}
variable {pc pc' x y : Nat} {z ls ls' st st' : List MV} {ds ds' : Ds} {m m' : Mm}
theorem fl_word {o idx x y : Nat} (h : (o, idx, x, y) ∈ mjFL) : Jvm.Cond.fieldLink (cN o) idx (cN x) (cT x y).2.1 (cT x y).2.2.1 ∈ tblG := by
  obtain ⟨q, hq, hx⟩ := List.mem_map.mp h
  have := FLw q hq
  obtain ⟨pl, a, b, d, f⟩ := q
  cases hx
  exact in_G this rfl
/-- what a tag's value is by its type -/
theorem ty_ok {t : FieldType} {k : Nat} {z : Int} (h : tyok t k = true) : narrow t (fvl ρ k z) = fvl ρ k z ∧ fits t (fvl ρ k z) = true := by
  unfold tyok at h
  split at h
  · exact ⟨rfl, rfl⟩
  · exact ⟨rfl, rfl⟩
  · cases z <;> exact ⟨rfl, rfl⟩
  · cases z <;> exact ⟨rfl, rfl⟩
  · cases h
theorem val_f {k : Nat} {z : Int} (h : k ≤ 2) : val ρ sb (k, z) = fvl ρ k z := by
  unfold val
  rw [if_neg (by omega)]
theorem st_get {idx len : Nat} (F : Fx p R s mi args meth c D dA A H0 M) (P : Hp D dA A H0 sb base sbase M ls ds m ρ H locs cells slots lsv) (hm : mok ds m) (hd : decode (mjB M) pc = .ok (.getfield idx, len)) (hok : okE M (pc, .getfield idx, len, x, y) = true) (hn : okN (pc, .getfield idx, len, x, y) = true) (h : stpI (.getfield idx) M (pc + len) pc x y ls st ds m = some ((0, z), (pc', ls', st', ds', m')))
    (kk : Hp D dA A H0 sb base sbase M ls' ds' m' ρ H locs cells slots lsv → W p l e R s mi args below meth c H locs cells slots Q (F0 mi pc' lsv (st'.map (val ρ sb)))) : W p l e R s mi args below meth c H locs cells slots Q (F0 mi pc lsv (st.map (val ρ sb))) := by
  simp only [okE, okN, decide_eq_true_eq] at hok hn
  obtain ⟨rfl, hy, hfl⟩ := hok
  dsimp only [stpI] at h
  split at h
  · next a r =>
    split at h
    · next hc =>
      unfold nx at h
      cases h
      obtain ⟨n, d, rfl, hd1, e1, e2, -⟩ := dk_get hc (by omega)
      obtain ⟨⟨hx, hb, hml, hown, hts⟩, hPer, -⟩ := F
      obtain ⟨c1, c2, c3⟩ := cls_ok x hn.1
      obtain ⟨f1, f2, f3, f4⟩ := fdecl x hn.1 y hy
      have he := wld_get (dA := dA) (ρ := ρ) (m := m) hd1
      rw [cel_o (by omega), e1, (hm n d hd1).2.1 (by omega), e1] at he
      have K := kk P
      rw [List.map_cons, val_f f3] at K
      refine va_get (D := D) (ci := x) (C := cN x) (T := cT x) (N := cF x) (Ts := tblG) hx hb hts c1 hown hPer.1 P.2.2.1 n he c3 y hy (hts _ (fl_word hfl)) (fun w hw => by rw [f1] at hw; exact hw) (v := fvl ρ (fTag x y) (m n (y : Int))) (by simp [hy]) hd K
    · cases h
  · cases h
theorem st_put {idx len : Nat} (F : Fx p R s mi args meth c D dA A H0 M) (P : Hp D dA A H0 sb base sbase M ls ds m ρ H locs cells slots lsv) (hm : mok ds m) (hd : decode (mjB M) pc = .ok (.putfield idx, len)) (hok : okE M (pc, .putfield idx, len, x, y) = true) (hn : okN (pc, .putfield idx, len, x, y) = true) (h : stpI (.putfield idx) M (pc + len) pc x y ls st ds m = some ((0, z), (pc', ls', st', ds', m')))
    (kk : ∀ H locs, Hp D dA A H0 sb base sbase M ls' ds' m' ρ H locs cells slots lsv → W p l e R s mi args below meth c H locs cells slots Q (F0 mi pc' lsv (st'.map (val ρ sb)))) : W p l e R s mi args below meth c H locs cells slots Q (F0 mi pc lsv (st.map (val ρ sb))) := by
  simp only [okE, okN, decide_eq_true_eq] at hok hn
  obtain ⟨rfl, hy, hfl, hfin⟩ := hok
  dsimp only [stpI] at h
  split at h
  · next u v a r =>
    split at h
    · next hc =>
      unfold nx at h
      cases h
      obtain ⟨n, d, rfl, hd1, e1, e2, -⟩ := dk_get hc.2 (by omega)
      obtain ⟨⟨hx, hb, hml, hown, hts⟩, hPer, hini, -⟩ := F
      obtain ⟨c1, c2, c3⟩ := cls_ok x hn.1
      obtain ⟨f1, f2, f3, f4⟩ := fdecl x hn.1 y hy
      have he := wld_get (dA := dA) (ρ := ρ) (m := m) hd1
      have hN := (hm n d hd1).2.1 (by omega)
      rw [cel_o (by omega), e1, hN, e1] at he
      obtain ⟨t1, t2⟩ := ty_ok (ρ := ρ) (z := v) f2
      have hw : cel dA ρ d (fun j => if j = (y : Int) then v else m n j) = .inr (x, ((List.range (cF x)).map (fun (k : Nat) => fvl ρ (fTag x k) (m n (k : Int)))).set y (fvl ρ (fTag x y) v)) := by
        rw [cel_o (by omega), e1, hN, e1, fs_set]
        congr 2
        refine List.map_congr_left (fun k _ => ?_)
        by_cases hk : k = y
        · subst hk
          simp
        · rw [if_neg hk, if_neg (by omega)]
      rw [List.map_cons, hc.1, val_f f3]
      show W p l e R s mi args below meth c H locs cells slots Q (F0 mi pc lsv (fvl ρ (fTag x y) v :: .ref (ρ n) :: st'.map (val ρ sb)))
      by_cases hfin2 : (cT x y).2.2.2 = false
      · exact va_put (D := D) (ci := x) (C := cN x) (T := cT x) (N := cF x) (Ts := tblG) hx hb hts c1 (cY x) (fun k hk => (fdecl x hn.1 k hk).2.2.2) c2 hown hPer.1 P.2.2.1 P.2.2.2.1 P.2.2.2.2.1 n he c3 y hy (hts _ (fl_word hfl)) (fun w hw => by rw [f1] at hw; exact hw) hfin2 f4 t1 t2 (by simp [hy]) hd (fun H1 locs1 hP hD hS => kk H1 locs1 (P.st1 hd1 hw hP hD hS))
      · rcases hfin with hfin | ⟨hin, hxo⟩
        · exact absurd hfin hfin2
        · exact va_putF (D := D) (ci := x) (C := cN x) (T := cT x) (N := cF x) (Ts := tblG) hx hb hts c1 (cY x) (fun k hk => (fdecl x hn.1 k hk).2.2.2) c2 hown hPer.1 P.2.2.1 P.2.2.2.1 P.2.2.2.2.1 n he c3 y hy (hts _ (fl_word hfl)) (fun w hw => by rw [f1] at hw; exact hw) (by simpa using hfin2) (hini hin) (by rw [f1, hxo]) f4 t1 t2 (by simp [hy]) hd (fun H1 locs1 hP hD hS => kk H1 locs1 (P.st1 hd1 hw hP hD hS))
    · cases h
  · cases h
/-- the array's class number and sort, by kind -/
theorem ty_at {k : Nat} (h : k = 10 ∨ k = 11 ∨ k = 12) : (tysW dA)[k - 10]? = some (dA (k - 10), if k = 10 then .int else if k = 11 then .boolean else .long) := by
  rcases h with rfl | rfl | rfl <;> rfl
theorem st_iald {len : Nat} (F : Fx p R s mi args meth c D dA A H0 M) (P : Hp D dA A H0 sb base sbase M ls ds m ρ H locs cells slots lsv) (hm : mok ds m) (hd : decode (mjB M) pc = .ok (.iaload, len)) (hl : len = 1) (h : ald 10 0 (pc + len) ls st ds m = some ((0, z), (pc', ls', st', ds', m')))
    (kk : Hp D dA A H0 sb base sbase M ls' ds' m' ρ H locs cells slots lsv → W p l e R s mi args below meth c H locs cells slots Q (F0 mi pc' lsv (st'.map (val ρ sb)))) : W p l e R s mi args below meth c H locs cells slots Q (F0 mi pc lsv (st.map (val ρ sb))) := by
  subst hl
  obtain ⟨i, n, d, r, rfl, hd1, e1, h0, h1, rfl, rfl, rfl, rfl, rfl⟩ := ald_inv (by omega) h
  obtain ⟨⟨hx, hb, hml, hown, hts⟩, hPer, -⟩ := F
  have he := wld_get (dA := dA) (ρ := ρ) (m := m') hd1
  rw [cel_i (by omega), e1] at he
  have hlen := (hm n d hd1).2.2.1
  obtain ⟨g1, g2⟩ := c_in (n := d.2) h0 h1 (by omega)
  have K := kk P
  refine va_iald (D := D) hx hb hPer.1 P.2.2.1 n 0 he rfl g1 hd ?_
  rw [g2]
  have e3 : ((i.toNat : Nat) : Int) = i := by omega
  rw [e3]
  exact K
theorem st_bald {len : Nat} (F : Fx p R s mi args meth c D dA A H0 M) (P : Hp D dA A H0 sb base sbase M ls ds m ρ H locs cells slots lsv) (hm : mok ds m) (hd : decode (mjB M) pc = .ok (.baload, len)) (hl : len = 1) (h : ald 11 0 (pc + len) ls st ds m = some ((0, z), (pc', ls', st', ds', m')))
    (kk : Hp D dA A H0 sb base sbase M ls' ds' m' ρ H locs cells slots lsv → W p l e R s mi args below meth c H locs cells slots Q (F0 mi pc' lsv (st'.map (val ρ sb)))) : W p l e R s mi args below meth c H locs cells slots Q (F0 mi pc lsv (st.map (val ρ sb))) := by
  subst hl
  obtain ⟨i, n, d, r, rfl, hd1, e1, h0, h1, rfl, rfl, rfl, rfl, rfl⟩ := ald_inv (by omega) h
  obtain ⟨⟨hx, hb, hml, hown, hts⟩, hPer, -⟩ := F
  have he := wld_get (dA := dA) (ρ := ρ) (m := m') hd1
  rw [cel_i (by omega), e1] at he
  have hlen := (hm n d hd1).2.2.1
  obtain ⟨g1, g2⟩ := c_in (n := d.2) h0 h1 (by omega)
  have K := kk P
  refine va_zald (D := D) hx hb hPer.1 P.2.2.1 n 1 he rfl g1 hd ?_
  rw [g2]
  have e3 : ((i.toNat : Nat) : Int) = i := by omega
  rw [e3]
  exact K
theorem st_lald {len : Nat} (F : Fx p R s mi args meth c D dA A H0 M) (P : Hp D dA A H0 sb base sbase M ls ds m ρ H locs cells slots lsv) (hm : mok ds m) (hd : decode (mjB M) pc = .ok (.laload, len)) (hl : len = 1) (h : ald 12 1 (pc + len) ls st ds m = some ((0, z), (pc', ls', st', ds', m')))
    (kk : Hp D dA A H0 sb base sbase M ls' ds' m' ρ H locs cells slots lsv → W p l e R s mi args below meth c H locs cells slots Q (F0 mi pc' lsv (st'.map (val ρ sb)))) : W p l e R s mi args below meth c H locs cells slots Q (F0 mi pc lsv (st.map (val ρ sb))) := by
  subst hl
  obtain ⟨i, n, d, r, rfl, hd1, e1, h0, h1, rfl, rfl, rfl, rfl, rfl⟩ := ald_inv (by omega) h
  obtain ⟨⟨hx, hb, hml, hown, hts⟩, hPer, -⟩ := F
  have he := wld_get (dA := dA) (ρ := ρ) (m := m') hd1
  rw [cel_l e1] at he
  have hlen := (hm n d hd1).2.2.1
  obtain ⟨g1, g2⟩ := c_in (n := d.2) h0 h1 (by omega)
  have K := kk P
  refine va_lald (D := D) hx hb hPer.1 P.2.2.1 n 2 he rfl g1 hd ?_
  rw [g2]
  have e3 : ((i.toNat : Nat) : Int) = i := by omega
  rw [e3]
  exact K
theorem st_iast {len : Nat} (F : Fx p R s mi args meth c D dA A H0 M) (P : Hp D dA A H0 sb base sbase M ls ds m ρ H locs cells slots lsv) (hm : mok ds m) (hd : decode (mjB M) pc = .ok (.iastore, len)) (hl : len = 1) (h : ast 10 0 (pc + len) (fun _ => True) ls st ds m = some ((0, z), (pc', ls', st', ds', m')))
    (kk : ∀ H locs, Hp D dA A H0 sb base sbase M ls' ds' m' ρ H locs cells slots lsv → W p l e R s mi args below meth c H locs cells slots Q (F0 mi pc' lsv (st'.map (val ρ sb)))) : W p l e R s mi args below meth c H locs cells slots Q (F0 mi pc lsv (st.map (val ρ sb))) := by
  subst hl
  obtain ⟨v, i, n, d, r, rfl, hv, hd1, e1, h0, h1, rfl, rfl, rfl, rfl, rfl⟩ := ast_inv (by omega) h
  obtain ⟨⟨hx, hb, hml, hown, hts⟩, hPer, -⟩ := F
  have he := wld_get (dA := dA) (ρ := ρ) (m := m) hd1
  rw [cel_i (by omega), e1] at he
  have hlen := (hm n d hd1).2.2.1
  obtain ⟨g1, g2⟩ := c_in (n := d.2) h0 h1 (by omega)
  refine va_iast (D := D) hx hb hPer.1 P.2.2.1 P.2.2.2.1 P.2.2.2.2.1 n 0 he rfl g1 hd (fun H1 locs1 hP hD hS => kk H1 locs1 (P.st1 hd1 ?_ hP hD hS))
  rw [cel_i (by omega), e1, g2, upd_of h0]
theorem st_bast {len : Nat} (F : Fx p R s mi args meth c D dA A H0 M) (P : Hp D dA A H0 sb base sbase M ls ds m ρ H locs cells slots lsv) (hm : mok ds m) (hd : decode (mjB M) pc = .ok (.bastore, len)) (hl : len = 1) (h : ast 11 0 (pc + len) (fun v => v = 0 ∨ v = 1) ls st ds m = some ((0, z), (pc', ls', st', ds', m')))
    (kk : ∀ H locs, Hp D dA A H0 sb base sbase M ls' ds' m' ρ H locs cells slots lsv → W p l e R s mi args below meth c H locs cells slots Q (F0 mi pc' lsv (st'.map (val ρ sb)))) : W p l e R s mi args below meth c H locs cells slots Q (F0 mi pc lsv (st.map (val ρ sb))) := by
  subst hl
  obtain ⟨v, i, n, d, r, rfl, hv, hd1, e1, h0, h1, rfl, rfl, rfl, rfl, rfl⟩ := ast_inv (by omega) h
  obtain ⟨⟨hx, hb, hml, hown, hts⟩, hPer, -⟩ := F
  have he := wld_get (dA := dA) (ρ := ρ) (m := m) hd1
  rw [cel_i (by omega), e1] at he
  have hlen := (hm n d hd1).2.2.1
  obtain ⟨g1, g2⟩ := c_in (n := d.2) h0 h1 (by omega)
  refine va_zast (D := D) hx hb hPer.1 P.2.2.1 P.2.2.2.1 P.2.2.2.2.1 n 1 he rfl g1 hd (fun H1 locs1 hP hD hS => kk H1 locs1 (P.st1 hd1 ?_ hP hD hS))
  have e4 : vp_nar .boolean (Int32.ofInt v) = Int32.ofInt v := by rcases hv with rfl | rfl <;> decide
  rw [cel_i (by omega), e1, g2, e4, upd_of h0]
theorem st_last {len : Nat} (F : Fx p R s mi args meth c D dA A H0 M) (P : Hp D dA A H0 sb base sbase M ls ds m ρ H locs cells slots lsv) (hm : mok ds m) (hd : decode (mjB M) pc = .ok (.lastore, len)) (hl : len = 1) (h : ast 12 1 (pc + len) (fun _ => True) ls st ds m = some ((0, z), (pc', ls', st', ds', m')))
    (kk : ∀ H locs, Hp D dA A H0 sb base sbase M ls' ds' m' ρ H locs cells slots lsv → W p l e R s mi args below meth c H locs cells slots Q (F0 mi pc' lsv (st'.map (val ρ sb)))) : W p l e R s mi args below meth c H locs cells slots Q (F0 mi pc lsv (st.map (val ρ sb))) := by
  subst hl
  obtain ⟨v, i, n, d, r, rfl, hv, hd1, e1, h0, h1, rfl, rfl, rfl, rfl, rfl⟩ := ast_inv (by omega) h
  obtain ⟨⟨hx, hb, hml, hown, hts⟩, hPer, -⟩ := F
  have he := wld_get (dA := dA) (ρ := ρ) (m := m) hd1
  rw [cel_l e1] at he
  have hlen := (hm n d hd1).2.2.1
  obtain ⟨g1, g2⟩ := c_in (n := d.2) h0 h1 (by omega)
  refine va_last (D := D) hx hb hPer.1 P.2.2.1 P.2.2.2.1 P.2.2.2.2.1 n 2 he rfl g1 hd (fun H1 locs1 hP hD hS => kk H1 locs1 (P.st1 hd1 ?_ hP hD hS))
  rw [cel_l e1, g2, updL_of h0]
theorem st_aald {len : Nat} (F : Fx p R s mi args meth c D dA A H0 M) (P : Hp D dA A H0 sb base sbase M ls ds m ρ H locs cells slots lsv) (hm : mok ds m) (hd : decode (mjB M) pc = .ok (.aaload, len)) (hl : len = 1) (h : stpI .aaload M (pc + len) pc x y ls st ds m = some ((0, z), (pc', ls', st', ds', m')))
    (kk : Hp D dA A H0 sb base sbase M ls' ds' m' ρ H locs cells slots lsv → W p l e R s mi args below meth c H locs cells slots Q (F0 mi pc' lsv (st'.map (val ρ sb)))) : W p l e R s mi args below meth c H locs cells slots Q (F0 mi pc lsv (st.map (val ρ sb))) := by
  subst hl
  dsimp only [stpI] at h
  split at h
  · next i a r =>
    split at h
    · next hc =>
      unfold nx at h
      cases h
      obtain ⟨n, d, rfl, hd1, e1, e2, -⟩ := dk_get (ds := ds) (a := a) rfl (by omega)
      obtain ⟨⟨hx, hb, hml, hown, hts⟩, hPer, -⟩ := F
      obtain ⟨hk, h0, h1⟩ := hc
      rw [e2] at h1
      rw [← e1] at hk
      have he := wld_get (dA := dA) (ρ := ρ) (m := m) hd1
      rw [cel_r hk] at he
      have hlen := (hm n d hd1).2.2.1
      obtain ⟨g1, g2⟩ := c_in (n := d.2) h0 h1 (by omega)
      have K := kk P
      have e3 : ((i.toNat : Nat) : Int) = i := by omega
      rcases hk with hk | hk
      · rw [hk] at he
        refine va_aldq (D := D) (C := RX4) hx hb hPer.1 P.2.2.1 n 3 he rfl g1 hd ?_
        rw [g2, e3]
        exact K
      · rw [hk] at he
        refine va_aldq (D := D) (C := RX3) hx hb hPer.1 P.2.2.1 n 4 he rfl g1 hd ?_
        rw [g2, e3]
        exact K
    · cases h
  · cases h
theorem st_aast {len : Nat} (F : Fx p R s mi args meth c D dA A H0 M) (P : Hp D dA A H0 sb base sbase M ls ds m ρ H locs cells slots lsv) (hm : mok ds m) (hd : decode (mjB M) pc = .ok (.aastore, len)) (hl : len = 1) (h : stpI .aastore M (pc + len) pc x y ls st ds m = some ((0, z), (pc', ls', st', ds', m')))
    (kk : ∀ H locs, Hp D dA A H0 sb base sbase M ls' ds' m' ρ H locs cells slots lsv → W p l e R s mi args below meth c H locs cells slots Q (F0 mi pc' lsv (st'.map (val ρ sb)))) : W p l e R s mi args below meth c H locs cells slots Q (F0 mi pc lsv (st.map (val ρ sb))) := by
  subst hl
  dsimp only [stpI] at h
  split at h
  · next v i a r =>
    split at h
    · next hc =>
      unfold nx at h
      cases h
      obtain ⟨n, d, rfl, hd1, e1, e2, -⟩ := dk_get (ds := ds) (a := a) rfl (by omega)
      obtain ⟨⟨hx, hb, hml, hown, hts⟩, hPer, -⟩ := F
      obtain ⟨hk, h0, h1⟩ := hc
      rw [e2] at h1
      have he := wld_get (dA := dA) (ρ := ρ) (m := m) hd1
      rw [cel_r (by rw [e1]; omega)] at he
      have hlen := (hm n d hd1).2.2.1
      obtain ⟨g1, g2⟩ := c_in (n := d.2) h0 h1 (by omega)
      have go : ∀ (kd co ti : Nat), d.1 = kd → (kd = 13 ∧ co = 4 ∧ ti = 3 ∨ kd = 14 ∧ co = 3 ∧ ti = 4) → (v < 0 ∨ dk ds v = co) → W p l e R s mi args below meth c H locs cells slots Q (F0 mi pc lsv (((2, v) :: (0, i) :: (2, (n : Int)) :: st').map (val ρ sb))) := by
        intro kd co ti hkd hcase hv
        have ht : (tysW dA)[ti]? = some (dA (d.1 - 10), .object (cN co)) := by
          rw [hkd]
          rcases hcase with ⟨rfl, rfl, rfl⟩ | ⟨rfl, rfl, rfl⟩ <;> rfl
        have hco : co < 8 := by omega
        have up2 : ∀ H1 locs1, va_P D vwCl ((wld dA ρ ds m).set n (ρ n, .inl (dA (d.1 - 10), d.2, .inr (.inr (.inr (.inr (va_up (fun (j : Nat) => rfo ρ (m n (j : Int))) (Int32.ofInt i).toNatClampNeg (rfo ρ v)))))))) H1 → va_D A ((wld dA ρ ds m).set n (ρ n, .inl (dA (d.1 - 10), d.2, .inr (.inr (.inr (.inr (va_up (fun (j : Nat) => rfo ρ (m n (j : Int))) (Int32.ofInt i).toNatClampNeg (rfo ρ v)))))))) → va_S A H0 H1 locs1 → W p l e R s mi args below meth c H1 locs1 cells slots Q (F0 mi (pc + 1) lsv (st'.map (val ρ sb))) := by
          intro H1 locs1 hP hD hS
          refine kk H1 locs1 (P.st1 hd1 ?_ hP hD hS)
          rw [cel_r (by rw [hkd]; omega), g2, va_up_of h0]
        rcases hv with hv | hv
        · cases v with
          | ofNat q => exact absurd hv (by have : (0 : Int) ≤ Int.ofNat q := Int.natCast_nonneg q; omega)
          | negSucc q => exact va_astqN (D := D) (C := cN co) hx hb hPer.1 P.2.2.1 P.2.2.2.1 P.2.2.2.2.1 n ti he ht g1 hd up2
        · obtain ⟨k, dv, rfl, hdv, e3, e4, -⟩ := dk_get hv (by omega)
          have hev := wld_get (dA := dA) (ρ := ρ) (m := m) hdv
          rw [cel_o (by omega), e3] at hev
          exact va_astq (D := D) (ci := co) (r := (cN co, cT co, cF co)) hx hb hPer.1 P.2.2.1 P.2.2.2.1 P.2.2.2.2.1 n ti k he ht hev (cls_ok co hco).2.2 g1 hd up2
      rcases hk with ⟨k1, k2⟩ | ⟨k1, k2⟩
      · exact go 13 4 3 (by rw [e1]; exact k1) (Or.inl ⟨rfl, rfl, rfl⟩) k2
      · exact go 14 3 4 (by rw [e1]; exact k1) (Or.inr ⟨rfl, rfl, rfl⟩) k2
    · cases h
  · cases h
end ST2
