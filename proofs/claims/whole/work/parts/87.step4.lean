section ST4
variable {p : Program} {l : Launch} {e : Env} {R : Room} {s : State} {mi : MethodId} {args : Array Value} {below : List Frame} {meth : Method} {c : Code}
variable {Q : State → Prop} {D : va_G} {dA : Nat → ClassId} {A : Nat → Prop} {H0 H : Heap} {locs : List Loc} {sb base sbase M cells slots : Nat} {lsv : Array Slot} {ρ : Nat → Nat}
variable {pc pc' x y : Nat} {z ls ls' st st' : List MV} {ds ds' : Ds} {m m' : Mm}
theorem clamp_of2 {a : Int} (h0 : 0 ≤ a) (h1 : a < 2147483648) : ¬ Int32.ofInt a < 0 ∧ (Int32.ofInt a).toNatClampNeg = a.toNat := by
  have e0 : (Int32.ofInt a).toInt = a := j_toInt (by omega) h1
  refine ⟨?_, ?_⟩
  · rw [Int32.lt_iff_toInt_lt, e0]
    show ¬ a < 0
    omega
  · show (Int32.ofInt a).toInt.toNat = a.toNat
    rw [e0]
theorem st_copy {idx len : Nat} (F : Fx p R s mi args meth c D dA A H0 M) (P : Hp D dA A H0 sb base sbase M ls ds m ρ H locs cells slots lsv) (hm : mok ds m) (hd : decode (mjB M) pc = .ok (.invokestatic idx, len)) (hok : okE M (pc, .invokestatic idx, len, 1000, y) = true) {n1 n2 : Nat} {d1 d2 : Nat × Nat} {n sp dp : Int} {r7 : List MV} (hd1 : ds[n1]? = some d1) (hd2 : ds[n2]? = some d2) (hk1 : d1.1 = 12) (hk2 : d2.1 = 12) (hn : 0 ≤ n) (hsp : 0 ≤ sp) (hdp : 0 ≤ dp) (h4 : sp + n ≤ d1.2) (h5 : dp + n ≤ d2.2) (hr : (r7.map cat).sum ≤ 8)
    (kk : ∀ H locs, Hp D dA A H0 sb base sbase M ls ds (cpy m n1 sp n2 dp n) ρ H locs cells slots lsv → W p l e R s mi args below meth c H locs cells slots Q (F0 mi (pc + len) lsv (r7.map (val ρ sb)))) : W p l e R s mi args below meth c H locs cells slots Q (F0 mi pc lsv (.int (Int32.ofInt n) :: .int (Int32.ofInt dp) :: .ref (ρ n2) :: .int (Int32.ofInt sp) :: .ref (ρ n1) :: r7.map (val ρ sb))) := by
  simp only [okE, if_true, decide_eq_true_eq] at hok
  obtain ⟨rfl, ho, rfl, hfr, hlo⟩ := hok
  obtain ⟨⟨hx, hb, hml, hown, hts⟩, hPer, hini, hA, hF, hL, -⟩ := F
  rw [ho] at hown
  have g1 := wld_get (dA := dA) (ρ := ρ) (m := m) hd1
  have g2 := wld_get (dA := dA) (ρ := ρ) (m := m) hd2
  rw [cel_l hk1] at g1
  rw [cel_l hk2] at g2
  have l1 := (hm n1 d1 hd1).2.2.1
  have l2 := (hm n2 d2 hd2).2.2.1
  obtain ⟨a1, a2⟩ := clamp_of2 (a := n) hn (by omega)
  obtain ⟨b1, b2⟩ := clamp_of2 (a := sp) hsp (by omega)
  obtain ⟨c1, c2⟩ := clamp_of2 (a := dp) hdp (by omega)
  have hnw : nativeFrameWords "java/lang/System" "arraycopy" 5 = 7 := by decide +kernel
  refine va_copyl (D := D) hx hb (by rw [hml]; exact P.2.1.1.symm) hown (hts _ (in_G CP_lw rfl)) (hts _ (in_G CP_nw rfl)) (hts _ (in_G CP_sw rfl)) (hts _ (in_G CP_iw rfl)) hPer.1 P.2.2.1 P.2.2.2.1 P.2.2.2.2.1 n1 n2 2 2 g1 g2 rfl rfl rfl b1 c1 a1 (by rw [a2, b2]; omega) (by rw [a2, c2]; omega) (fun _ _ => rfl) (by omega) (by rw [cat_sum, hnw]; omega) hd (fun H1 locs1 hP hD hS => kk H1 locs1 ?_)
  have hw : cel dA ρ d2 (fun j => if dp ≤ j ∧ j < dp + n then m n1 (sp + (j - dp)) else m n2 j) = .inl (dA 2, d2.2, .inr (.inl (va_cpy (fun (j : Nat) => Int64.ofInt (m n1 (j : Int))) (fun (j : Nat) => Int64.ofInt (m n2 (j : Int))) (Int32.ofInt sp).toNatClampNeg (Int32.ofInt dp).toNatClampNeg (Int32.ofInt n).toNatClampNeg))) := by
    rw [cel_l hk2, a2, b2, c2]
    congr 5
    funext j
    unfold va_cpy
    by_cases hj : dp.toNat ≤ j ∧ j < dp.toNat + n.toNat
    · rw [if_pos hj, if_pos (by omega)]
      congr 2
      omega
    · rw [if_neg hj, if_neg (by omega)]
  rw [← hw, ← wld_cpy hd2] at hP hD
  exact ⟨P.1, P.2.1, hP, hD, hS, P.2.2.2.2.2⟩
theorem oi_word {o idx : Nat} (h : (o, idx) ∈ OIp.map (·.2)) : Jvm.Cond.methodLink (cN o) idx objectInit ∈ tblG := by
  obtain ⟨q, hq, hx⟩ := List.mem_map.mp h
  have := OIw q hq
  obtain ⟨pl, a, b⟩ := q
  cases hx
  exact in_G this rfl
theorem kc_word {o idx v : Nat} (h : (o, idx, v) ∈ KCp.map (·.2)) : Jvm.Cond.constant (cN o) idx (Int32.ofInt v) ∈ tblG := by
  obtain ⟨q, hq, hx⟩ := List.mem_map.mp h
  have := KCw q hq
  obtain ⟨pl, a, b, d⟩ := q
  cases hx
  exact in_G this rfl
theorem kl_word {o idx v : Nat} (h : (o, idx, v) ∈ KLp.map (·.2)) : Jvm.Cond.constantLong (cN o) idx (Int64.ofInt v) ∈ tblG := by
  obtain ⟨q, hq, hx⟩ := List.mem_map.mp h
  have := KLw q hq
  obtain ⟨pl, a, b, d⟩ := q
  cases hx
  exact in_G this rfl
theorem i8_of {n : Int} (h1 : -128 ≤ n) (h2 : n < 128) : (Int8.ofInt n).toInt32 = Int32.ofInt n := by
  apply Int32.toInt_inj.mp
  rw [j_toInt (by omega) (by omega), Int8.toInt_toInt32, Int8.toInt_ofInt_of_le (by omega) (by omega)]
theorem i16_of {n : Int} (h1 : -32768 ≤ n) (h2 : n < 32768) : (Int16.ofInt n).toInt32 = Int32.ofInt n := by
  apply Int32.toInt_inj.mp
  rw [j_toInt (by omega) (by omega), Int16.toInt_toInt32, Int16.toInt_ofInt_of_le (by omega) (by omega)]
theorem i2l_of {n : Int} (h1 : -2147483648 ≤ n) (h2 : n < 2147483648) : (Int32.ofInt n).toInt64 = Int64.ofInt n := by
  apply Int64.toInt_inj.mp
  rw [j_toInt64 (by omega) (by omega), Int32.toInt_toInt64, j_toInt (by omega) (by omega)]
end ST4
theorem lcmp_of {N : Nat} {a b : Int} (ha : vok N (1, a)) (hb : vok N (1, b)) : lg_cmp (Int64.ofInt a) (Int64.ofInt b) = Int32.ofInt (jcmp a b) := by
  have e1 := j_toInt64 (ha.2.1 rfl).1 (ha.2.1 rfl).2
  have e2 := j_toInt64 (hb.2.1 rfl).1 (hb.2.1 rfl).2
  unfold lg_cmp jcmp
  simp only [gt_iff_lt, Int64.lt_iff_toInt_lt, ← Int64.toInt_inj, e1, e2]
  by_cases h1 : b < a
  · rw [if_pos h1, if_neg (by omega), if_neg (by omega)]
    rfl
  · rw [if_neg h1]
    by_cases h2 : a = b
    · rw [if_pos h2, if_neg (by omega), if_pos h2]
      rfl
    · rw [if_neg h2, if_pos (by omega)]
      rfl
section ST5
variable {p : Program} {l : Launch} {e : Env} {R : Room} {s : State} {mi : MethodId} {args : Array Value} {below : List Frame} {meth : Method} {c : Code}
variable {Q : State → Prop} {D : va_G} {dA : Nat → ClassId} {A : Nat → Prop} {H0 H : Heap} {locs : List Loc} {sb base sbase M cells slots : Nat} {lsv : Array Slot} {ρ : Nat → Nat}
variable {pc pc' x y : Nat} {z ls ls' st st' : List MV} {ds ds' : Ds} {m m' : Mm}
set_option maxHeartbeats 4000000 in
theorem stepW (F : Fx p R s mi args meth c D dA A H0 M) (P : Hp D dA A H0 sb base sbase M ls ds m ρ H locs cells slots lsv) (hm : mok ds m) (hl : ∀ v ∈ ls, vok ds.length v) (hs : ∀ v ∈ st, vok ds.length v) (S : Scr M sb m s H0 A) (h : mjStp M pc ls st ds m = some ((0, z), (pc', ls', st', ds', m'))) (hR1 : ds'.length ≤ base + R.cells) (hR2 : sl ds' ≤ sbase + R.slots)
    (kk : ∀ ρ' H locs cells slots lsv, (∀ i, i < ds.length → ρ' i = ρ i) → Hp D dA A H0 sb base sbase M ls' ds' m' ρ' H locs cells slots lsv → W p l e R s mi args below meth c H locs cells slots Q (F0 mi pc' lsv (st'.map (val ρ' sb)))) : W p l e R s mi args below meth c H locs cells slots Q (F0 mi pc lsv (st.map (val ρ sb))) := by
  unfold mjStp at h
  cases hc : mjCode M pc with
  | none => rw [hc] at h; cases h
  | some q =>
  obtain ⟨i, len, x, y⟩ := q
  rw [hc] at h
  dsimp only at h
  obtain ⟨hd, hok, hn⟩ := code_facts F.2.2.2.2.2.2 hc
  have hx := F.1.1
  have hb := F.1.2.1
  have k1 : Hp D dA A H0 sb base sbase M ls' ds' m' ρ H locs cells slots lsv → W p l e R s mi args below meth c H locs cells slots Q (F0 mi pc' lsv (st'.map (val ρ sb))) := fun P' => kk ρ H locs cells slots lsv (fun _ _ => rfl) P'
  have k2 : ∀ lsv, Hp D dA A H0 sb base sbase M ls' ds' m' ρ H locs cells slots lsv → W p l e R s mi args below meth c H locs cells slots Q (F0 mi pc' lsv (st'.map (val ρ sb))) := fun lsv P' => kk ρ H locs cells slots lsv (fun _ _ => rfl) P'
  have k3 : ∀ H locs, Hp D dA A H0 sb base sbase M ls' ds' m' ρ H locs cells slots lsv → W p l e R s mi args below meth c H locs cells slots Q (F0 mi pc' lsv (st'.map (val ρ sb))) := fun H locs P' => kk ρ H locs cells slots lsv (fun _ _ => rfl) P'
  cases i
  case aload_n k =>
    simp only [okE, decide_eq_true_eq] at hok
    subst hok
    exact st_ld F P h (fun e => absurd e (by omega)) (fun e => absurd e (by omega)) (fun _ a g w => lv_aload_n hx hb hd rfl g w) (fun _ g w => lv_aload_nN hx hb hd rfl g w) (by omega) k1
  case aload k =>
    simp only [okE, decide_eq_true_eq] at hok
    subst hok
    exact st_ld F P h (fun e => absurd e (by omega)) (fun e => absurd e (by omega)) (fun _ a g w => lv_aload hx hb hd g w) (fun _ g w => lv_aloadN hx hb hd g w) (by omega) k1
  case iload_n k =>
    simp only [okE, decide_eq_true_eq] at hok
    subst hok
    exact st_ld F P h (fun _ a g w => lv_iload_n hx hb hd rfl g w) (fun e => absurd e (by omega)) (fun e => absurd e (by omega)) (fun e => absurd e (by omega)) (by omega) k1
  case iload k =>
    simp only [okE, decide_eq_true_eq] at hok
    subst hok
    exact st_ld F P h (fun _ a g w => lv_iload hx hb hd g w) (fun e => absurd e (by omega)) (fun e => absurd e (by omega)) (fun e => absurd e (by omega)) (by omega) k1
  case lload_n k =>
    simp only [okE, decide_eq_true_eq] at hok
    subst hok
    exact st_ld F P h (fun e => absurd e (by omega)) (fun _ a g w => lv_lload_n hx hb hd rfl g w) (fun e => absurd e (by omega)) (fun e => absurd e (by omega)) (by omega) k1
  case lload k =>
    simp only [okE, decide_eq_true_eq] at hok
    subst hok
    exact st_ld F P h (fun e => absurd e (by omega)) (fun _ a g w => lv_lload hx hb hd g w) (fun e => absurd e (by omega)) (fun e => absurd e (by omega)) (by omega) k1
  case istore_n k =>
    simp only [okE, decide_eq_true_eq] at hok
    subst hok
    exact st_st F P h (fun _ a r8 hk w => lv_istore_n hx hb hd rfl P.2.1 hk rfl w) (fun e => absurd e (by omega)) (fun e => absurd e (by omega)) (by omega) k2
  case istore k =>
    simp only [okE, decide_eq_true_eq] at hok
    subst hok
    exact st_st F P h (fun _ a r8 hk w => lv_istore hx hb hd P.2.1 hk rfl w) (fun e => absurd e (by omega)) (fun e => absurd e (by omega)) (by omega) k2
  case astore_n k =>
    simp only [okE, decide_eq_true_eq] at hok
    subst hok
    exact st_st F P h (fun e => absurd e (by omega)) (fun _ a r8 hk w => lv_astore_n hx hb hd rfl P.2.1 hk rfl w) (fun _ r8 hk w => lv_astore_nN hx hb hd rfl P.2.1 hk rfl w) (by omega) k2
  case astore k =>
    simp only [okE, decide_eq_true_eq] at hok
    subst hok
    exact st_st F P h (fun e => absurd e (by omega)) (fun _ a r8 hk w => lv_astore hx hb hd P.2.1 hk rfl w) (fun _ r8 hk w => lv_astoreN hx hb hd P.2.1 hk rfl w) (by omega) k2
  case iinc k n =>
    simp only [okE, decide_eq_true_eq] at hok
    subst hok
    dsimp only [stpI] at h
    split at h
    · next v hv =>
      unfold nx at h
      cases h
      obtain ⟨j, hj⟩ := List.getElem?_of_mem (lst_mem.mpr ⟨(0, v), hv, by simp, rfl⟩ : (k, val ρ sb (0, v)) ∈ lst ρ sb ls)
      have hk : k < mjX M := by rw [← P.1]; exact (List.getElem?_eq_some_iff.mp hv).1
      have hp : k = 0 ∨ ¬ (ls.getD (k - 1) (3, 0)).1 = 1 := by
        by_cases h0 : k = 0
        · exact Or.inl h0
        · refine Or.inr (fun h1 => ?_)
          cases hq : ls[k - 1]? with
          | none => simp [List.getD, hq] at h1
          | some u =>
            simp [List.getD, hq] at h1
            have g1 := lh_get P.2.1 hq (by omega)
            have g2 := lh_get P.2.1 hv (by simp)
            have g3 := P.2.1.2.1.1 (k - 1) _ g1 (by rw [val_cat2]; unfold cat; rw [if_pos h1])
            rw [show k - 1 + 1 = k by omega, g2] at g3
            cases g3
      refine lv_iinc (x := Int32.ofInt v) (k := j) hx hb hd P.2.1 hj (v := Int32.ofInt (w32 (v + n))) (by rw [of_w32, Int32.ofInt_add]) hk rfl (fun ls2 h2 => ?_)
      exact k2 ls2 ⟨by rw [List.length_set]; exact P.1, lh_set (v := (0, w32 (v + n))) h2 hp, P.2.2⟩
    · cases h
  case iconst n =>
    simp only [okE, decide_eq_true_eq] at hok
    subst hok
    cases h
    exact lv_iconst hx hb hd rfl (k1 P)
  case bipush n =>
    simp only [okE, okN, decide_eq_true_eq] at hok hn
    subst hok
    cases h
    exact lv_bipush hx hb hd (i8_of hn.1 hn.2) (k1 P)
  case sipush n =>
    simp only [okE, okN, decide_eq_true_eq] at hok hn
    subst hok
    cases h
    exact lv_sipush hx hb hd (i16_of hn.1 hn.2) (k1 P)
  case lconst n =>
    simp only [okE, decide_eq_true_eq] at hok
    subst hok
    cases h
    exact lv_lconst hx hb hd Int64.ofInt_eq_ofNat.symm (k1 P)
  case ldc_w n =>
    simp only [okE, decide_eq_true_eq] at hok
    obtain ⟨rfl, hw⟩ := hok
    cases h
    exact lv_ldcw hx hb F.1.2.2.2.1 (F.1.2.2.2.2 _ (kc_word hw)) hd (k1 P)
  case ldc2_w n =>
    simp only [okE, decide_eq_true_eq] at hok
    obtain ⟨rfl, hw⟩ := hok
    cases h
    exact lv_ldc2 hx hb F.1.2.2.2.1 (F.1.2.2.2.2 _ (kl_word hw)) hd (k1 P)
  case aconst_null =>
    simp only [okE, decide_eq_true_eq] at hok
    subst hok
    cases h
    exact lv_null hx hb hd (k1 P)
  case dup =>
    simp only [okE, decide_eq_true_eq] at hok
    subst hok
    dsimp only [stpI] at h
    split at h
    · split at h
      · cases h
      · next h1 => cases h; exact lv_dup hx hb hd (val_cat h1) (k1 P)
    · cases h
  case dup2 =>
    simp only [okE, decide_eq_true_eq] at hok
    subst hok
    dsimp only [stpI] at h
    split at h
    · split at h
      · cases h
      · next h1 => cases h; exact lv_dup2_11 hx hb hd (val_cat (fun q => h1 (Or.inl q))) (val_cat (fun q => h1 (Or.inr q))) (k1 P)
    · cases h
  case pop =>
    simp only [okE, decide_eq_true_eq] at hok
    subst hok
    dsimp only [stpI] at h
    split at h
    · split at h
      · cases h
      · next h1 => cases h; exact lv_pop hx hb hd (val_cat h1) (k1 P)
    · cases h
  case iadd =>
    simp only [okE, decide_eq_true_eq] at hok
    subst hok
    exact st_bin (i := .iadd) (pn := pc + 1) (w0 := fun a b => a + b) P h (fun a b w hw => by cases hw; rw [of_w32, Int32.ofInt_add]) (fun a b r8 _ w => lv_iadd hx hb hd w) k1
  case isub =>
    simp only [okE, decide_eq_true_eq] at hok
    subst hok
    exact st_bin (i := .isub) (pn := pc + 1) (w0 := fun a b => a - b) P h (fun a b w hw => by cases hw; rw [of_w32, Int32.ofInt_sub]) (fun a b r8 _ w => lv_isub hx hb hd w) k1
  case imul =>
    simp only [okE, decide_eq_true_eq] at hok
    subst hok
    exact st_bin (i := .imul) (pn := pc + 1) (w0 := fun a b => a * b) P h (fun a b w hw => by cases hw; rw [of_w32, Int32.ofInt_mul]) (fun a b r8 _ w => lv_imul hx hb hd w) k1
  case iand =>
    simp only [okE, decide_eq_true_eq] at hok
    subst hok
    exact st_bin (i := .iand) (pn := pc + 1) (w0 := fun a b => a &&& b) P h (fun a b w hw => by cases hw; exact of_toInt _) (fun a b r8 _ w => lv_iand hx hb hd w) k1
  case ior =>
    simp only [okE, decide_eq_true_eq] at hok
    subst hok
    exact st_bin (i := .ior) (pn := pc + 1) (w0 := fun a b => a ||| b) P h (fun a b w hw => by cases hw; exact of_toInt _) (fun a b r8 _ w => lv_ior hx hb hd w) k1
  case ixor =>
    simp only [okE, decide_eq_true_eq] at hok
    subst hok
    exact st_bin (i := .ixor) (pn := pc + 1) (w0 := fun a b => a ^^^ b) P h (fun a b w hw => by cases hw; exact of_toInt _) (fun a b r8 _ w => lv_ixor hx hb hd w) k1
  case ishl =>
    simp only [okE, decide_eq_true_eq] at hok
    subst hok
    exact st_bin (i := .ishl) (pn := pc + 1) (w0 := fun a b => a <<< (b &&& 31)) P h (fun a b w hw => by cases hw; exact of_toInt _) (fun a b r8 _ w => lv_ishl hx hb hd w) k1
  case ishr =>
    simp only [okE, decide_eq_true_eq] at hok
    subst hok
    exact st_bin (i := .ishr) (pn := pc + 1) (w0 := fun a b => a >>> (b &&& 31)) P h (fun a b w hw => by cases hw; exact of_toInt _) (fun a b r8 _ w => lv_ishr hx hb hd w) k1
  case iushr =>
    simp only [okE, decide_eq_true_eq] at hok
    subst hok
    exact st_bin (i := .iushr) (pn := pc + 1) (w0 := fun a b => (a.toUInt32 >>> (b.toUInt32 &&& Int32.toUInt32 31)).toInt32) P h (fun a b w hw => by cases hw; exact of_toInt _) (fun a b r8 _ w => lv_iushr hx hb hd rfl w) k1
  case idiv =>
    simp only [okE, decide_eq_true_eq] at hok
    subst hok
    refine st_bin (i := .idiv) (pn := pc + 1) (w0 := fun a b => a / b) P h (fun a b w hw => ?_) (fun a b r8 hq w => lv_idiv hx hb hd ?_ w) k1
    · dsimp only [bop] at hw
      split at hw
      · cases hw
      · cases hw; exact of_toInt _
    · obtain ⟨u, v, w1, rfl, rfl, hw, hmem⟩ := hq
      dsimp only [bop] at hw
      split at hw
      · cases hw
      · next hv => exact fun q => hv ((c_eq (hs _ hmem) vok_0).mp q)
  case irem =>
    simp only [okE, decide_eq_true_eq] at hok
    subst hok
    refine st_bin (i := .irem) (pn := pc + 1) (w0 := fun a b => a - a / b * b) P h (fun a b w hw => ?_) (fun a b r8 hq w => lv_irem hx hb hd ?_ w) k1
    · dsimp only [bop] at hw
      split at hw
      · cases hw
      · cases hw; exact of_toInt _
    · obtain ⟨u, v, w1, rfl, rfl, hw, hmem⟩ := hq
      dsimp only [bop] at hw
      split at hw
      · cases hw
      · next hv => exact fun q => hv ((c_eq (hs _ hmem) vok_0).mp q)
  case ineg =>
    simp only [okE, decide_eq_true_eq] at hok
    subst hok
    dsimp only [stpI] at h
    split at h
    · next a8 r8 =>
      cases h
      refine lv_ineg hx hb hd ?_
      have K := k1 P
      rw [List.map_cons, show val ρ sb (0, w32 (-a8)) = .int (-Int32.ofInt a8) from (congrArg Value.int ((of_w32 _).trans (Int32.ofInt_neg _)))] at K
      exact K
    · cases h
  case i2l =>
    simp only [okE, decide_eq_true_eq] at hok
    subst hok
    dsimp only [stpI] at h
    split at h
    · cases h
      have h0 := (al_h hs).1 rfl
      exact lv_i2l hx hb hd (i2l_of h0.1 h0.2) (k1 P)
    · cases h
  case l2i =>
    simp only [okE, decide_eq_true_eq] at hok
    subst hok
    dsimp only [stpI] at h
    split at h
    · cases h
      exact lv_l2i hx hb hd (of_toInt _).symm (k1 P)
    · cases h
  case i2b =>
    simp only [okE, decide_eq_true_eq] at hok
    subst hok
    dsimp only [stpI] at h
    split at h
    · cases h
      exact lv_i2b hx hb hd (of_toInt _).symm (k1 P)
    · cases h
  case i2s =>
    simp only [okE, decide_eq_true_eq] at hok
    subst hok
    dsimp only [stpI] at h
    split at h
    · cases h
      exact lv_i2s hx hb hd (of_toInt _).symm (k1 P)
    · cases h
  case lshl =>
    simp only [okE, decide_eq_true_eq] at hok
    subst hok
    dsimp only [stpI] at h
    split at h
    · cases h
      exact lv_lshl hx hb hd (of_toInt64 _).symm (k1 P)
    · cases h
  case lor =>
    simp only [okE, decide_eq_true_eq] at hok
    subst hok
    dsimp only [stpI] at h
    split at h
    · next w8 z8 r8 =>
      cases h
      refine lv_lor hx hb hd ?_
      have K := k1 P
      rw [List.map_cons, show val ρ sb (1, jlor z8 w8) = .long (Int64.ofInt z8 ||| Int64.ofInt w8) from (congrArg Value.long (of_toInt64 _))] at K
      exact K
    · cases h
  case land =>
    simp only [okE, decide_eq_true_eq] at hok
    subst hok
    dsimp only [stpI] at h
    split at h
    · next w8 z8 r8 =>
      cases h
      refine lv_land hx hb hd ?_
      have K := k1 P
      rw [List.map_cons, show val ρ sb (1, jland z8 w8) = .long (Int64.ofInt z8 &&& Int64.ofInt w8) from (congrArg Value.long (of_toInt64 _))] at K
      exact K
    · cases h
  case lcmp =>
    simp only [okE, decide_eq_true_eq] at hok
    subst hok
    dsimp only [stpI] at h
    split at h
    · next w8 z8 r8 =>
      cases h
      refine W.lcmp hx hb hd ?_
      rw [lcmp_of (al_h (al_t hs)) (al_h hs)]
      exact k1 P
    · cases h
  case ifCond cc o =>
    simp only [okE, decide_eq_true_eq] at hok
    obtain ⟨rfl, ht⟩ := hok
    dsimp only [stpI] at h
    split at h
    · next a8 r8 =>
      have ha := al_h hs
      cases cc
      · refine lv_if_eq (tgt := x) hx hb hd ht (fun q => ?_) (fun q => ?_)
        · rw [cmp, if_pos ((c_eq ha vok_0).mp q)] at h; cases h; exact k1 P
        · rw [cmp, if_neg (fun q2 => q ((c_eq ha vok_0).mpr q2))] at h; cases h; exact k1 P
      · refine lv_if_ne (tgt := x) hx hb hd ht (fun q => ?_) (fun q => ?_)
        · rw [cmp, if_neg (fun q2 => q ((c_eq ha vok_0).mpr q2))] at h; cases h; exact k1 P
        · rw [cmp, if_pos ((c_eq ha vok_0).mp q)] at h; cases h; exact k1 P
      · refine lv_if_lt (tgt := x) hx hb hd ht (fun q => ?_) (fun q => ?_)
        · rw [cmp, if_pos ((c_lt ha vok_0).mp q)] at h; cases h; exact k1 P
        · rw [cmp, if_neg (fun q2 => q ((c_lt ha vok_0).mpr q2))] at h; cases h; exact k1 P
      · refine lv_if_ge (tgt := x) hx hb hd ht (fun q => ?_) (fun q => ?_)
        · have := (c_le vok_0 ha).mp q
          rw [cmp, if_neg (by omega)] at h; cases h; exact k1 P
        · have : ¬ 0 ≤ a8 := fun q2 => q ((c_le vok_0 ha).mpr q2)
          rw [cmp, if_pos (by omega)] at h; cases h; exact k1 P
      · refine lv_if_gt (tgt := x) hx hb hd ht (fun q => ?_) (fun q => ?_)
        · rw [cmp, if_pos ((c_lt vok_0 ha).mp q)] at h; cases h; exact k1 P
        · rw [cmp, if_neg (fun q2 => q ((c_lt vok_0 ha).mpr q2))] at h; cases h; exact k1 P
      · refine lv_if_le (tgt := x) hx hb hd ht (fun q => ?_) (fun q => ?_)
        · have := (c_le ha vok_0).mp q
          rw [cmp, if_neg (by omega)] at h; cases h; exact k1 P
        · have : ¬ a8 ≤ 0 := fun q2 => q ((c_le ha vok_0).mpr q2)
          rw [cmp, if_pos (by omega)] at h; cases h; exact k1 P
    · cases h
  case if_icmp cc o =>
    simp only [okE, decide_eq_true_eq] at hok
    obtain ⟨rfl, ht⟩ := hok
    dsimp only [stpI] at h
    split at h
    · next b8 a8 r8 =>
      have hb8 := al_h hs
      have ha := al_h (al_t hs)
      cases cc
      · refine lv_icmp_eq (tgt := x) hx hb hd ht (fun q => ?_) (fun q => ?_)
        · rw [cmp, if_pos ((c_eq ha hb8).mp q)] at h; cases h; exact k1 P
        · rw [cmp, if_neg (fun q2 => q ((c_eq ha hb8).mpr q2))] at h; cases h; exact k1 P
      · refine lv_icmp_ne (tgt := x) hx hb hd ht (fun q => ?_) (fun q => ?_)
        · rw [cmp, if_neg (fun q2 => q ((c_eq ha hb8).mpr q2))] at h; cases h; exact k1 P
        · rw [cmp, if_pos ((c_eq ha hb8).mp q)] at h; cases h; exact k1 P
      · refine lv_icmp_lt (tgt := x) hx hb hd ht (fun q => ?_) (fun q => ?_)
        · rw [cmp, if_pos ((c_lt ha hb8).mp q)] at h; cases h; exact k1 P
        · rw [cmp, if_neg (fun q2 => q ((c_lt ha hb8).mpr q2))] at h; cases h; exact k1 P
      · refine lv_icmp_ge (tgt := x) hx hb hd ht (fun q => ?_) (fun q => ?_)
        · have := (c_le hb8 ha).mp q
          rw [cmp, if_neg (by omega)] at h; cases h; exact k1 P
        · have : ¬ b8 ≤ a8 := fun q2 => q ((c_le hb8 ha).mpr q2)
          rw [cmp, if_pos (by omega)] at h; cases h; exact k1 P
      · refine lv_icmp_gt (tgt := x) hx hb hd ht (fun q => ?_) (fun q => ?_)
        · rw [cmp, if_pos ((c_lt hb8 ha).mp q)] at h; cases h; exact k1 P
        · rw [cmp, if_neg (fun q2 => q ((c_lt hb8 ha).mpr q2))] at h; cases h; exact k1 P
      · refine lv_icmp_le (tgt := x) hx hb hd ht (fun q => ?_) (fun q => ?_)
        · have := (c_le ha hb8).mp q
          rw [cmp, if_neg (by omega)] at h; cases h; exact k1 P
        · have : ¬ a8 ≤ b8 := fun q2 => q ((c_le ha hb8).mpr q2)
          rw [cmp, if_pos (by omega)] at h; cases h; exact k1 P
    · cases h
  case goto o =>
    simp only [okE, decide_eq_true_eq] at hok
    obtain ⟨rfl, ht⟩ := hok
    cases h
    exact lv_goto (tgt := pc') hx hb hd ht (k1 P)
  case ifnull o =>
    simp only [okE, decide_eq_true_eq] at hok
    obtain ⟨rfl, ht⟩ := hok
    dsimp only [stpI] at h
    split at h
    · next a8 r8 =>
      cases a8 with
      | ofNat n8 =>
        rw [if_neg (show ¬ Int.ofNat n8 < 0 from Int.not_lt.mpr (Int.natCast_nonneg n8))] at h
        cases h
        exact lv_ifnull hx hb hd (k1 P)
      | negSucc n8 =>
        rw [if_pos (Int.negSucc_lt_zero n8)] at h
        cases h
        exact lv_ifnullN (tgt := pc') hx hb hd ht (k1 P)
    · cases h
  case ifnonnull o =>
    simp only [okE, decide_eq_true_eq] at hok
    obtain ⟨rfl, ht⟩ := hok
    dsimp only [stpI] at h
    split at h
    · next a8 r8 =>
      cases a8 with
      | ofNat n8 =>
        rw [if_neg (show ¬ Int.ofNat n8 < 0 from Int.not_lt.mpr (Int.natCast_nonneg n8))] at h
        cases h
        exact lv_ifnonnull (tgt := pc') hx hb hd ht (k1 P)
      | negSucc n8 =>
        rw [if_pos (Int.negSucc_lt_zero n8)] at h
        cases h
        exact lv_ifnonnullN hx hb hd (k1 P)
    · cases h
  case tableswitch d lo hi offs =>
    dsimp only [stpI] at h
    split at h
    · next v8 r8 =>
      have hv := (al_h hs).1 rfl
      have e1 : (Int32.ofInt v8).toInt = v8 := j_toInt hv.1 hv.2
      split at h
      · next hq =>
        split at h
        · next h0 =>
          cases h
          exact lv_tableOut (tgt := ((pc : Int) + d).toNat) hx hb hd (by rw [e1]; exact hq) (by omega) (k1 P)
        · cases h
      · next hq =>
        split at h
        · next off hoff =>
          split at h
          · next h0 =>
            cases h
            exact lv_tableIn (tgt := ((pc : Int) + off).toNat) hx hb hd (by rw [e1]; omega) (by rw [e1]; omega) (by rw [e1]; exact hoff) (by omega) (k1 P)
          · cases h
        · cases h
    · cases h
  case lookupswitch d ps =>
    simp only [okE] at hok
    dsimp only [stpI] at h
    split at h
    · next v8 r8 =>
      have hv := (al_h hs).1 rfl
      have e1 : (Int32.ofInt v8).toInt = v8 := j_toInt hv.1 hv.2
      split at h
      · next h0 =>
        cases h
        exact lv_lookup (tgt := ((pc : Int) + Op.lookupswitch.offset ps.toList d v8).toNat) hx hb hd hok (by rw [e1]) (by omega) (k1 P)
      · cases h
    · cases h
  case getfield idx => exact st_get F P hm hd hok hn h k1
  case putfield idx => exact st_put F P hm hd hok hn h k3
  case iaload =>
    simp only [okE, decide_eq_true_eq] at hok
    dsimp only [stpI] at h
    split at h
    · next j8 a8 r8 =>
      subst hok
      split at h
      · next hq =>
        cases h
        obtain ⟨L, xs, hX, hbl, hbA, hL, hl3, hx3⟩ := S hq.1
        obtain ⟨hM, h0, h1⟩ := hq
        rw [hl3] at h1
        obtain ⟨g1, g2⟩ := c_in (n := L) h0 h1 (by omega)
        refine va_sld hx hb hX hbl hbA P.2.2.2.2.1 g1 hd ?_
        have K := k1 P
        rw [List.map_cons, show val ρ sb (0, m (-2) j8) = .int (xs (Int32.ofInt j8).toNatClampNeg) from ?_] at K
        · exact K
        · show Value.int (Int32.ofInt (m (-2) j8)) = _
          have e3 := hx3 j8.toNat (by omega)
          rw [show ((j8.toNat : Nat) : Int) = j8 by omega] at e3
          rw [e3, of_toInt, g2]
      · cases h
    · exact st_iald F P hm hd hok h k1
  case baload =>
    simp only [okE, decide_eq_true_eq] at hok
    exact st_bald F P hm hd hok h k1
  case laload =>
    simp only [okE, decide_eq_true_eq] at hok
    exact st_lald F P hm hd hok h k1
  case aaload =>
    simp only [okE, decide_eq_true_eq] at hok
    exact st_aald F P hm hd hok h k1
  case iastore =>
    simp only [okE, decide_eq_true_eq] at hok
    exact st_iast F P hm hd hok h k3
  case bastore =>
    simp only [okE, decide_eq_true_eq] at hok
    exact st_bast F P hm hd hok h k3
  case lastore =>
    simp only [okE, decide_eq_true_eq] at hok
    exact st_last F P hm hd hok h k3
  case aastore =>
    simp only [okE, decide_eq_true_eq] at hok
    exact st_aast F P hm hd hok h k3
  case arraylength =>
    simp only [okE, decide_eq_true_eq] at hok
    dsimp only [stpI] at h
    split at h
    · next a8 r8 =>
      subst hok
      split at h
      · next hq =>
        cases h
        obtain ⟨L, xs, hX, hbl, hbA, hL, hl3, hx3⟩ := S hq
        refine va_slen hx hb hX hbl hbA P.2.2.2.2.1 hd ?_
        have K := k1 P
        rw [List.map_cons, hl3, show val ρ sb (0, (L : Int)) = .int (Int32.ofNat L) from congrArg Value.int (of_nat L)] at K
        exact K
      · cases h
    · next a8 r8 =>
      split at h
      · next hq =>
        cases h
        obtain ⟨n8, d8, rfl, hd8, e1, e2, -⟩ := dk_get (ds := ds) (a := a8) rfl (by omega)
        rw [← e1] at hq
        have K := k1 P
        rw [List.map_cons, e2] at K
        exact st_alen F P hd hok hd8 hq.1 hq.2 K
      · cases h
    · cases h
  case newarray t =>
    dsimp only [stpI] at h
    split at h
    · next n8 r8 =>
      split at h
      · next hq =>
        cases h
        exact st_newa F P hm hl (al_t hs) hd hok hq.1 hq.2 hR1 hR2 (fun ρ' H locs cells slots hr P' => kk ρ' H locs cells slots lsv hr P')
      · cases h
    · cases h
  case anewarray t =>
    dsimp only [stpI] at h
    split at h
    · next n8 r8 =>
      split at h
      · next hq =>
        cases h
        exact st_newq F P hm hl (al_t hs) hd hok hq.1 hq.2 hR1 hR2 (fun ρ' H locs cells slots hr P' => kk ρ' H locs cells slots lsv hr P')
      · cases h
    · cases h
  case new t =>
    cases h
    exact st_new F P hm hl hs hd hok hn hR1 hR2 (fun ρ' H locs cells slots hr P' => kk ρ' H locs cells slots lsv hr P')
  case invokestatic idx =>
    dsimp only [stpI] at h
    split at h
    · next hx1 =>
      subst hx1
      split at h
      · next n8 dp8 b8 sp8 a8 r8 =>
        split at h
        · next hq =>
          cases h
          obtain ⟨n1, d1, rfl, hd1, e1, e2, -⟩ := dk_get hq.1 (by omega)
          obtain ⟨n2, d2, rfl, hd2, f1, f2, -⟩ := dk_get hq.2.1 (by omega)
          rw [e2, f2] at hq
          exact st_copy F P hm hd hok hd1 hd2 e1 f1 hq.2.2.1 hq.2.2.2.1 hq.2.2.2.2.1 hq.2.2.2.2.2.1 hq.2.2.2.2.2.2.1 hq.2.2.2.2.2.2.2 k3
        · cases h
      · cases h
    · unfold mjCall at h
      split at h
      · cases h
      · cases h
  case invokevirtual idx =>
    dsimp only [stpI] at h
    unfold mjCall at h
    split at h
    · cases h
    · cases h
  case invokespecial idx =>
    dsimp only [stpI] at h
    split at h
    · next hx1 =>
      subst hx1
      split at h
      · next a8 r8 =>
        split at h
        · next hq =>
          cases h
          simp only [okE, if_true, decide_eq_true_eq] at hok
          obtain ⟨rfl, hw, hf, hL⟩ := hok
          cases a8 with
          | negSucc n8 => exact absurd hq.1 (by have := Int.negSucc_lt_zero n8; omega)
          | ofNat n8 =>
            have hsum : ((st'.map (val ρ sb)).map fun v => v.category).sum ≤ 8 := by rw [cat_sum]; exact hq.2
            have hroom := lv_room (m := mi) (pc := pc) (ls := lsv) (rest := []) hsum
            refine W.objInit (g := F0 mi pc lsv (.ref (ρ n8) :: st'.map (val ρ sb))) hx hb F.1.2.2.2.1 (F.1.2.2.2.2 _ (oi_word hw)) (F.1.2.2.2.2 _ (in_G OBw.1 rfl)) (F.1.2.2.2.2 _ (in_G OBw.2 rfl)) rfl (by rw [F.1.2.2.1]; exact P.2.1.1) rfl hd (by have := F.2.2.2.2.1; omega) ?_ (k1 P)
            have h2 : 2 * (F0 mi pc lsv (.ref (ρ n8) :: st'.map (val ρ sb))).monitorRoom = 2 * (F0 mi pc lsv []).monitorRoom := rfl
            have h3 := F.2.2.2.2.2.1
            rw [h2]
            omega
        · cases h
      · cases h
    · unfold mjCall at h
      split at h
      · cases h
      · cases h
  case ireturn =>
    dsimp only [stpI, mjRet] at h
    split at h
    · split at h <;> cases h
    · cases h
  case lreturn =>
    dsimp only [stpI, mjRet] at h
    split at h
    · split at h <;> cases h
    · cases h
  case areturn =>
    dsimp only [stpI, mjRet] at h
    split at h
    · split at h <;> cases h
    · cases h
  case return_ =>
    dsimp only [stpI] at h
    split at h
    · split at h <;> cases h
    · cases h
  all_goals (dsimp only [stpI] at h; cases h)
end ST5
