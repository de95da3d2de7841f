/-! THE CONTRACT of any method, out of a run of the small machine -/
def mws (M : Nat) : List Jvm.Cond := .code (mjY M) (mjB M) (mjX M) (mjT M) :: tblG
def retv (ρ : Nat → Nat) (r : List MV) : Option Value := (r.map (val ρ 0)).head?
def PcB (D : va_G) (dA : Nat → ClassId) (ρ : Nat → Nat) (ds : Ds) (m : Mm) (sz : Nat) (U : State) : Prop := U.heap.size = sz ∧ va_P D vwCl (wld dA ρ ds m) U.heap ∧ Per D dA U ∧ va_D (fun _ => True) (wld dA ρ ds m)
def PcM (D : va_G) (dA : Nat → ClassId) (ρ : Nat → Nat) (as : List MV) (ds : Ds) (m : Mm) (sz : Nat) : Array Value → State → Prop := va_Pc (as.map (val ρ 0)) (PcB D dA ρ ds m sz)
def QcM (D : va_G) (dA : Nat → ClassId) (ρ : Nat → Nat) (ds ds' : Ds) (m' : Mm) (r : List MV) (A : Nat → Prop) : Array Value → State → Outcome → State → Prop := fun _ st oc t => (∃ ρ' : Nat → Nat, (∀ i, i < ds.length → ρ' i = ρ i) ∧ oc = .returned (retv ρ' r) ∧ va_P D vwCl (wld dA ρ' ds' m') t.heap ∧ va_D A (wld dA ρ' ds' m')) ∧ va_F A st t
def rmM (M : Nat) (ds ds' : Ds) : Room := { frames := mjF M, cells := ds'.length - ds.length, slots := sl ds' - sl ds, locals := mjL M }
def MetS (l : Launch) (n : Nat) : Prop := ∀ (M : Nat) (as : List MV) (ds : Ds) (m : Mm) (ds' : Ds) (m' : Mm) (r : List MV), mjRun n M 0 (mkL M as) [] ds m = some (ds', m', r) → M < mjLaw → mok ds m → ScrP m → (∀ v ∈ as, vok ds.length v) → (∀ v ∈ as, v.1 ≤ 2) → (as.map cat).sum ≤ mjX M →
  ∀ (D : va_G) (dA : Nat → ClassId) (ρ : Nat → Nat) (sz : Nat), Met l (mjY M) (mws M) (rmM M ds ds') (PcM D dA ρ as ds m sz) (QcM D dA ρ ds ds' m' r (va_A (wld dA ρ ds m) sz)) (ds'.length - ds.length) (sl ds' - sl ds) (va_A (wld dA ρ ds m) sz)
theorem Per.same {D : va_G} {dA : Nat → ClassId} {u U : State} (h : Per D dA u) (e : u.vm = U.vm) : Per D dA U := by
  have ha : u.vm.Alike U.vm := by rw [e]; exact Vm.Alike.refl _
  exact ⟨va_K.moved ha h.1, fun q hq hk => va_Nw.same rfl e (h.2.1 q hq hk), h.2.2.1.moved ha, h.2.2.2.moved ha⟩
theorem goodG {ws : List Jvm.Cond} (h : ∀ w ∈ ws, w ∈ tblG) : GoodIn tblG ws := fun w hw => ⟨h w hw, good_of_word (List.mem_filter.mp (h w hw)).2⟩
theorem code_word {c : Nat} (h : c < mjLaw) : Jvm.Cond.code (mjY c) (mjB c) (mjX c) (mjT c) ∈ tblG := by
  have h1 : c ∈ CWp.map (·.2) := by
    rw [show CWp.map (·.2) = List.range mjLaw by decide +kernel]
    exact List.mem_range.mpr h
  obtain ⟨q, hq, hx⟩ := List.mem_map.mp h1
  have := CWw q hq
  obtain ⟨pl, a⟩ := q
  cases hx
  exact in_G this rfl
theorem mws_in {c : Nat} (h : c < mjLaw) : ∀ w ∈ mws c, w ∈ tblG := by
  intro w hw
  rcases List.mem_cons.mp hw with rfl | hw
  · exact code_word h
  · exact hw
theorem ml_word {o idx c k : Nat} (h : (o, idx, c, k) ∈ mjML) (hk : k ≤ 2) : Jvm.Cond.methodLink (cN o) idx (mjY c) ∈ tblG := by
  obtain ⟨q, hq, hx⟩ := List.mem_map.mp h
  have := MLw q hq
  obtain ⟨pl, a, b, d, f⟩ := q
  cases hx
  rw [if_pos hk] at this
  exact in_G this rfl
theorem im_chk : ∀ q ∈ mjML, (q.2.2.2 = 0 ∨ q.2.2.2 = 2 ∨ q.2.2.2 = 5 → q.2.2.1 ∈ IMp.map (·.2)) ∧ (q.2.2.2 = 0 → q.2.2.1 ∈ SEp.map (·.2)) ∧ (q.2.2.2 = 1 ∨ q.2.2.2 = 4 → q.2.2.1 ∈ STp.map (·.2)) := by decide +kernel
theorem im_word {c : Nat} (h : c ∈ IMp.map (·.2)) : Jvm.Cond.instanceMethod (mjY c) ∈ tblG := by
  obtain ⟨q, hq, hx⟩ := List.mem_map.mp h
  have := IMw q hq
  obtain ⟨pl, a⟩ := q
  cases hx
  exact in_G this rfl
theorem se_word {c : Nat} (h : c ∈ SEp.map (·.2)) : Jvm.Cond.selects (cN (mjO c)) (mjY c) (mjY c) ∈ tblG := by
  obtain ⟨q, hq, hx⟩ := List.mem_map.mp h
  have := SEw q hq
  obtain ⟨pl, a⟩ := q
  cases hx
  exact in_G this rfl
theorem st_word {c : Nat} (h : c ∈ STp.map (·.2)) : Jvm.Cond.static (mjY c) ∈ tblG := by
  obtain ⟨q, hq, hx⟩ := List.mem_map.mp h
  have := STw q hq
  obtain ⟨pl, a⟩ := q
  cases hx
  exact in_G this rfl
theorem np {c : Nat} (h : c < NM) : (parseMethodDescriptor (mjY c).desc).map (fun d => d.parameters.length) = some (mjN c) ∧ (mjY c).cls = cN (mjO c) ∧ mjO c ≤ 9 ∧ ((mjY c).cls ≠ "java/lang/invoke/MethodHandle" ∧ (mjY c).cls ≠ "java/lang/invoke/VarHandle") ∧ plainName (mjY c).cls = true := npAll c (List.mem_range.mpr h)
section CW
variable {p : Program} {l : Launch} {e : Env} {R : Room} {s : State} {mi : MethodId} {args : Array Value} {below : List Frame} {meth : Method} {c : Code}
variable {Q : State → Prop} {D : va_G} {dA : Nat → ClassId} {A A1 : Nat → Prop} {H0 H : Heap} {locs : List Loc} {sb base sbase M cells slots mc ms : Nat} {lsv : Array Slot} {ρ : Nat → Nat} {free : Addr → Prop}
variable {pc pc' x y : Nat} {z ls ls' st st' as r : List MV} {ds ds' : Ds} {m m' : Mm}
theorem run_use {rest st0 : List Value} {a : Array Value} (hr : va_Run p l e R s mi args below meth c H locs cells slots mc ms (F0 mi pc lsv st0) rest (QcM D dA ρ ds ds' m' r A1 a) free) (hS : va_S A H0 H locs) (hA1 : ∀ q, q < H.size → A1 q → A q) (hf : ∀ q, free q → A q)
    (kk : ∀ (ρ' : Nat → Nat) (H1 : Heap) (locs1 : List Loc), (∀ i, i < ds.length → ρ' i = ρ i) → va_P D vwCl (wld dA ρ' ds' m') H1 → va_D A1 (wld dA ρ' ds' m') → va_S A H0 H1 locs1 → W p l e R s mi args below meth c H1 locs1 (cells + mc) (slots + ms) Q (F0 mi (pc + 3) lsv ((retv ρ' r).toList ++ rest))) : W p l e R s mi args below meth c H locs cells slots Q (F0 mi pc lsv st0) := by
  intro T hT X
  obtain ⟨v, st₀, t, T', L, h0, X', hL, e1, e2, ⟨⟨ρ', hρ, hv, hP, hD⟩, hz, hk⟩, st⟩ := hr T hT X
  cases hv
  rw [h0] at hz hk
  obtain ⟨t2, a1, b1⟩ := kk ρ' T'.heap (locs ++ L) hρ (by rw [e1]; exact hP) hD
    ⟨Nat.le_trans hS.1 (by rw [e1]; exact hz), fun q h1 h2 => by rw [e1, hk q (Nat.lt_of_lt_of_le h1 hS.1) (fun z => h2 (hA1 q (Nat.lt_of_lt_of_le h1 hS.1) z))]; exact hS.2.1 q h1 h2, fun q hq => by
      rcases List.mem_append.mp hq with h | h
      · exact hS.2.2 q h
      · exact hf _ (hL q h)⟩ T' rfl X'
  exact ⟨t2, st t2 a1, b1⟩
theorem pcm_pre (F : Fx p R s mi args meth c D dA A H0 M) (P : Hp D dA A H0 sb base sbase M ls ds m ρ H locs cells slots lsv) : PreS s H (PcM D dA ρ as ds m H.size) (as.map (val ρ 0)) := by
  refine ⟨fun a U g mk h => ?_, fun U hU hW => ?_⟩
  · obtain ⟨h1, h2, h3, h4, h5⟩ := h
    exact ⟨h1, h2, h3, h4.same rfl, h5⟩
  · refine ⟨rfl, by rw [hU], by rw [hU]; exact P.2.2.1, F.2.1.moved hW, P.2.2.2.1.weaken (fun _ _ _ _ => trivial)⟩
theorem va_A_free (F : Fx p R s mi args meth c D dA A H0 M) (P : Hp D dA A H0 sb base sbase M ls ds m ρ H locs cells slots lsv) : ∀ q, va_A (wld dA ρ ds m) H.size q → A q := by
  intro q hq
  rcases hq with ⟨k, e1, hk⟩ | hq
  · exact P.2.2.2.1.2 k (q, e1) hk
  · exact F.2.2.2.1 q (Nat.le_trans P.2.2.2.2.1.1 hq)
theorem tag_val {v : MV} (h : v.1 ≤ 2) : val ρ sb v = val ρ 0 v := by
  unfold val
  rw [if_neg (by omega), if_neg (by omega)]
theorem callW {n cc : Nat} (hMS : MetS l n) (F : Fx p R s mi args meth c D dA A H0 M) (P : Hp D dA A H0 sb base sbase M ls ds m ρ H locs cells slots lsv) (hm : mok ds m) (hsc : ScrP m) (hl : ∀ v ∈ ls, vok ds.length v) (hs : ∀ v ∈ st, vok ds.length v) (hC : CallS M pc cc as st' st ds) (hrun : mjRun n cc 0 (mkL cc as) [] ds m = some (ds', m', r)) (hR1 : ds'.length ≤ base + R.cells) (hR2 : sl ds' ≤ sbase + R.slots)
    (kk : ∀ ρ' H locs cells slots lsv, (∀ i, i < ds.length → ρ' i = ρ i) → Hp D dA A H0 sb base sbase M ls ds' m' ρ' H locs cells slots lsv → W p l e R s mi args below meth c H locs cells slots Q (F0 mi (pc + 3) lsv ((r ++ st').map (val ρ' sb)))) : W p l e R s mi args below meth c H locs cells slots Q (F0 mi pc lsv (st.map (val ρ sb))) := by
  have hlt := hC.lt
  obtain ⟨rfl, htag, hsum, hcat, hfr, hlo, hC⟩ := hC
  have hasok : ∀ v ∈ as, vok ds.length v := fun v hv => hs v (List.mem_append_left _ (List.mem_reverse.mpr hv))
  have hstok : ∀ v ∈ st', vok ds.length v := fun v hv => hs v (List.mem_append_right _ hv)
  have hNM : cc < NM := Nat.lt_trans hlt.1 (by decide +kernel)
  obtain ⟨q1, q2, q3, q4, q5⟩ := run_ok n cc 0 (mkL cc as) [] ds m ds' m' r hrun hNM hm hsc (mkL_ok hasok) (fun v hv => by cases hv)
  have hM := hMS cc as ds m ds' m' r hrun hlt.1 hm hsc hasok htag hcat D dA ρ H.size
  obtain ⟨n1, n2, n3, n4, n5⟩ := np hNM
  have hc1 := P.2.2.2.2.2.1
  have hc2 := P.2.2.2.2.2.2
  have hlen := q3.len
  have hsl := q3.sl
  have hroom : rmM cc ds ds' = rmM cc ds ds' := rfl
  have hF : (rmM cc ds ds').frames + 1 ≤ R.frames := Nat.le_trans hfr F.2.2.2.2.1
  have hL : 8 + (mjX cc + 11) + (rmM cc ds ds').locals ≤ R.locals := Nat.le_trans hlo F.2.2.2.2.2.1
  have hf : cells + (ds'.length - ds.length) ≤ R.cells ∧ slots + (sl ds' - sl ds) ≤ R.slots := by omega
  have hA1 := va_A_free F P
  have hmapA : as.map (val ρ sb) = as.map (val ρ 0) := List.map_congr_left (fun v hv => tag_val (htag v hv))
  have hsum2 : ((st'.map (val ρ sb)).map fun v => v.category).sum ≤ 8 := by rw [cat_sum]; exact hsum
  have hroom2 := lv_room (m := mi) (pc := pc) (ls := lsv) (rest := []) hsum2
  have hG := goodG (mws_in hlt.1)
  have hini : (Jvm.Cond.initialized (mjY cc).cls).before args s = true := by rw [n2]; exact F.1.2.2.2.2 _ (ini_word hlt.2)
  have fin : ∀ {st0 : List Value} {a : Array Value}, va_Run p l e R s mi args below meth c H locs cells slots (ds'.length - ds.length) (sl ds' - sl ds) (F0 mi pc lsv st0) (st'.map (val ρ sb)) (QcM D dA ρ ds ds' m' r (va_A (wld dA ρ ds m) H.size) a) (va_A (wld dA ρ ds m) H.size) → W p l e R s mi args below meth c H locs cells slots Q (F0 mi pc lsv st0) := by
    intro st0 a hr
    refine run_use hr P.2.2.2.2.1 (fun q _ h => hA1 q h) hA1 (fun ρ' H1 locs1 hρ hP hD hS => ?_)
    have K := kk ρ' H1 locs1 (cells + (ds'.length - ds.length)) (slots + (sl ds' - sl ds)) lsv hρ ⟨P.1, lh_ext P.2.1 hl hρ, hP, hD.weaken (fun k q _ h => hA1 q.1 h), hS, by omega, by omega⟩
    rw [List.map_append, vals_ext hstok hρ] at K
    have e9 : (retv ρ' r).toList = r.map (val ρ' sb) := by
      rcases q5 with rfl | ⟨v, rfl, hv⟩
      · rfl
      · rw [List.map_singleton, tag_val hv]
        rfl
    rw [e9]
    exact K
  rcases hC with ⟨idx, hd, hmem, hlen1, hrcv⟩ | ⟨idx, hd, hmem, hlen1⟩ | ⟨idx, hd, hmem, hname, hlen1, hrcv⟩
  · have ho : mjO cc < 8 := (mlAll _ hmem).2.1 (Or.inl rfl)
    have hk1 := (im_chk _ hmem).1 (Or.inl rfl)
    have hk2 := (im_chk _ hmem).2.1 rfl
    match as, hrcv, hlen1 with
    | (2, a) :: as1, hrcv, hlen1 =>
      simp only [rcv, decide_eq_true_eq] at hrcv
      obtain ⟨n8, d8, rfl, hd8, e1, e2, -⟩ := dk_get hrcv (by omega)
      have he := wld_get (dA := dA) (ρ := ρ) (m := m) hd8
      rw [cel_o (by omega), e1] at he
      rw [List.map_cons] at hmapA
      have hst : ((((2, (n8 : Int)) :: as1).reverse ++ st').map (val ρ sb)) = (as1.map (val ρ 0)).reverse ++ .ref (ρ n8) :: st'.map (val ρ sb) := by
        rw [List.map_append, List.map_reverse, List.map_cons, hmapA, List.map_cons, List.reverse_cons, List.append_assoc]
        rfl
      rw [hst]
      refine fin (va_runV (C := cN (mjO cc)) (b := ρ n8) (As := as1.map (val ρ 0)) (n := mjN cc) F.1 hM (cwV (ws' := tblG) (mjN cc) F.1.2.2.2.2 (goodG (fun w hw => ?_)) rfl rfl rfl ⟨n2, n4.1, n4.2, n1⟩ ⟨hF, hL⟩) ⟨(pcm_pre F P).1, va_recv F.2.1.1 P.2.2.1 (cls_ok _ ho).2.2 he, (pcm_pre (as := (2, (n8 : Int)) :: as1) F P).2⟩ rfl (by rw [List.length_map]; simp at hlen1; omega) P.2.1.1 rfl hroom2 hd hf)
      simp only [wsV, List.cons_append, List.nil_append, List.mem_cons] at hw
      rcases hw with rfl | rfl | rfl | rfl | hw
      · exact ml_word hmem (by omega)
      · exact im_word hk1
      · exact se_word hk2
      · exact ini_word hlt.2
      · exact mws_in hlt.1 w hw
  · have hk1 : cc ∈ STp.map (·.2) := by
      rcases hmem with hmem | hmem
      · exact (im_chk _ hmem).2.2 (Or.inl rfl)
      · exact (im_chk _ hmem).2.2 (Or.inr rfl)
    have hstat := F.1.2.2.2.2 _ (st_word hk1)
    have hst : ((as.reverse ++ st').map (val ρ sb)) = (as.map (val ρ 0)).reverse ++ st'.map (val ρ sb) := by
      rw [List.map_append, List.map_reverse, hmapA]
    rw [hst]
    rcases hmem with hmem | hmem
    · refine fin (va_runS (As := as.map (val ρ 0)) (n := mjN cc) F.1 hM ⟨callB_of (ws' := tblG) (mjN cc) F.1.2.2.2.2 hG rfl rfl rfl hini (F.1.2.2.2.2 _ (ml_word hmem (by omega))) ⟨n4.1, n4.2, n1⟩ ⟨hF, hL⟩, hstat⟩ (pcm_pre F P) rfl (by rw [List.length_map]; exact hlen1) P.2.1.1 rfl hroom2 hd hf)
    · obtain ⟨q, hq, hx⟩ := List.mem_map.mp hmem
      have hw := F.2.1.2.1 q hq
      obtain ⟨pl, a1, a2, a3, a4⟩ := q
      cases hx
      refine fin (va_runSN (host := RX6) (As := as.map (val ρ 0)) (n := mjN cc) F.1 hM ⟨va_cnB (ws' := tblG) (mjN cc) F.1.2.2.2.2 hG rfl rfl rfl (hw (Nat.le_of_ble_eq_true rfl)) hini ⟨n4.1, n4.2, n1⟩ ⟨hF, hL⟩, hstat, trivial⟩ (pcm_pre F P) rfl (by rw [List.length_map]; exact hlen1) P.2.1.1 rfl hroom2 hd hf)
  · have hk1 : cc ∈ IMp.map (·.2) ∧ mjK cc = 0 := by
      rcases hmem with hmem | hmem
      · exact ⟨(im_chk _ hmem).1 (Or.inr (Or.inl rfl)), (mlAll _ hmem).2.2.1 (Or.inl rfl)⟩
      · exact ⟨(im_chk _ hmem).1 (Or.inr (Or.inr rfl)), (mlAll _ hmem).2.2.1 (Or.inr rfl)⟩
    have hinst := F.1.2.2.2.2 _ (im_word hk1.1)
    have hT : mjT cc = none := (rkAll cc (List.mem_range.mpr hNM)).1 hk1.2
    have hwsT : mws cc = .code (mjY cc) (mjB cc) (mjX cc) none :: tblG := by rw [mws, hT]
    match as, hrcv, hlen1 with
    | (2, a) :: as1, hrcv, hlen1 =>
      simp only [rcv, decide_eq_true_eq] at hrcv
      obtain ⟨n8, d8, rfl, hd8, e1, e2, -⟩ := dk_get hrcv (by omega)
      rw [List.map_cons] at hmapA
      have hst : ((((2, (n8 : Int)) :: as1).reverse ++ st').map (val ρ sb)) = (as1.map (val ρ 0)).reverse ++ .ref (ρ n8) :: st'.map (val ρ sb) := by
        rw [List.map_append, List.map_reverse, List.map_cons, hmapA, List.map_cons, List.reverse_cons, List.append_assoc]
        rfl
      rw [hst]
      rcases hmem with hmem | hmem
      · refine fin (va_runI (b := ρ n8) (As := as1.map (val ρ 0)) (n := mjN cc) F.1 hM (cwI (ws' := tblG) (mjN cc) F.1.2.2.2.2 hG hwsT rfl rfl hini (F.1.2.2.2.2 _ (ml_word hmem (by omega))) hinst hname ⟨n4.1, n4.2, n1⟩ ⟨hF, hL⟩) (pcm_pre (as := (2, (n8 : Int)) :: as1) F P) rfl (by rw [List.length_map]; simp at hlen1; omega) P.2.1.1 rfl hroom2 hd hf)
      · obtain ⟨q, hq, hx⟩ := List.mem_map.mp hmem
        have hw := F.2.1.2.1 q hq
        obtain ⟨pl, a1, a2, a3, a4⟩ := q
        cases hx
        refine fin (va_runIN (host := RX6) (b := ρ n8) (As := as1.map (val ρ 0)) (n := mjN cc) F.1 hM ⟨va_cnB (ws' := tblG) (mjN cc) F.1.2.2.2.2 hG hwsT rfl rfl (hw (Nat.le_of_ble_eq_true rfl)) hini ⟨n4.1, n4.2, n1⟩ ⟨hF, hL⟩, hname, hinst⟩ (pcm_pre (as := (2, (n8 : Int)) :: as1) F P) rfl (by rw [List.length_map]; simp at hlen1; omega) P.2.1.1 rfl hroom2 hd hf)
end CW
section SND
variable {l : Launch}
/-- from any point of a method, over the machine -/
def Snd (l : Launch) (n : Nat) : Prop := ∀ (M pc : Nat) (ls st : List MV) (ds : Ds) (m : Mm) (ds' : Ds) (m' : Mm) (r : List MV), mjRun n M pc ls st ds m = some (ds', m', r) → mok ds m → ScrP m → (∀ v ∈ ls, vok ds.length v) → (∀ v ∈ st, vok ds.length v) →
  ∀ (p : Program) (e : Env) (R : Room) (s : State) (mi : MethodId) (args : Array Value) (below : List Frame) (meth : Method) (c : Code) (Q : State → Prop) (D : va_G) (dA : Nat → ClassId) (A : Nat → Prop) (H0 H : Heap) (locs : List Loc) (sb base sbase cells slots : Nat) (lsv : Array Slot) (ρ : Nat → Nat),
  Fx p R s mi args meth c D dA A H0 M → Hp D dA A H0 sb base sbase M ls ds m ρ H locs cells slots lsv → Scr M sb m s H0 A → ds'.length ≤ base + R.cells → sl ds' ≤ sbase + R.slots →
  (∀ (pc' : Nat) (lsv' : Array Slot) (ρ' : Nat → Nat) (H' : Heap) (locs' : List Loc) (cells' slots' : Nat), (∀ i, i < ds.length → ρ' i = ρ i) → va_P D vwCl (wld dA ρ' ds' m') H' → va_D A (wld dA ρ' ds' m') → va_S A H0 H' locs' → base + cells' = ds'.length → sbase + slots' = sl ds' → RetI M pc' r → W p l e R s mi args below meth c H' locs' cells' slots' Q (F0 mi pc' lsv' (r.map (val ρ' sb)))) →
  W p l e R s mi args below meth c H locs cells slots Q (F0 mi pc lsv (st.map (val ρ sb)))
theorem Scr.kept {M sb : Nat} {m m' : Mm} {s : State} {H0 : Heap} {A : Nat → Prop} (h : Scr M sb m s H0 A) (hn : nonneg m m') : Scr M sb m' s H0 A := by
  intro hM
  rw [hn (-3) (by omega), hn (-2) (by omega)]
  exact h hM
theorem args_has {ρ : Nat → Nat} {sb : Nat} : ∀ (as : List MV) (k i : Nat) (v : MV), (∀ w ∈ as, w.1 ≤ 2) → (as.flatMap sl1)[i]? = some v → v.1 ≠ 3 → (k + i, val ρ sb v) ∈ lv_args k (as.map (val ρ sb))
  | [], k, i, v, _, h, _ => by simp at h
  | a :: t, k, i, v, ht, h, h3 => by
    rw [List.flatMap_cons] at h
    rw [List.map_cons, lv_args, val_cat2]
    have hrec := fun k' i' (h' : (t.flatMap sl1)[i']? = some v) => args_has (ρ := ρ) (sb := sb) t k' i' v (fun w hw => ht w (List.mem_cons_of_mem _ hw)) h' h3
    by_cases ha : a.1 = 1
    · have e1 : sl1 a = [a, (3, 0)] := by unfold sl1; rw [if_pos ha]
      have e2 : cat a = 2 := by unfold cat; rw [if_pos ha]
      rw [e1] at h
      rw [e2, if_pos rfl]
      match i, h with
      | 0, h =>
        cases h
        exact List.mem_cons_self
      | 1, h =>
        cases h
        exact absurd rfl h3
      | i + 2, h =>
        have h' : (t.flatMap sl1)[i]? = some v := h
        refine List.mem_cons_of_mem _ ?_
        rw [show k + (i + 2) = k + 2 + i by omega]
        exact hrec (k + 2) i h'
    · have e1 : sl1 a = [a] := by unfold sl1; rw [if_neg ha]
      have e2 : cat a = 1 := by unfold cat; rw [if_neg ha]
      rw [e1] at h
      rw [e2, if_neg (by decide)]
      match i, h with
      | 0, h =>
        cases h
        exact List.mem_cons_self
      | i + 1, h =>
        have h' : (t.flatMap sl1)[i]? = some v := h
        refine List.mem_cons_of_mem _ ?_
        rw [show k + (i + 1) = k + 1 + i by omega]
        exact hrec (k + 1) i h'
theorem lg_len {ρ : Nat → Nat} {sb : Nat} {as : List MV} : (lg_sl (as.map (val ρ sb))).length = (as.map cat).sum := by
  induction as with
  | nil => rfl
  | cons v t ih =>
    rw [List.map_cons, lg_sl, List.flatMap_cons, List.length_append, List.map_cons, List.sum_cons, ← ih, val_cat2]
    congr 1
    unfold cat
    split <;> rfl
theorem entry_has {ρ : Nat → Nat} {M : Nat} {as : List MV} (htag : ∀ v ∈ as, v.1 ≤ 2) (h : (as.map cat).sum ≤ mjX M) : lv_has ((lg_sl (as.map (val ρ 0)) ++ List.replicate (mjX M - (lg_sl (as.map (val ρ 0))).length) Slot.unset).toArray) (mjX M) (lst ρ 0 (mkL M as)) := by
  refine lh_mono (lv_entry (as.map (val ρ 0)) (by rw [lg_len]; exact h)) (fun q hq => ?_)
  obtain ⟨v, h1, h2, h3⟩ := lst_mem.mp hq
  unfold mkL at h1
  by_cases hi : q.1 < (as.flatMap sl1).length
  · rw [List.getElem?_append_left hi] at h1
    have := args_has (ρ := ρ) (sb := 0) as 0 q.1 v htag h1 h2
    rw [Nat.zero_add, ← h3] at this
    exact this
  · rw [List.getElem?_append_right (by omega)] at h1
    have := List.mem_of_getElem? h1
    exact absurd (by rw [(List.mem_replicate.mp this).2]) h2
theorem metOf {n : Nat} (hS : Snd l n) : MetS l n := by
  intro M as ds m ds' m' r hrun hlt hm hsc hasok htag hcat D dA ρ sz
  have hNM : M < NM := Nat.lt_trans hlt (by decide +kernel)
  obtain ⟨n1, n2, n3, n4, n5⟩ := np hNM
  obtain ⟨q1, q2, q3, q4, q5⟩ := run_ok n M 0 (mkL M as) [] ds m ds' m' r hrun hNM hm hsc (mkL_ok hasok) (fun v hv => by cases hv)
  have hlen := q3.len
  have hsl := q3.sl
  refine Met.ofW (cc := mjB M) (maxL := mjX M) (ret := mjT M) n5 rfl ?_
  intro p e s mi args below meth c s₁ B hml hv
  obtain ⟨rfl, hsz, hP, hPer, hD0⟩ := hv
  have hts := atoms_spec (ws := mws M) B.pre
  have hown : s.vm.findClass (cN (mjO M)) = some mi.cls := by rw [← n2]; exact findClass_of_methodNamed B.named
  have hlocks := B.notSynchronized
  have hin := (name_of_methodNamed B.named B.method).1
  have hr := B.returns
  subst hsz
  have hD := hD0.self (sz := s.heap.size)
  rw [lg_entry_eq]
  have hF : Fx p (rmM M ds ds') s mi (as.map (val ρ 0)).toArray meth c D dA (va_A (wld dA ρ ds m) s.heap.size) s.heap M := ⟨⟨B.exec, B.bytes, hml, hown, fun w hw => hts w (List.mem_cons_of_mem _ hw)⟩, hPer, fun h => hin.trans h, fun q h => Or.inr h, Nat.le_refl _, Nat.le_refl _, hNM⟩
  refine hS M 0 (mkL M as) [] ds m ds' m' r hrun hm hsc (mkL_ok hasok) (fun v hv => by cases hv) p e (rmM M ds ds') s mi (as.map (val ρ 0)).toArray below meth c _ D dA (va_A (wld dA ρ ds m) s.heap.size) s.heap s.heap [] 0 ds.length (sl ds) 0 0 _ ρ hF ⟨mkL_len hcat, entry_has htag hcat, hP, hD, va_S.rf, rfl, rfl⟩ (fun h => absurd h (by omega)) (by show ds'.length ≤ ds.length + (ds'.length - ds.length); omega) (by show sl ds' ≤ sl ds + (sl ds' - sl ds); omega) ?_
  intro pc' lsv' ρ' H' locs' cells' slots' hρ hP' hD' hS' hc hs2 hret
  have ec : cells' = ds'.length - ds.length := by omega
  have es : slots' = sl ds' - sl ds := by omega
  subst ec
  subst es
  have hrk := rkAll M (List.mem_range.mpr hNM)
  have hq : ∀ (o : Option Value), o = retv ρ' r → ∀ t : State, t.heap = H' → s.WarmedH t.vm → QcM D dA ρ ds ds' m' r (va_A (wld dA ρ ds m) s.heap.size) (as.map (val ρ 0)).toArray s (.returned o) t := by
    intro o ho t ht hW
    exact ⟨⟨ρ', hρ, by rw [ho], by rw [ht]; exact hP', hD'⟩, hS'.F ht⟩
  rcases hret with ⟨hd, v, rfl, hk | ⟨hk, hv⟩⟩ | ⟨hd, v, rfl, hk⟩ | ⟨hd, v, rfl, hk⟩ | ⟨hd, rfl, hk⟩
  · exact W.iret B.exec B.bytes (by rw [hr, hrk.2.1 hk]) (hq _ rfl) hS'.2.2 hd hlocks
  · refine W.zret B.exec B.bytes (by rw [hr, hrk.2.2.1 hk]) ?_ (hq _ rfl) hS'.2.2 hd hlocks
    rcases hv with rfl | rfl <;> rfl
  · exact W.lret B.exec B.bytes (by rw [hr, hrk.2.2.2.1 hk]) (hq _ rfl) hS'.2.2 hd hlocks
  · refine W.aret B.exec B.bytes (by rw [hr, hrk.2.2.2.2 hk]) (Or.inl ⟨_, rfl⟩) ?_ (hq _ rfl) hS'.2.2 hd hlocks
    rcases rf_cases (ρ := ρ') (a := v) with ⟨-, h2⟩ | ⟨n, -, h2⟩
    · exact Or.inl h2
    · exact Or.inr ⟨_, h2⟩
  · exact W.vret B.exec B.bytes (by rw [hr, hrk.1 hk]) (hq _ rfl) hS'.2.2 hd hlocks
/-- SOUNDNESS -/
theorem snd_all : ∀ n, Snd l n := by
  intro n
  induction n with
  | zero => intro M pc ls st ds m ds' m' r h; cases h
  | succ n ih =>
    intro M pc ls st ds m ds' m' r h hm hsc hl hs p e R s mi args below meth c Q D dA A H0 H locs sb base sbase cells slots lsv ρ F P S hR1 hR2 hret
    have hM := F.2.2.2.2.2.2
    rw [mjRun] at h
    cases hst : mjStp M pc ls st ds m with
    | none => rw [hst] at h; cases h
    | some q =>
      rw [hst] at h
      obtain ⟨⟨k, as⟩, pc1, ls1, st1, ds1, m1⟩ := q
      have K : Kp ds m as ls1 st1 ds1 m1 := by
        have h9 := hst
        unfold mjStp at h9
        cases hc : mjCode M pc with
        | none => rw [hc] at h9; cases h9
        | some q =>
        obtain ⟨i, len, x, y⟩ := q
        rw [hc] at h9
        exact kp_stp (code_facts hM hc).2.2 hm (fun j h0 h1 => vok_is (hsc.1 j h0 h1).1 (hsc.1 j h0 h1).2) (vok_is hsc.2.1 hsc.2.2) hl hs h9
      obtain ⟨a1, a2, a3, a4, a5, a6⟩ := K
      match k with
      | 0 =>
        dsimp only at h
        obtain ⟨b1, b2, b3, b4, b5⟩ := run_ok _ _ _ _ _ _ _ _ _ _ h hM a1 (hsc.kept a6) a2 a3
        refine stepW F P hm hl hs S hst (Nat.le_trans b3.len hR1) (Nat.le_trans b3.sl hR2) (fun ρ1 H1 locs1 cells1 slots1 lsv1 hρ1 P1 => ?_)
        refine ih M pc1 ls1 st1 ds1 m1 ds' m' r h a1 (hsc.kept a6) a2 a3 p e R s mi args below meth c Q D dA A H0 H1 locs1 sb base sbase cells1 slots1 lsv1 ρ1 F P1 (S.kept a6) hR1 hR2 (fun pc' lsv' ρ' H' locs' cells' slots' hρ' => hret pc' lsv' ρ' H' locs' cells' slots' (fun i hi => ?_))
        rw [hρ' i (Nat.lt_of_lt_of_le hi a5.len), hρ1 i hi]
      | 1 =>
        dsimp only at h
        cases h
        obtain ⟨rfl, rfl, rfl, hri⟩ := stp_ret hM hst
        exact hret pc lsv ρ H locs cells slots (fun _ _ => rfl) P.2.2.1 P.2.2.2.1 P.2.2.2.2.1 P.2.2.2.2.2.1 P.2.2.2.2.2.2 hri
      | cc + 2 =>
        dsimp only at h
        cases hcr : mjRun n cc 0 (mkL cc as) [] ds1 m1 with
        | none => rw [hcr] at h; cases h
        | some q2 =>
          obtain ⟨d2, m2, r2⟩ := q2
          rw [hcr] at h
          dsimp only at h
          obtain ⟨rfl, rfl, rfl, rfl, hC⟩ := stp_call hM hst
          have hlt := hC.lt
          obtain ⟨b1, b2, b3, b4, b5⟩ := run_ok _ _ _ _ _ _ _ _ _ _ hcr (Nat.lt_trans hlt.1 (by decide +kernel)) a1 hsc (mkL_ok a4) (fun v hv => by cases hv)
          have c2 : ∀ v ∈ ls1, vok d2.length v := al_m a2 b3.len
          have c3 : ∀ v ∈ r2 ++ st1, vok d2.length v := fun v hv => (List.mem_append.mp hv).elim (b2 v) (fun q => (a3 v q).mono b3.len)
          obtain ⟨e1, e2, e3, e4, e5⟩ := run_ok _ _ _ _ _ _ _ _ _ _ h hM b1 (hsc.kept b4) c2 c3
          refine callW (metOf ih) F P hm hsc hl hs hC hcr (Nat.le_trans e3.len hR1) (Nat.le_trans e3.sl hR2) (fun ρ1 H1 locs1 cells1 slots1 lsv1 hρ1 P1 => ?_)
          refine ih M _ ls1 (r2 ++ st1) d2 m2 ds' m' r h b1 (hsc.kept b4) c2 c3 p e R s mi args below meth c Q D dA A H0 H1 locs1 sb base sbase cells1 slots1 lsv1 ρ1 F P1 (S.kept b4) hR1 hR2 (fun pc' lsv' ρ' H' locs' cells' slots' hρ' => hret pc' lsv' ρ' H' locs' cells' slots' (fun i hi => ?_))
          rw [hρ' i (Nat.lt_of_lt_of_le hi b3.len), hρ1 i hi]
end SND
