/-! ONE STEP of the small machine is a step of the machine -/
def Per (D : va_G) (dA : Nat → ClassId) (s : State) : Prop := va_K D vwCl (tysW dA) s ∧ (∀ q ∈ MLp, 3 ≤ q.2.2.2.2 → va_Nw (.methodLinkNest (cN q.2.1) q.2.2.1 (mjY q.2.2.2.1) RX6) s) ∧ va_AO RX4 s ∧ va_AO RX3 s
theorem Per.moved {D : va_G} {dA : Nat → ClassId} {s U : State} (h : Per D dA s) (hW : s.WarmedH U.vm) : Per D dA U := ⟨va_K.moved hW.alike h.1, fun q hq hk => va_Nw.warmM hW (h.2.1 q hq hk), h.2.2.1.moved hW.alike, h.2.2.2.moved hW.alike⟩
def Fx (p : Program) (R : Room) (s : State) (mi : MethodId) (args : Array Value) (meth : Method) (c : Code) (D : va_G) (dA : Nat → ClassId) (A : Nat → Prop) (H0 : Heap) (M : Nat) : Prop :=
  CallFix p mi c (mjB M) (mjX M) s args tblG (cN (mjO M)) ∧ Per D dA s ∧ ((mjY M).name = "<init>" → meth.name = "<init>") ∧ (∀ q, H0.size ≤ q → A q) ∧ mjF M ≤ R.frames ∧ mjL M ≤ R.locals ∧ M < NM
def Scr (M sb : Nat) (m : Mm) (s : State) (H0 : Heap) (A : Nat → Prop) : Prop := M = mjLaw → ∃ (L : Nat) (xs : Nat → Int32), va_X sb L xs s H0 ∧ sb < H0.size ∧ ¬ A sb ∧ L ≤ 30000 ∧ m (-3) 0 = L ∧ ∀ j : Nat, j < L → m (-2) j = (xs j).toInt
def Hp (D : va_G) (dA : Nat → ClassId) (A : Nat → Prop) (H0 : Heap) (sb base sbase M : Nat) (ls : List MV) (ds : Ds) (m : Mm) (ρ : Nat → Nat) (H : Heap) (locs : List Loc) (cells slots : Nat) (lsv : Array Slot) : Prop :=
  ls.length = mjX M ∧ lv_has lsv (mjX M) (lst ρ sb ls) ∧ va_P D vwCl (wld dA ρ ds m) H ∧ va_D A (wld dA ρ ds m) ∧ va_S A H0 H locs ∧ base + cells = ds.length ∧ sbase + slots = sl ds
section ST
variable {p : Program} {l : Launch} {e : Env} {R : Room} {s : State} {mi : MethodId} {args : Array Value} {below : List Frame} {meth : Method} {c : Code}
variable {Q : State → Prop} {D : va_G} {dA : Nat → ClassId} {A : Nat → Prop} {H0 H : Heap} {locs : List Loc} {sb base sbase M cells slots : Nat} {lsv : Array Slot} {ρ : Nat → Nat}
variable {pc pc' x y : Nat} {z ls ls' st st' : List MV} {ds ds' : Ds} {m m' : Mm}
theorem cmp_inv {k : Nat} {as : List MV} {cc : ClassFile.Cond} {t pn : Nat} {a b : Int} {r : List MV} (h : cmp cc t pn a b ls r ds m = some ((k, as), (pc', ls', st', ds', m'))) : ls' = ls ∧ st' = r ∧ ds' = ds ∧ m' = m := by
  unfold cmp at h
  split at h <;> split at h <;> (unfold nx at h; cases h; exact ⟨rfl, rfl, rfl, rfl⟩)
theorem rf_cases {ρ : Nat → Nat} {a : Int} : (a < 0 ∧ fvl ρ 2 a = .null) ∨ ∃ n : Nat, a = n ∧ fvl ρ 2 a = .ref (ρ n) := by
  cases a with
  | ofNat n => exact Or.inr ⟨n, rfl, rfl⟩
  | negSucc n => exact Or.inl ⟨Int.negSucc_lt_zero n, rfl⟩
/-- loads -/
theorem st_ld {t k pn : Nat} (F : Fx p R s mi args meth c D dA A H0 M) (P : Hp D dA A H0 sb base sbase M ls ds m ρ H locs cells slots lsv) (h : ldv t pn k ls st ds m = some ((0, z), (pc', ls', st', ds', m')))
    (ki : t = 0 → ∀ x : Int32, lsv[k]? = some (.val (.int x)) → W p l e R s mi args below meth c H locs cells slots Q (F0 mi pn lsv (.int x :: st.map (val ρ sb))) → W p l e R s mi args below meth c H locs cells slots Q (F0 mi pc lsv (st.map (val ρ sb))))
    (kl : t = 1 → ∀ x : Int64, lsv[k]? = some (.val (.long x)) → W p l e R s mi args below meth c H locs cells slots Q (F0 mi pn lsv (.long x :: st.map (val ρ sb))) → W p l e R s mi args below meth c H locs cells slots Q (F0 mi pc lsv (st.map (val ρ sb))))
    (ka : t = 2 → ∀ x : Nat, lsv[k]? = some (.val (.ref x)) → W p l e R s mi args below meth c H locs cells slots Q (F0 mi pn lsv (.ref x :: st.map (val ρ sb))) → W p l e R s mi args below meth c H locs cells slots Q (F0 mi pc lsv (st.map (val ρ sb))))
    (kn : t = 2 → lsv[k]? = some (.val .null) → W p l e R s mi args below meth c H locs cells slots Q (F0 mi pn lsv (.null :: st.map (val ρ sb))) → W p l e R s mi args below meth c H locs cells slots Q (F0 mi pc lsv (st.map (val ρ sb))))
    (ht : t = 0 ∨ t = 1 ∨ t = 2)
    (kk : Hp D dA A H0 sb base sbase M ls' ds' m' ρ H locs cells slots lsv → W p l e R s mi args below meth c H locs cells slots Q (F0 mi pc' lsv (st'.map (val ρ sb)))) : W p l e R s mi args below meth c H locs cells slots Q (F0 mi pc lsv (st.map (val ρ sb))) := by
  unfold ldv at h
  split at h
  · next v hv =>
    split at h
    · next hc =>
      unfold nx at h
      cases h
      have K := kk P
      rw [List.map_cons] at K
      have G := lh_get P.2.1 hv (by omega)
      obtain ⟨u, a⟩ := v
      dsimp only at hc
      rcases ht with rfl | rfl | rfl
      · have hu : u = 0 := by omega
        subst hu
        exact ki rfl _ G K
      · have hu : u = 1 := by omega
        subst hu
        exact kl rfl _ G K
      · have hu : u = 2 ∨ u = 4 := by omega
        rcases hu with rfl | rfl
        · rcases rf_cases (ρ := ρ) (a := a) with ⟨-, h2⟩ | ⟨n, -, h2⟩
          · have e1 : val ρ sb (2, a) = .null := h2
            rw [e1] at G K
            exact kn rfl G K
          · have e1 : val ρ sb (2, a) = .ref (ρ n) := h2
            rw [e1] at G K
            exact ka rfl _ G K
        · exact ka rfl _ G K
    · cases h
  · cases h
/-- stores -/
theorem st_st {t k pn : Nat} (F : Fx p R s mi args meth c D dA A H0 M) (P : Hp D dA A H0 sb base sbase M ls ds m ρ H locs cells slots lsv) (h : stv t pn k ls st ds m = some ((0, z), (pc', ls', st', ds', m')))
    (ki : t = 0 → ∀ (x : Int32) (r : List Value), k < mjX M → (∀ ls2 : Array Slot, lv_has ls2 (mjX M) ((k, Value.int x) :: (lst ρ sb ls).filter (fun q => !(q.1 == k) && !(q.1 + 1 == k && q.2.category == 2))) → W p l e R s mi args below meth c H locs cells slots Q (F0 mi pn ls2 r)) → W p l e R s mi args below meth c H locs cells slots Q (F0 mi pc lsv (.int x :: r)))
    (ka : t = 2 → ∀ (x : Nat) (r : List Value), k < mjX M → (∀ ls2 : Array Slot, lv_has ls2 (mjX M) ((k, Value.ref x) :: (lst ρ sb ls).filter (fun q => !(q.1 == k) && !(q.1 + 1 == k && q.2.category == 2))) → W p l e R s mi args below meth c H locs cells slots Q (F0 mi pn ls2 r)) → W p l e R s mi args below meth c H locs cells slots Q (F0 mi pc lsv (.ref x :: r)))
    (kn : t = 2 → ∀ (r : List Value), k < mjX M → (∀ ls2 : Array Slot, lv_has ls2 (mjX M) ((k, Value.null) :: (lst ρ sb ls).filter (fun q => !(q.1 == k) && !(q.1 + 1 == k && q.2.category == 2))) → W p l e R s mi args below meth c H locs cells slots Q (F0 mi pn ls2 r)) → W p l e R s mi args below meth c H locs cells slots Q (F0 mi pc lsv (.null :: r)))
    (ht : t = 0 ∨ t = 2)
    (kk : ∀ lsv, Hp D dA A H0 sb base sbase M ls' ds' m' ρ H locs cells slots lsv → W p l e R s mi args below meth c H locs cells slots Q (F0 mi pc' lsv (st'.map (val ρ sb)))) : W p l e R s mi args below meth c H locs cells slots Q (F0 mi pc lsv (st.map (val ρ sb))) := by
  unfold stv at h
  split at h
  · next v r =>
    split at h
    · next hc =>
      unfold nx at h
      cases h
      rw [List.map_cons]
      obtain ⟨u, a⟩ := v
      dsimp only at hc
      have hk : k < mjX M := by rw [← P.1]; exact hc.2.1
      have K : ∀ ls2 : Array Slot, lv_has ls2 (mjX M) ((k, val ρ sb (u, a)) :: (lst ρ sb ls).filter (fun q => !(q.1 == k) && !(q.1 + 1 == k && q.2.category == 2))) → W p l e R s mi args below meth c H locs cells slots Q (F0 mi pc' ls2 (st'.map (val ρ sb))) :=
        fun ls2 h2 => kk ls2 ⟨by rw [List.length_set]; exact P.1, lh_set h2 hc.2.2, P.2.2⟩
      rcases ht with rfl | rfl
      · have hu : u = 0 := by omega
        subst hu
        exact ki rfl _ _ hk K
      · have hu : u = 2 := by omega
        subst hu
        rcases rf_cases (ρ := ρ) (a := a) with ⟨-, h2⟩ | ⟨n, -, h2⟩
        · have e1 : val ρ sb (2, a) = .null := h2
          rw [e1] at K ⊢
          exact kn rfl _ hk K
        · have e1 : val ρ sb (2, a) = .ref (ρ n) := h2
          rw [e1] at K ⊢
          exact ka rfl _ _ hk K
    · cases h
  · cases h
theorem bin_inv {i : Instr} {pn k : Nat} {as : List MV} (h : bin i pn ls st ds m = some ((k, as), (pc', ls', st', ds', m'))) : ∃ (a b w : Int) (r : List MV), st = (0, b) :: (0, a) :: r ∧ bop i a b = some w ∧ pc' = pn ∧ ls' = ls ∧ st' = (0, w) :: r ∧ ds' = ds ∧ m' = m := by
  unfold bin at h
  split at h
  · split at h
    · next w hw =>
      unfold nx at h
      cases h
      exact ⟨_, _, _, _, rfl, hw, rfl, rfl, rfl, rfl, rfl⟩
    · cases h
  · cases h
/-- an arithmetic instruction, by its row -/
theorem st_bin {i : Instr} {pn : Nat} {w0 : Int32 → Int32 → Int32} (P : Hp D dA A H0 sb base sbase M ls ds m ρ H locs cells slots lsv) (h : bin i pn ls st ds m = some ((0, z), (pc', ls', st', ds', m')))
    (hb : ∀ a b w, bop i a b = some w → Int32.ofInt w = w0 (Int32.ofInt a) (Int32.ofInt b))
    (kr : ∀ (a b : Int32) (r : List Value), (∃ u v w : Int, a = Int32.ofInt u ∧ b = Int32.ofInt v ∧ bop i u v = some w ∧ (0, v) ∈ st) → W p l e R s mi args below meth c H locs cells slots Q (F0 mi pn lsv (.int (w0 a b) :: r)) → W p l e R s mi args below meth c H locs cells slots Q (F0 mi pc lsv (.int b :: .int a :: r)))
    (kk : Hp D dA A H0 sb base sbase M ls' ds' m' ρ H locs cells slots lsv → W p l e R s mi args below meth c H locs cells slots Q (F0 mi pc' lsv (st'.map (val ρ sb)))) : W p l e R s mi args below meth c H locs cells slots Q (F0 mi pc lsv (st.map (val ρ sb))) := by
  obtain ⟨a, b, w, r, rfl, hw, rfl, rfl, rfl, rfl, rfl⟩ := bin_inv h
  have K := kk P
  refine kr (Int32.ofInt a) (Int32.ofInt b) (r.map (val ρ sb)) ⟨a, b, w, rfl, rfl, hw, List.mem_cons_self⟩ ?_
  rw [← hb a b w hw]
  exact K
/-- element reads out of int and boolean arrays, long arrays -/
theorem ald_inv {k t pn q : Nat} {as : List MV} (hk : k ≠ 99) (h : ald k t pn ls st ds m = some ((q, as), (pc', ls', st', ds', m'))) : ∃ (i : Int) (n : Nat) (d : Nat × Nat) (r : List MV), st = (0, i) :: (2, (n : Int)) :: r ∧ ds[n]? = some d ∧ d.1 = k ∧ 0 ≤ i ∧ i < d.2 ∧ pc' = pn ∧ ls' = ls ∧ st' = (t, m n i) :: r ∧ ds' = ds ∧ m' = m := by
  unfold ald at h
  split at h
  · split at h
    · next hc =>
      unfold nx at h
      cases h
      obtain ⟨n, d, rfl, hd, e1, e2, -⟩ := dk_get hc.1 hk
      exact ⟨_, n, d, _, rfl, hd, e1, hc.2.1, by rw [← e2]; exact hc.2.2, rfl, rfl, rfl, rfl, rfl⟩
    · cases h
  · cases h
theorem ast_inv {k t pn q : Nat} {as : List MV} {ok : Int → Prop} [DecidablePred ok] (hk : k ≠ 99) (h : ast k t pn ok ls st ds m = some ((q, as), (pc', ls', st', ds', m'))) : ∃ (v i : Int) (n : Nat) (d : Nat × Nat) (r : List MV), st = (t, v) :: (0, i) :: (2, (n : Int)) :: r ∧ ok v ∧ ds[n]? = some d ∧ d.1 = k ∧ 0 ≤ i ∧ i < d.2 ∧ pc' = pn ∧ ls' = ls ∧ st' = r ∧ ds' = ds ∧ m' = up m n i v := by
  unfold ast at h
  split at h
  · split at h
    · next hc =>
      unfold nx at h
      cases h
      obtain ⟨rfl, h1, h2, h3⟩ := hc
      obtain ⟨n, d, rfl, hd, e1, e2, -⟩ := dk_get h2 hk
      exact ⟨_, _, n, d, _, rfl, h1, hd, e1, h3.1, by rw [← e2]; exact h3.2, rfl, rfl, rfl, rfl, rfl⟩
    · cases h
  · cases h
theorem upd_of {f : Int → Int} {i v : Int} (h : 0 ≤ i) : upd (fun (j : Nat) => Int32.ofInt (f (j : Int))) i.toNat (Int32.ofInt v) = fun (j : Nat) => Int32.ofInt (if (j : Int) = i then v else f (j : Int)) := by
  funext j
  unfold upd
  by_cases hj : j = i.toNat
  · rw [if_pos hj, if_pos (by omega)]
  · rw [if_neg hj, if_neg (by omega)]
theorem updL_of {f : Int → Int} {i v : Int} (h : 0 ≤ i) : vp_updL (fun (j : Nat) => Int64.ofInt (f (j : Int))) i.toNat (Int64.ofInt v) = fun (j : Nat) => Int64.ofInt (if (j : Int) = i then v else f (j : Int)) := by
  funext j
  unfold vp_updL
  by_cases hj : j = i.toNat
  · rw [if_pos hj, if_pos (by omega)]
  · rw [if_neg hj, if_neg (by omega)]
theorem va_up_of {f : Int → Int} {i v : Int} (h : 0 ≤ i) : va_up (fun (j : Nat) => rfo ρ (f (j : Int))) i.toNat (rfo ρ v) = fun (j : Nat) => rfo ρ (if (j : Int) = i then v else f (j : Int)) := by
  funext j
  unfold va_up
  by_cases hj : j = i.toNat
  · rw [if_pos hj, if_pos (by omega)]
  · rw [if_neg hj, if_neg (by omega)]
/-- a store of one element or field: the world behind it -/
theorem Hp.st1 {n : Nat} {d : Nat × Nat} {i v : Int} {H1 : Heap} {locs1 : List Loc} {w : va_E} (P : Hp D dA A H0 sb base sbase M ls ds m ρ H locs cells slots lsv) (hd : ds[n]? = some d) (hw : cel dA ρ d (fun j => if j = i then v else m n j) = w) (hP : va_P D vwCl ((wld dA ρ ds m).set n (ρ n, w)) H1) (hD : va_D A ((wld dA ρ ds m).set n (ρ n, w))) (hS : va_S A H0 H1 locs1) : Hp D dA A H0 sb base sbase M ls ds (up m n i v) ρ H1 locs1 cells slots lsv := by
  subst hw
  rw [← wld_up hd] at hP hD
  exact ⟨P.1, P.2.1, hP, hD, hS, P.2.2.2.2.2⟩
end ST
