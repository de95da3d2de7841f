/-! THE SMALL MACHINE: the class's and the reference's methods run over descriptors of cells (ds) and one memory of whole numbers (m); addresses are places in ds. A value is (0, int), (1, long), (2, address or -1), (3, nothing), (4, the script). -/
abbrev MV : Type := Nat × Int
abbrev Ds : Type := List (Nat × Nat)
abbrev Mm : Type := Int → Int → Int
abbrev Cfg : Type := Nat × List MV × List MV × Ds × Mm
abbrev Res : Type := Option ((Nat × List MV) × Cfg)
def w32 (z : Int) : Int := (Int32.ofInt z).toInt
/-- kind and length of the cell at an address: 0..7 an object of that class, 10 int[], 11 boolean[], 12 long[], 13 Row[], 14 Plan[] -/
def dk (ds : Ds) (a : Int) : Nat := match a with
  | .ofNat n => (ds.getD n (99, 0)).1
  | .negSucc _ => 99
def dl (ds : Ds) (a : Int) : Nat := match a with
  | .ofNat n => (ds.getD n (99, 0)).2
  | .negSucc _ => 0
def up (m : Mm) (a i v : Int) : Mm := fun b j => if b = a ∧ j = i then v else m b j
def al (m : Mm) (a : Int) (f : Int → Int) : Mm := fun b j => if b = a then f j else m b j
def cpy (m : Mm) (a sp b dp n : Int) : Mm := fun q j => if q = b ∧ dp ≤ j ∧ j < dp + n then m a (sp + (j - dp)) else m q j
def dfl (k : Nat) (j : Int) : Int := if k = 13 ∨ k = 14 then -1 else if 8 ≤ k then 0 else if fTag k j.toNat = 2 then -1 else 0
def jand (x y : Int) : Int := (Int32.ofInt x &&& Int32.ofInt y).toInt
def jor (x y : Int) : Int := (Int32.ofInt x ||| Int32.ofInt y).toInt
def jxor (x y : Int) : Int := (Int32.ofInt x ^^^ Int32.ofInt y).toInt
def jshl (x y : Int) : Int := (Int32.ofInt x <<< (Int32.ofInt y &&& 31)).toInt
def jshr (x y : Int) : Int := (Int32.ofInt x >>> (Int32.ofInt y &&& 31)).toInt
def jushr (x y : Int) : Int := (((Int32.ofInt x).toUInt32 >>> ((Int32.ofInt y).toUInt32 &&& Int32.toUInt32 31)).toInt32).toInt
def jdiv (x y : Int) : Int := (Int32.ofInt x / Int32.ofInt y).toInt
def jrem (x y : Int) : Int := (Int32.ofInt x - Int32.ofInt x / Int32.ofInt y * Int32.ofInt y).toInt
def jb (x : Int) : Int := ((Int32.ofInt x).toInt8.toInt32).toInt
def js (x : Int) : Int := ((Int32.ofInt x).toInt16.toInt32).toInt
def ji (x : Int) : Int := ((Int64.ofInt x).toInt32).toInt
def jlshl (x y : Int) : Int := (Int64.ofInt x <<< ((Int32.ofInt y).toInt64 &&& 63)).toInt
def jlor (x y : Int) : Int := (Int64.ofInt x ||| Int64.ofInt y).toInt
def jland (x y : Int) : Int := (Int64.ofInt x &&& Int64.ofInt y).toInt
def jcmp (x y : Int) : Int := if x < y then -1 else if x = y then 0 else 1
def bop (i : Instr) (x y : Int) : Option Int := match i with
  | .iadd => some (w32 (x + y))
  | .isub => some (w32 (x - y))
  | .imul => some (w32 (x * y))
  | .iand => some (jand x y)
  | .ior => some (jor x y)
  | .ixor => some (jxor x y)
  | .ishl => some (jshl x y)
  | .ishr => some (jshr x y)
  | .iushr => some (jushr x y)
  | .idiv => if y = 0 then none else some (jdiv x y)
  | .irem => if y = 0 then none else some (jrem x y)
  | _ => none
def cat (v : MV) : Nat := if v.1 = 1 then 2 else 1
def nx (pn : Nat) (ls st : List MV) (ds : Ds) (m : Mm) : Res := some ((0, []), (pn, ls, st, ds, m))
def ldv (t pn k : Nat) (ls st : List MV) (ds : Ds) (m : Mm) : Res := match ls[k]? with
  | some v => if v.1 = t ∨ (t = 2 ∧ v.1 = 4) then nx pn ls (v :: st) ds m else none
  | none => none
def stv (t pn k : Nat) (ls st : List MV) (ds : Ds) (m : Mm) : Res := match st with
  | v :: r => if v.1 = t ∧ k < ls.length ∧ (k = 0 ∨ ¬ (ls.getD (k - 1) (3, 0)).1 = 1) then nx pn (ls.set k v) r ds m else none
  | [] => none
def bin (i : Instr) (pn : Nat) (ls st : List MV) (ds : Ds) (m : Mm) : Res := match st with
  | (0, y) :: (0, x) :: r => match bop i x y with
    | some z => nx pn ls ((0, z) :: r) ds m
    | none => none
  | _ => none
def cmp (c : ClassFile.Cond) (t pn : Nat) (x y : Int) (ls r : List MV) (ds : Ds) (m : Mm) : Res := match c with
  | .eq => if x = y then nx t ls r ds m else nx pn ls r ds m
  | .ne => if x = y then nx pn ls r ds m else nx t ls r ds m
  | .lt => if x < y then nx t ls r ds m else nx pn ls r ds m
  | .ge => if x < y then nx pn ls r ds m else nx t ls r ds m
  | .gt => if y < x then nx t ls r ds m else nx pn ls r ds m
  | .le => if y < x then nx pn ls r ds m else nx t ls r ds m
/-- an element's read: k the kind, t the answer's sort -/
def ald (k t pn : Nat) (ls st : List MV) (ds : Ds) (m : Mm) : Res := match st with
  | (0, i) :: (2, a) :: r => if dk ds a = k ∧ 0 ≤ i ∧ i < dl ds a then nx pn ls ((t, m a i) :: r) ds m else none
  | _ => none
def ast (k t pn : Nat) (ok : Int → Prop) [DecidablePred ok] (ls st : List MV) (ds : Ds) (m : Mm) : Res := match st with
  | (u, v) :: (0, i) :: (2, a) :: r => if u = t ∧ ok v ∧ dk ds a = k ∧ 0 ≤ i ∧ i < dl ds a then nx pn ls r ds (up m a i v) else none
  | _ => none
/-- whether the first argument is an object of the class with that number -/
def rcv (o : Nat) (as : List MV) (ds : Ds) : Bool := match as with
  | (2, a) :: _ => decide (dk ds a = o)
  | _ => false
def mjCall (rc : Bool) (x y pn : Nat) (ls st : List MV) (ds : Ds) (m : Mm) : Res :=
  if y ≤ st.length ∧ (st.take y).all (fun v => Nat.ble v.1 2) = true ∧ ((st.drop y).map cat).sum ≤ 8 ∧ (((st.take y).reverse).map cat).sum ≤ mjX (x - 1) ∧ (rc = true → rcv (mjO (x - 1)) (st.take y).reverse ds = true)
  then some ((x + 1, (st.take y).reverse), (pn, ls, st.drop y, ds, m)) else none
def mjRet (t : Nat) (ok : Int → Prop) [DecidablePred ok] (pc : Nat) (ls st : List MV) (ds : Ds) (m : Mm) : Res := match st with
  | [(u, v)] => if u = t ∧ ok v then some ((1, [(u, v)]), (pc, ls, st, ds, m)) else none
  | _ => none
def stpI (i : Instr) (M pn pc x y : Nat) (ls st : List MV) (ds : Ds) (m : Mm) : Res := match i with
  | .aload_n k => ldv 2 pn k.val ls st ds m
  | .aload k => ldv 2 pn k ls st ds m
  | .iload_n k => ldv 0 pn k.val ls st ds m
  | .iload k => ldv 0 pn k ls st ds m
  | .lload_n k => ldv 1 pn k.val ls st ds m
  | .lload k => ldv 1 pn k ls st ds m
  | .istore_n k => stv 0 pn k.val ls st ds m
  | .istore k => stv 0 pn k ls st ds m
  | .astore_n k => stv 2 pn k.val ls st ds m
  | .astore k => stv 2 pn k ls st ds m
  | .iinc k n => match ls[k]? with
    | some (0, v) => nx pn (ls.set k (0, w32 (v + n))) st ds m
    | _ => none
  | .iconst n => nx pn ls ((0, n) :: st) ds m
  | .bipush n => nx pn ls ((0, n) :: st) ds m
  | .sipush n => nx pn ls ((0, n) :: st) ds m
  | .lconst n => nx pn ls ((1, (n.val : Int)) :: st) ds m
  | .ldc_w _ => nx pn ls ((0, (x : Int)) :: st) ds m
  | .ldc2_w _ => nx pn ls ((1, (x : Int)) :: st) ds m
  | .aconst_null => nx pn ls ((2, -1) :: st) ds m
  | .dup => match st with
    | v :: r => if v.1 = 1 then none else nx pn ls (v :: v :: r) ds m
    | _ => none
  | .dup2 => match st with
    | v :: w :: r => if v.1 = 1 ∨ w.1 = 1 then none else nx pn ls (v :: w :: v :: w :: r) ds m
    | _ => none
  | .pop => match st with
    | v :: r => if v.1 = 1 then none else nx pn ls r ds m
    | _ => none
  | .iadd => bin i pn ls st ds m
  | .isub => bin i pn ls st ds m
  | .imul => bin i pn ls st ds m
  | .idiv => bin i pn ls st ds m
  | .irem => bin i pn ls st ds m
  | .iand => bin i pn ls st ds m
  | .ior => bin i pn ls st ds m
  | .ixor => bin i pn ls st ds m
  | .ishl => bin i pn ls st ds m
  | .ishr => bin i pn ls st ds m
  | .iushr => bin i pn ls st ds m
  | .ineg => match st with
    | (0, z) :: r => nx pn ls ((0, w32 (-z)) :: r) ds m
    | _ => none
  | .i2l => match st with
    | (0, z) :: r => nx pn ls ((1, z) :: r) ds m
    | _ => none
  | .l2i => match st with
    | (1, z) :: r => nx pn ls ((0, ji z) :: r) ds m
    | _ => none
  | .i2b => match st with
    | (0, z) :: r => nx pn ls ((0, jb z) :: r) ds m
    | _ => none
  | .i2s => match st with
    | (0, z) :: r => nx pn ls ((0, js z) :: r) ds m
    | _ => none
  | .lshl => match st with
    | (0, w) :: (1, z) :: r => nx pn ls ((1, jlshl z w) :: r) ds m
    | _ => none
  | .lor => match st with
    | (1, w) :: (1, z) :: r => nx pn ls ((1, jlor z w) :: r) ds m
    | _ => none
  | .land => match st with
    | (1, w) :: (1, z) :: r => nx pn ls ((1, jland z w) :: r) ds m
    | _ => none
  | .lcmp => match st with
    | (1, w) :: (1, z) :: r => nx pn ls ((0, jcmp z w) :: r) ds m
    | _ => none
  | .ifCond c _ => match st with
    | (0, z) :: r => cmp c x pn z 0 ls r ds m
    | _ => none
  | .if_icmp c _ => match st with
    | (0, w) :: (0, z) :: r => cmp c x pn z w ls r ds m
    | _ => none
  | .goto _ => nx x ls st ds m
  | .ifnull _ => match st with
    | (2, a) :: r => if a < 0 then nx x ls r ds m else nx pn ls r ds m
    | _ => none
  | .ifnonnull _ => match st with
    | (2, a) :: r => if a < 0 then nx pn ls r ds m else nx x ls r ds m
    | _ => none
  | .tableswitch d lo hi offs => match st with
    | (0, v) :: r => if v < lo ∨ hi < v then (if 0 ≤ (pc : Int) + d then nx ((pc : Int) + d).toNat ls r ds m else none) else match offs[(v - lo).toNat]? with
      | some off => if 0 ≤ (pc : Int) + off then nx ((pc : Int) + off).toNat ls r ds m else none
      | none => none
    | _ => none
  | .lookupswitch d ps => match st with
    | (0, v) :: r => if 0 ≤ (pc : Int) + Op.lookupswitch.offset ps.toList d v then nx ((pc : Int) + Op.lookupswitch.offset ps.toList d v).toNat ls r ds m else none
    | _ => none
  | .getfield _ => match st with
    | (2, a) :: r => if dk ds a = x then nx pn ls ((fTag x y, m a (y : Int)) :: r) ds m else none
    | _ => none
  | .putfield _ => match st with
    | (u, v) :: (2, a) :: r => if u = fTag x y ∧ dk ds a = x then nx pn ls r ds (up m a (y : Int) v) else none
    | _ => none
  | .iaload => match st with
    | (0, j) :: (4, _) :: r => if M = mjLaw ∧ 0 ≤ j ∧ j < m (-3) 0 then nx pn ls ((0, m (-2) j) :: r) ds m else none
    | _ => ald 10 0 pn ls st ds m
  | .baload => ald 11 0 pn ls st ds m
  | .laload => ald 12 1 pn ls st ds m
  | .aaload => match st with
    | (0, j) :: (2, a) :: r => if (dk ds a = 13 ∨ dk ds a = 14) ∧ 0 ≤ j ∧ j < dl ds a then nx pn ls ((2, m a j) :: r) ds m else none
    | _ => none
  | .iastore => ast 10 0 pn (fun _ => True) ls st ds m
  | .bastore => ast 11 0 pn (fun v => v = 0 ∨ v = 1) ls st ds m
  | .lastore => ast 12 1 pn (fun _ => True) ls st ds m
  | .aastore => match st with
    | (2, v) :: (0, j) :: (2, a) :: r => if (dk ds a = 13 ∧ (v < 0 ∨ dk ds v = 4) ∨ dk ds a = 14 ∧ (v < 0 ∨ dk ds v = 3)) ∧ 0 ≤ j ∧ j < dl ds a then nx pn ls r ds (up m a j v) else none
    | _ => none
  | .arraylength => match st with
    | (4, _) :: r => if M = mjLaw then nx pn ls ((0, m (-3) 0) :: r) ds m else none
    | (2, a) :: r => if 10 ≤ dk ds a ∧ dk ds a ≤ 14 then nx pn ls ((0, (dl ds a : Int)) :: r) ds m else none
    | _ => none
  | .newarray _ => match st with
    | (0, n) :: r => if 0 ≤ n ∧ n ≤ 30000 then nx pn ls ((2, (ds.length : Int)) :: r) (ds ++ [(x, n.toNat)]) (al m (ds.length : Int) (dfl x)) else none
    | _ => none
  | .anewarray _ => match st with
    | (0, n) :: r => if 0 ≤ n ∧ n ≤ 30000 then nx pn ls ((2, (ds.length : Int)) :: r) (ds ++ [(x, n.toNat)]) (al m (ds.length : Int) (dfl x)) else none
    | _ => none
  | .new _ => nx pn ls ((2, (ds.length : Int)) :: st) (ds ++ [(x, cF x)]) (al m (ds.length : Int) (dfl x))
  | .invokevirtual _ => mjCall true x y pn ls st ds m
  | .invokestatic _ => if x = 1000 then (match st with
    | (0, n) :: (0, dp) :: (2, b) :: (0, sp) :: (2, a) :: r => if dk ds a = 12 ∧ dk ds b = 12 ∧ 0 ≤ n ∧ 0 ≤ sp ∧ 0 ≤ dp ∧ sp + n ≤ dl ds a ∧ dp + n ≤ dl ds b ∧ (r.map cat).sum ≤ 8 then nx pn ls r ds (cpy m a sp b dp n) else none
    | _ => none) else mjCall false x y pn ls st ds m
  | .invokespecial _ => if x = 0 then (match st with
    | (2, a) :: r => if 0 ≤ a ∧ (r.map cat).sum ≤ 8 then nx pn ls r ds m else none
    | _ => none) else mjCall true x y pn ls st ds m
  | .ireturn => mjRet 0 (fun v => mjK M = 1 ∨ (mjK M = 2 ∧ (v = 0 ∨ v = 1))) pc ls st ds m
  | .lreturn => mjRet 1 (fun _ => mjK M = 3) pc ls st ds m
  | .areturn => mjRet 2 (fun _ => mjK M = 4) pc ls st ds m
  | .return_ => match st with
    | [] => if mjK M = 0 then some ((1, []), (pc, ls, [], ds, m)) else none
    | _ => none
  | _ => none
def mjStp (M pc : Nat) (ls st : List MV) (ds : Ds) (m : Mm) : Res := match mjCode M pc with
  | none => none
  | some (i, len, x, y) => stpI i M (pc + len) pc x y ls st ds m
def sl1 (v : MV) : List MV := if v.1 = 1 then [v, (3, 0)] else [v]
def mkL (c : Nat) (as : List MV) : List MV := as.flatMap sl1 ++ List.replicate (mjX c - (as.flatMap sl1).length) (3, 0)
def mjRun : Nat → Nat → Nat → List MV → List MV → Ds → Mm → Option (Ds × Mm × List MV)
  | 0, _, _, _, _, _, _ => none
  | n + 1, M, pc, ls, st, ds, m => match mjStp M pc ls st ds m with
    | none => none
    | some ((0, _), (pc', ls', st', ds', m')) => mjRun n M pc' ls' st' ds' m'
    | some ((1, r), (_, _, _, ds', m')) => some (ds', m', r)
    | some ((c + 2, as), (pc', ls', st', ds', m')) => match mjRun n c 0 (mkL c as) [] ds' m' with
      | none => none
      | some (d2, m2, r) => mjRun n M pc' ls' (r ++ st') d2 m2
theorem mjRun_succ : ∀ (n M pc : Nat) (ls st : List MV) (ds : Ds) (m : Mm) (r : Ds × Mm × List MV), mjRun n M pc ls st ds m = some r → mjRun (n + 1) M pc ls st ds m = some r := by
  intro n
  induction n with
  | zero => intro M pc ls st ds m r h; cases h
  | succ n ih =>
    intro M pc ls st ds m r h
    rw [mjRun] at h ⊢
    cases hs : mjStp M pc ls st ds m with
    | none => rw [hs] at h; cases h
    | some q =>
      rw [hs] at h
      obtain ⟨⟨k, as⟩, pc', ls', st', ds', m'⟩ := q
      match k with
      | 0 => exact ih _ _ _ _ _ _ _ h
      | 1 => exact h
      | c + 2 =>
        dsimp only at h ⊢
        cases hc : mjRun n c 0 (mkL c as) [] ds' m' with
        | none => rw [hc] at h; cases h
        | some q2 =>
          obtain ⟨d2, m2, r2⟩ := q2
          rw [hc] at h
          rw [ih _ _ _ _ _ _ _ hc]
          exact ih _ _ _ _ _ _ _ h
theorem mjRun_le {n k M pc : Nat} {ls st : List MV} {ds : Ds} {m : Mm} {r : Ds × Mm × List MV} (h : mjRun n M pc ls st ds m = some r) (hk : n ≤ k) : mjRun k M pc ls st ds m = some r := by
  induction hk with
  | refl => exact h
  | step _ ih => exact mjRun_succ _ _ _ _ _ _ _ _ ih
/-- from there the method ends, with Q of what is there then -/
def WP (M pc : Nat) (ls st : List MV) (ds : Ds) (m : Mm) (Q : Ds → Mm → List MV → Prop) : Prop := ∃ (n : Nat) (ds' : Ds) (m' : Mm) (r : List MV), mjRun n M pc ls st ds m = some (ds', m', r) ∧ Q ds' m' r
section WPs
variable {M pc pc' : Nat} {ls st ls' st' z r as : List MV} {ds ds' : Ds} {m m' : Mm} {Q Q' : Ds → Mm → List MV → Prop}
theorem WP_mono (h : WP M pc ls st ds m Q) (hq : ∀ d2 m2 r, Q d2 m2 r → Q' d2 m2 r) : WP M pc ls st ds m Q' := by
  obtain ⟨n, d2, m2, r, h1, h2⟩ := h
  exact ⟨n, d2, m2, r, h1, hq _ _ _ h2⟩
theorem WP_nx (h : mjStp M pc ls st ds m = some ((0, z), (pc', ls', st', ds', m'))) : WP M pc ls st ds m Q = WP M pc' ls' st' ds' m' Q := by
  refine propext ⟨fun ⟨n, d2, m2, r, h1, h2⟩ => ?_, fun ⟨n, d2, m2, r, h1, h2⟩ => ⟨n + 1, d2, m2, r, ?_, h2⟩⟩
  · cases n with
    | zero => cases h1
    | succ n => rw [mjRun, h] at h1; exact ⟨n, d2, m2, r, h1, h2⟩
  · rw [mjRun, h]; exact h1
theorem WP_ret {p0 : Nat} {l0 s0 : List MV} (h : mjStp M pc ls st ds m = some ((1, r), (p0, l0, s0, ds', m'))) : WP M pc ls st ds m Q = Q ds' m' r := by
  refine propext ⟨fun ⟨n, d2, m2, r, h1, h2⟩ => ?_, fun h2 => ⟨1, ds', m', r, ?_, h2⟩⟩
  · cases n with
    | zero => cases h1
    | succ n => rw [mjRun, h] at h1; cases h1; exact h2
  · rw [mjRun, h]
theorem WP_call {c : Nat} (h : mjStp M pc ls st ds m = some ((c + 2, as), (pc', ls', st', ds', m'))) : WP M pc ls st ds m Q = WP c 0 (mkL c as) [] ds' m' (fun d2 m2 r => WP M pc' ls' (r ++ st') d2 m2 Q) := by
  refine propext ⟨fun ⟨n, d2, m2, r, h1, h2⟩ => ?_, fun ⟨n, d2, m2, r, h1, k, d3, m3, r3, h3, h4⟩ => ⟨max n k + 1, d3, m3, r3, ?_, h4⟩⟩
  · cases n with
    | zero => cases h1
    | succ n =>
      rw [mjRun, h] at h1
      dsimp only at h1
      cases hc : mjRun n c 0 (mkL c as) [] ds' m' with
      | none => rw [hc] at h1; cases h1
      | some q2 =>
        obtain ⟨d3, m3, r3⟩ := q2
        rw [hc] at h1
        exact ⟨n, d3, m3, r3, hc, n, d2, m2, r, h1, h2⟩
  · rw [mjRun, h]
    dsimp only
    rw [mjRun_le h1 (Nat.le_max_left n k)]
    exact mjRun_le h3 (Nat.le_max_right n k)
end WPs
