/-! the reference's run: works -/
def mSp1 (g : Mm) (c s i o : Int) : Mm := if o = s then g else mAdd g (g 70 26 + 1) (nxt c o) (opp o) i 0
def mSpl (g : Mm) (c s i : Int) : Mm := mSp1 (mSp1 (mSp1 (mSp1 g c s i 0) c s i 1) c s i 2) c s i 3
/-- a bell rings; x: its place in its bank -/
def mRing (g : Mm) (x i : Int) : Mm :=
  let h := if g 105 x = 0 then up (up g 103 x (g 70 26)) 104 x i else g
  up (up h 105 x (g 105 x + 1)) 101 (6 * g 70 45 + 4) (g 101 (6 * g 70 45 + 4) + 1)
def mTm (g : Mm) (c : Int) : Mm := up g 93 c (g 93 c + 1)
def mWork (g : Mm) (c s i : Int) : Mm :=
  if g 72 c = 1 then (if g 94 c = 0 ∧ s % 2 = g 73 c then mAdd (up (mTm g c) 94 c 1) (g 70 26 + 2) (nxt c (opp s)) s i 1 else mTm g c)
  else if g 72 c = 2 then (if s = g 73 c then mTm g c else mLead (mTm g c) c 1 i)
  else if g 72 c = 3 then (if g 93 c = 0 ∧ mTm g c 93 (g 75 c) = 0 then mLead (mTm g c) (g 75 c) 1 i else mTm g c)
  else if g 72 c = 4 then (if g 93 c = 0 then mLead (mTm g c) c (g 74 c) i else mTm g c)
  else if g 72 c = 5 then (if g 93 c = 0 then mSpl (mTm g c) c s i else mTm g c)
  else if g 72 c = 6 then (if g 93 c + 1 = g 74 c then mLead (mTm g c) c 1 i else mTm g c)
  else if g 72 c = 7 then up (mTm g c) 94 c 1
  else if g 72 c = 8 then mRing (mTm g c) (96 * g 70 45 + c) i
  else mTm g c
