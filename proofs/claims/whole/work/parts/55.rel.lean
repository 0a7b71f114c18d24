/-! THE RELATION between the class's comps and the reference's -/
def RText (cap off : Nat) (len : Int32) (bt : Nat → Int32) (mlen : Int32) (mbt : Nat → Int32) : Prop := ∃ n : Nat, n ≤ cap ∧ len = nI n ∧ mlen = nI n ∧ ∀ k, k < n → mbt (off + k) = bt k
/-- the land as the class understood it, out of the text as it stands -/
def RLand (len : Int32) (bt : Nat → Int32) (flaw cells cols rows : Int32) (kinds rowAt colAt ways beside : Nat → Int32) : Prop :=
  ∃ (f0 c0 w0 r0 : Int32) (k0 ra0 ca0 wy0 be0 : Nat → Int32), f_X3_understand 41 f0 c0 w0 r0 k0 ra0 ca0 wy0 be0 len bt = some (flaw, cells, cols, rows, kinds, rowAt, colAt, ways, beside)
def RHouse (len : Int32) (bt : Nat → Int32) (flaw num : Int32) (places dues : Nat → Int32) : Prop :=
  ∃ (f0 n0 : Int32) (p0 d0 : Nat → Int32), f_X1_understand 31 f0 n0 p0 d0 len bt = some (flaw, num, places, dues)
def RMark (num : Int32) (nights things : Nat → Int32) (mnum : Int32) (mm : Nat → Int32) : Prop :=
  ∃ n : Nat, n ≤ 8 ∧ num = nI n ∧ mnum = nI n ∧ ∀ i, i < n → mm (2 * i) = nights i ∧ mm (2 * i + 1) = things i ∧ (∃ a : Nat, a ≤ 9 ∧ nights i = nI a) ∧ (∃ c : Nat, c ≤ 35 ∧ things i = nI c)
def RSight (num : Int32) (nights things realms : Nat → Int32) (mnum : Int32) (mm : Nat → Int32) : Prop :=
  ∃ n : Nat, n ≤ 8 ∧ num = nI n ∧ mnum = nI n ∧ ∀ i, i < n → mm (3 * i) = nights i ∧ mm (3 * i + 1) = things i ∧ mm (3 * i + 2) = realms i ∧ (∃ a : Nat, a ≤ 9 ∧ nights i = nI a) ∧ (∃ c : Nat, c ≤ 7 ∧ things i = nI c) ∧ (∃ c : Nat, c ≤ 2 ∧ realms i = nI c)
def RSet (start frost present raked : Int32) (set : Nat → Int32) (gone : Int32) : Prop :=
  (∃ a : Nat, a ≤ 5 ∧ start = nI a ∧ set 0 = nI a) ∧ (∃ a : Nat, a ≤ 10 ∧ frost = nI a ∧ set 1 = nI a) ∧ present = -1 ∧ raked = -1 ∧ gone = 0
/-- sheet number s -/
def RSheet (s : Nat) (lost form size : Int32) (items : Nat → Int32) (forms sizes its : Nat → Int32) : Prop :=
  (lost = 1 ∧ forms s = -1) ∨ (lost = 0 ∧ (∃ f : Nat, f ≤ 2 ∧ form = nI f ∧ forms s = nI f) ∧ ∃ n : Nat, n ≤ 60 ∧ size = nI n ∧ sizes s = nI n ∧ ∀ i, i < n → its (60 * s + i) = items i)
def RSheets (xi : Nat → Int32) (xa : Nat → Nat → Int32) (forms sizes its : Nat → Int32) : Prop :=
  RSheet 0 (xi 24) (xi 25) (xi 26) (xa 29) forms sizes its ∧ RSheet 1 (xi 27) (xi 28) (xi 29) (xa 30) forms sizes its ∧ RSheet 2 (xi 30) (xi 31) (xi 32) (xa 31) forms sizes its ∧ RSheet 3 (xi 33) (xi 34) (xi 35) (xa 32) forms sizes its
/-- walks are stale, or as they come out now -/
def RWalk (xi : Nat → Int32) (xa : Nat → Nat → Int32) (xm : Nat → Nat → Int64) : Prop :=
  xi 0 = 1 ∨ (xi 0 = 0 ∧ ∃ (s0 f0 t0 g0 : Nat → Int32) (d0 : Nat → Int64) (l0 : Nat → Int32), f_X7_walkNights (xi 5) (xi 6) (xi 7) (xa 2) (xa 3) (xa 4) (xa 5) (xa 6) (xi 10) (xa 9) (xa 10) (xi 11) (xa 12) (xa 13) (xi 13) (xi 14) (xi 15) (xi 16) s0 f0 t0 g0 d0 l0 9 = some (xa 18, xa 19, xa 20, xa 21, xm 0, xa 22))
def Rel (xi : Nat → Int32) (xa : Nat → Nat → Int32) (xl : Nat → Int64) (xm : Nat → Nat → Int64) (mi : Nat → Int32) (ma : Nat → Nat → Int32) : Prop :=
  RText 41 0 (xi 2) (xa 0) (ma 5 0) (ma 4) ∧ RText 31 42 (xi 3) (xa 1) (ma 5 1) (ma 4) ∧
  RLand (xi 2) (xa 0) (xi 4) (xi 5) (xi 6) (xi 7) (xa 2) (xa 3) (xa 4) (xa 5) (xa 6) ∧
  RHouse (xi 3) (xa 1) (xi 8) (xi 9) (xa 7) (xa 8) ∧
  RMark (xi 10) (xa 9) (xa 10) (mi 4) (ma 9) ∧ RMark (xi 11) (xa 12) (xa 13) (mi 5) (ma 10) ∧
  RSight (xi 12) (xa 15) (xa 16) (xa 17) (mi 7) (ma 14) ∧
  RSet (xi 13) (xi 14) (xi 15) (xi 16) (ma 8) (mi 6) ∧
  xi 1 = mi 0 ∧ RSheets xi xa (ma 0) (ma 1) (ma 2) ∧ RWalk xi xa xm
