/-! WHAT A WALK IS, apart from both sides. A walk is a list of cells, the latest first. -/
def addIf (v : Int32) (p : Nat → Bool) : Nat → Int32
  | 0 => 0
  | n + 1 => addIf v p n + (if p n = true then v else 0)
def bitsOf : List Nat → Int64
  | [] => 0
  | c :: l => bitsOf l ||| ((1 : Int64) <<< ((nI c).toInt64 &&& 63))
def wv (st fr : Nat → Int32) (l : List Nat) (c : Nat) : Int32 := if c ∈ l then st c else st c + fr c
def sel1 (w : Nat → Int32) (fm : Int32) (bm : Int32 × Int32) (c : Nat) : Int32 × Int32 := if nI c = fm then bm else if bm.1 = -1 then (nI c, w c) else if w c ≤ bm.2 then bm else (nI c, w c)
def selB (w : Nat → Int32) (fm : Int32) (L : List Nat) : Int32 × Int32 := L.foldl (sel1 w fm) (-1, 0)
def sel (w : Nat → Int32) (fm : Int32) (L : List Nat) : Int32 := if (selB w fm L).1 = -1 then fm else (selB w fm L).1
def fromOf : List Nat → Int32
  | _ :: f :: _ => nI f
  | _ => -1
def nxt (W C : Nat) (wl st fr : Nat → Int32) (l : List Nat) : Int32 := sel (wv st fr l) (fromOf l) (nbs W C wl (l.headD 0))
def walkF (W C : Nat) (wl st fr : Nat → Int32) : Nat → List Nat → List Nat
  | 0, l => l
  | k + 1, l => if l.headD 0 % W + 1 < W then (if nxt W C wl st fr l = -1 then l else walkF W C wl st fr k ((nxt W C wl st fr l).toNatClampNeg :: l)) else l
def night1 (W C : Nat) (wl : Nat → Int32) (F : List Nat) (go : Prop) [Decidable go] (st fr : Nat → Int32) : List Nat :=
  if go then (if F = [] then [] else walkF W C wl st fr 24 F) else []
def stP (a : Nat → Int32) (prev : List Nat) (c : Nat) : Int32 := a c + (if c ∈ prev then 1 else 0)
def nightL (W C : Nat) (wl : Nat → Int32) (F : List Nat) (fz : Nat) (a b : Nat → Nat → Int32) : Nat → List Nat
  | 0 => night1 W C wl F (0 < fz) (stP (a 0) []) (b 0)
  | n + 1 => night1 W C wl F (n + 1 < fz) (stP (a (n + 1)) (nightL W C wl F fz a b n)) (b (n + 1))
def lineF (W : Nat) (base : Nat → Int32) : List Nat → Nat → Int32
  | [] => base
  | c :: l => fun x => if x = c % W then nI (c / W) else lineF W base l x
def lineL (W C R : Nat) (wl : Nat → Int32) (F : List Nat) (fz : Nat) (a b : Nat → Nat → Int32) : Nat → Nat → Int32
  | 0 => lineF W (fun _ => nI (R / 2)) (nightL W C wl F fz a b 0)
  | n + 1 => lineF W (lineL W C R wl F fz a b n) (nightL W C wl F fz a b (n + 1))
/-! bits -/
theorem sh_r : ∀ c : Fin 36, ((nI c.1).toInt64.toUInt64 &&& Int64.toUInt64 63) = UInt64.ofNat c.1 := by decide
theorem sh_l : ∀ c : Fin 36, ((nI c.1).toInt64 &&& 63) = Int64.ofNat c.1 := by decide
def bitAt (x : Int64) (c : Nat) : Bool := x.toBitVec.getLsbD c
theorem lg_eq0 (x y : Int64) : lg_cmp x y = 0 ↔ x = y := by
  unfold lg_cmp
  by_cases h1 : x > y
  · rw [if_pos h1]
    constructor
    · intro h; exact absurd h (by decide)
    · intro h; rw [h] at h1; exact absurd h1 (by intro q; have q2 : y < y := q; rw [Int64.lt_iff_toInt_lt] at q2; omega)
  · rw [if_neg h1]
    by_cases h2 : x = y
    · rw [if_pos h2]; exact ⟨fun _ => h2, fun _ => rfl⟩
    · rw [if_neg h2]; exact ⟨fun h => absurd h (by decide), fun h => absurd h h2⟩
theorem bit_test (x : Int64) {c : Nat} (hc : c < 36) : lg_cmp (((x.toUInt64 >>> ((nI c).toInt64.toUInt64 &&& Int64.toUInt64 63)).toInt64) &&& (1 : Int64)) (1 : Int64) = 0 ↔ bitAt x c = true := by
  rw [lg_eq0, sh_r ⟨c, hc⟩]
  have e : (x.toUInt64 >>> UInt64.ofNat c).toInt64.toBitVec = x.toBitVec >>> c := by
    show (x.toUInt64 >>> UInt64.ofNat c).toBitVec = _
    rw [UInt64.toBitVec_shiftRight]
    show x.toUInt64.toBitVec >>> ((UInt64.ofNat c).toBitVec % 64) = _
    have : ((UInt64.ofNat c).toBitVec % 64).toNat = c := by
      rw [BitVec.toNat_umod]
      show (c % 2 ^ 64) % 64 = c
      omega
    rw [BitVec.ushiftRight_eq', this]; rfl
  constructor
  · intro h
    have h2 := congrArg Int64.toBitVec h
    rw [Int64.toBitVec_and, e] at h2
    have h3 := congrArg (fun v => BitVec.getLsbD v 0) h2
    simp only [BitVec.getLsbD_and, BitVec.getLsbD_ushiftRight] at h3
    have one : (Int64.toBitVec 1).getLsbD 0 = true := by decide
    rw [one, Bool.and_true, Nat.add_zero] at h3
    exact h3
  · intro h
    apply Int64.toBitVec_inj.mp
    rw [Int64.toBitVec_and, e]
    apply BitVec.eq_of_getLsbD_eq
    intro i hi
    rw [BitVec.getLsbD_and, BitVec.getLsbD_ushiftRight]
    have one : ∀ j : Fin 64, (Int64.toBitVec 1).getLsbD j.1 = decide (j.1 = 0) := by decide
    rw [one ⟨i, hi⟩]
    by_cases h0 : i = 0
    · subst h0; rw [Nat.add_zero]; show (bitAt x c && _) = _; rw [h]; rfl
    · have : decide (i = 0) = false := by simp [h0]
      simp [h0]
theorem bitAt_put (x : Int64) {c d : Nat} (hc : c < 36) (hd : d < 36) : bitAt (x ||| ((1 : Int64) <<< ((nI d).toInt64 &&& 63))) c = (bitAt x c || decide (c = d)) := by
  unfold bitAt
  rw [Int64.toBitVec_or, BitVec.getLsbD_or]
  have one : ∀ d c : Fin 36, ((1 : Int64) <<< ((nI d.1).toInt64 &&& 63)).toBitVec.getLsbD c.1 = decide (c.1 = d.1) := by decide
  rw [one ⟨d, hd⟩ ⟨c, hc⟩]
theorem bitsOf_mem : ∀ (l : List Nat), (∀ d ∈ l, d < 36) → ∀ {c : Nat}, c < 36 → (bitAt (bitsOf l) c = true ↔ c ∈ l) := by
  intro l
  induction l with
  | nil =>
    intro _ c hc
    have z : bitAt 0 c = false := by unfold bitAt; simp
    show bitAt 0 c = true ↔ _
    rw [z]; simp
  | cons d l ih =>
    intro h c hc
    show bitAt (bitsOf l ||| _) c = true ↔ _
    rw [bitAt_put _ hc (h d (List.mem_cons_self ..)), Bool.or_eq_true, ih (fun e he => h e (List.mem_cons_of_mem _ he)) hc, decide_eq_true_iff, List.mem_cons]
    exact Or.comm
