/-! counting bits -/
theorem lN_and (a b : Nat) : lN a &&& lN b = lN (a &&& b) := by
  apply Int64.toBitVec_inj.mp
  rw [Int64.toBitVec_and]
  apply BitVec.eq_of_toNat_eq
  show (BitVec.ofNat 64 a &&& BitVec.ofNat 64 b).toNat = (BitVec.ofNat 64 (a &&& b)).toNat
  rw [BitVec.toNat_and, BitVec.toNat_ofNat, BitVec.toNat_ofNat, BitVec.toNat_ofNat, Nat.and_mod_two_pow]
theorem lN_or (a b : Nat) : lN a ||| lN b = lN (a ||| b) := by
  apply Int64.toBitVec_inj.mp
  rw [Int64.toBitVec_or]
  apply BitVec.eq_of_toNat_eq
  show (BitVec.ofNat 64 a ||| BitVec.ofNat 64 b).toNat = (BitVec.ofNat 64 (a ||| b)).toNat
  rw [BitVec.toNat_or, BitVec.toNat_ofNat, BitVec.toNat_ofNat, BitVec.toNat_ofNat, Nat.or_mod_two_pow]
theorem lN_ushr {a : Nat} (ha : a < 2 ^ 63) {k : Nat} (hk : k < 64) {y : UInt64} (hy : y = UInt64.ofNat k) : ((lN a).toUInt64 >>> y).toInt64 = lN (a / 2 ^ k) := by
  subst hy
  apply Int64.toBitVec_inj.mp
  show ((lN a).toUInt64 >>> UInt64.ofNat k).toBitVec = _
  rw [UInt64.toBitVec_shiftRight]
  show (BitVec.ofNat 64 a) >>> ((UInt64.ofNat k).toBitVec % 64) = BitVec.ofNat 64 (a / 2 ^ k)
  have e : ((UInt64.ofNat k).toBitVec % 64).toNat = k := by
    rw [BitVec.toNat_umod]
    show (k % 2 ^ 64) % 64 = k
    omega
  rw [BitVec.ushiftRight_eq', e]
  apply BitVec.eq_of_toNat_eq
  rw [BitVec.toNat_ushiftRight, BitVec.toNat_ofNat, BitVec.toNat_ofNat, Nat.shiftRight_eq_div_pow, Nat.mod_eq_of_lt (by omega), Nat.mod_eq_of_lt]
  exact Nat.lt_of_le_of_lt (Nat.div_le_self _ _) (by omega)
def popF : Nat → Nat → Nat
  | 0, _ => 0
  | k + 1, n => n % 2 + popF k (n / 2)
theorem popF_more : ∀ (k n : Nat), n < 2 ^ k → popF (k + 1) n = popF k n := by
  intro k
  induction k with
  | zero => intro n h; rw [show n = 0 by simpa using h]; rfl
  | succ k ih =>
    intro n h
    show n % 2 + popF (k + 1) (n / 2) = n % 2 + popF k (n / 2)
    rw [ih (n / 2) (by rw [Nat.pow_succ] at h; omega)]
theorem and_half (a b : Nat) : (a &&& b) / 2 = (a / 2) &&& (b / 2) := by
  have h := Nat.shiftRight_and_distrib (a := a) (b := b) (i := 1)
  simpa [Nat.shiftRight_eq_div_pow] using h
theorem and_odd (a b : Nat) : (a &&& b) % 2 = (a % 2) &&& (b % 2) := by
  have h := Nat.and_mod_two_pow (a := a) (b := b) (n := 1)
  simpa using h
/-- the lowest bit taken away -/
theorem popF_drop : ∀ (k n : Nat), n < 2 ^ k → 0 < n → popF k n = popF k (n &&& (n - 1)) + 1 := by
  intro k
  induction k with
  | zero => intro n h h0; omega
  | succ k ih =>
    intro n h h0
    show n % 2 + popF k (n / 2) = (n &&& (n - 1)) % 2 + popF k ((n &&& (n - 1)) / 2) + 1
    rw [and_half, and_odd]
    rcases (show n % 2 = 1 ∨ n % 2 = 0 by omega) with q | q
    · rw [q, show (n - 1) % 2 = 0 by omega, show (n - 1) / 2 = n / 2 by omega, Nat.and_self]
      show 1 + popF k (n / 2) = 0 + popF k (n / 2) + 1
      omega
    · rw [q, show (n - 1) % 2 = 1 by omega, show (n - 1) / 2 = n / 2 - 1 by omega, ih (n / 2) (by rw [Nat.pow_succ] at h; omega) (by omega)]
      show 0 + _ = 0 + _ + 1
      omega
theorem popF_8 {d X : Nat} (k : Nat) (hd : d < 256) : popF (k + 8) (d + 256 * X) = popF 8 d + popF k X := by
  show (d + 256 * X) % 2 + ((d + 256 * X) / 2 % 2 + ((d + 256 * X) / 2 / 2 % 2 + ((d + 256 * X) / 2 / 2 / 2 % 2 + ((d + 256 * X) / 2 / 2 / 2 / 2 % 2 + ((d + 256 * X) / 2 / 2 / 2 / 2 / 2 % 2 + ((d + 256 * X) / 2 / 2 / 2 / 2 / 2 / 2 % 2 + ((d + 256 * X) / 2 / 2 / 2 / 2 / 2 / 2 / 2 % 2 + popF k ((d + 256 * X) / 2 / 2 / 2 / 2 / 2 / 2 / 2 / 2)))))))) = d % 2 + (d / 2 % 2 + (d / 2 / 2 % 2 + (d / 2 / 2 / 2 % 2 + (d / 2 / 2 / 2 / 2 % 2 + (d / 2 / 2 / 2 / 2 / 2 % 2 + (d / 2 / 2 / 2 / 2 / 2 / 2 % 2 + (d / 2 / 2 / 2 / 2 / 2 / 2 / 2 % 2 + 0))))))) + popF k X
  rw [show (d + 256 * X) / 2 / 2 / 2 / 2 / 2 / 2 / 2 / 2 = X by omega]
  generalize popF k X = z
  omega
theorem land8 {p r : Nat} (q s : Nat) (hp : p < 256) (hr : r < 256) : (p + 256 * q) &&& (r + 256 * s) = (p &&& r) + 256 * (q &&& s) := by
  have h1 := Nat.and_mod_two_pow (a := p + 256 * q) (b := r + 256 * s) (n := 8)
  have h2 := Nat.shiftRight_and_distrib (a := p + 256 * q) (b := r + 256 * s) (i := 8)
  rw [Nat.shiftRight_eq_div_pow, Nat.shiftRight_eq_div_pow, Nat.shiftRight_eq_div_pow] at h2
  rw [show (2 : Nat) ^ 8 = 256 by decide] at h1 h2
  rw [show (p + 256 * q) % 256 = p by omega, show (r + 256 * s) % 256 = r by omega] at h1
  rw [show (p + 256 * q) / 256 = q by omega, show (r + 256 * s) / 256 = s by omega] at h2
  have h3 := Nat.mod_add_div ((p + 256 * q) &&& (r + 256 * s)) 256
  rw [h1, h2] at h3
  exact h3.symm
theorem by1 : ∀ b : Fin 256, ∀ c : Fin 2, ((b.1 / 2 + 128 * c.1) &&& 85) = (b.1 / 2) &&& 85 := by decide +kernel
theorem by1' : ∀ b : Fin 256, ((b.1 / 2) &&& 85) ≤ b.1 := by decide +kernel
theorem by2 : ∀ b : Fin 256, ∀ c : Fin 4, ((b.1 / 4 + 64 * c.1) &&& 51) = (b.1 / 4) &&& 51 := by decide +kernel
def by_e (b : Nat) : Nat := b - ((b / 2) &&& 85)
def by_g (b : Nat) : Nat := (by_e b &&& 51) + ((by_e b / 4) &&& 51)
theorem by3 : ∀ b : Fin 256, by_e b.1 < 256 ∧ by_g b.1 / 16 ≤ 4 ∧ by_g b.1 % 16 ≤ 4 ∧ by_g b.1 % 16 + by_g b.1 / 16 = popF 8 b.1 := by decide +kernel
