theorem land_low {p r : Nat} (s : Nat) (hp : p < 256) (hr : r < 256) : p &&& (r + 256 * s) = p &&& r := by
  have h := land8 0 s hp hr
  rw [Nat.mul_zero, Nat.add_zero, Nat.zero_and, Nat.mul_zero, Nat.add_zero] at h
  exact h
theorem i2_127 (v : Nat) : (lN v).toInt32 &&& (127 : Int32) = nI (v % 128) := by
  rw [lN_i, pk_and (nI v) (m := 127) 7 (by decide)]
  refine congrArg nI ?_
  show v % 2 ^ 32 % 2 ^ 7 = v % 128
  omega
theorem c_5 : (6148914691236517205 : Int64) = lN (85 + 256 * (85 + 256 * (85 + 256 * (85 + 256 * (85 + 256 * 5592405))))) := by decide +kernel
theorem c_3 : (3689348814741910323 : Int64) = lN (51 + 256 * (51 + 256 * (51 + 256 * (51 + 256 * (51 + 256 * 3355443))))) := by decide +kernel
theorem c_f : (1085102592571150095 : Int64) = lN (15 + 256 * (15 + 256 * (15 + 256 * (15 + 256 * (15 + 256 * 986895))))) := by decide +kernel
def five (a b c d e : Nat) : Nat := a + 256 * (b + 256 * (c + 256 * (d + 256 * e)))
theorem five_and (a b c d e m s : Nat) (ha : a < 256) (hb : b < 256) (hc : c < 256) (hd : d < 256) (he : e < 256) (hm : m < 256) : five a b c d e &&& (m + 256 * (m + 256 * (m + 256 * (m + 256 * (m + 256 * s))))) = five (a &&& m) (b &&& m) (c &&& m) (d &&& m) (e &&& m) := by
  unfold five
  rw [land8 _ _ ha hm, land8 _ _ hb hm, land8 _ _ hc hm, land8 _ _ hd hm, land_low _ he hm]
theorem sw1 {b0 b1 b2 b3 b4 : Nat} (h0 : b0 < 256) (h1 : b1 < 256) (h2 : b2 < 256) (h3 : b3 < 256) (h4 : b4 < 16) : lN (five b0 b1 b2 b3 b4) - (((lN (five b0 b1 b2 b3 b4)).toUInt64 >>> ((1 : Int32).toInt64.toUInt64 &&& Int64.toUInt64 63)).toInt64 &&& (6148914691236517205 : Int64)) = lN (five (by_e b0) (by_e b1) (by_e b2) (by_e b3) (by_e b4)) := by
  have e : five b0 b1 b2 b3 b4 / 2 ^ 1 = five (b0 / 2 + 128 * (b1 % 2)) (b1 / 2 + 128 * (b2 % 2)) (b2 / 2 + 128 * (b3 % 2)) (b3 / 2 + 128 * (b4 % 2)) (b4 / 2) := by unfold five; omega
  rw [lN_ushr (k := 1) (by unfold five; omega) (by decide) (by decide), c_5, lN_and, e, five_and _ _ _ _ _ _ _ (by omega) (by omega) (by omega) (by omega) (by omega) (by omega), by1 ⟨b0, h0⟩ ⟨b1 % 2, by omega⟩, by1 ⟨b1, h1⟩ ⟨b2 % 2, by omega⟩, by1 ⟨b2, h2⟩ ⟨b3 % 2, by omega⟩, by1 ⟨b3, h3⟩ ⟨b4 % 2, by omega⟩]
  have k0 := by1' ⟨b0, h0⟩
  have k1 := by1' ⟨b1, h1⟩
  have k2 := by1' ⟨b2, h2⟩
  have k3 := by1' ⟨b3, h3⟩
  have k4 := by1' ⟨b4, by omega⟩
  dsimp only at k0 k1 k2 k3 k4 ⊢
  unfold by_e five
  generalize (b0 / 2) &&& 85 = w0 at *
  generalize (b1 / 2) &&& 85 = w1 at *
  generalize (b2 / 2) &&& 85 = w2 at *
  generalize (b3 / 2) &&& 85 = w3 at *
  generalize (b4 / 2) &&& 85 = w4 at *
  rw [lN_sub (by omega)]
  exact congrArg lN (by omega)
theorem sw2 {e0 e1 e2 e3 e4 : Nat} (h0 : e0 < 256) (h1 : e1 < 256) (h2 : e2 < 256) (h3 : e3 < 256) (h4 : e4 < 256) : (lN (five e0 e1 e2 e3 e4) &&& (3689348814741910323 : Int64)) + (((lN (five e0 e1 e2 e3 e4)).toUInt64 >>> ((2 : Int32).toInt64.toUInt64 &&& Int64.toUInt64 63)).toInt64 &&& (3689348814741910323 : Int64)) = lN (five ((e0 &&& 51) + ((e0 / 4) &&& 51)) ((e1 &&& 51) + ((e1 / 4) &&& 51)) ((e2 &&& 51) + ((e2 / 4) &&& 51)) ((e3 &&& 51) + ((e3 / 4) &&& 51)) ((e4 &&& 51) + ((e4 / 4) &&& 51))) := by
  have e : five e0 e1 e2 e3 e4 / 2 ^ 2 = five (e0 / 4 + 64 * (e1 % 4)) (e1 / 4 + 64 * (e2 % 4)) (e2 / 4 + 64 * (e3 % 4)) (e3 / 4 + 64 * (e4 % 4)) (e4 / 4) := by unfold five; omega
  rw [lN_ushr (k := 2) (by unfold five; omega) (by decide) (by decide), c_3, lN_and, lN_and, e, five_and _ _ _ _ _ _ _ h0 h1 h2 h3 h4 (by omega), five_and _ _ _ _ _ _ _ (by omega) (by omega) (by omega) (by omega) (by omega) (by omega), by2 ⟨e0, h0⟩ ⟨e1 % 4, by omega⟩, by2 ⟨e1, h1⟩ ⟨e2 % 4, by omega⟩, by2 ⟨e2, h2⟩ ⟨e3 % 4, by omega⟩, by2 ⟨e3, h3⟩ ⟨e4 % 4, by omega⟩, lN_add]
  dsimp only
  unfold five
  generalize (e0 / 4) &&& 51 = w0
  generalize (e1 / 4) &&& 51 = w1
  generalize (e2 / 4) &&& 51 = w2
  generalize (e3 / 4) &&& 51 = w3
  generalize (e4 / 4) &&& 51 = w4
  generalize e0 &&& 51 = u0
  generalize e1 &&& 51 = u1
  generalize e2 &&& 51 = u2
  generalize e3 &&& 51 = u3
  generalize e4 &&& 51 = u4
  exact congrArg lN (by omega)
theorem sw3 {g0 g1 g2 g3 g4 : Nat} (h0 : g0 / 16 ≤ 4 ∧ g0 % 16 ≤ 4) (h1 : g1 / 16 ≤ 4 ∧ g1 % 16 ≤ 4) (h2 : g2 / 16 ≤ 4 ∧ g2 % 16 ≤ 4) (h3 : g3 / 16 ≤ 4 ∧ g3 % 16 ≤ 4) (h4 : g4 / 16 ≤ 4 ∧ g4 % 16 ≤ 4) : (lN (five g0 g1 g2 g3 g4) + ((lN (five g0 g1 g2 g3 g4)).toUInt64 >>> ((4 : Int32).toInt64.toUInt64 &&& Int64.toUInt64 63)).toInt64) &&& (1085102592571150095 : Int64) = lN (five (g0 % 16 + g0 / 16) (g1 % 16 + g1 / 16) (g2 % 16 + g2 / 16) (g3 % 16 + g3 / 16) (g4 % 16 + g4 / 16)) := by
  have e : five g0 g1 g2 g3 g4 + five g0 g1 g2 g3 g4 / 2 ^ 4 = five (g0 + g0 / 16 + 16 * (g1 % 16)) (g1 + g1 / 16 + 16 * (g2 % 16)) (g2 + g2 / 16 + 16 * (g3 % 16)) (g3 + g3 / 16 + 16 * (g4 % 16)) (g4 + g4 / 16) := by unfold five; omega
  have m15 : ∀ z : Nat, z &&& 15 = z % 16 := fun z => Nat.and_two_pow_sub_one_eq_mod z 4
  rw [lN_ushr (k := 4) (by unfold five; omega) (by decide) (by decide), lN_add, c_f, lN_and, e, five_and _ _ _ _ _ _ _ (by omega) (by omega) (by omega) (by omega) (by omega) (by omega), m15, m15, m15, m15, m15, show (g0 + g0 / 16 + 16 * (g1 % 16)) % 16 = g0 % 16 + g0 / 16 by omega, show (g1 + g1 / 16 + 16 * (g2 % 16)) % 16 = g1 % 16 + g1 / 16 by omega, show (g2 + g2 / 16 + 16 * (g3 % 16)) % 16 = g2 % 16 + g2 / 16 by omega, show (g3 + g3 / 16 + 16 * (g4 % 16)) % 16 = g3 % 16 + g3 / 16 by omega, show (g4 + g4 / 16) % 16 = g4 % 16 + g4 / 16 by omega]
theorem count64 {B : Nat} (hB : B < 2 ^ 36) : f_J13_bitCount_95d88 (lN B) = some (nI (popF 40 B)) := by
  obtain ⟨b0, b1, b2, b3, b4, h0, h1, h2, h3, h4, rfl⟩ : ∃ b0 b1 b2 b3 b4, b0 < 256 ∧ b1 < 256 ∧ b2 < 256 ∧ b3 < 256 ∧ b4 < 16 ∧ B = five b0 b1 b2 b3 b4 := ⟨B % 256, B / 256 % 256, B / 65536 % 256, B / 16777216 % 256, B / 4294967296, by omega, by omega, by omega, by omega, by omega, by unfold five; omega⟩
  have pp : popF 40 (five b0 b1 b2 b3 b4) = popF 8 b0 + (popF 8 b1 + (popF 8 b2 + (popF 8 b3 + popF 8 b4))) := by
    unfold five
    rw [popF_8 32 h0, popF_8 24 h1, popF_8 16 h2, popF_8 8 h3]
  obtain ⟨e0, g0, x0, y0⟩ := by3 ⟨b0, h0⟩
  obtain ⟨e1, g1, x1, y1⟩ := by3 ⟨b1, h1⟩
  obtain ⟨e2, g2, x2, y2⟩ := by3 ⟨b2, h2⟩
  obtain ⟨e3, g3, x3, y3⟩ := by3 ⟨b3, h3⟩
  obtain ⟨e4, g4, x4, y4⟩ := by3 ⟨b4, by omega⟩
  dsimp only at e0 g0 x0 y0 e1 g1 x1 y1 e2 g2 x2 y2 e3 g3 x3 y3 e4 g4 x4 y4
  have s2 := sw2 e0 e1 e2 e3 e4
  have s3 := sw3 ⟨g0, x0⟩ ⟨g1, x1⟩ ⟨g2, x2⟩ ⟨g3, x3⟩ ⟨g4, x4⟩
  rw [y0, y1, y2, y3, y4] at s3
  rw [pp]
  unfold f_J13_bitCount_95d88
  rw [letv_def, sw1 h0 h1 h2 h3 h4, letv_def, s2, letv_def]
  rw [show five ((by_e b0 &&& 51) + ((by_e b0 / 4) &&& 51)) ((by_e b1 &&& 51) + ((by_e b1 / 4) &&& 51)) ((by_e b2 &&& 51) + ((by_e b2 / 4) &&& 51)) ((by_e b3 &&& 51) + ((by_e b3 / 4) &&& 51)) ((by_e b4 &&& 51) + ((by_e b4 / 4) &&& 51)) = five (by_g b0) (by_g b1) (by_g b2) (by_g b3) (by_g b4) from rfl, s3, letv_def, letv_def, letv_def]
  have u0 : popF 8 b0 ≤ 8 := by omega
  have u1 : popF 8 b1 ≤ 8 := by omega
  have u2 : popF 8 b2 ≤ 8 := by omega
  have u3 : popF 8 b3 ≤ 8 := by omega
  have u4 : popF 8 b4 ≤ 8 := by omega
  clear y0 y1 y2 y3 y4 pp s2 s3
  generalize popF 8 b0 = c0 at *
  generalize popF 8 b1 = c1 at *
  generalize popF 8 b2 = c2 at *
  generalize popF 8 b3 = c3 at *
  generalize popF 8 b4 = c4 at *
  unfold five
  rw [lN_ushr (k := 8) (by omega) (by decide) (by decide), lN_add, lN_ushr (k := 16) (by omega) (by decide) (by decide), lN_add, lN_ushr (k := 32) (by omega) (by decide) (by decide), lN_add, i2_127]
  have d1 : (c0 + 256 * (c1 + 256 * (c2 + 256 * (c3 + 256 * c4)))) / 2 ^ 8 = c1 + 256 * (c2 + 256 * (c3 + 256 * c4)) := by omega
  rw [d1]
  have d2 : (c0 + 256 * (c1 + 256 * (c2 + 256 * (c3 + 256 * c4))) + (c1 + 256 * (c2 + 256 * (c3 + 256 * c4)))) / 2 ^ 16 = c2 + c3 + 256 * (c3 + c4) + 65536 * c4 := by omega
  rw [d2]
  have d3 : (c0 + 256 * (c1 + 256 * (c2 + 256 * (c3 + 256 * c4))) + (c1 + 256 * (c2 + 256 * (c3 + 256 * c4))) + (c2 + c3 + 256 * (c3 + c4) + 65536 * c4)) / 2 ^ 32 = c4 := by omega
  rw [d3]
  exact congrArg (fun z => some (nI z)) (by omega)
theorem bit36 : ∀ c : Fin 36, ((1 : Int64) <<< ((nI c.1).toInt64 &&& 63)) = lN (2 ^ c.1) := by decide +kernel
theorem count_loop {B : Nat} (hB : B < 2 ^ 36) : loopF (fun q : Int32 × Int64 => f_X9_roamOf_L118 q.1 q.2) FU (0, lN B) = some (nI (popF 40 B)) := by
  have le : ∀ k n, popF k n ≤ k := by
    intro k
    induction k with
    | zero => intro n; exact Nat.le_refl _
    | succ k ih => intro n; show n % 2 + popF k (n / 2) ≤ k + 1; have := ih (n / 2); omega
  obtain ⟨x, h1, h2⟩ := loopF_run (body := fun q : Int32 × Int64 => f_X9_roamOf_L118 q.1 q.2) (fun m q => ∃ k X : Nat, X < 2 ^ 36 ∧ popF 40 X = m ∧ m + k = popF 40 B ∧ q = (nI k, lN X)) (fun x => x = nI (popF 40 B)) (by
    rintro m q ⟨k, X, hX, hm, hk, rfl⟩
    dsimp only
    unfold f_X9_roamOf_L118
    by_cases h0 : X = 0
    · left
      subst h0
      refine ⟨nI k, by rw [show (0 : Int64) = lN 0 from rfl, if_pos ((lg_eq0 _ _).mpr rfl)], ?_⟩
      have : popF 40 0 = 0 := by decide
      rw [← hk, ← hm, this, Nat.zero_add]
    · right
      have hp := popF_drop 40 X (by omega) (by omega)
      rw [show (0 : Int64) = lN 0 from rfl, if_neg (fun q => h0 ((pk_lEQ (by omega) (by decide)).mp ((lg_eq0 _ _).mp q))), letv_def, show (1 : Int64) = lN 1 from rfl, lN_sub (by omega), lN_and, show nI k + 1 = nI (k + 1) from nI_1 _]
      exact ⟨_, popF 40 (X &&& (X - 1)), by omega, rfl, k + 1, X &&& (X - 1), Nat.lt_of_le_of_lt Nat.and_le_left hX, rfl, by omega, rfl⟩) FU (popF 40 B) (0, lN B) ⟨0, B, hB, rfl, by omega, rfl⟩ (by have := FU_big; have := le 40 B; omega)
  rw [h1, h2]
/-- the upper half of a lot -/
def hiN (v : Int32) : Nat := v.toUInt32.toNat / 65536
theorem hi_eq (v : Int32) : (v.toUInt32 >>> ((16 : Int32).toUInt32 &&& Int32.toUInt32 31)).toInt32 = nI (hiN v) ∧ hiN v < 65536 := by
  have hlt : v.toUInt32.toNat < 2 ^ 32 := v.toUInt32.toNat_lt
  have e : ((16 : Int32).toUInt32 &&& Int32.toUInt32 31) = 16 := by decide
  refine ⟨?_, by unfold hiN; omega⟩
  rw [e]
  apply Int32.toBitVec_inj.mp
  apply BitVec.eq_of_toNat_eq
  show (v.toUInt32 >>> 16).toNat = (BitVec.ofNat 32 (hiN v)).toNat
  rw [UInt32.toNat_shiftRight, BitVec.toNat_ofNat]
  show v.toUInt32.toNat >>> (16 % 32) = hiN v % 2 ^ 32
  rw [Nat.shiftRight_eq_div_pow, show 2 ^ (16 % 32) = 65536 from by decide]
  unfold hiN
  omega
