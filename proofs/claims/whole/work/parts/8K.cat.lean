variable {C W R N nb nd ns a f : Nat} {kinds rowAt colAt ways beside places dues bn bt dn dt sn sh sr mc mh ms mb md mg : Nat → Int32}
theorem power_eq {c k : Nat} (hk : k ≤ 100) : f_X8_power (lN c) (nI k) = some (lN (c ^ k)) := by
  have e : loopF (fun q : Int64 × Int32 => f_X8_power_L5 (lN c) (nI k) q.1 q.2) FU (1, 0) = some (lN (c ^ k)) := by
    refine loop_for (fun i => (lN (c ^ i), nI i)) k (fun i hi => ?_) ?_ (by omega)
    · dsimp only
      unfold f_X8_power_L5
      rw [if_neg (by rw [nI_le_i (by omega) (by omega)]; omega), letv_def, lN_mul, ← Nat.pow_succ, show nI i + 1 = nI (i + 1) from nI_1 _]
    · dsimp only
      unfold f_X8_power_L5
      rw [if_pos (by rw [nI_le_i (by omega) (by omega)]; omega)]
  unfold f_X8_power
  rw [e]; rfl
theorem fill8 (t : Nat → Int64) : ∃ g, f_J7_fill_d0a16 8 t 0 = some g ∧ ∀ i, i < 8 → g i = 0 := by
  obtain ⟨x, h1, h2⟩ := loop_inv (body := fun q : Int32 × (Nat → Int64) => f_J7_fill_d0a16_L6 8 0 (nI 8) q.1 q.2) (fun k q => q.1 = nI k ∧ ∀ i, i < k → q.2 i = 0) (fun g => ∀ i, i < 8 → g i = 0) 8 (by
    rintro k ⟨q1, q2⟩ hk ⟨e1, e2⟩
    dsimp only at e1 e2
    subst e1
    left
    dsimp only
    unfold f_J7_fill_d0a16_L6
    rw [if_neg (by rw [nI_le_i (by omega) (by omega)]; omega), gd_t (inb_n (by omega) (by omega)), tnN (by omega), show nI k + 1 = nI (k + 1) from nI_1 _]
    refine ⟨_, rfl, rfl, fun i hi => ?_⟩
    dsimp only
    by_cases e : i = k
    · rw [e, updL_at]
    · rw [updL_ne _ _ e]; exact e2 i (by omega)) (by
    rintro ⟨q1, q2⟩ ⟨e1, e2⟩
    dsimp only at e1 e2
    subst e1
    dsimp only
    unfold f_J7_fill_d0a16_L6
    rw [if_pos (by decide)]
    exact ⟨_, rfl, e2⟩) (by omega) (q := (0, t)) ⟨rfl, fun i hi => absurd hi (Nat.not_lt_zero _)⟩
  refine ⟨x, ?_, h2⟩
  unfold f_J7_fill_d0a16
  rw [letv_def, show Int32.ofNat 8 = nI 8 from rfl, h1]; rfl
/-! bits of bowls -/
def bitsN (p : Nat → Bool) : Nat → Nat
  | 0 => 0
  | k + 1 => bitsN p k + (if p k = true then 2 ^ k else 0)
theorem bitsN_lt (p : Nat → Bool) : ∀ k, bitsN p k < 2 ^ k := by
  intro k
  induction k with
  | zero => show 0 < 2 ^ 0; decide
  | succ k ih =>
    show bitsN p k + (if p k = true then 2 ^ k else 0) < 2 ^ (k + 1)
    rw [Nat.pow_succ]
    by_cases h : p k = true
    · rw [if_pos h]; omega
    · rw [if_neg h]; omega
theorem bitsN_bit (p : Nat → Bool) (i : Nat) : ∀ k, (bitsN p k).testBit i = (decide (i < k) && p i) := by
  intro k
  induction k with
  | zero => show (0 : Nat).testBit i = _; rw [Nat.zero_testBit, decide_eq_false (by omega)]; rfl
  | succ k ih =>
    show (bitsN p k + (if p k = true then 2 ^ k else 0)).testBit i = _
    have hlt := bitsN_lt p k
    by_cases h : p k = true
    · rw [if_pos h, Nat.add_comm]
      by_cases e : i = k
      · subst e
        rw [Nat.testBit_two_pow_add_eq, Nat.testBit_lt_two_pow hlt, decide_eq_true (by omega), h]; rfl
      · by_cases e2 : i < k
        · rw [Nat.testBit_two_pow_add_gt e2, ih, decide_eq_true e2, decide_eq_true (by omega)]
        · have hp : 2 ^ (k + 1) ≤ 2 ^ i := Nat.pow_le_pow_right (by decide) (by omega)
          rw [Nat.pow_succ] at hp
          rw [Nat.testBit_lt_two_pow (by omega), decide_eq_false (by omega)]; rfl
    · rw [if_neg h, Nat.add_zero, ih]
      by_cases e : i = k
      · subst e
        have hf : p i = false := by cases hm : p i with
          | true => exact absurd hm h
          | false => rfl
        rw [hf, Bool.and_false, Bool.and_false]
      · by_cases e2 : i < k
        · rw [decide_eq_true e2, decide_eq_true (by omega)]
        · rw [decide_eq_false e2, decide_eq_false (by omega)]
theorem bitsN_pop (p : Nat → Bool) : ∀ k, popF k (bitsN p k) = cntB p k := by
  intro k
  induction k with
  | zero => rfl
  | succ k ih =>
    show popF (k + 1) (bitsN p k + (if p k = true then 2 ^ k else 0)) = cntB p k + (if p k = true then 1 else 0)
    have hlt := bitsN_lt p k
    by_cases h : p k = true
    · rw [if_pos h, if_pos h, Nat.add_comm (bitsN p k), popF_high k _ hlt, ih]
    · rw [if_neg h, if_neg h, Nat.add_zero (bitsN p k), popF_more k _ hlt, ih]; rfl
theorem bitsN_more (p : Nat → Bool) {k : Nat} : ∀ n, (∀ i, k ≤ i → i < k + n → p i = false) → bitsN p (k + n) = bitsN p k := by
  intro n
  induction n with
  | zero => intro _; rfl
  | succ n ih =>
    intro h
    show bitsN p (k + n) + (if p (k + n) = true then 2 ^ (k + n) else 0) = _
    rw [if_neg (by rw [h (k + n) (by omega) (by omega)]; decide), Nat.add_zero, ih (fun i h1 h2 => h i h1 (by omega))]
theorem or_bit : ∀ k : Fin 8, ∀ x : Fin 256, x.1 < 2 ^ k.1 → (nI x.1 ||| ((1 : Int32) <<< (nI k.1 &&& 31))) = nI (x.1 + 2 ^ k.1) := by decide +kernel
theorem bits_nI (p : Nat → Bool) : ∀ k, k ≤ 8 → bitsI p k = nI (bitsN p k) := by
  intro k
  induction k with
  | zero => intro _; rfl
  | succ k ih =>
    intro hk
    show (if p k = true then bitsI p k ||| ((1 : Int32) <<< (nI k &&& 31)) else bitsI p k) = nI (bitsN p k + (if p k = true then 2 ^ k else 0))
    have hlt := bitsN_lt p k
    have h8 : 2 ^ k ≤ 2 ^ 8 := Nat.pow_le_pow_right (by decide) (by omega)
    rw [ih (by omega)]
    by_cases h : p k = true
    · rw [if_pos h, if_pos h, or_bit ⟨k, by omega⟩ ⟨bitsN p k, by omega⟩ hlt]
    · rw [if_neg h, if_neg h, Nat.add_zero]
theorem count32 : ∀ s : Fin 256, f_J6_bitCount_0f7a4 (nI s.1) = some (nI (popF 8 s.1)) := by decide +kernel
theorem prX_bit : ∀ s : Fin 256, ∀ i : Fin 8, prX (nI s.1) i.1 = s.1.testBit i.1 := by decide +kernel
theorem prM_bit : ∀ s : Fin 256, ∀ i : Fin 8, prM (nI s.1) i.1 = !(s.1.testBit i.1) := by decide +kernel
theorem isIn_bit : ∀ s : Fin 256, ∀ i : Fin 8, f_X9_isIn (nI s.1) (nI i.1) = some (b01 (s.1.testBit i.1)) := by decide +kernel
theorem shl_nb : ∀ k : Fin 9, ((1 : Int32) <<< (nI k.1 &&& 31)) = nI (2 ^ k.1) := by decide +kernel
theorem shl_4nb : ∀ k : Fin 9, ((1 : Int64) <<< (((4 : Int32) * nI k.1).toInt64 &&& 63)) = lN (2 ^ (4 * k.1)) := by decide +kernel
theorem subB_iff (m : Nat → Bool) (s : Nat) : ∀ k, subB m s k = true ↔ ∀ i, i < k → s.testBit i = true → m i = true := by
  intro k
  induction k with
  | zero => exact ⟨fun _ i hi => absurd hi (Nat.not_lt_zero _), fun _ => rfl⟩
  | succ k ih =>
    show (subB m s k && (!(s.testBit k) || m k)) = true ↔ _
    rw [Bool.and_eq_true, ih]
    constructor
    · rintro ⟨h1, h2⟩ i hi hb
      by_cases e : i = k
      · subst e; rw [hb] at h2; simpa using h2
      · exact h1 i (by omega) hb
    · intro h
      refine ⟨fun i hi hb => h i (by omega) hb, ?_⟩
      cases hb : s.testBit k
      · rfl
      · rw [h k (by omega) hb]; rfl
theorem sub_test {s mt : Nat} (hs : s < 256) : ((nI s &&& (nI mt ^^^ (-1 : Int32))) = 0) ↔ (subB (fun i => mt.testBit i) s 8 = true) := by
  rw [subB_iff]
  have key : ∀ i, i < 32 → (nI s &&& (nI mt ^^^ (-1 : Int32))).toBitVec.getLsbD i = (s.testBit i && !(mt.testBit i)) := by
    intro i hi
    rw [Int32.toBitVec_and, Int32.toBitVec_xor, BitVec.getLsbD_and, BitVec.getLsbD_xor]
    have one : ∀ j : Fin 32, ((-1 : Int32).toBitVec).getLsbD j.1 = true := by decide
    rw [one ⟨i, hi⟩]
    show ((BitVec.ofNat 32 s).getLsbD i && ((BitVec.ofNat 32 mt).getLsbD i ^^ true)) = _
    rw [BitVec.getLsbD_ofNat, BitVec.getLsbD_ofNat, decide_eq_true hi]
    cases s.testBit i <;> cases mt.testBit i <;> rfl
  have zero : ∀ i, (0 : Int32).toBitVec.getLsbD i = false := by
    intro i
    show (BitVec.ofNat 32 0).getLsbD i = false
    rw [BitVec.getLsbD_ofNat, Nat.zero_testBit, Bool.and_false]
  constructor
  · intro h i hi hb
    have k := key i (by omega)
    rw [h, zero, hb] at k
    cases hm : mt.testBit i
    · rw [hm] at k; exact absurd k (by decide)
    · rfl
  · intro h
    apply Int32.toBitVec_inj.mp
    apply BitVec.eq_of_getLsbD_eq
    intro i hi
    rw [key i hi, zero]
    cases hb : s.testBit i
    · rfl
    · have h8 : i < 8 := by
        rcases Nat.lt_or_ge i 8 with q | q
        · exact q
        · have hp : 2 ^ 8 ≤ 2 ^ i := Nat.pow_le_pow_right (by decide) q
          rw [Nat.testBit_lt_two_pow (by omega)] at hb
          exact absurd hb (by decide)
      rw [h i h8 hb]; rfl
theorem subB_m {m m' : Nat → Bool} (s : Nat) : ∀ {k : Nat}, (∀ i, i < k → m i = m' i) → subB m s k = subB m' s k := by
  intro k
  induction k with
  | zero => intro _; rfl
  | succ k ih =>
    intro h
    show (subB m s k && _) = (subB m' s k && _)
    rw [ih (fun i hi => h i (by omega)), h k (by omega)]
