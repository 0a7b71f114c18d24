/-! sums over all bowls, and over those that matter -/
def sumN (F : Nat → Nat) : Nat → Nat
  | 0 => 0
  | k + 1 => sumN F k + F k
theorem sumN_split (F : Nat → Nat) (m : Nat) : ∀ n, sumN F (m + n) = sumN F m + sumN (fun i => F (m + i)) n := by
  intro n
  induction n with
  | zero => rfl
  | succ n ih =>
    show sumN F (m + n) + F (m + n) = sumN F m + (sumN (fun i => F (m + i)) n + F (m + n))
    rw [ih, Nat.add_assoc]
theorem sumN_congr {F G : Nat → Nat} : ∀ {n : Nat}, (∀ i, i < n → F i = G i) → sumN F n = sumN G n := by
  intro n
  induction n with
  | zero => intro _; rfl
  | succ n ih =>
    intro h
    show sumN F n + F n = sumN G n + G n
    rw [ih (fun i hi => h i (by omega)), h n (by omega)]
theorem sumN_mul (c : Nat) (F : Nat → Nat) : ∀ n, sumN (fun i => c * F i) n = c * sumN F n := by
  intro n
  induction n with
  | zero => rfl
  | succ n ih =>
    show sumN (fun i => c * F i) n + c * F n = c * (sumN F n + F n)
    rw [ih, Nat.mul_add]
theorem sumN_zero {F : Nat → Nat} {n : Nat} (h : ∀ i, i < n → F i = 0) : sumN F n = 0 := by
  rw [sumN_congr (G := fun _ => 0 * 0) h, sumN_mul]; omega
def setB (b : Nat → Bool) (k : Nat) : Nat → Bool := fun i => if i = k then true else b i
def trA (c d : Nat) : Nat → ((Nat → Bool) → Nat) → Nat
  | 0, F => F (fun _ => false)
  | k + 1, F => c * trA c d k (fun b => F (setB b k)) + d * trA c d k F
def trB (c d : Nat) (m : Nat → Bool) : Nat → ((Nat → Bool) → Nat) → Nat
  | 0, F => F (fun _ => false)
  | k + 1, F => if m k = true then c * trB c d m k (fun b => F (setB b k)) + d * trB c d m k F else trB c d m k F
def cntB (m : Nat → Bool) : Nat → Nat
  | 0 => 0
  | k + 1 => cntB m k + (if m k = true then 1 else 0)
theorem cnt_le (m : Nat → Bool) : ∀ k, cntB m k ≤ k := by
  intro k
  induction k with
  | zero => exact Nat.le_refl _
  | succ k ih =>
    show cntB m k + (if m k = true then 1 else 0) ≤ k + 1
    by_cases h : m k = true
    · rw [if_pos h]; omega
    · rw [if_neg h]; omega
theorem set_swap (b : Nat → Bool) {j k : Nat} (h : j ≠ k) : setB (setB b j) k = setB (setB b k) j := by
  funext i
  unfold setB
  by_cases h1 : i = k
  · rw [if_pos h1, if_neg (by omega), if_pos h1]
  · rw [if_neg h1]
    by_cases h2 : i = j
    · rw [if_pos h2, if_pos h2]
    · rw [if_neg h2, if_neg h2, if_neg h1]
theorem trAB {c d : Nat} (hcd : c + d = 16) (m : Nat → Bool) : ∀ (k : Nat) (F : (Nat → Bool) → Nat), (∀ b j, j < k → m j = false → F (setB b j) = F b) → trA c d k F = 16 ^ (k - cntB m k) * trB c d m k F := by
  intro k
  induction k with
  | zero => intro F _; show F _ = 16 ^ (0 - 0) * F _; rw [Nat.sub_self, Nat.pow_zero, Nat.one_mul]
  | succ k ih =>
    intro F hF
    have hle := cnt_le m k
    show c * trA c d k (fun b => F (setB b k)) + d * trA c d k F = 16 ^ (k + 1 - (cntB m k + (if m k = true then 1 else 0))) * (if m k = true then c * trB c d m k (fun b => F (setB b k)) + d * trB c d m k F else trB c d m k F)
    have hF1 : ∀ b j, j < k → m j = false → F (setB b j) = F b := fun b j hj hm => hF b j (by omega) hm
    have e2 := ih F hF1
    by_cases h : m k = true
    · have e1 := ih (fun b => F (setB b k)) (fun b j hj hm => by
        show F (setB (setB b j) k) = F (setB b k)
        rw [set_swap b (by omega)]
        exact hF _ j (by omega) hm)
      rw [if_pos h, if_pos h, e1, e2, show k + 1 - (cntB m k + 1) = k - cntB m k by omega, Nat.mul_add, Nat.mul_left_comm, Nat.mul_left_comm d]
    · have hk : m k = false := by cases hm : m k with
        | true => exact absurd hm h
        | false => rfl
      have e3 : (fun b => F (setB b k)) = F := funext fun b => hF b k (by omega) hk
      rw [if_neg h, if_neg h, e3, e2, ← Nat.add_mul, hcd, show k + 1 - (cntB m k + 0) = (k - cntB m k) + 1 by omega, Nat.pow_succ, Nat.mul_comm (16 ^ _) 16, Nat.mul_assoc]
theorem trA_le {c d : Nat} (hcd : c + d = 16) : ∀ (k : Nat) (F : (Nat → Bool) → Nat), (∀ b, F b ≤ 1) → trA c d k F ≤ 16 ^ k := by
  intro k
  induction k with
  | zero => intro F hF; exact hF _
  | succ k ih =>
    intro F hF
    show c * trA c d k (fun b => F (setB b k)) + d * trA c d k F ≤ 16 ^ (k + 1)
    have h1 := Nat.mul_le_mul (Nat.le_refl c) (ih (fun b => F (setB b k)) (fun b => hF _))
    have h2 := Nat.mul_le_mul (Nat.le_refl d) (ih F hF)
    have h3 : c * 16 ^ k + d * 16 ^ k = 16 ^ (k + 1) := by rw [← Nat.add_mul, hcd, Nat.pow_succ, Nat.mul_comm]
    omega
def wtM (c d g : Nat) : Nat → Nat
  | 0 => 1
  | k + 1 => wtM c d g k * (if g.testBit k = true then d else c)
def PM (k g : Nat) : Nat → Bool := fun i => decide (i < k) && !(g.testBit i)
theorem wtM_congr (c d : Nat) {g g' : Nat} : ∀ {k : Nat}, (∀ i, i < k → g.testBit i = g'.testBit i) → wtM c d g k = wtM c d g' k := by
  intro k
  induction k with
  | zero => intro _; rfl
  | succ k ih =>
    intro h
    show wtM c d g k * _ = wtM c d g' k * _
    rw [ih (fun i hi => h i (by omega)), h k (by omega)]
theorem PM_low {k g : Nat} (hg : g < 2 ^ k) : PM (k + 1) g = setB (PM k g) k := by
  funext i
  unfold PM setB
  by_cases h : i = k
  · subst h
    rw [if_pos rfl, Nat.testBit_lt_two_pow hg, decide_eq_true (by omega)]; rfl
  · rw [if_neg h]
    dsimp only
    by_cases h2 : i < k
    · rw [decide_eq_true h2, decide_eq_true (by omega)]
    · rw [decide_eq_false h2, decide_eq_false (by omega)]
theorem PM_high {k g : Nat} (hg : g < 2 ^ k) : PM (k + 1) (2 ^ k + g) = PM k g := by
  funext i
  unfold PM
  by_cases h : i = k
  · subst h
    rw [Nat.testBit_two_pow_add_eq, Nat.testBit_lt_two_pow hg, decide_eq_false (show ¬ i < i by omega), Bool.false_and, decide_eq_true (by omega)]; rfl
  · by_cases h2 : i < k
    · rw [Nat.testBit_two_pow_add_gt h2, decide_eq_true h2, decide_eq_true (by omega)]
    · rw [decide_eq_false h2, decide_eq_false (by omega), Bool.false_and, Bool.false_and]
theorem sumM (c d : Nat) : ∀ (k : Nat) (F : (Nat → Bool) → Nat), sumN (fun g => F (PM k g) * wtM c d g k) (2 ^ k) = trA c d k F := by
  intro k
  induction k with
  | zero =>
    intro F
    show 0 + F (PM 0 0) * 1 = F _
    rw [Nat.zero_add, Nat.mul_one]
    exact congrArg F (funext fun i => by unfold PM; rw [decide_eq_false (by omega)]; rfl)
  | succ k ih =>
    intro F
    rw [Nat.pow_succ, Nat.mul_two, sumN_split]
    show _ = c * trA c d k (fun b => F (setB b k)) + d * trA c d k F
    rw [← ih (fun b => F (setB b k)), ← ih F, ← sumN_mul, ← sumN_mul]
    congr 1
    · refine sumN_congr fun g hg => ?_
      show F (PM (k + 1) g) * (wtM c d g k * (if g.testBit k = true then d else c)) = c * (F (setB (PM k g) k) * wtM c d g k)
      rw [PM_low hg, Nat.testBit_lt_two_pow hg, if_neg (by decide), ← Nat.mul_assoc, Nat.mul_comm _ c]
    · refine sumN_congr fun g hg => ?_
      show F (PM (k + 1) (2 ^ k + g)) * (wtM c d (2 ^ k + g) k * (if (2 ^ k + g).testBit k = true then d else c)) = d * (F (PM k g) * wtM c d g k)
      rw [PM_high hg, Nat.testBit_two_pow_add_eq, Nat.testBit_lt_two_pow hg, if_pos (show (!false) = true from rfl), wtM_congr c d (g' := g) (fun i hi => Nat.testBit_two_pow_add_gt hi g), ← Nat.mul_assoc, Nat.mul_comm _ d]
def QX (k s : Nat) : Nat → Bool := fun i => decide (i < k) && s.testBit i
def subB (m : Nat → Bool) (s : Nat) : Nat → Bool
  | 0 => true
  | k + 1 => subB m s k && (!(s.testBit k) || m k)
theorem subB_congr (m : Nat → Bool) {s s' : Nat} : ∀ {k : Nat}, (∀ i, i < k → s.testBit i = s'.testBit i) → subB m s k = subB m s' k := by
  intro k
  induction k with
  | zero => intro _; rfl
  | succ k ih =>
    intro h
    show (subB m s k && _) = (subB m s' k && _)
    rw [ih (fun i hi => h i (by omega)), h k (by omega)]
theorem popF_high : ∀ (k s : Nat), s < 2 ^ k → popF (k + 1) (2 ^ k + s) = popF k s + 1 := by
  intro k
  induction k with
  | zero => intro s h; rw [show s = 0 by simpa using h]; rfl
  | succ k ih =>
    intro s h
    show (2 ^ (k + 1) + s) % 2 + popF (k + 1) ((2 ^ (k + 1) + s) / 2) = s % 2 + popF k (s / 2) + 1
    rw [Nat.pow_succ] at h ⊢
    rw [show (2 ^ k * 2 + s) % 2 = s % 2 by omega, show (2 ^ k * 2 + s) / 2 = 2 ^ k + s / 2 by omega, ih (s / 2) (by omega)]
    omega
theorem sub_pop (m : Nat → Bool) : ∀ (k s : Nat), s < 2 ^ k → subB m s k = true → popF k s ≤ cntB m k := by
  intro k
  induction k with
  | zero => intro s _ _; exact Nat.le_refl _
  | succ k ih =>
    intro s hs h
    have h' : (subB m s k && (!(s.testBit k) || m k)) = true := h
    rw [Bool.and_eq_true] at h'
    show popF (k + 1) s ≤ cntB m k + (if m k = true then 1 else 0)
    by_cases hk : s < 2 ^ k
    · rw [popF_more k s hk]
      have := ih s hk h'.1
      omega
    · obtain ⟨t, rfl⟩ : ∃ t, s = 2 ^ k + t := ⟨s - 2 ^ k, by omega⟩
      have ht : t < 2 ^ k := by rw [Nat.pow_succ] at hs; omega
      have hb : (2 ^ k + t).testBit k = true := by rw [Nat.testBit_two_pow_add_eq, Nat.testBit_lt_two_pow ht]; rfl
      rw [hb] at h'
      have hm : m k = true := by simpa using h'.2
      have h1 : subB m t k = true := by rw [← h'.1]; exact (subB_congr m (fun i hi => Nat.testBit_two_pow_add_gt hi t)).symm
      rw [popF_high k t ht, if_pos hm]
      have := ih t ht h1
      omega
theorem QX_low {k s : Nat} (hs : s < 2 ^ k) : QX (k + 1) s = QX k s := by
  funext i
  unfold QX
  by_cases h : i = k
  · subst h
    rw [Nat.testBit_lt_two_pow hs, Bool.and_false, Bool.and_false]
  · by_cases h2 : i < k
    · rw [decide_eq_true h2, decide_eq_true (by omega)]
    · rw [decide_eq_false h2, decide_eq_false (by omega)]
theorem QX_high {k s : Nat} (hs : s < 2 ^ k) : QX (k + 1) (2 ^ k + s) = setB (QX k s) k := by
  funext i
  unfold QX setB
  by_cases h : i = k
  · subst h
    rw [if_pos rfl, Nat.testBit_two_pow_add_eq, Nat.testBit_lt_two_pow hs, decide_eq_true (by omega)]; rfl
  · rw [if_neg h]
    dsimp only
    by_cases h2 : i < k
    · rw [Nat.testBit_two_pow_add_gt h2, decide_eq_true h2, decide_eq_true (by omega)]
    · rw [decide_eq_false h2, decide_eq_false (by omega), Bool.false_and, Bool.false_and]
def termX (c d : Nat) (m : Nat → Bool) (F : (Nat → Bool) → Nat) (k s : Nat) : Nat := if subB m s k = true then F (QX k s) * (c ^ popF k s * d ^ (cntB m k - popF k s)) else 0
theorem sumX (c d : Nat) (m : Nat → Bool) : ∀ (k : Nat) (F : (Nat → Bool) → Nat), sumN (termX c d m F k) (2 ^ k) = trB c d m k F := by
  intro k
  induction k with
  | zero =>
    intro F
    show 0 + (if true = true then F (QX 0 0) * (c ^ 0 * d ^ (0 - 0)) else 0) = F _
    rw [if_pos rfl, Nat.zero_add, Nat.sub_self, Nat.pow_zero, Nat.pow_zero, Nat.mul_one]
    exact congrArg F (funext fun i => by unfold QX; rw [decide_eq_false (by omega)]; rfl)
  | succ k ih =>
    intro F
    rw [Nat.pow_succ, Nat.mul_two, sumN_split]
    show _ = (if m k = true then c * trB c d m k (fun b => F (setB b k)) + d * trB c d m k F else trB c d m k F)
    have low : ∀ s, s < 2 ^ k → subB m s (k + 1) = subB m s k := fun s hs => by
      show (subB m s k && (!(s.testBit k) || m k)) = subB m s k
      rw [Nat.testBit_lt_two_pow hs]; simp
    have high : ∀ s, s < 2 ^ k → subB m (2 ^ k + s) (k + 1) = (subB m s k && m k) := fun s hs => by
      show (subB m (2 ^ k + s) k && (!((2 ^ k + s).testBit k) || m k)) = (subB m s k && m k)
      rw [Nat.testBit_two_pow_add_eq, Nat.testBit_lt_two_pow hs, subB_congr m (s' := s) (fun i hi => Nat.testBit_two_pow_add_gt hi s)]; rfl
    by_cases h : m k = true
    · have hc : cntB m (k + 1) = cntB m k + 1 := by show cntB m k + (if m k = true then 1 else 0) = _; rw [if_pos h]
      rw [if_pos h, ← ih (fun b => F (setB b k)), ← ih F, ← sumN_mul, ← sumN_mul, Nat.add_comm]
      congr 1
      · refine sumN_congr fun s hs => ?_
        unfold termX
        rw [high s hs, h, Bool.and_true, hc, popF_high k s hs, QX_high hs]
        by_cases hb : subB m s k = true
        · rw [if_pos hb, if_pos hb, Nat.add_sub_add_right, Nat.pow_succ, Nat.mul_comm (c ^ popF k s) c, Nat.mul_assoc c, Nat.mul_left_comm]
        · rw [if_neg hb, if_neg hb, Nat.mul_zero]
      · refine sumN_congr fun s hs => ?_
        unfold termX
        rw [low s hs, hc, popF_more k s hs, QX_low hs]
        by_cases hb : subB m s k = true
        · have := sub_pop m k s hs hb
          rw [if_pos hb, if_pos hb, show cntB m k + 1 - popF k s = (cntB m k - popF k s) + 1 by omega, Nat.pow_succ, ← Nat.mul_assoc (c ^ popF k s), ← Nat.mul_assoc, Nat.mul_comm _ d]
        · rw [if_neg hb, if_neg hb, Nat.mul_zero]
    · have hf : m k = false := by cases hm : m k with
        | true => exact absurd hm h
        | false => rfl
      have hc : cntB m (k + 1) = cntB m k := by show cntB m k + (if m k = true then 1 else 0) = _; rw [if_neg h, Nat.add_zero]
      rw [if_neg h, ← ih F]
      have z : sumN (fun i => termX c d m F (k + 1) (2 ^ k + i)) (2 ^ k) = 0 := sumN_zero fun s hs => by
        unfold termX
        rw [high s hs, hf, Bool.and_false, if_neg (by decide)]
      rw [z, Nat.add_zero]
      refine sumN_congr fun s hs => ?_
      unfold termX
      rw [low s hs, hc, popF_more k s hs, QX_low hs]
theorem trB_more {c d : Nat} (m : Nat → Bool) (F : (Nat → Bool) → Nat) {k : Nat} : ∀ (n : Nat), (∀ i, k ≤ i → i < k + n → m i = false) → trB c d m (k + n) F = trB c d m k F ∧ cntB m (k + n) = cntB m k := by
  intro n
  induction n with
  | zero => intro _; exact ⟨rfl, rfl⟩
  | succ n ih =>
    intro h
    obtain ⟨e1, e2⟩ := ih (fun i h1 h2 => h i h1 (by omega))
    have hm : m (k + n) = false := h (k + n) (by omega) (by omega)
    constructor
    · show (if m (k + n) = true then _ else trB c d m (k + n) F) = _
      rw [if_neg (by rw [hm]; decide), e1]
    · show cntB m (k + n) + (if m (k + n) = true then 1 else 0) = _
      rw [if_neg (by rw [hm]; decide), Nat.add_zero, e2]
/-! the fraction in lowest terms -/
def Lowest (X m x j : Nat) : Prop := ∃ i, X = x * 2 ^ i ∧ j + i = 4 * m ∧ (j = 0 ∨ x % 2 = 1)
theorem pow32 {j : Nat} (h : j ≤ 32) : 2 ^ j ≤ 4294967296 ∧ 0 < 2 ^ j := ⟨Nat.pow_le_pow_right (n := 2) (by decide) h, Nat.pow_pos (by decide)⟩
theorem red_loop {X m : Nat} (hX : X ≤ 4294967296) (hm : m ≤ 8) : ∃ x j, loopF (fun q : Int32 × Int64 × Int64 => f_X0_reduce_L20 q.1 q.2.1 q.2.2) FU (0, lN X, lN (2 ^ (4 * m))) = some (lN x, lN (2 ^ j)) ∧ Lowest X m x j ∧ x ≤ X := by
  obtain ⟨z, h1, x, j, h2, h3⟩ := loop_inv (body := fun q : Int32 × Int64 × Int64 => f_X0_reduce_L20 q.1 q.2.1 q.2.2) (fun k q => ∃ x j, q = (nI k, lN x, lN (2 ^ j)) ∧ X = x * 2 ^ k ∧ j + k = 4 * m ∧ x ≤ X) (fun z => ∃ x j, z = (lN x, lN (2 ^ j)) ∧ Lowest X m x j ∧ x ≤ X) 32 (by
    rintro k q hk ⟨x, j, rfl, e1, e2, e4⟩
    obtain ⟨p1, p2⟩ := pow32 (j := j) (by omega)
    dsimp only
    unfold f_X0_reduce_L20
    rw [if_neg (by rw [show (32 : Int32) = nI 32 from rfl, nI_le_i (by omega) (by omega)]; omega)]
    by_cases hb : j = 0
    · right
      rw [if_pos (show lg_cmp (lN (2 ^ j)) (1 : Int64) ≤ 0 from (lg_cmp_le _ _).mpr (show lN (2 ^ j) ≤ lN 1 from (pk_lLE (by omega) (by omega)).mpr (by rw [hb]; decide)))]
      exact ⟨_, rfl, x, j, rfl, ⟨k, e1, e2, Or.inl hb⟩, e4⟩
    · obtain ⟨u, rfl⟩ : ∃ u, j = u + 1 := ⟨j - 1, by omega⟩
      have hpu := Nat.pow_succ (n := 2) (m := u)
      obtain ⟨-, pu⟩ := pow32 (j := u) (by omega)
      have hb2 : ¬ lg_cmp (lN (2 ^ (u + 1))) (1 : Int64) ≤ 0 := fun q => by
        have := (pk_lLE (a := 2 ^ (u + 1)) (b := 1) (by omega) (by omega)).mp ((lg_cmp_le _ _).mp q)
        omega
      have hr : lN x - lN x / (2 : Int64) * (2 : Int64) = lN (x % 2) := pk_lRem (b := 2) (by omega) (by omega) (by omega)
      rw [if_neg hb2, hr]
      by_cases hx : x % 2 = 0
      · left
        rw [if_pos ((lg_eq0 _ _).mpr (by rw [hx]; rfl)), letv_def, letv_def, show (2 : Int64) = lN 2 from rfl, pk_lDiv (by omega) (by omega) (by omega), pk_lDiv (by omega) (by omega) (by omega), show nI k + 1 = nI (k + 1) from nI_1 _, show 2 ^ (u + 1) / 2 = 2 ^ u by omega]
        refine ⟨_, rfl, x / 2, u, rfl, ?_, by omega, by omega⟩
        rw [Nat.pow_succ, Nat.mul_comm (2 ^ k) 2, ← Nat.mul_assoc, show x / 2 * 2 = x by omega]; exact e1
      · right
        rw [if_neg (show ¬ lg_cmp (lN (x % 2)) (0 : Int64) = 0 from fun q => hx ((pk_lEQ (b := 0) (by omega) (by omega)).mp ((lg_eq0 _ _).mp q)))]
        exact ⟨_, rfl, x, u + 1, rfl, ⟨k, e1, e2, Or.inr (by omega)⟩, e4⟩) (by
    rintro q ⟨x, j, rfl, e1, e2, e4⟩
    dsimp only
    unfold f_X0_reduce_L20
    rw [if_pos (by decide)]
    exact ⟨_, rfl, x, j, rfl, ⟨32, e1, e2, Or.inl (by omega)⟩, e4⟩) (by omega) (q := (0, lN X, lN (2 ^ (4 * m)))) ⟨X, 4 * m, rfl, by rw [Nat.pow_zero, Nat.mul_one], by omega, Nat.le_refl _⟩
  exact ⟨x, j, by rw [h1, h2], h3⟩
theorem gcd_step (a b : Nat) : Nat.gcd a b = Nat.gcd b (a % b) := by
  rw [Nat.gcd_comm a b, Nat.gcd_rec b a, Nat.gcd_comm]
theorem gcd_loop : ∀ (k a b N : Nat), b < 2 ^ k → 2 * k + 1 < N → a < 2 ^ 62 → b < 2 ^ 62 → loopF (fun q : Int64 × Int64 => f_X9_part_L6 q.1 q.2) N (lN a, lN b) = some (lN (Nat.gcd a b)) := by
  have stop : ∀ a N, 0 < N → loopF (fun q : Int64 × Int64 => f_X9_part_L6 q.1 q.2) N (lN a, lN 0) = some (lN (Nat.gcd a 0)) := by
    intro a N hN
    obtain ⟨M, rfl⟩ : ∃ M, N = M + 1 := ⟨N - 1, by omega⟩
    refine loopF_end ?_
    dsimp only
    unfold f_X9_part_L6
    rw [if_pos (show lg_cmp (lN 0) (0 : Int64) = 0 from (lg_eq0 _ _).mpr rfl), Nat.gcd_zero_right]
  have go : ∀ a b N, 0 < b → a < 2 ^ 62 → b < 2 ^ 62 → loopF (fun q : Int64 × Int64 => f_X9_part_L6 q.1 q.2) (N + 1) (lN a, lN b) = loopF (fun q : Int64 × Int64 => f_X9_part_L6 q.1 q.2) N (lN b, lN (a % b)) := by
    intro a b N hb h1 h2
    refine loopF_go ?_
    dsimp only
    unfold f_X9_part_L6
    have hz : ¬ lN b = 0 := fun q => by
      have := (pk_lEQ (a := b) (b := 0) (by omega) (by omega)).mp q
      omega
    have nz : nzL (lN b) = true := by unfold nzL; exact decide_eq_true hz
    rw [if_neg (fun q => hz ((lg_eq0 _ _).mp q)), gd_t nz, letv_def, pk_lRem (by omega) hb (by omega)]
  intro k
  induction k with
  | zero =>
    intro a b N hb hN _ _
    rw [show b = 0 by simpa using hb]
    exact stop a N (by omega)
  | succ k ih =>
    intro a b N hb hN ha hb2
    by_cases h0 : b = 0
    · rw [h0]; exact stop a N (by omega)
    · obtain ⟨M, rfl⟩ : ∃ M, N = M + 1 := ⟨N - 1, by omega⟩
      rw [go a b M (by omega) ha hb2, gcd_step a b]
      have hr := Nat.mod_lt a (show b > 0 by omega)
      by_cases h1 : a % b = 0
      · rw [h1]; exact stop b M (by omega)
      · obtain ⟨L, rfl⟩ : ∃ L, M = L + 1 := ⟨M - 1, by omega⟩
        rw [go b (a % b) L (by omega) hb2 (by omega), gcd_step b (a % b)]
        have h3 := Nat.mod_lt b (show a % b > 0 by omega)
        have h4 : b % (a % b) < 2 ^ k := by
          rw [Nat.pow_succ] at hb
          by_cases h5 : 2 * (a % b) ≤ b
          · omega
          · have h6 : b % (a % b) = b - a % b := by
              rw [Nat.mod_eq_sub_mod (by omega), Nat.mod_eq_of_lt (by omega)]
            omega
        exact ih (a % b) (b % (a % b)) L h4 (by omega) (by omega) (by omega)
theorem part_eq {X m x j d : Nat} (hX : X * 2 ^ (4 * d) ≤ 4294967296) (hm : d + m ≤ 8) (h : Lowest X m x j) (w : Int32) : f_X9_part (lN (X * 2 ^ (4 * d))) (lN (2 ^ (4 * (d + m)))) w = some (if w = 0 then lN x else lN (2 ^ j)) := by
  obtain ⟨i, e1, e2, e3⟩ := h
  obtain ⟨p1, p2⟩ := pow32 (j := 4 * (d + m)) (by omega)
  obtain ⟨g1, g2⟩ := pow32 (j := 4 * d + i) (by omega)
  have cop : Nat.gcd x (2 ^ j) = 1 := by
    rcases e3 with e3 | e3
    · rw [e3, Nat.pow_zero, Nat.gcd_one_right]
    · refine Nat.Coprime.pow_right j ?_
      show Nat.gcd x 2 = 1
      rw [Nat.gcd_comm, Nat.gcd_rec, e3]; rfl
  have ey : X * 2 ^ (4 * d) = 2 ^ (4 * d + i) * x := by
    rw [e1, Nat.mul_assoc, ← Nat.pow_add, Nat.mul_comm, show i + 4 * d = 4 * d + i by omega]
  have eb : 2 ^ (4 * (d + m)) = 2 ^ (4 * d + i) * 2 ^ j := by
    rw [← Nat.pow_add, show 4 * (d + m) = 4 * d + i + j by omega]
  have eg : Nat.gcd (X * 2 ^ (4 * d)) (2 ^ (4 * (d + m))) = 2 ^ (4 * d + i) := by
    rw [ey, eb, Nat.gcd_mul_left, cop, Nat.mul_one]
  have hl := gcd_loop 33 (X * 2 ^ (4 * d)) (2 ^ (4 * (d + m))) FU (by omega) (by have := FU_big; omega) (by omega) (by omega)
  rw [eg] at hl
  unfold f_X9_part f_X9_part_b41
  have hz : ¬ lN (2 ^ (4 * d + i)) = 0 := fun q => by
    have := (pk_lEQ (a := 2 ^ (4 * d + i)) (b := 0) (by omega) (by omega)).mp q
    omega
  have nz : nzL (lN (2 ^ (4 * d + i))) = true := by unfold nzL; exact decide_eq_true hz
  rw [hl, bind1_def, gd_t nz, gd_t nz, pk_lDiv (by omega) g2 (by omega), pk_lDiv (by omega) g2 (by omega), ey, eb, Nat.mul_div_cancel_left _ g2, Nat.mul_div_cancel_left _ g2]
  by_cases hw : w = 0
  · rw [if_pos hw, if_pos hw]
  · rw [if_neg hw, if_neg hw]
