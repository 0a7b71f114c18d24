variable {C W R N nb nd ns a f : Nat} {kinds rowAt colAt ways beside places dues bn bt dn dt sn sh sr mc mh ms mb md mg : Nat → Int32}
theorem realmS_cases (LL : Nat → Nat → Int32) (n p : Nat) : realmS C W LL n p = -1 ∨ realmS C W LL n p = 0 ∨ realmS C W LL n p = 1 ∨ realmS C W LL n p = 2 := by
  unfold realmS
  by_cases h : p < C
  · rw [if_pos h]
    by_cases h1 : nI (p / W) = LL n (p % W)
    · rw [if_pos h1]; exact Or.inr (Or.inr (Or.inr rfl))
    · rw [if_neg h1]
      by_cases h2 : LL n (p % W) ≤ nI (p / W)
      · rw [if_pos h2]; exact Or.inr (Or.inr (Or.inl rfl))
      · rw [if_neg h2]; exact Or.inr (Or.inl rfl)
  · rw [if_neg h]; exact Or.inl rfl
/-- how many of the starts below V agree and put a house there -/
def askI (b : Nat → Bool) (g : Nat → Nat → Int32) (h : Nat) (r : Int32) : Nat → Int32
  | 0 => 0
  | v + 1 => askI b g h r v + (if b v = true ∧ g v h = r then 1 else 0)
def rcX (j : Nat) : Int32 := if j = 3 then -1 else nI j
def rcM (j : Nat) : Int32 := if j = 0 then -1 else nI (j - 1)
/-- a tally's row holds what was counted, the places by a code -/
def Tal (N : Nat) (b : Nat → Bool) (g : Nat → Nat → Int32) (rc : Nat → Int32) (V : Nat) (t : Nat → Int32) : Prop := ∀ h, h < N → ∀ j, j < 4 → t (4 * h + j) = askI b g h (rc j) V
theorem Tal.no {b : Nat → Bool} {g : Nat → Nat → Int32} {rc : Nat → Int32} {V : Nat} {t : Nat → Int32} (h : Tal N b g rc V t) (hb : b V = false) : Tal N b g rc (V + 1) t := by
  intro k hk j hj
  rw [h k hk j hj]
  show _ = askI b g k (rc j) V + (if b V = true ∧ g V k = rc j then 1 else 0)
  rw [if_neg (fun q => by rw [hb] at q; exact absurd q.1 (by decide)), i_add0]
/-- houses below K are counted for start V -/
def TalMid (N : Nat) (b : Nat → Bool) (g : Nat → Nat → Int32) (rc : Nat → Int32) (V K : Nat) (t : Nat → Int32) : Prop := ∀ h, h < N → ∀ j, j < 4 → t (4 * h + j) = askI b g h (rc j) (if h < K then V + 1 else V)
theorem TalMid.put {b : Nat → Bool} {g : Nat → Nat → Int32} {rc : Nat → Int32} {V K i : Nat} {t : Nat → Int32} (h : TalMid N b g rc V K t) (hb : b V = true) (hK : K < N) (hi : i < 4) (hg : ∀ j, j < 4 → (g V K = rc j ↔ j = i)) : TalMid N b g rc V (K + 1) (upd t (4 * K + i) (t (4 * K + i) + 1)) := by
  intro k hk j hj
  by_cases e : k = K
  · subst e
    rw [if_pos (by omega)]
    show _ = askI b g k (rc j) V + (if b V = true ∧ g V k = rc j then 1 else 0)
    have e1 := h k hk j hj
    rw [if_neg (by omega)] at e1
    by_cases q : j = i
    · subst q
      rw [upd_at, e1, if_pos ⟨hb, (hg j hj).mpr rfl⟩]
    · rw [upd_ne _ _ (by omega), e1, if_neg (fun z => q ((hg j hj).mp z.2)), i_add0]
  · rw [upd_ne _ _ (by omega), h k hk j hj]
    by_cases q : k < K
    · rw [if_pos q, if_pos (by omega)]
    · rw [if_neg q, if_neg (by omega)]
theorem TalMid.begin {b : Nat → Bool} {g : Nat → Nat → Int32} {rc : Nat → Int32} {V : Nat} {t : Nat → Int32} (h : Tal N b g rc V t) : TalMid N b g rc V 0 t := fun k hk j hj => by rw [if_neg (by omega)]; exact h k hk j hj
theorem TalMid.done {b : Nat → Bool} {g : Nat → Nat → Int32} {rc : Nat → Int32} {V : Nat} {t : Nat → Int32} (h : TalMid N b g rc V N t) : Tal N b g rc (V + 1) t := fun k hk j hj => by have := h k hk j hj; rwa [if_pos hk] at this
/-! the greatest of four -/
def mx (x y : Int32) : Int32 := if x < y then y else x
theorem mx_le (x y : Int32) : (if y ≤ x then x else y) = mx x y := by
  unfold mx
  by_cases h : x < y
  · rw [if_pos h, if_neg (Int32.not_le.mpr h)]
  · rw [if_neg h, if_pos (Int32.not_lt.mp h)]
theorem mx_int (x y : Int32) : (mx x y).toInt = max x.toInt y.toInt := by
  unfold mx
  by_cases h : x < y
  · rw [if_pos h]; rw [Int32.lt_iff_toInt_lt] at h; omega
  · rw [if_neg h]; rw [Int32.lt_iff_toInt_lt] at h; omega
theorem mx4 (a b c d : Int32) : mx (mx (mx (mx 0 a) b) c) d = mx (mx (mx (mx 0 d) a) b) c := by
  apply Int32.toInt_inj.mp
  simp only [mx_int]
  omega
def mostA (b : Nat → Bool) (g : Nat → Nat → Int32) (h : Nat) : Int32 := mx (mx (mx (mx 0 (askI b g h 0 6)) (askI b g h 1 6)) (askI b g h 2 6)) (askI b g h (-1) 6)
def mxr (t : Nat → Int32) (h : Nat) : Nat → Int32
  | 0 => 0
  | k + 1 => mx (mxr t h k) (t (4 * h + k))
theorem mul4 (n x : Nat) : nI n * (4 : Int32) + nI x = nI (4 * n + x) := by rw [Int32.mul_comm, show (4 : Int32) * nI n = nI (4 * n) from pk_mul 4 n]; exact nI_add _ _
theorem n4 (n x : Nat) : (4 : Int32) * nI n + nI x = nI (4 * n + x) := by rw [show (4 : Int32) * nI n = nI (4 * n) from pk_mul 4 n]; exact nI_add _ _
theorem mostX {b : Nat → Bool} {g : Nat → Nat → Int32} {t : Nat → Int32} (hT : Tal N b g rcX 6 t) {h : Nat} (hh : h < N) (hN : N ≤ 8) : loopF (fun q : Int32 × Int32 => f_X8_ask_L40 t (nI h) q.1 q.2) FU (0, 0) = some (mostA b g h) := by
  have e : mostA b g h = mxr t h 4 := by
    show mx (mx (mx (mx 0 (askI b g h 0 6)) (askI b g h 1 6)) (askI b g h 2 6)) (askI b g h (-1) 6) = mx (mx (mx (mx 0 (t (4 * h + 0))) (t (4 * h + 1))) (t (4 * h + 2))) (t (4 * h + 3))
    rw [hT h hh 0 (by omega), hT h hh 1 (by omega), hT h hh 2 (by omega), hT h hh 3 (by omega)]; rfl
  rw [e]
  refine loop_for (fun k => (mxr t h k, nI k)) 4 (fun k hk => ?_) ?_ (by omega)
  · dsimp only
    unfold f_X8_ask_L40
    rw [if_neg (by rw [show (3 : Int32) = nI 3 from rfl, nI_lt_i (by omega) (by omega)]; omega), mul4, gd_t (inb_n (by omega) (by omega)), letv_def, tnN (by omega), show nI k + 1 = nI (k + 1) from nI_1 _]; rfl
  · dsimp only
    unfold f_X8_ask_L40
    rw [if_pos (by decide)]
theorem mostM {b : Nat → Bool} {g : Nat → Nat → Int32} {t : Nat → Int32} (hT : Tal N b g rcM 6 t) {h : Nat} (hh : h < N) (hN : N ≤ 8) : loopF (fun q : Int32 × Int32 => f_X9_askOf_L146 t (nI h) q.1 q.2) FU (0, 0) = some (mostA b g h) := by
  have e : mostA b g h = mxr t h 4 := by
    unfold mostA
    rw [mx4]
    show _ = mx (mx (mx (mx 0 (t (4 * h + 0))) (t (4 * h + 1))) (t (4 * h + 2))) (t (4 * h + 3))
    rw [hT h hh 0 (by omega), hT h hh 1 (by omega), hT h hh 2 (by omega), hT h hh 3 (by omega)]; rfl
  rw [e]
  refine loop_for (fun k => (mxr t h k, nI k)) 4 (fun k hk => ?_) ?_ (by omega)
  · dsimp only
    unfold f_X9_askOf_L146 f_X9_askOf_b186L146
    rw [if_neg (by rw [show (4 : Int32) = nI 4 from rfl, nI_le_i (by omega) (by omega)]; omega), n4, gd_t (inb_n (by omega) (by omega)), gd_t (inb_n (by omega) (by omega)), tnN (by omega), show nI k + 1 = nI (k + 1) from nI_1 _]
    show _ = some (Sum.inl (mx (mxr t h k) (t (4 * h + k)), nI (k + 1)))
    rw [← mx_le]
    by_cases q : t (4 * h + k) ≤ mxr t h k
    · rw [if_pos q, if_pos q]
    · rw [if_neg q, if_neg q]
  · dsimp only
    unfold f_X9_askOf_L146
    rw [if_pos (by decide)]
/-- the least of the greatest -/
def ak (m : Nat → Int32) (l0 : Int32) : Nat → Int32 × Int32
  | 0 => (-1, l0)
  | h + 1 => if (ak m l0 h).1 = -1 then (nI h, m h) else if (ak m l0 h).2 ≤ m h then ak m l0 h else (nI h, m h)
theorem ak_two (m : Nat → Int32) (l0 l1 : Int32) : ∀ k, ak m l0 (k + 1) = ak m l1 (k + 1) := by
  intro k
  induction k with
  | zero =>
    show (if (-1 : Int32) = -1 then _ else _) = (if (-1 : Int32) = -1 then _ else _)
    rw [if_pos rfl, if_pos rfl]
  | succ k ih =>
    show (if (ak m l0 (k + 1)).1 = -1 then _ else if (ak m l0 (k + 1)).2 ≤ m (k + 1) then ak m l0 (k + 1) else _) = (if (ak m l1 (k + 1)).1 = -1 then _ else if (ak m l1 (k + 1)).2 ≤ m (k + 1) then ak m l1 (k + 1) else _)
    rw [ih]
theorem ak_one (m : Nat → Int32) (l0 l1 : Int32) (k : Nat) : (ak m l0 k).1 = (ak m l1 k).1 := by
  cases k with
  | zero => rfl
  | succ k => rw [ak_two m l0 l1 k]
theorem bestX {m : Nat → Int32} {t : Nat → Int32} (hN : N ≤ 8) (hm : ∀ h, h < N → loopF (fun q : Int32 × Int32 => f_X8_ask_L40 t (nI h) q.1 q.2) FU (0, 0) = some (m h)) : loopF (fun q : Int32 × Int32 × Int32 => f_X8_ask_L22 (nI N) t q.1 q.2.1 q.2.2) FU (-1, -1, 0) = some (ak m (-1) N).1 := by
  refine loop_for (fun k => ((ak m (-1) k).1, (ak m (-1) k).2, nI k)) N (fun k hk => ?_) ?_ (by omega)
  · dsimp only
    have es : ak m (-1) (k + 1) = if (ak m (-1) k).1 = -1 then (nI k, m k) else if (ak m (-1) k).2 ≤ m k then ak m (-1) k else (nI k, m k) := rfl
    unfold f_X8_ask_L22 f_X8_ask_b82L22 f_X8_ask_b88L22
    rw [if_neg (by rw [nI_le_i (by omega) (by omega)]; omega), hm k hk, bind1_def, show nI k + 1 = nI (k + 1) from nI_1 _, es]
    generalize ak m (-1) k = z
    by_cases h1 : z.1 = -1
    · rw [if_pos h1, if_pos h1]
    · rw [if_neg h1, if_neg h1]
      by_cases h2 : z.2 ≤ m k
      · rw [if_pos h2, if_pos h2]
      · rw [if_neg h2, if_neg h2]
  · dsimp only
    unfold f_X8_ask_L22
    rw [if_pos (by rw [nI_le_i (by omega) (by omega)]; omega)]
theorem bestM {m : Nat → Int32} {t : Nat → Int32} (hN : N ≤ 8) (hm : ∀ h, h < N → loopF (fun q : Int32 × Int32 => f_X9_askOf_L146 t (nI h) q.1 q.2) FU (0, 0) = some (m h)) : loopF (fun q : Int32 × Int32 × Int32 => f_X9_askOf_L131 (nI N) t q.1 q.2.1 q.2.2) FU (-1, 0, 0) = some (ak m (-1) N).1 := by
  rw [ak_one m (-1) 0 N]
  refine loop_for (fun k => ((ak m 0 k).1, (ak m 0 k).2, nI k)) N (fun k hk => ?_) ?_ (by omega)
  · dsimp only
    have es : ak m 0 (k + 1) = if (ak m 0 k).1 = -1 then (nI k, m k) else if (ak m 0 k).2 ≤ m k then ak m 0 k else (nI k, m k) := rfl
    unfold f_X9_askOf_L131 f_X9_askOf_b207L131 f_X9_askOf_b212L131 f_X9_askOf_b226L131 f_X9_askOf_b240L131
    rw [if_neg (by rw [nI_le_i (by omega) (by omega)]; omega), hm k hk, bind1_def, show nI k + 1 = nI (k + 1) from nI_1 _, es]
    generalize ak m 0 k = z
    by_cases h1 : z.1 = -1
    · rw [if_pos h1, if_pos h1, if_neg one_ne0, if_neg one_ne0]
    · rw [if_neg h1, if_neg h1]
      by_cases h2 : z.2 ≤ m k
      · rw [if_pos h2, if_pos h2, if_pos rfl, if_pos rfl]
      · rw [if_neg h2, if_neg h2, if_neg one_ne0, if_neg one_ne0]
  · dsimp only
    unfold f_X9_askOf_L131
    rw [if_pos (by rw [nI_le_i (by omega) (by omega)]; omega)]
def askG (C W R nb nd f : Nat) (kinds places bn bt dn dt : Nat → Int32) (n v h : Nat) : Int32 := lieS C W places (LLs C W R kinds kinds (fun _ => true) nb bn bt nd dn dt v f) n h
theorem rcX_only {x : Int32} {i : Nat} (hi : i < 4) (h : x = rcX i) : ∀ j, j < 4 → (x = rcX j ↔ j = i) := by
  intro j hj
  subst h
  rcases (show i = 0 ∨ i = 1 ∨ i = 2 ∨ i = 3 by omega) with rfl | rfl | rfl | rfl <;> rcases (show j = 0 ∨ j = 1 ∨ j = 2 ∨ j = 3 by omega) with rfl | rfl | rfl | rfl <;> decide
theorem rcM_only {x : Int32} {i : Nat} (hi : i < 4) (h : x = rcM i) : ∀ j, j < 4 → (x = rcM j ↔ j = i) := by
  intro j hj
  subst h
  rcases (show i = 0 ∨ i = 1 ∨ i = 2 ∨ i = 3 by omega) with rfl | rfl | rfl | rfl <;> rcases (show j = 0 ∨ j = 1 ∨ j = 2 ∨ j = 3 by omega) with rfl | rfl | rfl | rfl <;> decide
theorem tallyIn (hX : Ctx C W R N nb nd a f kinds rowAt colAt ways beside places dues bn bt dn dt) {b : Nat → Bool} {g : Nat → Nat → Int32} {n V : Nat} {LL : Nat → Nat → Int32} {li t : Nat → Int32} (hn : n < 10) (hg : ∀ h, g V h = lieS C W places LL n h) (hb : b V = true) (hli : ∀ x, x < W → li (6 * n + x) = LL n x) (ht : Tal N b g rcX V t) :
    ∃ t', loopF (fun q : Int32 × (Nat → Int32) => f_X8_tallyStarts_L53 (nI C) rowAt colAt (nI N) places li (nI n) q.1 q.2) FU (0, t) = some t' ∧ Tal N b g rcX (V + 1) t' := by
  have h8 := hX.n8
  obtain ⟨x, h1, h2⟩ := loop_inv (body := fun q : Int32 × (Nat → Int32) => f_X8_tallyStarts_L53 (nI C) rowAt colAt (nI N) places li (nI n) q.1 q.2) (fun k q => q.1 = nI k ∧ TalMid N b g rcX V k q.2) (fun x => TalMid N b g rcX V N x) N (by
    rintro k ⟨q1, q2⟩ hk ⟨e1, e2⟩
    dsimp only at e1 e2
    subst e1
    left
    dsimp only
    have step : ∀ i, i < 4 → g V k = rcX i → f_X8_tallyStarts_b102L53 (nI C) rowAt colAt (nI N) places li q2 (nI n) (nI k) (nI i) (nI k * (4 : Int32)) = some (.inl (nI (k + 1), upd q2 (4 * k + i) (q2 (4 * k + i) + 1))) := by
      intro i hi _
      unfold f_X8_tallyStarts_b102L53
      rw [mul4, gd_t (inb_n (by omega) (by omega)), letv_def, gd_t (inb_n (by omega) (by omega)), tnN (by omega), show nI k + 1 = nI (k + 1) from nI_1 _]
    unfold f_X8_tallyStarts_L53
    rw [if_neg (by rw [nI_le_i (by omega) (by omega)]; omega), gd_t (inb_n (by omega) (by omega)), tnN (by omega), lieX hX hn hk hli, bind1_def, ← hg k]
    have hc : g V k = -1 ∨ g V k = 0 ∨ g V k = 1 ∨ g V k = 2 := by rw [hg k]; exact realmS_cases LL n (plc places k)
    rcases hc with q | q | q | q
    · rw [if_pos q]
      exact ⟨_, step 3 (by omega) q, rfl, e2.put hb hk (by omega) (rcX_only (by omega) q)⟩
    · rw [if_neg (by rw [q]; decide), q]
      exact ⟨_, step 0 (by omega) q, rfl, e2.put hb hk (by omega) (rcX_only (by omega) q)⟩
    · rw [if_neg (by rw [q]; decide), q]
      exact ⟨_, step 1 (by omega) q, rfl, e2.put hb hk (by omega) (rcX_only (by omega) q)⟩
    · rw [if_neg (by rw [q]; decide), q]
      exact ⟨_, step 2 (by omega) q, rfl, e2.put hb hk (by omega) (rcX_only (by omega) q)⟩) (by
    rintro ⟨q1, q2⟩ ⟨e1, e2⟩
    dsimp only at e1 e2
    subst e1
    dsimp only
    unfold f_X8_tallyStarts_L53
    rw [if_pos (by rw [nI_le_i (by omega) (by omega)]; omega)]
    exact ⟨_, rfl, e2⟩) (by omega) (q := (0, t)) ⟨rfl, TalMid.begin ht⟩
  exact ⟨x, h1, h2.done⟩
theorem alikeIn (hX : Ctx C W R N nb nd a f kinds rowAt colAt ways beside places dues bn bt dn dt) (hM : MOK C N nb nd a f kinds places dues bn bt dn dt mc mh ms mb md) {b : Nat → Bool} {g : Nat → Nat → Int32} {n V : Nat} {LL : Nat → Nat → Int32} {l t : Nat → Int32} (hn : n < 10) (hg : ∀ h, g V h = lieS C W places LL n h) (hb : b V = true) (hli : ∀ x, x < W → l (6 * n + x) = LL n x) (ht : Tal N b g rcM V t) :
    ∃ t', loopF (fun q : Int32 × (Nat → Int32) => f_X9_askOf_L71 (nI C) (nI W) (nI N) mh l (nI n) q.1 q.2) FU (0, t) = some t' ∧ Tal N b g rcM (V + 1) t' := by
  have h8 := hX.n8
  obtain ⟨x, h1, h2⟩ := loop_inv (body := fun q : Int32 × (Nat → Int32) => f_X9_askOf_L71 (nI C) (nI W) (nI N) mh l (nI n) q.1 q.2) (fun k q => q.1 = nI k ∧ TalMid N b g rcM V k q.2) (fun x => TalMid N b g rcM V N x) N (by
    rintro k ⟨q1, q2⟩ hk ⟨e1, e2⟩
    dsimp only at e1 e2
    subst e1
    left
    dsimp only
    have step : ∀ i, i < 4 → g V k = rcM i → (4 : Int32) * nI k + g V k + 1 = nI (4 * k + i) := by
      intro i hi e
      have z : g V k + 1 = nI i := by
        rw [e]
        rcases (show i = 0 ∨ i = 1 ∨ i = 2 ∨ i = 3 by omega) with rfl | rfl | rfl | rfl <;> decide
      rw [Int32.add_assoc, z, n4]
    unfold f_X9_askOf_L71
    rw [if_neg (by rw [nI_le_i (by omega) (by omega)]; omega), lieM hX hM hn hk hli, bind1_def, ← hg k, show nI k + 1 = nI (k + 1) from nI_1 _]
    have hc : g V k = -1 ∨ g V k = 0 ∨ g V k = 1 ∨ g V k = 2 := by rw [hg k]; exact realmS_cases LL n (plc places k)
    have go : ∀ i, i < 4 → g V k = rcM i → ∃ q', gd (inb ((4 : Int32) * nI k + g V k + 1) 32) (letv (q2 ((4 : Int32) * nI k + g V k + 1).toNatClampNeg + (1 : Int32)) (fun v13 => gd (inb ((4 : Int32) * nI k + g V k + 1) 32) (some (Sum.inl (β := Nat → Int32) (nI (k + 1), upd q2 ((4 : Int32) * nI k + g V k + 1).toNatClampNeg v13))))) = some (Sum.inl q') ∧ q'.1 = nI (k + 1) ∧ TalMid N b g rcM V (k + 1) q'.2 := by
      intro i hi e
      rw [step i hi e, gd_t (inb_n (by omega) (by omega)), letv_def, gd_t (inb_n (by omega) (by omega)), tnN (by omega)]
      exact ⟨_, rfl, rfl, e2.put hb hk hi (rcM_only hi e)⟩
    rcases hc with q | q | q | q
    · exact go 0 (by omega) q
    · exact go 1 (by omega) q
    · exact go 2 (by omega) q
    · exact go 3 (by omega) q) (by
    rintro ⟨q1, q2⟩ ⟨e1, e2⟩
    dsimp only at e1 e2
    subst e1
    dsimp only
    unfold f_X9_askOf_L71
    rw [if_pos (by rw [nI_le_i (by omega) (by omega)]; omega)]
    exact ⟨_, rfl, e2⟩) (by omega) (q := (0, t)) ⟨rfl, TalMid.begin ht⟩
  exact ⟨x, h1, h2.done⟩
