variable {C W R N nb nd ns a f : Nat} {kinds rowAt colAt ways beside places dues bn bt dn dt sn sh sr mc mh ms mb md mg : Nat → Int32}
/-! what was seen -/
def allB (p : Nat → Bool) : Nat → Bool
  | 0 => true
  | k + 1 => allB p k && p k
theorem allB_no {p : Nat → Bool} : ∀ {n k : Nat}, k < n → p k = false → allB p n = false := by
  intro n
  induction n with
  | zero => intro k h _; exact absurd h (Nat.not_lt_zero _)
  | succ n ih =>
    intro k h e
    show (allB p n && p n) = false
    by_cases q : k = n
    · rw [← q, e, Bool.and_false]
    · rw [ih (by omega) e, Bool.false_and]
theorem allB_congr {p p' : Nat → Bool} : ∀ {n : Nat}, (∀ k, k < n → p k = p' k) → allB p n = allB p' n := by
  intro n
  induction n with
  | zero => intro _; rfl
  | succ n ih =>
    intro h
    show (allB p n && p n) = (allB p' n && p' n)
    rw [ih (fun k hk => h k (by omega)), h n (by omega)]
def okS (C W N : Nat) (places sn sh sr : Nat → Int32) (LL : Nat → Nat → Int32) (i : Nat) : Bool := decide (plc sh i < N) && decide (lieS C W places LL (plc sn i) (plc sh i) = sr i)
def seenB (C W N ns : Nat) (places sn sh sr : Nat → Int32) (LL : Nat → Nat → Int32) : Bool := allB (okS C W N places sn sh sr LL) ns
theorem SOK.at (hS : SOK ns sn sh sr mg) {i : Nat} (hi : i < ns) : sn i = nI (plc sn i) ∧ plc sn i ≤ 9 ∧ sh i = nI (plc sh i) ∧ plc sh i ≤ 7 := by
  obtain ⟨-, -, -, ⟨a, ha, e1⟩, ⟨c, hc, e2⟩, -⟩ := hS.2 i hi
  unfold plc
  rw [e1, e2, tnN (by omega), tnN (by omega)]
  exact ⟨rfl, ha, rfl, hc⟩
theorem seenB_congr (hS : SOK ns sn sh sr mg) {LL LL' : Nat → Nat → Int32} (h : ∀ n, n < 10 → LL n = LL' n) : seenB C W N ns places sn sh sr LL = seenB C W N ns places sn sh sr LL' := by
  refine allB_congr fun i hi => ?_
  unfold okS lieS
  rw [realmS_eq (h (plc sn i) (by have := (hS.at hi).2.1; omega))]
theorem okS_no {LL : Nat → Nat → Int32} {i : Nat} (h : ¬ (plc sh i < N ∧ lieS C W places LL (plc sn i) (plc sh i) = sr i)) : okS C W N places sn sh sr LL i = false := by
  unfold okS
  by_cases h2 : plc sh i < N
  · have h3 : ¬ lieS C W places LL (plc sn i) (plc sh i) = sr i := fun q => h ⟨h2, q⟩
    rw [decide_eq_false h3, Bool.and_false]
  · rw [decide_eq_false h2, Bool.false_and]
theorem okS_yes {LL : Nat → Nat → Int32} {i : Nat} (h2 : plc sh i < N) (h3 : lieS C W places LL (plc sn i) (plc sh i) = sr i) : okS C W N places sn sh sr LL i = true := by
  unfold okS
  rw [decide_eq_true h2, decide_eq_true h3]; rfl
theorem agreesX (hX : Ctx C W R N nb nd a f kinds rowAt colAt ways beside places dues bn bt dn dt) (hS : SOK ns sn sh sr mg) {LL : Nat → Nat → Int32} {li : Nat → Int32} (hli : ∀ n, n < 10 → ∀ x, x < W → li (6 * n + x) = LL n x) :
    f_X8_agreesWithSights (nI C) rowAt colAt (nI N) places (nI ns) sn sh sr li = some (b01 (seenB C W N ns places sn sh sr LL)) := by
  have h8 := hX.n8
  have hs8 := hS.1
  obtain ⟨x, h1, h2⟩ := loop_inv (body := fun q : Int32 => f_X8_agreesWithSights_L2 (nI C) rowAt colAt (nI N) places (nI ns) sn sh sr li q) (fun k q => q = nI k ∧ allB (okS C W N places sn sh sr LL) k = true) (fun x => (x = Sum.inl () ∧ seenB C W N ns places sn sh sr LL = false) ∨ (x = Sum.inr () ∧ seenB C W N ns places sn sh sr LL = true)) ns (by
    rintro k q hk ⟨rfl, hs⟩
    obtain ⟨e1, g1, e2, g2⟩ := hS.at hk
    unfold f_X8_agreesWithSights_L2
    rw [if_neg (by rw [nI_le_i (by omega) (by omega)]; omega), gd_t (inb_n (by omega) (by omega)), letv_def, tnN (by omega), e2, show nI k + 1 = nI (k + 1) from nI_1 _]
    by_cases h : N ≤ plc sh k
    · rw [if_pos (by rw [nI_le_i (by omega) (by omega)]; exact h)]
      exact Or.inr ⟨_, rfl, Or.inl ⟨rfl, allB_no hk (okS_no fun q => by omega)⟩⟩
    · rw [if_neg (by rw [nI_le_i (by omega) (by omega)]; exact h), gd_t (inb_n (by omega) (by omega)), gd_t (inb_n (by omega) (by omega)), e1, tnN (by omega), lieX hX (by omega) (by omega) (hli (plc sn k) (by omega)), bind1_def, gd_t (inb_n (by omega) (by omega))]
      by_cases h3 : lieS C W places LL (plc sn k) (plc sh k) = sr k
      · rw [if_pos h3]
        refine Or.inl ⟨_, rfl, rfl, ?_⟩
        show (allB _ k && _) = true
        rw [hs, okS_yes (by omega) h3]; rfl
      · rw [if_neg h3]
        exact Or.inr ⟨_, rfl, Or.inl ⟨rfl, allB_no hk (okS_no fun q => h3 q.2)⟩⟩) (by
    rintro q ⟨rfl, hs⟩
    refine ⟨Sum.inr (), ?_, Or.inr ⟨rfl, hs⟩⟩
    unfold f_X8_agreesWithSights_L2
    rw [if_pos (by rw [nI_le_i (by omega) (by omega)]; omega)]) (by omega) (q := (0 : Int32)) ⟨rfl, rfl⟩
  unfold f_X8_agreesWithSights
  rw [h1]
  rcases h2 with ⟨rfl, e⟩ | ⟨rfl, e⟩
  · rw [e]; rfl
  · rw [e]; rfl
theorem seenLoopM (hX : Ctx C W R N nb nd a f kinds rowAt colAt ways beside places dues bn bt dn dt) (hM : MOK C N nb nd a f kinds places dues bn bt dn dt mc mh ms mb md) (hS : SOK ns sn sh sr mg) {LL : Nat → Nat → Int32} {l : Nat → Int32} (hli : ∀ n, n < 10 → ∀ x, x < W → l (6 * n + x) = LL n x) :
    loopF (fun q : Int32 × Int32 => f_X9_isSeen_L10 (nI C) (nI W) (nI N) (nI ns) mh l mg q.1 q.2) FU (1, 0) = some (b01 (seenB C W N ns places sn sh sr LL)) := by
  have h8 := hX.n8
  have hs8 := hS.1
  refine loop_for (fun k => (b01 (allB (okS C W N places sn sh sr LL) k), nI k)) ns (fun k hk => ?_) ?_ (by omega)
  · dsimp only
    obtain ⟨e1, g1, e2, g2⟩ := hS.at hk
    obtain ⟨m1, m2, m3, -⟩ := hS.2 k hk
    unfold f_X9_isSeen_L10 f_X9_isSeen_b71L10 f_X9_isSeen_b72L10
    rw [if_neg (by rw [nI_le_i (by omega) (by omega)]; omega), show (3 : Int32) * nI k = nI (3 * k) from pk_mul 3 k, show nI (3 * k) + 1 = nI (3 * k + 1) from nI_1 _, show nI (3 * k) + 2 = nI (3 * k + 2) from nI_add _ 2, gd_t (inb_n (by omega) (by omega)), letv_def, tnN (by omega), m2, show nI k + 1 = nI (k + 1) from nI_1 _]
    show _ = some (Sum.inl (b01 (allB (okS C W N places sn sh sr LL) k && okS C W N places sn sh sr LL k), nI (k + 1)))
    cases hb : allB (okS C W N places sn sh sr LL) k
    · rw [b01_0 rfl, if_pos rfl, Bool.false_and]; rfl
    · rw [b01_1 rfl, if_neg one_ne0, Bool.true_and, e2, isHouse_eq]
      rcases isHouse_cases (nI (plc sh k)) (N := N) (by omega) with ⟨q, q2⟩ | ⟨q, j, hj, q2⟩
      · rw [q, bind1_def, if_pos rfl, okS_no (fun z => q2 ⟨_, z.1, rfl⟩)]; rfl
      · rw [nI_eq_i (by omega) (by omega)] at q2
        rw [q, bind1_def, if_neg one_ne0, gd_t (inb_n (by omega) (by omega)), tnN (show 3 * k < 2147483648 by omega), m1, e1, lieM hX hM (by omega) (by omega) (hli (plc sn k) (by omega)), bind1_def, gd_t (inb_n (by omega) (by omega)), tnN (by omega), m3]
        by_cases h3 : lieS C W places LL (plc sn k) (plc sh k) = sr k
        · rw [if_pos h3, okS_yes (by omega) h3]; rfl
        · rw [if_neg h3, okS_no (fun z => h3 z.2)]; rfl
  · dsimp only
    unfold f_X9_isSeen_L10
    rw [if_pos (by rw [nI_le_i (by omega) (by omega)]; omega)]; rfl
theorem isz_b (b : Bool) : isz (b01 b) = true := by cases b <;> rfl
/-- all seen, as the reference asks it: gone bowls, another start -/
theorem isSeenM (hX : Ctx C W R N nb nd a f kinds rowAt colAt ways beside places dues bn bt dn dt) (hM : MOK C N nb nd a f kinds places dues bn bt dn dt mc mh ms mb md) (hS : SOK ns sn sh sr mg) {v : Nat} {ms' : Nat → Int32} (hv : v ≤ 5) (h0 : ms' 0 = nI v) (h1 : ms' 1 = nI f) (gone : Int32) {pr : Nat → Bool} (hpr : ∀ i, i < nb → prM gone i = pr i) (p0 s0 l0 : Nat → Int32) :
    ∃ p s l, f_X9_isSeen (nI C) (nI W) (nI N) (nI nb) (nI nd) gone (nI ns) mc mh ms' mb md p0 s0 l0 mg = some (b01 (seenB C W N ns places sn sh sr (LLs C W R kinds kinds pr nb bn bt nd dn dt v f)), p, s, l) := by
  have hG := hX.grid
  have hb8 := hX.b8
  obtain ⟨hmc, hmh, hs0, hs1, hb, hd⟩ := id hM
  obtain ⟨p, s, l, w1, w2⟩ := lives_eq (C := C) (W := W) (R := R) (nb := nb) (nd := nd) (last := 9) hG.1 hG.2.1 hG.2.2.1 hG.c36 hG.2.2.2 hv hX.2.2.2.2.2.2 (by omega) gone (mc := mc) h0 h1 hb.more hd p0 s0 l0
  have w3 := MNights.congr w2 fun m hm => NLs_congr (L := m) (k' := kinds) (kd' := kinds) (pr' := pr) (nb' := nb) (bn' := bn) (bt' := bt) (nd' := nd) (dn' := dn) (dt' := dt) (a := v) (f := f) hG (fun c hc => by rw [hmc c hc]) hmc (fun m hm c hc => addIf_congr _ fun i hi => bowlT_pr (hpr i hi)) (fun _ _ _ _ => rfl) m (Nat.le_refl _)
  refine ⟨p, s, l, ?_⟩
  unfold f_X9_isSeen
  rw [show (9 : Int32) = nI 9 from rfl, w1, bind3_def, seenLoopM hX hM hS (fun n hn => (w3 n hn).2.2), bind1_def, gd_t (isz_b _)]
/-! bits -/
def bitsI (p : Nat → Bool) : Nat → Int32
  | 0 => 0
  | k + 1 => if p k = true then bitsI p k ||| ((1 : Int32) <<< (nI k &&& 31)) else bitsI p k
theorem i_or0 (x : Int32) : x ||| 0 = x := Int32.or_zero
def nvB (C W R N nb nd ns a f : Nat) (kinds places bn bt dn dt sn sh sr : Nat → Int32) (k : Nat) : Bool := seenB C W N ns places sn sh sr (LLs C W R kinds kinds (fun i => decide (¬ i = k)) nb bn bt nd dn dt a f)
def bgB (C W R N nb nd ns f : Nat) (kinds places bn bt dn dt sn sh sr : Nat → Int32) (v : Nat) : Bool := seenB C W N ns places sn sh sr (LLs C W R kinds kinds (fun _ => true) nb bn bt nd dn dt v f)
theorem prX_one : ∀ i k : Fin 8, prX (((1 : Int32) <<< (nI k.1 &&& 31)) ^^^ (-1 : Int32)) i.1 = decide (¬ i.1 = k.1) := by decide
theorem prM_one : ∀ i k : Fin 8, prM ((1 : Int32) <<< (nI k.1 &&& 31)) i.1 = decide (¬ i.1 = k.1) := by decide
set_option maxHeartbeats 1000000 in
theorem never_x (hX : Ctx C W R N nb nd a f kinds rowAt colAt ways beside places dues bn bt dn dt) (hS : SOK ns sn sh sr mg) (ts tf tp tk : Int32) (st0 fr0 tr0 go0 : Nat → Int32) (td0 : Nat → Int64) (li0 : Nat → Int32) :
    ∃ (c1 c2 c3 c4 : Int32) (c5 c6 c7 c8 : Nat → Int32) (c9 : Nat → Int64) (c10 : Nat → Int32), f_X8_never (nI C) (nI W) (nI R) kinds rowAt colAt ways beside (nI N) places (nI nb) bn bt (nI nd) dn dt (nI ns) sn sh sr (nI a) (nI f) (-1) (-1) ts tf tp tk st0 fr0 tr0 go0 td0 li0 = some (bitsI (nvB C W R N nb nd ns a f kinds places bn bt dn dt sn sh sr) nb, c1, c2, c3, c4, c5, c6, c7, c8, c9, c10) := by
  have hb8 := hX.b8
  have h36 := hX.c36
  obtain ⟨x, h1, h2⟩ := loop_inv (body := fun q : Int32 × Int32 × Int32 × (Nat → Int32) × (Nat → Int32) × (Nat → Int32) × (Nat → Int32) × (Nat → Int64) × (Nat → Int32) => f_X8_never_L15 (nI C) (nI W) (nI R) kinds rowAt colAt ways beside (nI N) places (nI nb) bn bt (nI nd) dn dt (nI ns) sn sh sr (nI a) (nI f) (-1) q.1 q.2.1 q.2.2.1 q.2.2.2.1 q.2.2.2.2.1 q.2.2.2.2.2.1 q.2.2.2.2.2.2.1 q.2.2.2.2.2.2.2.1 q.2.2.2.2.2.2.2.2)
    (fun k q => q.1 = bitsI (nvB C W R N nb nd ns a f kinds places bn bt dn dt sn sh sr) k ∧ q.2.1 = nI k) (fun x => x.1 = bitsI (nvB C W R N nb nd ns a f kinds places bn bt dn dt sn sh sr) nb) nb (by
      rintro k ⟨q1, q2, q3, q4, q5, q6, q7, q8, q9⟩ hk ⟨e1, e2⟩
      dsimp only at e1 e2
      subst e1 e2
      left
      obtain ⟨st, fr, tr, go, td, li, w1, w2, -⟩ := trialX hX (last := 9) (v := a) hX.2.2.2.2.2.1 (by omega) (((1 : Int32) <<< (nI k &&& 31)) ^^^ (-1 : Int32)) (-1) q4 q5 q6 q7 q8 q9
      have hag := agreesX hX hS (LL := LLs C W R kinds kinds (fun i => decide (¬ i = k)) nb bn bt nd dn dt a f) (fun n hn => w2.lines (n := n) (by omega) (NLs_congr (L := n) hX.grid (fun _ _ => Iff.rfl) (fun c hc => rakedK_no _ (by omega)) (fun m hm c hc => addIf_congr _ fun i hi => bowlT_pr (prX_one ⟨i, by omega⟩ ⟨k, by omega⟩)) (fun _ _ _ _ => rfl) n (Nat.le_refl _)).2)
      dsimp only
      unfold f_X8_never_L15 f_X8_never_b60L15
      rw [if_neg (by rw [nI_le_i (by omega) (by omega)]; omega), letv_def, show (9 : Int32) = nI 9 from rfl, w1, bind6_def, hag, bind1_def, letv_def, show nI k + 1 = nI (k + 1) from nI_1 _]
      have es : bitsI (nvB C W R N nb nd ns a f kinds places bn bt dn dt sn sh sr) (k + 1) = if nvB C W R N nb nd ns a f kinds places bn bt dn dt sn sh sr k = true then bitsI (nvB C W R N nb nd ns a f kinds places bn bt dn dt sn sh sr) k ||| ((1 : Int32) <<< (nI k &&& 31)) else bitsI (nvB C W R N nb nd ns a f kinds places bn bt dn dt sn sh sr) k := rfl
      cases hb : nvB C W R N nb nd ns a f kinds places bn bt dn dt sn sh sr k
      · rw [b01_0 (show seenB _ _ _ _ _ _ _ _ _ = false from hb), if_pos rfl]
        refine ⟨_, rfl, ?_, rfl⟩
        rw [es, hb]; rfl
      · rw [b01_1 (show seenB _ _ _ _ _ _ _ _ _ = true from hb), if_neg one_ne0]
        refine ⟨_, rfl, ?_, rfl⟩
        rw [es, hb]; rfl) (by
      rintro ⟨q1, q2, q3⟩ ⟨e1, e2⟩
      dsimp only at e1 e2
      subst e1 e2
      dsimp only
      unfold f_X8_never_L15
      rw [if_pos (by rw [nI_le_i (by omega) (by omega)]; omega)]
      exact ⟨_, rfl, rfl⟩) (by omega) (q := (0, 0, -1, st0, fr0, tr0, go0, td0, li0)) ⟨rfl, rfl⟩
  unfold f_X8_never f_X7_becomeLike
  rw [bind4_def, h1]
  obtain ⟨x1, x2, x3, x4, x5, x6, x7, x8⟩ := x
  dsimp only at h2
  subst h2
  exact ⟨_, _, _, _, _, _, _, _, _, _, rfl⟩
set_option maxHeartbeats 1000000 in
theorem began_x (hX : Ctx C W R N nb nd a f kinds rowAt colAt ways beside places dues bn bt dn dt) (hS : SOK ns sn sh sr mg) (ts tf tp tk : Int32) (st0 fr0 tr0 go0 : Nat → Int32) (td0 : Nat → Int64) (li0 : Nat → Int32) :
    ∃ (c1 c2 c3 c4 : Int32) (c5 c6 c7 c8 : Nat → Int32) (c9 : Nat → Int64) (c10 : Nat → Int32), f_X8_began (nI C) (nI W) (nI R) kinds rowAt colAt ways beside (nI N) places (nI nb) bn bt (nI nd) dn dt (nI ns) sn sh sr (nI a) (nI f) (-1) (-1) ts tf tp tk st0 fr0 tr0 go0 td0 li0 = some (bitsI (bgB C W R N nb nd ns f kinds places bn bt dn dt sn sh sr) 6, c1, c2, c3, c4, c5, c6, c7, c8, c9, c10) := by
  have hb8 := hX.b8
  have h36 := hX.c36
  obtain ⟨x, h1, h2⟩ := loop_inv (body := fun q : Int32 × Int32 × Int32 × (Nat → Int32) × (Nat → Int32) × (Nat → Int32) × (Nat → Int32) × (Nat → Int64) × (Nat → Int32) => f_X8_began_L15 (nI C) (nI W) (nI R) kinds rowAt colAt ways beside (nI N) places (nI nb) bn bt (nI nd) dn dt (nI ns) sn sh sr (nI f) (-1) (-1) q.1 q.2.1 q.2.2.1 q.2.2.2.1 q.2.2.2.2.1 q.2.2.2.2.2.1 q.2.2.2.2.2.2.1 q.2.2.2.2.2.2.2.1 q.2.2.2.2.2.2.2.2)
    (fun k q => q.1 = bitsI (bgB C W R N nb nd ns f kinds places bn bt dn dt sn sh sr) k ∧ q.2.1 = nI k) (fun x => x.1 = bitsI (bgB C W R N nb nd ns f kinds places bn bt dn dt sn sh sr) 6) 6 (by
      rintro k ⟨q1, q2, q3, q4, q5, q6, q7, q8, q9⟩ hk ⟨e1, e2⟩
      dsimp only at e1 e2
      subst e1 e2
      left
      obtain ⟨st, fr, tr, go, td, li, w1, w2, -⟩ := trialX hX (last := 9) (v := k) (by omega) (by omega) (-1) (-1) q4 q5 q6 q7 q8 q9
      have hag := agreesX hX hS (LL := LLs C W R kinds kinds (fun _ => true) nb bn bt nd dn dt k f) (fun n hn => w2.lines (n := n) (by omega) (LLs_all hX (L := n) (fun i hi => prX_all ⟨i, by omega⟩) (fun c hc => rakedK_no _ (by omega)) n (Nat.le_refl _)).2)
      dsimp only
      unfold f_X8_began_L15 f_X8_began_b51L15
      rw [if_neg (by rw [show (6 : Int32) = nI 6 from rfl, nI_le_i (by omega) (by omega)]; omega), show (9 : Int32) = nI 9 from rfl, w1, bind6_def, hag, bind1_def, letv_def, show nI k + 1 = nI (k + 1) from nI_1 _]
      have es : bitsI (bgB C W R N nb nd ns f kinds places bn bt dn dt sn sh sr) (k + 1) = if bgB C W R N nb nd ns f kinds places bn bt dn dt sn sh sr k = true then bitsI (bgB C W R N nb nd ns f kinds places bn bt dn dt sn sh sr) k ||| ((1 : Int32) <<< (nI k &&& 31)) else bitsI (bgB C W R N nb nd ns f kinds places bn bt dn dt sn sh sr) k := rfl
      cases hb : bgB C W R N nb nd ns f kinds places bn bt dn dt sn sh sr k
      · rw [b01_0 (show seenB _ _ _ _ _ _ _ _ _ = false from hb), if_pos rfl]
        refine ⟨_, rfl, ?_, rfl⟩
        rw [es, hb]; rfl
      · rw [b01_1 (show seenB _ _ _ _ _ _ _ _ _ = true from hb), if_neg one_ne0]
        refine ⟨_, rfl, ?_, rfl⟩
        rw [es, hb]; rfl) (by
      rintro ⟨q1, q2, q3⟩ ⟨e1, e2⟩
      dsimp only at e1 e2
      subst e1 e2
      dsimp only
      unfold f_X8_began_L15
      rw [if_pos (by decide)]
      exact ⟨_, rfl, rfl⟩) (by omega) (q := (0, 0, nI a, st0, fr0, tr0, go0, td0, li0)) ⟨rfl, rfl⟩
  unfold f_X8_began f_X7_becomeLike
  rw [bind4_def, h1]
  obtain ⟨x1, x2, x3, x4, x5, x6, x7, x8⟩ := x
  dsimp only at h2
  subst h2
  exact ⟨_, _, _, _, _, _, _, _, _, _, rfl⟩
set_option maxHeartbeats 1000000 in
theorem neverM (hX : Ctx C W R N nb nd a f kinds rowAt colAt ways beside places dues bn bt dn dt) (hM : MOK C N nb nd a f kinds places dues bn bt dn dt mc mh ms mb md) (hS : SOK ns sn sh sr mg) (p0 s0 l0 : Nat → Int32) :
    ∃ p s l, f_X9_neverNow (nI C) (nI W) (nI N) (nI nb) (nI nd) 0 (nI ns) mc mh ms mb md p0 s0 l0 mg = some (bitsI (nvB C W R N nb nd ns a f kinds places bn bt dn dt sn sh sr) nb, 0, p, s, l) := by
  have hb8 := hX.b8
  obtain ⟨x, h1, h2⟩ := loop_inv (body := fun q : Int32 × Int32 × Int32 × (Nat → Int32) × (Nat → Int32) × (Nat → Int32) => f_X9_neverNow_L4 (nI C) (nI W) (nI N) (nI nb) (nI nd) (nI ns) mc mh ms mb md mg q.1 q.2.1 q.2.2.1 q.2.2.2.1 q.2.2.2.2.1 q.2.2.2.2.2)
    (fun k q => q.1 = bitsI (nvB C W R N nb nd ns a f kinds places bn bt dn dt sn sh sr) k ∧ q.2.1 = nI k) (fun x => x.1 = bitsI (nvB C W R N nb nd ns a f kinds places bn bt dn dt sn sh sr) nb) nb (by
      rintro k ⟨q1, q2, q3, q4, q5, q6⟩ hk ⟨e1, e2⟩
      dsimp only at e1 e2
      subst e1 e2
      left
      obtain ⟨p, s, l, w⟩ := isSeenM hX hM hS hX.2.2.2.2.2.1 hM.2.2.1 hM.2.2.2.1 ((1 : Int32) <<< (nI k &&& 31)) (pr := fun i => decide (¬ i = k)) (fun i hi => prM_one ⟨i, by omega⟩ ⟨k, by omega⟩) q4 q5 q6
      dsimp only
      unfold f_X9_neverNow_L4 f_X9_neverNow_b34L4
      rw [if_neg (by rw [nI_le_i (by omega) (by omega)]; omega), letv_def, w, bind4_def, letv_def, letv_def, show nI k + 1 = nI (k + 1) from nI_1 _]
      have es : bitsI (nvB C W R N nb nd ns a f kinds places bn bt dn dt sn sh sr) (k + 1) = if nvB C W R N nb nd ns a f kinds places bn bt dn dt sn sh sr k = true then bitsI (nvB C W R N nb nd ns a f kinds places bn bt dn dt sn sh sr) k ||| ((1 : Int32) <<< (nI k &&& 31)) else bitsI (nvB C W R N nb nd ns a f kinds places bn bt dn dt sn sh sr) k := rfl
      cases hb : nvB C W R N nb nd ns a f kinds places bn bt dn dt sn sh sr k
      · rw [b01_0 (show seenB _ _ _ _ _ _ _ _ _ = false from hb), if_pos rfl]
        refine ⟨_, rfl, ?_, rfl⟩
        rw [es, hb]; exact i_or0 _
      · rw [b01_1 (show seenB _ _ _ _ _ _ _ _ _ = true from hb), if_neg one_ne0]
        refine ⟨_, rfl, ?_, rfl⟩
        rw [es, hb]; rfl) (by
      rintro ⟨q1, q2, q3⟩ ⟨e1, e2⟩
      dsimp only at e1 e2
      subst e1 e2
      dsimp only
      unfold f_X9_neverNow_L4
      rw [if_pos (by rw [nI_le_i (by omega) (by omega)]; omega)]
      exact ⟨_, rfl, rfl⟩) (by omega) (q := (0, 0, 0, p0, s0, l0)) ⟨rfl, rfl⟩
  unfold f_X9_neverNow
  rw [h1]
  obtain ⟨x1, x2, x3, x4, x5⟩ := x
  dsimp only at h2
  subst h2
  exact ⟨_, _, _, rfl⟩
theorem set_back {g g' : Nat → Int32} (h : ∀ j, j ≠ 0 → g' j = g j) : upd g' 0 (g 0) = g := by
  funext j
  by_cases e : j = 0
  · rw [e, upd_at]
  · rw [upd_ne _ _ e, h j e]
set_option maxHeartbeats 1000000 in
theorem beganM (hX : Ctx C W R N nb nd a f kinds rowAt colAt ways beside places dues bn bt dn dt) (hM : MOK C N nb nd a f kinds places dues bn bt dn dt mc mh ms mb md) (hS : SOK ns sn sh sr mg) (p0 s0 l0 : Nat → Int32) :
    ∃ p s l, f_X9_beganNow (nI C) (nI W) (nI N) (nI nb) (nI nd) 0 (nI ns) mc mh ms mb md p0 s0 l0 mg = some (bitsI (bgB C W R N nb nd ns f kinds places bn bt dn dt sn sh sr) 6, ms, p, s, l) := by
  have hb8 := hX.b8
  obtain ⟨x, h1, h2⟩ := loop_inv (body := fun q : Int32 × Int32 × (Nat → Int32) × (Nat → Int32) × (Nat → Int32) × (Nat → Int32) => f_X9_beganNow_L11 (nI C) (nI W) (nI N) (nI nb) (nI nd) 0 (nI ns) mc mh mb md mg q.1 q.2.1 q.2.2.1 q.2.2.2.1 q.2.2.2.2.1 q.2.2.2.2.2)
    (fun k q => q.1 = bitsI (bgB C W R N nb nd ns f kinds places bn bt dn dt sn sh sr) k ∧ q.2.1 = nI k ∧ ∀ j, j ≠ 0 → q.2.2.1 j = ms j) (fun x => x.1 = bitsI (bgB C W R N nb nd ns f kinds places bn bt dn dt sn sh sr) 6 ∧ ∀ j, j ≠ 0 → x.2.1 j = ms j) 6 (by
      rintro k ⟨q1, q2, q3, q4, q5, q6⟩ hk ⟨e1, e2, e3⟩
      dsimp only at e1 e2 e3
      subst e1 e2
      left
      obtain ⟨p, s, l, w⟩ := isSeenM hX hM hS (v := k) (ms' := upd q3 0 (nI k)) (by omega) (upd_at _ _ _) (by rw [upd_ne _ _ (by omega), e3 1 (by omega)]; exact hM.2.2.2.1) 0 (pr := fun _ => true) (fun i hi => prM_all ⟨i, by omega⟩) q4 q5 q6
      dsimp only
      unfold f_X9_beganNow_L11 f_X9_beganNow_b39L11
      rw [if_neg (by rw [show (6 : Int32) = nI 6 from rfl, nI_le_i (by omega) (by omega)]; omega), tn_0, w, bind4_def, letv_def, letv_def, show nI k + 1 = nI (k + 1) from nI_1 _]
      have es : bitsI (bgB C W R N nb nd ns f kinds places bn bt dn dt sn sh sr) (k + 1) = if bgB C W R N nb nd ns f kinds places bn bt dn dt sn sh sr k = true then bitsI (bgB C W R N nb nd ns f kinds places bn bt dn dt sn sh sr) k ||| ((1 : Int32) <<< (nI k &&& 31)) else bitsI (bgB C W R N nb nd ns f kinds places bn bt dn dt sn sh sr) k := rfl
      have e3' : ∀ j, j ≠ 0 → upd q3 0 (nI k) j = ms j := fun j hj => by rw [upd_ne _ _ hj]; exact e3 j hj
      cases hb : bgB C W R N nb nd ns f kinds places bn bt dn dt sn sh sr k
      · rw [b01_0 (show seenB _ _ _ _ _ _ _ _ _ = false from hb), if_pos rfl]
        refine ⟨_, rfl, ?_, rfl, e3'⟩
        rw [es, hb]; exact i_or0 _
      · rw [b01_1 (show seenB _ _ _ _ _ _ _ _ _ = true from hb), if_neg one_ne0]
        refine ⟨_, rfl, ?_, rfl, e3'⟩
        rw [es, hb]; rfl) (by
      rintro ⟨q1, q2, q3, q4⟩ ⟨e1, e2, e3⟩
      dsimp only at e1 e2 e3
      subst e1 e2
      dsimp only
      unfold f_X9_beganNow_L11
      rw [if_pos (by decide)]
      exact ⟨_, rfl, rfl, e3⟩) (by omega) (q := (0, 0, ms, p0, s0, l0)) ⟨rfl, rfl, fun _ _ => rfl⟩
  unfold f_X9_beganNow
  rw [letv_def, tn_0, h1]
  obtain ⟨x1, x2, x3, x4, x5⟩ := x
  dsimp only at h2
  obtain ⟨h2, h3⟩ := h2
  subst h2
  rw [bind5_def, set_back h3]
  exact ⟨_, _, _, rfl⟩
