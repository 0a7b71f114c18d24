variable {C W R N nb nd ns a f : Nat} {kinds rowAt colAt ways beside places dues bn bt dn dt sn sh sr mc mh ms mb md mg : Nat → Int32}
/-- houses, one after the other: the chances' numbers by a choice -/
def housesV (C W R N nb nd a f : Nat) (kinds places dues bn bt dn dt : Nat → Int32) (xf : Nat → Nat × Nat) (hh : Int64) : Nat → Int64
  | 0 => hh
  | k + 1 => houseV (housesV C W R N nb nd a f kinds places dues bn bt dn dt xf hh k) (places k) (dues k) (lieS C W places (LLs C W R kinds kinds (fun _ => true) nb bn bt nd dn dt a f) 0 k) (lieS C W places (LLs C W R kinds kinds (fun _ => true) nb bn bt nd dn dt a f) 9 k) (chS (fun n => lieS C W places (LLs C W R kinds kinds (fun _ => true) nb bn bt nd dn dt a f) n k) 9) (layA C W R nb nd a f kinds bn bt dn dt 3 (plc places k) (nI 0) (-1)) (layA C W R nb nd a f kinds bn bt dn dt 3 (plc places k) (nI 0) 0) (lk (fstB (rkP C W R nb nd a f kinds bn bt dn dt 3 (plc places k) (nI 1)) C 0)) (lN (xf k).1) (lN (2 ^ (xf k).2))
set_option maxHeartbeats 2000000 in
theorem housesX (hX : Ctx C W R N nb nd a f kinds rowAt colAt ways beside places dues bn bt dn dt) {sl : Int32} {st0 fr0 tr0 go0 li0 st fr tr go li : Nat → Int32} {td0 td : Nat → Int64} (hT : f_X8_told sl (nI C) (nI W) (nI R) kinds rowAt colAt ways beside (nI nb) bn bt (nI nd) dn dt (nI a) (nI f) (-1) (-1) st0 fr0 tr0 go0 td0 li0 = some (0, st, fr, tr, go, td, li)) (hC : CNights W 10 (NLs C W R kinds kinds (fun _ => true) nb bn bt nd dn dt a f) (LLs C W R kinds kinds (fun _ => true) nb bn bt nd dn dt a f) tr go td li) {xf : Nat → Nat × Nat} {wh : Int64} {sh : Nat → Int64} (hred : ∀ k, k < N → ∀ ab be, f_X0_reduce wh ab be sh (nI k) = some (lN (xf k).1, lN (2 ^ (xf k).2))) (ts tf tp tk : Int32) (st1 fr1 tr1 go1 : Nat → Int32) (td1 : Nat → Int64) (li1 : Nat → Int32) (ln lo lt : Int32) (ab be hh : Int64) :
    ∃ (s' : Int32) (w1 w2 w3 w4 : Nat → Int32) (w5 : Nat → Int64) (w6 : Nat → Int32) (c1 c2 c3 c4 : Int32) (c5 c6 c7 c8 : Nat → Int32) (c9 : Nat → Int64) (c10 : Nat → Int32) (c11 c12 c13 : Int32) (c14 c15 : Int64), loopF (fun q : Int64 × Int32 × Int32 × (Nat → Int32) × (Nat → Int32) × (Nat → Int32) × (Nat → Int32) × (Nat → Int64) × (Nat → Int32) × Int32 × Int32 × Int32 × Int32 × (Nat → Int32) × (Nat → Int32) × (Nat → Int32) × (Nat → Int32) × (Nat → Int64) × (Nat → Int32) × Int32 × Int32 × Int32 × Int64 × Int64 => f_X8_digest_L109 (nI C) (nI W) (nI R) kinds rowAt colAt ways beside (nI N) places dues (nI nb) bn bt (nI nd) dn dt (nI a) (nI f) (-1) (-1) wh sh q.1 q.2.1 q.2.2.1 q.2.2.2.1 q.2.2.2.2.1 q.2.2.2.2.2.1 q.2.2.2.2.2.2.1 q.2.2.2.2.2.2.2.1 q.2.2.2.2.2.2.2.2.1 q.2.2.2.2.2.2.2.2.2.1 q.2.2.2.2.2.2.2.2.2.2.1 q.2.2.2.2.2.2.2.2.2.2.2.1 q.2.2.2.2.2.2.2.2.2.2.2.2.1 q.2.2.2.2.2.2.2.2.2.2.2.2.2.1 q.2.2.2.2.2.2.2.2.2.2.2.2.2.2.1 q.2.2.2.2.2.2.2.2.2.2.2.2.2.2.2.1 q.2.2.2.2.2.2.2.2.2.2.2.2.2.2.2.2.1 q.2.2.2.2.2.2.2.2.2.2.2.2.2.2.2.2.2.1 q.2.2.2.2.2.2.2.2.2.2.2.2.2.2.2.2.2.2.1 q.2.2.2.2.2.2.2.2.2.2.2.2.2.2.2.2.2.2.2.1 q.2.2.2.2.2.2.2.2.2.2.2.2.2.2.2.2.2.2.2.2.1 q.2.2.2.2.2.2.2.2.2.2.2.2.2.2.2.2.2.2.2.2.2.1 q.2.2.2.2.2.2.2.2.2.2.2.2.2.2.2.2.2.2.2.2.2.2.1 q.2.2.2.2.2.2.2.2.2.2.2.2.2.2.2.2.2.2.2.2.2.2.2) FU (hh, 0, sl, st0, fr0, tr0, go0, td0, li0, ts, tf, tp, tk, st1, fr1, tr1, go1, td1, li1, ln, lo, lt, ab, be) = some (housesV C W R N nb nd a f kinds places dues bn bt dn dt xf hh N, s', w1, w2, w3, w4, w5, w6, c1, c2, c3, c4, c5, c6, c7, c8, c9, c10, c11, c12, c13, c14, c15) ∧ f_X8_told s' (nI C) (nI W) (nI R) kinds rowAt colAt ways beside (nI nb) bn bt (nI nd) dn dt (nI a) (nI f) (-1) (-1) w1 w2 w3 w4 w5 w6 = some (0, st, fr, tr, go, td, li) := by
  have h8 := hX.n8
  obtain ⟨x, h1, h2⟩ := loop_inv (body := fun q : Int64 × Int32 × Int32 × (Nat → Int32) × (Nat → Int32) × (Nat → Int32) × (Nat → Int32) × (Nat → Int64) × (Nat → Int32) × Int32 × Int32 × Int32 × Int32 × (Nat → Int32) × (Nat → Int32) × (Nat → Int32) × (Nat → Int32) × (Nat → Int64) × (Nat → Int32) × Int32 × Int32 × Int32 × Int64 × Int64 => f_X8_digest_L109 (nI C) (nI W) (nI R) kinds rowAt colAt ways beside (nI N) places dues (nI nb) bn bt (nI nd) dn dt (nI a) (nI f) (-1) (-1) wh sh q.1 q.2.1 q.2.2.1 q.2.2.2.1 q.2.2.2.2.1 q.2.2.2.2.2.1 q.2.2.2.2.2.2.1 q.2.2.2.2.2.2.2.1 q.2.2.2.2.2.2.2.2.1 q.2.2.2.2.2.2.2.2.2.1 q.2.2.2.2.2.2.2.2.2.2.1 q.2.2.2.2.2.2.2.2.2.2.2.1 q.2.2.2.2.2.2.2.2.2.2.2.2.1 q.2.2.2.2.2.2.2.2.2.2.2.2.2.1 q.2.2.2.2.2.2.2.2.2.2.2.2.2.2.1 q.2.2.2.2.2.2.2.2.2.2.2.2.2.2.2.1 q.2.2.2.2.2.2.2.2.2.2.2.2.2.2.2.2.1 q.2.2.2.2.2.2.2.2.2.2.2.2.2.2.2.2.2.1 q.2.2.2.2.2.2.2.2.2.2.2.2.2.2.2.2.2.2.1 q.2.2.2.2.2.2.2.2.2.2.2.2.2.2.2.2.2.2.2.1 q.2.2.2.2.2.2.2.2.2.2.2.2.2.2.2.2.2.2.2.2.1 q.2.2.2.2.2.2.2.2.2.2.2.2.2.2.2.2.2.2.2.2.2.1 q.2.2.2.2.2.2.2.2.2.2.2.2.2.2.2.2.2.2.2.2.2.2.1 q.2.2.2.2.2.2.2.2.2.2.2.2.2.2.2.2.2.2.2.2.2.2.2)
    (fun k q => ∃ s' w1 w2 w3 w4 w5 w6 y, q = (housesV C W R N nb nd a f kinds places dues bn bt dn dt xf hh k, nI k, s', w1, w2, w3, w4, w5, w6, y) ∧ f_X8_told s' (nI C) (nI W) (nI R) kinds rowAt colAt ways beside (nI nb) bn bt (nI nd) dn dt (nI a) (nI f) (-1) (-1) w1 w2 w3 w4 w5 w6 = some (0, st, fr, tr, go, td, li)) (fun x => ∃ s' w1 w2 w3 w4 w5 w6 y, x = (housesV C W R N nb nd a f kinds places dues bn bt dn dt xf hh N, s', w1, w2, w3, w4, w5, w6, y) ∧ f_X8_told s' (nI C) (nI W) (nI R) kinds rowAt colAt ways beside (nI nb) bn bt (nI nd) dn dt (nI a) (nI f) (-1) (-1) w1 w2 w3 w4 w5 w6 = some (0, st, fr, tr, go, td, li)) N (by
      rintro k q hk ⟨s', w1, w2, w3, w4, w5, w6, ⟨y1, y2, y3, y4, y5, y6, y7, y8, y9, y10, y11, y12, y13, y14, y15⟩, rfl, ht⟩
      left
      obtain ⟨z1, z2, z3, z4, z5, z6, z7, z8, z9, z10, z11, z12, z13, e⟩ := mixHouse_x hX ht hC hk y14 y15 (hred k hk y14 y15) y1 y2 y3 y4 y5 y6 y7 y8 y9 y10 y11 y12 y13 (housesV C W R N nb nd a f kinds places dues bn bt dn dt xf hh k)
      dsimp only
      unfold f_X8_digest_L109
      rw [if_neg (by rw [nI_le_i (by omega) (by omega)]; omega), e, bind23_def, show nI k + 1 = nI (k + 1) from nI_1 _]
      exact ⟨_, rfl, 0, st, fr, tr, go, td, li, _, rfl, told_T⟩) (by
      rintro q ⟨s', w1, w2, w3, w4, w5, w6, ⟨y1, y2, y3, y4, y5, y6, y7, y8, y9, y10, y11, y12, y13, y14, y15⟩, rfl, ht⟩
      dsimp only
      unfold f_X8_digest_L109
      rw [if_pos (by rw [nI_le_i (by omega) (by omega)]; omega)]
      exact ⟨_, rfl, s', w1, w2, w3, w4, w5, w6, _, rfl, ht⟩) (by omega) (q := (hh, 0, sl, st0, fr0, tr0, go0, td0, li0, ts, tf, tp, tk, st1, fr1, tr1, go1, td1, li1, ln, lo, lt, ab, be)) ⟨sl, st0, fr0, tr0, go0, td0, li0, _, rfl, hT⟩
  obtain ⟨s', w1, w2, w3, w4, w5, w6, ⟨y1, y2, y3, y4, y5, y6, y7, y8, y9, y10, y11, y12, y13, y14, y15⟩, rfl, ht⟩ := h2
  exact ⟨s', w1, w2, w3, w4, w5, w6, y1, y2, y3, y4, y5, y6, y7, y8, y9, y10, y11, y12, y13, y14, y15, h1, ht⟩
set_option maxHeartbeats 1000000 in
theorem housesM (hX : Ctx C W R N nb nd a f kinds rowAt colAt ways beside places dues bn bt dn dt) (hM : MOK C N nb nd a f kinds places dues bn bt dn dt mc mh ms mb md) {xf : Nat → Nat × Nat} (hlow : ∀ k, k < N → Lowest (trB 5 (16 - 5) (matB C f nb bn bt 4) nb (chF C W R nb nd a f kinds places bn bt dn dt 4 k (nI 0))) (cntB (matB C f nb bn bt 4) nb) (xf k).1 (xf k).2) (p0 s0 l0 : Nat → Int32) (hh : Int64) :
    ∃ mb' p s l, loopF (fun q : Int64 × Int32 × Int32 × Int32 × (Nat → Int32) × (Nat → Int32) × (Nat → Int32) × (Nat → Int32) × (Nat → Int32) => f_X9_digest_L116 (nI C) (nI W) (nI N) (nI nd) mh ms md q.1 q.2.1 q.2.2.1 q.2.2.2.1 q.2.2.2.2.1 q.2.2.2.2.2.1 q.2.2.2.2.2.2.1 q.2.2.2.2.2.2.2.1 q.2.2.2.2.2.2.2.2) FU (hh, 0, nI nb, 0, mc, mb, p0, s0, l0) = some (housesV C W R N nb nd a f kinds places dues bn bt dn dt xf hh N, nI nb, 0, mc, mb', p, s, l) ∧ RowOK 8 nb mb' bn bt := by
  have h8 := hX.n8
  obtain ⟨x, h1, h2⟩ := loop_inv (body := fun q : Int64 × Int32 × Int32 × Int32 × (Nat → Int32) × (Nat → Int32) × (Nat → Int32) × (Nat → Int32) × (Nat → Int32) => f_X9_digest_L116 (nI C) (nI W) (nI N) (nI nd) mh ms md q.1 q.2.1 q.2.2.1 q.2.2.2.1 q.2.2.2.2.1 q.2.2.2.2.2.1 q.2.2.2.2.2.2.1 q.2.2.2.2.2.2.2.1 q.2.2.2.2.2.2.2.2)
    (fun k q => ∃ mb' p s l, q = (housesV C W R N nb nd a f kinds places dues bn bt dn dt xf hh k, nI k, nI nb, 0, mc, mb', p, s, l) ∧ RowOK 8 nb mb' bn bt) (fun x => ∃ mb' p s l, x = (housesV C W R N nb nd a f kinds places dues bn bt dn dt xf hh N, nI nb, 0, mc, mb', p, s, l) ∧ RowOK 8 nb mb' bn bt) N (by
      rintro k q hk ⟨mb1, p, s, l, rfl, hb⟩
      left
      obtain ⟨mb2, p2, s2, l2, e, hb2⟩ := tellsHouse_m hX (hM.bowls hb) hk (hlow k hk) p s l (housesV C W R N nb nd a f kinds places dues bn bt dn dt xf hh k)
      dsimp only
      unfold f_X9_digest_L116
      rw [if_neg (by rw [nI_le_i (by omega) (by omega)]; omega), e, bind8_def, show nI k + 1 = nI (k + 1) from nI_1 _]
      exact ⟨_, rfl, mb2, p2, s2, l2, rfl, hb2⟩) (by
      rintro q ⟨mb1, p, s, l, rfl, hb⟩
      dsimp only
      unfold f_X9_digest_L116
      rw [if_pos (by rw [nI_le_i (by omega) (by omega)]; omega)]
      exact ⟨_, rfl, mb1, p, s, l, rfl, hb⟩) (by omega) (q := (hh, 0, nI nb, 0, mc, mb, p0, s0, l0)) ⟨mb, p0, s0, l0, rfl, hM.2.2.2.2.1⟩
  obtain ⟨mb1, p, s, l, rfl, hb⟩ := h2
  exact ⟨mb1, p, s, l, h1, hb⟩
def liveV (C W R N nb nd a f : Nat) (kinds places bn bt dn dt : Nat → Int32) (k : Nat) : Int32 := if nI (k % 2) = 0 then (liv (built kinds places N) (fun c => nin (fun n => realmS C W (LLs C W R kinds kinds (fun _ => true) nb bn bt nd dn dt a f) n c) (nI (k / 2)) 10) C).1 else (liv (built kinds places N) (fun c => nin (fun n => realmS C W (LLs C W R kinds kinds (fun _ => true) nb bn bt nd dn dt a f) n c) (nI (k / 2)) 10) C).2
theorem livesLoopM (hX : Ctx C W R N nb nd a f kinds rowAt colAt ways beside places dues bn bt dn dt) (hM : MOK C N nb nd a f kinds places dues bn bt dn dt mc mh ms mb md) (p0 s0 l0 : Nat → Int32) (hh : Int64) : ∃ p s l, loopF (fun q : Int64 × Int32 × (Nat → Int32) × (Nat → Int32) × (Nat → Int32) => f_X9_digest_L189 (nI C) (nI W) (nI N) (nI nb) (nI nd) 0 mc mh ms mb md q.1 q.2.1 q.2.2.1 q.2.2.2.1 q.2.2.2.2) FU (hh, 0, p0, s0, l0) = some (colV hh (liveV C W R N nb nd a f kinds places bn bt dn dt) 4, p, s, l) := by
  obtain ⟨x, h1, h2⟩ := loop_inv (body := fun q : Int64 × Int32 × (Nat → Int32) × (Nat → Int32) × (Nat → Int32) => f_X9_digest_L189 (nI C) (nI W) (nI N) (nI nb) (nI nd) 0 mc mh ms mb md q.1 q.2.1 q.2.2.1 q.2.2.2.1 q.2.2.2.2)
    (fun k q => q.1 = colV hh (liveV C W R N nb nd a f kinds places bn bt dn dt) k ∧ q.2.1 = nI k) (fun x => x.1 = colV hh (liveV C W R N nb nd a f kinds places bn bt dn dt) 4) 4 (by
      rintro k ⟨q1, q2, q3, q4, q5⟩ hk ⟨e1, e2⟩
      dsimp only at e1 e2
      subst e1 e2
      left
      obtain ⟨p, s, l, e, -⟩ := liveM hX hM (nI (k / 2)) (nI (k % 2)) q3 q4 q5
      dsimp only
      unfold f_X9_digest_L189
      rw [if_neg (by rw [show (4 : Int32) = nI 4 from rfl, nI_le_i (by omega) (by omega)]; omega), show nI k - nI k / (2 : Int32) * (2 : Int32) = nI (k % 2) from pk_rem (d := 2) (by omega) (by omega) (by omega), show nI k / (2 : Int32) = nI (k / 2) from pk_div (d := 2) (by omega) (by omega) (by omega), e, bind4_def, letv_def, show nI k + 1 = nI (k + 1) from nI_1 _]
      exact ⟨_, rfl, rfl, rfl⟩) (by
      rintro ⟨q1, q2, q3⟩ ⟨e1, e2⟩
      dsimp only at e1 e2
      subst e1 e2
      dsimp only
      unfold f_X9_digest_L189
      rw [if_pos (by decide)]
      exact ⟨_, rfl, rfl⟩) (by omega) (q := (hh, 0, p0, s0, l0)) ⟨rfl, rfl⟩
  obtain ⟨x1, x2, x3, x4⟩ := x
  dsimp only at h2
  subst h2
  exact ⟨x2, x3, x4, h1⟩
