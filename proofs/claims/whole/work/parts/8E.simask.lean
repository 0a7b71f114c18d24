variable {C W R N nb nd ns a f : Nat} {kinds rowAt colAt ways beside places dues bn bt dn dt sn sh sr mc mh ms mb md mg : Nat → Int32}
theorem fill32 (t : Nat → Int32) : ∃ g, f_J7_fill_53178 32 t 0 = some g ∧ ∀ i, i < 32 → g i = 0 := by
  obtain ⟨x, h1, h2⟩ := loop_inv (body := fun q : Int32 × (Nat → Int32) => f_J7_fill_53178_L5 32 0 (nI 32) q.1 q.2) (fun k q => q.1 = nI k ∧ ∀ i, i < k → q.2 i = 0) (fun g => ∀ i, i < 32 → g i = 0) 32 (by
    rintro k ⟨q1, q2⟩ hk ⟨e1, e2⟩
    dsimp only at e1 e2
    subst e1
    left
    dsimp only
    unfold f_J7_fill_53178_L5
    rw [if_neg (by rw [nI_le_i (by omega) (by omega)]; omega), gd_t (inb_n (by omega) (by omega)), tnN (by omega), show nI k + 1 = nI (k + 1) from nI_1 _]
    refine ⟨_, rfl, rfl, fun i hi => ?_⟩
    dsimp only
    by_cases e : i = k
    · rw [e, upd_at]
    · rw [upd_ne _ _ e]; exact e2 i (by omega)) (by
    rintro ⟨q1, q2⟩ ⟨e1, e2⟩
    dsimp only at e1 e2
    subst e1
    dsimp only
    unfold f_J7_fill_53178_L5
    rw [if_pos (by decide)]
    exact ⟨_, rfl, e2⟩) (by omega) (q := (0, t)) ⟨rfl, fun i hi => absurd hi (Nat.not_lt_zero _)⟩
  refine ⟨x, ?_, h2⟩
  unfold f_J7_fill_53178
  rw [letv_def, show Int32.ofNat 32 = nI 32 from rfl, h1]; rfl
theorem fill32M (t : Nat → Int32) : ∃ g, loopF (fun q : Int32 × (Nat → Int32) => f_X9_askOf_L15 q.1 q.2) FU (0, t) = some g ∧ ∀ i, i < 32 → g i = 0 :=
  loop_inv (body := fun q : Int32 × (Nat → Int32) => f_X9_askOf_L15 q.1 q.2) (fun k q => q.1 = nI k ∧ ∀ i, i < k → q.2 i = 0) (fun g => ∀ i, i < 32 → g i = 0) 32 (by
    rintro k ⟨q1, q2⟩ hk ⟨e1, e2⟩
    dsimp only at e1 e2
    subst e1
    left
    dsimp only
    unfold f_X9_askOf_L15
    rw [if_neg (by rw [show (32 : Int32) = nI 32 from rfl, nI_le_i (by omega) (by omega)]; omega), gd_t (inb_n (by omega) (by omega)), tnN (by omega), show nI k + 1 = nI (k + 1) from nI_1 _]
    refine ⟨_, rfl, rfl, fun i hi => ?_⟩
    dsimp only
    by_cases e : i = k
    · rw [e, upd_at]
    · rw [upd_ne _ _ e]; exact e2 i (by omega)) (by
    rintro ⟨q1, q2⟩ ⟨e1, e2⟩
    dsimp only at e1 e2
    subst e1
    dsimp only
    unfold f_X9_askOf_L15
    rw [if_pos (by decide)]
    exact ⟨_, rfl, e2⟩) (by omega) (q := (0, t)) ⟨rfl, fun i hi => absurd hi (Nat.not_lt_zero _)⟩
theorem Tal.zero {b : Nat → Bool} {g : Nat → Nat → Int32} {rc : Nat → Int32} {t : Nat → Int32} (hN : N ≤ 8) (h : ∀ i, i < 32 → t i = 0) : Tal N b g rc 0 t := fun k hk j hj => h _ (by omega)
def mkb (b : Bool) (k : Nat) (x : Int32) : Int32 := if b = true then x ||| ((1 : Int32) <<< (nI k &&& 31)) else x
theorem bits6 : ∀ b0 b1 b2 b3 b4 b5 : Bool, ∀ v : Fin 6, (if (((mkb b5 5 (mkb b4 4 (mkb b3 3 (mkb b2 2 (mkb b1 1 (mkb b0 0 0)))))) >>> (nI v.1 &&& 31)) &&& (1 : Int32)) = 1 then (1 : Int32) else 0) = b01 (if v.1 = 0 then b0 else if v.1 = 1 then b1 else if v.1 = 2 then b2 else if v.1 = 3 then b3 else if v.1 = 4 then b4 else b5) := by decide +kernel
theorem isIn_bits (p : Nat → Bool) {v : Nat} (hv : v < 6) : f_X9_isIn (bitsI p 6) (nI v) = some (b01 (p v)) := by
  have e : bitsI p 6 = mkb (p 5) 5 (mkb (p 4) 4 (mkb (p 3) 3 (mkb (p 2) 2 (mkb (p 1) 1 (mkb (p 0) 0 0))))) := rfl
  have k := bits6 (p 0) (p 1) (p 2) (p 3) (p 4) (p 5) ⟨v, hv⟩
  rw [← e] at k
  have k2 : f_X9_isIn (bitsI p 6) (nI v) = some (if ((bitsI p 6 >>> (nI v &&& 31)) &&& (1 : Int32)) = 1 then (1 : Int32) else 0) := by
    unfold f_X9_isIn
    by_cases h : ((bitsI p 6 >>> (nI v &&& 31)) &&& (1 : Int32)) = 1
    · rw [if_pos h, if_pos h]
    · rw [if_neg h, if_neg h]
  rw [k2, k]
  rcases (show v = 0 ∨ v = 1 ∨ v = 2 ∨ v = 3 ∨ v = 4 ∨ v = 5 by omega) with rfl | rfl | rfl | rfl | rfl | rfl <;> rfl
def askA (C W R N nb nd ns f : Nat) (kinds places bn bt dn dt sn sh sr : Nat → Int32) (n : Nat) : Int32 := (ak (mostA (bgB C W R N nb nd ns f kinds places bn bt dn dt sn sh sr) (askG C W R nb nd f kinds places bn bt dn dt n)) (-1) N).1
set_option maxHeartbeats 1000000 in
theorem tally_x (hX : Ctx C W R N nb nd a f kinds rowAt colAt ways beside places dues bn bt dn dt) (hS : SOK ns sn sh sr mg) {n : Nat} (hn : n < 10) (ts tf tp tk : Int32) (st0 fr0 tr0 go0 : Nat → Int32) (td0 : Nat → Int64) (li0 ta : Nat → Int32) :
    ∃ (c1 c2 c3 c4 : Int32) (c5 c6 c7 c8 : Nat → Int32) (c9 : Nat → Int64) (c10 c11 : Nat → Int32), f_X8_tallyStarts (nI C) (nI W) (nI R) kinds rowAt colAt ways beside (nI N) places (nI nb) bn bt (nI nd) dn dt (nI ns) sn sh sr (nI a) (nI f) (-1) (-1) ts tf tp tk st0 fr0 tr0 go0 td0 li0 ta (nI n) = some (c1, c2, c3, c4, c5, c6, c7, c8, c9, c10, c11) ∧ Tal N (bgB C W R N nb nd ns f kinds places bn bt dn dt sn sh sr) (askG C W R nb nd f kinds places bn bt dn dt n) rcX 6 c11 := by
  have hb8 := hX.b8
  have h36 := hX.c36
  obtain ⟨t0, f1, f2⟩ := fill32 ta
  obtain ⟨x, h1, h2⟩ := loop_inv (body := fun q : Int32 × Int32 × (Nat → Int32) × (Nat → Int32) × (Nat → Int32) × (Nat → Int32) × (Nat → Int64) × (Nat → Int32) × (Nat → Int32) => f_X8_tallyStarts_L21 (nI C) (nI W) (nI R) kinds rowAt colAt ways beside (nI N) places (nI nb) bn bt (nI nd) dn dt (nI ns) sn sh sr (nI f) (-1) (-1) (nI n) q.1 q.2.1 q.2.2.1 q.2.2.2.1 q.2.2.2.2.1 q.2.2.2.2.2.1 q.2.2.2.2.2.2.1 q.2.2.2.2.2.2.2.1 q.2.2.2.2.2.2.2.2)
    (fun k q => q.1 = nI k ∧ Tal N (bgB C W R N nb nd ns f kinds places bn bt dn dt sn sh sr) (askG C W R nb nd f kinds places bn bt dn dt n) rcX k q.2.2.2.2.2.2.2.2) (fun x => Tal N (bgB C W R N nb nd ns f kinds places bn bt dn dt sn sh sr) (askG C W R nb nd f kinds places bn bt dn dt n) rcX 6 x.2.2.2.2.2.2.2) 6 (by
      rintro k ⟨q1, q2, q3, q4, q5, q6, q7, q8, q9⟩ hk ⟨e1, e2⟩
      dsimp only at e1 e2
      subst e1
      left
      obtain ⟨st, fr, tr, go, td, li, w1, w2, -⟩ := trialX hX (last := 9) (v := k) (by omega) (by omega) (-1) (-1) q3 q4 q5 q6 q7 q8
      have hli : ∀ m, m < 10 → ∀ x, x < W → li (6 * m + x) = LLs C W R kinds kinds (fun _ => true) nb bn bt nd dn dt k f m x := fun m hm => w2.lines (n := m) (by omega) (LLs_all hX (L := m) (fun i hi => prX_all ⟨i, by omega⟩) (fun c hc => rakedK_no _ (by omega)) m (Nat.le_refl _)).2
      have hag := agreesX hX hS hli
      dsimp only
      unfold f_X8_tallyStarts_L21 f_X8_tallyStarts_b114L21
      rw [if_neg (by rw [show (6 : Int32) = nI 6 from rfl, nI_le_i (by omega) (by omega)]; omega), show (9 : Int32) = nI 9 from rfl, w1, bind6_def, hag, bind1_def, show nI k + 1 = nI (k + 1) from nI_1 _]
      cases hb : bgB C W R N nb nd ns f kinds places bn bt dn dt sn sh sr k
      · rw [b01_0 (show seenB _ _ _ _ _ _ _ _ _ = false from hb), if_pos rfl]
        exact ⟨_, rfl, rfl, e2.no hb⟩
      · obtain ⟨t', g1, g2⟩ := tallyIn (g := askG C W R nb nd f kinds places bn bt dn dt n) (V := k) hX hn (fun _ => rfl) hb (hli n hn) e2
        rw [b01_1 (show seenB _ _ _ _ _ _ _ _ _ = true from hb), if_neg one_ne0, g1, bind1_def]
        exact ⟨_, rfl, rfl, g2⟩) (by
      rintro ⟨q1, q2, q3, q4, q5, q6, q7, q8, q9⟩ ⟨e1, e2⟩
      dsimp only at e1 e2
      subst e1
      dsimp only
      unfold f_X8_tallyStarts_L21
      rw [if_pos (by decide)]
      exact ⟨_, rfl, e2⟩) (by omega) (q := (0, nI a, st0, fr0, tr0, go0, td0, li0, t0)) ⟨rfl, Tal.zero hX.n8 f2⟩
  unfold f_X8_tallyStarts f_X7_becomeLike
  rw [f1, bind1_def, bind4_def, h1]
  obtain ⟨x1, x2, x3, x4, x5, x6, x7, x8⟩ := x
  exact ⟨_, _, _, _, _, _, _, _, _, _, _, rfl, h2⟩
theorem ask_x (hX : Ctx C W R N nb nd a f kinds rowAt colAt ways beside places dues bn bt dn dt) (hS : SOK ns sn sh sr mg) {n : Nat} (hn : n < 10) (ts tf tp tk : Int32) (st0 fr0 tr0 go0 : Nat → Int32) (td0 : Nat → Int64) (li0 ta : Nat → Int32) :
    ∃ (c1 c2 c3 c4 : Int32) (c5 c6 c7 c8 : Nat → Int32) (c9 : Nat → Int64) (c10 c11 : Nat → Int32), f_X8_ask (nI C) (nI W) (nI R) kinds rowAt colAt ways beside (nI N) places (nI nb) bn bt (nI nd) dn dt (nI ns) sn sh sr (nI a) (nI f) (-1) (-1) ts tf tp tk st0 fr0 tr0 go0 td0 li0 ta (nI n) = some (askA C W R N nb nd ns f kinds places bn bt dn dt sn sh sr n, c1, c2, c3, c4, c5, c6, c7, c8, c9, c10, c11) := by
  obtain ⟨c1, c2, c3, c4, c5, c6, c7, c8, c9, c10, c11, h1, h2⟩ := tally_x hX hS hn ts tf tp tk st0 fr0 tr0 go0 td0 li0 ta
  refine ⟨c1, c2, c3, c4, c5, c6, c7, c8, c9, c10, c11, ?_⟩
  unfold f_X8_ask
  rw [isNight_yes hn, bind1_def, if_neg one_ne0, h1, bind11_def, bestX hX.n8 (fun h hh => mostX h2 hh hX.n8), bind1_def]; rfl
set_option maxHeartbeats 1000000 in
theorem askM (hX : Ctx C W R N nb nd a f kinds rowAt colAt ways beside places dues bn bt dn dt) (hM : MOK C N nb nd a f kinds places dues bn bt dn dt mc mh ms mb md) (hS : SOK ns sn sh sr mg) {n : Nat} (hn : n < 10) (p0 s0 l0 al : Nat → Int32) :
    ∃ p s l al', f_X9_askOf (nI C) (nI W) (nI N) (nI nb) (nI nd) 0 (nI ns) mc mh ms mb md p0 s0 l0 mg al (nI n) = some (askA C W R N nb nd ns f kinds places bn bt dn dt sn sh sr n, ms, p, s, l, al') := by
  have hG := hX.grid
  have hb8 := hX.b8
  obtain ⟨p1, s1, l1, g1⟩ := beganM hX hM hS p0 s0 l0
  obtain ⟨t0, f1, f2⟩ := fill32M al
  obtain ⟨x, h1, h2⟩ := loop_inv (body := fun q : Int32 × (Nat → Int32) × (Nat → Int32) × (Nat → Int32) × (Nat → Int32) × (Nat → Int32) => f_X9_askOf_L39 (nI C) (nI W) (nI N) (nI nb) (nI nd) 0 mc mh mb md (nI n) (bitsI (bgB C W R N nb nd ns f kinds places bn bt dn dt sn sh sr) 6) q.1 q.2.1 q.2.2.1 q.2.2.2.1 q.2.2.2.2.1 q.2.2.2.2.2)
    (fun k q => q.1 = nI k ∧ (∀ j, j ≠ 0 → q.2.1 j = ms j) ∧ Tal N (bgB C W R N nb nd ns f kinds places bn bt dn dt sn sh sr) (askG C W R nb nd f kinds places bn bt dn dt n) rcM k q.2.2.2.2.2) (fun x => (∀ j, j ≠ 0 → x.1 j = ms j) ∧ Tal N (bgB C W R N nb nd ns f kinds places bn bt dn dt sn sh sr) (askG C W R nb nd f kinds places bn bt dn dt n) rcM 6 x.2.2.2.2) 6 (by
      rintro k ⟨q1, q2, q3, q4, q5, q6⟩ hk ⟨e1, e2, e3⟩
      dsimp only at e1 e2 e3
      subst e1
      left
      dsimp only
      unfold f_X9_askOf_L39 f_X9_askOf_b109L39
      rw [if_neg (by rw [show (6 : Int32) = nI 6 from rfl, nI_le_i (by omega) (by omega)]; omega), isIn_bits _ hk, bind1_def, show nI k + 1 = nI (k + 1) from nI_1 _, tn_0]
      cases hb : bgB C W R N nb nd ns f kinds places bn bt dn dt sn sh sr k
      · rw [b01_0 rfl, if_pos rfl]
        exact ⟨_, rfl, rfl, e2, e3.no hb⟩
      · obtain ⟨hmc, hmh, hs0, hs1, hbo, hd⟩ := id hM
        obtain ⟨p, s, l, w1, w2⟩ := lives_eq (C := C) (W := W) (R := R) (nb := nb) (nd := nd) (last := n) (a := k) (f := f) hG.1 hG.2.1 hG.2.2.1 hG.c36 hG.2.2.2 (by omega) hX.2.2.2.2.2.2 (by omega) 0 (mc := mc) (set := upd q2 0 (nI k)) (upd_at _ _ _) (by rw [upd_ne _ _ (by omega), e2 1 (by omega)]; exact hs1) hbo.more hd q3 q4 q5
        have w3 := MNights.congr w2 fun m hm => refLL hX hmc (nb' := nb) (bn' := bn) (bt' := bt) (v := k) (by omega) m
        obtain ⟨t', y1, y2⟩ := alikeIn (g := askG C W R nb nd f kinds places bn bt dn dt n) (V := k) hX hM hn (fun _ => rfl) hb (w3 n (by omega)).2.2 e3
        rw [b01_1 rfl, if_neg one_ne0, w1, bind3_def, y1, bind1_def]
        exact ⟨_, rfl, rfl, fun j hj => by dsimp only; rw [upd_ne _ _ hj]; exact e2 j hj, y2⟩) (by
      rintro ⟨q1, q2, q3, q4, q5, q6⟩ ⟨e1, e2, e3⟩
      dsimp only at e1 e2 e3
      subst e1
      dsimp only
      unfold f_X9_askOf_L39
      rw [if_pos (by decide)]
      exact ⟨_, rfl, e2, e3⟩) (by omega) (q := (0, ms, p1, s1, l1, t0)) ⟨rfl, fun _ _ => rfl, Tal.zero hX.n8 f2⟩
  obtain ⟨x1, x2, x3, x4, x5⟩ := x
  dsimp only at h2
  refine ⟨x2, x3, x4, x5, ?_⟩
  unfold f_X9_askOf
  rw [g1, bind5_def, letv_def, f1, bind1_def, h1, bind5_def, bestM hX.n8 (fun h hh => mostM h2.2 hh hX.n8), bind1_def, tn_0, set_back h2.1]; rfl
theorem sim_ask {xi : Nat → Int32} {xa : Nat → Nat → Int32} {xl : Nat → Int64} {xm : Nat → Nat → Int64} {mi : Nat → Int32} {ma : Nat → Nat → Int32} (h : Rel xi xa xl xm mi ma) (z1 : Int32) : ∃ (r : Int32) (c1 : Int32) (c2 : Int32) (c3 : Int32) (c4 : Int32) (c5 : Nat → Int32) (c6 : Nat → Int32) (c7 : Nat → Int32) (c8 : Nat → Int32) (c9 : Nat → Int64) (c10 : Nat → Int32) (c11 : Nat → Int32) (d1 : Int32) (d2 : Int32) (d3 : Int32) (d4 : Nat → Int32) (d5 : Nat → Int32) (d6 : Nat → Int32) (d7 : Nat → Int32) (d8 : Nat → Int32) (d9 : Nat → Int32) (d10 : Nat → Int32) , f_X8_ask (xi 5) (xi 6) (xi 7) (xa 2) (xa 3) (xa 4) (xa 5) (xa 6) (xi 9) (xa 7) (xi 10) (xa 9) (xa 10) (xi 11) (xa 12) (xa 13) (xi 12) (xa 15) (xa 16) (xa 17) (xi 13) (xi 14) (xi 15) (xi 16) (xi 17) (xi 18) (xi 19) (xi 20) (xa 23) (xa 24) (xa 25) (xa 26) (xm 1) (xa 27) (xa 28) z1 = some (r, c1, c2, c3, c4, c5, c6, c7, c8, c9, c10, c11) ∧ f_X9_ask (mi 1) (mi 2) (mi 3) (mi 4) (mi 5) (mi 6) (mi 7) (ma 4) (ma 5) (ma 6) (ma 7) (ma 8) (ma 9) (ma 10) (ma 11) (ma 12) (ma 13) (ma 14) (ma 15) z1 = some (r, d1, d2, d3, d4, d5, d6, d7, d8, d9, d10) ∧ Rel (va_up (va_up (va_up (va_up xi 17 c1) 18 c2) 19 c3) 20 c4) (va_up (va_up (va_up (va_up (va_up (va_up xa 23 c5) 24 c6) 25 c7) 26 c8) 27 c10) 28 c11) xl (va_up xm 1 c9) (va_up (va_up (va_up mi 1 d1) 2 d2) 3 d3) (va_up (va_up (va_up (va_up (va_up (va_up (va_up ma 6 d4) 7 d5) 8 d6) 11 d7) 12 d8) 13 d9) 15 d10) := by
  obtain ⟨C, W, R, N, nb, nd, ns, a, f, ⟨⟨c1, c2, c3⟩, n1, ⟨b1, d1, s1⟩, a1, f1, p1, p2⟩, ⟨b2, d2, p3, s2⟩, hX, hSO, ⟨st, fr, tr, go, td, li, hT, hC, hR⟩, mc, mh, p, s, l, hF, hM, hN⟩ := h.all
  rw [c1, c2, c3, n1, b1, d1, s1, a1, f1, p1, p2, b2, d2, p3, s2]
  rcases isNight_cases z1 with ⟨e1, -⟩ | ⟨e1, n, hn, rfl⟩
  · exact ⟨-2, xi 17, xi 18, xi 19, xi 20, xa 23, xa 24, xa 25, xa 26, xm 1, xa 27, xa 28, nI C, nI W, nI N, mc, mh, ma 8, p, s, l, ma 15, by unfold f_X8_ask; rw [e1]; rfl, by unfold f_X9_ask; rw [hF, bind8_def, isNight_eq, e1]; rfl, h⟩
  obtain ⟨x1, x2, x3, x4, x5, x6, x7, x8, x9, x10, x11, hx⟩ := ask_x hX hSO (n := n) (by omega) (xi 17) (xi 18) (xi 19) (xi 20) (xa 23) (xa 24) (xa 25) (xa 26) (xm 1) (xa 27) (xa 28)
  obtain ⟨pa, sp, ln, al, hm⟩ := askM hX hM hSO (n := n) (by omega) p s l (ma 15)
  refine ⟨_, x1, x2, x3, x4, x5, x6, x7, x8, x9, x10, x11, nI C, nI W, nI N, mc, mh, ma 8, pa, sp, ln, al, hx, ?_, h⟩
  unfold f_X9_ask
  rw [hF, bind8_def, isNight_eq, e1, bind1_def, if_neg one_ne0, hm, bind6_def]
