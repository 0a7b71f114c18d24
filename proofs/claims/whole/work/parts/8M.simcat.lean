variable {C W R N nb nd ns a f : Nat} {kinds rowAt colAt ways beside places dues bn bt dn dt sn sh sr mc mh ms mb md mg : Nat → Int32}
theorem weightM {c g : Nat} (hc : c ≤ 16) (hb8 : nb ≤ 8) (hg : g < 256) : loopF (fun q : Int64 × Int32 => f_X9_catOf_L40 (nI nb) (nI c) (nI g) q.1 q.2) FU (1, 0) = some (lN (wtM c (16 - c) g nb)) := by
  refine loop_for (fun k => (lN (wtM c (16 - c) g k), nI k)) nb (fun k hk => ?_) ?_ (by omega)
  · dsimp only
    unfold f_X9_catOf_L40 f_X9_catOf_b71L40
    rw [if_neg (by rw [nI_le_i (by omega) (by omega)]; omega), isIn_bit ⟨g, hg⟩ ⟨k, by omega⟩, bind1_def, show nI k + 1 = nI (k + 1) from nI_1 _, nI_l (by omega), show (16 : Int32) - nI c = nI (16 - c) from pk_sub (a := 16) hc, nI_l (by omega), letv_def, letv_def, lN_mul, lN_mul]
    show _ = some (Sum.inl (lN (wtM c (16 - c) g k * (if g.testBit k = true then 16 - c else c)), nI (k + 1)))
    dsimp only
    cases hb : g.testBit k
    · rw [b01_0 rfl, if_pos rfl, if_neg (show ¬ (false = true) by decide)]
    · rw [b01_1 rfl, if_neg one_ne0, if_pos rfl]
  · dsimp only
    unfold f_X9_catOf_L40
    rw [if_pos (by rw [nI_le_i (by omega) (by omega)]; omega)]
/-- the whole sum is that of the bowls that matter, times the others' -/
theorem sum_all (hX : Ctx C W R N nb nd a f kinds rowAt colAt ways beside places dues bn bt dn dt) {c n h : Nat} {r : Int32} (hc : c ≤ 16) (hn : n < 10) : sumN (fun g => chF C W R nb nd a f kinds places bn bt dn dt n h r (PM nb g) * wtM c (16 - c) g nb) (2 ^ nb) = trB c (16 - c) (matB C f nb bn bt n) nb (chF C W R nb nd a f kinds places bn bt dn dt n h r) * 2 ^ (4 * (nb - cntB (matB C f nb bn bt n) nb)) ∧ trB c (16 - c) (matB C f nb bn bt n) nb (chF C W R nb nd a f kinds places bn bt dn dt n h r) * 2 ^ (4 * (nb - cntB (matB C f nb bn bt n) nb)) ≤ 4294967296 := by
  have hb8 := hX.b8
  have e1 := sumM c (16 - c) nb (chF C W R nb nd a f kinds places bn bt dn dt n h r)
  have e2 := trAB (c := c) (d := 16 - c) (by omega) (matB C f nb bn bt n) nb (chF C W R nb nd a f kinds places bn bt dn dt n h r) (fun b j hj hm => chF_set hX hj hm hn b)
  have e3 := trA_le (c := c) (d := 16 - c) (by omega) nb (chF C W R nb nd a f kinds places bn bt dn dt n h r) (fun b => chF_le b)
  rw [pow16, Nat.mul_comm] at e2
  refine ⟨e1.trans e2, ?_⟩
  rw [← e2]
  refine Nat.le_trans e3 ?_
  rw [pow16]
  exact (pow32 (by omega)).1
set_option maxHeartbeats 1000000 in
theorem catLoopM (hX : Ctx C W R N nb nd a f kinds rowAt colAt ways beside places dues bn bt dn dt) (hM : MOK C N nb nd a f kinds places dues bn bt dn dt mc mh ms mb md) {c n h : Nat} {r : Int32} (hc : c ≤ 16) (hn : n < 10) (hh : h < N) (p0 s0 l0 : Nat → Int32) :
    ∃ (g : Int32) (p s l : Nat → Int32), loopF (fun q : Int64 × Int32 × Int32 × (Nat → Int32) × (Nat → Int32) × (Nat → Int32) => f_X9_catOf_L6 (nI C) (nI W) (nI nb) (nI nd) mc mh ms mb md (nI c) (nI n) (nI h) r q.1 q.2.1 q.2.2.1 q.2.2.2.1 q.2.2.2.2.1 q.2.2.2.2.2) FU (0, 0, 0, p0, s0, l0) = some (lN (sumN (fun g => chF C W R nb nd a f kinds places bn bt dn dt n h r (PM nb g) * wtM c (16 - c) g nb) (2 ^ nb)), g, p, s, l) := by
  have hb8 := hX.b8
  have h8 := hX.n8
  have h2nb : 2 ^ nb ≤ 2 ^ 8 := Nat.pow_le_pow_right (by decide) hb8
  obtain ⟨ep, hp⟩ := hX.plcOK hh
  obtain ⟨hmc, hmh, hs0, hs1, hb, hd⟩ := id hM
  obtain ⟨x, h1, h2⟩ := loop_inv (body := fun q : Int64 × Int32 × Int32 × (Nat → Int32) × (Nat → Int32) × (Nat → Int32) => f_X9_catOf_L6 (nI C) (nI W) (nI nb) (nI nd) mc mh ms mb md (nI c) (nI n) (nI h) r q.1 q.2.1 q.2.2.1 q.2.2.2.1 q.2.2.2.2.1 q.2.2.2.2.2)
    (fun k q => q.1 = lN (sumN (fun g => chF C W R nb nd a f kinds places bn bt dn dt n h r (PM nb g) * wtM c (16 - c) g nb) k) ∧ q.2.1 = nI k) (fun x => x.1 = lN (sumN (fun g => chF C W R nb nd a f kinds places bn bt dn dt n h r (PM nb g) * wtM c (16 - c) g nb) (2 ^ nb))) (2 ^ nb) (by
      rintro k ⟨q1, q2, q3, q4, q5, q6⟩ hk ⟨e1, e2⟩
      dsimp only at e1 e2
      subst e1 e2
      left
      obtain ⟨pa, sp, li, w1, -⟩ := isSoM (C := C) (W := W) (R := R) (nb' := nb) (mc' := mc) (bn' := bn) (bt' := bt) (dn := dn) (dt := dt) hX.grid hX.2.2.2.2.2.1 hX.2.2.2.2.2.2 hn (by omega) hp ((hmh h hh).1.trans ep) hs0 hs1 hb.more hd (nI k) q4 q5 q6 r
      have eL : LLs C W R mc mc (prM (nI k)) nb bn bt nd dn dt a f n = LLs C W R kinds kinds (PM nb k) nb bn bt nd dn dt a f n := (NLs_congr (L := n) hX.grid (fun c hc => by rw [hmc c hc]) hmc (fun m hm c hc => addIf_congr _ fun i hi => bowlT_pr (by
        unfold PM
        rw [decide_eq_true hi, Bool.true_and]
        exact prM_bit ⟨k, by omega⟩ ⟨i, by omega⟩)) (fun _ _ _ _ => rfl) n (Nat.le_refl _)).2
      rw [realmS_eq eL] at w1
      dsimp only
      unfold f_X9_catOf_L6 f_X9_catOf_b87L6
      rw [shl_nb ⟨nb, by omega⟩, if_neg (by rw [nI_le_i (by show 2 ^ nb < _; omega) (by omega)]; show ¬ 2 ^ nb ≤ k; omega), w1, bind4_def, weightM hc hb8 (by omega), bind1_def, letv_def, lN_add, show nI k + 1 = nI (k + 1) from nI_1 _]
      have es : sumN (fun g => chF C W R nb nd a f kinds places bn bt dn dt n h r (PM nb g) * wtM c (16 - c) g nb) (k + 1) = sumN (fun g => chF C W R nb nd a f kinds places bn bt dn dt n h r (PM nb g) * wtM c (16 - c) g nb) k + chF C W R nb nd a f kinds places bn bt dn dt n h r (PM nb k) * wtM c (16 - c) k nb := rfl
      by_cases hq : realmS C W (LLs C W R kinds kinds (PM nb k) nb bn bt nd dn dt a f) n (plc places h) = r
      · rw [if_pos hq, if_neg one_ne0]
        refine ⟨_, rfl, ?_, rfl⟩
        dsimp only
        have ec : chF C W R nb nd a f kinds places bn bt dn dt n h r (PM nb k) = 1 := by unfold chF lieS; rw [if_pos hq]
        rw [es, ec, Nat.one_mul]
      · rw [if_neg hq, if_pos rfl]
        refine ⟨_, rfl, ?_, rfl⟩
        dsimp only
        have ec : chF C W R nb nd a f kinds places bn bt dn dt n h r (PM nb k) = 0 := by unfold chF lieS; rw [if_neg hq]
        rw [es, ec, Nat.zero_mul, Nat.add_zero]) (by
      rintro ⟨q1, q2, q3, q4, q5, q6⟩ ⟨e1, e2⟩
      dsimp only at e1 e2
      subst e1 e2
      dsimp only
      unfold f_X9_catOf_L6
      rw [shl_nb ⟨nb, by omega⟩, if_pos (by rw [nI_le_i (by show 2 ^ nb < _; omega) (by omega)]; exact Nat.le_refl _)]
      exact ⟨_, rfl, rfl⟩) (by omega) (q := (0, 0, 0, p0, s0, l0)) ⟨rfl, rfl⟩
  obtain ⟨x1, x2, x3, x4, x5⟩ := x
  dsimp only at h2
  subst h2
  exact ⟨x2, x3, x4, x5, h1⟩
theorem catM (hX : Ctx C W R N nb nd a f kinds rowAt colAt ways beside places dues bn bt dn dt) (hM : MOK C N nb nd a f kinds places dues bn bt dn dt mc mh ms mb md) {c n h x j : Nat} {r : Int32} (hc : c ≤ 16) (hn : n < 10) (hh : h < N) (hL : Lowest (trB c (16 - c) (matB C f nb bn bt n) nb (chF C W R nb nd a f kinds places bn bt dn dt n h r)) (cntB (matB C f nb bn bt n) nb) x j) (w : Int32) (p0 s0 l0 : Nat → Int32) :
    ∃ p s l, f_X9_catOf (nI C) (nI W) (nI nb) (nI nd) 0 mc mh ms mb md p0 s0 l0 (nI c) (nI n) (nI h) r w = some (if w = 0 then lN x else lN (2 ^ j), 0, p, s, l) := by
  have hb8 := hX.b8
  have hle := cnt_le (matB C f nb bn bt n) nb
  obtain ⟨g, p, s, l, e⟩ := catLoopM (r := r) hX hM hc hn hh p0 s0 l0
  obtain ⟨s1, s2⟩ := sum_all (h := h) (r := r) hX hc hn
  refine ⟨p, s, l, ?_⟩
  unfold f_X9_catOf
  have pe := part_eq (d := nb - cntB (matB C f nb bn bt n) nb) s2 (by omega) hL w
  rw [show nb - cntB (matB C f nb bn bt n) nb + cntB (matB C f nb bn bt n) nb = nb by omega] at pe
  rw [e, bind5_def, s1, shl_4nb ⟨nb, by omega⟩]
  dsimp only
  rw [pe, bind1_def]
theorem reduceX (hX : Ctx C W R N nb nd a f kinds rowAt colAt ways beside places dues bn bt dn dt) {c n h : Nat} {r : Int32} {sh : Nat → Int64} (hc : c ≤ 16) (hn : n < 10) (hh : h < N) (hs : sh h = lN (trB c (16 - c) (matB C f nb bn bt n) nb (chF C W R nb nd a f kinds places bn bt dn dt n h r))) (ab be : Int64) :
    ∃ x j, f_X0_reduce (lN (2 ^ (4 * cntB (matB C f nb bn bt n) nb))) ab be sh (nI h) = some (lN x, lN (2 ^ j)) ∧ Lowest (trB c (16 - c) (matB C f nb bn bt n) nb (chF C W R nb nd a f kinds places bn bt dn dt n h r)) (cntB (matB C f nb bn bt n) nb) x j := by
  have hb8 := hX.b8
  have h8 := hX.n8
  have hle := cnt_le (matB C f nb bn bt n) nb
  obtain ⟨s1, s2⟩ := sum_all (h := h) (r := r) hX hc hn
  have hpos := (pow32 (j := 4 * (nb - cntB (matB C f nb bn bt n) nb)) (by omega)).2
  have hXle : trB c (16 - c) (matB C f nb bn bt n) nb (chF C W R nb nd a f kinds places bn bt dn dt n h r) ≤ 4294967296 := Nat.le_trans (Nat.le_mul_of_pos_right _ hpos) s2
  obtain ⟨x, j, e1, e2, -⟩ := red_loop (m := cntB (matB C f nb bn bt n) nb) hXle (by omega)
  refine ⟨x, j, ?_, e2⟩
  unfold f_X0_reduce
  rw [gd_t (inb_n (by omega) (by omega)), letv_def, tnN (by omega), hs, e1, bind2_def]
theorem in16 (v : Int32) : f_X9_in v.toInt64 (0 : Int64) (16 : Int64) = f_X8_isUpTo v 16 := by rw [show (16 : Int64) = (16 : Int32).toInt64 from by decide, in_up]
theorem sim_cat {xi : Nat → Int32} {xa : Nat → Nat → Int32} {xl : Nat → Int64} {xm : Nat → Nat → Int64} {mi : Nat → Int32} {ma : Nat → Nat → Int32} (h : Rel xi xa xl xm mi ma) (z1 z2 z3 z4 z5 : Int32) : ∃ (r : Int64) (c1 : Int32) (c2 : Int32) (c3 : Int32) (c4 : Int32) (c5 : Nat → Int32) (c6 : Nat → Int32) (c7 : Nat → Int32) (c8 : Nat → Int32) (c9 : Nat → Int64) (c10 : Nat → Int32) (c11 : Int64) (c12 : Int64) (c13 : Int64) (c14 : Nat → Int64) (d1 : Int32) (d2 : Int32) (d3 : Int32) (d4 : Int32) (d5 : Nat → Int32) (d6 : Nat → Int32) (d7 : Nat → Int32) (d8 : Nat → Int32) (d9 : Nat → Int32) , f_X8_cat (xi 5) (xi 6) (xi 7) (xa 2) (xa 3) (xa 4) (xa 5) (xa 6) (xi 9) (xa 7) (xi 10) (xa 9) (xa 10) (xi 11) (xa 12) (xa 13) (xi 13) (xi 14) (xi 15) (xi 16) (xi 17) (xi 18) (xi 19) (xi 20) (xa 23) (xa 24) (xa 25) (xa 26) (xm 1) (xa 27) (xl 0) (xl 1) (xl 2) (xm 2) z1 z2 z3 z4 z5 = some (r, c1, c2, c3, c4, c5, c6, c7, c8, c9, c10, c11, c12, c13, c14) ∧ f_X9_cat (mi 1) (mi 2) (mi 3) (mi 4) (mi 5) (mi 6) (ma 4) (ma 5) (ma 6) (ma 7) (ma 8) (ma 9) (ma 10) (ma 11) (ma 12) (ma 13) z1 z2 z3 z4 z5 = some (r, d1, d2, d3, d4, d5, d6, d7, d8, d9) ∧ Rel (va_up (va_up (va_up (va_up xi 17 c1) 18 c2) 19 c3) 20 c4) (va_up (va_up (va_up (va_up (va_up xa 23 c5) 24 c6) 25 c7) 26 c8) 27 c10) (va_up (va_up (va_up xl 0 c11) 1 c12) 2 c13) (va_up (va_up xm 1 c9) 2 c14) (va_up (va_up (va_up (va_up mi 1 d1) 2 d2) 3 d3) 6 d4) (va_up (va_up (va_up (va_up (va_up ma 6 d5) 7 d6) 11 d7) 12 d8) 13 d9) := by
  obtain ⟨C, W, R, N, nb, nd, ns, a, f, ⟨⟨c1, c2, c3⟩, n1, ⟨b1, d1, s1⟩, a1, f1, p1, p2⟩, ⟨b2, d2, p3, s2⟩, hX, hSO, ⟨st, fr, tr, go, td, li, hT, hC, hR⟩, mc, mh, p, s, l, hF, hM, hN⟩ := h.all
  rw [c1, c2, c3, n1, b1, d1, a1, f1, p1, p2, b2, d2, p3]
  have keep : Rel xi xa xl xm (va_up mi 6 0) ma := by rw [up_eq p3.symm]; exact h
  have noX : ∀ w : Int64, w = -9223372036854775806 → f_X9_no (-2) = some w := by
    intro w hw
    rw [hw]
    unfold f_X9_no
    decide
  have badX : f_X8_cat_b29 (nI C) (nI W) (nI R) (xa 2) (xa 3) (xa 4) (xa 5) (xa 6) (nI N) (xa 7) (nI nb) (xa 9) (xa 10) (nI nd) (xa 12) (xa 13) (nI a) (nI f) (-1) (-1) (xi 17) (xi 18) (xi 19) (xi 20) (xa 23) (xa 24) (xa 25) (xa 26) (xm 1) (xa 27) (xl 0) (xl 1) (xl 2) (xm 2) = some (-9223372036854775806, xi 17, xi 18, xi 19, xi 20, xa 23, xa 24, xa 25, xa 26, xm 1, xa 27, xl 0, xl 1, xl 2, xm 2) := rfl
  have badM : f_X9_cat_b66 (nI C) (nI W) (nI N) (nI nb) (nI nd) 0 (ma 4) (ma 5) mc mh (ma 8) (ma 9) (ma 10) p s l = some (-9223372036854775806, nI C, nI W, nI N, 0, mc, mh, p, s, l) := by
    unfold f_X9_cat_b66
    rw [noX _ rfl, bind1_def]
  rcases upTo_cases z1 (M := 16) (by omega) with ⟨e1, -⟩ | ⟨e1, c, hc, rfl⟩
  · refine ⟨-9223372036854775806, xi 17, xi 18, xi 19, xi 20, xa 23, xa 24, xa 25, xa 26, xm 1, xa 27, xl 0, xl 1, xl 2, xm 2, nI C, nI W, nI N, 0, mc, mh, p, s, l, ?_, ?_, keep⟩
    · unfold f_X8_cat; rw [show f_X8_isUpTo z1 (16 : Int32) = some 0 from e1, bind1_def, if_pos rfl, badX]
    · unfold f_X9_cat; rw [hF, bind8_def, in16, show f_X8_isUpTo z1 (16 : Int32) = some 0 from e1, bind1_def, if_pos rfl, badM]
  rcases question_cases hX.n8 z2 z3 z4 with ⟨e, e'⟩ | ⟨q1, q2, q3, n, k, r, hn, hk, hr, rfl, rfl, rfl⟩
  · refine ⟨-9223372036854775806, xi 17, xi 18, xi 19, xi 20, xa 23, xa 24, xa 25, xa 26, xm 1, xa 27, xl 0, xl 1, xl 2, xm 2, nI C, nI W, nI N, 0, mc, mh, p, s, l, ?_, ?_, keep⟩
    · unfold f_X8_cat; rw [show f_X8_isUpTo (nI c) (16 : Int32) = some 1 from e1, bind1_def, if_neg one_ne0, e, bind1_def, if_pos rfl, badX]
    · unfold f_X9_cat
      rw [hF, bind8_def, in16, show f_X8_isUpTo (nI c) (16 : Int32) = some 1 from e1, bind1_def, if_neg one_ne0, isNight_eq, isHouse_eq, in2]
      rcases e' with q | ⟨q1, q2⟩ | ⟨q1, q2, q3⟩
      · rw [q, bind1_def, if_pos rfl, badM]
      · rw [q1, bind1_def, if_neg one_ne0, q2, bind1_def, if_pos rfl, badM]
      · rw [q1, bind1_def, if_neg one_ne0, q2, bind1_def, if_neg one_ne0, q3, bind1_def, if_pos rfl, badM]
  rcases upTo_cases z5 (M := 1) (by omega) with ⟨e5, -⟩ | ⟨e5, w, hw, rfl⟩
  · refine ⟨-9223372036854775806, xi 17, xi 18, xi 19, xi 20, xa 23, xa 24, xa 25, xa 26, xm 1, xa 27, xl 0, xl 1, xl 2, xm 2, nI C, nI W, nI N, 0, mc, mh, p, s, l, ?_, ?_, keep⟩
    · unfold f_X8_cat; rw [show f_X8_isUpTo (nI c) (16 : Int32) = some 1 from e1, bind1_def, if_neg one_ne0, question_yes hn hk hX.n8 hr, bind1_def, if_neg one_ne0, show f_X8_isUpTo z5 (1 : Int32) = some 0 from e5, bind1_def, if_pos rfl, badX]
    · unfold f_X9_cat
      rw [hF, bind8_def, in16, show f_X8_isUpTo (nI c) (16 : Int32) = some 1 from e1, bind1_def, if_neg one_ne0, isNight_eq, isHouse_eq, in2, q1, bind1_def, if_neg one_ne0, q2, bind1_def, if_neg one_ne0, q3, bind1_def, if_neg one_ne0, isTwo_eq, show f_X8_isUpTo z5 (1 : Int32) = some 0 from e5, bind1_def, if_pos rfl, badM]
  obtain ⟨x1, x2, x3, x4, x5, x6, x7, x8, x9, x10, sh, hx, hsh⟩ := weigh_x (r := r) hX hc hn (xi 17) (xi 18) (xi 19) (xi 20) (xa 23) (xa 24) (xa 25) (xa 26) (xm 1) (xa 27) (xl 0) (xm 2)
  obtain ⟨x, j, hred, hlow⟩ := reduceX hX hc hn hk (hsh k hk) (xl 1) (xl 2)
  obtain ⟨pa, sp, ln, hm⟩ := catM hX hM hc hn hk hlow (nI w) p s l
  refine ⟨if nI w = 0 then lN x else lN (2 ^ j), x1, x2, x3, x4, x5, x6, x7, x8, x9, x10, lN (2 ^ (4 * cntB (matB C f nb (xa 9) (xa 10) n) nb)), lN x, lN (2 ^ j), sh, nI C, nI W, nI N, 0, mc, mh, pa, sp, ln, ?_, ?_, keep⟩
  · unfold f_X8_cat
    rw [show f_X8_isUpTo (nI c) (16 : Int32) = some 1 from e1, bind1_def, if_neg one_ne0, question_yes hn hk hX.n8 hr, bind1_def, if_neg one_ne0, show f_X8_isUpTo (nI w) (1 : Int32) = some 1 from e5, bind1_def, if_neg one_ne0, hx, bind12_def, hred, bind2_def]
    by_cases hz : nI w = 0
    · rw [if_pos hz, if_pos hz]
    · rw [if_neg hz, if_neg hz]
  · unfold f_X9_cat
    rw [hF, bind8_def, in16, show f_X8_isUpTo (nI c) (16 : Int32) = some 1 from e1, bind1_def, if_neg one_ne0, isNight_eq, isHouse_eq, in2, q1, bind1_def, if_neg one_ne0, q2, bind1_def, if_neg one_ne0, q3, bind1_def, if_neg one_ne0, isTwo_eq, show f_X8_isUpTo (nI w) (1 : Int32) = some 1 from e5, bind1_def, if_neg one_ne0, hm, bind5_def]
