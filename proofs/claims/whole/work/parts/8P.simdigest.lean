theorem Rel.any {xi : Nat → Int32} {xa : Nat → Nat → Int32} {xl : Nat → Int64} {xm : Nat → Nat → Int64} {mi : Nat → Int32} {ma : Nat → Nat → Int32} (h : Rel xi xa xl xm mi ma) {C W R N nb nd a f : Nat} (hS : Sit C W R N nb nd a f xi xa mi ma) (e1 e2 e3 : Int32) (e4 e5 e6 e7 e8 : Nat → Int32) :
    ∃ (mc mh p s l : Nat → Int32), f_X9_find e1 e2 e3 (mi 4) (mi 5) (mi 6) (ma 4) (ma 5) e4 e5 (ma 8) (ma 9) (ma 10) e6 e7 e8 = some (nI C, nI W, nI N, mc, mh, p, s, l) ∧ (∀ c, c < C → mc c = xa 2 c) ∧ (∀ k, k < N → mh (2 * k) = xa 7 k ∧ mh (2 * k + 1) = xa 8 k) ∧ MNights W 10 (NL0 C W R nb nd a f xa) (LL0 C W R nb nd a f xa) p s l := by
  have h' : Rel xi xa xl xm (va_up (va_up (va_up mi 1 e1) 2 e2) 3 e3) (va_up (va_up (va_up (va_up (va_up ma 6 e4) 7 e5) 11 e6) 12 e7) 13 e8) := h
  have hS' : Sit C W R N nb nd a f xi xa (va_up (va_up (va_up mi 1 e1) 2 e2) 3 e3) (va_up (va_up (va_up (va_up (va_up ma 6 e4) 7 e5) 11 e6) 12 e7) 13 e8) := hS
  exact h'.find hS'
theorem Rel.landAny {xi : Nat → Int32} {xa : Nat → Nat → Int32} {xl : Nat → Int64} {xm : Nat → Nat → Int64} {mi : Nat → Int32} {ma : Nat → Nat → Int32} (h : Rel xi xa xl xm mi ma) {C W : Nat} (hC : C ≤ 36) (hW : W ≤ 6) (c1 : xi 5 = nI C) (c2 : xi 6 = nI W) (mc0 mw0 : Int32) (mcell0 : Nat → Int32) : ∃ mc, f_X9_readsLand mc0 mw0 (ma 4) (ma 5) mcell0 = some (xi 4, nI C, nI W, mc) ∧ ∀ c, c < C → mc c = xa 2 c := by
  obtain ⟨C', W', R', g1, g2, g3, hL, hM⟩ := h.land
  have h36 := hL.c36
  have h6 := hL.1
  have eC : C' = C := by have q := g1.symm.trans c1; rw [nI_eq_i (by omega) (by omega)] at q; exact q
  have eW : W' = W := by have q := g2.symm.trans c2; rw [nI_eq_i (by omega) (by omega)] at q; exact q
  subst eC eW
  exact hM mc0 mw0 mcell0
theorem Rel.housesAny {xi : Nat → Int32} {xa : Nat → Nat → Int32} {xl : Nat → Int64} {xm : Nat → Nat → Int64} {mi : Nat → Int32} {ma : Nat → Nat → Int32} (h : Rel xi xa xl xm mi ma) {N : Nat} (hN : N ≤ 8) (n1 : xi 9 = nI N) (mh0 : Int32) (mhouse0 : Nat → Int32) : ∃ mh, f_X9_readsHouses mh0 (ma 4) (ma 5) mhouse0 = some (xi 8, nI N, mh) ∧ ∀ k, k < N → mh (2 * k) = xa 7 k ∧ mh (2 * k + 1) = xa 8 k := by
  obtain ⟨N', g1, hO, hM⟩ := h.houses
  have h8 := hO.1
  have eN : N' = N := by have q := g1.symm.trans n1; rw [nI_eq_i (by omega) (by omega)] at q; exact q
  subst eN
  exact hM mh0 mhouse0
set_option maxHeartbeats 1000000 in
theorem countsM {xi : Nat → Int32} {xa : Nat → Nat → Int32} {xl : Nat → Int64} {xm : Nat → Nat → Int64} {mi : Nat → Int32} {ma : Nat → Nat → Int32} (h : Rel xi xa xl xm mi ma) {C W R N nb nd ns a f : Nat} (hS : Sit C W R N nb nd a f xi xa mi ma) (b2 : mi 4 = nI nb) (d2 : mi 5 = nI nd) (p3 : mi 6 = 0) (s2 : mi 7 = nI ns) (t0 : ma 5 0 = xi 2) (t1 : ma 5 1 = xi 3) :
    ∃ (u1 u2 u3 : Int32) (u4 u5 p s l : Nat → Int32), loopF (fun q : Int64 × Int32 × Int32 × Int32 × Int32 × (Nat → Int32) × (Nat → Int32) × (Nat → Int32) × (Nat → Int32) × (Nat → Int32) => f_X9_digest_L6 (mi 0) (nI nb) (nI nd) 0 (nI ns) (ma 4) (ma 5) (ma 8) (ma 9) (ma 10) q.1 q.2.1 q.2.2.1 q.2.2.2.1 q.2.2.2.2.1 q.2.2.2.2.2.1 q.2.2.2.2.2.2.1 q.2.2.2.2.2.2.2.1 q.2.2.2.2.2.2.2.2.1 q.2.2.2.2.2.2.2.2.2) FU (17, 0, mi 1, mi 2, mi 3, ma 6, ma 7, ma 11, ma 12, ma 13) = some (colV 17 (cntV C N W nb nd ns (xi 2) (xi 3)) 8, u1, u2, u3, u4, u5, p, s, l) ∧ MNights W 10 (NL0 C W R nb nd a f xa) (LL0 C W R nb nd a f xa) p s l := by
  obtain ⟨x, h1, h2⟩ := loop_inv (body := fun q : Int64 × Int32 × Int32 × Int32 × Int32 × (Nat → Int32) × (Nat → Int32) × (Nat → Int32) × (Nat → Int32) × (Nat → Int32) => f_X9_digest_L6 (mi 0) (nI nb) (nI nd) 0 (nI ns) (ma 4) (ma 5) (ma 8) (ma 9) (ma 10) q.1 q.2.1 q.2.2.1 q.2.2.2.1 q.2.2.2.2.1 q.2.2.2.2.2.1 q.2.2.2.2.2.2.1 q.2.2.2.2.2.2.2.1 q.2.2.2.2.2.2.2.2.1 q.2.2.2.2.2.2.2.2.2)
    (fun k q => ∃ u1 u2 u3 u4 u5 p s l, q = (colV 17 (cntV C N W nb nd ns (xi 2) (xi 3)) k, nI k, u1, u2, u3, u4, u5, p, s, l) ∧ (k ≠ 0 → MNights W 10 (NL0 C W R nb nd a f xa) (LL0 C W R nb nd a f xa) p s l)) (fun x => ∃ u1 u2 u3 u4 u5 p s l, x = (colV 17 (cntV C N W nb nd ns (xi 2) (xi 3)) 8, u1, u2, u3, u4, u5, p, s, l) ∧ MNights W 10 (NL0 C W R nb nd a f xa) (LL0 C W R nb nd a f xa) p s l) 8 (by
      rintro k q hk ⟨u1, u2, u3, u4, u5, p, s, l, rfl, -⟩
      left
      obtain ⟨mc, mh, p', s', l', e, -, -, hN⟩ := h.any hS u1 u2 u3 u4 u5 p s l
      rw [b2, d2, p3] at e
      have ec : f_X9_count (mi 0) u1 u2 u3 (nI nb) (nI nd) 0 (nI ns) (ma 4) (ma 5) u4 u5 (ma 8) (ma 9) (ma 10) p s l (nI k) = some (cntV C N W nb nd ns (xi 2) (xi 3) k, nI C, nI W, nI N, mc, mh, p', s', l') := by
        unfold f_X9_count
        rw [e, bind8_def]
        rcases (show k = 0 ∨ k = 1 ∨ k = 2 ∨ k = 3 ∨ k = 4 ∨ k = 5 ∨ k = 6 ∨ k = 7 by omega) with rfl | rfl | rfl | rfl | rfl | rfl | rfl | rfl
        · rfl
        · rfl
        · show some (ma 5 0, nI C, nI W, nI N, mc, mh, p', s', l') = some (xi 2, nI C, nI W, nI N, mc, mh, p', s', l')
          rw [t0]
        · show some (ma 5 1, nI C, nI W, nI N, mc, mh, p', s', l') = some (xi 3, nI C, nI W, nI N, mc, mh, p', s', l')
          rw [t1]
        · rfl
        · rfl
        · rfl
        · rfl
      dsimp only
      unfold f_X9_digest_L6
      rw [if_neg (by rw [show (8 : Int32) = nI 8 from rfl, nI_le_i (by omega) (by omega)]; omega), ec, bind9_def, letv_def, show nI k + 1 = nI (k + 1) from nI_1 _]
      exact ⟨_, rfl, nI C, nI W, nI N, mc, mh, p', s', l', rfl, fun _ => hN⟩) (by
      rintro q ⟨u1, u2, u3, u4, u5, p, s, l, rfl, hN⟩
      dsimp only
      unfold f_X9_digest_L6
      rw [if_pos (by decide)]
      exact ⟨_, rfl, u1, u2, u3, u4, u5, p, s, l, rfl, hN (by omega)⟩) (by omega) (q := (17, 0, mi 1, mi 2, mi 3, ma 6, ma 7, ma 11, ma 12, ma 13)) ⟨mi 1, mi 2, mi 3, ma 6, ma 7, ma 11, ma 12, ma 13, rfl, fun q => absurd rfl q⟩
  obtain ⟨u1, u2, u3, u4, u5, p, s, l, rfl, hN⟩ := h2
  exact ⟨u1, u2, u3, u4, u5, p, s, l, h1, hN⟩
theorem countsX {C W N nb nd ns : Nat} (fi t0 t1 : Int32) : loopF (fun q : Int64 × Int32 => f_X8_digest_L6 fi t0 t1 (nI C) (nI W) (nI N) (nI nb) (nI nd) (nI ns) q.1 q.2) FU (17, 0) = some (colV 17 (cntV C N W nb nd ns t0 t1) 8) := by
  refine loop_for (fun k => (colV 17 (cntV C N W nb nd ns t0 t1) k, nI k)) 8 (fun k hk => ?_) ?_ (by omega)
  · dsimp only
    unfold f_X8_digest_L6
    rw [if_neg (by rw [show (8 : Int32) = nI 8 from rfl, nI_le_i (by omega) (by omega)]; omega), count_x hk, bind1_def, mix_eq, bind1_def, show nI k + 1 = nI (k + 1) from nI_1 _]; rfl
  · dsimp only
    unfold f_X8_digest_L6
    rw [if_pos (by decide)]
theorem Rel.bowlsBack {xi : Nat → Int32} {xa : Nat → Nat → Int32} {xl : Nat → Int64} {xm : Nat → Nat → Int64} {mi : Nat → Int32} {ma : Nat → Nat → Int32} (h : Rel xi xa xl xm mi ma) {nb : Nat} (b1 : xi 10 = nI nb) {mb' : Nat → Int32} (hb : RowOK 8 nb mb' (xa 9) (xa 10)) (p3 : mi 6 = 0) : Rel xi xa xl xm (va_up (va_up mi 4 (nI nb)) 6 0) (va_up ma 9 mb') := by
  obtain ⟨hT0, hT1, hL, hH, hB, hD, hSi, ⟨q1, q2, q3, q4, -⟩, hFi, hSh, hWk⟩ := h
  exact ⟨hT0, hT1, hL, hH, hB.row b1 hb, hD, hSi, ⟨q1, q2, q3, q4, rfl⟩, hFi, hSh, hWk⟩
theorem fault_0 (x y : Int32) : f_X8_fault x y 0 = some x := rfl
theorem fault_1 (x y : Int32) : f_X8_fault x y 1 = some y := rfl
set_option maxHeartbeats 4000000 in
theorem sim_digest {xi : Nat → Int32} {xa : Nat → Nat → Int32} {xl : Nat → Int64} {xm : Nat → Nat → Int64} {mi : Nat → Int32} {ma : Nat → Nat → Int32} (h : Rel xi xa xl xm mi ma) : ∃ (r : Int64) (c1 : Int32) (c2 : Nat → Int32) (c3 : Nat → Int32) (c4 : Nat → Int32) (c5 : Nat → Int32) (c6 : Nat → Int64) (c7 : Nat → Int32) (c8 : Int32) (c9 : Int32) (c10 : Int32) (c11 : Int32) (c12 : Nat → Int32) (c13 : Nat → Int32) (c14 : Nat → Int32) (c15 : Nat → Int32) (c16 : Nat → Int64) (c17 : Nat → Int32) (c18 : Int32) (c19 : Int32) (c20 : Int32) (c21 : Int64) (c22 : Int64) (c23 : Int64) (c24 : Nat → Int64) (c25 : Nat → Int32) (d1 : Int32) (d2 : Int32) (d3 : Int32) (d4 : Int32) (d5 : Int32) (d6 : Int32) (d7 : Nat → Int32) (d8 : Nat → Int32) (d9 : Nat → Int32) (d10 : Nat → Int32) (d11 : Nat → Int32) (d12 : Nat → Int32) (d13 : Nat → Int32) (d14 : Nat → Int32) , f_X8_digest (xi 0) (xi 1) (xi 2) (xi 3) (xi 4) (xi 5) (xi 6) (xi 7) (xa 2) (xa 3) (xa 4) (xa 5) (xa 6) (xi 8) (xi 9) (xa 7) (xa 8) (xi 10) (xa 9) (xa 10) (xi 11) (xa 12) (xa 13) (xi 12) (xa 15) (xa 16) (xa 17) (xi 13) (xi 14) (xi 15) (xi 16) (xa 18) (xa 19) (xa 20) (xa 21) (xm 0) (xa 22) (xi 17) (xi 18) (xi 19) (xi 20) (xa 23) (xa 24) (xa 25) (xa 26) (xm 1) (xa 27) (xi 21) (xi 22) (xi 23) (xl 0) (xl 1) (xl 2) (xm 2) (xa 28) = some (r, c1, c2, c3, c4, c5, c6, c7, c8, c9, c10, c11, c12, c13, c14, c15, c16, c17, c18, c19, c20, c21, c22, c23, c24, c25) ∧ f_X9_digest (mi 0) (mi 1) (mi 2) (mi 3) (mi 4) (mi 5) (mi 6) (mi 7) (mi 8) (ma 4) (ma 5) (ma 6) (ma 7) (ma 8) (ma 9) (ma 10) (ma 11) (ma 12) (ma 13) (ma 14) (ma 15) = some (r, d1, d2, d3, d4, d5, d6, d7, d8, d9, d10, d11, d12, d13, d14) ∧ Rel (va_up (va_up (va_up (va_up (va_up (va_up (va_up (va_up xi 0 c1) 17 c8) 18 c9) 19 c10) 20 c11) 21 c18) 22 c19) 23 c20) (va_up (va_up (va_up (va_up (va_up (va_up (va_up (va_up (va_up (va_up (va_up xa 18 c2) 19 c3) 20 c4) 21 c5) 22 c7) 23 c12) 24 c13) 25 c14) 26 c15) 27 c17) 28 c25) (va_up (va_up (va_up xl 0 c21) 1 c22) 2 c23) (va_up (va_up (va_up xm 0 c6) 1 c16) 2 c24) (va_up (va_up (va_up (va_up (va_up (va_up mi 1 d1) 2 d2) 3 d3) 4 d4) 6 d5) 8 d6) (va_up (va_up (va_up (va_up (va_up (va_up (va_up (va_up ma 6 d7) 7 d8) 8 d9) 9 d10) 11 d11) 12 d12) 13 d13) 15 d14) := by
  obtain ⟨C, W, R, N, nb, nd, ns, a, f, ⟨⟨c1, c2, c3⟩, n1, ⟨b1, d1, s1⟩, a1, f1, p1, p2⟩, ⟨b2, d2, p3, s2⟩, hX, hSO, ⟨st, fr, tr, go, td, li, hT, hC, hR⟩, mc0, mh0, p0, s0, l0, -, hM0, -⟩ := h.all
  have hS : Sit C W R N nb nd a f xi xa mi ma := ⟨⟨c1, c2, c3, hX.1⟩, ⟨n1, hX.2.1⟩, ⟨b1, b2, hX.2.2.1, hM0.2.2.2.2.1⟩, ⟨d1, d2, hX.2.2.2.1, hM0.2.2.2.2.2⟩, ⟨hX.2.2.2.2.2.1, a1, hM0.2.2.1⟩, ⟨hX.2.2.2.2.2.2, f1, hM0.2.2.2.1⟩, p1, p2, p3⟩
  obtain ⟨⟨t0, -, g1, g2, -⟩, ⟨t1, -, g3, g4, -⟩, -⟩ := id h
  obtain ⟨u1, u2, u3, u4, u5, pA, sA, lA, kM, hNA⟩ := countsM (ns := ns) h hS b2 d2 p3 s2 (g2.trans g1.symm) (g4.trans g3.symm)
  obtain ⟨mc, rl1, rl2⟩ := h.landAny hX.c36 hX.1.1 c1 c2 u1 u2 u4
  obtain ⟨mh, rh1, rh2⟩ := h.housesAny hX.n8 n1 u3 u5
  have hM : MOK C N nb nd a f (xa 2) (xa 7) (xa 8) (xa 9) (xa 10) (xa 12) (xa 13) mc mh (ma 8) (ma 9) (ma 10) := ⟨rl2, rh2, hM0.2.2⟩
  rw [c1, c2, c3, n1, b1, d1, s1, a1, f1, p1, p2, b2, d2, p3, s2]
  -- cells
  obtain ⟨sB, wB1, wB2, wB3, wB4, wB5, wB6, cX, hTB⟩ := cellX hX hT hC ((31 : Int64) * ((31 : Int64) * colV 17 (cntV C N W nb nd ns (xi 2) (xi 3)) 8 + (xi 4).toInt64) + (xi 8).toInt64)
  have cM := cellM hX rl2 (LL := LLs C W R (xa 2) (xa 2) (fun _ => true) nb (xa 9) (xa 10) nd (xa 12) (xa 13) a f) (fun n hn => (hNA n hn).2.2) ((31 : Int64) * ((31 : Int64) * colV 17 (cntV C N W nb nd ns (xi 2) (xi 3)) 8 + (xi 4).toInt64) + (xi 8).toInt64)
  generalize hH1 : cellV ((31 : Int64) * ((31 : Int64) * colV 17 (cntV C N W nb nd ns (xi 2) (xi 3)) 8 + (xi 4).toInt64) + (xi 8).toInt64) (xa 2) (fun c => realmS C W (LLs C W R (xa 2) (xa 2) (fun _ => true) nb (xa 9) (xa 10) nd (xa 12) (xa 13) a f) 0 c) (fun c => realmS C W (LLs C W R (xa 2) (xa 2) (fun _ => true) nb (xa 9) (xa 10) nd (xa 12) (xa 13) a f) 9 c) C = H1 at cX cM
  -- chances
  obtain ⟨v1, v2, v3, v4, v5, v6, v7, v8, v9, v10, sh, wX, hsh⟩ := weigh_x (c := 5) (n := 4) (r := 0) hX (by omega) (by omega) (xi 17) (xi 18) (xi 19) (xi 20) (xa 23) (xa 24) (xa 25) (xa 26) (xm 1) (xa 27) (xl 0) (xm 2)
  have hch : ∀ k : Nat, ∃ q : Nat × Nat, k < N → (∀ ab be, f_X0_reduce (lN (2 ^ (4 * cntB (matB C f nb (xa 9) (xa 10) 4) nb))) ab be sh (nI k) = some (lN q.1, lN (2 ^ q.2))) ∧ Lowest (trB 5 (16 - 5) (matB C f nb (xa 9) (xa 10) 4) nb (chF C W R nb nd a f (xa 2) (xa 7) (xa 9) (xa 10) (xa 12) (xa 13) 4 k (nI 0))) (cntB (matB C f nb (xa 9) (xa 10) 4) nb) q.1 q.2 := by
    intro k
    by_cases hk : k < N
    · obtain ⟨x, j, e1, e2⟩ := reduceX2 (c := 5) (n := 4) (r := nI 0) hX (by omega) (by omega) hk (hsh k hk)
      exact ⟨(x, j), fun _ => ⟨e1, e2⟩⟩
    · exact ⟨(0, 0), fun q => absurd q hk⟩
  obtain ⟨xf, hxf⟩ : ∃ xf : Nat → Nat × Nat, ∀ k : Nat, k < N → (∀ ab be, f_X0_reduce (lN (2 ^ (4 * cntB (matB C f nb (xa 9) (xa 10) 4) nb))) ab be sh (nI k) = some (lN (xf k).1, lN (2 ^ (xf k).2))) ∧ Lowest (trB 5 (16 - 5) (matB C f nb (xa 9) (xa 10) 4) nb (chF C W R nb nd a f (xa 2) (xa 7) (xa 9) (xa 10) (xa 12) (xa 13) 4 k (nI 0))) (cntB (matB C f nb (xa 9) (xa 10) 4) nb) (xf k).1 (xf k).2 := ⟨fun k => Classical.choose (hch k), fun k => Classical.choose_spec (hch k)⟩
  -- houses
  obtain ⟨sD, wD1, wD2, wD3, wD4, wD5, wD6, q1, q2, q3, q4, q5, q6, q7, q8, q9, q10, q11, q12, q13, q14, q15, hoX, hTD⟩ := housesX hX hTB hC (xf := xf) (fun k hk => (hxf k hk).1) v1 v2 v3 v4 v5 v6 v7 v8 v9 v10 (xi 21) (xi 22) (xi 23) (xl 1) (xl 2) H1
  obtain ⟨mb, pE, sE, lE, hoM, hbE⟩ := housesM hX hM (xf := xf) (fun k hk => (hxf k hk).2) pA sA lA H1
  have hME := hM.bowls hbE
  generalize housesV C W R N nb nd a f (xa 2) (xa 7) (xa 8) (xa 9) (xa 10) (xa 12) (xa 13) xf H1 N = H2 at hoX hoM
  -- nights
  obtain ⟨r1, r2, r3, r4, r5, r6, r7, r8, r9, r10, r11, nX0⟩ := mixNight_x hX hSO hTD hC (n := 0) (by omega) q1 q2 q3 q4 q5 q6 q7 q8 q9 q10 (xa 28) H2
  obtain ⟨pF, sF, lF, alF, nM0⟩ := tellsNight_m hX hME hSO (n := 0) (by omega) pE sE lE (ma 15) H2
  generalize colV _ _ W = H3 at nX0 nM0
  obtain ⟨r1', r2', r3', r4', r5', r6', r7', r8', r9', r10', r11', nX3⟩ := mixNight_x hX hSO (told_T (st := st) (fr := fr) (tr := tr) (go := go) (td := td) (li := li)) hC (n := 3) (by omega) r1 r2 r3 r4 r5 r6 r7 r8 r9 r10 r11 H3
  obtain ⟨pG, sG, lG, alG, nM3⟩ := tellsNight_m hX hME hSO (n := 3) (by omega) pF sF lF alF H3
  generalize colV _ _ W = H4 at nX3 nM3
  obtain ⟨m1, m2, m3, m4, m5, m6, m7, m8, m9, m10, m11, nX9⟩ := mixNight_x hX hSO (told_T (st := st) (fr := fr) (tr := tr) (go := go) (td := td) (li := li)) hC (n := 9) (by omega) r1' r2' r3' r4' r5' r6' r7' r8' r9' r10' r11' H4
  obtain ⟨pI, sI, lI, alI, nM9⟩ := tellsNight_m hX hME hSO (n := 9) (by omega) pG sG lG alG H4
  generalize colV _ _ W = H5 at nX9 nM9
  -- first
  obtain ⟨pJ, sJ, lJ, lvJ, hNJ⟩ := livesM hX hME (n := 9) (by omega) pI sI lI
  have fX0 := first_x hX (told_T (st := st) (fr := fr) (tr := tr) (go := go) (td := td) (li := li)) hC (r := 0) (by omega)
  have fX1 := first_x hX (told_T (st := st) (fr := fr) (tr := tr) (go := go) (td := td) (li := li)) hC (r := 1) (by omega)
  have fM0 := firstM hX hME (nI 0) (fun m hm => (hNJ m hm).2.2)
  have fM1 := firstM hX hME (nI 1) (fun m hm => (hNJ m hm).2.2)
  generalize firstS _ N (nI 0) = w0 at fX0 fM0
  generalize firstS _ N (nI 1) = w1 at fX1 fM1
  -- live
  have lX0 : f_X8_live 0 (nI C) (nI W) (nI R) (xa 2) (xa 3) (xa 4) (xa 5) (xa 6) (nI N) (xa 7) (nI nb) (xa 9) (xa 10) (nI nd) (xa 12) (xa 13) (nI a) (nI f) (-1) (-1) st fr tr go td li (0 : Int32) (0 : Int32) = some (liveV C W R N nb nd a f (xa 2) (xa 7) (xa 9) (xa 10) (xa 12) (xa 13) 0, 0, st, fr, tr, go, td, li) := live_x hX told_T hC (r := 0) (w := 0) (by omega) (by omega)
  have lX1 : f_X8_live 0 (nI C) (nI W) (nI R) (xa 2) (xa 3) (xa 4) (xa 5) (xa 6) (nI N) (xa 7) (nI nb) (xa 9) (xa 10) (nI nd) (xa 12) (xa 13) (nI a) (nI f) (-1) (-1) st fr tr go td li (0 : Int32) (1 : Int32) = some (liveV C W R N nb nd a f (xa 2) (xa 7) (xa 9) (xa 10) (xa 12) (xa 13) 1, 0, st, fr, tr, go, td, li) := live_x hX told_T hC (r := 0) (w := 1) (by omega) (by omega)
  have lX2 : f_X8_live 0 (nI C) (nI W) (nI R) (xa 2) (xa 3) (xa 4) (xa 5) (xa 6) (nI N) (xa 7) (nI nb) (xa 9) (xa 10) (nI nd) (xa 12) (xa 13) (nI a) (nI f) (-1) (-1) st fr tr go td li (1 : Int32) (0 : Int32) = some (liveV C W R N nb nd a f (xa 2) (xa 7) (xa 9) (xa 10) (xa 12) (xa 13) 2, 0, st, fr, tr, go, td, li) := live_x hX told_T hC (r := 1) (w := 0) (by omega) (by omega)
  have lX3 : f_X8_live 0 (nI C) (nI W) (nI R) (xa 2) (xa 3) (xa 4) (xa 5) (xa 6) (nI N) (xa 7) (nI nb) (xa 9) (xa 10) (nI nd) (xa 12) (xa 13) (nI a) (nI f) (-1) (-1) st fr tr go td li (1 : Int32) (1 : Int32) = some (liveV C W R N nb nd a f (xa 2) (xa 7) (xa 9) (xa 10) (xa 12) (xa 13) 3, 0, st, fr, tr, go, td, li) := live_x hX told_T hC (r := 1) (w := 1) (by omega) (by omega)
  obtain ⟨pK, sK, lK, lvM⟩ := livesLoopM hX hME pJ sJ lJ ((31 : Int64) * ((31 : Int64) * H5 + w0.toInt64) + w1.toInt64)
  have ecol : colV ((31 : Int64) * ((31 : Int64) * H5 + w0.toInt64) + w1.toInt64) (liveV C W R N nb nd a f (xa 2) (xa 7) (xa 9) (xa 10) (xa 12) (xa 13)) 4 = (31 : Int64) * ((31 : Int64) * ((31 : Int64) * ((31 : Int64) * ((31 : Int64) * ((31 : Int64) * H5 + w0.toInt64) + w1.toInt64) + (liveV C W R N nb nd a f (xa 2) (xa 7) (xa 9) (xa 10) (xa 12) (xa 13) 0).toInt64) + (liveV C W R N nb nd a f (xa 2) (xa 7) (xa 9) (xa 10) (xa 12) (xa 13) 1).toInt64) + (liveV C W R N nb nd a f (xa 2) (xa 7) (xa 9) (xa 10) (xa 12) (xa 13) 2).toInt64) + (liveV C W R N nb nd a f (xa 2) (xa 7) (xa 9) (xa 10) (xa 12) (xa 13) 3).toInt64 := rfl
  rw [ecol] at lvM
  -- never, began, roam
  obtain ⟨k1, k2, k3, k4, k5, k6, k7, k8, k9, k10, nvX⟩ := never_x hX hSO m1 m2 m3 m4 m5 m6 m7 m8 m9 m10
  obtain ⟨pL, sL, lL, nvM⟩ := neverM hX hME hSO pK sK lK
  obtain ⟨j1, j2, j3, j4, j5, j6, j7, j8, j9, j10, bgX⟩ := began_x hX hSO k1 k2 k3 k4 k5 k6 k7 k8 k9 k10
  obtain ⟨pO, sO, lO, bgM⟩ := beganM hX hME hSO pL sL lL
  have rX0 := roam_x hX (n := 20) (w := 0) 7 (by omega) (by omega)
  have rX1 := roam_x hX (n := 20) (w := 1) 7 (by omega) (by omega)
  obtain ⟨dr0, rM0⟩ := roamM hX hME.1 hME.2.2.1 (n := 20) 7 (nI 0) (mi 8) (by omega)
  obtain ⟨dr1', rM1⟩ := roamM hX hME.1 hME.2.2.1 (n := 20) 7 (nI 1) dr0 (by omega)
  rw [show nI 5 = 5 from rfl, show nI 4 = 4 from rfl, show nI 0 = 0 from rfl] at wX
  rw [show nI 0 = 0 from rfl] at nX0 nM0 fX0 fM0 rX0 rM0
  rw [show nI 1 = 1 from rfl] at fX1 fM1 rX1 rM1
  rw [show nI 3 = 3 from rfl] at nX3 nM3
  rw [show nI 9 = 9 from rfl] at nX9 nM9 lvJ
  rw [show nI 20 = 20 from rfl] at rX0 rX1 rM0 rM1
  generalize roamA W R C (xa 2) a 20 7 0 = o0 at rX0 rM0
  generalize roamA W R C (xa 2) a 20 7 1 = o1 at rX1 rM1
  refine ⟨(31 : Int64) * ((31 : Int64) * ((31 : Int64) * ((31 : Int64) * ((31 : Int64) * ((31 : Int64) * ((31 : Int64) * ((31 : Int64) * ((31 : Int64) * ((31 : Int64) * H5 + w0.toInt64) + w1.toInt64) + (liveV C W R N nb nd a f (xa 2) (xa 7) (xa 9) (xa 10) (xa 12) (xa 13) 0).toInt64) + (liveV C W R N nb nd a f (xa 2) (xa 7) (xa 9) (xa 10) (xa 12) (xa 13) 1).toInt64) + (liveV C W R N nb nd a f (xa 2) (xa 7) (xa 9) (xa 10) (xa 12) (xa 13) 2).toInt64) + (liveV C W R N nb nd a f (xa 2) (xa 7) (xa 9) (xa 10) (xa 12) (xa 13) 3).toInt64) + (bitsI (nvB C W R N nb nd ns a f (xa 2) (xa 7) (xa 9) (xa 10) (xa 12) (xa 13) (xa 15) (xa 16) (xa 17)) nb).toInt64) + (bitsI (bgB C W R N nb nd ns f (xa 2) (xa 7) (xa 9) (xa 10) (xa 12) (xa 13) (xa 15) (xa 16) (xa 17)) 6).toInt64) + o0.toInt64) + o1.toInt64, 0, st, fr, tr, go, td, li, j1, j2, j3, j4, j5, j6, j7, j8, j9, j10, q11, q12, q13, lN (2 ^ (4 * cntB (matB C f nb (xa 9) (xa 10) 4) nb)), q14, q15, sh, m11, nI C, nI W, nI N, nI nb, 0, dr1', mc, mh, ma 8, mb, pO, sO, lO, alI, ?_, ?_, hR.bowlsBack b1 hbE p3⟩
  · unfold f_X8_digest
    rw [countsX, bind1_def, fault_0, bind1_def, mix_eq, bind1_def, fault_1, bind1_def, mix_eq, bind1_def, cX, bind8_def, wX, bind12_def, hoX, bind23_def, nX0, bind19_def, nX3, bind19_def, nX9, bind19_def, fX0, bind8_def, mix_eq, bind1_def, fX1, bind8_def, mix_eq, bind1_def, lX0, bind8_def, mix_eq, bind1_def, lX1, bind8_def, mix_eq, bind1_def, lX2, bind8_def, mix_eq, bind1_def, lX3, bind8_def, mix_eq, bind1_def, nvX, bind11_def, mix_eq, bind1_def, bgX, bind11_def, mix_eq, bind1_def, rX0, bind1_def, mix_eq, bind1_def, rX1, bind1_def, mix_eq, bind1_def]
  · unfold f_X9_digest
    rw [kM, bind9_def, rl1, bind4_def, letv_def, rh1, bind3_def, letv_def, cM, bind1_def, hoM, bind8_def, nM0, bind6_def, nM3, bind6_def, nM9, bind6_def, lvJ, bind3_def, fM0, bind1_def, letv_def, fM1, bind1_def, letv_def, lvM, bind4_def, nvM, bind5_def, letv_def, bgM, bind5_def, letv_def, rM0, bind2_def, letv_def, rM1, bind2_def]
