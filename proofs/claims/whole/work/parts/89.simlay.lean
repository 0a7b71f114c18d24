theorem m1_64 : (-1 : Int64) = (-1 : Int32).toInt64 := by decide
theorem one_64 : (1 : Int64) = (1 : Int32).toInt64 := by decide
theorem three_cases {i : Int32} (h1 : ¬ i < -1) (h2 : ¬ (1 : Int32) < i) : i = -1 ∨ i = 0 ∨ i = 1 := by
  rw [Int32.lt_iff_toInt_lt] at h1 h2
  have e1 : (-1 : Int32).toInt = -1 := by decide
  have e2 : (1 : Int32).toInt = 1 := by decide
  have e0 : (0 : Int32).toInt = 0 := by decide
  rcases (show i.toInt = -1 ∨ i.toInt = 0 ∨ i.toInt = 1 by omega) with q | q | q
  · exact Or.inl (Int32.toInt_inj.mp (q.trans e1.symm))
  · exact Or.inr (Or.inl (Int32.toInt_inj.mp (q.trans e0.symm)))
  · exact Or.inr (Or.inr (Int32.toInt_inj.mp (q.trans e2.symm)))
/-- bowls behind a plan are as they were -/
theorem RMark.row {num : Int32} {nights things : Nat → Int32} {mnum : Int32} {mm mm' : Nat → Int32} (h : RMark num nights things mnum mm) {nb : Nat} (e : num = nI nb) (hb : RowOK 8 nb mm' nights things) : RMark num nights things (nI nb) mm' := by
  obtain ⟨n, hn, e1, e2, e3⟩ := h
  have hb1 := hb.1
  have q := e1.symm.trans e
  rw [nI_eq_i (by omega) (by omega)] at q
  subst q
  exact ⟨n, hn, e1, rfl, fun i hi => ⟨(hb.2 i hi).1, (hb.2 i hi).2, (e3 i hi).2.2⟩⟩
theorem sim_layOut {xi : Nat → Int32} {xa : Nat → Nat → Int32} {xl : Nat → Int64} {xm : Nat → Nat → Int64} {mi : Nat → Int32} {ma : Nat → Nat → Int32} (h : Rel xi xa xl xm mi ma) (z1 z2 z3 z4 : Int32) : ∃ (r : Int32) (c1 : Int32) (c2 : Int32) (c3 : Int32) (c4 : Int32) (c5 : Nat → Int32) (c6 : Nat → Int32) (c7 : Nat → Int32) (c8 : Nat → Int32) (c9 : Nat → Int64) (c10 : Nat → Int32) (c11 : Int32) (c12 : Int32) (c13 : Int32) (d1 : Int32) (d2 : Int32) (d3 : Int32) (d4 : Int32) (d5 : Nat → Int32) (d6 : Nat → Int32) (d7 : Nat → Int32) (d8 : Nat → Int32) (d9 : Nat → Int32) (d10 : Nat → Int32) , f_X8_layOut (xi 5) (xi 6) (xi 7) (xa 2) (xa 3) (xa 4) (xa 5) (xa 6) (xi 9) (xa 7) (xi 10) (xa 9) (xa 10) (xi 11) (xa 12) (xa 13) (xi 13) (xi 14) (xi 15) (xi 16) (xi 17) (xi 18) (xi 19) (xi 20) (xa 23) (xa 24) (xa 25) (xa 26) (xm 1) (xa 27) (xi 21) (xi 22) (xi 23) z1 z2 z3 z4 = some (r, c1, c2, c3, c4, c5, c6, c7, c8, c9, c10, c11, c12, c13) ∧ f_X9_layOut (mi 1) (mi 2) (mi 3) (mi 4) (mi 5) (mi 6) (ma 4) (ma 5) (ma 6) (ma 7) (ma 8) (ma 9) (ma 10) (ma 11) (ma 12) (ma 13) z1 z2 z3 z4 = some (r, d1, d2, d3, d4, d5, d6, d7, d8, d9, d10) ∧ Rel (va_up (va_up (va_up (va_up (va_up (va_up (va_up xi 17 c1) 18 c2) 19 c3) 20 c4) 21 c11) 22 c12) 23 c13) (va_up (va_up (va_up (va_up (va_up xa 23 c5) 24 c6) 25 c7) 26 c8) 27 c10) xl (va_up xm 1 c9) (va_up (va_up (va_up (va_up mi 1 d1) 2 d2) 3 d3) 4 d4) (va_up (va_up (va_up (va_up (va_up (va_up ma 6 d5) 7 d6) 9 d7) 11 d8) 12 d9) 13 d10) := by
  obtain ⟨C, W, R, N, nb, nd, ns, a, f, ⟨⟨c1, c2, c3⟩, n1, ⟨b1, d1, s1⟩, a1, f1, p1, p2⟩, ⟨b2, d2, p3, s2⟩, hX, hSO, ⟨st, fr, tr, go, td, li, hT, hC, hR⟩, mc, mh, p, s, l, hF, hM, hN⟩ := h.all
  rw [c1, c2, c3, n1, b1, d1, a1, f1, p1, p2, b2, d2, p3]
  have keep : ∀ mb', RowOK 8 nb mb' (xa 9) (xa 10) → Rel xi xa xl xm (va_up mi 4 (nI nb)) (va_up ma 9 mb') := by
    intro mb' hb
    obtain ⟨hT0, hT1, hL, hH, hB, hD, hSi, hSe, hFi, hSh, hWk⟩ := id h
    exact ⟨hT0, hT1, hL, hH, hB.row b1 hb, hD, hSi, hSe, hFi, hSh, hWk⟩
  have bad : f_X8_layOut (nI C) (nI W) (nI R) (xa 2) (xa 3) (xa 4) (xa 5) (xa 6) (nI N) (xa 7) (nI nb) (xa 9) (xa 10) (nI nd) (xa 12) (xa 13) (nI a) (nI f) (-1) (-1) (xi 17) (xi 18) (xi 19) (xi 20) (xa 23) (xa 24) (xa 25) (xa 26) (xm 1) (xa 27) (xi 21) (xi 22) (xi 23) z1 z2 z3 z4 = some (-2, xi 17, xi 18, xi 19, xi 20, xa 23, xa 24, xa 25, xa 26, xm 1, xa 27, xi 21, xi 22, xi 23) → f_X9_layOut (mi 1) (mi 2) (mi 3) (nI nb) (nI nd) 0 (ma 4) (ma 5) (ma 6) (ma 7) (ma 8) (ma 9) (ma 10) (ma 11) (ma 12) (ma 13) z1 z2 z3 z4 = some (-2, nI C, nI W, nI N, nI nb, mc, mh, ma 9, p, s, l) → ∃ (r : Int32) (c1 : Int32) (c2 : Int32) (c3 : Int32) (c4 : Int32) (c5 : Nat → Int32) (c6 : Nat → Int32) (c7 : Nat → Int32) (c8 : Nat → Int32) (c9 : Nat → Int64) (c10 : Nat → Int32) (c11 : Int32) (c12 : Int32) (c13 : Int32) (d1 : Int32) (d2 : Int32) (d3 : Int32) (d4 : Int32) (d5 : Nat → Int32) (d6 : Nat → Int32) (d7 : Nat → Int32) (d8 : Nat → Int32) (d9 : Nat → Int32) (d10 : Nat → Int32) , f_X8_layOut (nI C) (nI W) (nI R) (xa 2) (xa 3) (xa 4) (xa 5) (xa 6) (nI N) (xa 7) (nI nb) (xa 9) (xa 10) (nI nd) (xa 12) (xa 13) (nI a) (nI f) (-1) (-1) (xi 17) (xi 18) (xi 19) (xi 20) (xa 23) (xa 24) (xa 25) (xa 26) (xm 1) (xa 27) (xi 21) (xi 22) (xi 23) z1 z2 z3 z4 = some (r, c1, c2, c3, c4, c5, c6, c7, c8, c9, c10, c11, c12, c13) ∧ f_X9_layOut (mi 1) (mi 2) (mi 3) (nI nb) (nI nd) 0 (ma 4) (ma 5) (ma 6) (ma 7) (ma 8) (ma 9) (ma 10) (ma 11) (ma 12) (ma 13) z1 z2 z3 z4 = some (r, d1, d2, d3, d4, d5, d6, d7, d8, d9, d10) ∧ Rel (va_up (va_up (va_up (va_up (va_up (va_up (va_up xi 17 c1) 18 c2) 19 c3) 20 c4) 21 c11) 22 c12) 23 c13) (va_up (va_up (va_up (va_up (va_up xa 23 c5) 24 c6) 25 c7) 26 c8) 27 c10) xl (va_up xm 1 c9) (va_up (va_up (va_up (va_up mi 1 d1) 2 d2) 3 d3) 4 d4) (va_up (va_up (va_up (va_up (va_up (va_up ma 6 d5) 7 d6) 9 d7) 11 d8) 12 d9) 13 d10) :=
    fun q1 q2 => ⟨-2, _, _, _, _, _, _, _, _, _, _, _, _, _, _, _, _, _, _, _, _, _, _, _, q1, q2, keep (ma 9) hM.2.2.2.2.1⟩
  have M0 : ∀ v : Int32, f_X9_in v.toInt64 (-1 : Int64) (1 : Int64) = if v < -1 then some 0 else if (1 : Int32) < v then some 0 else some 1 := fun v => by rw [m1_64, one_64, in_32]
  rcases question_cases hX.n8 z1 z2 z3 with ⟨e, e'⟩ | ⟨e1, e2, e3, n, k, r, hn, hk, hr, rfl, rfl, rfl⟩
  · refine bad (by unfold f_X8_layOut; rw [e]; rfl) ?_
    unfold f_X9_layOut
    rw [hF, bind8_def, isNight_eq, isHouse_eq, in2]
    rcases e' with q | ⟨q1, q2⟩ | ⟨q1, q2, q3⟩
    · rw [q]; rfl
    · rw [q1, q2]; rfl
    · rw [q1, q2, q3]; rfl
  have hq : f_X8_isQuestion (nI N) (nI n) (nI k) (nI r) = some 1 := question_yes hn hk hX.n8 hr
  have X : f_X8_layOut (nI C) (nI W) (nI R) (xa 2) (xa 3) (xa 4) (xa 5) (xa 6) (nI N) (xa 7) (nI nb) (xa 9) (xa 10) (nI nd) (xa 12) (xa 13) (nI a) (nI f) (-1) (-1) (xi 17) (xi 18) (xi 19) (xi 20) (xa 23) (xa 24) (xa 25) (xa 26) (xm 1) (xa 27) (xi 21) (xi 22) (xi 23) (nI n) (nI k) (nI r) z4 = (if z4 < (-1 : Int32) then (some ((-2 : Int32), xi 17, xi 18, xi 19, xi 20, xa 23, xa 24, xa 25, xa 26, xm 1, xa 27, xi 21, xi 22, xi 23)) else (if z4 ≤ (1 : Int32) then (bind13 (f_X8_planBowls (nI C) (nI W) (nI R) (xa 2) (xa 3) (xa 4) (xa 5) (xa 6) (xa 7) (nI nb) (xa 9) (xa 10) (nI nd) (xa 12) (xa 13) (nI a) (nI f) (-1) (-1) (xi 17) (xi 18) (xi 19) (xi 20) (xa 23) (xa 24) (xa 25) (xa 26) (xm 1) (xa 27) (xi 21) (xi 22) (xi 23) (nI n) (nI k) (nI r)) (fun c2 c3 c4 c5 c6 c7 c8 c9 c10 c11 c12 c13 c14 => bind1 (f_X2_told c12 c13 c14 z4) (fun r15 => some (r15, c2, c3, c4, c5, c6, c7, c8, c9, c10, c11, c12, c13, c14)))) else (some ((-2 : Int32), xi 17, xi 18, xi 19, xi 20, xa 23, xa 24, xa 25, xa 26, xm 1, xa 27, xi 21, xi 22, xi 23)))) := by
    unfold f_X8_layOut
    rw [hq]; rfl
  have M : f_X9_layOut (mi 1) (mi 2) (mi 3) (nI nb) (nI nd) 0 (ma 4) (ma 5) (ma 6) (ma 7) (ma 8) (ma 9) (ma 10) (ma 11) (ma 12) (ma 13) (nI n) (nI k) (nI r) z4 = bind1 (if z4 < -1 then some (0 : Int32) else if (1 : Int32) < z4 then some 0 else some 1) (fun r12 => if r12 = 0 then (some ((-2 : Int32), nI C, nI W, nI N, nI nb, mc, mh, ma 9, p, s, l)) else (bind6 (f_X9_layOutOf (nI C) (nI W) (nI nb) (nI nd) 0 mc mh (ma 8) (ma 9) (ma 10) p s l (nI n) (nI k) (nI r) z4) (fun r13 c14 c15 c16 c17 c18 => some (r13, nI C, nI W, nI N, c14, mc, mh, c15, c16, c17, c18)))) := by
    unfold f_X9_layOut
    rw [hF, bind8_def, isNight_eq, isHouse_eq, in2, e1, bind1_def, if_neg one_ne0, e2, bind1_def, if_neg one_ne0, e3, bind1_def, if_neg one_ne0, M0]
  by_cases h1 : z4 < -1
  · exact bad (by rw [X, if_pos h1]) (by rw [M, if_pos h1]; rfl)
  rw [if_neg h1] at X M
  by_cases h2 : (1 : Int32) < z4
  · exact bad (by rw [X, if_neg (Int32.not_le.mpr h2)]) (by rw [M, if_pos h2]; rfl)
  rw [if_neg h2, bind1_def, if_neg one_ne0] at M
  rw [if_pos (Int32.not_lt.mp h2)] at X
  obtain ⟨x1, x2, x3, x4, x5, x6, x7, x8, x9, x10, x11, x12, x13, hx, ht⟩ := planBowls_x hX hn hk hr (xi 17) (xi 18) (xi 19) (xi 20) (xa 23) (xa 24) (xa 25) (xa 26) (xm 1) (xa 27) (xi 21) (xi 22) (xi 23)
  obtain ⟨mb', pa, sp, ln, hm, hb⟩ := layM (r := nI r) hX hM hn hk z4 p s l
  rw [hx, bind13_def, ht z4 (three_cases h1 h2), bind1_def] at X
  rw [hm, bind6_def] at M
  exact ⟨_, _, _, _, _, _, _, _, _, _, _, _, _, _, _, _, _, _, _, _, _, _, _, _, X, M, keep mb' hb⟩
