theorem one_ne0 : ¬ (1 : Int32) = 0 := by decide
theorem RSet.s {start frost present raked : Int32} {set : Nat → Int32} {gone : Int32} (h : RSet start frost present raked set gone) : set 0 = start ∧ set 1 = frost := by
  obtain ⟨⟨a, -, e1, e2⟩, ⟨b, -, e3, e4⟩, -⟩ := h
  exact ⟨by rw [e1, e2], by rw [e3, e4]⟩
theorem sim_forget {xi : Nat → Int32} {xa : Nat → Nat → Int32} {xl : Nat → Int64} {xm : Nat → Nat → Int64} {mi : Nat → Int32} {ma : Nat → Nat → Int32} (h : Rel xi xa xl xm mi ma) : ∃ (r : Int32) (c1 : Int32) (d1 : Int32) , f_X8_forget (xi 12) = some (r, c1) ∧ f_X9_forget (mi 7) = some (r, d1) ∧ Rel (va_up xi 12 c1) xa xl xm (va_up mi 7 d1) ma := by
  obtain ⟨hT0, hT1, hL, hH, hB, hD, hS, hSe, hF, hSh, hW⟩ := h
  obtain ⟨n, hn, e1, e2, hs⟩ := hS
  refine ⟨xi 12, 0, 0, rfl, by rw [e1, ← e2]; rfl, ?_⟩
  exact ⟨hT0, hT1, hL, hH, hB, hD, ⟨0, by omega, rfl, rfl, fun i hi => absurd hi (Nat.not_lt_zero _)⟩, hSe, hF, hSh, hW⟩
theorem sim_set {xi : Nat → Int32} {xa : Nat → Nat → Int32} {xl : Nat → Int64} {xm : Nat → Nat → Int64} {mi : Nat → Int32} {ma : Nat → Nat → Int32} (h : Rel xi xa xl xm mi ma) (z1 z2 : Int32) : ∃ (r : Int32) (c1 : Int32) (c2 : Int32) (c3 : Int32) (d1 : Nat → Int32) , f_X8_set (xi 0) (xi 13) (xi 14) z1 z2 = some (r, c1, c2, c3) ∧ f_X9_set (ma 8) z1 z2 = some (r, d1) ∧ Rel (va_up (va_up (va_up xi 0 c1) 13 c2) 14 c3) xa xl xm mi (va_up ma 8 d1) := by
  have hbad : f_X8_set (xi 0) (xi 13) (xi 14) z1 z2 = some (-2, xi 0, xi 13, xi 14) → f_X9_set (ma 8) z1 z2 = some (-2, ma 8) → ∃ (r : Int32) (c1 : Int32) (c2 : Int32) (c3 : Int32) (d1 : Nat → Int32), f_X8_set (xi 0) (xi 13) (xi 14) z1 z2 = some (r, c1, c2, c3) ∧ f_X9_set (ma 8) z1 z2 = some (r, d1) ∧ Rel (va_up (va_up (va_up xi 0 c1) 13 c2) 14 c3) xa xl xm mi (va_up ma 8 d1) := by
    intro h1 h2
    exact ⟨_, _, _, _, _, h1, h2, by simpa only [up_self] using h⟩
  obtain ⟨hT0, hT1, hL, hH, hB, hD, hS, hSe, hF, hSh, hW⟩ := id h
  obtain ⟨q0, q1⟩ := hSe.s
  rcases upTo_cases z1 (M := 1) (by omega) with ⟨e1, -⟩ | ⟨e1, k, hk, rfl⟩
  · apply hbad
    · unfold f_X8_set
      rw [show f_X8_isUpTo z1 (1 : Int32) = some 0 from e1]; rfl
    · unfold f_X9_set
      rw [isTwo_eq, show f_X8_isUpTo z1 (1 : Int32) = some 0 from e1]; rfl
  · rcases (show k = 0 ∨ k = 1 by omega) with rfl | rfl
    · rcases upTo_cases z2 (M := 5) (by omega) with ⟨e2, -⟩ | ⟨e2, j, hj, rfl⟩
      · apply hbad
        · unfold f_X8_set f_X8_set_b19
          rw [show f_X8_isUpTo (nI 0) (1 : Int32) = some 1 from e1, show f_X8_isUpTo z2 (5 : Int32) = some 0 from e2]; rfl
        · unfold f_X9_set f_X9_set_b23
          rw [isTwo_eq, show f_X8_isUpTo (nI 0) (1 : Int32) = some 1 from e1, show (5 : Int64) = (5 : Int32).toInt64 from by decide, in_up, show f_X8_isUpTo z2 (5 : Int32) = some 0 from e2]; rfl
      · refine ⟨xi 13, 1, nI j, xi 14, upd (ma 8) 0 (nI j), ?_, ?_, ?_⟩
        · unfold f_X8_set f_X8_set_b19 f_X8_set_b67
          rw [show f_X8_isUpTo (nI 0) (1 : Int32) = some 1 from e1, show f_X8_isUpTo (nI j) (5 : Int32) = some 1 from e2]; rfl
        · unfold f_X9_set f_X9_set_b23
          rw [isTwo_eq, show f_X8_isUpTo (nI 0) (1 : Int32) = some 1 from e1, show (5 : Int64) = (5 : Int32).toInt64 from by decide, in_up, show f_X8_isUpTo (nI j) (5 : Int32) = some 1 from e2, ← q0]
          rfl
        · obtain ⟨h1, h2, h3, h4, h5⟩ := hSe
          obtain ⟨a, g1, g2, g3⟩ := h2
          have hSe' : RSet (nI j) (xi 14) (xi 15) (xi 16) (upd (ma 8) 0 (nI j)) (mi 6) := ⟨⟨j, hj, rfl, upd_at _ _ _⟩, ⟨a, g1, g2, (upd_ne _ _ (by omega)).trans g3⟩, h3, h4, h5⟩
          exact ⟨hT0, hT1, hL, hH, hB, hD, hS, hSe', hF, hSh, Or.inl rfl⟩
    · rcases upTo_cases z2 (M := 10) (by omega) with ⟨e2, -⟩ | ⟨e2, j, hj, rfl⟩
      · apply hbad
        · unfold f_X8_set f_X8_set_b19
          rw [show f_X8_isUpTo (nI 1) (1 : Int32) = some 1 from e1, show f_X8_isUpTo z2 (10 : Int32) = some 0 from e2]; rfl
        · unfold f_X9_set f_X9_set_b23
          rw [isTwo_eq, show f_X8_isUpTo (nI 1) (1 : Int32) = some 1 from e1, show (10 : Int64) = (10 : Int32).toInt64 from by decide, in_up, show f_X8_isUpTo z2 (10 : Int32) = some 0 from e2]; rfl
      · refine ⟨xi 14, 1, xi 13, nI j, upd (ma 8) 1 (nI j), ?_, ?_, ?_⟩
        · unfold f_X8_set f_X8_set_b19 f_X8_set_b67
          rw [show f_X8_isUpTo (nI 1) (1 : Int32) = some 1 from e1, show f_X8_isUpTo (nI j) (10 : Int32) = some 1 from e2]; rfl
        · unfold f_X9_set f_X9_set_b23
          rw [isTwo_eq, show f_X8_isUpTo (nI 1) (1 : Int32) = some 1 from e1, show (10 : Int64) = (10 : Int32).toInt64 from by decide, in_up, show f_X8_isUpTo (nI j) (10 : Int32) = some 1 from e2, ← q1]
          rfl
        · obtain ⟨h1, h2, h3, h4, h5⟩ := hSe
          obtain ⟨a, g1, g2, g3⟩ := h1
          have hSe' : RSet (xi 13) (nI j) (xi 15) (xi 16) (upd (ma 8) 1 (nI j)) (mi 6) := ⟨⟨a, g1, g2, (upd_ne _ _ (by omega)).trans g3⟩, ⟨j, hj, rfl, upd_at _ _ _⟩, h3, h4, h5⟩
          exact ⟨hT0, hT1, hL, hH, hB, hD, hS, hSe', hF, hSh, Or.inl rfl⟩

/-- a mark more, as both sides put it -/
theorem mark_more {num : Int32} {nights things realms : Nat → Int32} {mnum : Int32} {mm : Nat → Int32} (h : RMark num nights things mnum mm) (stale z1 z2 : Int32) :
    (f_X8_putMark stale num nights things realms z1 z2 = some (-2, stale, num, nights, things, realms) ∧ f_X9_bowl mnum mm z1 z2 = some (-2, mnum, mm) ∧ f_X9_dog mnum mm z1 z2 = some (-2, mnum, mm)) ∨
    (f_X8_putMark stale num nights things realms z1 z2 = some (-4, stale, num, nights, things, realms) ∧ f_X9_bowl mnum mm z1 z2 = some (-4, mnum, mm) ∧ f_X9_dog mnum mm z1 z2 = some (-4, mnum, mm)) ∨
    (∃ (n : Nat) (a b d : Nat → Int32), n ≤ 8 ∧ 0 < n ∧ f_X8_putMark stale num nights things realms z1 z2 = some (nI n, 1, nI n, a, b, d) ∧ (∃ mm', f_X9_bowl mnum mm z1 z2 = some (nI n, nI n, mm') ∧ f_X9_dog mnum mm z1 z2 = some (nI n, nI n, mm') ∧ RMark (nI n) a b (nI n) mm')) := by
  obtain ⟨n, hn, e1, e2, hm⟩ := h
  rcases isNight_cases z1 with ⟨g1, -⟩ | ⟨g1, k, hk, rfl⟩
  · refine Or.inl ⟨?_, ?_, ?_⟩
    · unfold f_X8_putMark; rw [g1]; rfl
    · unfold f_X9_bowl; rw [isNight_eq, g1]; rfl
    · unfold f_X9_dog; rw [isNight_eq, g1]; rfl
  rcases upTo_cases z2 (M := 35) (by omega) with ⟨g2, -⟩ | ⟨g2, c, hc, rfl⟩
  · refine Or.inl ⟨?_, ?_, ?_⟩
    · unfold f_X8_putMark; rw [g1, show f_X8_isUpTo z2 (35 : Int32) = some 0 from g2]; rfl
    · unfold f_X9_bowl; rw [isNight_eq, g1, show (35 : Int64) = (35 : Int32).toInt64 from by decide, in_up, show f_X8_isUpTo z2 (35 : Int32) = some 0 from g2]; rfl
    · unfold f_X9_dog; rw [isNight_eq, g1, show (35 : Int64) = (35 : Int32).toInt64 from by decide, in_up, show f_X8_isUpTo z2 (35 : Int32) = some 0 from g2]; rfl
  by_cases hf : n = 8
  · subst hf
    refine Or.inr (Or.inl ⟨?_, ?_, ?_⟩)
    · unfold f_X8_putMark f_X4_append
      rw [g1, show f_X8_isUpTo (nI c) (35 : Int32) = some 1 from g2, e1]; rfl
    · unfold f_X9_bowl
      rw [isNight_eq, g1, show (35 : Int64) = (35 : Int32).toInt64 from by decide, in_up, show f_X8_isUpTo (nI c) (35 : Int32) = some 1 from g2, e2]; rfl
    · unfold f_X9_dog
      rw [isNight_eq, g1, show (35 : Int64) = (35 : Int32).toInt64 from by decide, in_up, show f_X8_isUpTo (nI c) (35 : Int32) = some 1 from g2, e2]; rfl
  have hn8 : n < 8 := by omega
  have s1 : nI n + 1 = nI (n + 1) := nI_1 n
  have s2 : (2 : Int32) * nI n = nI (2 * n) := pk_mul 2 n
  have s3 : nI (2 * n) + 1 = nI (2 * n + 1) := nI_1 _
  refine Or.inr (Or.inr ⟨n + 1, upd nights n (nI k), upd things n (nI c), upd realms n 0, by omega, by omega, ?_, upd (upd mm (2 * n) (nI k)) (2 * n + 1) (nI c), ?_, ?_, ?_⟩)
  · unfold f_X8_putMark f_X4_append
    rw [g1, show f_X8_isUpTo (nI c) (35 : Int32) = some 1 from g2, e1]
    rw [bind1_def, if_neg one_ne0, bind1_def, if_neg one_ne0, if_pos (show nI n < (8 : Int32) by rw [show (8 : Int32) = nI 8 from rfl, nI_lt_i (by omega) (by omega)]; exact hn8), gd_t (inb_n hn8 (by omega)), gd_t (inb_n hn8 (by omega)), gd_t (inb_n hn8 (by omega)), letv_def, s1, tnN (by omega), bind5_def, if_neg one_ne0]
  · unfold f_X9_bowl f_X9_puts
    rw [isNight_eq, g1, show (35 : Int64) = (35 : Int32).toInt64 from by decide, in_up, show f_X8_isUpTo (nI c) (35 : Int32) = some 1 from g2, e2]
    rw [bind1_def, if_neg one_ne0, bind1_def, if_neg one_ne0, if_neg (by rw [show (8 : Int32) = nI 8 from rfl, nI_eq_i (by omega) (by omega)]; omega), s2, s3, gd_t (inb_n (by omega) (by omega)), gd_t (inb_n (by omega) (by omega)), letv_def, s1, tnN (by omega), tnN (by omega), bind2_def]
  · unfold f_X9_dog
    rw [isNight_eq, g1, show (35 : Int64) = (35 : Int32).toInt64 from by decide, in_up, show f_X8_isUpTo (nI c) (35 : Int32) = some 1 from g2, e2]
    rw [bind1_def, if_neg one_ne0, bind1_def, if_neg one_ne0, if_neg (by rw [show (8 : Int32) = nI 8 from rfl, nI_eq_i (by omega) (by omega)]; omega), s2, s3, gd_t (inb_n (by omega) (by omega)), gd_t (inb_n (by omega) (by omega)), letv_def, s1, tnN (by omega), tnN (by omega)]
  · refine ⟨n + 1, by omega, rfl, rfl, fun i hi => ?_⟩
    by_cases hin : i = n
    · subst hin
      refine ⟨?_, ?_, ⟨k, hk, upd_at _ _ _⟩, ⟨c, hc, upd_at _ _ _⟩⟩
      · rw [upd_ne _ _ (by omega), upd_at, upd_at]
      · rw [upd_at, upd_at]
    · obtain ⟨a1, a2, a3, a4⟩ := hm i (by omega)
      refine ⟨?_, ?_, ?_, ?_⟩
      · rw [upd_ne _ _ (by omega), upd_ne _ _ (by omega), upd_ne _ _ hin]; exact a1
      · rw [upd_ne _ _ (by omega), upd_ne _ _ (by omega), upd_ne _ _ hin]; exact a2
      · rw [upd_ne _ _ hin]; exact a3
      · rw [upd_ne _ _ hin]; exact a4
theorem sim_bowl {xi : Nat → Int32} {xa : Nat → Nat → Int32} {xl : Nat → Int64} {xm : Nat → Nat → Int64} {mi : Nat → Int32} {ma : Nat → Nat → Int32} (h : Rel xi xa xl xm mi ma) (z1 z2 : Int32) : ∃ (r : Int32) (c1 : Int32) (c2 : Int32) (c3 : Nat → Int32) (c4 : Nat → Int32) (c5 : Nat → Int32) (d1 : Int32) (d2 : Nat → Int32) , f_X8_bowl (xi 0) (xi 10) (xa 9) (xa 10) (xa 11) z1 z2 = some (r, c1, c2, c3, c4, c5) ∧ f_X9_bowl (mi 4) (ma 9) z1 z2 = some (r, d1, d2) ∧ Rel (va_up (va_up xi 0 c1) 10 c2) (va_up (va_up (va_up xa 9 c3) 10 c4) 11 c5) xl xm (va_up mi 4 d1) (va_up ma 9 d2) := by
  obtain ⟨hT0, hT1, hL, hH, hB, hD, hS, hSe, hF, hSh, hW⟩ := id h
  have key : ∀ (r c1 c2 : Int32) (c3 c4 c5 : Nat → Int32), f_X8_putMark (xi 0) (xi 10) (xa 9) (xa 10) (xa 11) z1 z2 = some (r, c1, c2, c3, c4, c5) → f_X8_bowl (xi 0) (xi 10) (xa 9) (xa 10) (xa 11) z1 z2 = some (r, c1, c2, c3, c4, c5) := by
    intro r c1 c2 c3 c4 c5 hq
    unfold f_X8_bowl
    rw [hq]; rfl
  rcases mark_more (realms := xa 11) hB (xi 0) z1 z2 with ⟨a1, a2, -⟩ | ⟨a1, a2, -⟩ | ⟨n, a, b, d, hn, hn0, a1, mm', a2, -, a3⟩
  · exact ⟨_, _, _, _, _, _, _, _, key _ _ _ _ _ _ a1, a2, by simpa only [up_self] using h⟩
  · exact ⟨_, _, _, _, _, _, _, _, key _ _ _ _ _ _ a1, a2, by simpa only [up_self] using h⟩
  · exact ⟨_, _, _, _, _, _, _, _, key _ _ _ _ _ _ a1, a2, hT0, hT1, hL, hH, a3, hD, hS, hSe, hF, hSh, Or.inl rfl⟩
theorem sim_dog {xi : Nat → Int32} {xa : Nat → Nat → Int32} {xl : Nat → Int64} {xm : Nat → Nat → Int64} {mi : Nat → Int32} {ma : Nat → Nat → Int32} (h : Rel xi xa xl xm mi ma) (z1 z2 : Int32) : ∃ (r : Int32) (c1 : Int32) (c2 : Int32) (c3 : Nat → Int32) (c4 : Nat → Int32) (c5 : Nat → Int32) (d1 : Int32) (d2 : Nat → Int32) , f_X8_dog (xi 0) (xi 11) (xa 12) (xa 13) (xa 14) z1 z2 = some (r, c1, c2, c3, c4, c5) ∧ f_X9_dog (mi 5) (ma 10) z1 z2 = some (r, d1, d2) ∧ Rel (va_up (va_up xi 0 c1) 11 c2) (va_up (va_up (va_up xa 12 c3) 13 c4) 14 c5) xl xm (va_up mi 5 d1) (va_up ma 10 d2) := by
  obtain ⟨hT0, hT1, hL, hH, hB, hD, hS, hSe, hF, hSh, hW⟩ := id h
  have key : ∀ (r c1 c2 : Int32) (c3 c4 c5 : Nat → Int32), f_X8_putMark (xi 0) (xi 11) (xa 12) (xa 13) (xa 14) z1 z2 = some (r, c1, c2, c3, c4, c5) → f_X8_dog (xi 0) (xi 11) (xa 12) (xa 13) (xa 14) z1 z2 = some (r, c1, c2, c3, c4, c5) := by
    intro r c1 c2 c3 c4 c5 hq
    unfold f_X8_dog
    rw [hq]; rfl
  rcases mark_more (realms := xa 14) hD (xi 0) z1 z2 with ⟨a1, -, a2⟩ | ⟨a1, -, a2⟩ | ⟨n, a, b, d, hn, hn0, a1, mm', -, a2, a3⟩
  · exact ⟨_, _, _, _, _, _, _, _, key _ _ _ _ _ _ a1, a2, by simpa only [up_self] using h⟩
  · exact ⟨_, _, _, _, _, _, _, _, key _ _ _ _ _ _ a1, a2, by simpa only [up_self] using h⟩
  · exact ⟨_, _, _, _, _, _, _, _, key _ _ _ _ _ _ a1, a2, hT0, hT1, hL, hH, hB, a3, hS, hSe, hF, hSh, Or.inl rfl⟩
theorem RMark.less {num : Int32} {nights things : Nat → Int32} {mnum : Int32} {mm : Nat → Int32} (h : RMark num nights things mnum mm) : num = mnum ∧ (¬ num = 0 → RMark (num - 1) nights things (num - 1) mm) := by
  obtain ⟨n, hn, e1, e2, hm⟩ := h
  refine ⟨by rw [e1, e2], fun h0 => ?_⟩
  rw [e1] at h0 ⊢
  cases n with
  | zero => exact absurd rfl h0
  | succ n => exact ⟨n, by omega, nI_pred n, nI_pred n, fun i hi => hm i (by omega)⟩
theorem sub0 (x : Int32) : x - 0 = x := by
  have := Int32.sub_zero x
  exact this
theorem sim_back {xi : Nat → Int32} {xa : Nat → Nat → Int32} {xl : Nat → Int64} {xm : Nat → Nat → Int64} {mi : Nat → Int32} {ma : Nat → Nat → Int32} (h : Rel xi xa xl xm mi ma) (z1 : Int32) : ∃ (r : Int32) (c1 : Int32) (c2 : Int32) (c3 : Int32) (d1 : Int32) (d2 : Int32) , f_X8_back (xi 0) (xi 10) (xi 11) z1 = some (r, c1, c2, c3) ∧ f_X9_back (mi 4) (mi 5) z1 = some (r, d1, d2) ∧ Rel (va_up (va_up (va_up xi 0 c1) 10 c2) 11 c3) xa xl xm (va_up (va_up mi 4 d1) 5 d2) ma := by
  obtain ⟨hT0, hT1, hL, hH, hB, hD, hS, hSe, hF, hSh, hW⟩ := id h
  obtain ⟨eB, lB⟩ := hB.less
  obtain ⟨eD, lD⟩ := hD.less
  rcases upTo_cases z1 (M := 1) (by omega) with ⟨e1, -⟩ | ⟨e1, k, hk, rfl⟩
  · refine ⟨-2, xi 0, xi 10, xi 11, mi 4, mi 5, ?_, ?_, by simpa only [up_self] using h⟩
    · unfold f_X8_back
      rw [show f_X8_isUpTo z1 (1 : Int32) = some 0 from e1]; rfl
    · unfold f_X9_back
      rw [isTwo_eq, show f_X8_isUpTo z1 (1 : Int32) = some 0 from e1]; rfl
  rcases (show k = 0 ∨ k = 1 by omega) with rfl | rfl
  · by_cases h0 : xi 10 = 0
    · refine ⟨-3, xi 0, xi 10, xi 11, mi 4, mi 5, ?_, ?_, by simpa only [up_self] using h⟩
      · unfold f_X8_back f_X8_back_b26_v1
        rw [show f_X8_isUpTo (nI 0) (1 : Int32) = some 1 from e1, bind1_def, if_neg one_ne0, if_pos (show nI 0 = 0 from rfl), if_pos h0]
      · unfold f_X9_back f_X9_back_b25
        rw [isTwo_eq, show f_X8_isUpTo (nI 0) (1 : Int32) = some 1 from e1, bind1_def, if_neg one_ne0, if_pos (show nI 0 = 0 from rfl), if_pos (by rw [← eB]; exact h0)]
    · refine ⟨xi 10 - 1, 1, xi 10 - 1, xi 11, xi 10 - 1, mi 5, ?_, ?_, ?_⟩
      · unfold f_X8_back f_X8_back_b26_v1
        rw [show f_X8_isUpTo (nI 0) (1 : Int32) = some 1 from e1, bind1_def, if_neg one_ne0, if_pos (show nI 0 = 0 from rfl), if_neg h0, letv_def]
      · unfold f_X9_back f_X9_back_b25 f_X9_back_b47
        rw [isTwo_eq, show f_X8_isUpTo (nI 0) (1 : Int32) = some 1 from e1, bind1_def, if_neg one_ne0, if_pos (show nI 0 = 0 from rfl), if_neg (by rw [← eB]; exact h0), if_pos (show nI 0 = 0 from rfl), letv_def, letv_def, ← eB, show nI 0 = 0 from rfl, sub0]
      · exact ⟨hT0, hT1, hL, hH, lB h0, hD, hS, hSe, hF, hSh, Or.inl rfl⟩
  · by_cases h0 : xi 11 = 0
    · refine ⟨-3, xi 0, xi 10, xi 11, mi 4, mi 5, ?_, ?_, by simpa only [up_self] using h⟩
      · unfold f_X8_back f_X8_back_b26
        rw [show f_X8_isUpTo (nI 1) (1 : Int32) = some 1 from e1, bind1_def, if_neg one_ne0, if_neg (show ¬ nI 1 = 0 from one_ne0), if_pos h0]
      · unfold f_X9_back f_X9_back_b25
        rw [isTwo_eq, show f_X8_isUpTo (nI 1) (1 : Int32) = some 1 from e1, bind1_def, if_neg one_ne0, if_neg (show ¬ nI 1 = 0 from one_ne0), if_pos (by rw [← eD]; exact h0)]
    · refine ⟨xi 11 - 1, 1, xi 10, xi 11 - 1, mi 4, xi 11 - 1, ?_, ?_, ?_⟩
      · unfold f_X8_back f_X8_back_b26
        rw [show f_X8_isUpTo (nI 1) (1 : Int32) = some 1 from e1, bind1_def, if_neg one_ne0, if_neg (show ¬ nI 1 = 0 from one_ne0), if_neg h0, letv_def]
      · unfold f_X9_back f_X9_back_b25 f_X9_back_b47
        rw [isTwo_eq, show f_X8_isUpTo (nI 1) (1 : Int32) = some 1 from e1, bind1_def, if_neg one_ne0, if_neg (show ¬ nI 1 = 0 from one_ne0), if_neg (by rw [← eD]; exact h0), if_neg (show ¬ nI 1 = 0 from one_ne0), letv_def, letv_def, ← eD, sub0]; rfl
      · exact ⟨hT0, hT1, hL, hH, hB, lD h0, hS, hSe, hF, hSh, Or.inl rfl⟩
theorem sim_seen {xi : Nat → Int32} {xa : Nat → Nat → Int32} {xl : Nat → Int64} {xm : Nat → Nat → Int64} {mi : Nat → Int32} {ma : Nat → Nat → Int32} (h : Rel xi xa xl xm mi ma) (z1 z2 z3 : Int32) : ∃ (r : Int32) (c1 : Int32) (c2 : Nat → Int32) (c3 : Nat → Int32) (c4 : Nat → Int32) (d1 : Int32) (d2 : Nat → Int32) , f_X8_seen (xi 12) (xa 15) (xa 16) (xa 17) z1 z2 z3 = some (r, c1, c2, c3, c4) ∧ f_X9_seen (mi 7) (ma 14) z1 z2 z3 = some (r, d1, d2) ∧ Rel (va_up xi 12 c1) (va_up (va_up (va_up xa 15 c2) 16 c3) 17 c4) xl xm (va_up mi 7 d1) (va_up ma 14 d2) := by
  obtain ⟨hT0, hT1, hL, hH, hB, hD, hS, hSe, hF, hSh, hW⟩ := id h
  obtain ⟨n, hn, e1, e2, hm⟩ := hS
  have i7 : ∀ z : Int32, f_X9_in z.toInt64 (0 : Int64) (7 : Int64) = f_X8_isUpTo z 7 := fun z => by rw [show (7 : Int64) = (7 : Int32).toInt64 from by decide, in_up]
  have i2 : ∀ z : Int32, f_X9_in z.toInt64 (0 : Int64) (2 : Int64) = f_X8_isUpTo z 2 := fun z => by rw [show (2 : Int64) = (2 : Int32).toInt64 from by decide, in_up]
  have bad : f_X8_seen (xi 12) (xa 15) (xa 16) (xa 17) z1 z2 z3 = some (-2, xi 12, xa 15, xa 16, xa 17) → f_X9_seen (mi 7) (ma 14) z1 z2 z3 = some (-2, mi 7, ma 14) → _ := fun a1 a2 => (⟨_, _, _, _, _, _, _, a1, a2, by simpa only [up_self] using h⟩ : ∃ (r : Int32) (c1 : Int32) (c2 : Nat → Int32) (c3 : Nat → Int32) (c4 : Nat → Int32) (d1 : Int32) (d2 : Nat → Int32), f_X8_seen (xi 12) (xa 15) (xa 16) (xa 17) z1 z2 z3 = some (r, c1, c2, c3, c4) ∧ f_X9_seen (mi 7) (ma 14) z1 z2 z3 = some (r, d1, d2) ∧ Rel (va_up xi 12 c1) (va_up (va_up (va_up xa 15 c2) 16 c3) 17 c4) xl xm (va_up mi 7 d1) (va_up ma 14 d2))
  rcases isNight_cases z1 with ⟨g1, -⟩ | ⟨g1, k, hk, rfl⟩
  · exact bad (by unfold f_X8_seen; rw [g1]; rfl) (by unfold f_X9_seen; rw [isNight_eq, g1]; rfl)
  rcases upTo_cases z2 (M := 7) (by omega) with ⟨g2, -⟩ | ⟨g2, c, hc, rfl⟩
  · exact bad (by unfold f_X8_seen; rw [g1, show f_X8_isUpTo z2 (7 : Int32) = some 0 from g2]; rfl) (by unfold f_X9_seen; rw [isNight_eq, g1, i7, show f_X8_isUpTo z2 (7 : Int32) = some 0 from g2]; rfl)
  rcases upTo_cases z3 (M := 2) (by omega) with ⟨g3, -⟩ | ⟨g3, t, ht, rfl⟩
  · exact bad (by unfold f_X8_seen; rw [g1, show f_X8_isUpTo (nI c) (7 : Int32) = some 1 from g2, show f_X8_isUpTo z3 (2 : Int32) = some 0 from g3]; rfl) (by unfold f_X9_seen; rw [isNight_eq, g1, i7, i2, show f_X8_isUpTo (nI c) (7 : Int32) = some 1 from g2, show f_X8_isUpTo z3 (2 : Int32) = some 0 from g3]; rfl)
  by_cases hf : n = 8
  · subst hf
    refine ⟨-4, xi 12, xa 15, xa 16, xa 17, mi 7, ma 14, ?_, ?_, by simpa only [up_self] using h⟩
    · unfold f_X8_seen f_X4_append
      rw [g1, show f_X8_isUpTo (nI c) (7 : Int32) = some 1 from g2, show f_X8_isUpTo (nI t) (2 : Int32) = some 1 from g3, e1]; rfl
    · unfold f_X9_seen
      rw [isNight_eq, g1, i7, i2, show f_X8_isUpTo (nI c) (7 : Int32) = some 1 from g2, show f_X8_isUpTo (nI t) (2 : Int32) = some 1 from g3, e2]; rfl
  have hn8 : n < 8 := by omega
  have s1 : nI n + 1 = nI (n + 1) := nI_1 n
  have s2 : (3 : Int32) * nI n = nI (3 * n) := pk_mul 3 n
  have s3 : nI (3 * n) + 1 = nI (3 * n + 1) := nI_1 _
  have s4 : nI (3 * n) + 2 = nI (3 * n + 2) := nI_add _ 2
  refine ⟨nI (n + 1), nI (n + 1), upd (xa 15) n (nI k), upd (xa 16) n (nI c), upd (xa 17) n (nI t), nI (n + 1), upd (upd (upd (ma 14) (3 * n) (nI k)) (3 * n + 1) (nI c)) (3 * n + 2) (nI t), ?_, ?_, ?_⟩
  · unfold f_X8_seen f_X4_append
    rw [g1, show f_X8_isUpTo (nI c) (7 : Int32) = some 1 from g2, show f_X8_isUpTo (nI t) (2 : Int32) = some 1 from g3, e1]
    rw [bind1_def, if_neg one_ne0, bind1_def, if_neg one_ne0, bind1_def, if_neg one_ne0, if_pos (show nI n < (8 : Int32) by rw [show (8 : Int32) = nI 8 from rfl, nI_lt_i (by omega) (by omega)]; exact hn8), gd_t (inb_n hn8 (by omega)), gd_t (inb_n hn8 (by omega)), gd_t (inb_n hn8 (by omega)), letv_def, s1, tnN (by omega), bind5_def, if_neg one_ne0]
  · unfold f_X9_seen
    rw [isNight_eq, g1, i7, i2, show f_X8_isUpTo (nI c) (7 : Int32) = some 1 from g2, show f_X8_isUpTo (nI t) (2 : Int32) = some 1 from g3, e2]
    rw [bind1_def, if_neg one_ne0, bind1_def, if_neg one_ne0, bind1_def, if_neg one_ne0, if_neg (by rw [show (8 : Int32) = nI 8 from rfl, nI_eq_i (by omega) (by omega)]; omega), s2, s3, s4, gd_t (inb_n (by omega) (by omega)), gd_t (inb_n (by omega) (by omega)), gd_t (inb_n (by omega) (by omega)), letv_def, s1, tnN (by omega), tnN (by omega), tnN (by omega)]
  · have hS' : RSight (nI (n + 1)) (upd (xa 15) n (nI k)) (upd (xa 16) n (nI c)) (upd (xa 17) n (nI t)) (nI (n + 1)) (upd (upd (upd (ma 14) (3 * n) (nI k)) (3 * n + 1) (nI c)) (3 * n + 2) (nI t)) := by
      refine ⟨n + 1, by omega, rfl, rfl, fun i hi => ?_⟩
      by_cases hin : i = n
      · subst hin
        refine ⟨?_, ?_, ?_, ⟨k, hk, upd_at _ _ _⟩, ⟨c, hc, upd_at _ _ _⟩, ⟨t, ht, upd_at _ _ _⟩⟩
        · rw [upd_ne _ _ (by omega), upd_ne _ _ (by omega), upd_at, upd_at]
        · rw [upd_ne _ _ (by omega), upd_at, upd_at]
        · rw [upd_at, upd_at]
      · obtain ⟨a1, a2, a3, a4, a5, a6⟩ := hm i (by omega)
        rw [upd_ne (xa 15) _ hin, upd_ne (xa 16) _ hin, upd_ne (xa 17) _ hin]
        refine ⟨?_, ?_, ?_, a4, a5, a6⟩
        · rw [upd_ne _ _ (by omega), upd_ne _ _ (by omega), upd_ne _ _ (by omega)]; exact a1
        · rw [upd_ne _ _ (by omega), upd_ne _ _ (by omega), upd_ne _ _ (by omega)]; exact a2
        · rw [upd_ne _ _ (by omega), upd_ne _ _ (by omega), upd_ne _ _ (by omega)]; exact a3
    exact ⟨hT0, hT1, hL, hH, hB, hD, hS', hSe, hF, hSh, hW⟩
