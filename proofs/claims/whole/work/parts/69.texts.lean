theorem RText.put {cap off n : Nat} {bt mbt : Nat → Int32} (hn : n < cap) (h : ∀ k, k < n → mbt (off + k) = bt k) (v : Int32) : RText cap off (nI (n + 1)) (upd bt n v) (nI (n + 1)) (upd mbt (off + n) v) :=
  ⟨n + 1, by omega, rfl, rfl, fun k hk => by
    by_cases e : k = n
    · rw [e, upd_at, upd_at]
    · rw [upd_ne _ _ e, upd_ne _ _ (by omega)]; exact h k (by omega)⟩
theorem RText.far {cap off : Nat} {len mlen : Int32} {bt mbt : Nat → Int32} (h : RText cap off len bt mlen mbt) {p : Nat} (hp : p < off ∨ off + cap ≤ p) (v : Int32) : RText cap off len bt mlen (upd mbt p v) := by
  obtain ⟨n, hn, e1, e2, e3⟩ := h
  exact ⟨n, hn, e1, e2, fun k hk => by rw [upd_ne _ _ (by omega)]; exact e3 k hk⟩
theorem append_full (c : Nat) (bt : Nat → Int32) (v : Int32) : f_X6_append c (nI c) bt v = some (0, nI c, bt) := by
  unfold f_X6_append
  rw [if_neg (by intro q; rw [Int32.lt_iff_toInt_lt] at q; exact absurd q (Int.lt_irrefl _))]
theorem append_more {c n : Nat} (h : n < c) (hc : c < 2147483648) (bt : Nat → Int32) (v : Int32) : f_X6_append c (nI n) bt v = some (1, nI (n + 1), upd bt n v) := by
  unfold f_X6_append
  rw [show Int32.ofNat c = nI c from rfl, if_pos (show nI n < nI c by rw [nI_lt_i (by omega) (by omega)]; exact h), gd_t (inb_n h hc), letv_def, tnN (by omega), show nI n + 1 = nI (n + 1) from nI_1 n]
theorem und0 (st l0 : Int32) (b0 : Nat → Int32) (l1 : Int32) (b1 : Nat → Int32) (fl ce co ro : Int32) (k r l wy be : Nat → Int32) (hf hn : Int32) (hp hd : Nat → Int32) {fl' ce' co' ro' : Int32} {k' r' l' wy' be' : Nat → Int32} (h : f_X3_understand 41 fl ce co ro k r l wy be l0 b0 = some (fl', ce', co', ro', k', r', l', wy', be')) :
    f_X8_understand st l0 b0 l1 b1 fl ce co ro k r l wy be hf hn hp hd (nI 0) = some (1, fl', ce', co', ro', k', r', l', wy', be', hf, hn, hp, hd) := by
  unfold f_X8_understand
  rw [if_pos (show nI 0 = 0 from rfl), h]; rfl
theorem und1 (st l0 : Int32) (b0 : Nat → Int32) (l1 : Int32) (b1 : Nat → Int32) (fl ce co ro : Int32) (k r l wy be : Nat → Int32) (hf hn : Int32) (hp hd : Nat → Int32) {hf' hn' : Int32} {hp' hd' : Nat → Int32} (h : f_X1_understand 31 hf hn hp hd l1 b1 = some (hf', hn', hp', hd')) :
    f_X8_understand st l0 b0 l1 b1 fl ce co ro k r l wy be hf hn hp hd (nI 1) = some (st, fl, ce, co, ro, k, r, l, wy, be, hf', hn', hp', hd') := by
  unfold f_X8_understand
  rw [if_neg (show ¬ nI 1 = 0 from one_ne0), h]; rfl
theorem n1_0 : ¬ nI 1 = (0 : Int32) := by decide
theorem sim_type {xi : Nat → Int32} {xa : Nat → Nat → Int32} {xl : Nat → Int64} {xm : Nat → Nat → Int64} {mi : Nat → Int32} {ma : Nat → Nat → Int32} (h : Rel xi xa xl xm mi ma) (z1 z2 : Int32) : ∃ (r : Int32) (c1 : Int32) (c2 : Int32) (c3 : Nat → Int32) (c4 : Int32) (c5 : Nat → Int32) (c6 : Int32) (c7 : Int32) (c8 : Int32) (c9 : Int32) (c10 : Nat → Int32) (c11 : Nat → Int32) (c12 : Nat → Int32) (c13 : Nat → Int32) (c14 : Nat → Int32) (c15 : Int32) (c16 : Int32) (c17 : Nat → Int32) (c18 : Nat → Int32) (d1 : Nat → Int32) (d2 : Nat → Int32) , f_X8_type (xi 0) (xi 2) (xa 0) (xi 3) (xa 1) (xi 4) (xi 5) (xi 6) (xi 7) (xa 2) (xa 3) (xa 4) (xa 5) (xa 6) (xi 8) (xi 9) (xa 7) (xa 8) z1 z2 = some (r, c1, c2, c3, c4, c5, c6, c7, c8, c9, c10, c11, c12, c13, c14, c15, c16, c17, c18) ∧ f_X9_type (ma 4) (ma 5) z1 z2 = some (r, d1, d2) ∧ Rel (va_up (va_up (va_up (va_up (va_up (va_up (va_up (va_up (va_up xi 0 c1) 2 c2) 3 c4) 4 c6) 5 c7) 6 c8) 7 c9) 8 c15) 9 c16) (va_up (va_up (va_up (va_up (va_up (va_up (va_up (va_up (va_up xa 0 c3) 1 c5) 2 c10) 3 c11) 4 c12) 5 c13) 6 c14) 7 c17) 8 c18) xl xm mi (va_up (va_up ma 4 d1) 5 d2) := by
  obtain ⟨hT0, hT1, hL, hH, hB, hD, hS, hSe, hF, hSh, hW⟩ := id h
  rcases upTo_cases z1 (M := 1) (by omega) with ⟨e1, -⟩ | ⟨e1, t, ht, rfl⟩
  · refine ⟨-2, xi 0, xi 2, xa 0, xi 3, xa 1, xi 4, xi 5, xi 6, xi 7, xa 2, xa 3, xa 4, xa 5, xa 6, xi 8, xi 9, xa 7, xa 8, ma 4, ma 5, ?_, ?_, by simpa only [up_self] using h⟩
    · unfold f_X8_type
      rw [show f_X8_isUpTo z1 (1 : Int32) = some 0 from e1]; rfl
    · unfold f_X9_type
      rw [isTwo_eq, show f_X8_isUpTo z1 (1 : Int32) = some 0 from e1]; rfl
  have E1 : f_X8_isUpTo (nI t) (1 : Int32) = some 1 := e1
  rcases upTo_cases z2 (M := 255) (by omega) with ⟨e2, -⟩ | ⟨e2, -⟩
  · refine ⟨-2, xi 0, xi 2, xa 0, xi 3, xa 1, xi 4, xi 5, xi 6, xi 7, xa 2, xa 3, xa 4, xa 5, xa 6, xi 8, xi 9, xa 7, xa 8, ma 4, ma 5, ?_, ?_, by simpa only [up_self] using h⟩
    · unfold f_X8_type
      rw [E1, bind1_def, if_neg one_ne0, show f_X8_isUpTo z2 (255 : Int32) = some 0 from e2]; rfl
    · unfold f_X9_type
      rw [isTwo_eq, E1, bind1_def, if_neg one_ne0, show (255 : Int64) = (255 : Int32).toInt64 from by decide, in_up, show f_X8_isUpTo z2 (255 : Int32) = some 0 from e2]; rfl
  have E2 : f_X8_isUpTo z2 (255 : Int32) = some 1 := e2
  have M : f_X9_type (ma 4) (ma 5) (nI t) z2 = (gd (inb (nI t) 2) (if nI t = 0 then (f_X9_type_b39 (ma 4) (ma 5) (nI t) z2 (41 : Int32) ((ma 5) (nI t).toNatClampNeg)) else (f_X9_type_b39 (ma 4) (ma 5) (nI t) z2 (31 : Int32) ((ma 5) (nI t).toNatClampNeg)))) := by
    unfold f_X9_type
    rw [isTwo_eq, E1, bind1_def, if_neg one_ne0, show (255 : Int64) = (255 : Int32).toInt64 from by decide, in_up, E2, bind1_def, if_neg one_ne0]
  rw [gd_t (inb_n (by omega) (by omega)), tnN (by omega)] at M
  obtain ⟨n, hn, g1, g2, g3⟩ := id hT0
  obtain ⟨m, hm, k1, k2, k3⟩ := id hT1
  rcases (show t = 0 ∨ t = 1 by omega) with rfl | rfl
  · rw [if_pos (show nI 0 = 0 from rfl), g2] at M
    unfold f_X9_type_b39 at M
    by_cases hfull : n = 41
    · subst hfull
      refine ⟨-4, xi 0, xi 2, xa 0, xi 3, xa 1, xi 4, xi 5, xi 6, xi 7, xa 2, xa 3, xa 4, xa 5, xa 6, xi 8, xi 9, xa 7, xa 8, ma 4, ma 5, ?_, by rw [M]; rfl, by simpa only [up_self] using h⟩
      unfold f_X8_type
      rw [E1, bind1_def, if_neg one_ne0, E2, bind1_def, if_neg one_ne0, if_pos (show nI 0 = 0 from rfl), g1, append_full]; rfl
    · rw [if_neg (show ¬ nI n = 41 by rw [show (41 : Int32) = nI 41 from rfl, nI_eq_i (by omega) (by omega)]; exact hfull), gd_t (inb_n (by omega) (by omega)), show (42 : Int32) * nI 0 + ma 5 (nI 0).toNatClampNeg = nI n from by rw [tnN (by omega), g2, show (42 : Int32) * nI 0 = nI 0 from rfl, nI_add, Nat.zero_add], gd_t (inb_n (by omega) (by omega)), gd_t (inb_n (by omega) (by omega)), letv_def, gd_t (inb_n (by omega) (by omega)), gd_t (inb_n (by omega) (by omega)), tnN (by omega), tnN (by omega), g2, show nI n + 1 = nI (n + 1) from nI_1 n, upd_at] at M
      obtain ⟨fl, ce, co, ro, k, r, l, wy, be, hU⟩ := RLand.mk (n := n + 1) (by omega) (upd (xa 0) n z2) (xi 4) (xi 5) (xi 6) (xi 7) (xa 2) (xa 3) (xa 4) (xa 5) (xa 6)
      refine ⟨nI (n + 1), 1, nI (n + 1), upd (xa 0) n z2, xi 3, xa 1, fl, ce, co, ro, k, r, l, wy, be, xi 8, xi 9, xa 7, xa 8, _, _, ?_, M, ?_⟩
      · unfold f_X8_type
        rw [E1, bind1_def, if_neg one_ne0, E2, bind1_def, if_neg one_ne0, if_pos (show nI 0 = 0 from rfl), g1, append_more (by omega) (by omega), bind3_def, if_neg one_ne0, und0 _ _ _ _ _ _ _ _ _ _ _ _ _ _ _ _ _ _ hU]; rfl
      · have p := RText.put (cap := 41) (off := 0) (n := n) (by omega) g3 z2
        rw [Nat.zero_add] at p
        have hT0' : RText 41 0 (nI (n + 1)) (upd (xa 0) n z2) (upd (ma 5) 0 (nI (n + 1)) 0) (upd (ma 4) n z2) := by rw [upd_at]; exact p
        have hT1' : RText 31 42 (xi 3) (xa 1) (upd (ma 5) 0 (nI (n + 1)) 1) (upd (ma 4) n z2) := by rw [upd_ne _ _ (by omega)]; exact hT1.far (Or.inl (by omega)) _
        exact ⟨hT0', hT1', ⟨_, _, _, _, _, _, _, _, _, hU⟩, hH, hB, hD, hS, hSe, hF, hSh, Or.inl rfl⟩
  · rw [if_neg n1_0, k2] at M
    unfold f_X9_type_b39 at M
    by_cases hfull : m = 31
    · subst hfull
      refine ⟨-4, xi 0, xi 2, xa 0, xi 3, xa 1, xi 4, xi 5, xi 6, xi 7, xa 2, xa 3, xa 4, xa 5, xa 6, xi 8, xi 9, xa 7, xa 8, ma 4, ma 5, ?_, by rw [M]; rfl, by simpa only [up_self] using h⟩
      unfold f_X8_type
      rw [E1, bind1_def, if_neg one_ne0, E2, bind1_def, if_neg one_ne0, if_neg n1_0, if_pos (show nI 1 = 1 from rfl), k1, append_full]; rfl
    · rw [if_neg (show ¬ nI m = 31 by rw [show (31 : Int32) = nI 31 from rfl, nI_eq_i (by omega) (by omega)]; exact hfull), gd_t (inb_n (by omega) (by omega)), show (42 : Int32) * nI 1 + ma 5 (nI 1).toNatClampNeg = nI (42 + m) from by rw [tnN (by omega), k2, show (42 : Int32) * nI 1 = nI 42 from rfl, nI_add], gd_t (inb_n (by omega) (by omega)), gd_t (inb_n (by omega) (by omega)), letv_def, gd_t (inb_n (by omega) (by omega)), gd_t (inb_n (by omega) (by omega)), tnN (by omega), tnN (by omega), k2, show nI m + 1 = nI (m + 1) from nI_1 m, upd_at] at M
      obtain ⟨hf, hnn, hp, hd, hU⟩ := RHouse.mk (n := m + 1) (by omega) (upd (xa 1) m z2) (xi 8) (xi 9) (xa 7) (xa 8)
      refine ⟨nI (m + 1), xi 0, xi 2, xa 0, nI (m + 1), upd (xa 1) m z2, xi 4, xi 5, xi 6, xi 7, xa 2, xa 3, xa 4, xa 5, xa 6, hf, hnn, hp, hd, _, _, ?_, M, ?_⟩
      · unfold f_X8_type
        rw [E1, bind1_def, if_neg one_ne0, E2, bind1_def, if_neg one_ne0, if_neg n1_0, if_pos (show nI 1 = 1 from rfl), k1, append_more (by omega) (by omega), bind3_def, if_neg one_ne0, und1 _ _ _ _ _ _ _ _ _ _ _ _ _ _ _ _ _ _ hU]; rfl
      · have p := RText.put (cap := 31) (off := 42) (n := m) (by omega) k3 z2
        have hT1' : RText 31 42 (nI (m + 1)) (upd (xa 1) m z2) (upd (ma 5) 1 (nI (m + 1)) 1) (upd (ma 4) (42 + m) z2) := by rw [upd_at]; exact p
        have hT0' : RText 41 0 (xi 2) (xa 0) (upd (ma 5) 1 (nI (m + 1)) 0) (upd (ma 4) (42 + m) z2) := by rw [upd_ne _ _ (by omega)]; exact hT0.far (Or.inr (by omega)) _
        exact ⟨hT0', hT1', hL, ⟨_, _, _, _, hU⟩, hB, hD, hS, hSe, hF, hSh, hW⟩
/-- a text made shorter -/
theorem RText.cut {cap off n m : Nat} {bt mbt : Nat → Int32} (hn : n ≤ cap) (h : ∀ k, k < n → mbt (off + k) = bt k) (hm : m ≤ n) : RText cap off (nI m) bt (nI m) mbt := ⟨m, by omega, rfl, rfl, fun k hk => h k (by omega)⟩
theorem sim_wipe {xi : Nat → Int32} {xa : Nat → Nat → Int32} {xl : Nat → Int64} {xm : Nat → Nat → Int64} {mi : Nat → Int32} {ma : Nat → Nat → Int32} (h : Rel xi xa xl xm mi ma) (z1 : Int32) : ∃ (r : Int32) (c1 : Int32) (c2 : Int32) (c3 : Int32) (c4 : Int32) (c5 : Int32) (c6 : Int32) (c7 : Int32) (c8 : Nat → Int32) (c9 : Nat → Int32) (c10 : Nat → Int32) (c11 : Nat → Int32) (c12 : Nat → Int32) (c13 : Int32) (c14 : Int32) (c15 : Nat → Int32) (c16 : Nat → Int32) (d1 : Nat → Int32) , f_X8_wipe (xi 0) (xi 2) (xa 0) (xi 3) (xa 1) (xi 4) (xi 5) (xi 6) (xi 7) (xa 2) (xa 3) (xa 4) (xa 5) (xa 6) (xi 8) (xi 9) (xa 7) (xa 8) z1 = some (r, c1, c2, c3, c4, c5, c6, c7, c8, c9, c10, c11, c12, c13, c14, c15, c16) ∧ f_X9_wipe (ma 5) z1 = some (r, d1) ∧ Rel (va_up (va_up (va_up (va_up (va_up (va_up (va_up (va_up (va_up xi 0 c1) 2 c2) 3 c3) 4 c4) 5 c5) 6 c6) 7 c7) 8 c13) 9 c14) (va_up (va_up (va_up (va_up (va_up (va_up (va_up xa 2 c8) 3 c9) 4 c10) 5 c11) 6 c12) 7 c15) 8 c16) xl xm mi (va_up ma 5 d1) := by
  obtain ⟨hT0, hT1, hL, hH, hB, hD, hS, hSe, hF, hSh, hW⟩ := id h
  rcases upTo_cases z1 (M := 1) (by omega) with ⟨e1, -⟩ | ⟨e1, t, ht, rfl⟩
  · refine ⟨-2, xi 0, xi 2, xi 3, xi 4, xi 5, xi 6, xi 7, xa 2, xa 3, xa 4, xa 5, xa 6, xi 8, xi 9, xa 7, xa 8, ma 5, ?_, ?_, by simpa only [up_self] using h⟩
    · unfold f_X8_wipe
      rw [show f_X8_isUpTo z1 (1 : Int32) = some 0 from e1]; rfl
    · unfold f_X9_wipe
      rw [isTwo_eq, show f_X8_isUpTo z1 (1 : Int32) = some 0 from e1]; rfl
  have E1 : f_X8_isUpTo (nI t) (1 : Int32) = some 1 := e1
  have M : f_X9_wipe (ma 5) (nI t) = some (ma 5 t, upd (ma 5) t 0) := by
    unfold f_X9_wipe
    rw [isTwo_eq, E1, bind1_def, if_neg one_ne0, gd_t (inb_n (by omega) (by omega)), letv_def, gd_t (inb_n (by omega) (by omega)), tnN (by omega)]
  obtain ⟨n, hn, g1, g2, g3⟩ := id hT0
  obtain ⟨m, hm, k1, k2, k3⟩ := id hT1
  rcases (show t = 0 ∨ t = 1 by omega) with rfl | rfl
  · obtain ⟨fl, ce, co, ro, k, r, l, wy, be, hU⟩ := RLand.mk (n := 0) (by omega) (xa 0) (xi 4) (xi 5) (xi 6) (xi 7) (xa 2) (xa 3) (xa 4) (xa 5) (xa 6)
    rw [show nI 0 = 0 from rfl] at hU
    refine ⟨xi 2, 1, 0, xi 3, fl, ce, co, ro, k, r, l, wy, be, xi 8, xi 9, xa 7, xa 8, _, ?_, by rw [M, g2, ← g1], ?_⟩
    · unfold f_X8_wipe
      rw [E1, bind1_def, if_neg one_ne0, if_pos (show nI 0 = 0 from rfl), if_pos (show nI 0 = 0 from rfl), und0 _ _ _ _ _ _ _ _ _ _ _ _ _ _ _ _ _ _ hU]; rfl
    · have hT0' : RText 41 0 0 (xa 0) (upd (ma 5) 0 0 0) (ma 4) := by rw [upd_at]; exact RText.cut hn g3 (Nat.zero_le _)
      have hT1' : RText 31 42 (xi 3) (xa 1) (upd (ma 5) 0 0 1) (ma 4) := by rw [upd_ne _ _ (by omega)]; exact hT1
      exact ⟨hT0', hT1', ⟨_, _, _, _, _, _, _, _, _, hU⟩, hH, hB, hD, hS, hSe, hF, hSh, Or.inl rfl⟩
  · obtain ⟨hf, hnn, hp, hd, hU⟩ := RHouse.mk (n := 0) (by omega) (xa 1) (xi 8) (xi 9) (xa 7) (xa 8)
    rw [show nI 0 = 0 from rfl] at hU
    refine ⟨xi 3, xi 0, xi 2, 0, xi 4, xi 5, xi 6, xi 7, xa 2, xa 3, xa 4, xa 5, xa 6, hf, hnn, hp, hd, _, ?_, by rw [M, k2, ← k1], ?_⟩
    · unfold f_X8_wipe
      rw [E1, bind1_def, if_neg one_ne0, if_neg n1_0, if_pos (show nI 1 = 1 from rfl), if_neg n1_0, if_pos (show nI 1 = 1 from rfl), und1 _ _ _ _ _ _ _ _ _ _ _ _ _ _ _ _ _ _ hU]; rfl
    · have hT1' : RText 31 42 0 (xa 1) (upd (ma 5) 1 0 1) (ma 4) := by rw [upd_at]; exact RText.cut hm k3 (Nat.zero_le _)
      have hT0' : RText 41 0 (xi 2) (xa 0) (upd (ma 5) 1 0 0) (ma 4) := by rw [upd_ne _ _ (by omega)]; exact hT0
      exact ⟨hT0', hT1', hL, ⟨_, _, _, _, hU⟩, hB, hD, hS, hSe, hF, hSh, hW⟩
theorem nI_sub1 {n : Nat} (h : 0 < n) : nI n - 1 = nI (n - 1) := pk_sub (a := n) (b := 1) h
theorem sim_undo {xi : Nat → Int32} {xa : Nat → Nat → Int32} {xl : Nat → Int64} {xm : Nat → Nat → Int64} {mi : Nat → Int32} {ma : Nat → Nat → Int32} (h : Rel xi xa xl xm mi ma) (z1 : Int32) : ∃ (r : Int32) (c1 : Int32) (c2 : Int32) (c3 : Int32) (c4 : Int32) (c5 : Int32) (c6 : Int32) (c7 : Int32) (c8 : Nat → Int32) (c9 : Nat → Int32) (c10 : Nat → Int32) (c11 : Nat → Int32) (c12 : Nat → Int32) (c13 : Int32) (c14 : Int32) (c15 : Nat → Int32) (c16 : Nat → Int32) (d1 : Nat → Int32) , f_X8_undo (xi 0) (xi 2) (xa 0) (xi 3) (xa 1) (xi 4) (xi 5) (xi 6) (xi 7) (xa 2) (xa 3) (xa 4) (xa 5) (xa 6) (xi 8) (xi 9) (xa 7) (xa 8) z1 = some (r, c1, c2, c3, c4, c5, c6, c7, c8, c9, c10, c11, c12, c13, c14, c15, c16) ∧ f_X9_undo (ma 5) z1 = some (r, d1) ∧ Rel (va_up (va_up (va_up (va_up (va_up (va_up (va_up (va_up (va_up xi 0 c1) 2 c2) 3 c3) 4 c4) 5 c5) 6 c6) 7 c7) 8 c13) 9 c14) (va_up (va_up (va_up (va_up (va_up (va_up (va_up xa 2 c8) 3 c9) 4 c10) 5 c11) 6 c12) 7 c15) 8 c16) xl xm mi (va_up ma 5 d1) := by
  obtain ⟨hT0, hT1, hL, hH, hB, hD, hS, hSe, hF, hSh, hW⟩ := id h
  rcases upTo_cases z1 (M := 1) (by omega) with ⟨e1, -⟩ | ⟨e1, t, ht, rfl⟩
  · refine ⟨-2, xi 0, xi 2, xi 3, xi 4, xi 5, xi 6, xi 7, xa 2, xa 3, xa 4, xa 5, xa 6, xi 8, xi 9, xa 7, xa 8, ma 5, ?_, ?_, by simpa only [up_self] using h⟩
    · unfold f_X8_undo
      rw [show f_X8_isUpTo z1 (1 : Int32) = some 0 from e1]; rfl
    · unfold f_X9_undo
      rw [isTwo_eq, show f_X8_isUpTo z1 (1 : Int32) = some 0 from e1]; rfl
  have E1 : f_X8_isUpTo (nI t) (1 : Int32) = some 1 := e1
  have M : f_X9_undo (ma 5) (nI t) = if ma 5 t = 0 then some (-3, ma 5) else some (ma 5 t - 1, upd (ma 5) t (ma 5 t - 1)) := by
    unfold f_X9_undo
    rw [isTwo_eq, E1, bind1_def, if_neg one_ne0, gd_t (inb_n (by omega) (by omega)), tnN (by omega), gd_t (inb_n (by omega) (by omega)), letv_def, gd_t (inb_n (by omega) (by omega)), gd_t (inb_n (by omega) (by omega)), upd_at]
  obtain ⟨n, hn, g1, g2, g3⟩ := id hT0
  obtain ⟨m, hm, k1, k2, k3⟩ := id hT1
  rcases (show t = 0 ∨ t = 1 by omega) with rfl | rfl
  · by_cases h0 : n = 0
    · subst h0
      refine ⟨-3, xi 0, xi 2, xi 3, xi 4, xi 5, xi 6, xi 7, xa 2, xa 3, xa 4, xa 5, xa 6, xi 8, xi 9, xa 7, xa 8, ma 5, ?_, by rw [M, g2]; rfl, by simpa only [up_self] using h⟩
      unfold f_X8_undo
      rw [E1, bind1_def, if_neg one_ne0, if_pos (show nI 0 = 0 from rfl), if_pos (show xi 2 = 0 from g1)]
    · have hz : ¬ nI n = 0 := nI_ne0 (by omega) (by omega)
      rw [g2, if_neg hz, nI_sub1 (by omega)] at M
      obtain ⟨fl, ce, co, ro, k, r, l, wy, be, hU⟩ := RLand.mk (n := n - 1) (by omega) (xa 0) (xi 4) (xi 5) (xi 6) (xi 7) (xa 2) (xa 3) (xa 4) (xa 5) (xa 6)
      refine ⟨nI (n - 1), 1, nI (n - 1), xi 3, fl, ce, co, ro, k, r, l, wy, be, xi 8, xi 9, xa 7, xa 8, _, ?_, M, ?_⟩
      · unfold f_X8_undo
        rw [E1, bind1_def, if_neg one_ne0, if_pos (show nI 0 = 0 from rfl), g1, if_neg hz, if_pos (show nI 0 = 0 from rfl), letv_def, nI_sub1 (by omega), und0 _ _ _ _ _ _ _ _ _ _ _ _ _ _ _ _ _ _ hU]; rfl
      · have hT0' : RText 41 0 (nI (n - 1)) (xa 0) (upd (ma 5) 0 (nI (n - 1)) 0) (ma 4) := by rw [upd_at]; exact RText.cut hn g3 (by omega)
        have hT1' : RText 31 42 (xi 3) (xa 1) (upd (ma 5) 0 (nI (n - 1)) 1) (ma 4) := by rw [upd_ne _ _ (by omega)]; exact hT1
        exact ⟨hT0', hT1', ⟨_, _, _, _, _, _, _, _, _, hU⟩, hH, hB, hD, hS, hSe, hF, hSh, Or.inl rfl⟩
  · by_cases h0 : m = 0
    · subst h0
      refine ⟨-3, xi 0, xi 2, xi 3, xi 4, xi 5, xi 6, xi 7, xa 2, xa 3, xa 4, xa 5, xa 6, xi 8, xi 9, xa 7, xa 8, ma 5, ?_, by rw [M, k2]; rfl, by simpa only [up_self] using h⟩
      unfold f_X8_undo
      rw [E1, bind1_def, if_neg one_ne0, if_neg n1_0, if_pos (show nI 1 = 1 from rfl), if_pos (show xi 3 = 0 from k1)]
    · have hz : ¬ nI m = 0 := nI_ne0 (by omega) (by omega)
      rw [k2, if_neg hz, nI_sub1 (by omega)] at M
      obtain ⟨hf, hnn, hp, hd, hU⟩ := RHouse.mk (n := m - 1) (by omega) (xa 1) (xi 8) (xi 9) (xa 7) (xa 8)
      refine ⟨nI (m - 1), xi 0, xi 2, nI (m - 1), xi 4, xi 5, xi 6, xi 7, xa 2, xa 3, xa 4, xa 5, xa 6, hf, hnn, hp, hd, _, ?_, M, ?_⟩
      · unfold f_X8_undo
        rw [E1, bind1_def, if_neg one_ne0, if_neg n1_0, if_pos (show nI 1 = 1 from rfl), k1, if_neg hz, if_neg n1_0, if_pos (show nI 1 = 1 from rfl), letv_def, nI_sub1 (by omega), und1 _ _ _ _ _ _ _ _ _ _ _ _ _ _ _ _ _ _ hU]; rfl
      · have hT1' : RText 31 42 (nI (m - 1)) (xa 1) (upd (ma 5) 1 (nI (m - 1)) 1) (ma 4) := by rw [upd_at]; exact RText.cut hm k3 (by omega)
        have hT0' : RText 41 0 (xi 2) (xa 0) (upd (ma 5) 1 (nI (m - 1)) 0) (ma 4) := by rw [upd_ne _ _ (by omega)]; exact hT0
        exact ⟨hT0', hT1', hL, ⟨_, _, _, _, hU⟩, hB, hD, hS, hSe, hF, hSh, hW⟩
/-- land and houses as the relation gives them -/
theorem Rel.land {xi : Nat → Int32} {xa : Nat → Nat → Int32} {xl : Nat → Int64} {xm : Nat → Nat → Int64} {mi : Nat → Int32} {ma : Nat → Nat → Int32} (h : Rel xi xa xl xm mi ma) :
    ∃ C W R : Nat, xi 5 = nI C ∧ xi 6 = nI W ∧ xi 7 = nI R ∧ LandOK C W R (xa 2) (xa 3) (xa 4) (xa 5) (xa 6) ∧ ∀ (mc0 mw0 : Int32) (mcell0 : Nat → Int32), ∃ mcell, f_X9_readsLand mc0 mw0 (ma 4) (ma 5) mcell0 = some (xi 4, nI C, nI W, mcell) ∧ ∀ c, c < C → mcell c = xa 2 c := by
  obtain ⟨⟨n, hn, g1, g2, g3⟩, hT1, hL, -⟩ := h
  rw [g1] at hL
  obtain ⟨C, W, R, e1, e2, e3, hO, hM⟩ := hL.use hn (mbt := ma 4) (fun k hk => by have := g3 k hk; rwa [Nat.zero_add] at this)
  refine ⟨C, W, R, e1, e2, e3, hO, fun mc0 mw0 mcell0 => ?_⟩
  obtain ⟨mc, q1, q2⟩ := hM mc0 mw0 (ma 5) mcell0 g2
  exact ⟨mc, by rw [q1, e1, e2], q2⟩
theorem Rel.houses {xi : Nat → Int32} {xa : Nat → Nat → Int32} {xl : Nat → Int64} {xm : Nat → Nat → Int64} {mi : Nat → Int32} {ma : Nat → Nat → Int32} (h : Rel xi xa xl xm mi ma) :
    ∃ N : Nat, xi 9 = nI N ∧ HouseOK N (xa 7) (xa 8) ∧ ∀ (mh0 : Int32) (mhouse0 : Nat → Int32), ∃ mhouse, f_X9_readsHouses mh0 (ma 4) (ma 5) mhouse0 = some (xi 8, nI N, mhouse) ∧ ∀ h, h < N → mhouse (2 * h) = xa 7 h ∧ mhouse (2 * h + 1) = xa 8 h := by
  obtain ⟨hT0, ⟨n, hn, g1, g2, g3⟩, hL, hH, -⟩ := h
  rw [g1] at hH
  obtain ⟨N, e1, hO, hM⟩ := hH.use hn (mbt := ma 4) g3
  refine ⟨N, e1, hO, fun mh0 mhouse0 => ?_⟩
  obtain ⟨mc, q1, q2⟩ := hM mh0 (ma 5) mhouse0 g2
  exact ⟨mc, by rw [q1, e1], q2⟩
theorem LandOK.c36 {C W R : Nat} {kinds rowAt colAt ways beside : Nat → Int32} (h : LandOK C W R kinds rowAt colAt ways beside) : C ≤ 36 := by
  have m : R * W ≤ 6 * 6 := Nat.mul_le_mul h.2.1 h.1
  have := h.2.2.1
  omega
theorem sim_fault {xi : Nat → Int32} {xa : Nat → Nat → Int32} {xl : Nat → Int64} {xm : Nat → Nat → Int64} {mi : Nat → Int32} {ma : Nat → Nat → Int32} (h : Rel xi xa xl xm mi ma) (z1 : Int32) : ∃ (r : Int32) (d1 : Int32) (d2 : Int32) (d3 : Int32) (d4 : Nat → Int32) (d5 : Nat → Int32) , f_X8_fault (xi 4) (xi 8) z1 = some r ∧ f_X9_fault (mi 1) (mi 2) (mi 3) (ma 4) (ma 5) (ma 6) (ma 7) z1 = some (r, d1, d2, d3, d4, d5) ∧ Rel xi xa xl xm (va_up (va_up (va_up mi 1 d1) 2 d2) 3 d3) (va_up (va_up ma 6 d4) 7 d5) := by
  obtain ⟨C, W, R, c1, c2, c3, hO, hM⟩ := h.land
  obtain ⟨N, n1, hHO, hHM⟩ := h.houses
  rcases upTo_cases z1 (M := 1) (by omega) with ⟨e1, -⟩ | ⟨e1, t, ht, rfl⟩
  · refine ⟨-2, mi 1, mi 2, mi 3, ma 6, ma 7, ?_, ?_, by simpa only [up_self] using h⟩
    · unfold f_X8_fault
      rw [show f_X8_isUpTo z1 (1 : Int32) = some 0 from e1]; rfl
    · unfold f_X9_fault
      rw [isTwo_eq, show f_X8_isUpTo z1 (1 : Int32) = some 0 from e1]; rfl
  have E1 : f_X8_isUpTo (nI t) (1 : Int32) = some 1 := e1
  rcases (show t = 0 ∨ t = 1 by omega) with rfl | rfl
  · obtain ⟨mc, q1, q2⟩ := hM (mi 1) (mi 2) (ma 6)
    refine ⟨xi 4, nI C, nI W, mi 3, mc, ma 7, ?_, ?_, h⟩
    · unfold f_X8_fault
      rw [E1]; rfl
    · unfold f_X9_fault
      rw [isTwo_eq, E1, bind1_def, if_neg one_ne0, if_pos (show nI 0 = 0 from rfl), q1]; rfl
  · obtain ⟨mc, q1, q2⟩ := hHM (mi 3) (ma 7)
    refine ⟨xi 8, mi 1, mi 2, nI N, ma 6, mc, ?_, ?_, h⟩
    · unfold f_X8_fault
      rw [E1]; rfl
    · unfold f_X9_fault
      rw [isTwo_eq, E1, bind1_def, if_neg one_ne0, if_neg n1_0, q1]; rfl
theorem sim_cell {xi : Nat → Int32} {xa : Nat → Nat → Int32} {xl : Nat → Int64} {xm : Nat → Nat → Int64} {mi : Nat → Int32} {ma : Nat → Nat → Int32} (h : Rel xi xa xl xm mi ma) (z1 : Int32) : ∃ (r : Int32) (d1 : Int32) (d2 : Int32) (d3 : Nat → Int32) , f_X8_cell (xi 5) (xa 2) z1 = some r ∧ f_X9_cell (mi 1) (mi 2) (ma 4) (ma 5) (ma 6) z1 = some (r, d1, d2, d3) ∧ Rel xi xa xl xm (va_up (va_up mi 1 d1) 2 d2) (va_up ma 6 d3) := by
  obtain ⟨C, W, R, c1, c2, c3, hO, hM⟩ := h.land
  have h36 := hO.c36
  obtain ⟨mc, q1, q2⟩ := hM (mi 1) (mi 2) (ma 6)
  have M : f_X9_cell (mi 1) (mi 2) (ma 4) (ma 5) (ma 6) z1 = bind1 (f_X8_isUpTo z1 35) (fun r5 => if r5 = 0 then (some ((-2 : Int32), nI C, nI W, mc)) else (if nI C ≤ z1 then (some ((-1 : Int32), nI C, nI W, mc)) else (gd (inb z1 36) (some ((mc z1.toNatClampNeg), nI C, nI W, mc))))) := by
    unfold f_X9_cell
    rw [q1, bind4_def, show (35 : Int64) = (35 : Int32).toInt64 from by decide, in_up]
  rcases upTo_cases z1 (M := 35) (by omega) with ⟨e1, -⟩ | ⟨e1, t, ht, rfl⟩
  · rw [show f_X8_isUpTo z1 (35 : Int32) = some 0 from e1] at M
    refine ⟨-2, nI C, nI W, mc, ?_, M, h⟩
    unfold f_X8_cell
    rw [show f_X8_isUpTo z1 (35 : Int32) = some 0 from e1]; rfl
  have E1 : f_X8_isUpTo (nI t) (35 : Int32) = some 1 := e1
  rw [E1, bind1_def, if_neg one_ne0] at M
  by_cases hlt : C ≤ t
  · refine ⟨-1, nI C, nI W, mc, ?_, by rw [M, if_pos (by rw [nI_le_i (by omega) (by omega)]; exact hlt)], h⟩
    unfold f_X8_cell
    rw [E1, bind1_def, if_neg one_ne0, c1, if_pos (by rw [nI_le_i (by omega) (by omega)]; exact hlt)]
  · refine ⟨xa 2 t, nI C, nI W, mc, ?_, by rw [M, if_neg (by rw [nI_le_i (by omega) (by omega)]; exact hlt), gd_t (inb_n (by omega) (by omega)), tnN (by omega), q2 t (by omega)], h⟩
    unfold f_X8_cell
    rw [E1, bind1_def, if_neg one_ne0, c1, if_neg (by rw [nI_le_i (by omega) (by omega)]; exact hlt), gd_t (inb_n (by omega) (by omega)), tnN (by omega)]
theorem isHouse_eq (n v : Int32) : f_X9_isHouse n v = f_X8_isHouse n v := by
  unfold f_X9_isHouse f_X8_isHouse
  rw [in_up]
theorem below_cases (v : Int32) {N : Nat} (hN : N ≤ 40) : (f_X8_isUpTo v (nI N - 1) = some 0 ∧ ¬ ∃ k : Nat, k < N ∧ v = nI k) ∨ (f_X8_isUpTo v (nI N - 1) = some 1 ∧ ∃ k : Nat, k < N ∧ v = nI k) := by
  by_cases h0 : N = 0
  · subst h0
    left
    refine ⟨?_, fun ⟨k, hk, _⟩ => absurd hk (Nat.not_lt_zero _)⟩
    unfold f_X8_isUpTo
    by_cases hv : v < 0
    · rw [if_pos hv]
    · rw [if_neg hv]
      refine if_pos ?_
      rw [Int32.lt_iff_toInt_lt] at hv ⊢
      have e : (nI 0 - 1).toInt = -1 := by decide
      have e0 : (0 : Int32).toInt = 0 := by decide
      omega
  · rw [nI_sub1 (by omega)]
    rcases upTo_cases v (M := N - 1) (by omega) with ⟨e, q⟩ | ⟨e, k, hk, rfl⟩
    · refine Or.inl ⟨e, ?_⟩
      rintro ⟨k, hk, rfl⟩
      rcases q with q | q
      · exact nI_pos (by omega) q
      · rw [nI_lt_i (by omega) (by omega)] at q; omega
    · exact Or.inr ⟨e, k, by omega, rfl⟩
theorem isHouse_cases (v : Int32) {N : Nat} (hN : N ≤ 40) : (f_X8_isHouse (nI N) v = some 0 ∧ ¬ ∃ k : Nat, k < N ∧ v = nI k) ∨ (f_X8_isHouse (nI N) v = some 1 ∧ ∃ k : Nat, k < N ∧ v = nI k) := by
  unfold f_X8_isHouse
  rcases below_cases v hN with ⟨e, q⟩ | ⟨e, q⟩
  · exact Or.inl ⟨by rw [e]; rfl, q⟩
  · exact Or.inr ⟨by rw [e]; rfl, q⟩
theorem sim_house {xi : Nat → Int32} {xa : Nat → Nat → Int32} {xl : Nat → Int64} {xm : Nat → Nat → Int64} {mi : Nat → Int32} {ma : Nat → Nat → Int32} (h : Rel xi xa xl xm mi ma) (z1 z2 : Int32) : ∃ (r : Int32) (d1 : Int32) (d2 : Nat → Int32) , f_X8_house (xi 9) (xa 7) (xa 8) z1 z2 = some r ∧ f_X9_house (mi 3) (ma 4) (ma 5) (ma 7) z1 z2 = some (r, d1, d2) ∧ Rel xi xa xl xm (va_up mi 3 d1) (va_up ma 7 d2) := by
  obtain ⟨N, n1, hHO, hHM⟩ := h.houses
  have h8 := hHO.1
  obtain ⟨mc, q1, q2⟩ := hHM (mi 3) (ma 7)
  have M : f_X9_house (mi 3) (ma 4) (ma 5) (ma 7) z1 z2 = bind1 (f_X8_isHouse (nI N) z1) (fun r4 => if r4 = 0 then (some ((-2 : Int32), nI N, mc)) else (bind1 (f_X8_isUpTo z2 1) (fun r5 => if r5 = 0 then (some ((-2 : Int32), nI N, mc)) else (gd (inb (((2 : Int32) * z1) + z2) 16) (some ((mc (((2 : Int32) * z1) + z2).toNatClampNeg), nI N, mc)))))) := by
    unfold f_X9_house
    rw [q1, bind3_def, isHouse_eq, isTwo_eq]
  have X : f_X8_house (xi 9) (xa 7) (xa 8) z1 z2 = bind1 (f_X8_isHouse (nI N) z1) (fun r1 => if r1 = 0 then (some (-2 : Int32)) else (bind1 (f_X8_isUpTo z2 (1 : Int32)) (fun r2 => if r2 = 0 then (some (-2 : Int32)) else (if z2 = 0 then (gd (inb z1 8) (some (xa 7 z1.toNatClampNeg))) else (gd (inb z1 8) (some (xa 8 z1.toNatClampNeg))))))) := by
    unfold f_X8_house
    rw [n1]
  rcases isHouse_cases z1 (N := N) (by omega) with ⟨e1, -⟩ | ⟨e1, k, hk, rfl⟩
  · rw [e1] at M X
    exact ⟨-2, _, _, X, M, h⟩
  rw [e1, bind1_def, if_neg one_ne0] at M X
  rcases upTo_cases z2 (M := 1) (by omega) with ⟨e2, -⟩ | ⟨e2, t, ht, rfl⟩
  · rw [show f_X8_isUpTo z2 (1 : Int32) = some 0 from e2] at M X
    exact ⟨-2, _, _, X, M, h⟩
  rw [show f_X8_isUpTo (nI t) (1 : Int32) = some 1 from e2, bind1_def, if_neg one_ne0] at M X
  rw [show (2 : Int32) * nI k + nI t = nI (2 * k + t) from by rw [show (2 : Int32) * nI k = nI (2 * k) from pk_mul 2 k]; exact nI_add _ _, gd_t (inb_n (by omega) (by omega)), tnN (by omega)] at M
  rw [gd_t (inb_n (by omega) (by omega)), gd_t (inb_n (by omega) (by omega)), tnN (by omega)] at X
  rcases (show t = 0 ∨ t = 1 by omega) with rfl | rfl
  · rw [if_pos (show nI 0 = 0 from rfl)] at X
    exact ⟨_, _, _, X, by rw [M, Nat.add_zero, (q2 k hk).1], h⟩
  · rw [if_neg n1_0] at X
    exact ⟨_, _, _, X, by rw [M, (q2 k hk).2], h⟩
