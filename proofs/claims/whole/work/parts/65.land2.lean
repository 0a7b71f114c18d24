/-- neighbours, in their order -/
def nbs (W C : Nat) (kinds : Nat → Int32) (c : Nat) : List Nat :=
  (if c % W + 1 < W ∧ ¬ kinds (c + 1) = 1 then [c + 1] else []) ++ (if c + W < C ∧ ¬ kinds (c + W) = 1 then [c + W] else []) ++ (if W ≤ c ∧ ¬ kinds (c - W) = 1 then [c - W] else []) ++ (if 0 < c % W ∧ ¬ kinds (c - 1) = 1 then [c - 1] else [])
def wayOK (L : List Nat) (ways beside : Nat → Int32) (c : Nat) : Prop := ways c = nI L.length ∧ ∀ k, k < L.length → beside (4 * c + k) = nI (L.getD k 0)
/-- the land as the class holds it -/
def LandOK (C W R : Nat) (kinds rowAt colAt ways beside : Nat → Int32) : Prop :=
  W ≤ 6 ∧ R ≤ 6 ∧ C = R * W ∧ (R = 0 ↔ W = 0) ∧ (∀ c, c < C → (∃ k : Nat, k ≤ 3 ∧ kinds c = nI k) ∧ rowAt c = nI (c / W) ∧ colAt c = nI (c % W) ∧ wayOK (nbs W C kinds c) ways beside c)
/-- one way more: to a wall it isn't opened -/
theorem open_ok {c t : Nat} (hc : c < 36) (ht : t < 36) (kinds ways beside : Nat → Int32) (L : List Nat) (hL : L.length < 4) (h : wayOK L ways beside c) :
    ∃ ways' beside', f_X3_openWay kinds ways beside (nI c) (nI t) = some (ways', beside') ∧ wayOK (L ++ (if ¬ kinds t = 1 then [t] else [])) ways' beside' c ∧ (∀ d, d ≠ c → ways' d = ways d) ∧ ∀ d, (d < 4 * c ∨ 4 * c + 4 ≤ d) → beside' d = beside d := by
  obtain ⟨h1, h2⟩ := h
  unfold f_X3_openWay
  rw [gd_t (inb_n ht (by omega)), tnN (by omega)]
  by_cases hw : kinds t = 1
  · refine ⟨ways, beside, by rw [if_pos hw], ?_, fun _ _ => rfl, fun _ _ => rfl⟩
    rw [if_neg (fun q => q hw), List.append_nil]
    exact ⟨h1, h2⟩
  · have gc : inb (nI c) 36 = true := inb_n hc (by omega)
    have tc : (nI c).toNatClampNeg = c := tnN (by omega)
    refine ⟨upd ways c (nI (L.length + 1)), upd beside (4 * c + L.length) (nI t), ?_, ?_, fun d hd => upd_ne _ _ hd, fun d hd => upd_ne _ _ (by omega)⟩
    · rw [if_neg hw, gd_t gc, tc, h1, if_neg (by rw [show (4 : Int32) = nI 4 from rfl, nI_le_i (by omega) (by omega)]; omega), gd_t gc, show nI c * (4 : Int32) + nI L.length = nI (4 * c + L.length) from by rw [show (4 : Int32) = nI 4 from rfl, pk_mul, nI_add, Nat.mul_comm], gd_t (inb_n (by omega) (by omega)), gd_t gc, letv_def, gd_t gc, tnN (by omega), show nI L.length + 1 = nI (L.length + 1) from nI_1 _]
    · rw [if_pos hw]
      refine ⟨by rw [upd_at, List.length_append]; rfl, fun k hk => ?_⟩
      rw [List.length_append] at hk
      have hk : k < L.length + 1 := hk
      by_cases hkl : k = L.length
      · rw [hkl, upd_at]
        simp [List.getD_eq_getElem?_getD]
      · rw [upd_ne _ _ (by omega), h2 k (by omega)]
        rw [List.getD_eq_getElem?_getD, List.getD_eq_getElem?_getD, List.getElem?_append_left (by omega)]
theorem if_and {a b : Prop} [Decidable a] [Decidable b] {L : List Nat} (ha : a) : (if a ∧ b then L else []) = (if b then L else []) := by
  by_cases hb : b
  · rw [if_pos hb, if_pos ⟨ha, hb⟩]
  · rw [if_neg hb, if_neg (fun q => hb q.2)]
theorem len_one {a : Prop} [Decidable a] (t : Nat) : (if a then [t] else []).length ≤ 1 := by
  by_cases h : a
  · rw [if_pos h]; exact Nat.le_refl 1
  · rw [if_neg h]; exact Nat.zero_le 1
set_option maxHeartbeats 1000000 in
theorem ways_one {C W R c : Nat} (hW6 : W ≤ 6) (hR6 : R ≤ 6) (hC : C = R * W) (hc : c < C) (kinds colAt ways beside : Nat → Int32) (hcol : colAt c = nI (c % W)) :
    ∃ ways' beside', f_X3_findWays (nI C) (nI W) kinds colAt ways beside (nI c) = some (ways', beside') ∧ wayOK (nbs W C kinds c) ways' beside' c ∧ (∀ d, d ≠ c → ways' d = ways d) ∧ ∀ d, (d < 4 * c ∨ 4 * c + 4 ≤ d) → beside' d = beside d := by
  have hm : R * W ≤ 6 * 6 := Nat.mul_le_mul hR6 hW6
  have hW0 : 0 < W := by
    rcases Nat.eq_zero_or_pos W with q | q
    · rw [q] at hC; omega
    · exact q
  have hmod : c % W < W := Nat.mod_lt _ hW0
  have gc : inb (nI c) 36 = true := inb_n (by omega) (by omega)
  have tc : (nI c).toNatClampNeg = c := tnN (by omega)
  have hend : c % W + 1 < W → c + 1 < C := by
    intro h
    have e := Nat.div_add_mod c W
    have hlt : c / W < R := by
      rw [Nat.div_lt_iff_lt_mul hW0]; omega
    have h2 : W * (c / W) + W ≤ R * W := by
      have := Nat.mul_le_mul (show c / W + 1 ≤ R from hlt) (Nat.le_refl W)
      rw [Nat.add_mul, Nat.mul_comm] at this
      omega
    omega
  have w0 : wayOK [] (upd ways c 0) beside c := ⟨upd_at _ _ _, fun k hk => absurd hk (Nat.not_lt_zero _)⟩
  have fin : ∀ (L : List Nat) (ways1 beside1 : Nat → Int32), L.length ≤ 3 → wayOK L ways1 beside1 c → (∀ d, d ≠ c → ways1 d = ways d) → (∀ d, (d < 4 * c ∨ 4 * c + 4 ≤ d) → beside1 d = beside d) → ∃ ways' beside', f_X3_findWays_b73 (nI C) (nI W) kinds colAt ways1 beside1 (nI c) = some (ways', beside') ∧ wayOK (L ++ (if 0 < c % W ∧ ¬ kinds (c - 1) = 1 then [c - 1] else [])) ways' beside' c ∧ (∀ d, d ≠ c → ways' d = ways d) ∧ ∀ d, (d < 4 * c ∨ 4 * c + 4 ≤ d) → beside' d = beside d := by
    intro L ways1 beside1 hl hok h1 h2
    unfold f_X3_findWays_b73
    rw [gd_t gc, tc, hcol]
    by_cases h0 : 0 < c % W
    · obtain ⟨w, b, p1, p2, p3, p4⟩ := open_ok (c := c) (t := c - 1) (by omega) (by omega) kinds ways1 beside1 L (by omega) hok
      have hc1 : c % W ≤ c := Nat.mod_le _ _
      refine ⟨w, b, ?_, by rw [if_and h0]; exact p2, fun d hd => (p3 d hd).trans (h1 d hd), fun d hd => (p4 d hd).trans (h2 d hd)⟩
      rw [if_neg (nI_nle h0 (by omega)), show nI c - (1 : Int32) = nI (c - 1) from pk_sub (b := 1) (by omega), p1]; rfl
    · refine ⟨ways1, beside1, ?_, by rw [if_neg (fun q => h0 q.1), List.append_nil]; exact hok, h1, h2⟩
      rw [if_pos (by rw [show c % W = 0 by omega]; decide)]
  have three : ∀ (L : List Nat) (ways1 beside1 : Nat → Int32), L.length ≤ 2 → wayOK L ways1 beside1 c → (∀ d, d ≠ c → ways1 d = ways d) → (∀ d, (d < 4 * c ∨ 4 * c + 4 ≤ d) → beside1 d = beside d) → ∃ ways' beside', f_X3_findWays_b54 (nI C) (nI W) kinds colAt ways1 beside1 (nI c) = some (ways', beside') ∧ wayOK (L ++ (if W ≤ c ∧ ¬ kinds (c - W) = 1 then [c - W] else []) ++ (if 0 < c % W ∧ ¬ kinds (c - 1) = 1 then [c - 1] else [])) ways' beside' c ∧ (∀ d, d ≠ c → ways' d = ways d) ∧ ∀ d, (d < 4 * c ∨ 4 * c + 4 ≤ d) → beside' d = beside d := by
    intro L ways1 beside1 hl hok h1 h2
    unfold f_X3_findWays_b54
    by_cases h0 : W ≤ c
    · obtain ⟨w, b, p1, p2, p3, p4⟩ := open_ok (c := c) (t := c - W) (by omega) (by omega) kinds ways1 beside1 L (by omega) hok
      have hlen := len_one (a := ¬ kinds (c - W) = 1) (c - W)
      obtain ⟨w', b', q1, q2, q3, q4⟩ := fin _ w b (by rw [List.length_append]; omega) p2 (fun d hd => (p3 d hd).trans (h1 d hd)) (fun d hd => (p4 d hd).trans (h2 d hd))
      refine ⟨w', b', ?_, by rw [if_and h0]; exact q2, q3, q4⟩
      rw [if_neg (by rw [nI_lt_i (by omega) (by omega)]; omega), show nI c - nI W = nI (c - W) from pk_sub h0, p1, bind2_def, q1]
    · obtain ⟨w', b', q1, q2, q3, q4⟩ := fin L ways1 beside1 (by omega) hok h1 h2
      refine ⟨w', b', ?_, by rw [if_neg (fun q => h0 q.1), List.append_nil]; exact q2, q3, q4⟩
      rw [if_pos (by rw [nI_lt_i (by omega) (by omega)]; omega), q1]
  have two : ∀ (L : List Nat) (ways1 beside1 : Nat → Int32), L.length ≤ 1 → wayOK L ways1 beside1 c → (∀ d, d ≠ c → ways1 d = ways d) → (∀ d, (d < 4 * c ∨ 4 * c + 4 ≤ d) → beside1 d = beside d) → ∃ ways' beside', f_X3_findWays_b30 (nI C) (nI W) kinds colAt ways1 beside1 (nI c) = some (ways', beside') ∧ wayOK (L ++ (if c + W < C ∧ ¬ kinds (c + W) = 1 then [c + W] else []) ++ (if W ≤ c ∧ ¬ kinds (c - W) = 1 then [c - W] else []) ++ (if 0 < c % W ∧ ¬ kinds (c - 1) = 1 then [c - 1] else [])) ways' beside' c ∧ (∀ d, d ≠ c → ways' d = ways d) ∧ ∀ d, (d < 4 * c ∨ 4 * c + 4 ≤ d) → beside' d = beside d := by
    intro L ways1 beside1 hl hok h1 h2
    unfold f_X3_findWays_b30
    rw [show nI c + nI W = nI (c + W) from nI_add _ _]
    by_cases h0 : c + W < C
    · obtain ⟨w, b, p1, p2, p3, p4⟩ := open_ok (c := c) (t := c + W) (by omega) (by omega) kinds ways1 beside1 L (by omega) hok
      have hlen := len_one (a := ¬ kinds (c + W) = 1) (c + W)
      obtain ⟨w', b', q1, q2, q3, q4⟩ := three _ w b (by rw [List.length_append]; omega) p2 (fun d hd => (p3 d hd).trans (h1 d hd)) (fun d hd => (p4 d hd).trans (h2 d hd))
      refine ⟨w', b', ?_, by rw [if_and h0]; exact q2, q3, q4⟩
      rw [if_neg (by rw [nI_le_i (by omega) (by omega)]; omega), p1, bind2_def, q1]
    · obtain ⟨w', b', q1, q2, q3, q4⟩ := three L ways1 beside1 (by omega) hok h1 h2
      refine ⟨w', b', ?_, by rw [if_neg (fun q => h0 q.1), List.append_nil]; exact q2, q3, q4⟩
      rw [if_pos (by rw [nI_le_i (by omega) (by omega)]; omega), q1]
  unfold f_X3_findWays nbs
  rw [gd_t gc, gd_t gc, tc, hcol, show nI (c % W) + 1 = nI (c % W + 1) from nI_1 _]
  by_cases h0 : c % W + 1 < W
  · have hce := hend h0
    obtain ⟨w, b, p1, p2, p3, p4⟩ := open_ok (c := c) (t := c + 1) (by omega) (by omega) kinds (upd ways c 0) beside [] (by decide) w0
    have hlen := len_one (a := ¬ kinds (c + 1) = 1) (c + 1)
    obtain ⟨w', b', q1, q2, q3, q4⟩ := two _ w b (by rw [List.nil_append]; omega) p2 (fun d hd => (p3 d hd).trans (upd_ne _ _ hd)) (fun d hd => (p4 d hd))
    refine ⟨w', b', ?_, by rw [if_and h0]; exact q2, q3, q4⟩
    rw [if_neg (by rw [nI_le_i (by omega) (by omega)]; omega), show nI c + 1 = nI (c + 1) from nI_1 _, p1, bind2_def, q1]
  · obtain ⟨w', b', q1, q2, q3, q4⟩ := two [] (upd ways c 0) beside (by decide) w0 (fun d hd => upd_ne _ _ hd) (fun _ _ => rfl)
    refine ⟨w', b', ?_, by rw [if_neg (fun q => h0 q.1)]; exact q2, q3, q4⟩
    rw [if_pos (by rw [nI_le_i (by omega) (by omega)]; omega), q1]
