def okb (b : Int32) (k : Nat) : Prop := if k = 3 then b = 59 else (¬ b < 48 ∧ ¬ (if k = 0 then (51 : Int32) else 57) < b)
theorem fit_x (b : Int32) (k : Nat) (hk : k < 4) : (okb b k ∧ f_X1_fits b (nI k) = some 1) ∨ (¬ okb b k ∧ f_X1_fits b (nI k) = some 0) := by
  unfold okb f_X1_fits f_X1_fits_b35
  by_cases h3 : k = 3
  · subst h3
    rw [if_pos (show nI 3 = 3 from rfl), if_pos rfl]
    by_cases hb : b = 59
    · exact Or.inl ⟨hb, if_pos hb⟩
    · exact Or.inr ⟨hb, if_neg hb⟩
  rw [if_neg (show ¬ nI k = 3 by rw [show (3 : Int32) = nI 3 from rfl, nI_eq_i (by omega) (by omega)]; exact h3), if_neg h3]
  by_cases hb : b < 48
  · exact Or.inr ⟨fun q => q.1 hb, if_pos hb⟩
  rw [if_neg hb]
  by_cases h0 : k = 0
  · subst h0
    rw [if_pos (show nI 0 = 0 from rfl), if_pos rfl]
    by_cases hc : (51 : Int32) < b
    · exact Or.inr ⟨fun q => q.2 hc, if_pos hc⟩
    · exact Or.inl ⟨⟨hb, hc⟩, if_neg hc⟩
  · rw [if_neg (show ¬ nI k = 0 from nI_ne0 (by omega) (by omega)), if_neg h0]
    by_cases hc : (57 : Int32) < b
    · exact Or.inr ⟨fun q => q.2 hc, if_pos hc⟩
    · exact Or.inl ⟨⟨hb, hc⟩, if_neg hc⟩
/-- the digit of a byte that fits -/
theorem okb_digit {b : Int32} {k : Nat} (hk : k < 3) (h : okb b k) : ∃ d : Nat, d ≤ (if k = 0 then 3 else 9) ∧ b - 48 = nI d := by
  unfold okb at h
  rw [if_neg (by omega)] at h
  obtain ⟨h1, h2⟩ := h
  have e1 : ¬ b.toInt < 48 := fun q => h1 (by rw [Int32.lt_iff_toInt_lt]; exact q)
  have hlo := Int32.not_lt.mp h1
  obtain ⟨j, hj, rfl⟩ := nI_of (show ¬ b < 0 by
    rw [Int32.lt_iff_toInt_lt]
    have : (0 : Int32).toInt = 0 := by decide
    omega)
  rw [nI_toInt (by omega)] at e1
  refine ⟨j - 48, ?_, pk_sub (b := 48) (by omega)⟩
  by_cases h0 : k = 0
  · rw [if_pos h0] at h2 ⊢
    rw [show (51 : Int32) = nI 51 from rfl, nI_lt_i (by omega) (by omega)] at h2
    omega
  · rw [if_neg h0] at h2 ⊢
    rw [show (57 : Int32) = nI 57 from rfl, nI_lt_i (by omega) (by omega)] at h2
    omega
def hplace (bt : Nat → Int32) (h : Nat) : Int32 := (10 : Int32) * (bt (4 * h) - 48) + (bt (4 * h + 1) - 48)
def hdue (bt : Nat → Int32) (h : Nat) : Int32 := bt (4 * h + 2) - 48
/-- houses read so far -/
def HRows (i : Nat) (bt house : Nat → Int32) : Prop := (∀ h, 4 * h + 2 ≤ i → house (2 * h) = hplace bt h) ∧ (∀ h, 4 * h + 1 = i → house (2 * h) = (10 : Int32) * (bt (4 * h) - 48)) ∧ (∀ h, 4 * h + 3 ≤ i → house (2 * h + 1) = hdue bt h)
def HEnd (n : Nat) (bt : Nat → Int32) (x : Int32 ⊕ Unit) (y : (Int32 × Int32 × (Nat → Int32)) ⊕ (Int32 × (Nat → Int32))) : Prop :=
  (∃ (i : Nat) (a : Int32) (k : Nat → Int32), i < n ∧ x = .inl (nI i) ∧ y = .inl (nI i, a, k)) ∨ ∃ k : Nat → Int32, HRows n bt k ∧ (∀ i, i < n → okb (bt i) (i % 4)) ∧ x = .inr () ∧ y = .inr (nI ((n + 1) / 4), k)
theorem rem4 {i : Nat} (hi : i < 100) : nI i - nI i / (4 : Int32) * (4 : Int32) = nI (i % 4) := pk_rem (d := 4) (by omega) (by omega) (by omega)
set_option maxHeartbeats 1000000 in
theorem house_loops (n : Nat) (hn : n ≤ 31) (bt mbt : Nat → Int32) (hb : ∀ k, k < n → mbt (42 + k) = bt k) (m0 : Nat → Int32) :
    ∃ x y, loopF (fun q : Int32 => f_X1_findFlaw_L2 31 (nI n) bt q) FU 0 = some x ∧ loopF (fun q : Int32 × Int32 × (Nat → Int32) => f_X9_readsHouses_L14 mbt (nI n) q.1 q.2.1 q.2.2) FU (0, 0, m0) = some y ∧ HEnd n bt x y := by
  refine loopF_two (fun m q q' => ∃ (i : Nat) (k : Nat → Int32), i + m = n ∧ HRows i bt k ∧ (∀ j, j < i → okb (bt j) (j % 4)) ∧ q = nI i ∧ q' = (nI i, nI ((i + 1) / 4), k)) (HEnd n bt) ?_ FU n _ _ ⟨0, m0, by omega, ⟨fun h hh => absurd hh (by omega), fun h hh => absurd hh (by omega), fun h hh => absurd hh (by omega)⟩, fun j hj => absurd hj (Nat.not_lt_zero _), rfl, rfl⟩ (Nat.lt_trans (by omega) FU_big)
  rintro m q q' ⟨i, k, hi, hH, hok, rfl, rfl⟩
  obtain ⟨hA, hB, hC⟩ := hH
  show (∃ x x', f_X1_findFlaw_L2 31 (nI n) bt (nI i) = some (.inr x) ∧ f_X9_readsHouses_L14 mbt (nI n) (nI i) (nI ((i + 1) / 4)) k = some (.inr x') ∧ _) ∨ (∃ r1 r2 m', m' < m ∧ f_X1_findFlaw_L2 31 (nI n) bt (nI i) = some (.inl r1) ∧ f_X9_readsHouses_L14 mbt (nI n) (nI i) (nI ((i + 1) / 4)) k = some (.inl r2) ∧ _)
  by_cases hin : n ≤ i
  · left
    have e : i = n := by omega
    subst e
    refine ⟨_, _, ?_, ?_, Or.inr ⟨k, ⟨hA, hB, hC⟩, hok, rfl, rfl⟩⟩
    · unfold f_X1_findFlaw_L2
      rw [if_pos (by rw [nI_le_i (by omega) (by omega)]; exact hin)]
    · unfold f_X9_readsHouses_L14
      rw [if_pos (by rw [nI_le_i (by omega) (by omega)]; exact hin)]
  have hni : ¬ nI n ≤ nI i := by rw [nI_le_i (by omega) (by omega)]; exact hin
  have h4 : i % 4 < 4 := Nat.mod_lt _ (by omega)
  have X : f_X1_findFlaw_L2 31 (nI n) bt (nI i) = bind1 (f_X1_fits (bt i) (nI (i % 4))) (fun r1 => if r1 = 0 then (some (.inr (.inl (nI i)))) else (some (.inl (nI i + 1)))) := by
    unfold f_X1_findFlaw_L2
    rw [if_neg hni, if_neg (by rw [show (32 : Int32) = nI 32 from rfl, nI_le_i (by omega) (by omega)]; omega), gd_t (inb_n (by omega) (by omega)), tnN (by omega), rem4 (by omega)]
  have M : f_X9_readsHouses_L14 mbt (nI n) (nI i) (nI ((i + 1) / 4)) k = bind1 (f_X1_fits (bt i) (nI (i % 4))) (fun r => f_X9_readsHouses_b76L14 (nI ((i + 1) / 4)) mbt k (nI n) (nI i) (bt i) (nI (i % 4)) r) := by
    unfold f_X9_readsHouses_L14
    rw [if_neg hni, show (42 : Int32) + nI i = nI (42 + i) from nI_add 42 i, gd_t (inb_n (by omega) (by omega)), letv_def, letv_def, tnN (by omega), hb i (by omega), rem4 (by omega)]
    unfold f_X1_fits f_X1_fits_b35 f_X9_readsHouses_b73L14
    by_cases h3 : nI (i % 4) = 3
    · rw [if_pos h3, if_pos h3]
      by_cases hs : bt i = 59
      · rw [if_pos hs, if_pos hs]; rfl
      · rw [if_neg hs, if_neg hs]; rfl
    · rw [if_neg h3, if_neg h3]
      by_cases h0 : nI (i % 4) = 0
      · rw [if_pos h0, if_pos h0, show (48 : Int64) = (48 : Int32).toInt64 from by decide, show (51 : Int64) = (51 : Int32).toInt64 from by decide, in_32]
      · rw [if_neg h0, if_neg h0, show (48 : Int64) = (48 : Int32).toInt64 from by decide, show (57 : Int64) = (57 : Int32).toInt64 from by decide, in_32]
  rcases fit_x (bt i) (i % 4) h4 with ⟨hok1, hf⟩ | ⟨hok1, hf⟩
  · right
    rw [hf, bind1_def, if_neg one_ne0, show nI i + 1 = nI (i + 1) from nI_1 i] at X
    rw [hf, bind1_def] at M
    unfold f_X9_readsHouses_b76L14 f_X9_readsHouses_b171L14 at M
    have hd : i / 4 ≤ 7 := by omega
    rw [if_neg one_ne0, letv_def, show (2 : Int32) * (nI i / 4) = nI (2 * (i / 4)) from by rw [show nI i / 4 = nI (i / 4) from pk_div (d := 4) (by omega) (by omega) (by omega)]; exact pk_mul 2 _, show nI i + 1 = nI (i + 1) from nI_1 i] at M
    have hok2 : ∀ j, j < i + 1 → okb (bt j) (j % 4) := fun j hj => by
      by_cases hji : j = i
      · rw [hji]; exact hok1
      · exact hok j (by omega)
    have hdm := Nat.div_add_mod i 4
    rcases (show i % 4 = 0 ∨ i % 4 = 1 ∨ i % 4 = 2 ∨ i % 4 = 3 by omega) with e | e | e | e
    · rw [e, if_pos (show nI 0 = 0 from rfl), letv_def, gd_t (inb_n (by omega) (by omega)), tnN (by omega)] at M
      refine ⟨_, _, m - 1, by omega, X, M, i + 1, _, by omega, ⟨fun h hh => ?_, fun h hh => ?_, fun h hh => ?_⟩, hok2, rfl, by rw [show (i + 1) / 4 = (i + 1 + 1) / 4 by omega]⟩
      · rw [upd_ne _ _ (by omega)]; exact hA h (by omega)
      · rw [show h = i / 4 by omega, upd_at, show 4 * (i / 4) = i by omega]
      · rw [upd_ne _ _ (by omega)]; exact hC h (by omega)
    · rw [e, if_neg (show ¬ nI 1 = 0 from one_ne0), if_pos (show nI 1 = 1 from rfl), gd_t (inb_n (by omega) (by omega)), letv_def, gd_t (inb_n (by omega) (by omega)), tnN (by omega), hB (i / 4) (by omega)] at M
      refine ⟨_, _, m - 1, by omega, X, M, i + 1, _, by omega, ⟨fun h hh => ?_, fun h hh => ?_, fun h hh => ?_⟩, hok2, rfl, by rw [show (i + 1) / 4 = (i + 1 + 1) / 4 by omega]⟩
      · by_cases hz : h = i / 4
        · rw [hz, upd_at]; unfold hplace; rw [show 4 * (i / 4) + 1 = i by omega]
        · rw [upd_ne _ _ (by omega)]; exact hA h (by omega)
      · exact absurd hh (by omega)
      · rw [upd_ne _ _ (by omega)]; exact hC h (by omega)
    · rw [e, if_neg (show ¬ nI 2 = 0 by decide), if_neg (show ¬ nI 2 = 1 by decide), if_pos (show nI 2 = 2 from rfl), letv_def, show nI (2 * (i / 4)) + 1 = nI (2 * (i / 4) + 1) from nI_1 _, gd_t (inb_n (by omega) (by omega)), letv_def, tnN (by omega), show nI ((i + 1) / 4) + 1 = nI ((i + 1 + 1) / 4) from by rw [show (i + 1 + 1) / 4 = (i + 1) / 4 + 1 by omega]; exact nI_1 _] at M
      refine ⟨_, _, m - 1, by omega, X, M, i + 1, _, by omega, ⟨fun h hh => ?_, fun h hh => ?_, fun h hh => ?_⟩, hok2, rfl, rfl⟩
      · rw [upd_ne _ _ (by omega)]; exact hA h (by omega)
      · exact absurd hh (by omega)
      · by_cases hz : h = i / 4
        · rw [hz, upd_at]; unfold hdue; rw [show 4 * (i / 4) + 2 = i by omega]
        · rw [upd_ne _ _ (by omega)]; exact hC h (by omega)
    · rw [e, if_neg (show ¬ nI 3 = 0 by decide), if_neg (show ¬ nI 3 = 1 by decide), if_neg (show ¬ nI 3 = 2 by decide)] at M
      refine ⟨_, _, m - 1, by omega, X, M, i + 1, k, by omega, ⟨fun h hh => hA h (by omega), fun h hh => absurd hh (by omega), fun h hh => hC h (by omega)⟩, hok2, rfl, by rw [show (i + 1) / 4 = (i + 1 + 1) / 4 by omega]⟩
  · left
    refine ⟨_, _, ?_, ?_, Or.inl ⟨i, nI ((i + 1) / 4), k, by omega, rfl, rfl⟩⟩
    · rw [X, hf]; rfl
    · rw [M, hf]; rfl
