theorem kind_eq (b : Int32) : (f_X3_kindOf b = some (-1) ∧ f_X9_cellOf b = some (-9)) ∨ ∃ k : Nat, k ≤ 3 ∧ f_X3_kindOf b = some (nI k) ∧ f_X9_cellOf b = some (nI k) := by
  unfold f_X3_kindOf f_X9_cellOf
  by_cases h1 : b = 35
  · subst h1; exact Or.inr ⟨1, by omega, rfl, rfl⟩
  by_cases h2 : b = 46
  · subst h2; exact Or.inr ⟨0, by omega, rfl, rfl⟩
  by_cases h3 : b = 108
  · subst h3; exact Or.inr ⟨2, by omega, rfl, rfl⟩
  by_cases h4 : b = 119
  · subst h4; exact Or.inr ⟨3, by omega, rfl, rfl⟩
  exact Or.inl ⟨by rw [if_neg h1, if_neg h2, if_neg h3, if_neg h4], by rw [if_neg h2, if_neg h1, if_neg h3, if_neg h4]⟩
/-- the land so far: R rows of W, and some cells of the next one -/
def LRows (R W row C : Nat) (kinds rowAt colAt mcell : Nat → Int32) : Prop :=
  W ≤ 6 ∧ R ≤ 6 ∧ (R = 0 ↔ W = 0) ∧ row ≤ 6 ∧ (0 < R → row ≤ W) ∧ C = R * W + row ∧ (R = 6 → row = 0) ∧
  (∀ c, c < C → mcell c = kinds c ∧ ∃ k : Nat, k ≤ 3 ∧ kinds c = nI k) ∧ (∀ c, c < R * W → rowAt c = nI (c / W) ∧ colAt c = nI (c % W)) ∧ (∀ j, j < row → rowAt (R * W + j) = nI R ∧ colAt (R * W + j) = nI j)
theorem LRows.small {R W row C : Nat} {kinds rowAt colAt mcell : Nat → Int32} (h : LRows R W row C kinds rowAt colAt mcell) : C ≤ 36 ∧ (R < 6 → row < (if R = 0 then 6 else W) → C < 36) := by
  obtain ⟨h1, h2, h3, h4, h5, h6, h7, -⟩ := h
  have hm : R * W ≤ R * 6 := Nat.mul_le_mul (Nat.le_refl R) h1
  constructor
  · by_cases hR : R = 6
    · have := h7 hR; omega
    · omega
  · intro hR hrow
    by_cases h0 : R = 0
    · rw [if_pos h0] at hrow; subst h0; omega
    · rw [if_neg h0] at hrow; omega
/-- a row that may end here -/
theorem LRows.nextRow {R W row C : Nat} {kinds rowAt colAt mcell : Nat → Int32} (h : LRows R W row C kinds rowAt colAt mcell) (h0 : ¬ row = 0) (hw : W ≤ row) : LRows (R + 1) row 0 C kinds rowAt colAt mcell := by
  obtain ⟨h1, h2, h3, h4, h5, h6, h7, h8, h9, h10⟩ := h
  have hR : R < 6 := by
    rcases Nat.lt_or_ge R 6 with q | q
    · exact q
    · exact absurd (h7 (by omega)) h0
  have hC : C = (R + 1) * row + 0 := by
    by_cases hz : R = 0
    · subst hz; omega
    · have e : row = W := Nat.le_antisymm (h5 (by omega)) hw
      rw [h6, e, Nat.add_mul]; omega
  refine ⟨h4, by omega, ⟨fun q => by omega, fun q => absurd q h0⟩, by omega, fun _ => by omega, hC, fun _ => rfl, h8, fun c hc => ?_, fun j hj => absurd hj (Nat.not_lt_zero _)⟩
  by_cases hz : R = 0
  · subst hz
    have hc : c < row := by omega
    have e := h10 c hc
    rw [Nat.zero_mul, Nat.zero_add] at e
    rw [Nat.div_eq_of_lt hc, Nat.mod_eq_of_lt hc]
    exact e
  · have e : row = W := Nat.le_antisymm (h5 (by omega)) hw
    rw [e]
    by_cases hc2 : c < R * W
    · exact h9 c hc2
    · have hj := h10 (c - R * W) (by have q := hc; rw [e, Nat.add_mul] at q; rw [e]; omega)
      rw [show R * W + (c - R * W) = c by omega] at hj
      have hW : 0 < W := by omega
      have hlt : c - R * W < W := by omega
      have ed : c / W = R := by
        rw [show c = (c - R * W) + R * W by omega, Nat.add_mul_div_right _ _ hW, Nat.div_eq_of_lt hlt]; omega
      have em : c % W = c - R * W := by
        conv => lhs; rw [show c = (c - R * W) + R * W by omega]
        rw [Nat.add_mul_mod_self_right, Nat.mod_eq_of_lt hlt]
      rw [ed, em]
      exact hj
theorem LRows.put {R W row C : Nat} {kinds rowAt colAt mcell : Nat → Int32} (h : LRows R W row C kinds rowAt colAt mcell) (hR : R < 6) (hrow : row < (if R = 0 then 6 else W)) {k : Nat} (hk : k ≤ 3) :
    LRows R W (row + 1) (C + 1) (upd kinds C (nI k)) (upd rowAt C (nI R)) (upd colAt C (nI row)) (upd mcell C (nI k)) := by
  obtain ⟨h1, h2, h3, h4, h5, h6, h7, h8, h9, h10⟩ := h
  refine ⟨h1, h2, h3, ?_, fun q => ?_, by omega, fun q => absurd q (by omega), fun c hc => ?_, fun c hc => ?_, fun j hj => ?_⟩
  · by_cases hz : R = 0
    · rw [if_pos hz] at hrow; omega
    · rw [if_neg hz] at hrow; omega
  · rw [if_neg (by omega)] at hrow; omega
  · by_cases hcC : c = C
    · rw [hcC, upd_at, upd_at]; exact ⟨rfl, k, hk, rfl⟩
    · rw [upd_ne _ _ hcC, upd_ne _ _ hcC]; exact h8 c (by omega)
  · rw [upd_ne _ _ (by omega), upd_ne _ _ (by omega)]; exact h9 c hc
  · by_cases hjr : j = row
    · rw [hjr, ← h6, upd_at, upd_at]; exact ⟨rfl, rfl⟩
    · rw [upd_ne _ _ (by omega), upd_ne _ _ (by omega)]; exact h10 j (by omega)
/-- how both readings of the land end -/
def LEnd (n : Nat) (x : (Int32 × Int32 × Int32 × Int32 × (Nat → Int32) × (Nat → Int32) × (Nat → Int32)) ⊕ ((Int32 × Int32 × Int32 × Int32 × (Nat → Int32) × (Nat → Int32) × (Nat → Int32)) ⊕ (Int32 × Int32 × Int32 × Int32 × (Nat → Int32) × (Nat → Int32) × (Nat → Int32))))
    (y : (Int32 × Int32 × Int32 × (Nat → Int32)) ⊕ ((Int32 × Int32 × Int32 × (Nat → Int32)) ⊕ (Int32 × Int32 × Int32 × (Nat → Int32)))) : Prop :=
  (∃ (i : Nat) (a b c a' b' : Int32) (k r l k' : Nat → Int32), i < n ∧ ((x = .inl (nI i, a, b, c, k, r, l) ∧ y = .inl (nI i, a', b', k')) ∨ (x = .inr (.inl (nI i, a, b, c, k, r, l)) ∧ y = .inr (.inl (nI i, a', b', k'))))) ∨
  ∃ (R W row C : Nat) (k r l k' : Nat → Int32), LRows R W row C k r l k' ∧ x = .inr (.inr (nI row, nI C, nI W, nI R, k, r, l)) ∧ y = .inr (.inr (nI row, nI C, nI W, k'))
set_option maxHeartbeats 1000000 in
theorem land_loops (n : Nat) (hn : n ≤ 41) (bt mbt : Nat → Int32) (hb : ∀ k, k < n → mbt k = bt k) (k0 r0 l0 m0 : Nat → Int32) :
    ∃ x y, loopF (fun q : Int32 × Int32 × Int32 × Int32 × Int32 × (Nat → Int32) × (Nat → Int32) × (Nat → Int32) => f_X3_gather_L4 41 (nI n) bt q.1 q.2.1 q.2.2.1 q.2.2.2.1 q.2.2.2.2.1 q.2.2.2.2.2.1 q.2.2.2.2.2.2.1 q.2.2.2.2.2.2.2) FU (0, 0, 0, 0, 0, k0, r0, l0) = some x ∧
      loopF (fun q : Int32 × Int32 × Int32 × Int32 × Int32 × (Nat → Int32) => f_X9_readsLand_L24 mbt (nI n) q.1 q.2.1 q.2.2.1 q.2.2.2.1 q.2.2.2.2.1 q.2.2.2.2.2) FU (0, 0, 0, 0, 0, m0) = some y ∧ LEnd n x y := by
  refine loopF_two (fun m q q' => ∃ (i row R W C : Nat) (k r l k' : Nat → Int32), i + m = n ∧ LRows R W row C k r l k' ∧ q = (nI row, nI i, nI C, nI W, nI R, k, r, l) ∧ q' = (nI R, nI row, nI i, nI C, nI W, k')) (LEnd n) ?_ FU n _ _ ⟨0, 0, 0, 0, 0, k0, r0, l0, m0, by omega, ⟨by omega, by omega, ⟨fun _ => rfl, fun _ => rfl⟩, by omega, fun h => absurd h (by omega), by omega, fun h => absurd h (by omega), fun c hc => absurd hc (Nat.not_lt_zero _), fun c hc => absurd hc (by omega), fun c hc => absurd hc (Nat.not_lt_zero _)⟩, rfl, rfl⟩ (Nat.lt_trans (by omega) FU_big)
  rintro m q q' ⟨i, row, R, W, C, k, r, l, k', hi, hL, rfl, rfl⟩
  obtain ⟨hC36, hC35⟩ := hL.small
  obtain ⟨h1, h2, h3, h4, h5, h6, h7, h8, h9, h10⟩ := id hL
  show (∃ x x', f_X3_gather_L4 41 (nI n) bt (nI row) (nI i) (nI C) (nI W) (nI R) k r l = some (.inr x) ∧ f_X9_readsLand_L24 mbt (nI n) (nI R) (nI row) (nI i) (nI C) (nI W) k' = some (.inr x') ∧ _) ∨ (∃ r1 r2 m', m' < m ∧ f_X3_gather_L4 41 (nI n) bt (nI row) (nI i) (nI C) (nI W) (nI R) k r l = some (.inl r1) ∧ f_X9_readsLand_L24 mbt (nI n) (nI R) (nI row) (nI i) (nI C) (nI W) k' = some (.inl r2) ∧ _)
  by_cases hin : n ≤ i
  · left
    refine ⟨_, _, ?_, ?_, Or.inr ⟨R, W, row, C, k, r, l, k', hL, rfl, rfl⟩⟩
    · unfold f_X3_gather_L4
      rw [if_pos (by rw [nI_le_i (by omega) (by omega)]; exact hin)]
    · unfold f_X9_readsLand_L24
      rw [if_pos (by rw [nI_le_i (by omega) (by omega)]; exact hin)]
  have hni : ¬ nI n ≤ nI i := by rw [nI_le_i (by omega) (by omega)]; exact hin
  have X : f_X3_gather_L4 41 (nI n) bt (nI row) (nI i) (nI C) (nI W) (nI R) k r l = f_X3_gather_L4 41 (nI n) bt (nI row) (nI i) (nI C) (nI W) (nI R) k r l := rfl
  conv at X =>
    rhs
    unfold f_X3_gather_L4
  rw [if_neg hni, gd_t (inb_n (by omega) (by omega)), letv_def, tnN (by omega)] at X
  have M : f_X9_readsLand_L24 mbt (nI n) (nI R) (nI row) (nI i) (nI C) (nI W) k' = f_X9_readsLand_L24 mbt (nI n) (nI R) (nI row) (nI i) (nI C) (nI W) k' := rfl
  conv at M =>
    rhs
    unfold f_X9_readsLand_L24
  rw [if_neg hni, gd_t (inb_n (by omega) (by omega)), letv_def, tnN (by omega), hb i (by omega)] at M
  by_cases hs : bt i = 59
  · rw [if_pos hs] at X M
    by_cases hr0 : row = 0
    · left
      refine ⟨_, _, ?_, ?_, Or.inl ⟨i, nI C, nI W, nI R, nI C, nI W, k, r, l, k', by omega, Or.inl ⟨rfl, rfl⟩⟩⟩
      · rw [X, if_pos (by rw [hr0]; rfl)]
      · rw [M, if_pos (by rw [hr0]; rfl)]
    have hrn : ¬ nI row = 0 := nI_ne0 (by omega) (by omega)
    by_cases hw : W ≤ row
    · right
      refine ⟨_, _, m - 1, by omega, ?_, ?_, i + 1, 0, R + 1, row, C, k, r, l, k', by omega, hL.nextRow hr0 hw, rfl, rfl⟩
      · rw [X, if_neg hrn, if_pos (by rw [nI_le_i (by omega) (by omega)]; exact hw)]
        unfold f_X3_endRow f_X3_gather_b155L4
        rw [letv_def, bind2_def, show nI R + 1 = nI (R + 1) from nI_1 R, show nI i + 1 = nI (i + 1) from nI_1 i]; rfl
      · rw [M, if_neg hrn]
        unfold f_X9_readsLand_b72L24 f_X9_readsLand_b156L24
        rw [show nI R + 1 = nI (R + 1) from nI_1 R, show nI i + 1 = nI (i + 1) from nI_1 i]
        by_cases hW0 : W = 0
        · rw [if_pos (by rw [hW0]; decide)]; rfl
        · rw [if_neg (nI_nle (by omega) (by omega)), if_pos (by rw [nI_le_i (by omega) (by omega)]; exact hw)]; rfl
    · left
      refine ⟨_, _, ?_, ?_, Or.inl ⟨i, nI C, nI W, nI R, nI C, nI W, k, r, l, k', by omega, Or.inl ⟨rfl, rfl⟩⟩⟩
      · rw [X, if_neg hrn, if_neg (by rw [nI_le_i (by omega) (by omega)]; exact hw)]
      · rw [M, if_neg hrn, if_neg (nI_nle (by omega) (by omega)), if_neg (by rw [nI_le_i (by omega) (by omega)]; exact hw)]
  rw [if_neg hs] at X M
  have stop : f_X3_gather_L4 41 (nI n) bt (nI row) (nI i) (nI C) (nI W) (nI R) k r l = some (.inr (.inr (.inl (nI i, nI C, nI W, nI R, k, r, l)))) → f_X9_readsLand_L24 mbt (nI n) (nI R) (nI row) (nI i) (nI C) (nI W) k' = some (.inr (.inr (.inl (nI i, nI C, nI W, k')))) → (∃ x x', f_X3_gather_L4 41 (nI n) bt (nI row) (nI i) (nI C) (nI W) (nI R) k r l = some (.inr x) ∧ f_X9_readsLand_L24 mbt (nI n) (nI R) (nI row) (nI i) (nI C) (nI W) k' = some (.inr x') ∧ LEnd n x x') :=
    fun a b => ⟨_, _, a, b, Or.inl ⟨i, nI C, nI W, nI R, nI C, nI W, k, r, l, k', by omega, Or.inr ⟨rfl, rfl⟩⟩⟩
  rcases kind_eq (bt i) with ⟨g1, g2⟩ | ⟨kk, hkk, g1, g2⟩
  · left
    refine stop ?_ ?_
    · rw [X, g1, bind1_def]
      unfold f_X3_gather_b74L4
      rw [if_pos rfl, if_pos rfl]
      by_cases hz : nI R = 0
      · rw [if_pos hz]
      · rw [if_neg hz]
    · rw [M, g2]; rfl
  have Mk : ¬ nI kk = -9 := by
    rcases (show kk = 0 ∨ kk = 1 ∨ kk = 2 ∨ kk = 3 by omega) with rfl | rfl | rfl | rfl <;> decide
  have Xk : ¬ nI kk = -1 := nI_neg1 (by omega)
  rw [g1, bind1_def] at X
  rw [g2, bind1_def, if_neg Mk] at M
  unfold f_X3_gather_b74L4 at X
  rw [if_neg Xk, if_neg Xk] at X
  by_cases hR6 : R = 6
  · left
    refine stop ?_ ?_
    · have h6 : (6 : Int32) ≤ nI R := by rw [hR6]; decide
      rw [X, if_pos h6, if_pos h6]
      by_cases hz : nI R = 0
      · rw [if_pos hz]
      · rw [if_neg hz]
    · rw [M, if_pos (by rw [hR6]; rfl)]
  have hRn : ¬ (6 : Int32) ≤ nI R := by rw [show (6 : Int32) = nI 6 from rfl, nI_le_i (by omega) (by omega)]; omega
  have hRe : ¬ nI R = 6 := by rw [show (6 : Int32) = nI 6 from rfl, nI_eq_i (by omega) (by omega)]; omega
  rw [if_neg hRn, if_neg hRn] at X
  rw [if_neg hRe] at M
  have M2 : f_X9_readsLand_L24 mbt (nI n) (nI R) (nI row) (nI i) (nI C) (nI W) k' = f_X9_readsLand_b122L24 (nI C) (nI W) mbt k' (nI n) (nI R) (nI row) (nI i) (nI kk) (nI (if R = 0 then 6 else W)) (nI row) := by
    rw [M]
    by_cases hz : R = 0
    · rw [if_pos (show nI W = 0 by rw [h3.mp hz]; rfl), if_pos hz]; rfl
    · rw [if_neg (nI_ne0 (by omega) (by omega)), if_neg hz]
  have X2 : f_X3_gather_L4 41 (nI n) bt (nI row) (nI i) (nI C) (nI W) (nI R) k r l = (if nI (if R = 0 then 6 else W) ≤ nI row then (some (.inr (.inr (.inl (nI i, nI C, nI W, nI R, k, r, l))))) else (if nI C < (36 : Int32) then (gd (inb (nI C) 36) (gd (inb (nI C) 36) (gd (inb (nI C) 36) (letv ((nI C + (1 : Int32))) (fun v3 => f_X3_gather_b155L4 41 v3 (nI W) (nI R) (upd k (nI C).toNatClampNeg (nI kk)) (upd r (nI C).toNatClampNeg (nI R)) (upd l (nI C).toNatClampNeg (nI row)) (nI n) bt (nI row + 1) (nI i)))))) else (some (.inr (.inr (.inl (nI i, nI C, nI W, nI R, k, r, l))))))) := by
    rw [X]
    by_cases hz : R = 0
    · rw [if_pos (show nI R = 0 by rw [hz]; rfl)]
      simp only [if_pos hz]; rfl
    · rw [if_neg (show ¬ nI R = 0 from nI_ne0 (by omega) (by omega))]
      simp only [if_neg hz]
  have hwide : (if R = 0 then 6 else W) ≤ 6 := by by_cases hz : R = 0 <;> simp [hz] <;> omega
  have hrow : row ≤ (if R = 0 then 6 else W) := by
    by_cases hz : R = 0
    · rw [if_pos hz]; exact h4
    · rw [if_neg hz]; exact h5 (by omega)
  generalize hwd : (if R = 0 then 6 else W) = wd at M2 X2 hwide hrow hC35
  unfold f_X9_readsLand_b122L24 at M2
  by_cases hfull : row = wd
  · left
    refine stop ?_ ?_
    · rw [X2, if_pos (by rw [nI_le_i (by omega) (by omega)]; omega)]
    · rw [M2, if_pos (by rw [hfull])]
  · right
    have hlt : C < 36 := hC35 (by omega) (by omega)
    refine ⟨_, _, m - 1, by omega, ?_, ?_, i + 1, row + 1, R, W, C + 1, upd k C (nI kk), upd r C (nI R), upd l C (nI row), upd k' C (nI kk), by omega, hL.put (by omega) (by rw [hwd]; omega) hkk, rfl, rfl⟩
    · rw [X2, if_neg (by rw [nI_le_i (by omega) (by omega)]; omega), if_pos (by rw [show (36 : Int32) = nI 36 from rfl, nI_lt_i (by omega) (by omega)]; exact hlt), gd_t (inb_n hlt (by omega)), gd_t (inb_n hlt (by omega)), gd_t (inb_n hlt (by omega)), letv_def, tnN (by omega)]
      unfold f_X3_gather_b155L4
      rw [show nI C + 1 = nI (C + 1) from nI_1 C, show nI row + 1 = nI (row + 1) from nI_1 row, show nI i + 1 = nI (i + 1) from nI_1 i]
    · rw [M2, if_neg (by rw [nI_eq_i (by omega) (by omega)]; exact hfull), gd_t (inb_n hlt (by omega)), letv_def, tnN (by omega)]
      unfold f_X9_readsLand_b156L24
      rw [show nI C + 1 = nI (C + 1) from nI_1 C, show nI row + 1 = nI (row + 1) from nI_1 row, show nI i + 1 = nI (i + 1) from nI_1 i]
