theorem ways_all {C W R : Nat} (hW6 : W ≤ 6) (hR6 : R ≤ 6) (hC : C = R * W) (kinds colAt ways beside : Nat → Int32) (hcol : ∀ c, c < C → colAt c = nI (c % W)) :
    ∃ z, loopF (fun q : Int32 × (Nat → Int32) × (Nat → Int32) => f_X3_understand_L38 41 (nI C) (nI W) kinds colAt q.1 q.2.1 q.2.2) FU (0, ways, beside) = some z ∧ ∀ c, c < C → wayOK (nbs W C kinds c) z.1 z.2 c := by
  have hm : R * W ≤ 6 * 6 := Nat.mul_le_mul hR6 hW6
  refine loopF_run (fun (m : Nat) (q : Int32 × (Nat → Int32) × (Nat → Int32)) => ∃ k : Nat, k + m = C ∧ q.1 = nI k ∧ ∀ c, c < k → wayOK (nbs W C kinds c) q.2.1 q.2.2 c) (fun z : (Nat → Int32) × (Nat → Int32) => ∀ c, c < C → wayOK (nbs W C kinds c) z.1 z.2 c) ?_ FU C (0, ways, beside) ⟨0, by omega, rfl, fun c hc => absurd hc (Nat.not_lt_zero _)⟩ (Nat.lt_trans (by omega) FU_big)
  rintro m ⟨q1, q2, q3⟩ ⟨k, hk, rfl, hq⟩
  show (∃ x, f_X3_understand_L38 41 (nI C) (nI W) kinds colAt (nI k) q2 q3 = some (.inr x) ∧ _) ∨ (∃ q' m', m' < m ∧ f_X3_understand_L38 41 (nI C) (nI W) kinds colAt (nI k) q2 q3 = some (.inl q') ∧ _)
  unfold f_X3_understand_L38
  by_cases h : C ≤ k
  · exact Or.inl ⟨(q2, q3), by rw [if_pos (by rw [nI_le_i (by omega) (by omega)]; exact h)], fun c hc => hq c (by omega)⟩
  · right
    obtain ⟨w, b, p1, p2, p3, p4⟩ := ways_one hW6 hR6 hC (c := k) (by omega) kinds colAt q2 q3 (hcol k (by omega))
    refine ⟨(nI (k + 1), w, b), m - 1, by omega, ?_, k + 1, by omega, rfl, fun c hc => ?_⟩
    · rw [if_neg (by rw [nI_le_i (by omega) (by omega)]; exact h), p1, bind2_def, show nI k + 1 = nI (k + 1) from nI_1 k]
    · by_cases hck : c = k
      · rw [hck]; exact p2
      · obtain ⟨g1, g2⟩ := hq c (by omega)
        refine ⟨(p3 c hck).trans g1, fun j hj => ?_⟩
        have hl4 : (nbs W C kinds c).length ≤ 4 := by
          unfold nbs
          rw [List.length_append, List.length_append, List.length_append]
          have l1 := len_one (a := c % W + 1 < W ∧ ¬ kinds (c + 1) = 1) (c + 1)
          have l2 := len_one (a := c + W < C ∧ ¬ kinds (c + W) = 1) (c + W)
          have l3 := len_one (a := W ≤ c ∧ ¬ kinds (c - W) = 1) (c - W)
          have l4 := len_one (a := 0 < c % W ∧ ¬ kinds (c - 1) = 1) (c - 1)
          omega
        exact (p4 _ (by omega)).trans (g2 j hj)
theorem bind7_def {A1 A2 A3 A4 A5 A6 A7 C : Type} (a1 : A1) (a2 : A2) (a3 : A3) (a4 : A4) (a5 : A5) (a6 : A6) (a7 : A7) (f : A1 → A2 → A3 → A4 → A5 → A6 → A7 → Option C) : bind7 (some (a1, a2, a3, a4, a5, a6, a7)) f = f a1 a2 a3 a4 a5 a6 a7 := rfl
theorem land0 : ∀ (kinds rowAt colAt ways beside : Nat → Int32), LandOK 0 0 0 kinds rowAt colAt ways beside := fun _ _ _ _ _ => ⟨by omega, by omega, by omega, ⟨fun _ => rfl, fun _ => rfl⟩, fun c hc => absurd hc (Nat.not_lt_zero _)⟩
/-- no cells: nothing is looked for -/
theorem und_b36_0 (fl co ro : Int32) (k r l wy be : Nat → Int32) (len : Int32) (bt : Nat → Int32) : f_X3_understand_b36 41 fl 0 co ro k r l wy be len bt = some (fl, 0, co, ro, k, r, l, wy, be) := by
  unfold f_X3_understand_b36
  have h : loopF (fun q : Int32 × (Nat → Int32) × (Nat → Int32) => f_X3_understand_L38 41 0 co k l q.1 q.2.1 q.2.2) FU (0, wy, be) = some (wy, be) := by
    show loopF _ (4095 + 1) _ = _
    refine loopF_end ?_
    show f_X3_understand_L38 41 0 co k l 0 wy be = _
    unfold f_X3_understand_L38
    rw [if_pos (by decide)]
  rw [h]; rfl
set_option maxHeartbeats 1000000 in
theorem land_both (n : Nat) (hn : n ≤ 41) (bt mbt : Nat → Int32) (hb : ∀ k, k < n → mbt k = bt k) (f0 c0 w0 r0 : Int32) (k0 ra0 ca0 wy0 be0 : Nat → Int32) (mc0 mw0 : Int32) (typed mcell0 : Nat → Int32) (ht : typed 0 = nI n) :
    ∃ (flaw : Int32) (C W R : Nat) (kinds rowAt colAt ways beside mcell : Nat → Int32), f_X3_understand 41 f0 c0 w0 r0 k0 ra0 ca0 wy0 be0 (nI n) bt = some (flaw, nI C, nI W, nI R, kinds, rowAt, colAt, ways, beside) ∧ LandOK C W R kinds rowAt colAt ways beside ∧
      f_X9_readsLand mc0 mw0 mbt typed mcell0 = some (flaw, nI C, nI W, mcell) ∧ ∀ c, c < C → mcell c = kinds c := by
  obtain ⟨x, y, hx, hy, hz⟩ := land_loops n hn bt mbt hb k0 ra0 ca0 mcell0
  by_cases hn0 : n = 0
  · subst hn0
    refine ⟨-1, 0, 0, 0, k0, ra0, ca0, wy0, be0, mcell0, ?_, land0 _ _ _ _ _, ?_, fun c hc => absurd hc (Nat.not_lt_zero _)⟩
    · unfold f_X3_understand f_X3_becomeEmpty
      rw [bind3_def, if_pos (show nI 0 = 0 from rfl)]
      unfold f_X3_understand_b21
      rw [if_pos rfl]
      exact und_b36_0 _ _ _ _ _ _ _ _ _ _
    · unfold f_X9_readsLand
      rw [tn_0, ht, letv_def, hy]
      rcases hz with ⟨i, a, b, c, a', b', k, r, l, k', hi, h⟩ | ⟨R, W, row, C, k, r, l, k', hL, rfl, rfl⟩
      · exact absurd hi (Nat.not_lt_zero _)
      · have hst : loopF (fun q : Int32 × Int32 × Int32 × Int32 × Int32 × (Nat → Int32) => f_X9_readsLand_L24 mbt (nI 0) q.1 q.2.1 q.2.2.1 q.2.2.2.1 q.2.2.2.2.1 q.2.2.2.2.2) FU (0, 0, 0, 0, 0, mcell0) = some (.inr (.inr (0, 0, 0, mcell0))) := by
          show loopF _ (4095 + 1) _ = _
          refine loopF_end ?_
          show f_X9_readsLand_L24 mbt (nI 0) 0 0 0 0 0 mcell0 = _
          unfold f_X9_readsLand_L24
          rw [if_pos (by decide)]
        rw [hst] at hy
        have e := Option.some.inj hy
        rw [← e]; rfl
  have hnn : ¬ nI n = 0 := nI_ne0 (by omega) (by omega)
  have hnl : ¬ nI n ≤ 0 := nI_nle (by omega) (by omega)
  have X : ∀ (fl C W R : Int32) (k r l : Nat → Int32), f_X3_gather 41 0 0 0 k0 ra0 ca0 (nI n) bt = some (fl, C, W, R, k, r, l) → f_X3_understand 41 f0 c0 w0 r0 k0 ra0 ca0 wy0 be0 (nI n) bt = f_X3_understand_b21 41 f0 C W R k r l wy0 be0 (nI n) bt fl := by
    intro fl C W R k r l h
    unfold f_X3_understand f_X3_becomeEmpty
    rw [bind3_def, if_neg hnn, h, bind7_def]
  have bad : ∀ (f : Nat), f ≤ 41 → ∀ (C W R : Int32) (k r l mc : Nat → Int32), f_X3_gather 41 0 0 0 k0 ra0 ca0 (nI n) bt = some (nI f, C, W, R, k, r, l) → f_X9_readsLand mc0 mw0 mbt typed mcell0 = some (nI f, 0, 0, mc) → ∃ (flaw : Int32) (C W R : Nat) (kinds rowAt colAt ways beside mcell : Nat → Int32), f_X3_understand 41 f0 c0 w0 r0 k0 ra0 ca0 wy0 be0 (nI n) bt = some (flaw, nI C, nI W, nI R, kinds, rowAt, colAt, ways, beside) ∧ LandOK C W R kinds rowAt colAt ways beside ∧ f_X9_readsLand mc0 mw0 mbt typed mcell0 = some (flaw, nI C, nI W, mcell) ∧ ∀ c, c < C → mcell c = kinds c := by
    intro f hf C W R k r l mc hg hm
    refine ⟨nI f, 0, 0, 0, k, r, l, wy0, be0, mc, ?_, land0 _ _ _ _ _, hm, fun c hc => absurd hc (Nat.not_lt_zero _)⟩
    rw [X _ _ _ _ _ _ _ hg]
    unfold f_X3_understand_b21
    rw [if_neg (nI_neg1 (by omega))]
    unfold f_X3_becomeEmpty
    rw [bind3_def]
    exact und_b36_0 _ _ _ _ _ _ _ _ _ _
  rcases hz with ⟨i, a, b, c, a', b', k, r, l, k', hi, ⟨rfl, rfl⟩ | ⟨rfl, rfl⟩⟩ | ⟨R, W, row, C, k, r, l, k', hL, rfl, rfl⟩
  · refine bad i (by omega) a b c k r l k' ?_ ?_
    · unfold f_X3_gather; rw [hx]; rfl
    · unfold f_X9_readsLand; rw [tn_0, ht, letv_def, hy]; rfl
  · refine bad i (by omega) a b c k r l k' ?_ ?_
    · unfold f_X3_gather; rw [hx]; rfl
    · unfold f_X9_readsLand; rw [tn_0, ht, letv_def, hy]; rfl
  have hG : f_X3_gather 41 0 0 0 k0 ra0 ca0 (nI n) bt = (if nI row = 0 then (f_X3_gather_b173 41 (nI C) (nI W) (nI R) k r l (nI n) bt) else (if nI W ≤ nI row then (bind2 (f_X3_endRow (nI W) (nI R) (nI row)) (fun c27 c28 => some ((-1 : Int32), nI C, c27, c28, k, r, l))) else (f_X3_gather_b173 41 (nI C) (nI W) (nI R) k r l (nI n) bt))) := by
    unfold f_X3_gather; rw [hx]; rfl
  have hM : f_X9_readsLand mc0 mw0 mbt typed mcell0 = (if nI n ≤ 0 then (f_X9_readsLand_b184 (nI C) (nI W) mbt typed k' (nI n) (nI row)) else (if nI row = 0 then (f_X9_readsLand_b178 (nI C) (nI W) mbt typed k' (nI n)) else (if nI W ≤ nI row then (f_X9_readsLand_b184 (nI C) (nI W) mbt typed k' (nI n) (nI row)) else (f_X9_readsLand_b178 (nI C) (nI W) mbt typed k' (nI n))))) := by
    unfold f_X9_readsLand; rw [tn_0, ht, letv_def, hy]; rfl
  rw [if_neg hnl] at hM
  obtain ⟨h1, h2, h3, h4, h5, h6, h7, h8, h9, h10⟩ := id hL
  by_cases hr0 : row = 0
  · refine bad n hn (nI C) (nI W) (nI R) k r l k' ?_ ?_
    · rw [hG, if_pos (by rw [hr0]; rfl)]; rfl
    · rw [hM, if_pos (by rw [hr0]; rfl)]; rfl
  have hrn : ¬ nI row = 0 := nI_ne0 (by omega) (by omega)
  by_cases hw : W ≤ row
  · have hL2 := hL.nextRow hr0 hw
    obtain ⟨g1, g2, g3, g4, g5, g6, g7, g8, g9, g10⟩ := id hL2
    have hCe : C = (R + 1) * row := by omega
    obtain ⟨z, hz1, hz2⟩ := ways_all g1 g2 hCe k l wy0 be0 (fun c hc => (g9 c (by omega)).2)
    refine ⟨-1, C, row, R + 1, k, r, l, z.1, z.2, k', ?_, ⟨g1, g2, hCe, g3, fun c hc => ⟨(g8 c hc).2, (g9 c (by omega)).1, (g9 c (by omega)).2, hz2 c hc⟩⟩, ?_, fun c hc => (g8 c hc).1⟩
    · rw [X (-1) (nI C) (nI row) (nI (R + 1)) k r l (by
        rw [hG, if_neg hrn, if_pos (by rw [nI_le_i (by omega) (by omega)]; exact hw)]
        unfold f_X3_endRow
        rw [letv_def, bind2_def, show nI R + 1 = nI (R + 1) from nI_1 R])]
      unfold f_X3_understand_b21 f_X3_understand_b36
      rw [if_pos rfl, hz1]; rfl
    · rw [hM, if_neg hrn, if_pos (by rw [nI_le_i (by omega) (by omega)]; exact hw)]
      unfold f_X9_readsLand_b184 f_X9_readsLand_b194
      rw [if_neg hnl]
  · refine bad n hn (nI C) (nI W) (nI R) k r l k' ?_ ?_
    · rw [hG, if_neg hrn, if_neg (by rw [nI_le_i (by omega) (by omega)]; exact hw)]; rfl
    · rw [hM, if_neg hrn, if_neg (by rw [nI_le_i (by omega) (by omega)]; exact hw)]; rfl
/-- the land out of the relation -/
theorem RLand.use {n : Nat} (hn : n ≤ 41) {bt mbt : Nat → Int32} (hb : ∀ k, k < n → mbt k = bt k) {flaw cells cols rows : Int32} {kinds rowAt colAt ways beside : Nat → Int32} (h : RLand (nI n) bt flaw cells cols rows kinds rowAt colAt ways beside) :
    ∃ C W R : Nat, cells = nI C ∧ cols = nI W ∧ rows = nI R ∧ LandOK C W R kinds rowAt colAt ways beside ∧ ∀ (mc0 mw0 : Int32) (typed mcell0 : Nat → Int32), typed 0 = nI n → ∃ mcell, f_X9_readsLand mc0 mw0 mbt typed mcell0 = some (flaw, cells, cols, mcell) ∧ ∀ c, c < C → mcell c = kinds c := by
  obtain ⟨f0, c0, w0, r0, k0, ra0, ca0, wy0, be0, hx⟩ := h
  obtain ⟨fl, C, W, R, k, r, l, wy, be, mc, p1, p2, -, -⟩ := land_both n hn bt mbt hb f0 c0 w0 r0 k0 ra0 ca0 wy0 be0 0 0 (fun _ => nI n) (fun _ => 0) rfl
  have e := Option.some.inj (p1.symm.trans hx)
  simp only [Prod.mk.injEq] at e
  obtain ⟨e1, e2, e3, e4, e5, e6, e7, e8, e9⟩ := e
  refine ⟨C, W, R, e2.symm, e3.symm, e4.symm, by rw [← e5, ← e6, ← e7, ← e8, ← e9]; exact p2, fun mc0 mw0 typed mcell0 ht => ?_⟩
  obtain ⟨fl', C', W', R', k', r', l', wy', be', mc', q1, q2, q3, q4⟩ := land_both n hn bt mbt hb f0 c0 w0 r0 k0 ra0 ca0 wy0 be0 mc0 mw0 typed mcell0 ht
  have e := Option.some.inj (q1.symm.trans hx)
  simp only [Prod.mk.injEq] at e
  obtain ⟨d1, d2, d3, d4, d5, d6, d7, d8, d9⟩ := e
  refine ⟨mc', by rw [q3, d1, d2, d3], fun c hc => ?_⟩
  have hCC : C' = C := by
    have := p2.2.2.1
    have b1 := q2.1
    have b2 := q2.2.1
    have b3 := q2.2.2.1
    have b4 := p2.1
    have b5 := p2.2.1
    have m1 : R * W ≤ 6 * 6 := Nat.mul_le_mul b5 b4
    have m2 : R' * W' ≤ 6 * 6 := Nat.mul_le_mul b2 b1
    have q := d2.trans e2.symm
    rw [nI_eq_i (by omega) (by omega)] at q
    exact q
  rw [q4 c (by omega), d5]
theorem RLand.mk {n : Nat} (hn : n ≤ 41) (bt : Nat → Int32) (f0 c0 w0 r0 : Int32) (k0 ra0 ca0 wy0 be0 : Nat → Int32) : ∃ flaw cells cols rows kinds rowAt colAt ways beside, f_X3_understand 41 f0 c0 w0 r0 k0 ra0 ca0 wy0 be0 (nI n) bt = some (flaw, cells, cols, rows, kinds, rowAt, colAt, ways, beside) := by
  obtain ⟨fl, C, W, R, k, r, l, wy, be, mc, p1, -⟩ := land_both n hn bt bt (fun _ _ => rfl) f0 c0 w0 r0 k0 ra0 ca0 wy0 be0 0 0 (fun _ => nI n) (fun _ => 0) rfl
  exact ⟨_, _, _, _, _, _, _, _, _, p1⟩
