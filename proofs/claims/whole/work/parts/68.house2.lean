/-- the houses as the class holds them, n of them -/
def HouseOK (n : Nat) (places dues : Nat → Int32) : Prop := n ≤ 8 ∧ ∀ h, h < n → (∃ p : Nat, p ≤ 39 ∧ places h = nI p) ∧ ∃ d : Nat, d ≤ 9 ∧ dues h = nI d
theorem hfill (N : Nat) (hN : 4 * N ≤ 32) (bt p0 d0 : Nat → Int32) :
    ∃ z, loopF (fun q : Int32 × Int32 × (Nat → Int32) × (Nat → Int32) => f_X1_understand_L33 31 bt (nI N) q.1 q.2.1 q.2.2.1 q.2.2.2) FU (0, 0, p0, d0) = some z ∧ z.1 = nI N ∧ ∀ h, h < N → z.2.1 h = hplace bt h ∧ z.2.2 h = hdue bt h := by
  refine loopF_run (fun (m : Nat) (q : Int32 × Int32 × (Nat → Int32) × (Nat → Int32)) => ∃ k : Nat, k + m = N ∧ q.1 = nI k ∧ q.2.1 = nI k ∧ ∀ h, h < k → q.2.2.1 h = hplace bt h ∧ q.2.2.2 h = hdue bt h) (fun z : Int32 × (Nat → Int32) × (Nat → Int32) => z.1 = nI N ∧ ∀ h, h < N → z.2.1 h = hplace bt h ∧ z.2.2 h = hdue bt h) ?_ FU N (0, 0, p0, d0) ⟨0, by omega, rfl, rfl, fun c hc => absurd hc (Nat.not_lt_zero _)⟩ (Nat.lt_trans (by omega) FU_big)
  rintro m ⟨q1, q2, q3, q4⟩ ⟨k, hk, e1, e2, hq⟩
  dsimp only at e1 e2 hq
  subst e1 e2
  show (∃ x, f_X1_understand_L33 31 bt (nI N) (nI k) (nI k) q3 q4 = some (.inr x) ∧ _) ∨ (∃ q' m', m' < m ∧ f_X1_understand_L33 31 bt (nI N) (nI k) (nI k) q3 q4 = some (.inl q') ∧ _)
  unfold f_X1_understand_L33
  by_cases h : N ≤ k
  · have e : k = N := by omega
    exact Or.inl ⟨(nI k, q3, q4), by rw [if_pos (by rw [nI_le_i (by omega) (by omega)]; exact h)], by rw [e], fun c hc => hq c (by omega)⟩
  · right
    have a1 : nI k * (4 : Int32) = nI (4 * k) := by rw [Int32.mul_comm]; exact pk_mul 4 k
    refine ⟨(nI (k + 1), nI (k + 1), upd q3 k (hplace bt k), upd q4 k (hdue bt k)), m - 1, by omega, ?_, k + 1, by omega, rfl, rfl, fun c hc => ?_⟩
    · rw [if_neg (by rw [nI_le_i (by omega) (by omega)]; exact h), if_neg (by rw [show (8 : Int32) = nI 8 from rfl, nI_le_i (by omega) (by omega)]; omega), letv_def, a1, show nI (4 * k) + 1 = nI (4 * k + 1) from nI_1 _, show nI (4 * k) + 2 = nI (4 * k + 2) from nI_add _ 2, gd_t (inb_n (by omega) (by omega)), gd_t (inb_n (by omega) (by omega)), letv_def, gd_t (inb_n (by omega) (by omega)), gd_t (inb_n (by omega) (by omega)), letv_def, gd_t (inb_n (by omega) (by omega)), letv_def, tnN (by omega), tnN (by omega), tnN (by omega), tnN (by omega), show nI k + 1 = nI (k + 1) from nI_1 k]
      unfold hplace hdue
      rw [Int32.sub_eq_add_neg (a := (10 : Int32) * (bt (4 * k) - 48) + bt (4 * k + 1)), Int32.add_assoc, ← Int32.sub_eq_add_neg]
    · dsimp only
      by_cases hck : c = k
      · rw [hck, upd_at, upd_at]; exact ⟨rfl, rfl⟩
      · rw [upd_ne _ _ hck, upd_ne _ _ hck]; exact hq c (by omega)
theorem house_both (n : Nat) (hn : n ≤ 31) (bt mbt : Nat → Int32) (hb : ∀ k, k < n → mbt (42 + k) = bt k) (f0 n0 : Int32) (p0 d0 : Nat → Int32) (mh0 : Int32) (typed mhouse0 : Nat → Int32) (ht : typed 1 = nI n) :
    ∃ (flaw : Int32) (N : Nat) (places dues mhouse : Nat → Int32), f_X1_understand 31 f0 n0 p0 d0 (nI n) bt = some (flaw, nI N, places, dues) ∧ HouseOK N places dues ∧ f_X9_readsHouses mh0 mbt typed mhouse0 = some (flaw, nI N, mhouse) ∧ ∀ h, h < N → mhouse (2 * h) = places h ∧ mhouse (2 * h + 1) = dues h := by
  obtain ⟨x, y, hx, hy, hz⟩ := house_loops n hn bt mbt hb mhouse0
  have bad : ∀ (f : Nat), f ≤ 31 → f_X1_findFlaw 31 (nI n) bt = some (nI f) → ∀ mh, f_X9_readsHouses mh0 mbt typed mhouse0 = some (nI f, 0, mh) → ∃ (flaw : Int32) (N : Nat) (places dues mhouse : Nat → Int32), f_X1_understand 31 f0 n0 p0 d0 (nI n) bt = some (flaw, nI N, places, dues) ∧ HouseOK N places dues ∧ f_X9_readsHouses mh0 mbt typed mhouse0 = some (flaw, nI N, mhouse) ∧ ∀ h, h < N → mhouse (2 * h) = places h ∧ mhouse (2 * h + 1) = dues h := by
    intro f hf h1 mh h2
    refine ⟨nI f, 0, p0, d0, mh, ?_, ⟨by omega, fun h hh => absurd hh (Nat.not_lt_zero _)⟩, h2, fun h hh => absurd hh (Nat.not_lt_zero _)⟩
    unfold f_X1_understand
    rw [h1, bind1_def, if_neg (nI_neg1 (by omega))]; rfl
  have hM : f_X9_readsHouses mh0 mbt typed mhouse0 = bindS (some y) (unc3 (fun u10 u11 u12 => some (u10, (0 : Int32), u12))) (unc2 (fun u13 u14 => if nI n ≤ 0 then (some ((-1 : Int32), u13, u14)) else (if (nI n - nI n / (4 : Int32) * (4 : Int32)) = (3 : Int32) then (some ((-1 : Int32), u13, u14)) else (some (nI n, (0 : Int32), u14))))) := by
    unfold f_X9_readsHouses; rw [tn_1, ht, letv_def, hy]
  have hX : f_X1_findFlaw 31 (nI n) bt = bindS (some x) (fun u2 => some u2) (fun _ => if nI n = 0 then (some (-1)) else (if (nI n - nI n / (4 : Int32) * (4 : Int32)) = (3 : Int32) then (some (-1)) else some (nI n))) := by
    unfold f_X1_findFlaw; rw [hx]; rfl
  rcases hz with ⟨i, a, k, hi, rfl, rfl⟩ | ⟨k, hH, hok, rfl, rfl⟩
  · exact bad i (by omega) (by rw [hX]; rfl) k (by rw [hM]; rfl)
  rw [bindS_r, rem4 (by omega)] at hX
  rw [bindS_r, rem4 (by omega)] at hM
  have good : f_X1_findFlaw 31 (nI n) bt = some (-1) → f_X9_readsHouses mh0 mbt typed mhouse0 = some (-1, nI ((n + 1) / 4), k) → (n = 0 ∨ n % 4 = 3) → ∃ (flaw : Int32) (N : Nat) (places dues mhouse : Nat → Int32), f_X1_understand 31 f0 n0 p0 d0 (nI n) bt = some (flaw, nI N, places, dues) ∧ HouseOK N places dues ∧ f_X9_readsHouses mh0 mbt typed mhouse0 = some (flaw, nI N, mhouse) ∧ ∀ h, h < N → mhouse (2 * h) = places h ∧ mhouse (2 * h + 1) = dues h := by
    intro h1 h2 h3
    obtain ⟨z, z1, z2, z3⟩ := hfill ((n + 1) / 4) (by omega) bt p0 d0
    refine ⟨-1, (n + 1) / 4, z.2.1, z.2.2, k, ?_, ⟨by omega, fun h hh => ?_⟩, h2, fun h hh => ?_⟩
    · unfold f_X1_understand
      rw [h1, bind1_def, if_pos rfl, letv_def, show nI n + 1 = nI (n + 1) from nI_1 n, show nI (n + 1) / 4 = nI ((n + 1) / 4) from pk_div (d := 4) (by omega) (by omega) (by omega), z1]
      obtain ⟨za, zb, zc⟩ := z
      rw [bind3_def]
      dsimp only at z2 ⊢
      rw [z2]
    · obtain ⟨g1, g2⟩ := z3 h hh
      obtain ⟨a, ha, ea⟩ := okb_digit (b := bt (4 * h)) (k := 0) (by omega) (by have := hok (4 * h) (by omega); rwa [show 4 * h % 4 = 0 by omega] at this)
      obtain ⟨b, hb, eb⟩ := okb_digit (b := bt (4 * h + 1)) (k := 1) (by omega) (by have := hok (4 * h + 1) (by omega); rwa [show (4 * h + 1) % 4 = 1 by omega] at this)
      obtain ⟨d, hd, ed⟩ := okb_digit (b := bt (4 * h + 2)) (k := 2) (by omega) (by have := hok (4 * h + 2) (by omega); rwa [show (4 * h + 2) % 4 = 2 by omega] at this)
      rw [if_pos rfl] at ha
      rw [if_neg (by omega)] at hb hd
      refine ⟨⟨10 * a + b, by omega, ?_⟩, d, hd, ?_⟩
      · rw [g1]; unfold hplace; rw [ea, eb, show (10 : Int32) * nI a = nI (10 * a) from pk_mul 10 a]; exact nI_add _ _
      · rw [g2]; unfold hdue; rw [ed]
    · obtain ⟨g1, g2⟩ := z3 h hh
      rw [g1, g2]
      exact ⟨hH.1 h (by omega), hH.2.2 h (by omega)⟩
  by_cases hn0 : n = 0
  · refine good ?_ ?_ (Or.inl hn0)
    · rw [hX, if_pos (by rw [hn0]; rfl)]
    · rw [hM]; unfold unc2; dsimp only; rw [if_pos (by rw [hn0]; decide)]
  have e0 : ¬ nI n = 0 := nI_ne0 (by omega) (by omega)
  have e1 : ¬ nI n ≤ 0 := nI_nle (by omega) (by omega)
  by_cases h3 : n % 4 = 3
  · refine good ?_ ?_ (Or.inr h3)
    · rw [hX, if_neg e0, if_pos (by rw [h3]; rfl)]
    · rw [hM]; unfold unc2; dsimp only; rw [if_neg e1, if_pos (by rw [h3]; rfl)]
  · have e3 : ¬ nI (n % 4) = 3 := by rw [show (3 : Int32) = nI 3 from rfl, nI_eq_i (by omega) (by omega)]; exact h3
    refine bad n hn ?_ k ?_
    · rw [hX, if_neg e0, if_neg e3]
    · rw [hM]; unfold unc2; dsimp only; rw [if_neg e1, if_neg e3]
theorem RHouse.use {n : Nat} (hn : n ≤ 31) {bt mbt : Nat → Int32} (hb : ∀ k, k < n → mbt (42 + k) = bt k) {flaw num : Int32} {places dues : Nat → Int32} (h : RHouse (nI n) bt flaw num places dues) :
    ∃ N : Nat, num = nI N ∧ HouseOK N places dues ∧ ∀ (mh0 : Int32) (typed mhouse0 : Nat → Int32), typed 1 = nI n → ∃ mhouse, f_X9_readsHouses mh0 mbt typed mhouse0 = some (flaw, num, mhouse) ∧ ∀ h, h < N → mhouse (2 * h) = places h ∧ mhouse (2 * h + 1) = dues h := by
  obtain ⟨f0, n0, p0, d0, hx⟩ := h
  obtain ⟨fl, N, p, d, mh, p1, p2, -, -⟩ := house_both n hn bt mbt hb f0 n0 p0 d0 0 (fun _ => nI n) (fun _ => 0) rfl
  have e := Option.some.inj (p1.symm.trans hx)
  simp only [Prod.mk.injEq] at e
  obtain ⟨e1, e2, e3, e4⟩ := e
  refine ⟨N, e2.symm, by rw [← e3, ← e4]; exact p2, fun mh0 typed mhouse0 ht => ?_⟩
  obtain ⟨fl', N', p', d', mh', q1, q2, q3, q4⟩ := house_both n hn bt mbt hb f0 n0 p0 d0 mh0 typed mhouse0 ht
  have e := Option.some.inj (q1.symm.trans hx)
  simp only [Prod.mk.injEq] at e
  obtain ⟨d1, d2, d3, d4⟩ := e
  refine ⟨mh', by rw [q3, d1, d2], fun h hh => ?_⟩
  have hNN : N' = N := by
    have q := d2.trans e2.symm
    have b1 := p2.1
    have b2 := q2.1
    rw [nI_eq_i (by omega) (by omega)] at q
    exact q
  rw [← d3, ← d4]
  exact q4 h (by omega)
theorem RHouse.mk {n : Nat} (hn : n ≤ 31) (bt : Nat → Int32) (f0 n0 : Int32) (p0 d0 : Nat → Int32) : ∃ flaw num places dues, f_X1_understand 31 f0 n0 p0 d0 (nI n) bt = some (flaw, num, places, dues) := by
  obtain ⟨fl, N, p, d, mh, p1, -⟩ := house_both n hn bt (fun k => bt (k - 42)) (fun k _ => by show bt (42 + k - 42) = _; rw [Nat.add_sub_cancel_left]) f0 n0 p0 d0 0 (fun _ => nI n) (fun _ => 0) rfl
  exact ⟨_, _, _, _, p1⟩
