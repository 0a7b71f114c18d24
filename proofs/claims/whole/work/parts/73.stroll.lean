theorem mul6 (n x : Nat) : nI n * (6 : Int32) + nI x = nI (6 * n + x) := by rw [Int32.mul_comm, show (6 : Int32) * nI n = nI (6 * n) from pk_mul 6 n]; exact nI_add _ _
theorem mul25 (n x : Nat) : nI n * (25 : Int32) + nI x = nI (25 * n + x) := by rw [Int32.mul_comm, show (25 : Int32) * nI n = nI (25 * n) from pk_mul 25 n]; exact nI_add _ _
theorem inherit_eq {W R n : Nat} (hW : W ≤ 6) (hR : R ≤ 6) (hn : n < 10) (lines : Nat → Int32) :
    ∃ li, f_X7_inheritLine (nI W) (nI R) lines (nI n) = some li ∧ (∀ x, x < W → li (6 * n + x) = if n = 0 then nI (R / 2) else lines (6 * (n - 1) + x)) ∧ ∀ j, (j < 6 * n ∨ 6 * n + 6 ≤ j) → li j = lines j := by
  have X : ∃ z, loopF (fun q : Int32 × (Nat → Int32) => f_X7_inheritLine_L2 (nI W) (nI R) (nI n) q.1 q.2) FU (0, lines) = some z ∧ ((∀ x, x < W → z (6 * n + x) = if n = 0 then nI (R / 2) else lines (6 * (n - 1) + x)) ∧ ∀ j, (j < 6 * n ∨ 6 * n + 6 ≤ j) → z j = lines j) := by
    refine loopF_run (fun (m : Nat) (q : Int32 × (Nat → Int32)) => ∃ k : Nat, k + m = W ∧ q.1 = nI k ∧ (∀ x, x < k → q.2 (6 * n + x) = if n = 0 then nI (R / 2) else lines (6 * (n - 1) + x)) ∧ ∀ j, (j < 6 * n ∨ 6 * n + 6 ≤ j) → q.2 j = lines j) (fun z : Nat → Int32 => (∀ x, x < W → z (6 * n + x) = if n = 0 then nI (R / 2) else lines (6 * (n - 1) + x)) ∧ ∀ j, (j < 6 * n ∨ 6 * n + 6 ≤ j) → z j = lines j) ?_ FU W (0, lines) ⟨0, by omega, rfl, fun x hx => absurd hx (Nat.not_lt_zero _), fun _ _ => rfl⟩ (Nat.lt_trans (by omega) FU_big)
    rintro m ⟨q1, q2⟩ ⟨k, hk, e1, e2, e3⟩
    dsimp only at e1 e2 e3
    subst e1
    show (∃ x, f_X7_inheritLine_L2 (nI W) (nI R) (nI n) (nI k) q2 = some (.inr x) ∧ _) ∨ (∃ q' m', m' < m ∧ f_X7_inheritLine_L2 (nI W) (nI R) (nI n) (nI k) q2 = some (.inl q') ∧ _)
    unfold f_X7_inheritLine_L2 f_X7_inheritLine_b50L2
    by_cases h : W ≤ k
    · exact Or.inl ⟨q2, by rw [if_pos (by rw [nI_le_i (by omega) (by omega)]; exact h)], fun x hx => e2 x (by omega), e3⟩
    · right
      refine ⟨(nI (k + 1), upd q2 (6 * n + k) (if n = 0 then nI (R / 2) else lines (6 * (n - 1) + k))), m - 1, by omega, ?_, k + 1, by omega, rfl, fun x hx => ?_, fun j hj => ?_⟩
      · rw [if_neg (by rw [nI_le_i (by omega) (by omega)]; exact h), letv_def, mul6, show nI k + 1 = nI (k + 1) from nI_1 k]
        by_cases h0 : n = 0
        · subst h0
          rw [if_pos (by decide), gd_t (inb_n (by omega) (by omega)), tnN (by omega), if_pos rfl, show nI R / 2 = nI (R / 2) from pk_div (d := 2) (by omega) (by omega) (by omega)]
        · rw [if_neg (nI_nle (by omega) (by omega)), show nI (6 * n + k) - 6 = nI (6 * n + k - 6) from pk_sub (b := 6) (by omega), gd_t (inb_n (by omega) (by omega)), gd_t (inb_n (by omega) (by omega)), tnN (by omega), tnN (by omega), if_neg h0, show 6 * n + k - 6 = 6 * (n - 1) + k by omega, e3 _ (Or.inl (by omega))]
      · dsimp only
        by_cases hx2 : x = k
        · rw [hx2, upd_at]
        · rw [upd_ne _ _ (by omega)]; exact e2 x (by omega)
      · dsimp only
        rw [upd_ne _ _ (by omega)]; exact e3 j hj
  obtain ⟨z, h1, h2, h3⟩ := X
  exact ⟨z, by unfold f_X7_inheritLine; rw [h1]; rfl, h2, h3⟩
def firstF (W R : Nat) (kinds : Nat → Int32) (a : Nat) : List Nat := if a < R ∧ ¬ kinds (a * W) = 1 then [a * W] else []
theorem first_lt {C W R a : Nat} (hC : C = R * W) (hR : R = 0 ↔ W = 0) (h : a < R) : a * W < C := by
  have hW : 0 < W := by
    rcases Nat.eq_zero_or_pos W with q | q
    · exact absurd (hR.mpr q) (by omega)
    · exact q
  rw [hC]
  exact Nat.mul_lt_mul_of_pos_right h hW
theorem firstF_ok {C W R : Nat} (kinds : Nat → Int32) (a : Nat) (hC : C = R * W) (hR : R = 0 ↔ W = 0) : FOK C (firstF W R kinds a) := by
  unfold firstF
  by_cases h : a < R ∧ ¬ kinds (a * W) = 1
  · rw [if_pos h]; exact Or.inr ⟨_, first_lt hC hR h.1, rfl⟩
  · rw [if_neg h]; exact Or.inl rfl
theorem firstCell_eq {C W R a : Nat} {kinds : Nat → Int32} (hC : C = R * W) (hC2 : C ≤ 36) (hR6 : R ≤ 6) (hW6 : W ≤ 6) (hR : R = 0 ↔ W = 0) (ha : a ≤ 5) : (f_X7_firstCell (nI W) (nI R) kinds (nI a) = some (-1) ∧ firstF W R kinds a = []) ∨ (∃ f, f < C ∧ f_X7_firstCell (nI W) (nI R) kinds (nI a) = some (nI f) ∧ firstF W R kinds a = [f]) := by
  unfold f_X7_firstCell firstF
  by_cases h : a < R
  · have hlt := first_lt hC hR h
    rw [if_pos (by rw [nI_lt_i (by omega) (by omega)]; exact h), letv_def, show nI a * nI W = nI (a * W) from pk_mul a W, gd_t (inb_n (by omega) (by omega)), tnN (by omega)]
    by_cases hk : kinds (a * W) = 1
    · rw [if_pos hk, if_neg (fun q => q.2 hk)]; exact Or.inl ⟨rfl, rfl⟩
    · rw [if_neg hk, if_pos ⟨h, hk⟩]; exact Or.inr ⟨a * W, hlt, rfl, rfl⟩
  · rw [if_neg (by rw [nI_lt_i (by omega) (by omega)]; exact h), if_neg (fun q => h q.1)]; exact Or.inl ⟨rfl, rfl⟩
/-- what a night's walk leaves behind in the class's rows -/
def Strolled (W n : Nat) (Z : List Nat) (base : Nat → Int32) (track gone lines tr go li : Nat → Int32) : Prop :=
  Path (25 * n) tr Z ∧ (Z = [] → tr (25 * n) = -1) ∧ go n = nI (Z.length - 1) ∧ (∀ x, x < W → li (6 * n + x) = lineF W base Z x) ∧ (∀ j, (j < 25 * n ∨ 25 * n + 25 ≤ j) → tr j = track j) ∧ (∀ j, j ≠ n → go j = gone j) ∧ ∀ j, (j < 6 * n ∨ 6 * n + 6 ≤ j) → li j = lines j
abbrev SX : Type := Int64 × (Nat → Int32) × (Nat → Int32) × (Nat → Int32)
def SEnd (W n : Nat) (Z : List Nat) (base : Nat → Int32) (track gone lines : Nat → Int32) (x : SX ⊕ (SX ⊕ SX)) : Prop :=
  ∃ tr go li, (x = .inl (bitsOf Z, tr, go, li) ∨ x = .inr (.inl (bitsOf Z, tr, go, li)) ∨ x = .inr (.inr (bitsOf Z, tr, go, li))) ∧ Strolled W n Z base track gone lines tr go li
def SMid (W n : Nat) (l : List Nat) (base : Nat → Int32) (track gone lines tr go li : Nat → Int32) : Prop :=
  Path (25 * n) tr l ∧ (l ≠ [] → go n = nI (l.length - 1)) ∧ (∀ x, x < W → li (6 * n + x) = lineF W base l x) ∧ (∀ j, (j < 25 * n ∨ 25 * n + 25 ≤ j) → tr j = track j) ∧ (∀ j, j ≠ n → go j = gone j) ∧ ∀ j, (j < 6 * n ∨ 6 * n + 6 ≤ j) → li j = lines j
theorem SMid.done {W n : Nat} {l : List Nat} {base track gone lines tr go li : Nat → Int32} (h : SMid W n l base track gone lines tr go li) (h0 : l ≠ []) : Strolled W n l base track gone lines tr go li :=
  ⟨h.1, fun q => absurd q h0, h.2.1 h0, h.2.2.1, h.2.2.2.1, h.2.2.2.2.1, h.2.2.2.2.2⟩
theorem SMid.put {W n c : Nat} {l : List Nat} {base track gone lines tr go li : Nat → Int32} (hW : W ≤ 6) (hc : c % W < W) (hl : l.length ≤ 24) (h : SMid W n l base track gone lines tr go li) :
    SMid W n (c :: l) base track gone lines (upd tr (25 * n + l.length) (nI c)) (upd go n (nI l.length)) (upd li (6 * n + c % W) (nI (c / W))) := by
  obtain ⟨h1, h2, h3, h4, h5, h6⟩ := h
  refine ⟨h1.put c, fun _ => ?_, fun x hx => ?_, fun j hj => ?_, fun j hj => ?_, fun j hj => ?_⟩
  · rw [upd_at, List.length_cons, Nat.add_sub_cancel]
  · show _ = (if x = c % W then nI (c / W) else lineF W base l x)
    by_cases e : x = c % W
    · rw [if_pos e, e, upd_at]
    · rw [if_neg e, upd_ne _ _ (by omega)]; exact h3 x hx
  · rw [upd_ne _ _ (by omega)]; exact h4 j hj
  · rw [upd_ne _ _ hj]; exact h5 j hj
  · rw [upd_ne _ _ (by omega)]; exact h6 j hj
theorem nbs_len (W C : Nat) (kinds : Nat → Int32) (c : Nat) : (nbs W C kinds c).length ≤ 4 := by
  unfold nbs
  rw [List.length_append, List.length_append, List.length_append]
  have l1 := len_one (a := c % W + 1 < W ∧ ¬ kinds (c + 1) = 1) (c + 1)
  have l2 := len_one (a := c + W < C ∧ ¬ kinds (c + W) = 1) (c + W)
  have l3 := len_one (a := W ≤ c ∧ ¬ kinds (c - W) = 1) (c - W)
  have l4 := len_one (a := 0 < c % W ∧ ¬ kinds (c - 1) = 1) (c - 1)
  omega
set_option maxHeartbeats 1000000 in
theorem stroll_loop {C W R : Nat} {kinds rowAt colAt ways beside : Nat → Int32} (hL : LandOK C W R kinds rowAt colAt ways beside) {n f : Nat} (hn : n < 10) (hf : f < C) (st fr base track gone lines : Nat → Int32) (hb : ∀ x, x < W → lines (6 * n + x) = base x) :
    ∃ x, loopF (fun q : Int32 × Int32 × Int64 × Int32 × (Nat → Int32) × (Nat → Int32) × (Nat → Int32) => f_X7_stroll_L30 (nI W) rowAt colAt ways beside st fr (nI n) q.1 q.2.1 q.2.2.1 q.2.2.2.1 q.2.2.2.2.1 q.2.2.2.2.2.1 q.2.2.2.2.2.2) FU (nI f, -1, 0, 0, track, gone, lines) = some x ∧ SEnd W n (walkF W C kinds st fr 24 [f]) base track gone lines x := by
  have hC2 := hL.c36
  obtain ⟨hW6, hR6, hC, hRW, hcell⟩ := hL
  refine loopF_run (fun (m : Nat) (q : Int32 × Int32 × Int64 × Int32 × (Nat → Int32) × (Nat → Int32) × (Nat → Int32)) => ∃ (l : List Nat) (tr go li : Nat → Int32), l.length + m = 25 ∧ (∀ d ∈ l, d < C) ∧ SMid W n l base track gone lines tr go li ∧ ((∃ c, c < C ∧ m ≠ 0 ∧ walkF W C kinds st fr (24 - l.length) (c :: l) = walkF W C kinds st fr 24 [f] ∧ q = (nI c, fromOf (c :: l), bitsOf l, nI l.length, tr, go, li)) ∨ (m = 0 ∧ l = walkF W C kinds st fr 24 [f] ∧ ∃ a b, q = (a, b, bitsOf l, nI l.length, tr, go, li)))) (SEnd W n (walkF W C kinds st fr 24 [f]) base track gone lines) ?_ FU 25 _ ⟨[], track, gone, lines, rfl, fun d hd => absurd hd (List.not_mem_nil), ⟨trivial, fun q => absurd rfl q, hb, fun _ _ => rfl, fun _ _ => rfl, fun _ _ => rfl⟩, Or.inl ⟨f, hf, by omega, rfl, rfl⟩⟩ (Nat.lt_trans (by omega) FU_big)
  rintro m q ⟨l, tr, go, li, hm, hl, hM, ⟨c, hc, hm0, hZ, rfl⟩ | ⟨hm0, hZ, a, b, rfl⟩⟩
  · show (∃ x, f_X7_stroll_L30 (nI W) rowAt colAt ways beside st fr (nI n) (nI c) (fromOf (c :: l)) (bitsOf l) (nI l.length) tr go li = some (.inr x) ∧ _) ∨ (∃ q' m', m' < m ∧ f_X7_stroll_L30 (nI W) rowAt colAt ways beside st fr (nI n) (nI c) (fromOf (c :: l)) (bitsOf l) (nI l.length) tr go li = some (.inl q') ∧ _)
    obtain ⟨-, hrow, hcol, hway⟩ := hcell c hc
    obtain ⟨k1, k2, k3⟩ := cell_next (W := W) (R := R) (c := c) (by omega)
    have hWpos : 0 < W := by
      rcases Nat.eq_zero_or_pos W with q | q
      · subst q; omega
      · exact q
    have hcm : c % W < W := Nat.mod_lt _ hWpos
    have hP := SMid.put (c := c) hW6 hcm (by omega) hM
    have hl2 : ∀ d ∈ c :: l, d < C := fun d hd => by
      rcases List.mem_cons.mp hd with e | e
      · omega
      · exact hl d e
    have X : f_X7_stroll_L30 (nI W) rowAt colAt ways beside st fr (nI n) (nI c) (fromOf (c :: l)) (bitsOf l) (nI l.length) tr go li = (if (nI W - (1 : Int32)) ≤ nI (c % W) then (f_X7_stroll_b135L30 (nI W) rowAt colAt ways beside st fr (upd tr (25 * n + l.length) (nI c)) (upd go n (nI l.length)) (upd li (6 * n + c % W) (nI (c / W))) (nI n) (nI c) (bitsOf (c :: l)) (nI l.length) (-1 : Int32)) else (bind1 (f_X7_choose ways beside st fr (nI c) (fromOf (c :: l)) (bitsOf (c :: l))) (fun r4 => f_X7_stroll_b135L30 (nI W) rowAt colAt ways beside st fr (upd tr (25 * n + l.length) (nI c)) (upd go n (nI l.length)) (upd li (6 * n + c % W) (nI (c / W))) (nI n) (nI c) (bitsOf (c :: l)) (nI l.length) r4))) := by
      unfold f_X7_stroll_L30
      rw [if_neg (by rw [show (24 : Int32) = nI 24 from rfl, nI_lt_i (by omega) (by omega)]; omega), mul25, gd_t (inb_n (by omega) (by omega)), gd_t (inb_n hn (by omega)), if_neg (nI_neg1 (by omega)), letv_def, gd_t (inb_n (by omega) (by omega)), gd_t (inb_n (by omega) (by omega)), letv_def, tnN (show c < 2147483648 by omega), hcol, hrow, mul6, gd_t (inb_n (by omega) (by omega)), gd_t (inb_n (by omega) (by omega)), tnN (show n < 2147483648 by omega), tnN (show 25 * n + l.length < 2147483648 by omega), tnN (show 6 * n + c % W < 2147483648 by omega)]
      rfl
    have hsub : nI W - 1 = nI (W - 1) := nI_sub1 hWpos
    have stop : f_X7_stroll_L30 (nI W) rowAt colAt ways beside st fr (nI n) (nI c) (fromOf (c :: l)) (bitsOf l) (nI l.length) tr go li = some (.inr (.inr (.inl (bitsOf (c :: l), upd tr (25 * n + l.length) (nI c), upd go n (nI l.length), upd li (6 * n + c % W) (nI (c / W)))))) → c :: l = walkF W C kinds st fr 24 [f] → ∃ x, f_X7_stroll_L30 (nI W) rowAt colAt ways beside st fr (nI n) (nI c) (fromOf (c :: l)) (bitsOf l) (nI l.length) tr go li = some (.inr x) ∧ SEnd W n (walkF W C kinds st fr 24 [f]) base track gone lines x := by
      intro h1 h2
      refine ⟨_, h1, _, _, _, Or.inr (Or.inl (by rw [← h2])), ?_⟩
      rw [← h2]
      exact hP.done (List.cons_ne_nil _ _)
    by_cases hedge : c % W + 1 < W
    · rw [if_neg (by rw [hsub, nI_le_i (by omega) (by omega)]; omega), choose_eq (by omega) (nbs W C kinds c) (nbs_len ..) (fun t ht => by have := nbs_lt hC hc ht; omega) hway (c :: l) (fun d hd => by have := hl2 d hd; omega) st fr (fromOf (c :: l)), bind1_def] at X
      have hnx : sel (wv st fr (c :: l)) (fromOf (c :: l)) (nbs W C kinds c) = nxt W C kinds st fr (c :: l) := rfl
      rw [hnx] at X
      unfold f_X7_stroll_b135L30 at X
      rcases nxt_cases hC kinds st fr (List.cons_ne_nil c l) hl2 with e | ⟨t, ht, e⟩
      · left
        rw [if_pos e] at X
        refine stop X ?_
        by_cases h24 : l.length = 24
        · rw [h24] at hZ; exact hZ
        · rw [show 24 - l.length = (24 - l.length - 1) + 1 by omega] at hZ
          unfold walkF at hZ
          rw [List.headD_cons, if_pos hedge, if_pos e] at hZ
          exact hZ
      · right
        rw [e, if_neg (nI_neg1 (by omega)), show nI l.length + 1 = nI (l.length + 1) from nI_1 _] at X
        refine ⟨_, m - 1, by omega, X, c :: l, _, _, _, by rw [List.length_cons]; omega, hl2, hP, ?_⟩
        by_cases h24 : l.length = 24
        · refine Or.inr ⟨by omega, ?_, nI t, nI c, rfl⟩
          rw [h24] at hZ; exact hZ
        · refine Or.inl ⟨t, ht, by omega, ?_, rfl⟩
          rw [show 24 - l.length = (24 - l.length - 1) + 1 by omega] at hZ
          unfold walkF at hZ
          rw [List.headD_cons, if_pos hedge, e, if_neg (nI_neg1 (by omega)), tnN (by omega)] at hZ
          rw [List.length_cons, show 24 - (l.length + 1) = 24 - l.length - 1 by omega]
          exact hZ
    · left
      rw [if_pos (by rw [hsub, nI_le_i (by omega) (by omega)]; omega)] at X
      unfold f_X7_stroll_b135L30 at X
      rw [if_pos rfl] at X
      refine stop X ?_
      by_cases h24 : l.length = 24
      · rw [h24] at hZ; exact hZ
      · rw [show 24 - l.length = (24 - l.length - 1) + 1 by omega] at hZ
        unfold walkF at hZ
        rw [List.headD_cons, if_neg hedge] at hZ
        exact hZ
  · left
    show ∃ x, f_X7_stroll_L30 (nI W) rowAt colAt ways beside st fr (nI n) a b (bitsOf l) (nI l.length) tr go li = some (.inr x) ∧ _
    unfold f_X7_stroll_L30
    refine ⟨_, by rw [if_pos (by rw [show (24 : Int32) = nI 24 from rfl, nI_lt_i (by omega) (by omega)]; omega)], tr, go, li, Or.inr (Or.inr (by rw [← hZ])), ?_⟩
    rw [← hZ]
    exact hM.done (by intro q; rw [q] at hm; simp at hm; omega)
theorem stroll_eq {C W R : Nat} {kinds rowAt colAt ways beside : Nat → Int32} (hL : LandOK C W R kinds rowAt colAt ways beside) {n a f : Nat} (hn : n < 10) (ha : a ≤ 5) (hf : f ≤ 10) (st fr base track gone : Nat → Int32) (trodden : Nat → Int64) (lines : Nat → Int32) (hb : ∀ x, x < W → base x = if n = 0 then nI (R / 2) else lines (6 * (n - 1) + x)) :
    ∃ tr go li, f_X7_stroll (nI W) (nI R) kinds rowAt colAt ways beside (nI a) (nI f) st fr track gone trodden lines (nI n) = some (tr, go, vp_updL trodden n (bitsOf (night1 W C kinds (firstF W R kinds a) (n < f) st fr)), li) ∧ Strolled W n (night1 W C kinds (firstF W R kinds a) (n < f) st fr) base track gone lines tr go li := by
  have hC2 := hL.c36
  obtain ⟨hW6, hR6, hC, hRW, hcell⟩ := id hL
  obtain ⟨l1, i1, i2, i3⟩ := inherit_eq hW6 hR6 hn lines
  have hb1 : ∀ x, x < W → l1 (6 * n + x) = base x := fun x hx => by rw [i2 x hx, hb x hx]
  have none : ∀ Z, Z = [] → ∃ tr go li, f_X7_stroll_b21 (nI W) (nI R) kinds rowAt colAt ways beside (nI a) (nI f) st fr track gone trodden l1 (nI n) (-1) = some (tr, go, vp_updL trodden n (bitsOf Z), li) ∧ Strolled W n Z base track gone lines tr go li := by
    intro Z hZ
    subst hZ
    refine ⟨upd track (25 * n) (-1), upd gone n 0, l1, ?_, trivial, fun _ => upd_at _ _ _, upd_at _ _ _, fun x hx => hb1 x hx, fun j hj => upd_ne _ _ (by omega), fun j hj => upd_ne _ _ hj, i3⟩
    unfold f_X7_stroll_b21
    have hl : loopF (fun q : Int32 × Int32 × Int64 × Int32 × (Nat → Int32) × (Nat → Int32) × (Nat → Int32) => f_X7_stroll_L30 (nI W) rowAt colAt ways beside st fr (nI n) q.1 q.2.1 q.2.2.1 q.2.2.2.1 q.2.2.2.2.1 q.2.2.2.2.2.1 q.2.2.2.2.2.2) FU (-1, -1, 0, 0, track, gone, l1) = some (.inl (0, upd track (25 * n) (-1), upd gone n 0, l1)) := by
      show loopF _ (4095 + 1) _ = _
      refine loopF_end ?_
      show f_X7_stroll_L30 (nI W) rowAt colAt ways beside st fr (nI n) (-1) (-1) 0 0 track gone l1 = _
      unfold f_X7_stroll_L30
      rw [if_neg (by decide), show nI n * (25 : Int32) + 0 = nI (25 * n) from mul25 n 0, gd_t (inb_n (by omega) (by omega)), gd_t (inb_n hn (by omega)), if_pos rfl, tnN (by omega), tnN (by omega)]
    rw [hl, bindS3_1]
    unfold unc4 f_X7_stroll_b157
    dsimp only
    rw [gd_t (inb_n hn (by omega)), tnN (by omega)]; rfl
  unfold f_X7_stroll
  rw [i1, bind1_def]
  by_cases hfz : f ≤ n
  · rw [if_pos (by rw [nI_le_i (by omega) (by omega)]; exact hfz)]
    exact none _ (by unfold night1; rw [if_neg (by omega)])
  · rw [if_neg (by rw [nI_le_i (by omega) (by omega)]; exact hfz)]
    rcases firstCell_eq (kinds := kinds) hC hC2 hR6 hW6 hRW ha with ⟨e1, e2⟩ | ⟨fc, hfc, e1, e2⟩
    · rw [e1, bind1_def]
      exact none _ (by unfold night1; rw [if_pos (by omega), if_pos e2])
    · rw [e1, bind1_def]
      have hZ : night1 W C kinds (firstF W R kinds a) (n < f) st fr = walkF W C kinds st fr 24 [fc] := by
        unfold night1; rw [if_pos (by omega), e2, if_neg (List.cons_ne_nil _ _)]
      rw [hZ]
      obtain ⟨x, hx, tr, go, li, hx2, hS⟩ := stroll_loop hL hn hfc st fr base track gone l1 hb1
      refine ⟨tr, go, li, ?_, ⟨hS.1, hS.2.1, hS.2.2.1, hS.2.2.2.1, hS.2.2.2.2.1, hS.2.2.2.2.2.1, fun j hj => (hS.2.2.2.2.2.2 j hj).trans (i3 j hj)⟩⟩
      unfold f_X7_stroll_b21
      rw [hx]
      rcases hx2 with rfl | rfl | rfl
      · rw [bindS3_1]
        unfold unc4 f_X7_stroll_b157
        dsimp only
        rw [gd_t (inb_n hn (by omega)), tnN (by omega)]
      · rw [bindS3_2]
        unfold unc4 f_X7_stroll_b157
        dsimp only
        rw [gd_t (inb_n hn (by omega)), tnN (by omega)]
      · rw [bindS3_3]
        unfold unc4 f_X7_stroll_b157
        dsimp only
        rw [gd_t (inb_n hn (by omega)), tnN (by omega)]
