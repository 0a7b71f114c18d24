def oneI : List Nat → Int32
  | [] => -1
  | t :: _ => nI t
theorem edge_mod {W c : Nat} (hW : 0 < W) : ((c + 1) % W = 0) ↔ ¬ (c % W + 1 < W) := by
  have h1 := Nat.div_add_mod c W
  have h2 : (c + 1) % W = (c % W + 1) % W := by
    conv => lhs; rw [show c + 1 = (c % W + 1) + W * (c / W) by omega]
    rw [Nat.add_mul_mod_self_left]
  have h3 := Nat.mod_lt c hW
  rw [h2]
  by_cases h : c % W + 1 < W
  · rw [Nat.mod_eq_of_lt h]; omega
  · rw [show c % W + 1 = W by omega, Nat.mod_self]; omega
theorem edge_test {W c : Nat} (hW : 0 < W) (hW6 : W ≤ 6) (hc : c < 36) : (nI c + (1 : Int32)) - (nI c + 1) / nI W * nI W ≤ 0 ↔ ¬ (c % W + 1 < W) := by
  rw [show nI c + 1 = nI (c + 1) from nI_1 c, pk_rem (by omega) hW (by omega), ← edge_mod hW]
  constructor
  · intro h
    rcases Nat.eq_zero_or_pos ((c + 1) % W) with q | q
    · exact q
    · have := Nat.mod_lt (c + 1) hW
      exact absurd h (nI_nle q (by omega))
  · intro h; rw [h]; decide
theorem nz_n {W : Nat} (hW : 0 < W) (hW6 : W < 2147483648) : nz (nI W) = true := by
  unfold nz
  exact decide_eq_true (nI_ne0 hW (by omega))
theorem beside_end {C W t : Nat} (mc : Nat → Int32) (ht : t < 36) (p : Prop) [Decidable p] (hp : p) : f_X9_beside_b104 (nI C) (nI W) mc (nI t) = some (oneI (if p ∧ ¬ mc t = 1 then [t] else [])) := by
  unfold f_X9_beside_b104
  rw [if_neg (nI_neg1 (by omega)), gd_t (inb_n ht (by omega)), tnN (by omega)]
  by_cases h : mc t = 1
  · rw [if_pos h, if_neg (fun q => q.2 h)]; rfl
  · rw [if_neg h, if_pos ⟨hp, h⟩]; rfl
theorem beside_none (C W : Nat) (mc : Nat → Int32) (t : Nat) (p : Prop) [Decidable p] (hp : ¬ p) : f_X9_beside_b104 (nI C) (nI W) mc (-1) = some (oneI (if p ∧ ¬ mc t = 1 then [t] else [])) := by
  unfold f_X9_beside_b104
  rw [if_pos rfl, if_neg (fun q => hp q.1)]; rfl
/-- the four neighbours as the reference asks them -/
theorem beside_all {C W R c : Nat} (mc : Nat → Int32) (hW6 : W ≤ 6) (hC : C = R * W) (hC2 : C ≤ 36) (hc : c < C) :
    f_X9_beside (nI C) (nI W) mc (nI c) 0 = some (oneI (if c % W + 1 < W ∧ ¬ mc (c + 1) = 1 then [c + 1] else [])) ∧
    f_X9_beside (nI C) (nI W) mc (nI c) 1 = some (oneI (if c + W < C ∧ ¬ mc (c + W) = 1 then [c + W] else [])) ∧
    f_X9_beside (nI C) (nI W) mc (nI c) 2 = some (oneI (if W ≤ c ∧ ¬ mc (c - W) = 1 then [c - W] else [])) ∧
    f_X9_beside (nI C) (nI W) mc (nI c) 3 = some (oneI (if 0 < c % W ∧ ¬ mc (c - 1) = 1 then [c - 1] else [])) := by
  obtain ⟨h1, h2, h3⟩ := cell_next (W := W) (R := R) (c := c) (by omega)
  have hW : 0 < W := by
    rcases Nat.eq_zero_or_pos W with q | q
    · subst q; omega
    · exact q
  have hm := Nat.mod_lt c hW
  refine ⟨?_, ?_, ?_, ?_⟩
  · unfold f_X9_beside f_X9_beside_b24
    rw [if_pos rfl, gd_t (nz_n hW (by omega))]
    by_cases h : c % W + 1 < W
    · rw [if_neg (fun q => (edge_test hW hW6 (by omega)).mp q h), show nI c + 1 = nI (c + 1) from nI_1 c]
      exact beside_end mc (by omega) _ h
    · rw [if_pos ((edge_test hW hW6 (by omega)).mpr h)]
      exact beside_none C W mc (c + 1) _ h
  · unfold f_X9_beside f_X9_beside_b56
    rw [if_neg (by decide), if_pos rfl, nI_add]
    by_cases h : c + W < C
    · rw [if_neg (by rw [nI_le_i (by omega) (by omega)]; omega)]
      exact beside_end mc (by omega) _ h
    · rw [if_pos (by rw [nI_le_i (by omega) (by omega)]; omega)]
      exact beside_none C W mc (c + W) _ h
  · unfold f_X9_beside f_X9_beside_b83
    rw [if_neg (by decide), if_neg (by decide), if_pos rfl]
    by_cases h : W ≤ c
    · rw [if_neg (by rw [nI_lt_i (by omega) (by omega)]; omega), pk_sub h]
      exact beside_end mc (by omega) _ h
    · rw [if_pos (by rw [nI_lt_i (by omega) (by omega)]; omega)]
      exact beside_none C W mc (c - W) _ h
  · unfold f_X9_beside f_X9_beside_b103
    rw [if_neg (by decide), if_neg (by decide), if_neg (by decide), gd_t (nz_n hW (by omega)), pk_rem (by omega) hW (by omega)]
    by_cases h : 0 < c % W
    · rw [if_neg (nI_nle h (by omega)), nI_sub1 (by omega)]
      exact beside_end mc (by omega) _ h
    · rw [if_pos (by rw [show c % W = 0 by omega]; decide)]
      exact beside_none C W mc (c - 1) _ h
theorem n25 (n x : Nat) : (25 : Int32) * nI n + nI x = nI (25 * n + x) := by rw [show (25 : Int32) * nI n = nI (25 * n) from pk_mul 25 n]; exact nI_add _ _
theorem n6 (n x : Nat) : (6 : Int32) * nI n + nI x = nI (6 * n + x) := by rw [show (6 : Int32) * nI n = nI (6 * n) from pk_mul 6 n]; exact nI_add _ _
theorem pred_lt {m k : Nat} (hm : m ≤ 1000) (hk : k ≤ 1000) : nI m - 1 < nI k ↔ m ≤ k := by
  rw [Int32.lt_iff_toInt_lt, show nI m - 1 = nI m - nI 1 from rfl, pk_sub_toInt (by omega) (by omega), nI_toInt (by omega)]
  omega
/-- was it there among the first m places of a row -/
theorem wasOn_eq {n m c : Nat} (hn : n < 10) (hm : m ≤ 25) (path : Nat → Int32) (p : Prop) [Decidable p] (hp : p ↔ ∃ i, i < m ∧ path (25 * n + i) = nI c) : f_X9_wasOn path (nI n) (nI c) (nI m - 1) = some (if p then 1 else 0) := by
  have X : ∃ x, loopF (fun q : Int32 × Int32 => f_X9_wasOn_L6 path (nI n) (nI c) (nI m - 1) q.1 q.2) FU (0, 0) = some x ∧ ((x = 1 ∧ ∃ i, i < m ∧ path (25 * n + i) = nI c) ∨ (x = 0 ∧ ¬ ∃ i, i < m ∧ path (25 * n + i) = nI c)) := by
    refine loopF_run (fun (r : Nat) (q : Int32 × Int32) => ∃ k : Nat, k + r = m ∧ q.2 = nI k ∧ ((q.1 = 1 ∧ ∃ i, i < k ∧ path (25 * n + i) = nI c) ∨ (q.1 = 0 ∧ ¬ ∃ i, i < k ∧ path (25 * n + i) = nI c))) (fun x : Int32 => (x = 1 ∧ ∃ i, i < m ∧ path (25 * n + i) = nI c) ∨ (x = 0 ∧ ¬ ∃ i, i < m ∧ path (25 * n + i) = nI c)) ?_ FU m _ ⟨0, by omega, rfl, Or.inr ⟨rfl, fun ⟨i, hi, _⟩ => absurd hi (Nat.not_lt_zero _)⟩⟩ (Nat.lt_trans (by omega) FU_big)
    rintro r ⟨q1, q2⟩ ⟨k, hk, e1, e2⟩
    dsimp only at e1 e2
    subst e1
    show (∃ x, f_X9_wasOn_L6 path (nI n) (nI c) (nI m - 1) q1 (nI k) = some (.inr x) ∧ _) ∨ (∃ q' m', m' < r ∧ f_X9_wasOn_L6 path (nI n) (nI c) (nI m - 1) q1 (nI k) = some (.inl q') ∧ _)
    unfold f_X9_wasOn_L6 f_X9_wasOn_b33L6 f_X9_wasOn_b38L6
    by_cases h : m ≤ k
    · refine Or.inl ⟨q1, by rw [if_pos ((pred_lt (by omega) (by omega)).mpr h)], ?_⟩
      rw [show m = k by omega]; exact e2
    · right
      rw [if_neg (fun q => h ((pred_lt (by omega) (by omega)).mp q)), n25, gd_t (inb_n (by omega) (by omega)), tnN (by omega), show nI k + 1 = nI (k + 1) from nI_1 k]
      rcases e2 with ⟨rfl, i, hi, hp⟩ | ⟨rfl, hno⟩
      · rw [if_neg one_ne0]
        exact ⟨_, r - 1, by omega, rfl, k + 1, by omega, rfl, Or.inl ⟨rfl, i, by omega, hp⟩⟩
      · rw [if_pos rfl]
        by_cases hp : path (25 * n + k) = nI c
        · rw [if_pos hp]
          exact ⟨_, r - 1, by omega, rfl, k + 1, by omega, rfl, Or.inl ⟨rfl, k, by omega, hp⟩⟩
        · rw [if_neg hp]
          refine ⟨_, r - 1, by omega, rfl, k + 1, by omega, rfl, Or.inr ⟨rfl, fun ⟨i, hi, hpi⟩ => ?_⟩⟩
          by_cases e : i = k
          · rw [e] at hpi; exact hp hpi
          · exact hno ⟨i, by omega, hpi⟩
  obtain ⟨x, h1, h2⟩ := X
  unfold f_X9_wasOn
  rw [h1, bind1_def]
  rcases h2 with ⟨rfl, h⟩ | ⟨rfl, h⟩
  · rw [gd_t (by decide), if_pos (hp.mpr h)]
  · rw [gd_t (by decide), if_neg (fun q => h (hp.mp q))]
theorem wasOn_list {n c : Nat} (hn : n < 10) (hc : c < 36) {path : Nat → Int32} {l : List Nat} (h : Path (25 * n) path l) (hl : ∀ d ∈ l, d < 36) (hlen : l.length ≤ 25) : f_X9_wasOn path (nI n) (nI c) (nI l.length - 1) = some (if c ∈ l then 1 else 0) :=
  wasOn_eq hn hlen path _ (h.mem hl hc)
