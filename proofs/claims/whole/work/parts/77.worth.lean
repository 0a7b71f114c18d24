def prM (gone : Int32) (i : Nat) : Bool := decide (¬ ((gone >>> (nI i &&& 31)) &&& (1 : Int32)) = 1)
def RowOK (cap n : Nat) (row nights things : Nat → Int32) : Prop := n ≤ cap ∧ ∀ i, i < n → row (2 * i) = nights i ∧ row (2 * i + 1) = things i
theorem n2 (i : Nat) : (2 : Int32) * nI i = nI (2 * i) := pk_mul 2 i
theorem worth_L56 {nb n c : Nat} (gone : Int32) (mb bn bt : Nat → Int32) (h : RowOK 10 nb mb bn bt) (s0 : Int32) :
    loopF (fun q : Int32 × Int32 => f_X9_worth_L56 (nI nb) gone mb (nI n) (nI c) 1 q.1 q.2) FU (s0, 0) = some (s0 + addIf 4 (bowlT (prM gone) bn bt n c) nb) := by
  obtain ⟨hnb, hrow⟩ := h
  have X : ∃ x, loopF (fun q : Int32 × Int32 => f_X9_worth_L56 (nI nb) gone mb (nI n) (nI c) 1 q.1 q.2) FU (s0, 0) = some x ∧ x = s0 + addIf 4 (bowlT (prM gone) bn bt n c) nb := by
    refine loopF_run (fun (m : Nat) (q : Int32 × Int32) => ∃ k : Nat, k + m = nb ∧ q = (s0 + addIf 4 (bowlT (prM gone) bn bt n c) k, nI k)) (fun x : Int32 => x = s0 + addIf 4 (bowlT (prM gone) bn bt n c) nb) ?_ FU nb _ ⟨0, by omega, by rw [show addIf 4 (bowlT (prM gone) bn bt n c) 0 = 0 from rfl, i_add0]; rfl⟩ (Nat.lt_trans (by omega) FU_big)
    rintro m q ⟨k, hk, rfl⟩
    generalize hs : s0 + addIf 4 (bowlT (prM gone) bn bt n c) k = s
    show (∃ x, f_X9_worth_L56 (nI nb) gone mb (nI n) (nI c) 1 s (nI k) = some (.inr x) ∧ _) ∨ (∃ q' m', m' < m ∧ f_X9_worth_L56 (nI nb) gone mb (nI n) (nI c) 1 s (nI k) = some (.inl q') ∧ _)
    by_cases hkn : nb ≤ k
    · refine Or.inl ⟨s, ?_, ?_⟩
      · unfold f_X9_worth_L56; rw [if_pos (by rw [nI_le_i (by omega) (by omega)]; exact hkn)]
      · rw [← hs, show k = nb by omega]
    · right
      obtain ⟨e1, e2⟩ := hrow k (by omega)
      have no : bowlT (prM gone) bn bt n c k = false → ∃ j : Nat, j + (m - 1) = nb ∧ (s, nI (k + 1)) = (s0 + addIf 4 (bowlT (prM gone) bn bt n c) j, nI j) := fun q => ⟨k + 1, by omega, by rw [addIf_no _ _ q, hs]⟩
      unfold f_X9_worth_L56 f_X9_worth_b116L56 f_X9_worth_b117L56 f_X9_isIn
      rw [if_neg (by rw [nI_le_i (by omega) (by omega)]; exact hkn), if_neg one_ne0, show nI k + 1 = nI (k + 1) from nI_1 k, n2, show nI (2 * k) + 1 = nI (2 * k + 1) from nI_1 _, gd_t (inb_n (by omega) (by omega)), gd_t (inb_n (by omega) (by omega)), tnN (by omega), tnN (by omega), e1, e2, letv_def, letv_def, i_add0]
      by_cases h1 : ((gone >>> (nI k &&& 31)) &&& (1 : Int32)) = 1
      · rw [if_pos h1, bind1_def, if_neg one_ne0]
        exact ⟨_, m - 1, by omega, rfl, no (bowlT_no fun q => (of_decide_eq_true q.1) h1)⟩
      · rw [if_neg h1, bind1_def, if_pos rfl]
        by_cases h2 : bn k = nI n
        · rw [if_pos h2]
          by_cases h3 : bt k = nI c
          · rw [if_pos h3]
            refine ⟨_, m - 1, by omega, rfl, k + 1, by omega, ?_⟩
            rw [addIf_yes _ _ (bowlT_yes (decide_eq_true h1) h2 h3), ← Int32.add_assoc, hs]
          · rw [if_neg h3]
            exact ⟨_, m - 1, by omega, rfl, no (bowlT_no fun q => h3 q.2.2)⟩
        · rw [if_neg h2]
          exact ⟨_, m - 1, by omega, rfl, no (bowlT_no fun q => h2 q.2.1)⟩
  obtain ⟨x, h1, h2⟩ := X
  rw [h1, h2]
theorem worth_L56_0 {nb n c : Nat} (gone : Int32) (mb : Nat → Int32) (h : nb ≤ 10) (s0 : Int32) :
    loopF (fun q : Int32 × Int32 => f_X9_worth_L56 (nI nb) gone mb (nI n) (nI c) 0 q.1 q.2) FU (s0, 0) = some s0 := by
  have X : ∃ x, loopF (fun q : Int32 × Int32 => f_X9_worth_L56 (nI nb) gone mb (nI n) (nI c) 0 q.1 q.2) FU (s0, 0) = some x ∧ x = s0 := by
    refine loopF_run (fun (m : Nat) (q : Int32 × Int32) => ∃ k : Nat, k + m = nb ∧ q = (s0, nI k)) (fun x : Int32 => x = s0) ?_ FU nb _ ⟨0, by omega, rfl⟩ (Nat.lt_trans (by omega) FU_big)
    rintro m q ⟨k, hk, rfl⟩
    show (∃ x, f_X9_worth_L56 (nI nb) gone mb (nI n) (nI c) 0 s0 (nI k) = some (.inr x) ∧ _) ∨ (∃ q' m', m' < m ∧ f_X9_worth_L56 (nI nb) gone mb (nI n) (nI c) 0 s0 (nI k) = some (.inl q') ∧ _)
    unfold f_X9_worth_L56 f_X9_worth_b116L56 f_X9_worth_b117L56
    by_cases hkn : nb ≤ k
    · exact Or.inl ⟨s0, by rw [if_pos (by rw [nI_le_i (by omega) (by omega)]; exact hkn)], rfl⟩
    · right
      rw [if_neg (by rw [nI_le_i (by omega) (by omega)]; exact hkn), if_pos rfl, letv_def, i_add0, show nI k + 1 = nI (k + 1) from nI_1 k]
      exact ⟨_, m - 1, by omega, rfl, k + 1, by omega, rfl⟩
  obtain ⟨x, h1, h2⟩ := X
  rw [h1, h2]
theorem worth_L129 {nd n c : Nat} (md dn dt : Nat → Int32) (h : RowOK 8 nd md dn dt) (s0 : Int32) :
    loopF (fun q : Int32 × Int32 => f_X9_worth_L129 (nI nd) md (nI n) (nI c) q.1 q.2) FU (s0, 0) = some (s0 - addIf 5 (dogT dn dt n c) nd) := by
  obtain ⟨hnb, hrow⟩ := h
  have X : ∃ x, loopF (fun q : Int32 × Int32 => f_X9_worth_L129 (nI nd) md (nI n) (nI c) q.1 q.2) FU (s0, 0) = some x ∧ x = s0 - addIf 5 (dogT dn dt n c) nd := by
    refine loopF_run (fun (m : Nat) (q : Int32 × Int32) => ∃ k : Nat, k + m = nd ∧ q = (s0 - addIf 5 (dogT dn dt n c) k, nI k)) (fun x : Int32 => x = s0 - addIf 5 (dogT dn dt n c) nd) ?_ FU nd _ ⟨0, by omega, by rw [show addIf 5 (dogT dn dt n c) 0 = 0 from rfl, i_sub0]; rfl⟩ (Nat.lt_trans (by omega) FU_big)
    rintro m q ⟨k, hk, rfl⟩
    generalize hs : s0 - addIf 5 (dogT dn dt n c) k = s
    show (∃ x, f_X9_worth_L129 (nI nd) md (nI n) (nI c) s (nI k) = some (.inr x) ∧ _) ∨ (∃ q' m', m' < m ∧ f_X9_worth_L129 (nI nd) md (nI n) (nI c) s (nI k) = some (.inl q') ∧ _)
    by_cases hkn : nd ≤ k
    · refine Or.inl ⟨s, ?_, ?_⟩
      · unfold f_X9_worth_L129; rw [if_pos (by rw [nI_le_i (by omega) (by omega)]; exact hkn)]
      · rw [← hs, show k = nd by omega]
    · right
      obtain ⟨e1, e2⟩ := hrow k (by omega)
      have no : dogT dn dt n c k = false → ∃ j : Nat, j + (m - 1) = nd ∧ (s, nI (k + 1)) = (s0 - addIf 5 (dogT dn dt n c) j, nI j) := fun q => ⟨k + 1, by omega, by rw [addIf_no _ _ q, hs]⟩
      unfold f_X9_worth_L129 f_X9_worth_b172L129 f_X9_worth_b173L129
      rw [if_neg (by rw [nI_le_i (by omega) (by omega)]; exact hkn), show nI k + 1 = nI (k + 1) from nI_1 k, n2, show nI (2 * k) + 1 = nI (2 * k + 1) from nI_1 _, gd_t (inb_n (by omega) (by omega)), gd_t (inb_n (by omega) (by omega)), tnN (by omega), tnN (by omega), e1, e2, letv_def, letv_def, i_sub0]
      by_cases h2 : dn k = nI n
      · rw [if_pos h2]
        by_cases h3 : dt k = nI c
        · rw [if_pos h3]
          refine ⟨_, m - 1, by omega, rfl, k + 1, by omega, ?_⟩
          rw [addIf_yes _ _ (dogT_yes h2 h3), i_sub_add, hs]
        · rw [if_neg h3]
          exact ⟨_, m - 1, by omega, rfl, no (dogT_no fun q => h3 q.2)⟩
      · rw [if_neg h2]
        exact ⟨_, m - 1, by omega, rfl, no (dogT_no fun q => h2 q.1)⟩
  obtain ⟨x, h1, h2⟩ := X
  rw [h1, h2]
theorem ring1 (x y b d p : Int32) : x + y + b - d + p = x - d + p + (y + b) := by
  rw [Int32.sub_eq_add_neg, Int32.sub_eq_add_neg]
  ac_rfl
/-- the night before, as the reference holds it -/
def PrevOK (n : Nat) (prev : List Nat) (path steps : Nat → Int32) : Prop := (∀ d ∈ prev, d < 36) ∧ prev.length ≤ 25 ∧ (n = 0 → prev = []) ∧ (0 < n → Path (25 * (n - 1)) path prev ∧ steps (n - 1) = nI prev.length - 1)
theorem worth_b51 {nb nd n c : Nat} (hn : n < 10) (hc : c < 36) (gone : Int32) {mc mb md bn bt dn dt path steps : Nat → Int32} (hb : RowOK 10 nb mb bn bt) (hd : RowOK 8 nd md dn dt) {prev : List Nat} (hp : PrevOK n prev path steps) (s0 : Int32) :
    f_X9_worth_b51 (nI nb) (nI nd) gone mc mb md path steps (nI n) (nI c) 1 s0 = some (s0 + addIf 4 (bowlT (prM gone) bn bt n c) nb - addIf 5 (dogT dn dt n c) nd + (if c ∈ prev then 1 else 0)) ∧
    f_X9_worth_b51 (nI nb) (nI nd) gone mc mb md path steps (nI n) (nI c) 0 s0 = some (s0 - addIf 5 (dogT dn dt n c) nd + (if c ∈ prev then 1 else 0)) := by
  obtain ⟨p1, p2, p3, p4⟩ := hp
  have fin : ∀ u : Int32, (if nI n ≤ 0 then (f_X9_worth_b211 (nI nb) (nI nd) gone mc mb md path steps u) else (gd (inb (nI n - (1 : Int32)) 10) (bind1 (f_X9_wasOn path (nI n - (1 : Int32)) (nI c) (steps (nI n - (1 : Int32)).toNatClampNeg)) (fun r7 => if r7 = 0 then (f_X9_worth_b211 (nI nb) (nI nd) gone mc mb md path steps u) else (f_X9_worth_b212 (nI nb) (nI nd) gone mc mb md path steps (1 : Int32) u))))) = some (u + (if c ∈ prev then 1 else 0)) := by
    intro u
    unfold f_X9_worth_b211 f_X9_worth_b212
    by_cases h0 : n = 0
    · rw [if_pos (by rw [h0]; decide), p3 h0, if_neg (List.not_mem_nil)]
    · obtain ⟨g1, g2⟩ := p4 (by omega)
      rw [if_neg (nI_nle (by omega) (by omega)), nI_sub1 (by omega), gd_t (inb_n (by omega) (by omega)), tnN (by omega), g2, wasOn_list (by omega) hc g1 p1 p2, bind1_def]
      by_cases hm : c ∈ prev
      · rw [if_pos hm, if_neg one_ne0]
      · rw [if_neg hm, if_pos rfl]
  constructor
  · unfold f_X9_worth_b51
    rw [worth_L56 gone mb bn bt hb, bind1_def, worth_L129 md dn dt hd, bind1_def, fin]
  · unfold f_X9_worth_b51
    rw [worth_L56_0 gone mb hb.1, bind1_def, worth_L129 md dn dt hd, bind1_def, fin]
theorem worth_eq {nb nd n c : Nat} (hn : n < 10) (hc : c < 36) (gone : Int32) {mc mb md bn bt dn dt path steps : Nat → Int32} (hb : RowOK 10 nb mb bn bt) (hd : RowOK 8 nd md dn dt) {prev : List Nat} (hp : PrevOK n prev path steps) {l : List Nat} (h : Path (25 * n) path l) (hl : ∀ d ∈ l, d < 36) (hlen : l.length ≤ 25) :
    f_X9_worth (nI nb) (nI nd) gone mc mb md path steps (nI n) (nI c) (nI l.length - 1) = some (wv (stP (aOf mc nd dn dt n) prev) (bOf mc (prM gone) nb bn bt n) l c) := by
  obtain ⟨B1, B0⟩ := worth_b51 (mc := mc) (s0 := 0) hn hc gone hb hd hp
  obtain ⟨D1, D0⟩ := worth_b51 (mc := mc) (s0 := 2) hn hc gone hb hd hp
  obtain ⟨E1, -⟩ := worth_b51 (mc := mc) (s0 := 3) hn hc gone hb hd hp
  unfold f_X9_worth
  rw [wasOn_list hn hc h hl hlen, bind1_def]
  unfold wv stP aOf bOf f_X9_worth_b15 f_X9_worth_b50
  have e23 : ¬ (2 : Int32) = 3 := by decide
  rw [gd_t (inb_n hc (by omega)), gd_t (inb_n hc (by omega)), gd_t (inb_n hc (by omega)), gd_t (inb_n hc (by omega)), tnN (by omega)]
  by_cases hm : c ∈ l
  · rw [if_pos hm, if_neg one_ne0, if_pos hm, if_pos rfl]
    by_cases h2 : mc c = 2
    · rw [if_pos h2, if_pos h2, D0]
    · rw [if_neg h2, if_neg h2, B0]
      by_cases h3 : mc c = 3
      · rw [if_pos h3]
      · rw [if_neg h3]
  · rw [if_neg hm, if_pos rfl, if_neg hm, if_neg one_ne0, ← ring1]
    by_cases h2 : mc c = 2
    · rw [if_pos h2, if_pos h2, if_neg (by rw [h2]; exact e23), D1]; rfl
    · rw [if_neg h2, if_neg h2]
      by_cases h3 : mc c = 3
      · rw [if_pos h3, if_pos h3, E1]; rfl
      · rw [if_neg h3, if_neg h3, B1]; rfl
