theorem sel1_self (w : Nat → Int32) (fm : Int32) (bm : Int32 × Int32) (c : Nat) : sel1 w fm bm c = if nI c = fm then bm else if bm.1 = -1 then (nI c, w c) else if w c ≤ bm.2 then bm else (nI c, w c) := rfl
theorem next_step {C W nb nd : Nat} (gone : Int32) (mc mb md path steps : Nat → Int32) (x1 x2 x3 fm : Int32) (w : Nat → Int32) {k : Nat} (hk : k < 4) {A : List Nat} (hA : A = [] ∨ ∃ t, t < 36 ∧ A = [t]) (hbe : f_X9_beside (nI C) (nI W) mc x3 (nI k) = some (oneI A)) (hw : ∀ t ∈ A, f_X9_worth (nI nb) (nI nd) gone mc mb md path steps x1 (nI t) x2 = some (w t)) (b m : Int32) :
    f_X9_next_L44 (nI C) (nI W) (nI nb) (nI nd) gone mc mb md path steps x1 x2 x3 fm b m (nI k) = some (.inl ((A.foldl (sel1 w fm) (b, m)).1, (A.foldl (sel1 w fm) (b, m)).2, nI (k + 1))) := by
  unfold f_X9_next_L44
  rw [if_neg (by rw [show (4 : Int32) = nI 4 from rfl, nI_le_i (by omega) (by omega)]; omega), hbe, bind1_def]
  rcases hA with rfl | ⟨t, ht, rfl⟩
  · rw [if_pos (show oneI [] = -1 from rfl), List.foldl_nil]
    unfold f_X9_next_b130L44
    rw [show nI k + 1 = nI (k + 1) from nI_1 k]
  · rw [show oneI [t] = nI t from rfl, if_neg (nI_neg1 (by omega)), hw t (List.mem_singleton.mpr rfl), bind1_def, List.foldl_cons, List.foldl_nil, sel1_self]
    unfold f_X9_next_b95L44 f_X9_next_b100L44 f_X9_next_b114L44 f_X9_next_b128L44 f_X9_next_b130L44
    rw [show nI k + 1 = nI (k + 1) from nI_1 k, if_neg one_ne0, if_neg one_ne0, if_pos rfl, if_pos rfl]
    by_cases h1 : nI t = fm
    · rw [if_pos h1, if_pos h1]
    · rw [if_neg h1, if_neg h1]
      dsimp only
      by_cases h2 : b = -1
      · rw [if_pos h2, if_pos h2]
      · rw [if_neg h2, if_neg h2]
        by_cases h3 : w t ≤ m
        · rw [if_pos h3, if_pos h3]
        · rw [if_neg h3, if_neg h3]
theorem one_list {a : Prop} [Decidable a] {u : Nat} (h : a → u < 36) : (if a then [u] else []) = [] ∨ ∃ t, t < 36 ∧ (if a then [u] else []) = [t] := by
  by_cases ha : a
  · rw [if_pos ha]; exact Or.inr ⟨u, h ha, rfl⟩
  · rw [if_neg ha]; exact Or.inl rfl
theorem next_b33 {C W R nb nd c : Nat} (hW6 : W ≤ 6) (hC : C = R * W) (hC2 : C ≤ 36) (hc : c < C) (gone : Int32) (mc mb md path steps : Nat → Int32) (x1 x2 fm : Int32) (w : Nat → Int32) (hw : ∀ t, t < 36 → f_X9_worth (nI nb) (nI nd) gone mc mb md path steps x1 (nI t) x2 = some (w t)) :
    f_X9_next_b33 (nI C) (nI W) (nI nb) (nI nd) gone mc mb md path steps x1 x2 (nI c) fm = some (sel w fm (nbs W C mc c)) := by
  obtain ⟨b0, b1, b2, b3⟩ := beside_all mc hW6 hC hC2 hc
  obtain ⟨k1, k2, k3⟩ := cell_next (W := W) (R := R) (c := c) (by omega)
  have hL : loopF (fun q : Int32 × Int32 × Int32 => f_X9_next_L44 (nI C) (nI W) (nI nb) (nI nd) gone mc mb md path steps x1 x2 (nI c) fm q.1 q.2.1 q.2.2) FU (-1, 0, 0) = some (selB w fm (nbs W C mc c)).1 := by
    have o0 := one_list (a := c % W + 1 < W ∧ ¬ mc (c + 1) = 1) (u := c + 1) (fun q => by omega)
    have o1 := one_list (a := c + W < C ∧ ¬ mc (c + W) = 1) (u := c + W) (fun q => by omega)
    have o2 := one_list (a := W ≤ c ∧ ¬ mc (c - W) = 1) (u := c - W) (fun q => by omega)
    have o3 := one_list (a := 0 < c % W ∧ ¬ mc (c - 1) = 1) (u := c - 1) (fun q => by omega)
    unfold selB nbs
    generalize (if c % W + 1 < W ∧ ¬ mc (c + 1) = 1 then [c + 1] else []) = A0 at *
    generalize (if c + W < C ∧ ¬ mc (c + W) = 1 then [c + W] else []) = A1 at *
    generalize (if W ≤ c ∧ ¬ mc (c - W) = 1 then [c - W] else []) = A2 at *
    generalize (if 0 < c % W ∧ ¬ mc (c - 1) = 1 then [c - 1] else []) = A3 at *
    have lt : ∀ {A : List Nat}, (A = [] ∨ ∃ t, t < 36 ∧ A = [t]) → ∀ t ∈ A, f_X9_worth (nI nb) (nI nd) gone mc mb md path steps x1 (nI t) x2 = some (w t) := by
      rintro A (rfl | ⟨u, hu, rfl⟩) t ht
      · exact absurd ht (List.not_mem_nil)
      · rw [List.mem_singleton.mp ht]; exact hw u hu
    rw [List.foldl_append, List.foldl_append, List.foldl_append]
    show loopF _ (4091 + 1 + 1 + 1 + 1 + 1) _ = _
    rw [loopF_go (q' := ((A0.foldl (sel1 w fm) (-1, 0)).1, (A0.foldl (sel1 w fm) (-1, 0)).2, nI 1)) (next_step gone mc mb md path steps x1 x2 (nI c) fm w (k := 0) (by omega) o0 b0 (lt o0) (-1) 0)]
    rw [loopF_go (q' := ((A1.foldl (sel1 w fm) (A0.foldl (sel1 w fm) (-1, 0))).1, (A1.foldl (sel1 w fm) (A0.foldl (sel1 w fm) (-1, 0))).2, nI 2)) (next_step gone mc mb md path steps x1 x2 (nI c) fm w (k := 1) (by omega) o1 b1 (lt o1) _ _)]
    rw [loopF_go (q' := ((A2.foldl (sel1 w fm) (A1.foldl (sel1 w fm) (A0.foldl (sel1 w fm) (-1, 0)))).1, (A2.foldl (sel1 w fm) (A1.foldl (sel1 w fm) (A0.foldl (sel1 w fm) (-1, 0)))).2, nI 3)) (next_step gone mc mb md path steps x1 x2 (nI c) fm w (k := 2) (by omega) o2 b2 (lt o2) _ _)]
    rw [loopF_go (q' := ((A3.foldl (sel1 w fm) (A2.foldl (sel1 w fm) (A1.foldl (sel1 w fm) (A0.foldl (sel1 w fm) (-1, 0))))).1, (A3.foldl (sel1 w fm) (A2.foldl (sel1 w fm) (A1.foldl (sel1 w fm) (A0.foldl (sel1 w fm) (-1, 0))))).2, nI 4)) (next_step gone mc mb md path steps x1 x2 (nI c) fm w (k := 3) (by omega) o3 b3 (lt o3) _ _)]
    refine loopF_end ?_
    dsimp only
    unfold f_X9_next_L44
    rw [if_pos (by decide)]
  unfold f_X9_next_b33 sel
  rw [hL, bind1_def]
  by_cases h : (selB w fm (nbs W C mc c)).1 = -1
  · rw [if_pos h, if_pos h]
  · rw [if_neg h, if_neg h]
theorem len_pred {c : Nat} {r : List Nat} : nI (c :: r).length - 1 = nI r.length := by
  rw [List.length_cons, nI_sub1 (by omega)]; rfl
theorem next_eq {C W R nb nd n c : Nat} (hW6 : W ≤ 6) (hC : C = R * W) (hC2 : C ≤ 36) (hn : n < 10) (gone : Int32) {mc mb md bn bt dn dt path steps : Nat → Int32} (hb : RowOK 10 nb mb bn bt) (hd : RowOK 8 nd md dn dt) {prev : List Nat} (hp : PrevOK n prev path steps) {r : List Nat} (h : Path (25 * n) path (c :: r)) (hl : ∀ d ∈ c :: r, d < C) (hlen : (c :: r).length ≤ 25) :
    f_X9_next (nI C) (nI W) (nI nb) (nI nd) gone mc mb md path steps (nI n) (nI r.length) = some (nxt W C mc (stP (aOf mc nd dn dt n) prev) (bOf mc (prM gone) nb bn bt n) (c :: r)) := by
  have hc := hl c (List.mem_cons_self ..)
  have hw : ∀ t, t < 36 → f_X9_worth (nI nb) (nI nd) gone mc mb md path steps (nI n) (nI t) (nI r.length) = some (wv (stP (aOf mc nd dn dt n) prev) (bOf mc (prM gone) nb bn bt n) (c :: r) t) := fun t ht => by
    rw [← len_pred (c := c)]
    exact worth_eq hn ht gone hb hd hp h (fun d hd => by have := hl d hd; omega) hlen
  rw [List.length_cons] at hlen
  unfold f_X9_next
  rw [n25, gd_t (inb_n (by omega) (by omega)), letv_def, tnN (by omega), h.1]
  cases r with
  | nil =>
    rw [if_pos (show nI ([] : List Nat).length = 0 from rfl)]
    exact next_b33 hW6 hC hC2 hc gone mc mb md path steps _ _ _ _ hw
  | cons d r =>
    rw [List.length_cons] at hlen ⊢
    rw [if_neg (nI_ne0 (by omega) (by omega)), nI_sub1 (by omega), show 25 * n + (r.length + 1) - 1 = 25 * n + r.length by omega, gd_t (inb_n (by omega) (by omega)), tnN (by omega), h.2.1]
    exact next_b33 hW6 hC hC2 hc gone mc mb md path steps _ _ _ _ hw
def Walked (n : Nat) (Z : List Nat) (path steps path' steps' : Nat → Int32) : Prop :=
  Path (25 * n) path' Z ∧ steps' n = nI Z.length - 1 ∧ (∀ j, (j < 25 * n ∨ 25 * n + 25 ≤ j) → path' j = path j) ∧ ∀ j, j ≠ n → steps' j = steps j
theorem PrevOK.far {n : Nat} {prev : List Nat} {path steps path' steps' : Nat → Int32} (h : PrevOK n prev path steps) (h1 : ∀ j, (j < 25 * n ∨ 25 * n + 25 ≤ j) → path' j = path j) (h2 : ∀ j, j ≠ n → steps' j = steps j) : PrevOK n prev path' steps' := by
  obtain ⟨p1, p2, p3, p4⟩ := h
  exact ⟨p1, p2, p3, fun q => ⟨(p4 q).1.far fun j j1 j2 => h1 j (by omega), (h2 _ (by omega)).trans (p4 q).2⟩⟩
set_option maxHeartbeats 1000000 in
theorem walks_loop {C W R nb nd n f : Nat} (hW6 : W ≤ 6) (hC : C = R * W) (hC2 : C ≤ 36) (hn : n < 10) (hf : f < C) (gone : Int32) {mc mb md bn bt dn dt path steps : Nat → Int32} (hb : RowOK 10 nb mb bn bt) (hd : RowOK 8 nd md dn dt) {prev : List Nat} (hp : PrevOK n prev path steps) :
    ∃ x, loopF (fun q : Int32 × (Nat → Int32) × (Nat → Int32) => f_X9_walks_L67 (nI C) (nI W) (nI nb) (nI nd) gone mc mb md (nI n) q.1 q.2.1 q.2.2) FU (1, upd path (25 * n) (nI f), upd (upd steps n (-1)) n 0) = some x ∧ Walked n (walkF W C mc (stP (aOf mc nd dn dt n) prev) (bOf mc (prM gone) nb bn bt n) 24 [f]) path steps x.1 x.2 := by
  generalize hst : stP (aOf mc nd dn dt n) prev = st
  generalize hfr : bOf mc (prM gone) nb bn bt n = fr
  generalize hZ : walkF W C mc st fr 24 [f] = Z
  have hW : 0 < W := by
    rcases Nat.eq_zero_or_pos W with q | q
    · subst q; omega
    · exact q
  refine loopF_run (fun (m : Nat) (q : Int32 × (Nat → Int32) × (Nat → Int32)) => ∃ (c : Nat) (r : List Nat) (p s : Nat → Int32), (∀ d ∈ c :: r, d < C) ∧ (c :: r).length ≤ 25 ∧ Walked n (c :: r) path steps p s ∧ ((q = (1, p, s) ∧ (c :: r).length + m = 26 ∧ walkF W C mc st fr (25 - (c :: r).length) (c :: r) = Z) ∨ (q = (0, p, s) ∧ c :: r = Z))) (fun x : (Nat → Int32) × (Nat → Int32) => Walked n Z path steps x.1 x.2) ?_ FU 25 _ ⟨f, [], upd path (25 * n) (nI f), upd (upd steps n (-1)) n 0, fun d hd => by rw [List.mem_singleton.mp hd]; exact hf, by simp, ⟨⟨by rw [List.length_nil, Nat.add_zero, upd_at], trivial⟩, by rw [upd_at, len_pred]; rfl, fun j hj => upd_ne _ _ (by omega), fun j hj => by rw [upd_ne _ _ hj, upd_ne _ _ hj]⟩, Or.inl ⟨rfl, rfl, hZ⟩⟩ (Nat.lt_trans (by omega) FU_big)
  rintro m q ⟨c, r, p, s, hl, hlen, ⟨w1, w2, w3, w4⟩, ⟨rfl, hm, hZ2⟩ | ⟨rfl, hZ2⟩⟩
  · show (∃ x, f_X9_walks_L67 (nI C) (nI W) (nI nb) (nI nd) gone mc mb md (nI n) 1 p s = some (.inr x) ∧ _) ∨ (∃ q' m', m' < m ∧ f_X9_walks_L67 (nI C) (nI W) (nI nb) (nI nd) gone mc mb md (nI n) 1 p s = some (.inl q') ∧ _)
    have hc := hl c (List.mem_cons_self ..)
    have w2' : s n = nI r.length := by rw [w2, len_pred]
    rw [List.length_cons] at hlen hm
    have hX : f_X9_walks_L67 (nI C) (nI W) (nI nb) (nI nd) gone mc mb md (nI n) 1 p s = (if (24 : Int32) ≤ nI r.length then (some (.inr (p, s))) else (if ((nI c + (1 : Int32)) - (nI c + (1 : Int32)) / nI W * nI W) ≤ 0 then (some (.inr (p, s))) else (bind1 (f_X9_next (nI C) (nI W) (nI nb) (nI nd) gone mc mb md p s (nI n) (nI r.length)) (fun r3 => if r3 = (-1 : Int32) then (f_X9_walks_b132L67 (nI C) (nI W) (nI nb) (nI nd) gone mc mb md p s (nI n) r3 (0 : Int32)) else (f_X9_walks_b132L67 (nI C) (nI W) (nI nb) (nI nd) gone mc mb md p s (nI n) r3 (1 : Int32)))))) := by
      unfold f_X9_walks_L67
      rw [if_neg one_ne0, gd_t (inb_n hn (by omega)), gd_t (inb_n hn (by omega)), tnN (by omega), w2', n25, gd_t (inb_n (by omega) (by omega)), gd_t (nz_n hW (by omega)), gd_t (inb_n hn (by omega)), tnN (by omega), w1.1]
    have done : f_X9_walks_L67 (nI C) (nI W) (nI nb) (nI nd) gone mc mb md (nI n) 1 p s = some (.inr (p, s)) → c :: r = Z → ∃ x, f_X9_walks_L67 (nI C) (nI W) (nI nb) (nI nd) gone mc mb md (nI n) 1 p s = some (.inr x) ∧ Walked n Z path steps x.1 x.2 := fun h1 h2 => ⟨_, h1, by rw [← h2]; exact ⟨w1, w2, w3, w4⟩⟩
    by_cases h24 : r.length = 24
    · left
      refine done (by rw [hX, if_pos (by rw [h24]; decide)]) ?_
      rw [List.length_cons, h24] at hZ2
      exact hZ2
    rw [if_neg (by rw [show (24 : Int32) = nI 24 from rfl, nI_le_i (by omega) (by omega)]; omega)] at hX
    rw [List.length_cons, show 25 - (r.length + 1) = (23 - r.length) + 1 by omega] at hZ2
    unfold walkF at hZ2
    rw [List.headD_cons] at hZ2
    by_cases hedge : c % W + 1 < W
    · right
      rw [if_pos hedge] at hZ2
      rw [if_neg (fun q => (edge_test hW hW6 (by omega)).mp q hedge), next_eq hW6 hC hC2 hn gone hb hd (hp.far w3 w4) w1 hl (by rw [List.length_cons]; omega), bind1_def, hst, hfr] at hX
      rcases nxt_cases hC mc st fr (List.cons_ne_nil c r) hl with e | ⟨t, ht, e⟩
      · rw [if_pos e] at hX hZ2
        unfold f_X9_walks_b132L67 f_X9_walks_b165L67 at hX
        rw [if_pos rfl] at hX
        exact ⟨_, 0, by omega, hX, c, r, p, s, hl, by rw [List.length_cons]; omega, ⟨w1, w2, w3, w4⟩, Or.inr ⟨rfl, hZ2⟩⟩
      · rw [e, if_neg (nI_neg1 (by omega))] at hX hZ2
        rw [tnN (by omega)] at hZ2
        unfold f_X9_walks_b132L67 f_X9_walks_b165L67 at hX
        rw [if_neg one_ne0, gd_t (inb_n hn (by omega)), letv_def, gd_t (inb_n hn (by omega)), gd_t (inb_n hn (by omega)), tnN (show n < 2147483648 by omega), upd_at, w2', show nI r.length + 1 = nI (r.length + 1) from nI_1 _, n25, gd_t (inb_n (by omega) (by omega)), tnN (by omega)] at hX
        refine ⟨_, m - 1, by omega, hX, t, c :: r, _, _, fun d hd => ?_, by rw [List.length_cons, List.length_cons]; omega, ⟨?_, ?_, fun j hj => ?_, fun j hj => ?_⟩, Or.inl ⟨rfl, by rw [List.length_cons, List.length_cons]; omega, ?_⟩⟩
        · rcases List.mem_cons.mp hd with e | e
          · omega
          · exact hl d e
        · have := w1.put t
          rw [List.length_cons] at this
          exact this
        · rw [upd_at, len_pred, List.length_cons]
        · rw [upd_ne _ _ (by omega)]; exact w3 j hj
        · rw [upd_ne _ _ hj]; exact w4 j hj
        · rw [List.length_cons, List.length_cons, show 25 - (r.length + 1 + 1) = 23 - r.length by omega]; exact hZ2
    · left
      rw [if_neg hedge] at hZ2
      exact done (by rw [hX, if_pos ((edge_test hW hW6 (by omega)).mpr hedge)]) hZ2
  · left
    show ∃ x, f_X9_walks_L67 (nI C) (nI W) (nI nb) (nI nd) gone mc mb md (nI n) 0 p s = some (.inr x) ∧ _
    refine ⟨(p, s), by unfold f_X9_walks_L67; rw [if_pos rfl], ?_⟩
    rw [← hZ2]
    exact ⟨w1, w2, w3, w4⟩
theorem isCell_eq (n v : Int32) : f_X9_isCell n v = f_X8_isHouse n v := by
  unfold f_X9_isCell f_X8_isHouse
  rw [in_up]
theorem walks_eq {C W R nb nd n a f : Nat} (hW6 : W ≤ 6) (hR6 : R ≤ 6) (hC : C = R * W) (hC2 : C ≤ 36) (hRW : R = 0 ↔ W = 0) (hn : n < 10) (ha : a ≤ 5) (hf : f ≤ 10) (gone : Int32) {mc set mb md bn bt dn dt path steps : Nat → Int32} (hs0 : set 0 = nI a) (hs1 : set 1 = nI f) (hb : RowOK 10 nb mb bn bt) (hd : RowOK 8 nd md dn dt) {prev : List Nat} (hp : PrevOK n prev path steps) :
    ∃ p s, f_X9_walks (nI C) (nI W) (nI nb) (nI nd) gone mc set mb md path steps (nI n) = some (p, s) ∧ Walked n (night1 W C mc (firstF W R mc a) (n < f) (stP (aOf mc nd dn dt n) prev) (bOf mc (prM gone) nb bn bt n)) path steps p s := by
  have none : ∀ Z, Z = [] → Walked n Z path steps path (upd steps n (-1)) := by
    intro Z hZ; subst hZ
    exact ⟨trivial, upd_at _ _ _, fun _ _ => rfl, fun j hj => upd_ne _ _ hj⟩
  unfold f_X9_walks
  rw [tn_0, tn_1, hs0, hs1, show nI a * nI W = nI (a * W) from pk_mul a W, letv_def, gd_t (inb_n hn (by omega)), tnN (by omega), isCell_eq]
  by_cases hfz : f ≤ n
  · rw [if_pos (by rw [nI_le_i (by omega) (by omega)]; exact hfz)]
    exact ⟨_, _, rfl, none _ (by unfold night1; rw [if_neg (by omega)])⟩
  rw [if_neg (by rw [nI_le_i (by omega) (by omega)]; exact hfz)]
  have haW : a * W ≤ 5 * 6 := Nat.mul_le_mul ha hW6
  rcases isHouse_cases (nI (a * W)) (N := C) (by omega) with ⟨e1, e2⟩ | ⟨e1, k, hk, e2⟩
  · rw [e1, bind1_def, if_pos rfl]
    refine ⟨_, _, rfl, none _ ?_⟩
    have hF : firstF W R mc a = [] := by
      unfold firstF
      rw [if_neg]
      intro q
      exact e2 ⟨a * W, first_lt hC hRW q.1, rfl⟩
    unfold night1
    rw [if_pos (by omega), if_pos hF]
  · rw [nI_eq_i (by omega) (by omega)] at e2
    have haR : a < R := by
      rcases Nat.lt_or_ge a R with q | q
      · exact q
      · have := Nat.mul_le_mul (Nat.le_refl W) q
        rw [Nat.mul_comm W R, Nat.mul_comm W a] at this
        omega
    have hlt := first_lt hC hRW haR
    rw [e1, bind1_def, if_neg one_ne0, gd_t (inb_n (by omega) (by omega)), tnN (by omega)]
    by_cases hk1 : mc (a * W) = 1
    · rw [if_pos hk1]
      refine ⟨_, _, rfl, none _ ?_⟩
      have hF : firstF W R mc a = [] := by unfold firstF; rw [if_neg (fun q => q.2 hk1)]
      unfold night1
      rw [if_pos (by omega), if_pos hF]
    · have hF : firstF W R mc a = [a * W] := by unfold firstF; rw [if_pos ⟨haR, hk1⟩]
      rw [if_neg hk1, gd_t (inb_n hn (by omega)), show (25 : Int32) * nI n = nI (25 * n) from pk_mul 25 n, gd_t (inb_n (by omega) (by omega)), tnN (by omega)]
      obtain ⟨⟨p, s⟩, x1, x2⟩ := walks_loop (nb := nb) (nd := nd) (f := a * W) hW6 hC hC2 hn hlt gone (mc := mc) hb hd hp
      rw [x1, bind2_def]
      refine ⟨p, s, rfl, ?_⟩
      unfold night1
      rw [if_pos (by omega), hF, if_neg (List.cons_ne_nil _ _)]
      exact x2
