variable {C W R N nb nd ns a f : Nat} {kinds rowAt colAt ways beside places dues bn bt dn dt sn sh sr mc mh ms mb md mg : Nat → Int32}
def cutI (fo : Nat) (x : Int32) : Int32 := if fo = 0 then x.toInt8.toInt32 else if fo = 1 then x.toInt16.toInt32 else x
theorem cut_eq {fo : Nat} (h : fo ≤ 2) (x : Int32) : f_X9_cut (nI fo) x = some (cutI fo x) := by
  rcases (show fo = 0 ∨ fo = 1 ∨ fo = 2 by omega) with rfl | rfl | rfl <;> rfl
theorem keep_cut {fo i : Nat} (h : fo ≤ 2) (hi : i < 60) (items : Nat → Int32) (x : Int32) : f_X5_keep (nI fo) items (nI i) x = some (upd items i (cutI fo x)) := by
  obtain ⟨w, k1, k2⟩ := keep_eq h hi items x
  rw [cut_eq h] at k2
  rw [k1, Option.some.inj k2]
def wri (g : Nat → Int32) (items : Nat → Int32) : Nat → Nat → Int32
  | 0 => items
  | k + 1 => upd (wri g items k) k (g k)
def wrm (g : Nat → Int32) (s : Nat) (its : Nat → Int32) : Nat → Nat → Int32
  | 0 => its
  | k + 1 => upd (wrm g s its k) (60 * s + k) (g k)
theorem wr_pair (g : Nat → Int32) {s n : Nat} {items its : Nat → Int32} (h : ∀ j, j < n → its (60 * s + j) = items j) : ∀ K j, j < n → wrm g s its K (60 * s + j) = wri g items K j := by
  intro K
  induction K with
  | zero => intro j hj; exact h j hj
  | succ K ih =>
    intro j hj
    show upd (wrm g s its K) (60 * s + K) (g K) (60 * s + j) = upd (wri g items K) K (g K) j
    by_cases e : j = K
    · rw [e, upd_at, upd_at]
    · rw [upd_ne _ _ (by omega), upd_ne _ _ e]; exact ih j hj
theorem wr_far (g : Nat → Int32) {s : Nat} (its : Nat → Int32) : ∀ K, K ≤ 60 → ∀ j, (j < 60 * s ∨ 60 * s + 60 ≤ j) → wrm g s its K j = its j := by
  intro K
  induction K with
  | zero => intro _ j _; rfl
  | succ K ih =>
    intro hK j hj
    show upd (wrm g s its K) (60 * s + K) (g K) j = its j
    rw [upd_ne _ _ (by omega)]; exact ih (by omega) j hj
theorem min25 {n : Nat} (hn : n ≤ 60) : (if (25 : Int32) < nI n then (25 : Int32) else nI n) = nI (min n 25) := by
  by_cases h : 25 < n
  · rw [if_pos (by rw [show (25 : Int32) = nI 25 from rfl, nI_lt_i (by omega) (by omega)]; exact h), Nat.min_eq_right (by omega)]; rfl
  · rw [if_neg (by rw [show (25 : Int32) = nI 25 from rfl, nI_lt_i (by omega) (by omega)]; exact h), Nat.min_eq_left (by omega)]
theorem min25M {n : Nat} (hn : n ≤ 60) : f_X9_lesser (nI n) (25 : Int32) = some (nI (min n 25)) := by
  unfold f_X9_lesser
  by_cases h : 25 ≤ n
  · rw [if_pos (by rw [show (25 : Int32) = nI 25 from rfl, nI_le_i (by omega) (by omega)]; exact h), Nat.min_eq_right h]; rfl
  · rw [if_neg (by rw [show (25 : Int32) = nI 25 from rfl, nI_le_i (by omega) (by omega)]; exact h), Nat.min_eq_left (by omega)]
theorem writeLoopM {fo s n : Nat} (hs : s < 4) (hfo : fo ≤ 2) {forms p st its v : Nat → Int32} {x1 : Int32} (hf : forms s = nI fo) (hv : ∀ k, k < 25 → f_X9_atOf p st x1 (nI k) = some (v k)) : loopF (fun q : Int32 × (Nat → Int32) => f_X9_write_L51 forms p st x1 (nI s) (nI (min n 25)) q.1 q.2) FU (0, its) = some (wrm (fun k => cutI fo (v k)) s its (min n 25)) := by
  refine loop_for (fun k => (nI k, wrm (fun k => cutI fo (v k)) s its k)) (min n 25) (fun k hk => ?_) ?_ (by omega)
  · dsimp only
    unfold f_X9_write_L51
    rw [if_neg (by rw [nI_le_i (by omega) (by omega)]; omega), gd_t (inb_n hs (by omega)), hv k (by omega), bind1_def, tnN (by omega), hf, cut_eq hfo, bind1_def, show (60 : Int32) * nI s + nI k = nI (60 * s + k) from by rw [show (60 : Int32) = nI 60 from rfl, pk_mul, nI_add], gd_t (inb_n (by omega) (by omega)), tnN (by omega), show nI k + 1 = nI (k + 1) from nI_1 _]; rfl
  · dsimp only
    unfold f_X9_write_L51
    rw [if_pos (by rw [nI_le_i (by omega) (by omega)]; omega)]
theorem writeLoop0 {fo n : Nat} (hfo : fo ≤ 2) {tr go i0 i1 i2 i3 v : Nat → Int32} {o0 o1 o2 o3 x1 : Int32} (hf : o0 = nI fo) (hv : ∀ k, k < 25 → f_X7_trackAt tr go x1 (nI k) = some (v k)) : loopF (fun q : Int32 × (Nat → Int32) × (Nat → Int32) × (Nat → Int32) × (Nat → Int32) => f_X8_write_L58 tr go o0 o1 o2 o3 x1 (nI (min n 25)) q.1 q.2.1 q.2.2.1 q.2.2.2.1 q.2.2.2.2) FU (0, i0, i1, i2, i3) = some (wri (fun k => cutI fo (v k)) i0 (min n 25), i1, i2, i3) := by
  refine loop_for (fun k => (nI k, wri (fun k => cutI fo (v k)) i0 k, i1, i2, i3)) (min n 25) (fun k hk => ?_) ?_ (by omega)
  · dsimp only
    unfold f_X8_write_L58
    rw [if_neg (by rw [nI_le_i (by omega) (by omega)]; omega), hv k (by omega), bind1_def, hf, keep_cut hfo (by omega), bind1_def, show nI k + 1 = nI (k + 1) from nI_1 _]; rfl
  · dsimp only
    unfold f_X8_write_L58
    rw [if_pos (by rw [nI_le_i (by omega) (by omega)]; omega)]
theorem writeLoop1 {fo n : Nat} (hfo : fo ≤ 2) {tr go i0 i1 i2 i3 v : Nat → Int32} {o0 o1 o2 o3 x1 : Int32} (hf : o1 = nI fo) (hv : ∀ k, k < 25 → f_X7_trackAt tr go x1 (nI k) = some (v k)) : loopF (fun q : Int32 × (Nat → Int32) × (Nat → Int32) × (Nat → Int32) × (Nat → Int32) => f_X8_write_L58_v1 tr go o0 o1 o2 o3 x1 (nI (min n 25)) q.1 q.2.1 q.2.2.1 q.2.2.2.1 q.2.2.2.2) FU (0, i0, i1, i2, i3) = some (i0, wri (fun k => cutI fo (v k)) i1 (min n 25), i2, i3) := by
  refine loop_for (fun k => (nI k, i0, wri (fun k => cutI fo (v k)) i1 k, i2, i3)) (min n 25) (fun k hk => ?_) ?_ (by omega)
  · dsimp only
    unfold f_X8_write_L58_v1
    rw [if_neg (by rw [nI_le_i (by omega) (by omega)]; omega), hv k (by omega), bind1_def, hf, keep_cut hfo (by omega), bind1_def, show nI k + 1 = nI (k + 1) from nI_1 _]; rfl
  · dsimp only
    unfold f_X8_write_L58_v1
    rw [if_pos (by rw [nI_le_i (by omega) (by omega)]; omega)]
theorem writeLoop2 {fo n : Nat} (hfo : fo ≤ 2) {tr go i0 i1 i2 i3 v : Nat → Int32} {o0 o1 o2 o3 x1 : Int32} (hf : o2 = nI fo) (hv : ∀ k, k < 25 → f_X7_trackAt tr go x1 (nI k) = some (v k)) : loopF (fun q : Int32 × (Nat → Int32) × (Nat → Int32) × (Nat → Int32) × (Nat → Int32) => f_X8_write_L58_v2 tr go o0 o1 o2 o3 x1 (nI (min n 25)) q.1 q.2.1 q.2.2.1 q.2.2.2.1 q.2.2.2.2) FU (0, i0, i1, i2, i3) = some (i0, i1, wri (fun k => cutI fo (v k)) i2 (min n 25), i3) := by
  refine loop_for (fun k => (nI k, i0, i1, wri (fun k => cutI fo (v k)) i2 k, i3)) (min n 25) (fun k hk => ?_) ?_ (by omega)
  · dsimp only
    unfold f_X8_write_L58_v2
    rw [if_neg (by rw [nI_le_i (by omega) (by omega)]; omega), hv k (by omega), bind1_def, hf, keep_cut hfo (by omega), bind1_def, show nI k + 1 = nI (k + 1) from nI_1 _]; rfl
  · dsimp only
    unfold f_X8_write_L58_v2
    rw [if_pos (by rw [nI_le_i (by omega) (by omega)]; omega)]
theorem writeLoop3 {fo n : Nat} (hfo : fo ≤ 2) {tr go i0 i1 i2 i3 v : Nat → Int32} {o0 o1 o2 o3 x1 : Int32} (hf : o3 = nI fo) (hv : ∀ k, k < 25 → f_X7_trackAt tr go x1 (nI k) = some (v k)) : loopF (fun q : Int32 × (Nat → Int32) × (Nat → Int32) × (Nat → Int32) × (Nat → Int32) => f_X8_write_L58_v3 tr go o0 o1 o2 o3 x1 (nI (min n 25)) q.1 q.2.1 q.2.2.1 q.2.2.2.1 q.2.2.2.2) FU (0, i0, i1, i2, i3) = some (i0, i1, i2, wri (fun k => cutI fo (v k)) i3 (min n 25)) := by
  refine loop_for (fun k => (nI k, i0, i1, i2, wri (fun k => cutI fo (v k)) i3 k)) (min n 25) (fun k hk => ?_) ?_ (by omega)
  · dsimp only
    unfold f_X8_write_L58_v3
    rw [if_neg (by rw [nI_le_i (by omega) (by omega)]; omega), hv k (by omega), bind1_def, hf, keep_cut hfo (by omega), bind1_def, show nI k + 1 = nI (k + 1) from nI_1 _]; rfl
  · dsimp only
    unfold f_X8_write_L58_v3
    rw [if_pos (by rw [nI_le_i (by omega) (by omega)]; omega)]
theorem sim_write {xi : Nat → Int32} {xa : Nat → Nat → Int32} {xl : Nat → Int64} {xm : Nat → Nat → Int64} {mi : Nat → Int32} {ma : Nat → Nat → Int32} (h : Rel xi xa xl xm mi ma) (z1 z2 : Int32) : ∃ (r : Int32) (c1 : Int32) (c2 : Int32) (c3 : Nat → Int32) (c4 : Nat → Int32) (c5 : Nat → Int32) (c6 : Nat → Int32) (c7 : Nat → Int64) (c8 : Nat → Int32) (c9 : Nat → Int32) (c10 : Nat → Int32) (c11 : Nat → Int32) (c12 : Nat → Int32) (d1 : Int32) (d2 : Int32) (d3 : Int32) (d4 : Int32) (d5 : Nat → Int32) (d6 : Nat → Int32) (d7 : Nat → Int32) (d8 : Nat → Int32) (d9 : Nat → Int32) (d10 : Nat → Int32) , f_X8_write (xi 0) (xi 1) (xi 5) (xi 6) (xi 7) (xa 2) (xa 3) (xa 4) (xa 5) (xa 6) (xi 10) (xa 9) (xa 10) (xi 11) (xa 12) (xa 13) (xi 13) (xi 14) (xi 15) (xi 16) (xa 18) (xa 19) (xa 20) (xa 21) (xm 0) (xa 22) (xi 24) (xi 25) (xi 26) (xa 29) (xi 27) (xi 28) (xi 29) (xa 30) (xi 30) (xi 31) (xi 32) (xa 31) (xi 33) (xi 34) (xi 35) (xa 32) z1 z2 = some (r, c1, c2, c3, c4, c5, c6, c7, c8, c9, c10, c11, c12) ∧ f_X9_write (mi 0) (mi 1) (mi 2) (mi 3) (mi 4) (mi 5) (mi 6) (ma 0) (ma 1) (ma 2) (ma 4) (ma 5) (ma 6) (ma 7) (ma 8) (ma 9) (ma 10) (ma 11) (ma 12) (ma 13) z1 z2 = some (r, d1, d2, d3, d4, d5, d6, d7, d8, d9, d10) ∧ Rel (va_up (va_up xi 0 c1) 1 c2) (va_up (va_up (va_up (va_up (va_up (va_up (va_up (va_up (va_up xa 18 c3) 19 c4) 20 c5) 21 c6) 22 c8) 29 c9) 30 c10) 31 c11) 32 c12) xl (va_up xm 0 c7) (va_up (va_up (va_up (va_up mi 0 d1) 1 d2) 2 d3) 3 d4) (va_up (va_up (va_up (va_up (va_up (va_up ma 2 d5) 6 d6) 7 d7) 11 d8) 12 d9) 13 d10) := by
  obtain ⟨C, W, R, N, nb, nd, ns, a, f, ⟨⟨c1, c2, c3⟩, n1, ⟨b1, d1, s1⟩, a1, f1, p1, p2⟩, ⟨b2, d2, p3, s2⟩, hX, hSO, ⟨st, fr, tr, go, td, li, hT, hC, hR⟩, mc, mh, p, s, l, hF, hM, hN⟩ := h.all
  rw [c1, c2, c3, b1, d1, a1, f1, p1, p2, b2, d2, p3]
  obtain ⟨hT0, hT1, hL, hH, hB, hD, hS, hSe, hFi, hSh, hW⟩ := id h
  rcases isNight_cases z1 with ⟨e1, -⟩ | ⟨e1, n, hn, rfl⟩
  · exact ⟨-2, xi 0, xi 1, xa 18, xa 19, xa 20, xa 21, xm 0, xa 22, xa 29, xa 30, xa 31, xa 32, mi 0, mi 1, mi 2, mi 3, ma 2, ma 6, ma 7, ma 11, ma 12, ma 13, by unfold f_X8_write; rw [e1]; rfl, by unfold f_X9_write; rw [isNight_eq, e1]; rfl, by simp only [up_self]; exact h⟩
  rcases upTo_cases z2 (M := 3) (by omega) with ⟨e2, -⟩ | ⟨e2, k, hk, rfl⟩
  · exact ⟨-2, xi 0, xi 1, xa 18, xa 19, xa 20, xa 21, xm 0, xa 22, xa 29, xa 30, xa 31, xa 32, mi 0, mi 1, mi 2, mi 3, ma 2, ma 6, ma 7, ma 11, ma 12, ma 13, by unfold f_X8_write; rw [e1, show f_X8_isUpTo z2 (3 : Int32) = some 0 from e2]; rfl, by unfold f_X9_write; rw [isNight_eq, e1, isSheet_eq, show f_X8_isUpTo z2 (3 : Int32) = some 0 from e2]; rfl, by simp only [up_self]; exact h⟩
  have hvx : ∀ k, k < 25 → f_X7_trackAt tr go (nI n) (nI k) = some (atS (NLs C W R (xa 2) (xa 2) (fun _ => true) nb (xa 9) (xa 10) nd (xa 12) (xa 13) a f n) k) := fun k hk => trackX hC (n := n) (by omega) (by omega) (by omega) (NLs_len hX.grid ..)
  have hvm : ∀ k, k < 25 → f_X9_atOf p s (nI n) (nI k) = some (atS (NLs C W R (xa 2) (xa 2) (fun _ => true) nb (xa 9) (xa 10) nd (xa 12) (xa 13) a f n) k) := fun k hk => atM hN (n := n) (by omega) (by omega) (by omega) (NLs_len hX.grid ..)
  rcases (show k = 0 ∨ k = 1 ∨ k = 2 ∨ k = 3 by omega) with rfl | rfl | rfl | rfl
  · rcases hSh.1 with ⟨lo, fm⟩ | ⟨lo, ⟨fo, hfo, g2, g3⟩, m, hm, g5, g6, hit⟩
    · refine ⟨-11, xi 0, 1, xa 18, xa 19, xa 20, xa 21, xm 0, xa 22, xa 29, xa 30, xa 31, xa 32, 1, mi 1, mi 2, mi 3, ma 2, ma 6, ma 7, ma 11, ma 12, ma 13, ?_, ?_, ?_⟩
      · unfold f_X8_write; rw [e1, show f_X8_isUpTo (nI 0) (3 : Int32) = some 1 from e2, bind1_def, if_neg one_ne0, bind1_def, if_neg one_ne0]
        simp only [if_pos (show nI 0 = (0 : Int32) from rfl)]
        rw [lo, if_neg one_ne0]; rfl
      · unfold f_X9_write; rw [isNight_eq, e1, isSheet_eq, show f_X8_isUpTo (nI 0) (3 : Int32) = some 1 from e2, bind1_def, if_neg one_ne0, bind1_def, if_neg one_ne0, gd_t (inb_n (by omega) (by omega)), tnN (by omega), fm, if_neg nle_m1]; rfl
      · simp only [up_self]
        have hSh2 : RSheets xi xa (ma 0) (ma 1) (ma 2) := hSh
        exact ⟨hT0, hT1, hL, hH, hB, hD, hS, hSe, rfl, hSh2, hW⟩
    · refine ⟨nI (min m 25), 0, xi 1, st, fr, tr, go, td, li, (wri (fun k => cutI fo (atS (NLs C W R (xa 2) (xa 2) (fun _ => true) nb (xa 9) (xa 10) nd (xa 12) (xa 13) a f n) k)) (xa 29) (min m 25)), (xa 30), (xa 31), (xa 32), mi 0, nI C, nI W, nI N, (wrm (fun k => cutI fo (atS (NLs C W R (xa 2) (xa 2) (fun _ => true) nb (xa 9) (xa 10) nd (xa 12) (xa 13) a f n) k)) 0 (ma 2) (min m 25)), mc, mh, p, s, l, ?_, ?_, ?_⟩
      · unfold f_X8_write; rw [e1, show f_X8_isUpTo (nI 0) (3 : Int32) = some 1 from e2, bind1_def, if_neg one_ne0, bind1_def, if_neg one_ne0]
        simp only [if_pos (show nI 0 = (0 : Int32) from rfl)]
        rw [lo, if_pos rfl, hT, bind7_def, letv_def, g5, min25 hm, writeLoop0 hfo g2 hvx, bind4_def]
      · unfold f_X9_write; rw [isNight_eq, e1, isSheet_eq, show f_X8_isUpTo (nI 0) (3 : Int32) = some 1 from e2, bind1_def, if_neg one_ne0, bind1_def, if_neg one_ne0, gd_t (inb_n (by omega) (by omega)), tnN (by omega), g3, if_pos (nI_ge0 (by omega)), hF, bind8_def, gd_t (inb_n (by omega) (by omega)), g6, min25M hm, bind1_def, writeLoopM (by omega) hfo g3 hvm, bind1_def]
      · obtain ⟨hT0', hT1', hL', hH', hB', hD', hS', hSe', hFi', -, hW'⟩ := hR
        have hSh2 : RSheet 0 (xi 24) (xi 25) (xi 26) (wri (fun k => cutI fo (atS (NLs C W R (xa 2) (xa 2) (fun _ => true) nb (xa 9) (xa 10) nd (xa 12) (xa 13) a f n) k)) (xa 29) (min m 25)) (ma 0) (ma 1) (wrm (fun k => cutI fo (atS (NLs C W R (xa 2) (xa 2) (fun _ => true) nb (xa 9) (xa 10) nd (xa 12) (xa 13) a f n) k)) 0 (ma 2) (min m 25)) ∧ RSheet 1 (xi 27) (xi 28) (xi 29) (xa 30) (ma 0) (ma 1) (wrm (fun k => cutI fo (atS (NLs C W R (xa 2) (xa 2) (fun _ => true) nb (xa 9) (xa 10) nd (xa 12) (xa 13) a f n) k)) 0 (ma 2) (min m 25)) ∧ RSheet 2 (xi 30) (xi 31) (xi 32) (xa 31) (ma 0) (ma 1) (wrm (fun k => cutI fo (atS (NLs C W R (xa 2) (xa 2) (fun _ => true) nb (xa 9) (xa 10) nd (xa 12) (xa 13) a f n) k)) 0 (ma 2) (min m 25)) ∧ RSheet 3 (xi 33) (xi 34) (xi 35) (xa 32) (ma 0) (ma 1) (wrm (fun k => cutI fo (atS (NLs C W R (xa 2) (xa 2) (fun _ => true) nb (xa 9) (xa 10) nd (xa 12) (xa 13) a f n) k)) 0 (ma 2) (min m 25)) := ⟨Or.inr ⟨lo, ⟨fo, hfo, g2, g3⟩, m, hm, g5, g6, wr_pair _ hit _⟩, hSh.2.1.keep rfl rfl (fun j hj => wr_far _ _ _ (by omega) _ (by omega)), hSh.2.2.1.keep rfl rfl (fun j hj => wr_far _ _ _ (by omega) _ (by omega)), hSh.2.2.2.keep rfl rfl (fun j hj => wr_far _ _ _ (by omega) _ (by omega))⟩
        exact ⟨hT0', hT1', hL', hH', hB', hD', hS', hSe', hFi', hSh2, hW'⟩
  · rcases hSh.2.1 with ⟨lo, fm⟩ | ⟨lo, ⟨fo, hfo, g2, g3⟩, m, hm, g5, g6, hit⟩
    · refine ⟨-11, xi 0, 1, xa 18, xa 19, xa 20, xa 21, xm 0, xa 22, xa 29, xa 30, xa 31, xa 32, 1, mi 1, mi 2, mi 3, ma 2, ma 6, ma 7, ma 11, ma 12, ma 13, ?_, ?_, ?_⟩
      · unfold f_X8_write; rw [e1, show f_X8_isUpTo (nI 1) (3 : Int32) = some 1 from e2, bind1_def, if_neg one_ne0, bind1_def, if_neg one_ne0]
        simp only [if_neg (show ¬ nI 1 = (0 : Int32) by decide), if_pos (show nI 1 = (1 : Int32) from rfl)]
        rw [lo, if_neg one_ne0]; rfl
      · unfold f_X9_write; rw [isNight_eq, e1, isSheet_eq, show f_X8_isUpTo (nI 1) (3 : Int32) = some 1 from e2, bind1_def, if_neg one_ne0, bind1_def, if_neg one_ne0, gd_t (inb_n (by omega) (by omega)), tnN (by omega), fm, if_neg nle_m1]; rfl
      · simp only [up_self]
        have hSh2 : RSheets xi xa (ma 0) (ma 1) (ma 2) := hSh
        exact ⟨hT0, hT1, hL, hH, hB, hD, hS, hSe, rfl, hSh2, hW⟩
    · refine ⟨nI (min m 25), 0, xi 1, st, fr, tr, go, td, li, (xa 29), (wri (fun k => cutI fo (atS (NLs C W R (xa 2) (xa 2) (fun _ => true) nb (xa 9) (xa 10) nd (xa 12) (xa 13) a f n) k)) (xa 30) (min m 25)), (xa 31), (xa 32), mi 0, nI C, nI W, nI N, (wrm (fun k => cutI fo (atS (NLs C W R (xa 2) (xa 2) (fun _ => true) nb (xa 9) (xa 10) nd (xa 12) (xa 13) a f n) k)) 1 (ma 2) (min m 25)), mc, mh, p, s, l, ?_, ?_, ?_⟩
      · unfold f_X8_write; rw [e1, show f_X8_isUpTo (nI 1) (3 : Int32) = some 1 from e2, bind1_def, if_neg one_ne0, bind1_def, if_neg one_ne0]
        simp only [if_neg (show ¬ nI 1 = (0 : Int32) by decide), if_pos (show nI 1 = (1 : Int32) from rfl)]
        rw [lo, if_pos rfl, hT, bind7_def, letv_def, g5, min25 hm, writeLoop1 hfo g2 hvx, bind4_def]
      · unfold f_X9_write; rw [isNight_eq, e1, isSheet_eq, show f_X8_isUpTo (nI 1) (3 : Int32) = some 1 from e2, bind1_def, if_neg one_ne0, bind1_def, if_neg one_ne0, gd_t (inb_n (by omega) (by omega)), tnN (by omega), g3, if_pos (nI_ge0 (by omega)), hF, bind8_def, gd_t (inb_n (by omega) (by omega)), g6, min25M hm, bind1_def, writeLoopM (by omega) hfo g3 hvm, bind1_def]
      · obtain ⟨hT0', hT1', hL', hH', hB', hD', hS', hSe', hFi', -, hW'⟩ := hR
        have hSh2 : RSheet 0 (xi 24) (xi 25) (xi 26) (xa 29) (ma 0) (ma 1) (wrm (fun k => cutI fo (atS (NLs C W R (xa 2) (xa 2) (fun _ => true) nb (xa 9) (xa 10) nd (xa 12) (xa 13) a f n) k)) 1 (ma 2) (min m 25)) ∧ RSheet 1 (xi 27) (xi 28) (xi 29) (wri (fun k => cutI fo (atS (NLs C W R (xa 2) (xa 2) (fun _ => true) nb (xa 9) (xa 10) nd (xa 12) (xa 13) a f n) k)) (xa 30) (min m 25)) (ma 0) (ma 1) (wrm (fun k => cutI fo (atS (NLs C W R (xa 2) (xa 2) (fun _ => true) nb (xa 9) (xa 10) nd (xa 12) (xa 13) a f n) k)) 1 (ma 2) (min m 25)) ∧ RSheet 2 (xi 30) (xi 31) (xi 32) (xa 31) (ma 0) (ma 1) (wrm (fun k => cutI fo (atS (NLs C W R (xa 2) (xa 2) (fun _ => true) nb (xa 9) (xa 10) nd (xa 12) (xa 13) a f n) k)) 1 (ma 2) (min m 25)) ∧ RSheet 3 (xi 33) (xi 34) (xi 35) (xa 32) (ma 0) (ma 1) (wrm (fun k => cutI fo (atS (NLs C W R (xa 2) (xa 2) (fun _ => true) nb (xa 9) (xa 10) nd (xa 12) (xa 13) a f n) k)) 1 (ma 2) (min m 25)) := ⟨hSh.1.keep rfl rfl (fun j hj => wr_far _ _ _ (by omega) _ (by omega)), Or.inr ⟨lo, ⟨fo, hfo, g2, g3⟩, m, hm, g5, g6, wr_pair _ hit _⟩, hSh.2.2.1.keep rfl rfl (fun j hj => wr_far _ _ _ (by omega) _ (by omega)), hSh.2.2.2.keep rfl rfl (fun j hj => wr_far _ _ _ (by omega) _ (by omega))⟩
        exact ⟨hT0', hT1', hL', hH', hB', hD', hS', hSe', hFi', hSh2, hW'⟩
  · rcases hSh.2.2.1 with ⟨lo, fm⟩ | ⟨lo, ⟨fo, hfo, g2, g3⟩, m, hm, g5, g6, hit⟩
    · refine ⟨-11, xi 0, 1, xa 18, xa 19, xa 20, xa 21, xm 0, xa 22, xa 29, xa 30, xa 31, xa 32, 1, mi 1, mi 2, mi 3, ma 2, ma 6, ma 7, ma 11, ma 12, ma 13, ?_, ?_, ?_⟩
      · unfold f_X8_write; rw [e1, show f_X8_isUpTo (nI 2) (3 : Int32) = some 1 from e2, bind1_def, if_neg one_ne0, bind1_def, if_neg one_ne0]
        simp only [if_neg (show ¬ nI 2 = (0 : Int32) by decide), if_neg (show ¬ nI 2 = (1 : Int32) by decide), if_pos (show nI 2 = (2 : Int32) from rfl)]
        rw [lo, if_neg one_ne0]; rfl
      · unfold f_X9_write; rw [isNight_eq, e1, isSheet_eq, show f_X8_isUpTo (nI 2) (3 : Int32) = some 1 from e2, bind1_def, if_neg one_ne0, bind1_def, if_neg one_ne0, gd_t (inb_n (by omega) (by omega)), tnN (by omega), fm, if_neg nle_m1]; rfl
      · simp only [up_self]
        have hSh2 : RSheets xi xa (ma 0) (ma 1) (ma 2) := hSh
        exact ⟨hT0, hT1, hL, hH, hB, hD, hS, hSe, rfl, hSh2, hW⟩
    · refine ⟨nI (min m 25), 0, xi 1, st, fr, tr, go, td, li, (xa 29), (xa 30), (wri (fun k => cutI fo (atS (NLs C W R (xa 2) (xa 2) (fun _ => true) nb (xa 9) (xa 10) nd (xa 12) (xa 13) a f n) k)) (xa 31) (min m 25)), (xa 32), mi 0, nI C, nI W, nI N, (wrm (fun k => cutI fo (atS (NLs C W R (xa 2) (xa 2) (fun _ => true) nb (xa 9) (xa 10) nd (xa 12) (xa 13) a f n) k)) 2 (ma 2) (min m 25)), mc, mh, p, s, l, ?_, ?_, ?_⟩
      · unfold f_X8_write; rw [e1, show f_X8_isUpTo (nI 2) (3 : Int32) = some 1 from e2, bind1_def, if_neg one_ne0, bind1_def, if_neg one_ne0]
        simp only [if_neg (show ¬ nI 2 = (0 : Int32) by decide), if_neg (show ¬ nI 2 = (1 : Int32) by decide), if_pos (show nI 2 = (2 : Int32) from rfl)]
        rw [lo, if_pos rfl, hT, bind7_def, letv_def, g5, min25 hm, writeLoop2 hfo g2 hvx, bind4_def]
      · unfold f_X9_write; rw [isNight_eq, e1, isSheet_eq, show f_X8_isUpTo (nI 2) (3 : Int32) = some 1 from e2, bind1_def, if_neg one_ne0, bind1_def, if_neg one_ne0, gd_t (inb_n (by omega) (by omega)), tnN (by omega), g3, if_pos (nI_ge0 (by omega)), hF, bind8_def, gd_t (inb_n (by omega) (by omega)), g6, min25M hm, bind1_def, writeLoopM (by omega) hfo g3 hvm, bind1_def]
      · obtain ⟨hT0', hT1', hL', hH', hB', hD', hS', hSe', hFi', -, hW'⟩ := hR
        have hSh2 : RSheet 0 (xi 24) (xi 25) (xi 26) (xa 29) (ma 0) (ma 1) (wrm (fun k => cutI fo (atS (NLs C W R (xa 2) (xa 2) (fun _ => true) nb (xa 9) (xa 10) nd (xa 12) (xa 13) a f n) k)) 2 (ma 2) (min m 25)) ∧ RSheet 1 (xi 27) (xi 28) (xi 29) (xa 30) (ma 0) (ma 1) (wrm (fun k => cutI fo (atS (NLs C W R (xa 2) (xa 2) (fun _ => true) nb (xa 9) (xa 10) nd (xa 12) (xa 13) a f n) k)) 2 (ma 2) (min m 25)) ∧ RSheet 2 (xi 30) (xi 31) (xi 32) (wri (fun k => cutI fo (atS (NLs C W R (xa 2) (xa 2) (fun _ => true) nb (xa 9) (xa 10) nd (xa 12) (xa 13) a f n) k)) (xa 31) (min m 25)) (ma 0) (ma 1) (wrm (fun k => cutI fo (atS (NLs C W R (xa 2) (xa 2) (fun _ => true) nb (xa 9) (xa 10) nd (xa 12) (xa 13) a f n) k)) 2 (ma 2) (min m 25)) ∧ RSheet 3 (xi 33) (xi 34) (xi 35) (xa 32) (ma 0) (ma 1) (wrm (fun k => cutI fo (atS (NLs C W R (xa 2) (xa 2) (fun _ => true) nb (xa 9) (xa 10) nd (xa 12) (xa 13) a f n) k)) 2 (ma 2) (min m 25)) := ⟨hSh.1.keep rfl rfl (fun j hj => wr_far _ _ _ (by omega) _ (by omega)), hSh.2.1.keep rfl rfl (fun j hj => wr_far _ _ _ (by omega) _ (by omega)), Or.inr ⟨lo, ⟨fo, hfo, g2, g3⟩, m, hm, g5, g6, wr_pair _ hit _⟩, hSh.2.2.2.keep rfl rfl (fun j hj => wr_far _ _ _ (by omega) _ (by omega))⟩
        exact ⟨hT0', hT1', hL', hH', hB', hD', hS', hSe', hFi', hSh2, hW'⟩
  · rcases hSh.2.2.2 with ⟨lo, fm⟩ | ⟨lo, ⟨fo, hfo, g2, g3⟩, m, hm, g5, g6, hit⟩
    · refine ⟨-11, xi 0, 1, xa 18, xa 19, xa 20, xa 21, xm 0, xa 22, xa 29, xa 30, xa 31, xa 32, 1, mi 1, mi 2, mi 3, ma 2, ma 6, ma 7, ma 11, ma 12, ma 13, ?_, ?_, ?_⟩
      · unfold f_X8_write; rw [e1, show f_X8_isUpTo (nI 3) (3 : Int32) = some 1 from e2, bind1_def, if_neg one_ne0, bind1_def, if_neg one_ne0]
        simp only [if_neg (show ¬ nI 3 = (0 : Int32) by decide), if_neg (show ¬ nI 3 = (1 : Int32) by decide), if_neg (show ¬ nI 3 = (2 : Int32) by decide), if_pos (show nI 3 = (3 : Int32) from rfl)]
        rw [lo, if_neg one_ne0]; rfl
      · unfold f_X9_write; rw [isNight_eq, e1, isSheet_eq, show f_X8_isUpTo (nI 3) (3 : Int32) = some 1 from e2, bind1_def, if_neg one_ne0, bind1_def, if_neg one_ne0, gd_t (inb_n (by omega) (by omega)), tnN (by omega), fm, if_neg nle_m1]; rfl
      · simp only [up_self]
        have hSh2 : RSheets xi xa (ma 0) (ma 1) (ma 2) := hSh
        exact ⟨hT0, hT1, hL, hH, hB, hD, hS, hSe, rfl, hSh2, hW⟩
    · refine ⟨nI (min m 25), 0, xi 1, st, fr, tr, go, td, li, (xa 29), (xa 30), (xa 31), (wri (fun k => cutI fo (atS (NLs C W R (xa 2) (xa 2) (fun _ => true) nb (xa 9) (xa 10) nd (xa 12) (xa 13) a f n) k)) (xa 32) (min m 25)), mi 0, nI C, nI W, nI N, (wrm (fun k => cutI fo (atS (NLs C W R (xa 2) (xa 2) (fun _ => true) nb (xa 9) (xa 10) nd (xa 12) (xa 13) a f n) k)) 3 (ma 2) (min m 25)), mc, mh, p, s, l, ?_, ?_, ?_⟩
      · unfold f_X8_write; rw [e1, show f_X8_isUpTo (nI 3) (3 : Int32) = some 1 from e2, bind1_def, if_neg one_ne0, bind1_def, if_neg one_ne0]
        simp only [if_neg (show ¬ nI 3 = (0 : Int32) by decide), if_neg (show ¬ nI 3 = (1 : Int32) by decide), if_neg (show ¬ nI 3 = (2 : Int32) by decide), if_pos (show nI 3 = (3 : Int32) from rfl)]
        rw [lo, if_pos rfl, hT, bind7_def, letv_def, g5, min25 hm, writeLoop3 hfo g2 hvx, bind4_def]
      · unfold f_X9_write; rw [isNight_eq, e1, isSheet_eq, show f_X8_isUpTo (nI 3) (3 : Int32) = some 1 from e2, bind1_def, if_neg one_ne0, bind1_def, if_neg one_ne0, gd_t (inb_n (by omega) (by omega)), tnN (by omega), g3, if_pos (nI_ge0 (by omega)), hF, bind8_def, gd_t (inb_n (by omega) (by omega)), g6, min25M hm, bind1_def, writeLoopM (by omega) hfo g3 hvm, bind1_def]
      · obtain ⟨hT0', hT1', hL', hH', hB', hD', hS', hSe', hFi', -, hW'⟩ := hR
        have hSh2 : RSheet 0 (xi 24) (xi 25) (xi 26) (xa 29) (ma 0) (ma 1) (wrm (fun k => cutI fo (atS (NLs C W R (xa 2) (xa 2) (fun _ => true) nb (xa 9) (xa 10) nd (xa 12) (xa 13) a f n) k)) 3 (ma 2) (min m 25)) ∧ RSheet 1 (xi 27) (xi 28) (xi 29) (xa 30) (ma 0) (ma 1) (wrm (fun k => cutI fo (atS (NLs C W R (xa 2) (xa 2) (fun _ => true) nb (xa 9) (xa 10) nd (xa 12) (xa 13) a f n) k)) 3 (ma 2) (min m 25)) ∧ RSheet 2 (xi 30) (xi 31) (xi 32) (xa 31) (ma 0) (ma 1) (wrm (fun k => cutI fo (atS (NLs C W R (xa 2) (xa 2) (fun _ => true) nb (xa 9) (xa 10) nd (xa 12) (xa 13) a f n) k)) 3 (ma 2) (min m 25)) ∧ RSheet 3 (xi 33) (xi 34) (xi 35) (wri (fun k => cutI fo (atS (NLs C W R (xa 2) (xa 2) (fun _ => true) nb (xa 9) (xa 10) nd (xa 12) (xa 13) a f n) k)) (xa 32) (min m 25)) (ma 0) (ma 1) (wrm (fun k => cutI fo (atS (NLs C W R (xa 2) (xa 2) (fun _ => true) nb (xa 9) (xa 10) nd (xa 12) (xa 13) a f n) k)) 3 (ma 2) (min m 25)) := ⟨hSh.1.keep rfl rfl (fun j hj => wr_far _ _ _ (by omega) _ (by omega)), hSh.2.1.keep rfl rfl (fun j hj => wr_far _ _ _ (by omega) _ (by omega)), hSh.2.2.1.keep rfl rfl (fun j hj => wr_far _ _ _ (by omega) _ (by omega)), Or.inr ⟨lo, ⟨fo, hfo, g2, g3⟩, m, hm, g5, g6, wr_pair _ hit _⟩⟩
        exact ⟨hT0', hT1', hL', hH', hB', hD', hS', hSe', hFi', hSh2, hW'⟩
