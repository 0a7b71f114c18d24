theorem question_cases {N : Nat} (hN : N ≤ 8) (z1 z2 z3 : Int32) : (f_X8_isQuestion (nI N) z1 z2 z3 = some 0 ∧ (f_X8_isNight z1 = some 0 ∨ (f_X8_isNight z1 = some 1 ∧ f_X8_isHouse (nI N) z2 = some 0) ∨ (f_X8_isNight z1 = some 1 ∧ f_X8_isHouse (nI N) z2 = some 1 ∧ f_X8_isUpTo z3 2 = some 0))) ∨ (f_X8_isNight z1 = some 1 ∧ f_X8_isHouse (nI N) z2 = some 1 ∧ f_X8_isUpTo z3 2 = some 1 ∧ ∃ n h r : Nat, n < 10 ∧ h < N ∧ r ≤ 2 ∧ z1 = nI n ∧ z2 = nI h ∧ z3 = nI r) := by
  unfold f_X8_isQuestion
  rcases isNight_cases z1 with ⟨e1, -⟩ | ⟨e1, n, hn, rfl⟩
  · rw [e1]; exact Or.inl ⟨rfl, Or.inl rfl⟩
  rcases isHouse_cases z2 (N := N) (by omega) with ⟨e2, -⟩ | ⟨e2, h, hh, rfl⟩
  · rw [e1, e2]; exact Or.inl ⟨rfl, Or.inr (Or.inl ⟨rfl, rfl⟩)⟩
  rcases upTo_cases z3 (M := 2) (by omega) with ⟨e3, -⟩ | ⟨e3, r, hr, rfl⟩
  · rw [e1, e2, show f_X8_isUpTo z3 (2 : Int32) = some 0 from e3]; exact Or.inl ⟨rfl, Or.inr (Or.inr ⟨rfl, rfl, rfl⟩)⟩
  · exact Or.inr ⟨e1, e2, e3, n, h, r, by omega, hh, hr, rfl, rfl, rfl⟩
theorem sim_rake {xi : Nat → Int32} {xa : Nat → Nat → Int32} {xl : Nat → Int64} {xm : Nat → Nat → Int64} {mi : Nat → Int32} {ma : Nat → Nat → Int32} (h : Rel xi xa xl xm mi ma) (z1 z2 z3 : Int32) : ∃ (r : Int32) (c1 : Int32) (c2 : Int32) (c3 : Int32) (c4 : Int32) (c5 : Nat → Int32) (c6 : Nat → Int32) (c7 : Nat → Int32) (c8 : Nat → Int32) (c9 : Nat → Int64) (c10 : Nat → Int32) (d1 : Int32) (d2 : Int32) (d3 : Int32) (d4 : Nat → Int32) (d5 : Nat → Int32) (d6 : Nat → Int32) (d7 : Nat → Int32) (d8 : Nat → Int32) , f_X8_rake (xi 5) (xi 6) (xi 7) (xa 2) (xa 3) (xa 4) (xa 5) (xa 6) (xi 9) (xa 7) (xi 10) (xa 9) (xa 10) (xi 11) (xa 12) (xa 13) (xi 13) (xi 14) (xi 15) (xi 16) (xi 17) (xi 18) (xi 19) (xi 20) (xa 23) (xa 24) (xa 25) (xa 26) (xm 1) (xa 27) z1 z2 z3 = some (r, c1, c2, c3, c4, c5, c6, c7, c8, c9, c10) ∧ f_X9_rake (mi 1) (mi 2) (mi 3) (mi 4) (mi 5) (mi 6) (ma 4) (ma 5) (ma 6) (ma 7) (ma 8) (ma 9) (ma 10) (ma 11) (ma 12) (ma 13) z1 z2 z3 = some (r, d1, d2, d3, d4, d5, d6, d7, d8) ∧ Rel (va_up (va_up (va_up (va_up xi 17 c1) 18 c2) 19 c3) 20 c4) (va_up (va_up (va_up (va_up (va_up xa 23 c5) 24 c6) 25 c7) 26 c8) 27 c10) xl (va_up xm 1 c9) (va_up (va_up (va_up mi 1 d1) 2 d2) 3 d3) (va_up (va_up (va_up (va_up (va_up ma 6 d4) 7 d5) 11 d6) 12 d7) 13 d8) := by
  obtain ⟨C, W, R, N, nb, nd, ns, a, f, ⟨⟨c1, c2, c3⟩, n1, ⟨b1, d1, s1⟩, a1, f1, p1, p2⟩, ⟨b2, d2, p3, s2⟩, hX, hSO, ⟨st, fr, tr, go, td, li, hT, hC, hR⟩, mc, mh, p, s, l, hF, hM, hN⟩ := h.all
  rw [c1, c2, c3, n1, b1, d1, a1, f1, p1, p2, b2, d2, p3]
  rcases question_cases hX.n8 z1 z2 z3 with ⟨e, e'⟩ | ⟨e1, e2, e3, n, k, r, hn, hk, hr, rfl, rfl, rfl⟩
  · refine ⟨-2, xi 17, xi 18, xi 19, xi 20, xa 23, xa 24, xa 25, xa 26, xm 1, xa 27, nI C, nI W, nI N, mc, mh, p, s, l, by unfold f_X8_rake; rw [e]; rfl, ?_, h⟩
    unfold f_X9_rake
    rw [hF, bind8_def, isNight_eq, isHouse_eq, in2]
    rcases e' with q | ⟨q1, q2⟩ | ⟨q1, q2, q3⟩
    · rw [q]; rfl
    · rw [q1, q2]; rfl
    · rw [q1, q2, q3]; rfl
  · obtain ⟨x1, x2, x3, x4, x5, x6, x7, x8, x9, x10, hx⟩ := rake_x hX hn hk hr (xi 17) (xi 18) (xi 19) (xi 20) (xa 23) (xa 24) (xa 25) (xa 26) (xm 1) (xa 27)
    obtain ⟨pa, sp, ln, hm⟩ := rakeM (r := r) hX hM hn hk p s l
    refine ⟨_, x1, x2, x3, x4, x5, x6, x7, x8, x9, x10, nI C, nI W, nI N, mc, mh, pa, sp, ln, hx, ?_, h⟩
    unfold f_X9_rake
    rw [hF, bind8_def, isNight_eq, isHouse_eq, in2, e1, bind1_def, if_neg one_ne0, e2, bind1_def, if_neg one_ne0, e3, bind1_def, if_neg one_ne0, hm, bind5_def]
variable {C W R N nb nd ns a f : Nat} {kinds rowAt colAt ways beside places dues bn bt dn dt sn sh sr mc mh ms mb md mg : Nat → Int32}
/-! bowls more -/
theorem bowl_more {n x m c : Nat} (hm : m < 10) (hn : n < 10) (hc : c < 36) (hx : x < 36) : addIf 4 (bowlT (fun _ => true) (upd bn nb (nI n)) (upd bt nb (nI x)) m c) (nb + 1) = addIf 4 (bowlT (fun _ => true) bn bt m c) nb + (if m = n ∧ c = x then 4 else 0) := by
  have e : addIf 4 (bowlT (fun _ => true) (upd bn nb (nI n)) (upd bt nb (nI x)) m c) nb = addIf 4 (bowlT (fun _ => true) bn bt m c) nb := addIf_congr _ fun i hi => by
    unfold bowlT
    rw [upd_ne _ _ (by omega), upd_ne _ _ (by omega)]
  by_cases h : m = n ∧ c = x
  · obtain ⟨rfl, rfl⟩ := h
    rw [addIf_yes _ _ (bowlT_yes rfl (upd_at _ _ _) (upd_at _ _ _)), e, if_pos ⟨rfl, rfl⟩]
  · rw [addIf_no _ _ (bowlT_no ?_), e, if_neg h, i_add0]
    rintro ⟨-, q1, q2⟩
    rw [upd_at, nI_eq_i (by omega) (by omega)] at q1 q2
    exact h ⟨q1.symm, q2.symm⟩
theorem LL_early (hG : Grid C W R) {n x : Nat} (hn : n < 10) (hx : x < 36) {k : Nat} (hk : k < n) : NLs C W R kinds kinds (fun _ => true) (nb + 1) (upd bn nb (nI n)) (upd bt nb (nI x)) nd dn dt a f k = NLs C W R kinds kinds (fun _ => true) nb bn bt nd dn dt a f k ∧ LLs C W R kinds kinds (fun _ => true) (nb + 1) (upd bn nb (nI n)) (upd bt nb (nI x)) nd dn dt a f k = LLs C W R kinds kinds (fun _ => true) nb bn bt nd dn dt a f k := by
  have h36 := hG.c36
  refine NLs_congr (L := k) hG (fun _ _ => Iff.rfl) (fun _ _ => rfl) (fun m hm c hc => ?_) (fun _ _ _ _ => rfl) k (Nat.le_refl _)
  rw [bowl_more (by omega) hn (by omega) hx, if_neg (by omega), i_add0]
theorem prevL_congr {NL NL' : Nat → List Nat} {n : Nat} (h : ∀ k, k < n → NL k = NL' k) : prevL NL n = prevL NL' n := by
  unfold prevL
  by_cases e : n = 0
  · rw [if_pos e, if_pos e]
  · rw [if_neg e, if_neg e, h _ (by omega)]
/-- one night's walk by weights that are those of some bowls -/
theorem strollX (hX : Ctx C W R N nb nd a f kinds rowAt colAt ways beside places dues bn bt dn dt) {n nb' : Nat} {bn' bt' st fr : Nat → Int32} (hn : n < 10)
    (hst : ∀ c, c < C → st c = stP (aOf kinds nd dn dt n) (prevL (NLs C W R kinds kinds (fun _ => true) nb' bn' bt' nd dn dt a f) n) c) (hfr : ∀ c, c < C → fr c = bOf kinds (fun _ => true) nb' bn' bt' n c)
    (tr go : Nat → Int32) (td : Nat → Int64) (li : Nat → Int32) (hli : ∀ k, k < n → ∀ x, x < W → li (6 * k + x) = LLs C W R kinds kinds (fun _ => true) nb' bn' bt' nd dn dt a f k x) :
    ∃ tr' go' td' li', f_X7_stroll (nI W) (nI R) kinds rowAt colAt ways beside (nI a) (nI f) st fr tr go td li (nI n) = some (tr', go', td', li') ∧ (∀ x, x < W → li' (6 * n + x) = LLs C W R kinds kinds (fun _ => true) nb' bn' bt' nd dn dt a f n x) ∧ ∀ j, j < 6 * n → li' j = li j := by
  have hG := hX.grid
  have hF := firstF_ok (C := C) kinds a hG.2.2.1 hG.2.2.2
  obtain ⟨tr', go', li', s1, s2⟩ := stroll_eq (a := a) (f := f) hX.1 hn hX.2.2.2.2.2.1 hX.2.2.2.2.2.2 st fr (fun x => if n = 0 then nI (R / 2) else LLs C W R kinds kinds (fun _ => true) nb' bn' bt' nd dn dt a f (n - 1) x) tr go td li (fun x hx => by
    by_cases e : n = 0
    · rw [if_pos e, if_pos e]
    · rw [if_neg e, if_neg e, hli (n - 1) (by omega) x hx])
  refine ⟨tr', go', _, li', s1, fun x hx => ?_, fun j hj => s2.2.2.2.2.2.2 j (Or.inl hj)⟩
  rw [s2.2.2.2.1 x hx]
  have hZ : night1 W C kinds (firstF W R kinds a) (n < f) st fr = NLs C W R kinds kinds (fun _ => true) nb' bn' bt' nd dn dt a f n := by
    unfold NLs
    rw [nightL_eq]
    exact night1_congr hG.2.2.1 hG.c36 (fun _ _ => Iff.rfl) hst hfr hF _
  rw [hZ]
  unfold LLs
  conv => rhs; rw [lineL_eq]
  rfl
/-- what the trial holds when it has weighed night n -/
def Weighed (C W R nb nd a f : Nat) (kinds bn bt dn dt : Nat → Int32) (n : Nat) (st fr li : Nat → Int32) : Prop :=
  (∀ c, c < C → st c = stP (aOf kinds nd dn dt n) (prevL (NLs C W R kinds kinds (fun _ => true) nb bn bt nd dn dt a f) n) c) ∧ (∀ c, c < C → fr c = bOf kinds (fun _ => true) nb bn bt n c) ∧ ∀ k, k < n → ∀ x, x < W → li (6 * k + x) = LLs C W R kinds kinds (fun _ => true) nb bn bt nd dn dt a f k x
theorem Weighed.far {n : Nat} {st fr li li' : Nat → Int32} (hW6 : W ≤ 6) (h : Weighed C W R nb nd a f kinds bn bt dn dt n st fr li) (h2 : ∀ j, j < 6 * n → li' j = li j) : Weighed C W R nb nd a f kinds bn bt dn dt n st fr li' :=
  ⟨h.1, h.2.1, fun k hk x hx => (h2 _ (by omega)).trans (h.2.2 k hk x hx)⟩
/-- with one bowl more -/
theorem Weighed.more {n x : Nat} {st fr li : Nat → Int32} (hG : Grid C W R) (hn : n < 10) (hx : x < C) (h : Weighed C W R nb nd a f kinds bn bt dn dt n st fr li) : Weighed C W R (nb + 1) nd a f kinds (upd bn nb (nI n)) (upd bt nb (nI x)) dn dt n st (upd fr x (fr x + 4)) li := by
  have h36 := hG.c36
  refine ⟨fun c hc => ?_, fun c hc => ?_, fun k hk y hy => ?_⟩
  · rw [h.1 c hc, prevL_congr fun k hk => (LL_early hG hn (by omega) hk).1]
  · have e : bOf kinds (fun _ => true) (nb + 1) (upd bn nb (nI n)) (upd bt nb (nI x)) n c = bOf kinds (fun _ => true) nb bn bt n c + (if c = x then 4 else 0) := by
      unfold bOf
      rw [bowl_more hn hn (by omega) (by omega), ← Int32.add_assoc]
      by_cases q : c = x
      · rw [if_pos (show n = n ∧ c = x from ⟨rfl, q⟩), if_pos q]
      · rw [if_neg (show ¬ (n = n ∧ c = x) from fun z => q z.2), if_neg q]
    rw [e, ← h.2.1 c hc]
    by_cases q : c = x
    · rw [if_pos q, q, upd_at]
    · rw [if_neg q, upd_ne _ _ q, i_add0]
  · rw [h.2.2 k hk y hy, (LL_early hG hn (by omega) hk).2]
theorem i_cancel (x : Int32) : x + 4 - 4 = x := by rw [Int32.sub_eq_add_neg, Int32.add_assoc]; exact Int32.add_zero x
theorem fresh1 (fr : Nat → Int32) (x : Nat) : upd (upd fr x (fr x + 4)) x (fr x + 4 - 4) = fr := by
  funext j
  by_cases e : j = x
  · rw [e, upd_at, i_cancel]
  · rw [upd_ne _ _ e, upd_ne _ _ e]
theorem fresh2 (fr : Nat → Int32) (x y : Nat) : upd (upd (upd (upd fr x (fr x + 4)) y ((upd fr x (fr x + 4)) y + 4)) x ((upd (upd fr x (fr x + 4)) y ((upd fr x (fr x + 4)) y + 4)) x - 4)) y ((upd (upd (upd fr x (fr x + 4)) y ((upd fr x (fr x + 4)) y + 4)) x ((upd (upd fr x (fr x + 4)) y ((upd fr x (fr x + 4)) y + 4)) x - 4)) y - 4) = fr := by
  by_cases e : x = y
  · subst e
    rw [upd_at, upd_at, upd_at, i_cancel, i_cancel]
    funext j
    by_cases q : j = x
    · rw [q, upd_at]
    · rw [upd_ne _ _ q, upd_ne _ _ q, upd_ne _ _ q, upd_ne _ _ q]
  · have e' : y ≠ x := fun q => e q.symm
    rw [upd_ne (k := x) _ _ e', upd_ne (k := y) (j := x) _ _ e, upd_at, i_cancel, upd_ne (k := x) (j := y) _ _ e', upd_at, i_cancel]
    funext j
    by_cases q : j = y
    · rw [q, upd_at]
    · rw [upd_ne _ _ q]
      by_cases q2 : j = x
      · rw [q2, upd_at]
      · rw [upd_ne _ _ q2, upd_ne _ _ q, upd_ne _ _ q2]
def dr1 (C W R nb nd a f : Nat) (kinds bn bt dn dt : Nat → Int32) (n p : Nat) (r : Int32) (x : Nat) : Bool := decide (realmS C W (LLs C W R kinds kinds (fun _ => true) (nb + 1) (upd bn nb (nI n)) (upd bt nb (nI x)) nd dn dt a f) n p = r)
def dr2 (C W R nb nd a f : Nat) (kinds bn bt dn dt : Nat → Int32) (n p : Nat) (r : Int32) (x y : Nat) : Bool := dr1 C W R (nb + 1) nd a f kinds (upd bn nb (nI n)) (upd bt nb (nI x)) dn dt n p r y
def b01 (b : Bool) : Int32 := if b = true then 1 else 0
theorem drawn1 (hX : Ctx C W R N nb nd a f kinds rowAt colAt ways beside places dues bn bt dn dt) {n p x : Nat} {r : Int32} {st fr li : Nat → Int32} (hn : n < 10) (hp : p ≤ 39) (hx : x < C) (hW : Weighed C W R nb nd a f kinds bn bt dn dt n st fr li) (tr go : Nat → Int32) (td : Nat → Int64) :
    ∃ tr' go' td' li', f_X7_isDrawnBy (nI C) (nI W) (nI R) kinds rowAt colAt ways beside (nI a) (nI f) st fr tr go td li (nI x) (-1) (nI n) (nI p) r = some (b01 (dr1 C W R nb nd a f kinds bn bt dn dt n p r x), fr, tr', go', td', li') ∧ Weighed C W R nb nd a f kinds bn bt dn dt n st fr li' := by
  have h36 := hX.c36
  have hW1 := hW.more hX.grid hn hx
  obtain ⟨tr', go', td', li', s1, s2, s3⟩ := strollX hX hn hW1.1 hW1.2.1 tr go td li hW1.2.2
  refine ⟨tr', go', td', li', ?_, hW.far hX.1.1 s3⟩
  unfold f_X7_isDrawnBy f_X7_isDrawnBy_b25 f_X7_isDrawnBy_b55
  rw [gd_t (inb_n (by omega) (by omega)), letv_def, gd_t (inb_n (by omega) (by omega)), if_pos rfl, tnN (by omega), s1, bind4_def, gd_t (inb_n (by omega) (by omega)), letv_def, gd_t (inb_n (by omega) (by omega)), if_pos rfl, upd_at, fresh1, realmX hX.1 (LL := LLs C W R kinds kinds (fun _ => true) (nb + 1) (upd bn nb (nI n)) (upd bt nb (nI x)) nd dn dt a f) hn hp s2, bind1_def]
  unfold dr1 b01
  by_cases e : realmS C W (LLs C W R kinds kinds (fun _ => true) (nb + 1) (upd bn nb (nI n)) (upd bt nb (nI x)) nd dn dt a f) n p = r
  · rw [if_pos e, if_pos (decide_eq_true e)]
  · rw [if_neg e, if_neg (by rw [decide_eq_false e]; decide)]
theorem drawn2 (hX : Ctx C W R N nb nd a f kinds rowAt colAt ways beside places dues bn bt dn dt) {n p x y : Nat} {r : Int32} {st fr li : Nat → Int32} (hn : n < 10) (hp : p ≤ 39) (hx : x < C) (hy : y < C) (hW : Weighed C W R nb nd a f kinds bn bt dn dt n st fr li) (tr go : Nat → Int32) (td : Nat → Int64) :
    ∃ tr' go' td' li', f_X7_isDrawnBy (nI C) (nI W) (nI R) kinds rowAt colAt ways beside (nI a) (nI f) st fr tr go td li (nI x) (nI y) (nI n) (nI p) r = some (b01 (dr2 C W R nb nd a f kinds bn bt dn dt n p r x y), fr, tr', go', td', li') ∧ Weighed C W R nb nd a f kinds bn bt dn dt n st fr li' := by
  have h36 := hX.c36
  have hW1 := (hW.more hX.grid hn hx).more hX.grid hn hy
  obtain ⟨tr', go', td', li', s1, s2, s3⟩ := strollX hX hn hW1.1 hW1.2.1 tr go td li hW1.2.2
  refine ⟨tr', go', td', li', ?_, hW.far hX.1.1 s3⟩
  unfold f_X7_isDrawnBy f_X7_isDrawnBy_b25 f_X7_isDrawnBy_b55
  rw [gd_t (inb_n (by omega) (by omega)), letv_def, gd_t (inb_n (by omega) (by omega)), if_neg (nI_neg1 (by omega)), gd_t (inb_n (by omega) (by omega)), letv_def, gd_t (inb_n (by omega) (by omega)), tnN (show x < 2147483648 by omega), tnN (show y < 2147483648 by omega), s1, bind4_def, gd_t (inb_n (by omega) (by omega)), letv_def, gd_t (inb_n (by omega) (by omega)), if_neg (nI_neg1 (by omega)), gd_t (inb_n (by omega) (by omega)), letv_def, gd_t (inb_n (by omega) (by omega)), fresh2, realmX hX.1 (LL := LLs C W R kinds kinds (fun _ => true) (nb + 1 + 1) (upd (upd bn nb (nI n)) (nb + 1) (nI n)) (upd (upd bt nb (nI x)) (nb + 1) (nI y)) nd dn dt a f) hn hp s2, bind1_def]
  unfold dr2 dr1 b01
  by_cases e : realmS C W (LLs C W R kinds kinds (fun _ => true) (nb + 1 + 1) (upd (upd bn nb (nI n)) (nb + 1) (nI n)) (upd (upd bt nb (nI x)) (nb + 1) (nI y)) nd dn dt a f) n p = r
  · rw [if_pos e, if_pos (decide_eq_true e)]
  · rw [if_neg e, if_neg (by rw [decide_eq_false e]; decide)]
