variable {C W R N nb nd ns a f : Nat} {kinds rowAt colAt ways beside places dues bn bt dn dt sn sh sr mc mh ms mb md mg : Nat → Int32}
/-! where to live -/
def nin (g : Nat → Int32) (r : Int32) : Nat → Int32
  | 0 => 0
  | k + 1 => nin g r k + (if g k = r then 1 else 0)
theorem nightsInX {ce c r : Int32} {li : Nat → Int32} (g : Nat → Int32) (hg : ∀ n, n < 10 → f_X7_realmOf ce rowAt colAt li (nI n) c = some (g n)) : f_X7_nightsIn ce rowAt colAt li r c = some (nin g r 10) := by
  have e : loopF (fun q : Int32 × Int32 => f_X7_nightsIn_L5 ce rowAt colAt li r c q.1 q.2) FU (0, 0) = some (nin g r 10) := by
    refine loop_for (fun k => (nin g r k, nI k)) 10 (fun k hk => ?_) ?_ (by omega)
    · dsimp only
      unfold f_X7_nightsIn_L5 f_X7_nightsIn_b26L5
      rw [if_neg (by rw [show (10 : Int32) = nI 10 from rfl, nI_le_i (by omega) (by omega)]; omega), hg k hk, bind1_def, show nI k + 1 = nI (k + 1) from nI_1 _]
      show _ = some (Sum.inl (nin g r k + (if g k = r then 1 else 0), nI (k + 1)))
      by_cases h : g k = r
      · rw [if_pos h, if_pos h]
      · rw [if_neg h, if_neg h, i_add0]
    · dsimp only
      unfold f_X7_nightsIn_L5
      rw [if_pos (by decide)]
  unfold f_X7_nightsIn
  rw [e]; rfl
theorem nightsInM {wi c r : Int32} {l : Nat → Int32} (g : Nat → Int32) (hg : ∀ n, n < 10 → f_X9_realmOf wi l (nI n) c = some (g n)) : loopF (fun q : Int32 × Int32 => f_X9_liveOf_L29 wi l r c q.1 q.2) FU (0, 0) = some (nin g r 10) := by
  refine loop_for (fun k => (nin g r k, nI k)) 10 (fun k hk => ?_) ?_ (by omega)
  · dsimp only
    unfold f_X9_liveOf_L29 f_X9_liveOf_b55L29
    rw [if_neg (by rw [show (10 : Int32) = nI 10 from rfl, nI_le_i (by omega) (by omega)]; omega), hg k hk, bind1_def, show nI k + 1 = nI (k + 1) from nI_1 _]
    show _ = some (Sum.inl (nin g r k + (if g k = r then 1 else 0), nI (k + 1)))
    by_cases h : g k = r
    · rw [if_pos h, if_pos h]; rfl
    · rw [if_neg h, if_neg h]; rfl
  · dsimp only
    unfold f_X9_liveOf_L29
    rw [if_pos (by decide)]
def stands (places : Nat → Int32) (c : Nat) : Nat → Bool
  | 0 => false
  | k + 1 => stands places c k || decide (places k = nI c)
theorem stands_yes {c : Nat} : ∀ {n k : Nat}, k < n → places k = nI c → stands places c n = true := by
  intro n
  induction n with
  | zero => intro k h _; exact absurd h (Nat.not_lt_zero _)
  | succ n ih =>
    intro k h e
    show (stands places c n || decide (places n = nI c)) = true
    by_cases q : k = n
    · rw [← q, decide_eq_true e, Bool.or_true]
    · rw [ih (by omega) e, Bool.true_or]
theorem standOnX (hX : Ctx C W R N nb nd a f kinds rowAt colAt ways beside places dues bn bt dn dt) {c : Nat} : f_X1_standOn (nI N) places (nI c) = some (b01 (stands places c N)) := by
  have h8 := hX.n8
  obtain ⟨x, h1, h2⟩ := loop_inv (body := fun q : Int32 => f_X1_standOn_L2 (nI N) places (nI c) q) (fun k q => q = nI k ∧ stands places c k = false) (fun x => (x = Sum.inl () ∧ stands places c N = true) ∨ (x = Sum.inr () ∧ stands places c N = false)) N (by
    rintro k q hk ⟨rfl, hs⟩
    unfold f_X1_standOn_L2
    rw [if_neg (by rw [nI_le_i (by omega) (by omega)]; omega), gd_t (inb_n (by omega) (by omega)), tnN (by omega), show nI k + 1 = nI (k + 1) from nI_1 _]
    by_cases h : places k = nI c
    · rw [if_pos h]; exact Or.inr ⟨_, rfl, Or.inl ⟨rfl, stands_yes hk h⟩⟩
    · rw [if_neg h]
      refine Or.inl ⟨_, rfl, rfl, ?_⟩
      show (stands places c k || decide (places k = nI c)) = false
      rw [hs, decide_eq_false h]; rfl) (by
    rintro q ⟨rfl, hs⟩
    refine ⟨Sum.inr (), ?_, Or.inr ⟨rfl, hs⟩⟩
    unfold f_X1_standOn_L2
    rw [if_pos (by rw [nI_le_i (by omega) (by omega)]; omega)]) (by omega) (q := (0 : Int32)) ⟨rfl, rfl⟩
  unfold f_X1_standOn
  rw [h1]
  rcases h2 with ⟨rfl, e⟩ | ⟨rfl, e⟩
  · rw [e]; rfl
  · rw [e]; rfl
def built (kinds places : Nat → Int32) (N c : Nat) : Bool := decide (kinds c = 1) || stands places c N
theorem isBuiltM (hX : Ctx C W R N nb nd a f kinds rowAt colAt ways beside places dues bn bt dn dt) (hM : MOK C N nb nd a f kinds places dues bn bt dn dt mc mh ms mb md) {c : Nat} (hc : c < C) : f_X9_isBuilt (nI N) mc mh (nI c) = some (b01 (built kinds places N c)) := by
  have h36 := hX.c36
  have h8 := hX.n8
  have key : ∀ b0 : Bool, f_X9_isBuilt_b15 (nI N) mc mh (nI c) (b01 b0) = some (b01 (b0 || stands places c N)) := by
    intro b0
    have e : loopF (fun q : Int32 × Int32 => f_X9_isBuilt_L18 (nI N) mh (nI c) q.1 q.2) FU ((fun k => (b01 (b0 || stands places c k), nI k)) 0) = some (b01 (b0 || stands places c N)) := by
      refine loop_for (fun k => (b01 (b0 || stands places c k), nI k)) N (fun k hk => ?_) ?_ (by omega)
      · dsimp only
        unfold f_X9_isBuilt_L18 f_X9_isBuilt_b42L18 f_X9_isBuilt_b47L18
        rw [if_neg (by rw [nI_le_i (by omega) (by omega)]; omega), n2, gd_t (inb_n (by omega) (by omega)), tnN (by omega), (hM.2.1 k hk).1, show nI k + 1 = nI (k + 1) from nI_1 _]
        show _ = some (Sum.inl (b01 (b0 || (stands places c k || decide (places k = nI c))), nI (k + 1)))
        cases hs : (b0 || stands places c k)
        · rw [b01_0 rfl, if_pos rfl, ← Bool.or_assoc, hs, Bool.false_or]
          by_cases h : places k = nI c
          · rw [if_pos h, decide_eq_true h]; rfl
          · rw [if_neg h, decide_eq_false h]; rfl
        · rw [b01_1 rfl, if_neg one_ne0, ← Bool.or_assoc, hs, Bool.true_or]; rfl
      · dsimp only
        unfold f_X9_isBuilt_L18
        rw [if_pos (by rw [nI_le_i (by omega) (by omega)]; omega)]
    have e' : loopF (fun q : Int32 × Int32 => f_X9_isBuilt_L18 (nI N) mh (nI c) q.1 q.2) FU (b01 b0, 0) = some (b01 (b0 || stands places c N)) := by
      rw [← e]
      show _ = loopF _ FU (b01 (b0 || false), 0)
      rw [Bool.or_false]
    unfold f_X9_isBuilt_b15
    rw [e', bind1_def]
    cases (b0 || stands places c N) <;> rfl
  unfold f_X9_isBuilt built
  rw [gd_t (inb_n (by omega) (by omega)), tnN (by omega), hM.1 c hc]
  by_cases h : kinds c = 1
  · rw [if_pos h, decide_eq_true h]; exact key true
  · rw [if_neg h, decide_eq_false h]; exact key false
/-- the best cell so far, and behind how many nights -/
def liv (b : Nat → Bool) (g : Nat → Int32) : Nat → Int32 × Int32
  | 0 => (-1, -1)
  | c + 1 => if b c = true then liv b g c else if g c ≤ (liv b g c).2 then liv b g c else (nI c, g c)
theorem live_x (hX : Ctx C W R N nb nd a f kinds rowAt colAt ways beside places dues bn bt dn dt) {sl : Int32} {st0 fr0 tr0 go0 li0 st fr tr go li : Nat → Int32} {td0 td : Nat → Int64} (hT : f_X8_told sl (nI C) (nI W) (nI R) kinds rowAt colAt ways beside (nI nb) bn bt (nI nd) dn dt (nI a) (nI f) (-1) (-1) st0 fr0 tr0 go0 td0 li0 = some (0, st, fr, tr, go, td, li)) (hC : CNights W 10 (NLs C W R kinds kinds (fun _ => true) nb bn bt nd dn dt a f) (LLs C W R kinds kinds (fun _ => true) nb bn bt nd dn dt a f) tr go td li) {r w : Nat} (hr : r ≤ 2) (hw : w ≤ 1) :
    f_X8_live sl (nI C) (nI W) (nI R) kinds rowAt colAt ways beside (nI N) places (nI nb) bn bt (nI nd) dn dt (nI a) (nI f) (-1) (-1) st0 fr0 tr0 go0 td0 li0 (nI r) (nI w) = some (if nI w = 0 then (liv (built kinds places N) (fun c => nin (fun n => realmS C W (LLs C W R kinds kinds (fun _ => true) nb bn bt nd dn dt a f) n c) (nI r) 10) C).1 else (liv (built kinds places N) (fun c => nin (fun n => realmS C W (LLs C W R kinds kinds (fun _ => true) nb bn bt nd dn dt a f) n c) (nI r) 10) C).2, 0, st, fr, tr, go, td, li) := by
  have h36 := hX.c36
  generalize hg : (fun c => nin (fun n => realmS C W (LLs C W R kinds kinds (fun _ => true) nb bn bt nd dn dt a f) n c) (nI r) 10) = g
  have e : loopF (fun q : Int32 × Int32 × Int32 => f_X8_live_L33 (nI C) kinds rowAt colAt (nI N) places li (nI r) q.1 q.2.1 q.2.2) FU (-1, -1, 0) = some (liv (built kinds places N) g C) := by
    refine loop_for (fun k => ((liv (built kinds places N) g k).1, (liv (built kinds places N) g k).2, nI k)) C (fun k hk => ?_) ?_ (by omega)
    · dsimp only
      have hgk : f_X7_nightsIn (nI C) rowAt colAt li (nI r) (nI k) = some (g k) := by
        rw [← hg]
        exact nightsInX _ (fun n hn => realmX hX.1 hn (by omega) (hC n hn).2.2.2.2)
      have es : liv (built kinds places N) g (k + 1) = if built kinds places N k = true then liv (built kinds places N) g k else if g k ≤ (liv (built kinds places N) g k).2 then liv (built kinds places N) g k else (nI k, g k) := rfl
      unfold f_X8_live_L33 f_X8_live_b95L33
      rw [if_neg (by rw [nI_le_i (by omega) (by omega)]; omega), gd_t (inb_n (by omega) (by omega)), tnN (by omega), show nI k + 1 = nI (k + 1) from nI_1 _, es, standOnX hX, bind1_def, hgk, bind1_def]
      unfold built
      by_cases h1 : kinds k = 1
      · rw [if_pos h1, decide_eq_true h1, Bool.true_or, if_pos rfl]
      · rw [if_neg h1, decide_eq_false h1, Bool.false_or]
        cases hs : stands places k N
        · rw [b01_0 rfl, if_pos rfl, if_neg (show ¬ (false = true) by decide)]
          generalize liv (fun c => decide (kinds c = 1) || stands places c N) g k = z
          by_cases h2 : g k ≤ z.2
          · rw [if_pos h2, if_pos h2]
          · rw [if_neg h2, if_neg h2]
        · rw [b01_1 rfl, if_neg one_ne0, if_pos rfl]
    · dsimp only
      unfold f_X8_live_L33
      rw [if_pos (by rw [nI_le_i (by omega) (by omega)]; omega)]
  unfold f_X8_live
  rw [show f_X8_isUpTo (nI r) (2 : Int32) = some 1 from upTo_yes (M := 2) hr (by omega), bind1_def, if_neg one_ne0, show f_X8_isUpTo (nI w) (1 : Int32) = some 1 from upTo_yes (M := 1) hw (by omega), bind1_def, if_neg one_ne0, hT, bind7_def, e]
  generalize liv (built kinds places N) g C = z
  obtain ⟨z1, z2⟩ := z
  rw [bind2_def]
  by_cases h : nI w = 0
  · rw [if_pos h, if_pos h]
  · rw [if_neg h, if_neg h]
theorem livesM (hX : Ctx C W R N nb nd a f kinds rowAt colAt ways beside places dues bn bt dn dt) (hM : MOK C N nb nd a f kinds places dues bn bt dn dt mc mh ms mb md) {n : Nat} (hn : n < 10) (p0 s0 l0 : Nat → Int32) : ∃ p s l, f_X9_lives (nI C) (nI W) (nI nb) (nI nd) 0 mc ms mb md p0 s0 l0 (nI n) = some (p, s, l) ∧ MNights W (n + 1) (NLs C W R kinds kinds (fun _ => true) nb bn bt nd dn dt a f) (LLs C W R kinds kinds (fun _ => true) nb bn bt nd dn dt a f) p s l := by
  have hG := hX.grid
  have hb8 := hX.b8
  obtain ⟨hmc, hmh, hs0, hs1, hb, hd⟩ := hM
  obtain ⟨p, s, l, w1, w2⟩ := lives_eq (C := C) (W := W) (R := R) (nb := nb) (nd := nd) (last := n) hG.1 hG.2.1 hG.2.2.1 hG.c36 hG.2.2.2 hX.2.2.2.2.2.1 hX.2.2.2.2.2.2 (by omega) 0 (mc := mc) hs0 hs1 hb.more hd p0 s0 l0
  exact ⟨p, s, l, w1, MNights.congr w2 fun m hm => refLL hX hmc (by omega) m⟩
theorem liveM (hX : Ctx C W R N nb nd a f kinds rowAt colAt ways beside places dues bn bt dn dt) (hM : MOK C N nb nd a f kinds places dues bn bt dn dt mc mh ms mb md) (r w : Int32) (p0 s0 l0 : Nat → Int32) :
    ∃ p s l, f_X9_liveOf (nI C) (nI W) (nI N) (nI nb) (nI nd) 0 mc mh ms mb md p0 s0 l0 r w = some (if w = 0 then (liv (built kinds places N) (fun c => nin (fun n => realmS C W (LLs C W R kinds kinds (fun _ => true) nb bn bt nd dn dt a f) n c) r 10) C).1 else (liv (built kinds places N) (fun c => nin (fun n => realmS C W (LLs C W R kinds kinds (fun _ => true) nb bn bt nd dn dt a f) n c) r 10) C).2, p, s, l) ∧ MNights W 10 (NLs C W R kinds kinds (fun _ => true) nb bn bt nd dn dt a f) (LLs C W R kinds kinds (fun _ => true) nb bn bt nd dn dt a f) p s l := by
  have h36 := hX.c36
  obtain ⟨p, s, l, w1, w2⟩ := livesM hX hM (n := 9) (by omega) p0 s0 l0
  refine ⟨p, s, l, ?_, w2⟩
  generalize hg : (fun c => nin (fun n => realmS C W (LLs C W R kinds kinds (fun _ => true) nb bn bt nd dn dt a f) n c) r 10) = g
  have e : loopF (fun q : Int32 × Int32 × Int32 => f_X9_liveOf_L14 (nI C) (nI W) (nI N) mc mh l r q.1 q.2.1 q.2.2) FU (-1, -1, 0) = some (liv (built kinds places N) g C) := by
    refine loop_for (fun k => ((liv (built kinds places N) g k).1, (liv (built kinds places N) g k).2, nI k)) C (fun k hk => ?_) ?_ (by omega)
    · dsimp only
      have hgk : loopF (fun q : Int32 × Int32 => f_X9_liveOf_L29 (nI W) l r (nI k) q.1 q.2) FU (0, 0) = some (g k) := by
        rw [← hg]
        exact nightsInM _ (fun n hn => realmM hX.grid hn hk (w2 n hn).2.2)
      have es : liv (built kinds places N) g (k + 1) = if built kinds places N k = true then liv (built kinds places N) g k else if g k ≤ (liv (built kinds places N) g k).2 then liv (built kinds places N) g k else (nI k, g k) := rfl
      unfold f_X9_liveOf_L14 f_X9_liveOf_b84L14 f_X9_liveOf_b85L14 f_X9_liveOf_b98L14 f_X9_liveOf_b111L14
      rw [if_neg (by rw [nI_le_i (by omega) (by omega)]; omega), hgk, bind1_def, isBuiltM hX hM hk, bind1_def, show nI k + 1 = nI (k + 1) from nI_1 _, es]
      generalize liv (built kinds places N) g k = z
      cases hs : built kinds places N k
      · rw [b01_0 rfl, if_pos rfl, if_neg (show ¬ (false = true) by decide)]
        by_cases h2 : g k ≤ z.2
        · rw [if_pos h2, if_pos h2, if_pos rfl, if_pos rfl]
        · rw [if_neg h2, if_neg h2, if_neg one_ne0, if_neg one_ne0]
      · rw [b01_1 rfl, if_neg one_ne0, if_pos rfl, if_pos rfl, if_pos rfl]
    · dsimp only
      unfold f_X9_liveOf_L14
      rw [if_pos (by rw [nI_le_i (by omega) (by omega)]; omega)]
  unfold f_X9_liveOf
  rw [show (9 : Int32) = nI 9 from rfl, w1, bind3_def, e]
  generalize liv (built kinds places N) g C = z
  obtain ⟨z1, z2⟩ := z
  rw [bind2_def]
  by_cases h : w = 0
  · rw [if_pos h, if_pos h]
  · rw [if_neg h, if_neg h]
theorem sim_live {xi : Nat → Int32} {xa : Nat → Nat → Int32} {xl : Nat → Int64} {xm : Nat → Nat → Int64} {mi : Nat → Int32} {ma : Nat → Nat → Int32} (h : Rel xi xa xl xm mi ma) (z1 z2 : Int32) : ∃ (r : Int32) (c1 : Int32) (c2 : Nat → Int32) (c3 : Nat → Int32) (c4 : Nat → Int32) (c5 : Nat → Int32) (c6 : Nat → Int64) (c7 : Nat → Int32) (d1 : Int32) (d2 : Int32) (d3 : Int32) (d4 : Nat → Int32) (d5 : Nat → Int32) (d6 : Nat → Int32) (d7 : Nat → Int32) (d8 : Nat → Int32) , f_X8_live (xi 0) (xi 5) (xi 6) (xi 7) (xa 2) (xa 3) (xa 4) (xa 5) (xa 6) (xi 9) (xa 7) (xi 10) (xa 9) (xa 10) (xi 11) (xa 12) (xa 13) (xi 13) (xi 14) (xi 15) (xi 16) (xa 18) (xa 19) (xa 20) (xa 21) (xm 0) (xa 22) z1 z2 = some (r, c1, c2, c3, c4, c5, c6, c7) ∧ f_X9_live (mi 1) (mi 2) (mi 3) (mi 4) (mi 5) (mi 6) (ma 4) (ma 5) (ma 6) (ma 7) (ma 8) (ma 9) (ma 10) (ma 11) (ma 12) (ma 13) z1 z2 = some (r, d1, d2, d3, d4, d5, d6, d7, d8) ∧ Rel (va_up xi 0 c1) (va_up (va_up (va_up (va_up (va_up xa 18 c2) 19 c3) 20 c4) 21 c5) 22 c7) xl (va_up xm 0 c6) (va_up (va_up (va_up mi 1 d1) 2 d2) 3 d3) (va_up (va_up (va_up (va_up (va_up ma 6 d4) 7 d5) 11 d6) 12 d7) 13 d8) := by
  obtain ⟨C, W, R, N, nb, nd, ns, a, f, ⟨⟨c1, c2, c3⟩, n1, ⟨b1, d1, s1⟩, a1, f1, p1, p2⟩, ⟨b2, d2, p3, s2⟩, hX, hSO, ⟨st, fr, tr, go, td, li, hT, hC, hR⟩, mc, mh, p, s, l, hF, hM, hN⟩ := h.all
  rw [c1, c2, c3, n1, b1, d1, a1, f1, p1, p2, b2, d2, p3]
  rcases upTo_cases z1 (M := 2) (by omega) with ⟨e1, -⟩ | ⟨e1, r, hr, rfl⟩
  · exact ⟨-2, xi 0, xa 18, xa 19, xa 20, xa 21, xm 0, xa 22, nI C, nI W, nI N, mc, mh, p, s, l, by unfold f_X8_live; rw [show f_X8_isUpTo z1 (2 : Int32) = some 0 from e1]; rfl, by unfold f_X9_live; rw [hF, bind8_def, in2, show f_X8_isUpTo z1 (2 : Int32) = some 0 from e1]; rfl, h.back0 ..⟩
  rcases upTo_cases z2 (M := 1) (by omega) with ⟨e2, -⟩ | ⟨e2, w, hw, rfl⟩
  · exact ⟨-2, xi 0, xa 18, xa 19, xa 20, xa 21, xm 0, xa 22, nI C, nI W, nI N, mc, mh, p, s, l, by unfold f_X8_live; rw [show f_X8_isUpTo (nI r) (2 : Int32) = some 1 from e1, show f_X8_isUpTo z2 (1 : Int32) = some 0 from e2]; rfl, by unfold f_X9_live; rw [hF, bind8_def, in2, show f_X8_isUpTo (nI r) (2 : Int32) = some 1 from e1, isTwo_eq, show f_X8_isUpTo z2 (1 : Int32) = some 0 from e2]; rfl, h.back0 ..⟩
  obtain ⟨pa, sp, ln, hm, -⟩ := liveM hX hM (nI r) (nI w) p s l
  refine ⟨_, 0, st, fr, tr, go, td, li, nI C, nI W, nI N, mc, mh, pa, sp, ln, live_x hX hT hC hr hw, ?_, hR⟩
  unfold f_X9_live
  rw [hF, bind8_def, in2, show f_X8_isUpTo (nI r) (2 : Int32) = some 1 from e1, bind1_def, if_neg one_ne0, isTwo_eq, show f_X8_isUpTo (nI w) (1 : Int32) = some 1 from e2, bind1_def, if_neg one_ne0, hm, bind4_def]
