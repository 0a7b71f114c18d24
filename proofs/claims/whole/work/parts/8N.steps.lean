variable {C W R N nb nd ns a f : Nat} {kinds rowAt colAt ways beside places dues bn bt dn dt sn sh sr mc mh ms mb md mg : Nat → Int32}
theorem told_T {st fr tr go li : Nat → Int32} {td : Nat → Int64} : f_X8_told 0 (nI C) (nI W) (nI R) kinds rowAt colAt ways beside (nI nb) bn bt (nI nd) dn dt (nI a) (nI f) (-1) (-1) st fr tr go td li = some (0, st, fr, tr, go, td, li) := by
  unfold f_X8_told f_X8_told_b21
  rw [if_pos rfl]
theorem mix_eq (h v : Int64) : f_X8_mix h v = some ((31 : Int64) * h + v) := rfl
theorem house_0 (hX : Ctx C W R N nb nd a f kinds rowAt colAt ways beside places dues bn bt dn dt) {k : Nat} (hk : k < N) : f_X8_house (nI N) places dues (nI k) 0 = some (places k) := by
  have h8 := hX.n8
  unfold f_X8_house
  rw [isHouse_yes hk (by omega), bind1_def, if_neg one_ne0, show f_X8_isUpTo 0 (1 : Int32) = some 1 from by decide, bind1_def, if_neg one_ne0, if_pos rfl, gd_t (inb_n (by omega) (by omega)), tnN (by omega)]
theorem house_1 (hX : Ctx C W R N nb nd a f kinds rowAt colAt ways beside places dues bn bt dn dt) {k : Nat} (hk : k < N) : f_X8_house (nI N) places dues (nI k) 1 = some (dues k) := by
  have h8 := hX.n8
  unfold f_X8_house
  rw [isHouse_yes hk (by omega), bind1_def, if_neg one_ne0, show f_X8_isUpTo 1 (1 : Int32) = some 1 from by decide, bind1_def, if_neg one_ne0, if_neg one_ne0, gd_t (inb_n (by omega) (by omega)), tnN (by omega)]
theorem cell_c (hX : Ctx C W R N nb nd a f kinds rowAt colAt ways beside places dues bn bt dn dt) {c : Nat} (hc : c < C) : f_X8_cell (nI C) kinds (nI c) = some (kinds c) := by
  have h36 := hX.c36
  unfold f_X8_cell
  rw [show f_X8_isUpTo (nI c) (35 : Int32) = some 1 from upTo_yes (M := 35) (by omega) (by omega), bind1_def, if_neg one_ne0, if_neg (by rw [nI_le_i (by omega) (by omega)]; omega), gd_t (inb_n (by omega) (by omega)), tnN (by omega)]
/-- what a house adds -/
def houseV (hh : Int64) (v0 v1 v2 v3 v4 v5 v6 v7 : Int32) (v8 v9 : Int64) : Int64 :=
  31 * (31 * (31 * (31 * (31 * (31 * (31 * (31 * (31 * (31 * hh + v0.toInt64) + v1.toInt64) + v2.toInt64) + v3.toInt64) + v4.toInt64) + v5.toInt64) + v6.toInt64) + v7.toInt64) + v8) + v9
set_option maxHeartbeats 1000000 in
theorem mixHouse_x (hX : Ctx C W R N nb nd a f kinds rowAt colAt ways beside places dues bn bt dn dt) {sl : Int32} {st0 fr0 tr0 go0 li0 st fr tr go li : Nat → Int32} {td0 td : Nat → Int64} (hT : f_X8_told sl (nI C) (nI W) (nI R) kinds rowAt colAt ways beside (nI nb) bn bt (nI nd) dn dt (nI a) (nI f) (-1) (-1) st0 fr0 tr0 go0 td0 li0 = some (0, st, fr, tr, go, td, li)) (hC : CNights W 10 (NLs C W R kinds kinds (fun _ => true) nb bn bt nd dn dt a f) (LLs C W R kinds kinds (fun _ => true) nb bn bt nd dn dt a f) tr go td li) {k x j : Nat} (hk : k < N) {wh : Int64} {sh : Nat → Int64} (ab be : Int64) (hred : f_X0_reduce wh ab be sh (nI k) = some (lN x, lN (2 ^ j))) (ts tf tp tk : Int32) (st1 fr1 tr1 go1 : Nat → Int32) (td1 : Nat → Int64) (li1 : Nat → Int32) (ln lo lt : Int32) (hh : Int64) :
    ∃ (c1 c2 c3 c4 : Int32) (c5 c6 c7 c8 : Nat → Int32) (c9 : Nat → Int64) (c10 : Nat → Int32) (c11 c12 c13 : Int32), f_X8_mixHouse sl (nI C) (nI W) (nI R) kinds rowAt colAt ways beside (nI N) places dues (nI nb) bn bt (nI nd) dn dt (nI a) (nI f) (-1) (-1) st0 fr0 tr0 go0 td0 li0 ts tf tp tk st1 fr1 tr1 go1 td1 li1 ln lo lt wh ab be sh hh (nI k) = some (houseV hh (places k) (dues k) (lieS C W places (LLs C W R kinds kinds (fun _ => true) nb bn bt nd dn dt a f) 0 k) (lieS C W places (LLs C W R kinds kinds (fun _ => true) nb bn bt nd dn dt a f) 9 k) (chS (fun n => lieS C W places (LLs C W R kinds kinds (fun _ => true) nb bn bt nd dn dt a f) n k) 9) (layA C W R nb nd a f kinds bn bt dn dt 3 (plc places k) (nI 0) (-1)) (layA C W R nb nd a f kinds bn bt dn dt 3 (plc places k) (nI 0) 0) (lk (fstB (rkP C W R nb nd a f kinds bn bt dn dt 3 (plc places k) (nI 1)) C 0)) (lN x) (lN (2 ^ j)), 0, st, fr, tr, go, td, li, c1, c2, c3, c4, c5, c6, c7, c8, c9, c10, c11, c12, c13, lN x, lN (2 ^ j)) := by
  have g0 : f_X8_lies sl (nI C) (nI W) (nI R) kinds rowAt colAt ways beside (nI N) places (nI nb) bn bt (nI nd) dn dt (nI a) (nI f) (-1) (-1) st0 fr0 tr0 go0 td0 li0 (0 : Int32) (nI k) = some (lieS C W places (LLs C W R kinds kinds (fun _ => true) nb bn bt nd dn dt a f) 0 k, 0, st, fr, tr, go, td, li) := lies_x hX hT hC (n := 0) (by omega) hk
  have g9 : f_X8_lies 0 (nI C) (nI W) (nI R) kinds rowAt colAt ways beside (nI N) places (nI nb) bn bt (nI nd) dn dt (nI a) (nI f) (-1) (-1) st fr tr go td li (9 : Int32) (nI k) = some (lieS C W places (LLs C W R kinds kinds (fun _ => true) nb bn bt nd dn dt a f) 9 k, 0, st, fr, tr, go, td, li) := lies_x hX told_T hC (n := 9) (by omega) hk
  have gc : f_X8_changes 0 (nI C) (nI W) (nI R) kinds rowAt colAt ways beside (nI N) places (nI nb) bn bt (nI nd) dn dt (nI a) (nI f) (-1) (-1) st fr tr go td li (nI k) = some (chS (fun n => lieS C W places (LLs C W R kinds kinds (fun _ => true) nb bn bt nd dn dt a f) n k) 9, 0, st, fr, tr, go, td, li) := changes_x hX told_T hC hk
  obtain ⟨y1, y2, y3, y4, y5, y6, y7, y8, y9, y10, y11, y12, y13, gp, gt⟩ := planBowls_x hX (n := 3) (r := 0) (by omega) hk (by omega) ts tf tp tk st1 fr1 tr1 go1 td1 li1 ln lo lt
  have gp' : f_X8_planBowls (nI C) (nI W) (nI R) kinds rowAt colAt ways beside places (nI nb) bn bt (nI nd) dn dt (nI a) (nI f) (-1) (-1) ts tf tp tk st1 fr1 tr1 go1 td1 li1 ln lo lt (3 : Int32) (nI k) (0 : Int32) = some (y1, y2, y3, y4, y5, y6, y7, y8, y9, y10, y11, y12, y13) := gp
  obtain ⟨z1, z2, z3, z4, z5, z6, z7, z8, z9, z10, gr⟩ := rake_x hX (n := 3) (r := 1) (by omega) hk (by omega) y1 y2 y3 y4 y5 y6 y7 y8 y9 y10
  have gr' : f_X8_rake (nI C) (nI W) (nI R) kinds rowAt colAt ways beside (nI N) places (nI nb) bn bt (nI nd) dn dt (nI a) (nI f) (-1) (-1) y1 y2 y3 y4 y5 y6 y7 y8 y9 y10 (3 : Int32) (nI k) (1 : Int32) = some (lk (fstB (rkP C W R nb nd a f kinds bn bt dn dt 3 (plc places k) (nI 1)) C 0), z1, z2, z3, z4, z5, z6, z7, z8, z9, z10) := gr
  refine ⟨z1, z2, z3, z4, z5, z6, z7, z8, z9, z10, y11, y12, y13, ?_⟩
  unfold f_X8_mixHouse
  rw [house_0 hX hk, bind1_def, mix_eq, bind1_def, house_1 hX hk, bind1_def, mix_eq, bind1_def, g0, bind8_def, mix_eq, bind1_def, g9, bind8_def, mix_eq, bind1_def, gc, bind8_def, mix_eq, bind1_def, gp', bind13_def, gt (-1) (Or.inl rfl), bind1_def, mix_eq, bind1_def, gt 0 (Or.inr (Or.inl rfl)), bind1_def, mix_eq, bind1_def, gr', bind11_def, mix_eq, bind1_def, hred, bind2_def, mix_eq, bind1_def, mix_eq, bind1_def]; rfl
set_option maxHeartbeats 1000000 in
theorem tellsHouse_m (hX : Ctx C W R N nb nd a f kinds rowAt colAt ways beside places dues bn bt dn dt) (hM : MOK C N nb nd a f kinds places dues bn bt dn dt mc mh ms mb md) {k x j : Nat} (hk : k < N) (hL : Lowest (trB 5 (16 - 5) (matB C f nb bn bt 4) nb (chF C W R nb nd a f kinds places bn bt dn dt 4 k (nI 0))) (cntB (matB C f nb bn bt 4) nb) x j) (p0 s0 l0 : Nat → Int32) (hh : Int64) :
    ∃ mb' p s l, f_X9_tellsHouse (nI C) (nI W) (nI nb) (nI nd) 0 mc mh ms mb md p0 s0 l0 hh (nI k) = some (houseV hh (places k) (dues k) (lieS C W places (LLs C W R kinds kinds (fun _ => true) nb bn bt nd dn dt a f) 0 k) (lieS C W places (LLs C W R kinds kinds (fun _ => true) nb bn bt nd dn dt a f) 9 k) (chS (fun n => lieS C W places (LLs C W R kinds kinds (fun _ => true) nb bn bt nd dn dt a f) n k) 9) (layA C W R nb nd a f kinds bn bt dn dt 3 (plc places k) (nI 0) (-1)) (layA C W R nb nd a f kinds bn bt dn dt 3 (plc places k) (nI 0) 0) (lk (fstB (rkP C W R nb nd a f kinds bn bt dn dt 3 (plc places k) (nI 1)) C 0)) (lN x) (lN (2 ^ j)), nI nb, 0, mc, mb', p, s, l) ∧ RowOK 8 nb mb' bn bt := by
  have h8 := hX.n8
  obtain ⟨p1, s1, l1, w1, w2⟩ := livesM hX hM (n := 9) (by omega) p0 s0 l0
  have w1' : f_X9_lives (nI C) (nI W) (nI nb) (nI nd) 0 mc ms mb md p0 s0 l0 (9 : Int32) = some (p1, s1, l1) := w1
  have g0 : f_X9_liesOf (nI C) (nI W) mh l1 (0 : Int32) (nI k) = some (lieS C W places (LLs C W R kinds kinds (fun _ => true) nb bn bt nd dn dt a f) 0 k) := lieM hX hM (n := 0) (by omega) hk (w2 0 (by omega)).2.2
  have g9 : f_X9_liesOf (nI C) (nI W) mh l1 (9 : Int32) (nI k) = some (lieS C W places (LLs C W R kinds kinds (fun _ => true) nb bn bt nd dn dt a f) 9 k) := lieM hX hM (n := 9) (by omega) hk (w2 9 (by omega)).2.2
  have gc := changesM (fun n => lieS C W places (LLs C W R kinds kinds (fun _ => true) nb bn bt nd dn dt a f) n k) (fun n hn => lieM hX hM hn hk (w2 n hn).2.2)
  obtain ⟨mb1, p2, s2, l2, e2, r2⟩ := layM (r := nI 0) hX hM (n := 3) (by omega) hk (-1) p1 s1 l1
  have e2' : f_X9_layOutOf (nI C) (nI W) (nI nb) (nI nd) 0 mc mh ms mb md p1 s1 l1 (3 : Int32) (nI k) (0 : Int32) (-1 : Int32) = some (layA C W R nb nd a f kinds bn bt dn dt 3 (plc places k) (nI 0) (-1), nI nb, mb1, p2, s2, l2) := e2
  obtain ⟨mb2, p3, s3, l3, e3, r3⟩ := layM (r := nI 0) hX (hM.bowls r2) (n := 3) (by omega) hk 0 p2 s2 l2
  have e3' : f_X9_layOutOf (nI C) (nI W) (nI nb) (nI nd) 0 mc mh ms mb1 md p2 s2 l2 (3 : Int32) (nI k) (0 : Int32) (0 : Int32) = some (layA C W R nb nd a f kinds bn bt dn dt 3 (plc places k) (nI 0) 0, nI nb, mb2, p3, s3, l3) := e3
  have hM2 := hM.bowls r3
  obtain ⟨p4, s4, l4, e4⟩ := rakeM (r := 1) hX hM2 (n := 3) (by omega) hk p3 s3 l3
  have e4' : f_X9_rakeOf (nI C) (nI W) (nI nb) (nI nd) 0 mc mh ms mb2 md p3 s3 l3 (3 : Int32) (nI k) (1 : Int32) = some (lk (fstB (rkP C W R nb nd a f kinds bn bt dn dt 3 (plc places k) (nI 1)) C 0), mc, p4, s4, l4) := e4
  obtain ⟨p5, s5, l5, e5⟩ := catM (c := 5) (n := 4) hX hM2 (by omega) (by omega) hk hL 0 p4 s4 l4
  have e5' : f_X9_catOf (nI C) (nI W) (nI nb) (nI nd) 0 mc mh ms mb2 md p4 s4 l4 (5 : Int32) (4 : Int32) (nI k) (0 : Int32) (0 : Int32) = some (lN x, 0, p5, s5, l5) := e5
  obtain ⟨p6, s6, l6, e6⟩ := catM (c := 5) (n := 4) hX hM2 (by omega) (by omega) hk hL 1 p5 s5 l5
  have e6' : f_X9_catOf (nI C) (nI W) (nI nb) (nI nd) 0 mc mh ms mb2 md p5 s5 l5 (5 : Int32) (4 : Int32) (nI k) (0 : Int32) (1 : Int32) = some (lN (2 ^ j), 0, p6, s6, l6) := e6
  refine ⟨mb2, p6, s6, l6, ?_, r3⟩
  unfold f_X9_tellsHouse
  rw [w1', bind3_def, n2, show nI (2 * k) + 1 = nI (2 * k + 1) from nI_1 _, gd_t (inb_n (by omega) (by omega)), letv_def, gd_t (inb_n (by omega) (by omega)), letv_def, tnN (by omega), tnN (by omega), (hM.2.1 k hk).1, (hM.2.1 k hk).2, g0, bind1_def, letv_def, g9, bind1_def, letv_def, gc, bind1_def, letv_def, e2', bind6_def, letv_def, e3', bind6_def, letv_def, e4', bind5_def, letv_def, e5', bind5_def, letv_def, e6', bind5_def]; rfl
/-- what a night adds, its columns left out -/
def nightV (hh : Int64) (v0 v1 v2 v3 v4 v5 : Int32) : Int64 :=
  31 * (31 * (31 * (31 * (31 * (31 * hh + v0.toInt64) + v1.toInt64) + v2.toInt64) + v3.toInt64) + v4.toInt64) + v5.toInt64
def colV (hh : Int64) (g : Nat → Int32) : Nat → Int64
  | 0 => hh
  | x + 1 => 31 * colV hh g x + (g x).toInt64
theorem colX (hX : Ctx C W R N nb nd a f kinds rowAt colAt ways beside places dues bn bt dn dt) {st fr tr go li : Nat → Int32} {td : Nat → Int64} (hC : CNights W 10 (NLs C W R kinds kinds (fun _ => true) nb bn bt nd dn dt a f) (LLs C W R kinds kinds (fun _ => true) nb bn bt nd dn dt a f) tr go td li) {n : Nat} (hn : n < 10) (hh : Int64) : loopF (fun q : Int64 × Int32 × Int32 × (Nat → Int32) × (Nat → Int32) × (Nat → Int32) × (Nat → Int32) × (Nat → Int64) × (Nat → Int32) => f_X8_mixNight_L73 (nI C) (nI W) (nI R) kinds rowAt colAt ways beside (nI nb) bn bt (nI nd) dn dt (nI a) (nI f) (-1) (-1) (nI n) q.1 q.2.1 q.2.2.1 q.2.2.2.1 q.2.2.2.2.1 q.2.2.2.2.2.1 q.2.2.2.2.2.2.1 q.2.2.2.2.2.2.2.1 q.2.2.2.2.2.2.2.2) FU (hh, 0, 0, st, fr, tr, go, td, li) = some (colV hh ((LLs C W R kinds kinds (fun _ => true) nb bn bt nd dn dt a f) n) W, 0, st, fr, tr, go, td, li) := by
  have h6 := hX.1.1
  refine loop_for (fun k => (colV hh ((LLs C W R kinds kinds (fun _ => true) nb bn bt nd dn dt a f) n) k, nI k, 0, st, fr, tr, go, td, li)) W (fun k hk => ?_) ?_ (by omega)
  · dsimp only
    unfold f_X8_mixNight_L73
    rw [if_neg (by rw [nI_le_i (by omega) (by omega)]; omega), line_x hX told_T hC hn hk, bind8_def, mix_eq, bind1_def, show nI k + 1 = nI (k + 1) from nI_1 _]; rfl
  · dsimp only
    unfold f_X8_mixNight_L73
    rw [if_pos (by rw [nI_le_i (by omega) (by omega)]; omega)]
theorem colM {LL : Nat → Nat → Int32} {l : Nat → Int32} (hG : Grid C W R) {n : Nat} (hn : n < 10) (hl : ∀ x, x < W → l (6 * n + x) = LL n x) (hh : Int64) : loopF (fun q : Int64 × Int32 => f_X9_tellsNight_L109 (nI W) l (nI n) q.1 q.2) FU (hh, 0) = some (colV hh (LL n) W) := by
  have h6 := hG.1
  refine loop_for (fun k => (colV hh (LL n) k, nI k)) W (fun k hk => ?_) ?_ (by omega)
  · dsimp only
    unfold f_X9_tellsNight_L109
    rw [if_neg (by rw [nI_le_i (by omega) (by omega)]; omega), n6, gd_t (inb_n (by omega) (by omega)), letv_def, tnN (by omega), hl k hk, show nI k + 1 = nI (k + 1) from nI_1 _]; rfl
  · dsimp only
    unfold f_X9_tellsNight_L109
    rw [if_pos (by rw [nI_le_i (by omega) (by omega)]; omega)]
set_option maxHeartbeats 1000000 in
theorem mixNight_x (hX : Ctx C W R N nb nd a f kinds rowAt colAt ways beside places dues bn bt dn dt) (hS : SOK ns sn sh sr mg) {sl : Int32} {st0 fr0 tr0 go0 li0 st fr tr go li : Nat → Int32} {td0 td : Nat → Int64} (hT : f_X8_told sl (nI C) (nI W) (nI R) kinds rowAt colAt ways beside (nI nb) bn bt (nI nd) dn dt (nI a) (nI f) (-1) (-1) st0 fr0 tr0 go0 td0 li0 = some (0, st, fr, tr, go, td, li)) (hC : CNights W 10 (NLs C W R kinds kinds (fun _ => true) nb bn bt nd dn dt a f) (LLs C W R kinds kinds (fun _ => true) nb bn bt nd dn dt a f) tr go td li) {n : Nat} (hn : n < 10) (ts tf tp tk : Int32) (st1 fr1 tr1 go1 : Nat → Int32) (td1 : Nat → Int64) (li1 : Nat → Int32) (ta : Nat → Int32) (hh : Int64) :
    ∃ (c1 c2 c3 c4 : Int32) (c5 c6 c7 c8 : Nat → Int32) (c9 : Nat → Int64) (c10 c11 : Nat → Int32), f_X8_mixNight sl (nI C) (nI W) (nI R) kinds rowAt colAt ways beside (nI N) places dues (nI nb) bn bt (nI nd) dn dt (nI ns) sn sh sr (nI a) (nI f) (-1) (-1) st0 fr0 tr0 go0 td0 li0 ts tf tp tk st1 fr1 tr1 go1 td1 li1 ta hh (nI n) = some (colV (nightV hh (atS ((NLs C W R kinds kinds (fun _ => true) nb bn bt nd dn dt a f) n) 3) (atS ((NLs C W R kinds kinds (fun _ => true) nb bn bt nd dn dt a f) n) 24) (nI (((NLs C W R kinds kinds (fun _ => true) nb bn bt nd dn dt a f) n).length - 1)) (askA C W R N nb nd ns f kinds places bn bt dn dt sn sh sr n) (sumI (fun m => sumI (taxI (fun h => lieS C W places (LLs C W R kinds kinds (fun _ => true) nb bn bt nd dn dt a f) m h) dues (nI 0)) N) (n + 1)) (sumI (fun m => sumI (taxI (fun h => lieS C W places (LLs C W R kinds kinds (fun _ => true) nb bn bt nd dn dt a f) m h) dues (nI 1)) N) (n + 1))) ((LLs C W R kinds kinds (fun _ => true) nb bn bt nd dn dt a f) n) W, 0, st, fr, tr, go, td, li, c1, c2, c3, c4, c5, c6, c7, c8, c9, c10, c11) := by
  have g3 : f_X8_at sl (nI C) (nI W) (nI R) kinds rowAt colAt ways beside (nI nb) bn bt (nI nd) dn dt (nI a) (nI f) (-1) (-1) st0 fr0 tr0 go0 td0 li0 (nI n) (3 : Int32) = some (atS ((NLs C W R kinds kinds (fun _ => true) nb bn bt nd dn dt a f) n) 3, 0, st, fr, tr, go, td, li) := at_x hX hT hC (k := 3) hn (by omega)
  have g24 : f_X8_at 0 (nI C) (nI W) (nI R) kinds rowAt colAt ways beside (nI nb) bn bt (nI nd) dn dt (nI a) (nI f) (-1) (-1) st fr tr go td li (nI n) (24 : Int32) = some (atS ((NLs C W R kinds kinds (fun _ => true) nb bn bt nd dn dt a f) n) 24, 0, st, fr, tr, go, td, li) := at_x hX told_T hC (k := 24) hn (by omega)
  have gg := goes_x (st := st) (fr := fr) hX told_T hC hn
  obtain ⟨y1, y2, y3, y4, y5, y6, y7, y8, y9, y10, y11, ga⟩ := ask_x hX hS hn ts tf tp tk st1 fr1 tr1 go1 td1 li1 ta
  have t0 : f_X8_taxes 0 (nI C) (nI W) (nI R) kinds rowAt colAt ways beside (nI N) places dues (nI nb) bn bt (nI nd) dn dt (nI a) (nI f) (-1) (-1) st fr tr go td li (nI n) (0 : Int32) = some (sumI (fun m => sumI (taxI (fun h => lieS C W places (LLs C W R kinds kinds (fun _ => true) nb bn bt nd dn dt a f) m h) dues (nI 0)) N) (n + 1), 0, st, fr, tr, go, td, li) := taxes_x hX told_T hC (r := 0) hn (by omega)
  have t1 : f_X8_taxes 0 (nI C) (nI W) (nI R) kinds rowAt colAt ways beside (nI N) places dues (nI nb) bn bt (nI nd) dn dt (nI a) (nI f) (-1) (-1) st fr tr go td li (nI n) (1 : Int32) = some (sumI (fun m => sumI (taxI (fun h => lieS C W places (LLs C W R kinds kinds (fun _ => true) nb bn bt nd dn dt a f) m h) dues (nI 1)) N) (n + 1), 0, st, fr, tr, go, td, li) := taxes_x hX told_T hC (r := 1) hn (by omega)
  refine ⟨y1, y2, y3, y4, y5, y6, y7, y8, y9, y10, y11, ?_⟩
  unfold f_X8_mixNight
  rw [g3, bind8_def, mix_eq, bind1_def, g24, bind8_def, mix_eq, bind1_def, gg, bind8_def, mix_eq, bind1_def, ga, bind12_def, mix_eq, bind1_def, t0, bind8_def, mix_eq, bind1_def, t1, bind8_def, mix_eq, bind1_def, colX hX hC hn, bind8_def]; rfl
set_option maxHeartbeats 1000000 in
theorem tellsNight_m (hX : Ctx C W R N nb nd a f kinds rowAt colAt ways beside places dues bn bt dn dt) (hM : MOK C N nb nd a f kinds places dues bn bt dn dt mc mh ms mb md) (hS : SOK ns sn sh sr mg) {n : Nat} (hn : n < 10) (p0 s0 l0 al : Nat → Int32) (hh : Int64) :
    ∃ p s l al', f_X9_tellsNight (nI C) (nI W) (nI N) (nI nb) (nI nd) 0 (nI ns) mc mh ms mb md p0 s0 l0 mg al hh (nI n) = some (colV (nightV hh (atS ((NLs C W R kinds kinds (fun _ => true) nb bn bt nd dn dt a f) n) 3) (atS ((NLs C W R kinds kinds (fun _ => true) nb bn bt nd dn dt a f) n) 24) (nI (((NLs C W R kinds kinds (fun _ => true) nb bn bt nd dn dt a f) n).length - 1)) (askA C W R N nb nd ns f kinds places bn bt dn dt sn sh sr n) (sumI (fun m => sumI (taxI (fun h => lieS C W places (LLs C W R kinds kinds (fun _ => true) nb bn bt nd dn dt a f) m h) dues (nI 0)) N) (n + 1)) (sumI (fun m => sumI (taxI (fun h => lieS C W places (LLs C W R kinds kinds (fun _ => true) nb bn bt nd dn dt a f) m h) dues (nI 1)) N) (n + 1))) ((LLs C W R kinds kinds (fun _ => true) nb bn bt nd dn dt a f) n) W, ms, p, s, l, al') := by
  obtain ⟨p1, s1, l1, w1, w2⟩ := livesM hX hM (n := 9) (by omega) p0 s0 l0
  have w1' : f_X9_lives (nI C) (nI W) (nI nb) (nI nd) 0 mc ms mb md p0 s0 l0 (9 : Int32) = some (p1, s1, l1) := w1
  have g3 : f_X9_atOf p1 s1 (nI n) (3 : Int32) = some (atS ((NLs C W R kinds kinds (fun _ => true) nb bn bt nd dn dt a f) n) 3) := atM w2 (n := n) (k := 3) (by omega) hn (by omega) (NLs_len hX.grid ..)
  have g24 : f_X9_atOf p1 s1 (nI n) (24 : Int32) = some (atS ((NLs C W R kinds kinds (fun _ => true) nb bn bt nd dn dt a f) n) 24) := atM w2 (n := n) (k := 24) (by omega) hn (by omega) (NLs_len hX.grid ..)
  have gg := goesM w2 (n := n) (by omega) hn (NLs_len hX.grid ..)
  obtain ⟨p2, s2, l2, al', ga⟩ := askM hX hM hS hn p1 s1 l1 al
  obtain ⟨p3, s3, l3, v1, v2⟩ := livesM hX hM (n := 9) (by omega) p2 s2 l2
  have v1' : f_X9_lives (nI C) (nI W) (nI nb) (nI nd) 0 mc ms mb md p2 s2 l2 (9 : Int32) = some (p3, s3, l3) := v1
  have t0 : f_X9_taxesOf (nI C) (nI W) (nI N) mh l3 (nI n) (0 : Int32) = some (sumI (fun m => sumI (taxI (fun h => lieS C W places (LLs C W R kinds kinds (fun _ => true) nb bn bt nd dn dt a f) m h) dues (nI 0)) N) (n + 1)) := taxesM hX hM (r := 0) hn (fun m hm => (v2 m hm).2.2)
  have t1 : f_X9_taxesOf (nI C) (nI W) (nI N) mh l3 (nI n) (1 : Int32) = some (sumI (fun m => sumI (taxI (fun h => lieS C W places (LLs C W R kinds kinds (fun _ => true) nb bn bt nd dn dt a f) m h) dues (nI 1)) N) (n + 1)) := taxesM hX hM (r := 1) hn (fun m hm => (v2 m hm).2.2)
  refine ⟨p3, s3, l3, al', ?_⟩
  unfold f_X9_tellsNight
  rw [w1', bind3_def, g3, bind1_def, letv_def, g24, bind1_def, letv_def, gg, bind1_def, letv_def, ga, bind6_def, letv_def, v1', bind3_def, t0, bind1_def, letv_def, t1, bind1_def, letv_def, colM hX.grid hn (v2 n (by omega)).2.2, bind1_def]; rfl
theorem reduceX2 (hX : Ctx C W R N nb nd a f kinds rowAt colAt ways beside places dues bn bt dn dt) {c n h : Nat} {r : Int32} {sh : Nat → Int64} (hc : c ≤ 16) (hn : n < 10) (hh : h < N) (hs : sh h = lN (trB c (16 - c) (matB C f nb bn bt n) nb (chF C W R nb nd a f kinds places bn bt dn dt n h r))) :
    ∃ x j, (∀ ab be, f_X0_reduce (lN (2 ^ (4 * cntB (matB C f nb bn bt n) nb))) ab be sh (nI h) = some (lN x, lN (2 ^ j))) ∧ Lowest (trB c (16 - c) (matB C f nb bn bt n) nb (chF C W R nb nd a f kinds places bn bt dn dt n h r)) (cntB (matB C f nb bn bt n) nb) x j := by
  obtain ⟨x, j, e1, e2⟩ := reduceX hX hc hn hh hs 0 0
  exact ⟨x, j, fun ab be => e1, e2⟩
def cntV (C N W nb nd ns : Nat) (t0 t1 : Int32) (k : Nat) : Int32 := if k = 0 then nI C else if k = 1 then nI N else if k = 2 then t0 else if k = 3 then t1 else if k = 4 then nI nb else if k = 5 then nI nd else if k = 6 then nI W else nI ns
theorem count_x {k : Nat} (hk : k < 8) (fi t0 t1 : Int32) : f_X8_count fi t0 t1 (nI C) (nI W) (nI N) (nI nb) (nI nd) (nI ns) (nI k) = some (cntV C N W nb nd ns t0 t1 k) := by
  rcases (show k = 0 ∨ k = 1 ∨ k = 2 ∨ k = 3 ∨ k = 4 ∨ k = 5 ∨ k = 6 ∨ k = 7 by omega) with rfl | rfl | rfl | rfl | rfl | rfl | rfl | rfl <;> rfl
def cellV (hh : Int64) (k r0 r9 : Nat → Int32) : Nat → Int64
  | 0 => hh
  | c + 1 => 31 * (31 * (31 * cellV hh k r0 r9 c + (k c).toInt64) + (r0 c).toInt64) + (r9 c).toInt64
set_option maxHeartbeats 1000000 in
theorem cellX (hX : Ctx C W R N nb nd a f kinds rowAt colAt ways beside places dues bn bt dn dt) {sl : Int32} {st0 fr0 tr0 go0 li0 st fr tr go li : Nat → Int32} {td0 td : Nat → Int64} (hT : f_X8_told sl (nI C) (nI W) (nI R) kinds rowAt colAt ways beside (nI nb) bn bt (nI nd) dn dt (nI a) (nI f) (-1) (-1) st0 fr0 tr0 go0 td0 li0 = some (0, st, fr, tr, go, td, li)) (hC : CNights W 10 (NLs C W R kinds kinds (fun _ => true) nb bn bt nd dn dt a f) (LLs C W R kinds kinds (fun _ => true) nb bn bt nd dn dt a f) tr go td li) (hh : Int64) : ∃ (s' : Int32) (w1 w2 w3 w4 : Nat → Int32) (w5 : Nat → Int64) (w6 : Nat → Int32), loopF (fun q : Int64 × Int32 × Int32 × (Nat → Int32) × (Nat → Int32) × (Nat → Int32) × (Nat → Int32) × (Nat → Int64) × (Nat → Int32) => f_X8_digest_L51 (nI C) (nI W) (nI R) kinds rowAt colAt ways beside (nI nb) bn bt (nI nd) dn dt (nI a) (nI f) (-1) (-1) q.1 q.2.1 q.2.2.1 q.2.2.2.1 q.2.2.2.2.1 q.2.2.2.2.2.1 q.2.2.2.2.2.2.1 q.2.2.2.2.2.2.2.1 q.2.2.2.2.2.2.2.2) FU (hh, 0, sl, st0, fr0, tr0, go0, td0, li0) = some (cellV hh kinds (fun c => realmS C W (LLs C W R kinds kinds (fun _ => true) nb bn bt nd dn dt a f) 0 c) (fun c => realmS C W (LLs C W R kinds kinds (fun _ => true) nb bn bt nd dn dt a f) 9 c) C, s', w1, w2, w3, w4, w5, w6) ∧ f_X8_told s' (nI C) (nI W) (nI R) kinds rowAt colAt ways beside (nI nb) bn bt (nI nd) dn dt (nI a) (nI f) (-1) (-1) w1 w2 w3 w4 w5 w6 = some (0, st, fr, tr, go, td, li) := by
  have h36 := hX.c36
  obtain ⟨x, h1, h2⟩ := loop_inv (body := fun q : Int64 × Int32 × Int32 × (Nat → Int32) × (Nat → Int32) × (Nat → Int32) × (Nat → Int32) × (Nat → Int64) × (Nat → Int32) => f_X8_digest_L51 (nI C) (nI W) (nI R) kinds rowAt colAt ways beside (nI nb) bn bt (nI nd) dn dt (nI a) (nI f) (-1) (-1) q.1 q.2.1 q.2.2.1 q.2.2.2.1 q.2.2.2.2.1 q.2.2.2.2.2.1 q.2.2.2.2.2.2.1 q.2.2.2.2.2.2.2.1 q.2.2.2.2.2.2.2.2)
    (fun k q => ∃ s' w1 w2 w3 w4 w5 w6, q = (cellV hh kinds (fun c => realmS C W (LLs C W R kinds kinds (fun _ => true) nb bn bt nd dn dt a f) 0 c) (fun c => realmS C W (LLs C W R kinds kinds (fun _ => true) nb bn bt nd dn dt a f) 9 c) k, nI k, s', w1, w2, w3, w4, w5, w6) ∧ f_X8_told s' (nI C) (nI W) (nI R) kinds rowAt colAt ways beside (nI nb) bn bt (nI nd) dn dt (nI a) (nI f) (-1) (-1) w1 w2 w3 w4 w5 w6 = some (0, st, fr, tr, go, td, li)) (fun x => ∃ s' w1 w2 w3 w4 w5 w6, x = (cellV hh kinds (fun c => realmS C W (LLs C W R kinds kinds (fun _ => true) nb bn bt nd dn dt a f) 0 c) (fun c => realmS C W (LLs C W R kinds kinds (fun _ => true) nb bn bt nd dn dt a f) 9 c) C, s', w1, w2, w3, w4, w5, w6) ∧ f_X8_told s' (nI C) (nI W) (nI R) kinds rowAt colAt ways beside (nI nb) bn bt (nI nd) dn dt (nI a) (nI f) (-1) (-1) w1 w2 w3 w4 w5 w6 = some (0, st, fr, tr, go, td, li)) C (by
      rintro k q hk ⟨s', w1, w2, w3, w4, w5, w6, rfl, ht⟩
      left
      have g0 : f_X8_realm s' (nI C) (nI W) (nI R) kinds rowAt colAt ways beside (nI nb) bn bt (nI nd) dn dt (nI a) (nI f) (-1) (-1) w1 w2 w3 w4 w5 w6 (0 : Int32) (nI k) = some (realmS C W (LLs C W R kinds kinds (fun _ => true) nb bn bt nd dn dt a f) 0 k, 0, st, fr, tr, go, td, li) := realm_x hX ht hC (n := 0) (by omega) hk
      have g9 : f_X8_realm 0 (nI C) (nI W) (nI R) kinds rowAt colAt ways beside (nI nb) bn bt (nI nd) dn dt (nI a) (nI f) (-1) (-1) st fr tr go td li (9 : Int32) (nI k) = some (realmS C W (LLs C W R kinds kinds (fun _ => true) nb bn bt nd dn dt a f) 9 k, 0, st, fr, tr, go, td, li) := realm_x hX told_T hC (n := 9) (by omega) hk
      dsimp only
      unfold f_X8_digest_L51
      rw [if_neg (by rw [nI_le_i (by omega) (by omega)]; omega), cell_c hX hk, bind1_def, mix_eq, bind1_def, g0, bind8_def, mix_eq, bind1_def, g9, bind8_def, mix_eq, bind1_def, show nI k + 1 = nI (k + 1) from nI_1 _]
      exact ⟨_, rfl, 0, st, fr, tr, go, td, li, rfl, told_T⟩) (by
      rintro q ⟨s', w1, w2, w3, w4, w5, w6, rfl, ht⟩
      dsimp only
      unfold f_X8_digest_L51
      rw [if_pos (by rw [nI_le_i (by omega) (by omega)]; omega)]
      exact ⟨_, rfl, s', w1, w2, w3, w4, w5, w6, rfl, ht⟩) (by omega) (q := (hh, 0, sl, st0, fr0, tr0, go0, td0, li0)) ⟨sl, st0, fr0, tr0, go0, td0, li0, rfl, hT⟩
  obtain ⟨s', w1, w2, w3, w4, w5, w6, rfl, ht⟩ := h2
  exact ⟨s', w1, w2, w3, w4, w5, w6, h1, ht⟩
theorem cellM (hX : Ctx C W R N nb nd a f kinds rowAt colAt ways beside places dues bn bt dn dt) (hmc : ∀ c, c < C → mc c = kinds c) {LL : Nat → Nat → Int32} {l : Nat → Int32} (hl : ∀ n, n < 10 → ∀ x, x < W → l (6 * n + x) = LL n x) (hh : Int64) : loopF (fun q : Int64 × Int32 => f_X9_digest_L57 (nI C) (nI W) mc l q.1 q.2) FU (hh, 0) = some (cellV hh kinds (fun c => realmS C W LL 0 c) (fun c => realmS C W LL 9 c) C) := by
  have h36 := hX.c36
  refine loop_for (fun k => (cellV hh kinds (fun c => realmS C W LL 0 c) (fun c => realmS C W LL 9 c) k, nI k)) C (fun k hk => ?_) ?_ (by omega)
  · dsimp only
    have g0 : f_X9_realmOf (nI W) l (0 : Int32) (nI k) = some (realmS C W LL 0 k) := realmM hX.grid (n := 0) (by omega) hk (hl 0 (by omega))
    have g9 : f_X9_realmOf (nI W) l (9 : Int32) (nI k) = some (realmS C W LL 9 k) := realmM hX.grid (n := 9) (by omega) hk (hl 9 (by omega))
    unfold f_X9_digest_L57
    rw [if_neg (by rw [nI_le_i (by omega) (by omega)]; omega), gd_t (inb_n (by omega) (by omega)), letv_def, tnN (by omega), hmc k hk, g0, bind1_def, letv_def, g9, bind1_def, letv_def, show nI k + 1 = nI (k + 1) from nI_1 _]; rfl
  · dsimp only
    unfold f_X9_digest_L57
    rw [if_pos (by rw [nI_le_i (by omega) (by omega)]; omega)]
