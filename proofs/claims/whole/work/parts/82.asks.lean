variable {C W R N nb nd ns a f : Nat} {kinds rowAt colAt ways beside places dues bn bt dn dt sn sh sr mc mh ms mb md mg : Nat → Int32}
/-! where it is -/
def atS (l : List Nat) (k : Nat) : Int32 := if l = [] then -1 else nI ((l.drop (l.length - (min (l.length - 1) k + 1))).headD 0)
theorem atS_path {off : Nat} {p : Nat → Int32} {l : List Nat} (h : Path off p l) (h0 : l ≠ []) (k : Nat) : p (off + min (l.length - 1) k) = atS l k := by
  have hl : 0 < l.length := List.length_pos_iff.mpr h0
  obtain ⟨c, -, e1, e2⟩ := h.at (k := min (l.length - 1) k) (by omega)
  unfold atS
  rw [if_neg h0, e1, e2]; rfl
theorem trackX {NL : Nat → List Nat} {LL : Nat → Nat → Int32} {tr go li : Nat → Int32} {td : Nat → Int64} {K : Nat} (h : CNights W K NL LL tr go td li) {n k : Nat} (hn : n < K) (hK : n < 10) (hk : k ≤ 24) (hlen : (NL n).length ≤ 25) : f_X7_trackAt tr go (nI n) (nI k) = some (atS (NL n) k) := by
  obtain ⟨h1, h2, h3, -, -⟩ := h n hn
  unfold f_X7_trackAt
  rw [gd_t (inb_n (by omega) (by omega)), tnN (by omega), h3]
  have e : (if nI ((NL n).length - 1) < nI k then nI ((NL n).length - 1) else nI k) = nI (min ((NL n).length - 1) k) := by
    by_cases q : (NL n).length - 1 < k
    · rw [if_pos (by rw [nI_lt_i (by omega) (by omega)]; exact q), Nat.min_eq_left (by omega)]
    · rw [if_neg (by rw [nI_lt_i (by omega) (by omega)]; exact q), Nat.min_eq_right (by omega)]
  rw [e, mul25, gd_t (inb_n (by omega) (by omega)), tnN (by omega)]
  by_cases h0 : NL n = []
  · unfold atS
    rw [if_pos h0, h0, show min (([] : List Nat).length - 1) k = 0 from by simp, Nat.add_zero, h2 h0]
  · rw [atS_path h1 h0 k]
theorem stepsM {l : List Nat} (h0 : l ≠ []) : nI l.length - 1 = nI (l.length - 1) := nI_sub1 (List.length_pos_iff.mpr h0)
theorem steps0 : nI ([] : List Nat).length - 1 = -1 := by decide
theorem atM {NL : Nat → List Nat} {LL : Nat → Nat → Int32} {p s l : Nat → Int32} {K : Nat} (h : MNights W K NL LL p s l) {n k : Nat} (hn : n < K) (hK : n < 10) (hk : k ≤ 24) (hlen : (NL n).length ≤ 25) : f_X9_atOf p s (nI n) (nI k) = some (atS (NL n) k) := by
  obtain ⟨h1, h2, -⟩ := h n hn
  unfold f_X9_atOf
  rw [gd_t (inb_n (by omega) (by omega)), tnN (by omega), h2]
  by_cases h0 : NL n = []
  · unfold atS
    rw [if_pos h0, h0, if_pos steps0]
  · have hl : 0 < (NL n).length := List.length_pos_iff.mpr h0
    rw [stepsM h0, if_neg (nI_neg1 (by omega)), gd_t (inb_n (by omega) (by omega))]
    have e : f_X9_lesser (nI k) (nI ((NL n).length - 1)) = some (nI (min ((NL n).length - 1) k)) := by
      unfold f_X9_lesser
      by_cases q : (NL n).length - 1 ≤ k
      · rw [if_pos (by rw [nI_le_i (by omega) (by omega)]; exact q), Nat.min_eq_left q]
      · rw [if_neg (by rw [nI_le_i (by omega) (by omega)]; exact q), Nat.min_eq_right (by omega)]
    rw [e, bind1_def, n25, gd_t (inb_n (by omega) (by omega)), tnN (by omega), atS_path h1 h0 k]
theorem goesM {NL : Nat → List Nat} {LL : Nat → Nat → Int32} {p s l : Nat → Int32} {K : Nat} (h : MNights W K NL LL p s l) {n : Nat} (hn : n < K) (hK : n < 10) (hlen : (NL n).length ≤ 25) : f_X9_goesOf s (nI n) = some (nI ((NL n).length - 1)) := by
  obtain ⟨h1, h2, -⟩ := h n hn
  unfold f_X9_goesOf
  rw [gd_t (inb_n (by omega) (by omega)), tnN (by omega), h2]
  by_cases h0 : NL n = []
  · rw [h0, if_pos steps0]; rfl
  · rw [stepsM h0, if_neg (nI_neg1 (by omega)), gd_t (inb_n (by omega) (by omega))]
/-! the class's asking, behind told -/
theorem at_x (hX : Ctx C W R N nb nd a f kinds rowAt colAt ways beside places dues bn bt dn dt) {sl : Int32} {st0 fr0 tr0 go0 li0 st fr tr go li : Nat → Int32} {td0 td : Nat → Int64} (hT : f_X8_told sl (nI C) (nI W) (nI R) kinds rowAt colAt ways beside (nI nb) bn bt (nI nd) dn dt (nI a) (nI f) (-1) (-1) st0 fr0 tr0 go0 td0 li0 = some (0, st, fr, tr, go, td, li)) (hC : CNights W 10 (NLs C W R kinds kinds (fun _ => true) nb bn bt nd dn dt a f) (LLs C W R kinds kinds (fun _ => true) nb bn bt nd dn dt a f) tr go td li) {n k : Nat} (hn : n < 10) (hk : k ≤ 24) :
    f_X8_at sl (nI C) (nI W) (nI R) kinds rowAt colAt ways beside (nI nb) bn bt (nI nd) dn dt (nI a) (nI f) (-1) (-1) st0 fr0 tr0 go0 td0 li0 (nI n) (nI k) = some (atS ((NLs C W R kinds kinds (fun _ => true) nb bn bt nd dn dt a f) n) k, 0, st, fr, tr, go, td, li) := by
  unfold f_X8_at
  rw [show f_X8_isNight (nI n) = some 1 from by unfold f_X8_isNight; rw [show (9 : Int32) = nI 9 from rfl, upTo_yes (by omega) (by omega)]; rfl, bind1_def, if_neg one_ne0, show f_X8_isUpTo (nI k) (24 : Int32) = some 1 from upTo_yes (M := 24) hk (by omega), bind1_def, if_neg one_ne0, hT, bind7_def, trackX hC hn hn hk (NLs_len hX.grid ..), bind1_def]
theorem isNight_yes {n : Nat} (hn : n < 10) : f_X8_isNight (nI n) = some 1 := by
  unfold f_X8_isNight; rw [show (9 : Int32) = nI 9 from rfl, upTo_yes (by omega) (by omega)]; rfl
theorem below_yes {k M : Nat} (h : k < M) (hM : M ≤ 40) : f_X8_isUpTo (nI k) (nI M - 1) = some 1 := by
  rw [nI_sub1 (by omega)]; exact upTo_yes (by omega) (by omega)
theorem isHouse_yes {k M : Nat} (h : k < M) (hM : M ≤ 40) : f_X8_isHouse (nI M) (nI k) = some 1 := by
  unfold f_X8_isHouse; rw [below_yes h hM]; rfl
theorem goes_x (hX : Ctx C W R N nb nd a f kinds rowAt colAt ways beside places dues bn bt dn dt) {sl : Int32} {st0 fr0 tr0 go0 li0 st fr tr go li : Nat → Int32} {td0 td : Nat → Int64} (hT : f_X8_told sl (nI C) (nI W) (nI R) kinds rowAt colAt ways beside (nI nb) bn bt (nI nd) dn dt (nI a) (nI f) (-1) (-1) st0 fr0 tr0 go0 td0 li0 = some (0, st, fr, tr, go, td, li)) (hC : CNights W 10 (NLs C W R kinds kinds (fun _ => true) nb bn bt nd dn dt a f) (LLs C W R kinds kinds (fun _ => true) nb bn bt nd dn dt a f) tr go td li) {n : Nat} (hn : n < 10) :
    f_X8_goes sl (nI C) (nI W) (nI R) kinds rowAt colAt ways beside (nI nb) bn bt (nI nd) dn dt (nI a) (nI f) (-1) (-1) st0 fr0 tr0 go0 td0 li0 (nI n) = some (nI (((NLs C W R kinds kinds (fun _ => true) nb bn bt nd dn dt a f) n).length - 1), 0, st, fr, tr, go, td, li) := by
  unfold f_X8_goes
  rw [isNight_yes hn, bind1_def, if_neg one_ne0, hT, bind7_def, gd_t (inb_n hn (by omega)), tnN (by omega), (hC n hn).2.2.1]
theorem line_x (hX : Ctx C W R N nb nd a f kinds rowAt colAt ways beside places dues bn bt dn dt) {sl : Int32} {st0 fr0 tr0 go0 li0 st fr tr go li : Nat → Int32} {td0 td : Nat → Int64} (hT : f_X8_told sl (nI C) (nI W) (nI R) kinds rowAt colAt ways beside (nI nb) bn bt (nI nd) dn dt (nI a) (nI f) (-1) (-1) st0 fr0 tr0 go0 td0 li0 = some (0, st, fr, tr, go, td, li)) (hC : CNights W 10 (NLs C W R kinds kinds (fun _ => true) nb bn bt nd dn dt a f) (LLs C W R kinds kinds (fun _ => true) nb bn bt nd dn dt a f) tr go td li) {n x : Nat} (hn : n < 10) (hx : x < W) :
    f_X8_line sl (nI C) (nI W) (nI R) kinds rowAt colAt ways beside (nI nb) bn bt (nI nd) dn dt (nI a) (nI f) (-1) (-1) st0 fr0 tr0 go0 td0 li0 (nI n) (nI x) = some ((LLs C W R kinds kinds (fun _ => true) nb bn bt nd dn dt a f) n x, 0, st, fr, tr, go, td, li) := by
  have h6 := hX.1.1
  unfold f_X8_line
  rw [isNight_yes hn, bind1_def, if_neg one_ne0, below_yes hx (by omega), bind1_def, if_neg one_ne0, hT, bind7_def, mul6, gd_t (inb_n (by omega) (by omega)), tnN (by omega), (hC n hn).2.2.2.2 x hx]
theorem realm_x (hX : Ctx C W R N nb nd a f kinds rowAt colAt ways beside places dues bn bt dn dt) {sl : Int32} {st0 fr0 tr0 go0 li0 st fr tr go li : Nat → Int32} {td0 td : Nat → Int64} (hT : f_X8_told sl (nI C) (nI W) (nI R) kinds rowAt colAt ways beside (nI nb) bn bt (nI nd) dn dt (nI a) (nI f) (-1) (-1) st0 fr0 tr0 go0 td0 li0 = some (0, st, fr, tr, go, td, li)) (hC : CNights W 10 (NLs C W R kinds kinds (fun _ => true) nb bn bt nd dn dt a f) (LLs C W R kinds kinds (fun _ => true) nb bn bt nd dn dt a f) tr go td li) {n c : Nat} (hn : n < 10) (hc : c < C) :
    f_X8_realm sl (nI C) (nI W) (nI R) kinds rowAt colAt ways beside (nI nb) bn bt (nI nd) dn dt (nI a) (nI f) (-1) (-1) st0 fr0 tr0 go0 td0 li0 (nI n) (nI c) = some (realmS C W (LLs C W R kinds kinds (fun _ => true) nb bn bt nd dn dt a f) n c, 0, st, fr, tr, go, td, li) := by
  have h36 := hX.c36
  unfold f_X8_realm
  rw [isNight_yes hn, bind1_def, if_neg one_ne0, below_yes hc (by omega), bind1_def, if_neg one_ne0, hT, bind7_def, realmX hX.1 hn (by omega) (hC n hn).2.2.2.2, bind1_def]
/-- a house's cell -/
def plc (places : Nat → Int32) (h : Nat) : Nat := (places h).toNatClampNeg
theorem Ctx.plcOK (hX : Ctx C W R N nb nd a f kinds rowAt colAt ways beside places dues bn bt dn dt) {h : Nat} (hh : h < N) : places h = nI (plc places h) ∧ plc places h ≤ 39 := by
  obtain ⟨p, hp, e⟩ := hX.place hh
  unfold plc
  rw [e, tnN (by omega)]; exact ⟨rfl, hp⟩
def lieS (C W : Nat) (places : Nat → Int32) (LL : Nat → Nat → Int32) (n h : Nat) : Int32 := realmS C W LL n (plc places h)
theorem lieX (hX : Ctx C W R N nb nd a f kinds rowAt colAt ways beside places dues bn bt dn dt) {LL : Nat → Nat → Int32} {li : Nat → Int32} {n h : Nat} (hn : n < 10) (hh : h < N) (hli : ∀ x, x < W → li (6 * n + x) = LL n x) : f_X7_realmOf (nI C) rowAt colAt li (nI n) (places h) = some (lieS C W places LL n h) := by
  obtain ⟨e, hp⟩ := hX.plcOK hh
  rw [e]
  exact realmX hX.1 hn hp hli
theorem lieM (hX : Ctx C W R N nb nd a f kinds rowAt colAt ways beside places dues bn bt dn dt) (hM : MOK C N nb nd a f kinds places dues bn bt dn dt mc mh ms mb md) {LL : Nat → Nat → Int32} {l : Nat → Int32} {n h : Nat} (hn : n < 10) (hh : h < N) (hli : ∀ x, x < W → l (6 * n + x) = LL n x) : f_X9_liesOf (nI C) (nI W) mh l (nI n) (nI h) = some (lieS C W places LL n h) := by
  obtain ⟨e, hp⟩ := hX.plcOK hh
  have := hX.n8
  exact liesM hX.grid hn (by omega) hp ((hM.2.1 h hh).1.trans e) hli
theorem lies_x (hX : Ctx C W R N nb nd a f kinds rowAt colAt ways beside places dues bn bt dn dt) {sl : Int32} {st0 fr0 tr0 go0 li0 st fr tr go li : Nat → Int32} {td0 td : Nat → Int64} (hT : f_X8_told sl (nI C) (nI W) (nI R) kinds rowAt colAt ways beside (nI nb) bn bt (nI nd) dn dt (nI a) (nI f) (-1) (-1) st0 fr0 tr0 go0 td0 li0 = some (0, st, fr, tr, go, td, li)) (hC : CNights W 10 (NLs C W R kinds kinds (fun _ => true) nb bn bt nd dn dt a f) (LLs C W R kinds kinds (fun _ => true) nb bn bt nd dn dt a f) tr go td li) {n h : Nat} (hn : n < 10) (hh : h < N) :
    f_X8_lies sl (nI C) (nI W) (nI R) kinds rowAt colAt ways beside (nI N) places (nI nb) bn bt (nI nd) dn dt (nI a) (nI f) (-1) (-1) st0 fr0 tr0 go0 td0 li0 (nI n) (nI h) = some (lieS C W places (LLs C W R kinds kinds (fun _ => true) nb bn bt nd dn dt a f) n h, 0, st, fr, tr, go, td, li) := by
  have h8 := hX.n8
  unfold f_X8_lies
  rw [isNight_yes hn, bind1_def, if_neg one_ne0, isHouse_yes hh (by omega), bind1_def, if_neg one_ne0, hT, bind7_def, gd_t (inb_n (by omega) (by omega)), tnN (by omega), lieX hX hn hh (hC n hn).2.2.2.2, bind1_def]
/-! changes -/
def chS (g : Nat → Int32) : Nat → Int32
  | 0 => 0
  | k + 1 => chS g k + (if g (k + 1) = g k then 0 else 1)
theorem changesX {ce p : Int32} {li : Nat → Int32} (g : Nat → Int32) (hg : ∀ n, n < 10 → f_X7_realmOf ce rowAt colAt li (nI n) p = some (g n)) : loopF (fun q : Int32 × Int32 => f_X8_changes_L32 ce rowAt colAt li p q.1 q.2) FU (0, 1) = some (chS g 9) := by
  refine loop_for (fun k => (chS g k, nI (k + 1))) 9 (fun k hk => ?_) ?_ (by omega)
  · dsimp only
    unfold f_X8_changes_L32 f_X8_changes_b61L32
    rw [if_neg (by rw [show (10 : Int32) = nI 10 from rfl, nI_le_i (by omega) (by omega)]; omega), hg (k + 1) (by omega), bind1_def, nI_pred, hg k (by omega), bind1_def, show nI (k + 1) + 1 = nI (k + 1 + 1) from nI_1 _]
    show _ = some (Sum.inl (chS g k + (if g (k + 1) = g k then 0 else 1), nI (k + 1 + 1)))
    by_cases h : g (k + 1) = g k
    · rw [if_pos h, if_pos h, i_add0]
    · rw [if_neg h, if_neg h]
  · dsimp only
    unfold f_X8_changes_L32
    rw [if_pos (by decide)]
theorem changesM {ce wi : Int32} {l : Nat → Int32} {h : Int32} (g : Nat → Int32) (hg : ∀ n, n < 10 → f_X9_liesOf ce wi mh l (nI n) h = some (g n)) : f_X9_changesOf ce wi mh l h = some (chS g 9) := by
  have e : loopF (fun q : Int32 × Int32 => f_X9_changesOf_L4 ce wi mh l h q.1 q.2) FU (0, 1) = some (chS g 9) := by
    refine loop_for (fun k => (chS g k, nI (k + 1))) 9 (fun k hk => ?_) ?_ (by omega)
    · dsimp only
      unfold f_X9_changesOf_L4 f_X9_changesOf_b33L4
      rw [if_neg (by rw [show (10 : Int32) = nI 10 from rfl, nI_le_i (by omega) (by omega)]; omega), hg (k + 1) (by omega), bind1_def, nI_pred, hg k (by omega), bind1_def, show nI (k + 1) + 1 = nI (k + 1 + 1) from nI_1 _]
      show _ = some (Sum.inl (chS g k + (if g (k + 1) = g k then 0 else 1), nI (k + 1 + 1)))
      by_cases h : g (k + 1) = g k
      · rw [if_pos h, if_pos h]; rfl
      · rw [if_neg h, if_neg h]; rfl
    · dsimp only
      unfold f_X9_changesOf_L4
      rw [if_pos (by decide)]
  unfold f_X9_changesOf
  rw [e]; rfl
theorem changes_x (hX : Ctx C W R N nb nd a f kinds rowAt colAt ways beside places dues bn bt dn dt) {sl : Int32} {st0 fr0 tr0 go0 li0 st fr tr go li : Nat → Int32} {td0 td : Nat → Int64} (hT : f_X8_told sl (nI C) (nI W) (nI R) kinds rowAt colAt ways beside (nI nb) bn bt (nI nd) dn dt (nI a) (nI f) (-1) (-1) st0 fr0 tr0 go0 td0 li0 = some (0, st, fr, tr, go, td, li)) (hC : CNights W 10 (NLs C W R kinds kinds (fun _ => true) nb bn bt nd dn dt a f) (LLs C W R kinds kinds (fun _ => true) nb bn bt nd dn dt a f) tr go td li) {h : Nat} (hh : h < N) :
    f_X8_changes sl (nI C) (nI W) (nI R) kinds rowAt colAt ways beside (nI N) places (nI nb) bn bt (nI nd) dn dt (nI a) (nI f) (-1) (-1) st0 fr0 tr0 go0 td0 li0 (nI h) = some (chS (fun n => lieS C W places (LLs C W R kinds kinds (fun _ => true) nb bn bt nd dn dt a f) n h) 9, 0, st, fr, tr, go, td, li) := by
  have h8 := hX.n8
  unfold f_X8_changes
  rw [isHouse_yes hh (by omega), bind1_def, if_neg one_ne0, hT, bind7_def, gd_t (inb_n (by omega) (by omega)), tnN (by omega), letv_def, changesX (fun n => lieS C W places (LLs C W R kinds kinds (fun _ => true) nb bn bt nd dn dt a f) n h) (fun n hn => lieX hX hn hh (hC n hn).2.2.2.2), bind1_def]
/-! taxes -/
def taxI (g : Nat → Int32) (d : Nat → Int32) (r : Int32) (h : Nat) : Int32 := if g h = r then d h else 0
theorem taxes_x (hX : Ctx C W R N nb nd a f kinds rowAt colAt ways beside places dues bn bt dn dt) {sl : Int32} {st0 fr0 tr0 go0 li0 st fr tr go li : Nat → Int32} {td0 td : Nat → Int64} (hT : f_X8_told sl (nI C) (nI W) (nI R) kinds rowAt colAt ways beside (nI nb) bn bt (nI nd) dn dt (nI a) (nI f) (-1) (-1) st0 fr0 tr0 go0 td0 li0 = some (0, st, fr, tr, go, td, li)) (hC : CNights W 10 (NLs C W R kinds kinds (fun _ => true) nb bn bt nd dn dt a f) (LLs C W R kinds kinds (fun _ => true) nb bn bt nd dn dt a f) tr go td li) {n r : Nat} (hn : n < 10) (hr : r ≤ 1) :
    f_X8_taxes sl (nI C) (nI W) (nI R) kinds rowAt colAt ways beside (nI N) places dues (nI nb) bn bt (nI nd) dn dt (nI a) (nI f) (-1) (-1) st0 fr0 tr0 go0 td0 li0 (nI n) (nI r) = some (sumI (fun m => sumI (taxI (fun h => lieS C W places (LLs C W R kinds kinds (fun _ => true) nb bn bt nd dn dt a f) m h) dues (nI r)) N) (n + 1), 0, st, fr, tr, go, td, li) := by
  have h8 := hX.n8
  unfold f_X8_taxes
  rw [isNight_yes hn, bind1_def, if_neg one_ne0, show f_X8_isUpTo (nI r) (1 : Int32) = some 1 from upTo_yes (M := 1) hr (by omega), bind1_def, if_neg one_ne0, hT, bind7_def]
  have inner : ∀ m, m < 10 → ∀ s0 : Int32, loopF (fun q : Int32 × Int32 => f_X8_taxes_L38 (nI C) rowAt colAt (nI N) places dues li (nI r) (nI m) q.1 q.2) FU (s0, 0) = some (s0 + sumI (taxI (fun h => lieS C W places (LLs C W R kinds kinds (fun _ => true) nb bn bt nd dn dt a f) m h) dues (nI r)) N) := by
    intro m hm s0
    have e : loopF (fun q : Int32 × Int32 => f_X8_taxes_L38 (nI C) rowAt colAt (nI N) places dues li (nI r) (nI m) q.1 q.2) FU ((fun k => (s0 + sumI (taxI (fun h => lieS C W places (LLs C W R kinds kinds (fun _ => true) nb bn bt nd dn dt a f) m h) dues (nI r)) k, nI k)) 0) = some (s0 + sumI (taxI (fun h => lieS C W places (LLs C W R kinds kinds (fun _ => true) nb bn bt nd dn dt a f) m h) dues (nI r)) N) := by
      refine loop_for (fun k => (s0 + sumI (taxI (fun h => lieS C W places (LLs C W R kinds kinds (fun _ => true) nb bn bt nd dn dt a f) m h) dues (nI r)) k, nI k)) N (fun k hk => ?_) ?_ (by omega)
      · dsimp only
        unfold f_X8_taxes_L38 f_X8_taxes_b85L38
        rw [if_neg (by rw [nI_le_i (by omega) (by omega)]; omega), gd_t (inb_n (by omega) (by omega)), tnN (by omega), lieX hX hm hk (hC m hm).2.2.2.2, bind1_def, gd_t (inb_n (by omega) (by omega)), letv_def, show nI k + 1 = nI (k + 1) from nI_1 _]
        show _ = some (Sum.inl (s0 + (sumI (taxI (fun h => lieS C W places (LLs C W R kinds kinds (fun _ => true) nb bn bt nd dn dt a f) m h) dues (nI r)) k + (if lieS C W places (LLs C W R kinds kinds (fun _ => true) nb bn bt nd dn dt a f) m k = nI r then dues k else 0)), nI (k + 1)))
        by_cases h : lieS C W places (LLs C W R kinds kinds (fun _ => true) nb bn bt nd dn dt a f) m k = nI r
        · rw [if_pos h, if_pos h, Int32.add_assoc]
        · rw [if_neg h, if_neg h, i_add0]
      · dsimp only
        unfold f_X8_taxes_L38
        rw [if_pos (by rw [nI_le_i (by omega) (by omega)]; omega)]
    rw [← e]
    show _ = loopF _ FU (s0 + 0, 0)
    rw [i_add0]
  have e : loopF (fun q : Int32 × Int32 => f_X8_taxes_L29 (nI C) rowAt colAt (nI N) places dues li (nI n) (nI r) q.1 q.2) FU (0, 0) = some (sumI (fun m => sumI (taxI (fun h => lieS C W places (LLs C W R kinds kinds (fun _ => true) nb bn bt nd dn dt a f) m h) dues (nI r)) N) (n + 1)) := by
    refine loop_for (fun k => (sumI (fun m => sumI (taxI (fun h => lieS C W places (LLs C W R kinds kinds (fun _ => true) nb bn bt nd dn dt a f) m h) dues (nI r)) N) k, nI k)) (n + 1) (fun k hk => ?_) ?_ (by omega)
    · dsimp only
      unfold f_X8_taxes_L29
      rw [if_neg (by rw [nI_lt_i (by omega) (by omega)]; omega), inner k (by omega), bind1_def, show nI k + 1 = nI (k + 1) from nI_1 _]; rfl
    · dsimp only
      unfold f_X8_taxes_L29
      rw [if_pos (by rw [nI_lt_i (by omega) (by omega)]; omega)]
  rw [e, bind1_def]
theorem taxesM (hX : Ctx C W R N nb nd a f kinds rowAt colAt ways beside places dues bn bt dn dt) (hM : MOK C N nb nd a f kinds places dues bn bt dn dt mc mh ms mb md) {LL : Nat → Nat → Int32} {l : Nat → Int32} {n r : Nat} (hn : n < 10) (hli : ∀ m, m < 10 → ∀ x, x < W → l (6 * m + x) = LL m x) :
    f_X9_taxesOf (nI C) (nI W) (nI N) mh l (nI n) (nI r) = some (sumI (fun m => sumI (taxI (fun h => lieS C W places LL m h) dues (nI r)) N) (n + 1)) := by
  have h8 := hX.n8
  have inner : ∀ m, m < 10 → ∀ s0 : Int32, loopF (fun q : Int32 × Int32 => f_X9_taxesOf_L14 (nI C) (nI W) (nI N) mh l (nI r) (nI m) q.1 q.2) FU (s0, 0) = some (s0 + sumI (taxI (fun h => lieS C W places LL m h) dues (nI r)) N) := by
    intro m hm s0
    have e : loopF (fun q : Int32 × Int32 => f_X9_taxesOf_L14 (nI C) (nI W) (nI N) mh l (nI r) (nI m) q.1 q.2) FU ((fun k => (s0 + sumI (taxI (fun h => lieS C W places LL m h) dues (nI r)) k, nI k)) 0) = some (s0 + sumI (taxI (fun h => lieS C W places LL m h) dues (nI r)) N) := by
      refine loop_for (fun k => (s0 + sumI (taxI (fun h => lieS C W places LL m h) dues (nI r)) k, nI k)) N (fun k hk => ?_) ?_ (by omega)
      · dsimp only
        unfold f_X9_taxesOf_L14 f_X9_taxesOf_b51L14
        rw [if_neg (by rw [nI_le_i (by omega) (by omega)]; omega), lieM hX hM hm hk (hli m hm), bind1_def, n2, show nI (2 * k) + 1 = nI (2 * k + 1) from nI_1 _, gd_t (inb_n (by omega) (by omega)), letv_def, letv_def, tnN (by omega), (hM.2.1 k hk).2, show nI k + 1 = nI (k + 1) from nI_1 _]
        show _ = some (Sum.inl (s0 + (sumI (taxI (fun h => lieS C W places LL m h) dues (nI r)) k + (if lieS C W places LL m k = nI r then dues k else 0)), nI (k + 1)))
        by_cases h : lieS C W places LL m k = nI r
        · rw [if_pos h, if_pos h, Int32.add_assoc]
        · rw [if_neg h, if_neg h, i_add0, i_add0]
      · dsimp only
        unfold f_X9_taxesOf_L14
        rw [if_pos (by rw [nI_le_i (by omega) (by omega)]; omega)]
    rw [← e]
    show _ = loopF _ FU (s0 + 0, 0)
    rw [i_add0]
  have e : loopF (fun q : Int32 × Int32 => f_X9_taxesOf_L5 (nI C) (nI W) (nI N) mh l (nI n) (nI r) q.1 q.2) FU (0, 0) = some (sumI (fun m => sumI (taxI (fun h => lieS C W places LL m h) dues (nI r)) N) (n + 1)) := by
    refine loop_for (fun k => (sumI (fun m => sumI (taxI (fun h => lieS C W places LL m h) dues (nI r)) N) k, nI k)) (n + 1) (fun k hk => ?_) ?_ (by omega)
    · dsimp only
      unfold f_X9_taxesOf_L5
      rw [if_neg (by rw [nI_lt_i (by omega) (by omega)]; omega), inner k (by omega), bind1_def, show nI k + 1 = nI (k + 1) from nI_1 _]; rfl
    · dsimp only
      unfold f_X9_taxesOf_L5
      rw [if_pos (by rw [nI_lt_i (by omega) (by omega)]; omega)]
  unfold f_X9_taxesOf
  rw [e, bind1_def]
