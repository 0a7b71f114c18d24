variable {C W R N nb nd ns a f : Nat} {kinds rowAt colAt ways beside places dues bn bt dn dt sn sh sr mc mh ms mb md mg : Nat → Int32}
/-! bowls that matter -/
def matB (C f nb : Nat) (bn bt : Nat → Int32) (n i : Nat) : Bool := decide (i < nb) && (decide (plc bn i ≤ n) && (decide (plc bn i < f) && decide (plc bt i < C)))
theorem Ctx.bowl (hX : Ctx C W R N nb nd a f kinds rowAt colAt ways beside places dues bn bt dn dt) {i : Nat} (hi : i < nb) : bn i = nI (plc bn i) ∧ plc bn i ≤ 9 ∧ bt i = nI (plc bt i) ∧ plc bt i ≤ 35 := by
  obtain ⟨k, hk, e1⟩ := hX.2.2.2.2.1 i hi
  obtain ⟨t, ht, e2⟩ := hX.2.2.1.2 i hi
  unfold plc
  rw [e1, e2, tnN (by omega), tnN (by omega)]
  exact ⟨rfl, hk, rfl, ht⟩
theorem mat_far {n i : Nat} (h : nb ≤ i) : matB C f nb bn bt n i = false := by
  unfold matB
  rw [decide_eq_false (by omega), Bool.false_and]
theorem matterX (hX : Ctx C W R N nb nd a f kinds rowAt colAt ways beside places dues bn bt dn dt) {n : Nat} (hn : n < 10) : f_X8_bowlsThatMatter (nI C) (nI nb) bn bt (nI f) (nI n) = some (nI (bitsN (matB C f nb bn bt n) 8)) := by
  have h36 := hX.c36
  have hb8 := hX.b8
  have hf10 := hX.2.2.2.2.2.2
  have e : loopF (fun q : Int32 × Int32 => f_X8_bowlsThatMatter_L4 (nI C) (nI nb) bn bt (nI f) (nI n) q.1 q.2) FU (0, 0) = some (bitsI (matB C f nb bn bt n) nb) := by
    refine loop_for (fun k => (bitsI (matB C f nb bn bt n) k, nI k)) nb (fun k hk => ?_) ?_ (by omega)
    · dsimp only
      obtain ⟨e1, g1, e2, g2⟩ := hX.bowl hk
      have es : bitsI (matB C f nb bn bt n) (k + 1) = if matB C f nb bn bt n k = true then bitsI (matB C f nb bn bt n) k ||| ((1 : Int32) <<< (nI k &&& 31)) else bitsI (matB C f nb bn bt n) k := rfl
      unfold f_X8_bowlsThatMatter_L4 f_X8_bowlsThatMatter_b72L4
      rw [if_neg (by rw [nI_le_i (by omega) (by omega)]; omega), gd_t (inb_n (by omega) (by omega)), gd_t (inb_n (by omega) (by omega)), gd_t (inb_n (by omega) (by omega)), tnN (by omega), e1, e2, letv_def, show nI k + 1 = nI (k + 1) from nI_1 _, es]
      unfold matB
      rw [decide_eq_true hk, Bool.true_and]
      by_cases h1 : plc bn k ≤ n
      · rw [if_neg (by rw [nI_lt_i (by omega) (by omega)]; omega), decide_eq_true h1, Bool.true_and]
        by_cases h2 : plc bn k < f
        · rw [if_neg (by rw [nI_le_i (by omega) (by omega)]; omega), decide_eq_true h2, Bool.true_and]
          by_cases h3 : plc bt k < C
          · rw [if_neg (by rw [nI_le_i (by omega) (by omega)]; omega), decide_eq_true h3, if_pos rfl]
          · rw [if_pos (by rw [nI_le_i (by omega) (by omega)]; omega), decide_eq_false h3, if_neg (show ¬ (false = true) by decide)]
        · rw [if_pos (by rw [nI_le_i (by omega) (by omega)]; omega), decide_eq_false h2, Bool.false_and, if_neg (show ¬ (false = true) by decide)]
      · rw [if_pos (by rw [nI_lt_i (by omega) (by omega)]; omega), decide_eq_false h1, Bool.false_and, if_neg (show ¬ (false = true) by decide)]
    · dsimp only
      unfold f_X8_bowlsThatMatter_L4
      rw [if_pos (by rw [nI_le_i (by omega) (by omega)]; omega)]
  have e8 : bitsN (matB C f nb bn bt n) 8 = bitsN (matB C f nb bn bt n) nb := by
    have := bitsN_more (matB C f nb bn bt n) (k := nb) (8 - nb) (fun i h1 _ => mat_far h1)
    rw [show nb + (8 - nb) = 8 by omega] at this
    exact this
  unfold f_X8_bowlsThatMatter
  rw [e, bind1_def, bits_nI _ nb hb8, e8]
/-- behind frost nothing is weighed -/
theorem nightL_frost {W C R : Nat} (hC : C = R * W) (hC2 : C ≤ 36) {wl : Nat → Int32} {a a' b b' : Nat → Nat → Int32} {F : List Nat} (hF : FOK C F) (fz : Nat) :
    ∀ (n : Nat), (∀ k, k ≤ n → k < fz → ∀ d, d < C → a k d = a' k d ∧ b k d = b' k d) → nightL W C wl F fz a b n = nightL W C wl F fz a' b' n := by
  intro n
  induction n with
  | zero =>
    intro h
    by_cases h0 : 0 < fz
    · refine night1_congr hC hC2 (fun _ _ => Iff.rfl) (fun d hd => ?_) (fun d hd => (h 0 (by omega) h0 d hd).2) hF _
      unfold stP
      rw [(h 0 (by omega) h0 d hd).1]
    · rw [nightL_eq, nightL_eq]
      unfold night1
      rw [if_neg h0, if_neg h0]
  | succ n ih =>
    intro h
    by_cases h0 : n + 1 < fz
    · refine night1_congr hC hC2 (fun _ _ => Iff.rfl) (fun d hd => ?_) (fun d hd => (h (n + 1) (by omega) h0 d hd).2) hF _
      unfold stP
      rw [(h (n + 1) (by omega) h0 d hd).1, ih (fun k hk => h k (by omega))]
    · rw [nightL_eq, nightL_eq]
      unfold night1
      rw [if_neg h0, if_neg h0]
theorem lineL_frost {W C R : Nat} (hC : C = R * W) (hC2 : C ≤ 36) {wl : Nat → Int32} {a a' b b' : Nat → Nat → Int32} {F : List Nat} (hF : FOK C F) (fz : Nat) :
    ∀ (n : Nat), (∀ k, k ≤ n → k < fz → ∀ d, d < C → a k d = a' k d ∧ b k d = b' k d) → lineL W C R wl F fz a b n = lineL W C R wl F fz a' b' n := by
  intro n
  induction n with
  | zero => intro h; unfold lineL; rw [nightL_frost hC hC2 hF fz 0 h]
  | succ n ih => intro h; unfold lineL; rw [nightL_frost hC hC2 hF fz (n + 1) h, ih (fun k hk => h k (by omega))]
/-- a chance's question to bowls that are there -/
def chF (C W R nb nd a f : Nat) (kinds places bn bt dn dt : Nat → Int32) (n h : Nat) (r : Int32) (b : Nat → Bool) : Nat := if lieS C W places (LLs C W R kinds kinds b nb bn bt nd dn dt a f) n h = r then 1 else 0
theorem chF_le {n h : Nat} {r : Int32} (b : Nat → Bool) : chF C W R nb nd a f kinds places bn bt dn dt n h r b ≤ 1 := by
  unfold chF
  by_cases q : lieS C W places (LLs C W R kinds kinds b nb bn bt nd dn dt a f) n h = r
  · rw [if_pos q]; exact Nat.le_refl _
  · rw [if_neg q]; exact Nat.zero_le _
theorem chF_set (hX : Ctx C W R N nb nd a f kinds rowAt colAt ways beside places dues bn bt dn dt) {n h j : Nat} {r : Int32} (hj : j < nb) (hm : matB C f nb bn bt n j = false) (hn : n < 10) (b : Nat → Bool) : chF C W R nb nd a f kinds places bn bt dn dt n h r (setB b j) = chF C W R nb nd a f kinds places bn bt dn dt n h r b := by
  have hG := hX.grid
  have h36 := hX.c36
  have e : LLs C W R kinds kinds (setB b j) nb bn bt nd dn dt a f n = LLs C W R kinds kinds b nb bn bt nd dn dt a f n := by
    unfold LLs
    refine lineL_frost hG.2.2.1 h36 (firstF_ok kinds a hG.2.2.1 hG.2.2.2) f n fun k hk hkf d hd => ⟨rfl, ?_⟩
    unfold bOf
    refine congrArg _ (addIf_congr _ fun i hi => ?_)
    by_cases e : i = j
    · subst e
      obtain ⟨e1, g1, e2, g2⟩ := hX.bowl hi
      have no : ¬ (bn i = nI k ∧ bt i = nI d) := by
        rintro ⟨q1, q2⟩
        rw [e1, nI_eq_i (by omega) (by omega)] at q1
        rw [e2, nI_eq_i (by omega) (by omega)] at q2
        unfold matB at hm
        rw [decide_eq_true hi, decide_eq_true (show plc bn i ≤ n by omega), decide_eq_true (show plc bn i < f by omega), decide_eq_true (show plc bt i < C by omega)] at hm
        exact absurd hm (by decide)
      rw [bowlT_no (fun z => no z.2), bowlT_no (fun z => no z.2)]
    · exact bowlT_pr (by unfold setB; rw [if_neg e])
  unfold chF lieS
  rw [realmS_eq e]
theorem chF_congr (hX : Ctx C W R N nb nd a f kinds rowAt colAt ways beside places dues bn bt dn dt) {n h : Nat} {r : Int32} {b b' : Nat → Bool} (hb : ∀ i, i < nb → b i = b' i) : chF C W R nb nd a f kinds places bn bt dn dt n h r b = chF C W R nb nd a f kinds places bn bt dn dt n h r b' := by
  unfold chF lieS
  rw [realmS_eq (NLs_congr (L := n) hX.grid (fun _ _ => Iff.rfl) (fun _ _ => rfl) (fun m hm c hc => addIf_congr _ fun i hi => bowlT_pr (hb i hi)) (fun _ _ _ _ => rfl) n (Nat.le_refl _)).2]
theorem shareLoop (hX : Ctx C W R N nb nd a f kinds rowAt colAt ways beside places dues bn bt dn dt) {n w : Nat} {r : Int32} {LL : Nat → Nat → Int32} {li : Nat → Int32} {x : Nat → Nat} {sh : Nat → Int64} (hn : n < 10) (hli : ∀ y, y < W → li (6 * n + y) = LL n y) (hs : ∀ h, h < N → sh h = lN (x h)) :
    ∃ sh', loopF (fun q : Int32 × (Nat → Int64) => f_X8_shareOut_L18 (nI C) rowAt colAt (nI N) places li (lN w) (nI n) r q.1 q.2) FU (0, sh) = some sh' ∧ ∀ h, h < N → sh' h = lN (x h + (if lieS C W places LL n h = r then w else 0)) := by
  have h8 := hX.n8
  exact loop_inv (body := fun q : Int32 × (Nat → Int64) => f_X8_shareOut_L18 (nI C) rowAt colAt (nI N) places li (lN w) (nI n) r q.1 q.2) (fun k q => q.1 = nI k ∧ ∀ h, h < N → q.2 h = lN (x h + (if h < k ∧ lieS C W places LL n h = r then w else 0))) (fun sh' => ∀ h, h < N → sh' h = lN (x h + (if lieS C W places LL n h = r then w else 0))) N (by
    rintro k ⟨q1, q2⟩ hk ⟨e1, e2⟩
    dsimp only at e1 e2
    subst e1
    left
    dsimp only
    unfold f_X8_shareOut_L18 f_X8_shareOut_b67L18
    rw [if_neg (by rw [nI_le_i (by omega) (by omega)]; omega), gd_t (inb_n (by omega) (by omega)), tnN (by omega), lieX hX hn hk hli, bind1_def, show nI k + 1 = nI (k + 1) from nI_1 _]
    by_cases hq : lieS C W places LL n k = r
    · rw [if_pos hq, gd_t (inb_n (by omega) (by omega)), letv_def, gd_t (inb_n (by omega) (by omega)), e2 k hk, if_neg (fun z => by have := z.1; omega), Nat.add_zero, lN_add]
      refine ⟨_, rfl, rfl, fun h hh => ?_⟩
      dsimp only
      by_cases e : h = k
      · subst e
        rw [updL_at, if_pos ⟨by omega, hq⟩]; rfl
      · rw [updL_ne _ _ e, e2 h hh]
        by_cases hz : h < k ∧ lieS C W places LL n h = r
        · rw [if_pos hz, if_pos ⟨by omega, hz.2⟩]
        · rw [if_neg hz, if_neg (fun z => hz ⟨by omega, z.2⟩)]
    · rw [if_neg hq]
      refine ⟨_, rfl, rfl, fun h hh => ?_⟩
      dsimp only
      rw [e2 h hh]
      by_cases e : h = k
      · subst e
        rw [if_neg (fun z => hq z.2), if_neg (fun z => hq z.2)]
      · by_cases hz : h < k ∧ lieS C W places LL n h = r
        · rw [if_pos hz, if_pos ⟨by omega, hz.2⟩]
        · rw [if_neg hz, if_neg (fun z => hz ⟨by omega, z.2⟩)]) (by
    rintro ⟨q1, q2⟩ ⟨e1, e2⟩
    dsimp only at e1 e2
    subst e1
    dsimp only
    unfold f_X8_shareOut_L18
    rw [if_pos (by rw [nI_le_i (by omega) (by omega)]; omega)]
    refine ⟨_, rfl, fun h hh => ?_⟩
    rw [e2 h hh]
    by_cases hz : lieS C W places LL n h = r
    · rw [if_pos ⟨hh, hz⟩, if_pos hz]
    · rw [if_neg (fun z => hz z.2), if_neg hz]) (by omega) (q := (0, sh)) ⟨rfl, fun h hh => by dsimp only; rw [if_neg (fun z => by have := z.1; omega), Nat.add_zero]; exact hs h hh⟩
set_option maxHeartbeats 1000000 in
theorem shareOutX (hX : Ctx C W R N nb nd a f kinds rowAt colAt ways beside places dues bn bt dn dt) {n w s : Nat} {r : Int32} {x : Nat → Nat} {sh : Nat → Int64} (hn : n < 10) (hs8 : s < 256) (hw : w < 2 ^ 62) (hs : ∀ h, h < N → sh h = lN (x h)) (st0 fr0 tr0 go0 : Nat → Int32) (td0 : Nat → Int64) (li0 : Nat → Int32) :
    ∃ (c1 c2 c3 c4 : Nat → Int32) (c5 : Nat → Int64) (c6 : Nat → Int32) (sh' : Nat → Int64), f_X8_shareOut (nI C) (nI W) (nI R) kinds rowAt colAt ways beside (nI N) places (nI nb) bn bt (nI nd) dn dt (nI a) (nI f) (nI s) (-1) st0 fr0 tr0 go0 td0 li0 sh (lN w) (nI n) r = some (c1, c2, c3, c4, c5, c6, sh') ∧ ∀ h, h < N → sh' h = lN (x h + chF C W R nb nd a f kinds places bn bt dn dt n h r (QX 8 s) * w) := by
  have hb8 := hX.b8
  have h36 := hX.c36
  unfold f_X8_shareOut
  by_cases h0 : w = 0
  · subst h0
    rw [if_pos (show lg_cmp (lN 0) (0 : Int64) = 0 from (lg_eq0 _ _).mpr rfl)]
    exact ⟨_, _, _, _, _, _, _, rfl, fun h hh => by rw [Nat.mul_zero, Nat.add_zero]; exact hs h hh⟩
  · rw [if_neg (show ¬ lg_cmp (lN w) (0 : Int64) = 0 from fun q => h0 ((pk_lEQ (b := 0) (by omega) (by omega)).mp ((lg_eq0 _ _).mp q)))]
    obtain ⟨st, fr, tr, go, td, li, w1, w2, -⟩ := trialX hX (last := n) (v := a) hX.2.2.2.2.2.1 (by omega) (nI s) (-1) st0 fr0 tr0 go0 td0 li0
    have hli := w2.lines (n := n) (by omega) (LL' := LLs C W R kinds kinds (QX 8 s) nb bn bt nd dn dt a f) (NLs_congr (L := n) hX.grid (fun _ _ => Iff.rfl) (fun c hc => rakedK_no _ (by omega)) (fun m hm c hc => addIf_congr _ fun i hi => bowlT_pr (by
      unfold QX
      rw [decide_eq_true (show i < 8 by omega), Bool.true_and]
      exact prX_bit ⟨s, hs8⟩ ⟨i, by omega⟩)) (fun _ _ _ _ => rfl) n (Nat.le_refl _)).2
    obtain ⟨sh', g1, g2⟩ := shareLoop (w := w) (r := r) hX hn hli hs
    rw [w1, bind6_def, g1, bind1_def]
    refine ⟨_, _, _, _, _, _, _, rfl, fun h hh => ?_⟩
    rw [g2 h hh]
    unfold chF
    by_cases hq : lieS C W places (LLs C W R kinds kinds (QX 8 s) nb bn bt nd dn dt a f) n h = r
    · rw [if_pos hq, if_pos hq, Nat.one_mul]
    · rw [if_neg hq, if_neg hq, Nat.zero_mul]
theorem pow16 {k : Nat} : 16 ^ k = 2 ^ (4 * k) := by rw [Nat.pow_mul]
set_option maxHeartbeats 1000000 in
theorem weigh_x (hX : Ctx C W R N nb nd a f kinds rowAt colAt ways beside places dues bn bt dn dt) {c n r : Nat} (hc : c ≤ 16) (hn : n < 10) (ts tf tp tk : Int32) (st0 fr0 tr0 go0 : Nat → Int32) (td0 : Nat → Int64) (li0 : Nat → Int32) (wh : Int64) (sh0 : Nat → Int64) :
    ∃ (c1 c2 c3 c4 : Int32) (c5 c6 c7 c8 : Nat → Int32) (c9 : Nat → Int64) (c10 : Nat → Int32) (sh' : Nat → Int64), f_X8_weighChances (nI C) (nI W) (nI R) kinds rowAt colAt ways beside (nI N) places (nI nb) bn bt (nI nd) dn dt (nI a) (nI f) (-1) (-1) ts tf tp tk st0 fr0 tr0 go0 td0 li0 wh sh0 (nI c) (nI n) (nI r) = some (c1, c2, c3, c4, c5, c6, c7, c8, c9, c10, lN (2 ^ (4 * cntB (matB C f nb bn bt n) nb)), sh') ∧
      ∀ h, h < N → sh' h = lN (trB c (16 - c) (matB C f nb bn bt n) nb (chF C W R nb nd a f kinds places bn bt dn dt n h (nI r))) := by
  have hb8 := hX.b8
  have h8 := hX.n8
  obtain ⟨t0, f1, f2⟩ := fill8 sh0
  have hlt := bitsN_lt (matB C f nb bn bt n) 8
  have hcnt8 : cntB (matB C f nb bn bt n) 8 = cntB (matB C f nb bn bt n) nb := by
    have := (trB_more (c := 0) (d := 0) (matB C f nb bn bt n) (fun _ => 0) (k := nb) (8 - nb) (fun i h1 _ => mat_far h1)).2
    rw [show nb + (8 - nb) = 8 by omega] at this
    exact this
  have hle := cnt_le (matB C f nb bn bt n) nb
  obtain ⟨x, h1, h2⟩ := loop_inv (body := fun q : Int32 × Int32 × (Nat → Int32) × (Nat → Int32) × (Nat → Int32) × (Nat → Int32) × (Nat → Int64) × (Nat → Int32) × (Nat → Int64) => f_X8_weighChances_L54 (nI C) (nI W) (nI R) kinds rowAt colAt ways beside (nI N) places (nI nb) bn bt (nI nd) dn dt (nI a) (nI f) (-1) (nI c) (nI n) (nI r) (nI (bitsN (matB C f nb bn bt n) 8)) (nI (cntB (matB C f nb bn bt n) 8)) q.1 q.2.1 q.2.2.1 q.2.2.2.1 q.2.2.2.2.1 q.2.2.2.2.2.1 q.2.2.2.2.2.2.1 q.2.2.2.2.2.2.2.1 q.2.2.2.2.2.2.2.2)
    (fun k q => q.1 = nI k ∧ ∀ h, h < N → q.2.2.2.2.2.2.2.2 h = lN (sumN (termX c (16 - c) (matB C f nb bn bt n) (chF C W R nb nd a f kinds places bn bt dn dt n h (nI r)) 8) k)) (fun x => ∀ h, h < N → x.2.2.2.2.2.2.2 h = lN (sumN (termX c (16 - c) (matB C f nb bn bt n) (chF C W R nb nd a f kinds places bn bt dn dt n h (nI r)) 8) 256)) 256 (by
      rintro k ⟨q1, q2, q3, q4, q5, q6, q7, q8, q9⟩ hk ⟨e1, e2⟩
      dsimp only at e1 e2
      subst e1
      left
      dsimp only
      unfold f_X8_weighChances_L54 f_X8_weighChances_b115L54
      rw [if_neg (by rw [show (256 : Int32) = nI 256 from rfl, nI_le_i (by omega) (by omega)]; omega), count32 ⟨k, hk⟩, bind1_def, show nI k + 1 = nI (k + 1) from nI_1 _]
      have hsub : subB (fun i => (bitsN (matB C f nb bn bt n) 8).testBit i) k 8 = subB (matB C f nb bn bt n) k 8 := subB_m k (fun i hi => by rw [bitsN_bit, decide_eq_true hi, Bool.true_and])
      by_cases hq : (nI k &&& (nI (bitsN (matB C f nb bn bt n) 8) ^^^ (-1 : Int32))) = 0
      · have hsb : subB (matB C f nb bn bt n) k 8 = true := by rw [← hsub]; exact (sub_test hk).mp hq
        have hpop := sub_pop (matB C f nb bn bt n) 8 k hk hsb
        have hcl := cnt_le (matB C f nb bn bt n) 8
        have hwle : c ^ popF 8 k * (16 - c) ^ (cntB (matB C f nb bn bt n) 8 - popF 8 k) ≤ 16 ^ 8 := by
          have w1 := Nat.pow_le_pow_left hc (popF 8 k)
          have w2 := Nat.pow_le_pow_left (show 16 - c ≤ 16 by omega) (cntB (matB C f nb bn bt n) 8 - popF 8 k)
          have w3 := Nat.mul_le_mul w1 w2
          rw [← Nat.pow_add, show popF 8 k + (cntB (matB C f nb bn bt n) 8 - popF 8 k) = cntB (matB C f nb bn bt n) 8 by omega] at w3
          exact Nat.le_trans w3 (Nat.pow_le_pow_right (by decide) hcl)
        obtain ⟨y1, y2, y3, y4, y5, y6, sh', g1, g2⟩ := shareOutX (r := nI r) hX hn (show k < 256 from hk) (w := c ^ popF 8 k * (16 - c) ^ (cntB (matB C f nb bn bt n) 8 - popF 8 k)) (Nat.lt_of_le_of_lt hwle (by decide)) e2 q3 q4 q5 q6 q7 q8
        dsimp only
        rw [if_pos hq, nI_l (by omega), power_eq (k := popF 8 k) (by omega), bind1_def, show (16 : Int32) - nI c = nI (16 - c) from pk_sub (a := 16) hc, nI_l (by omega), pk_sub hpop, power_eq (by omega), bind1_def, lN_mul, g1, bind7_def]
        refine ⟨_, rfl, rfl, fun h hh => ?_⟩
        dsimp only
        rw [g2 h hh]
        show _ = lN (sumN (termX c (16 - c) (matB C f nb bn bt n) (chF C W R nb nd a f kinds places bn bt dn dt n h (nI r)) 8) k + termX c (16 - c) (matB C f nb bn bt n) (chF C W R nb nd a f kinds places bn bt dn dt n h (nI r)) 8 k)
        have et : termX c (16 - c) (matB C f nb bn bt n) (chF C W R nb nd a f kinds places bn bt dn dt n h (nI r)) 8 k = chF C W R nb nd a f kinds places bn bt dn dt n h (nI r) (QX 8 k) * (c ^ popF 8 k * (16 - c) ^ (cntB (matB C f nb bn bt n) 8 - popF 8 k)) := by
          unfold termX
          rw [if_pos hsb]
        rw [et]
      · have hsb : ¬ subB (matB C f nb bn bt n) k 8 = true := fun z => hq ((sub_test hk).mpr (by rw [hsub]; exact z))
        rw [if_neg hq]
        refine ⟨_, rfl, rfl, fun h hh => ?_⟩
        dsimp only
        rw [e2 h hh]
        show _ = lN (sumN (termX c (16 - c) (matB C f nb bn bt n) (chF C W R nb nd a f kinds places bn bt dn dt n h (nI r)) 8) k + termX c (16 - c) (matB C f nb bn bt n) (chF C W R nb nd a f kinds places bn bt dn dt n h (nI r)) 8 k)
        have et : termX c (16 - c) (matB C f nb bn bt n) (chF C W R nb nd a f kinds places bn bt dn dt n h (nI r)) 8 k = 0 := by
          unfold termX
          rw [if_neg hsb]
        rw [et, Nat.add_zero]) (by
      rintro ⟨q1, q2, q3, q4, q5, q6, q7, q8, q9⟩ ⟨e1, e2⟩
      dsimp only at e1 e2
      subst e1
      dsimp only
      unfold f_X8_weighChances_L54
      rw [if_pos (by decide)]
      exact ⟨_, rfl, e2⟩) (by omega) (q := (0, -1, st0, fr0, tr0, go0, td0, li0, t0)) ⟨rfl, fun h hh => f2 h (by omega)⟩
  unfold f_X8_weighChances f_X7_becomeLike
  rw [matterX hX hn, bind1_def, count32 ⟨_, hlt⟩, bind1_def, f1, bind1_def, bitsN_pop, show (16 : Int64) = lN 16 from rfl, power_eq (by have := cnt_le (matB C f nb bn bt n) 8; omega), bind1_def, bind4_def, h1]
  obtain ⟨x1, x2, x3, x4, x5, x6, x7, x8⟩ := x
  rw [bind8_def, hcnt8, pow16]
  refine ⟨_, _, _, _, _, _, _, _, _, _, _, rfl, fun h hh => ?_⟩
  have := h2 h hh
  dsimp only at this
  rw [this]
  have e8 := sumX c (16 - c) (matB C f nb bn bt n) 8 (chF C W R nb nd a f kinds places bn bt dn dt n h (nI r))
  rw [show (2 : Nat) ^ 8 = 256 from by decide] at e8
  rw [e8]
  have em := (trB_more (c := c) (d := 16 - c) (matB C f nb bn bt n) (chF C W R nb nd a f kinds places bn bt dn dt n h (nI r)) (k := nb) (8 - nb) (fun i h1 _ => mat_far h1)).1
  rw [show nb + (8 - nb) = 8 by omega] at em
  rw [em]
