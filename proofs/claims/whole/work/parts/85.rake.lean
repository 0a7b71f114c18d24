variable {C W R N nb nd ns a f : Nat} {kinds rowAt colAt ways beside places dues bn bt dn dt sn sh sr mc mh ms mb md mg : Nat → Int32}
/-- is it so, as the reference asks it -/
theorem isSoM (hG : Grid C W R) {n h p nb' : Nat} {mb' bn' bt' mc' : Nat → Int32} (ha : a ≤ 5) (hf : f ≤ 10) (hn : n < 10) (hh : h < 8) (hp : p ≤ 39) (hm : mh (2 * h) = nI p) (hs0 : ms 0 = nI a) (hs1 : ms 1 = nI f) (hb : RowOK 10 nb' mb' bn' bt') (hd : RowOK 8 nd md dn dt) (gone : Int32) (p0 s0 l0 : Nat → Int32) (r : Int32) :
    ∃ pa sp li, f_X9_isSo (nI C) (nI W) (nI nb') (nI nd) gone mc' mh ms mb' md p0 s0 l0 (nI n) (nI h) r = some (if realmS C W (LLs C W R mc' mc' (prM gone) nb' bn' bt' nd dn dt a f) n p = r then 1 else 0, pa, sp, li) ∧
      MNights W (n + 1) (NLs C W R mc' mc' (prM gone) nb' bn' bt' nd dn dt a f) (LLs C W R mc' mc' (prM gone) nb' bn' bt' nd dn dt a f) pa sp li := by
  obtain ⟨pa, sp, li, w1, w2⟩ := lives_eq (C := C) (W := W) (R := R) (nb := nb') (nd := nd) (last := n) hG.1 hG.2.1 hG.2.2.1 hG.c36 hG.2.2.2 ha hf (by omega) gone (mc := mc') hs0 hs1 hb hd p0 s0 l0
  refine ⟨pa, sp, li, ?_, w2⟩
  unfold f_X9_isSo
  rw [w1, bind3_def, liesM hG (LL := LLs C W R mc' mc' (prM gone) nb' bn' bt' nd dn dt a f) hn hh hp hm (w2 n (by omega)).2.2, bind1_def]
  by_cases e : realmS C W (LLs C W R mc' mc' (prM gone) nb' bn' bt' nd dn dt a f) n p = r
  · rw [if_pos e, if_pos e]
  · rw [if_neg e, if_neg e]
theorem realmS_eq {L L' : Nat → Nat → Int32} {n p : Nat} (h : L n = L' n) : realmS C W L n p = realmS C W L' n p := by
  unfold realmS
  rw [h]
def lk (o : Option Nat) : Int32 := match o with
  | none => -1
  | some c => nI c
def rkP (C W R nb nd a f : Nat) (kinds bn bt dn dt : Nat → Int32) (n p : Nat) (r : Int32) (c : Nat) : Bool := decide (kinds c = 0) && decide (realmS C W (LLs C W R kinds (rakedK kinds (nI c)) (fun _ => true) nb bn bt nd dn dt a f) n p = r)
theorem rkP_no {n p c : Nat} {r : Int32} (h : ¬ (kinds c = 0 ∧ realmS C W (LLs C W R kinds (rakedK kinds (nI c)) (fun _ => true) nb bn bt nd dn dt a f) n p = r)) : rkP C W R nb nd a f kinds bn bt dn dt n p r c = false := by
  unfold rkP
  by_cases h2 : kinds c = 0
  · have h3 : ¬ realmS C W (LLs C W R kinds (rakedK kinds (nI c)) (fun _ => true) nb bn bt nd dn dt a f) n p = r := fun q => h ⟨h2, q⟩
    rw [decide_eq_false h3, Bool.and_false]
  · rw [decide_eq_false h2, Bool.false_and]
theorem rkP_yes {n p c : Nat} {r : Int32} (h2 : kinds c = 0) (h3 : realmS C W (LLs C W R kinds (rakedK kinds (nI c)) (fun _ => true) nb bn bt nd dn dt a f) n p = r) : rkP C W R nb nd a f kinds bn bt dn dt n p r c = true := by
  unfold rkP
  rw [decide_eq_true h2, decide_eq_true h3]; rfl
/-- nights of the class's trial with a raked cell or not, some bowls or all -/
theorem trialX (hX : Ctx C W R N nb nd a f kinds rowAt colAt ways beside places dues bn bt dn dt) {last v : Nat} (hv : v ≤ 5) (hlast : last ≤ 9) (present raked : Int32) (st0 fr0 tr0 go0 : Nat → Int32) (td0 : Nat → Int64) (li0 : Nat → Int32) :
    ∃ st fr tr go td li, f_X7_walkNights (nI C) (nI W) (nI R) kinds rowAt colAt ways beside (nI nb) bn bt (nI nd) dn dt (nI v) (nI f) present raked st0 fr0 tr0 go0 td0 li0 (nI last) = some (st, fr, tr, go, td, li) ∧
      CNights W (last + 1) (NLs C W R kinds (rakedK kinds raked) (prX present) nb bn bt nd dn dt v f) (LLs C W R kinds (rakedK kinds raked) (prX present) nb bn bt nd dn dt v f) tr go td li ∧
      ∀ c, c < C → st c = stP (aOf (rakedK kinds raked) nd dn dt last) (prevL (NLs C W R kinds (rakedK kinds raked) (prX present) nb bn bt nd dn dt v f) last) c ∧ fr c = bOf (rakedK kinds raked) (prX present) nb bn bt last c :=
  walkNights_eq (bn := bn) (dn := dn) hX.1 hX.2.2.1 hX.2.2.2.1 hv hX.2.2.2.2.2.2 hlast present raked st0 fr0 tr0 go0 td0 li0
theorem CNights.lines {NL : Nat → List Nat} {LL LL' : Nat → Nat → Int32} {tr go li : Nat → Int32} {td : Nat → Int64} {K n : Nat} (h : CNights W K NL LL tr go td li) (hn : n < K) (e : LL n = LL' n) : ∀ x, x < W → li (6 * n + x) = LL' n x := fun x hx => by rw [← e]; exact (h n hn).2.2.2.2 x hx
theorem isUpTo2_yes {r : Nat} (hr : r ≤ 2) : f_X8_isUpTo (nI r) (2 : Int32) = some 1 := upTo_yes (M := 2) hr (by omega)
theorem question_yes {n h r : Nat} (hn : n < 10) (hh : h < N) (hN : N ≤ 8) (hr : r ≤ 2) : f_X8_isQuestion (nI N) (nI n) (nI h) (nI r) = some 1 := by
  unfold f_X8_isQuestion
  rw [isNight_yes hn, bind1_def, if_neg one_ne0, isHouse_yes hh (by omega), bind1_def, if_neg one_ne0, isUpTo2_yes hr]; rfl
theorem LLs_all (hX : Ctx C W R N nb nd a f kinds rowAt colAt ways beside places dues bn bt dn dt) {L v : Nat} {kd : Nat → Int32} {pr : Nat → Bool} (hpr : ∀ i, i < nb → pr i = true) (hkd : ∀ c, c < C → kd c = kinds c) : ∀ n, n ≤ L → NLs C W R kinds kd pr nb bn bt nd dn dt v f n = NLs C W R kinds kinds (fun _ => true) nb bn bt nd dn dt v f n ∧ LLs C W R kinds kd pr nb bn bt nd dn dt v f n = LLs C W R kinds kinds (fun _ => true) nb bn bt nd dn dt v f n :=
  NLs_congr (L := L) hX.grid (fun _ _ => Iff.rfl) hkd (fun n hn c hc => addIf_congr _ fun i hi => bowlT_pr (hpr i hi)) (fun _ _ _ _ => rfl)
set_option maxHeartbeats 1000000 in
theorem rake_x (hX : Ctx C W R N nb nd a f kinds rowAt colAt ways beside places dues bn bt dn dt) {n h r : Nat} (hn : n < 10) (hh : h < N) (hr : r ≤ 2) (ts tf tp tk : Int32) (st0 fr0 tr0 go0 : Nat → Int32) (td0 : Nat → Int64) (li0 : Nat → Int32) :
    ∃ (c1 c2 c3 c4 : Int32) (c5 c6 c7 c8 : Nat → Int32) (c9 : Nat → Int64) (c10 : Nat → Int32), f_X8_rake (nI C) (nI W) (nI R) kinds rowAt colAt ways beside (nI N) places (nI nb) bn bt (nI nd) dn dt (nI a) (nI f) (-1) (-1) ts tf tp tk st0 fr0 tr0 go0 td0 li0 (nI n) (nI h) (nI r) = some (lk (fstB (rkP C W R nb nd a f kinds bn bt dn dt n (plc places h) (nI r)) C 0), c1, c2, c3, c4, c5, c6, c7, c8, c9, c10) := by
  have h36 := hX.c36
  have h8 := hX.n8
  obtain ⟨ep, hp⟩ := hX.plcOK hh
  have hb8 := hX.b8
  unfold f_X8_rake f_X7_becomeLike
  rw [question_yes hn hh h8 hr, bind1_def, if_neg one_ne0, bind4_def]
  obtain ⟨x, h1, h2⟩ := loop_find (body := fun q : Int32 × Int32 × (Nat → Int32) × (Nat → Int32) × (Nat → Int32) × (Nat → Int32) × (Nat → Int64) × (Nat → Int32) => f_X8_rake_L27 (nI C) (nI W) (nI R) kinds rowAt colAt ways beside places (nI nb) bn bt (nI nd) dn dt (nI a) (nI f) (-1) (nI n) (nI h) (nI r) q.1 q.2.1 q.2.2.1 q.2.2.2.1 q.2.2.2.2.1 q.2.2.2.2.2.1 q.2.2.2.2.2.2.1 q.2.2.2.2.2.2.2)
    (fun k q => q.1 = nI k) (rkP C W R nb nd a f kinds bn bt dn dt n (plc places h) (nI r)) C (fun m x => ∃ y, x = Sum.inl (nI m, y)) (fun x => ∃ y, x = Sum.inr y) (by
      rintro k ⟨q1, q2, q3, q4, q5, q6, q7, q8⟩ hk hq
      dsimp only at hq
      subst hq
      obtain ⟨st, fr, tr, go, td, li, w1, w2, -⟩ := trialX hX (last := n) (v := a) hX.2.2.2.2.2.1 (by omega) (-1) (nI k) q3 q4 q5 q6 q7 q8
      have hli := w2.lines (n := n) (by omega) (LL' := LLs C W R kinds (rakedK kinds (nI k)) (fun _ => true) nb bn bt nd dn dt a f) (NLs_congr (L := n) hX.grid (fun _ _ => Iff.rfl) (fun _ _ => rfl) (fun m hm c hc => addIf_congr _ fun i hi => bowlT_pr (prX_all ⟨i, by omega⟩)) (fun _ _ _ _ => rfl) n (Nat.le_refl _)).2
      have hre := realmX hX.1 hn hp hli
      constructor
      · intro hpk
        dsimp only
        unfold f_X8_rake_L27 f_X8_rake_b93L27
        rw [if_neg (by rw [nI_le_i (by omega) (by omega)]; omega), gd_t (inb_n (by omega) (by omega)), tnN (by omega), show nI k + 1 = nI (k + 1) from nI_1 _]
        by_cases hk0 : kinds k = 0
        · rw [if_pos hk0, w1, bind6_def, gd_t (inb_n (by omega) (by omega)), tnN (by omega), ep, hre, bind1_def, if_neg (fun q => by rw [rkP_yes hk0 q] at hpk; exact absurd hpk (by decide))]
          exact ⟨_, rfl, rfl⟩
        · rw [if_neg hk0]
          exact ⟨_, rfl, rfl⟩
      · intro hpk
        dsimp only
        unfold f_X8_rake_L27
        have hk0 : kinds k = 0 := by
          rcases Decidable.em (kinds k = 0) with q | q
          · exact q
          · rw [rkP_no (fun z => q z.1)] at hpk; exact absurd hpk (by decide)
        have hk1 : realmS C W (LLs C W R kinds (rakedK kinds (nI k)) (fun _ => true) nb bn bt nd dn dt a f) n (plc places h) = nI r := by
          rcases Decidable.em (realmS C W (LLs C W R kinds (rakedK kinds (nI k)) (fun _ => true) nb bn bt nd dn dt a f) n (plc places h) = nI r) with q | q
          · exact q
          · rw [rkP_no (fun z => q z.2)] at hpk; exact absurd hpk (by decide)
        rw [if_neg (by rw [nI_le_i (by omega) (by omega)]; omega), gd_t (inb_n (by omega) (by omega)), tnN (by omega), if_pos hk0, w1, bind6_def, gd_t (inb_n (by omega) (by omega)), tnN (by omega), ep, hre, bind1_def, if_pos hk1]
        exact ⟨_, rfl, _, rfl⟩) (by
      rintro ⟨q1, q2⟩ hq
      dsimp only at hq
      subst hq
      dsimp only
      unfold f_X8_rake_L27
      rw [if_pos (by rw [nI_le_i (by omega) (by omega)]; omega)]
      exact ⟨_, rfl, _, rfl⟩) (by omega) (k0 := 0) (Nat.zero_le _) (q := (0, -1, st0, fr0, tr0, go0, td0, li0)) rfl
  rw [h1]
  rcases h2 with ⟨q, y, rfl⟩ | ⟨m, -, -, q, -, y, rfl⟩
  · obtain ⟨y1, y2, y3, y4, y5, y6, y7⟩ := y
    rw [bindS_r, show fstB (rkP C W R nb nd a f kinds bn bt dn dt n (plc places h) (nI r)) C 0 = none from q]
    exact ⟨_, _, _, _, _, _, _, _, _, _, rfl⟩
  · obtain ⟨y1, y2, y3, y4, y5, y6, y7⟩ := y
    rw [bindS_l, show fstB (rkP C W R nb nd a f kinds bn bt dn dt n (plc places h) (nI r)) C 0 = some m from q]
    exact ⟨_, _, _, _, _, _, _, _, _, _, rfl⟩
theorem upd_back {g : Nat → Int32} {c : Nat} {v : Int32} (h : g c = 0) : upd (upd g c v) c 0 = g := by
  funext j
  by_cases e : j = c
  · rw [e, upd_at, h]
  · rw [upd_ne _ _ e, upd_ne _ _ e]
theorem rakeLL (hX : Ctx C W R N nb nd a f kinds rowAt colAt ways beside places dues bn bt dn dt) (hmc : ∀ c, c < C → mc c = kinds c) {c n : Nat} (hc : c < C) (h0 : kinds c = 0) : LLs C W R (upd mc c 2) (upd mc c 2) (prM 0) nb bn bt nd dn dt a f n = LLs C W R kinds (rakedK kinds (nI c)) (fun _ => true) nb bn bt nd dn dt a f n := by
  have h36 := hX.c36
  have hb8 := hX.b8
  refine (NLs_congr (L := n) hX.grid (fun d hd => ?_) (fun d hd => ?_) (fun m hm d hd => addIf_congr _ fun i hi => bowlT_pr (prM_all ⟨i, by omega⟩)) (fun _ _ _ _ => rfl) n (Nat.le_refl _)).2
  · by_cases e : d = c
    · rw [e, upd_at, h0]; exact ⟨fun q => absurd q (by decide), fun q => absurd q (by decide)⟩
    · rw [upd_ne _ _ e, hmc d hd]
  · unfold rakedK
    by_cases e : d = c
    · rw [e, upd_at, if_pos rfl]
    · rw [upd_ne _ _ e, hmc d hd, if_neg (by rw [nI_eq_i (by omega) (by omega)]; exact e)]
set_option maxHeartbeats 1000000 in
theorem rakeM (hX : Ctx C W R N nb nd a f kinds rowAt colAt ways beside places dues bn bt dn dt) (hM : MOK C N nb nd a f kinds places dues bn bt dn dt mc mh ms mb md) {n h r : Nat} (hn : n < 10) (hh : h < N) (p0 s0 l0 : Nat → Int32) :
    ∃ p s l, f_X9_rakeOf (nI C) (nI W) (nI nb) (nI nd) 0 mc mh ms mb md p0 s0 l0 (nI n) (nI h) (nI r) = some (lk (fstB (rkP C W R nb nd a f kinds bn bt dn dt n (plc places h) (nI r)) C 0), mc, p, s, l) := by
  have h36 := hX.c36
  have h8 := hX.n8
  obtain ⟨ep, hp⟩ := hX.plcOK hh
  obtain ⟨hmc, hmh, hs0, hs1, hb, hd⟩ := hM
  have key : ∃ x, loopF (fun q : Int32 × Int32 × (Nat → Int32) × (Nat → Int32) × (Nat → Int32) × (Nat → Int32) => f_X9_rakeOf_L11 (nI C) (nI W) (nI nb) (nI nd) 0 mh ms mb md (nI n) (nI h) (nI r) q.1 q.2.1 q.2.2.1 q.2.2.2.1 q.2.2.2.2.1 q.2.2.2.2.2) FU (-1, nI C - 1, mc, p0, s0, l0) = some x ∧ ∃ p s l, x = (lk (fstB (rkP C W R nb nd a f kinds bn bt dn dt n (plc places h) (nI r)) C 0), mc, p, s, l) := by
    refine loop_inv (fun k q => ∃ p s l, q = (lk (fstB (rkP C W R nb nd a f kinds bn bt dn dt n (plc places h) (nI r)) k (C - k)), nI (C - k) - 1, mc, p, s, l)) _ C ?_ ?_ (by omega) ⟨p0, s0, l0, rfl⟩
    · rintro k q hk ⟨p, s, l, rfl⟩
      left
      dsimp only
      obtain ⟨j, hj⟩ : ∃ j, C - k = j + 1 := ⟨C - k - 1, by omega⟩
      have hjk : C - (k + 1) = j := by omega
      rw [hj, hjk, nI_pred]
      unfold f_X9_rakeOf_L11 f_X9_rakeOf_b51L11 f_X9_rakeOf_b61L11
      rw [if_neg (nI_pos (by omega)), gd_t (inb_n (by omega) (by omega)), tnN (by omega), hmc j (by omega), gd_t (inb_n (by omega) (by omega))]
      have dec : nI j + (-1) = nI j - 1 := by rw [Int32.sub_eq_add_neg]
      by_cases h0 : kinds j = 0
      · rw [if_pos h0]
        obtain ⟨pa, sp, li, w1, -⟩ := isSoM (C := C) (W := W) (R := R) (nb' := nb) (mc' := upd mc j 2) (bn' := bn) (bt' := bt) (dn := dn) (dt := dt) hX.grid hX.2.2.2.2.2.1 hX.2.2.2.2.2.2 hn (by omega) hp ((hmh h hh).1.trans ep) hs0 hs1 hb.more hd 0 p s l (nI r)
        rw [realmS_eq (rakeLL hX hmc (by omega) h0)] at w1
        rw [w1, bind4_def, upd_back (by rw [hmc j (by omega)]; exact h0)]
        by_cases e : realmS C W (LLs C W R kinds (rakedK kinds (nI j)) (fun _ => true) nb bn bt nd dn dt a f) n (plc places h) = nI r
        · rw [if_pos e, if_neg one_ne0, gd_t (inb_n (by omega) (by omega))]
          refine ⟨_, rfl, pa, sp, li, ?_⟩
          rw [fstB_yes (rkP_yes h0 e), dec]; rfl
        · rw [if_neg e, if_pos rfl, gd_t (inb_n (by omega) (by omega))]
          refine ⟨_, rfl, pa, sp, li, ?_⟩
          rw [fstB_no (rkP_no fun q => e q.2), dec]
      · rw [if_neg h0]
        refine ⟨_, rfl, p, s, l, ?_⟩
        rw [fstB_no (rkP_no fun q => h0 q.1), dec]
    · rintro q ⟨p, s, l, rfl⟩
      refine ⟨_, ?_, p, s, l, rfl⟩
      dsimp only
      unfold f_X9_rakeOf_L11
      rw [Nat.sub_self, if_pos (by decide)]
  obtain ⟨x, e, p, s, l, rfl⟩ := key
  refine ⟨p, s, l, ?_⟩
  unfold f_X9_rakeOf
  rw [letv_def, e, bind5_def]
