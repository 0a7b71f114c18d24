variable {C W R N nb nd ns a f : Nat} {kinds rowAt colAt ways beside places dues bn bt dn dt sn sh sr mc mh ms mb md mg : Nat → Int32}
theorem refLL (hX : Ctx C W R N nb nd a f kinds rowAt colAt ways beside places dues bn bt dn dt) (hmc : ∀ c, c < C → mc c = kinds c) {nb' v : Nat} {bn' bt' : Nat → Int32} (hb : nb' ≤ 16) (n : Nat) : NLs C W R mc mc (prM 0) nb' bn' bt' nd dn dt v f n = NLs C W R kinds kinds (fun _ => true) nb' bn' bt' nd dn dt v f n ∧ LLs C W R mc mc (prM 0) nb' bn' bt' nd dn dt v f n = LLs C W R kinds kinds (fun _ => true) nb' bn' bt' nd dn dt v f n :=
  NLs_congr (L := n) hX.grid (fun c hc => by rw [hmc c hc]) hmc (fun m hm c hc => addIf_congr _ fun i hi => bowlT_pr (prM_all ⟨i, by omega⟩)) (fun _ _ _ _ => rfl) n (Nat.le_refl _)
theorem putsM {k : Nat} (hk : k ≤ 9) (mb : Nat → Int32) (v x : Int32) : f_X9_puts (nI k) mb v x = some (nI (k + 1), upd (upd mb (2 * k) v) (2 * k + 1) x) := by
  unfold f_X9_puts
  rw [n2, show nI (2 * k) + 1 = nI (2 * k + 1) from nI_1 _, gd_t (inb_n (by omega) (by omega)), gd_t (inb_n (by omega) (by omega)), letv_def, tnN (by omega), tnN (by omega), show nI k + 1 = nI (k + 1) from nI_1 _]
theorem RowOK.put {cap k : Nat} (h : RowOK cap k mb bn bt) {cap' : Nat} (hc : k + 1 ≤ cap') (v x : Int32) : RowOK cap' (k + 1) (upd (upd mb (2 * k) v) (2 * k + 1) x) (upd bn k v) (upd bt k x) := by
  refine ⟨hc, fun i hi => ?_⟩
  by_cases e : i = k
  · subst e
    rw [upd_at, upd_at, upd_at, upd_ne _ _ (by omega), upd_at]; exact ⟨rfl, rfl⟩
  · rw [upd_ne (k := 2 * k + 1) (j := 2 * i) _ _ (by omega), upd_ne (k := 2 * k) (j := 2 * i) _ _ (by omega), upd_ne (k := 2 * k + 1) (j := 2 * i + 1) _ _ (by omega), upd_ne (k := 2 * k) (j := 2 * i + 1) _ _ (by omega), upd_ne (k := k) (j := i) _ _ e, upd_ne (k := k) (j := i) _ _ e]
    exact h.2 i (by omega)
theorem RowOK.kept {cap n k : Nat} (h : RowOK cap n mb bn bt) (hk : n ≤ k) (v x : Int32) : RowOK cap n (upd (upd mb (2 * k) v) (2 * k + 1) x) bn bt := by
  refine ⟨h.1, fun i hi => ?_⟩
  rw [upd_ne _ _ (by omega), upd_ne _ _ (by omega), upd_ne _ _ (by omega), upd_ne _ _ (by omega)]
  exact h.2 i hi
theorem b01_dec {P : Prop} [Decidable P] : (if P then (1 : Int32) else 0) = b01 (decide P) := by
  unfold b01
  by_cases h : P
  · rw [if_pos h, if_pos (decide_eq_true h)]
  · rw [if_neg h, if_neg (by rw [decide_eq_false h]; decide)]
theorem soM (hX : Ctx C W R N nb nd a f kinds rowAt colAt ways beside places dues bn bt dn dt) (hM : MOK C N nb nd a f kinds places dues bn bt dn dt mc mh ms mb md) {n h nb' : Nat} {mb' bn' bt' : Nat → Int32} (hn : n < 10) (hh : h < N) (hb : RowOK 10 nb' mb' bn' bt') (p0 s0 l0 : Nat → Int32) (r : Int32) :
    ∃ pa sp li, f_X9_isSo (nI C) (nI W) (nI nb') (nI nd) 0 mc mh ms mb' md p0 s0 l0 (nI n) (nI h) r = some (b01 (decide (realmS C W (LLs C W R kinds kinds (fun _ => true) nb' bn' bt' nd dn dt a f) n (plc places h) = r)), pa, sp, li) := by
  have h8 := hX.n8
  obtain ⟨ep, hp⟩ := hX.plcOK hh
  obtain ⟨hmc, hmh, hs0, hs1, -, hd⟩ := hM
  obtain ⟨pa, sp, li, w1, -⟩ := isSoM (C := C) (W := W) (R := R) (mc' := mc) (dn := dn) (dt := dt) hX.grid hX.2.2.2.2.2.1 hX.2.2.2.2.2.2 hn (by omega) hp ((hmh h hh).1.trans ep) hs0 hs1 hb hd 0 p0 s0 l0 r
  have hb10 := hb.1
  rw [realmS_eq (refLL hX hmc (by omega) n).2, b01_dec] at w1
  exact ⟨pa, sp, li, w1⟩
set_option maxHeartbeats 1000000 in
theorem lay_L31 (hX : Ctx C W R N nb nd a f kinds rowAt colAt ways beside places dues bn bt dn dt) (hM : MOK C N nb nd a f kinds places dues bn bt dn dt mc mh ms mb md) {n h : Nat} {r : Int32} (hn : n < 10) (hh : h < N) (p0 s0 l0 : Nat → Int32) :
    ∃ mb' p s l, RowOK 8 nb mb' bn bt ∧ ((fstB (dr1 C W R nb nd a f kinds bn bt dn dt n (plc places h) r) C 0 = none ∧ loopF (fun q : Int32 × Int32 × (Nat → Int32) × (Nat → Int32) × (Nat → Int32) × (Nat → Int32) => f_X9_layOutOf_L31 (nI C) (nI W) (nI nd) 0 mc mh ms md (nI n) (nI h) r (nI nb) q.1 q.2.1 q.2.2.1 q.2.2.2.1 q.2.2.2.2.1 q.2.2.2.2.2) FU (0, nI nb, mb, p0, s0, l0) = some (.inr (nI nb, mb', p, s, l))) ∨
      ∃ m, fstB (dr1 C W R nb nd a f kinds bn bt dn dt n (plc places h) r) C 0 = some m ∧ loopF (fun q : Int32 × Int32 × (Nat → Int32) × (Nat → Int32) × (Nat → Int32) × (Nat → Int32) => f_X9_layOutOf_L31 (nI C) (nI W) (nI nd) 0 mc mh ms md (nI n) (nI h) r (nI nb) q.1 q.2.1 q.2.2.1 q.2.2.2.1 q.2.2.2.2.1 q.2.2.2.2.2) FU (0, nI nb, mb, p0, s0, l0) = some (.inl (nI m, nI nb, mb', p, s, l))) := by
  have h36 := hX.c36
  have hb8 := hX.b8
  obtain ⟨x, h1, h2⟩ := loop_find (body := fun q : Int32 × Int32 × (Nat → Int32) × (Nat → Int32) × (Nat → Int32) × (Nat → Int32) => f_X9_layOutOf_L31 (nI C) (nI W) (nI nd) 0 mc mh ms md (nI n) (nI h) r (nI nb) q.1 q.2.1 q.2.2.1 q.2.2.2.1 q.2.2.2.2.1 q.2.2.2.2.2)
    (fun k q => ∃ mb' p s l, q = (nI k, nI nb, mb', p, s, l) ∧ RowOK 8 nb mb' bn bt) (dr1 C W R nb nd a f kinds bn bt dn dt n (plc places h) r) C
    (fun m x => ∃ mb' p s l, x = Sum.inl (nI m, nI nb, mb', p, s, l) ∧ RowOK 8 nb mb' bn bt) (fun x => ∃ mb' p s l, x = Sum.inr (nI nb, mb', p, s, l) ∧ RowOK 8 nb mb' bn bt) (by
      rintro k q hk ⟨mb1, p, s, l, rfl, hb⟩
      obtain ⟨pa, sp, li, w⟩ := soM hX hM hn hh (hb.put (cap' := 10) (by omega) (nI n) (nI k)) p s l r
      constructor
      · intro hpk
        rw [b01_0 (show decide _ = false from hpk)] at w
        refine ⟨(nI (k + 1), nI nb, upd (upd mb1 (2 * nb) (nI n)) (2 * nb + 1) (nI k), pa, sp, li), ?_, _, pa, sp, li, rfl, hb.kept (Nat.le_refl _) _ _⟩
        dsimp only
        unfold f_X9_layOutOf_L31
        rw [if_neg (by rw [nI_le_i (by omega) (by omega)]; omega), putsM (by omega), bind2_def, w, bind4_def, if_pos rfl, show nI k + 1 = nI (k + 1) from nI_1 _]
      · intro hpk
        rw [b01_1 (show decide _ = true from hpk)] at w
        refine ⟨_, ?_, _, pa, sp, li, rfl, hb.kept (Nat.le_refl _) (nI n) (nI k)⟩
        dsimp only
        unfold f_X9_layOutOf_L31
        rw [if_neg (by rw [nI_le_i (by omega) (by omega)]; omega), putsM (by omega), bind2_def, w, bind4_def, if_neg one_ne0]) (by
      rintro q ⟨mb1, p, s, l, rfl, hb⟩
      refine ⟨_, ?_, mb1, p, s, l, rfl, hb⟩
      dsimp only
      unfold f_X9_layOutOf_L31
      rw [if_pos (by rw [nI_le_i (by omega) (by omega)]; omega)]) (by omega) (k0 := 0) (Nat.zero_le _) (q := (0, nI nb, mb, p0, s0, l0)) ⟨mb, p0, s0, l0, rfl, hM.2.2.2.2.1⟩
  rcases h2 with ⟨q, mb1, p, s, l, rfl, hb⟩ | ⟨m, -, -, q, -, mb1, p, s, l, rfl, hb⟩
  · exact ⟨mb1, p, s, l, hb, Or.inl ⟨q, h1⟩⟩
  · exact ⟨mb1, p, s, l, hb, Or.inr ⟨m, q, h1⟩⟩
set_option maxHeartbeats 1000000 in
theorem lay_L111 (hX : Ctx C W R N nb nd a f kinds rowAt colAt ways beside places dues bn bt dn dt) (hM : MOK C N nb nd a f kinds places dues bn bt dn dt mc mh ms mb md) {n h x : Nat} {r : Int32} (hn : n < 10) (hh : h < N) (hx : x < C) (p0 s0 l0 : Nat → Int32) :
    ∃ mb' p s l, RowOK 8 nb mb' bn bt ∧ ((lay2 (dr2 C W R nb nd a f kinds bn bt dn dt n (plc places h) r) C x = none ∧ loopF (fun q : Int32 × Int32 × (Nat → Int32) × (Nat → Int32) × (Nat → Int32) × (Nat → Int32) => f_X9_layOutOf_L111 (nI C) (nI W) (nI nd) 0 mc mh ms md (nI n) (nI h) r (nI nb) (nI x) q.1 q.2.1 q.2.2.1 q.2.2.2.1 q.2.2.2.2.1 q.2.2.2.2.2) FU (nI x, nI nb, mb, p0, s0, l0) = some (.inr (nI nb, mb', p, s, l))) ∨
      ∃ m, lay2 (dr2 C W R nb nd a f kinds bn bt dn dt n (plc places h) r) C x = some m ∧ loopF (fun q : Int32 × Int32 × (Nat → Int32) × (Nat → Int32) × (Nat → Int32) × (Nat → Int32) => f_X9_layOutOf_L111 (nI C) (nI W) (nI nd) 0 mc mh ms md (nI n) (nI h) r (nI nb) (nI x) q.1 q.2.1 q.2.2.1 q.2.2.2.1 q.2.2.2.2.1 q.2.2.2.2.2) FU (nI x, nI nb, mb, p0, s0, l0) = some (.inl (nI m, nI nb, mb', p, s, l))) := by
  have h36 := hX.c36
  have hb8 := hX.b8
  obtain ⟨z, h1, h2⟩ := loop_find (body := fun q : Int32 × Int32 × (Nat → Int32) × (Nat → Int32) × (Nat → Int32) × (Nat → Int32) => f_X9_layOutOf_L111 (nI C) (nI W) (nI nd) 0 mc mh ms md (nI n) (nI h) r (nI nb) (nI x) q.1 q.2.1 q.2.2.1 q.2.2.2.1 q.2.2.2.2.1 q.2.2.2.2.2)
    (fun k q => ∃ mb' p s l, q = (nI k, nI nb, mb', p, s, l) ∧ RowOK 8 nb mb' bn bt) (dr2 C W R nb nd a f kinds bn bt dn dt n (plc places h) r x) C
    (fun m x => ∃ mb' p s l, x = Sum.inl (nI m, nI nb, mb', p, s, l) ∧ RowOK 8 nb mb' bn bt) (fun x => ∃ mb' p s l, x = Sum.inr (nI nb, mb', p, s, l) ∧ RowOK 8 nb mb' bn bt) (by
      rintro k q hk ⟨mb1, p, s, l, rfl, hb⟩
      obtain ⟨pa, sp, li, w⟩ := soM hX hM hn hh ((hb.put (cap' := 10) (by omega) (nI n) (nI x)).put (cap' := 10) (by omega) (nI n) (nI k)) p s l r
      constructor
      · intro hpk
        rw [b01_0 (show decide _ = false from hpk)] at w
        refine ⟨(nI (k + 1), nI nb, upd (upd (upd (upd mb1 (2 * nb) (nI n)) (2 * nb + 1) (nI x)) (2 * (nb + 1)) (nI n)) (2 * (nb + 1) + 1) (nI k), pa, sp, li), ?_, _, pa, sp, li, rfl, (hb.kept (Nat.le_refl _) _ _).kept (by omega) _ _⟩
        dsimp only
        unfold f_X9_layOutOf_L111
        rw [if_neg (by rw [nI_le_i (by omega) (by omega)]; omega), putsM (by omega), bind2_def, putsM (by omega), bind2_def, w, bind4_def, if_pos rfl, show nI k + 1 = nI (k + 1) from nI_1 _]
      · intro hpk
        rw [b01_1 (show decide _ = true from hpk)] at w
        refine ⟨_, ?_, _, pa, sp, li, rfl, (hb.kept (Nat.le_refl _) (nI n) (nI x)).kept (k := nb + 1) (by omega) (nI n) (nI k)⟩
        dsimp only
        unfold f_X9_layOutOf_L111
        rw [if_neg (by rw [nI_le_i (by omega) (by omega)]; omega), putsM (by omega), bind2_def, putsM (by omega), bind2_def, w, bind4_def, if_neg one_ne0]) (by
      rintro q ⟨mb1, p, s, l, rfl, hb⟩
      refine ⟨_, ?_, mb1, p, s, l, rfl, hb⟩
      dsimp only
      unfold f_X9_layOutOf_L111
      rw [if_pos (by rw [nI_le_i (by omega) (by omega)]; omega)]) (by omega) (k0 := x) (by omega) (q := (nI x, nI nb, mb, p0, s0, l0)) ⟨mb, p0, s0, l0, rfl, hM.2.2.2.2.1⟩
  rcases h2 with ⟨q, mb1, p, s, l, rfl, hb⟩ | ⟨m, -, -, q, -, mb1, p, s, l, rfl, hb⟩
  · exact ⟨mb1, p, s, l, hb, Or.inl ⟨q, h1⟩⟩
  · exact ⟨mb1, p, s, l, hb, Or.inr ⟨m, q, h1⟩⟩
theorem MOK.bowls (hM : MOK C N nb nd a f kinds places dues bn bt dn dt mc mh ms mb md) {mb' : Nat → Int32} (hb : RowOK 8 nb mb' bn bt) : MOK C N nb nd a f kinds places dues bn bt dn dt mc mh ms mb' md := ⟨hM.1, hM.2.1, hM.2.2.1, hM.2.2.2.1, hb, hM.2.2.2.2.2⟩
set_option maxHeartbeats 1000000 in
theorem lay_L98 (hX : Ctx C W R N nb nd a f kinds rowAt colAt ways beside places dues bn bt dn dt) (hM : MOK C N nb nd a f kinds places dues bn bt dn dt mc mh ms mb md) {n h : Nat} {r : Int32} (hn : n < 10) (hh : h < N) (p0 s0 l0 : Nat → Int32) :
    ∃ mb' p s l, RowOK 8 nb mb' bn bt ∧ ((fstB (fun x => (lay2 (dr2 C W R nb nd a f kinds bn bt dn dt n (plc places h) r) C x).isSome) C 0 = none ∧ loopF (fun q : Int32 × Int32 × (Nat → Int32) × (Nat → Int32) × (Nat → Int32) × (Nat → Int32) => f_X9_layOutOf_L98 (nI C) (nI W) (nI nd) 0 mc mh ms md (nI n) (nI h) r (nI nb) q.1 q.2.1 q.2.2.1 q.2.2.2.1 q.2.2.2.2.1 q.2.2.2.2.2) FU (0, nI nb, mb, p0, s0, l0) = some (.inr (nI nb, mb', p, s, l))) ∨
      ∃ x m, fstB (fun x => (lay2 (dr2 C W R nb nd a f kinds bn bt dn dt n (plc places h) r) C x).isSome) C 0 = some x ∧ lay2 (dr2 C W R nb nd a f kinds bn bt dn dt n (plc places h) r) C x = some m ∧ loopF (fun q : Int32 × Int32 × (Nat → Int32) × (Nat → Int32) × (Nat → Int32) × (Nat → Int32) => f_X9_layOutOf_L98 (nI C) (nI W) (nI nd) 0 mc mh ms md (nI n) (nI h) r (nI nb) q.1 q.2.1 q.2.2.1 q.2.2.2.1 q.2.2.2.2.1 q.2.2.2.2.2) FU (0, nI nb, mb, p0, s0, l0) = some (.inl (nI x, nI m, nI nb, mb', p, s, l))) := by
  have h36 := hX.c36
  obtain ⟨z, h1, h2⟩ := loop_find (body := fun q : Int32 × Int32 × (Nat → Int32) × (Nat → Int32) × (Nat → Int32) × (Nat → Int32) => f_X9_layOutOf_L98 (nI C) (nI W) (nI nd) 0 mc mh ms md (nI n) (nI h) r (nI nb) q.1 q.2.1 q.2.2.1 q.2.2.2.1 q.2.2.2.2.1 q.2.2.2.2.2)
    (fun k q => ∃ mb' p s l, q = (nI k, nI nb, mb', p, s, l) ∧ RowOK 8 nb mb' bn bt) (fun x => (lay2 (dr2 C W R nb nd a f kinds bn bt dn dt n (plc places h) r) C x).isSome) C
    (fun x z => ∃ m mb' p s l, lay2 (dr2 C W R nb nd a f kinds bn bt dn dt n (plc places h) r) C x = some m ∧ z = Sum.inl (nI x, nI m, nI nb, mb', p, s, l) ∧ RowOK 8 nb mb' bn bt) (fun x => ∃ mb' p s l, x = Sum.inr (nI nb, mb', p, s, l) ∧ RowOK 8 nb mb' bn bt) (by
      rintro k q hk ⟨mb1, p, s, l, rfl, hb⟩
      obtain ⟨mb2, pa, sp, li, hb2, hh2⟩ := lay_L111 (r := r) hX (hM.bowls hb) hn hh hk p s l
      constructor
      · intro hpk
        rcases hh2 with ⟨-, e⟩ | ⟨m, q, -⟩
        · refine ⟨(nI (k + 1), nI nb, mb2, pa, sp, li), ?_, _, pa, sp, li, rfl, hb2⟩
          dsimp only
          unfold f_X9_layOutOf_L98
          rw [if_neg (by rw [nI_le_i (by omega) (by omega)]; omega), e, bindS_r, show nI k + 1 = nI (k + 1) from nI_1 _]; rfl
        · rw [q] at hpk; exact absurd hpk (by simp)
      · intro hpk
        rcases hh2 with ⟨q, -⟩ | ⟨m, q, e⟩
        · rw [q] at hpk; exact absurd hpk (by simp)
        · refine ⟨_, ?_, m, mb2, pa, sp, li, q, rfl, hb2⟩
          dsimp only
          unfold f_X9_layOutOf_L98
          rw [if_neg (by rw [nI_le_i (by omega) (by omega)]; omega), e, bindS_l]; rfl) (by
      rintro q ⟨mb1, p, s, l, rfl, hb⟩
      refine ⟨_, ?_, mb1, p, s, l, rfl, hb⟩
      dsimp only
      unfold f_X9_layOutOf_L98
      rw [if_pos (by rw [nI_le_i (by omega) (by omega)]; omega)]) (by omega) (k0 := 0) (Nat.zero_le _) (q := (0, nI nb, mb, p0, s0, l0)) ⟨mb, p0, s0, l0, rfl, hM.2.2.2.2.1⟩
  rcases h2 with ⟨q, mb1, p, s, l, rfl, hb⟩ | ⟨x, -, -, q, -, m, mb1, p, s, l, hm, rfl, hb⟩
  · exact ⟨mb1, p, s, l, hb, Or.inl ⟨q, h1⟩⟩
  · exact ⟨mb1, p, s, l, hb, Or.inr ⟨x, m, q, hm, h1⟩⟩
set_option maxHeartbeats 1000000 in
theorem layM (hX : Ctx C W R N nb nd a f kinds rowAt colAt ways beside places dues bn bt dn dt) (hM : MOK C N nb nd a f kinds places dues bn bt dn dt mc mh ms mb md) {n h : Nat} {r : Int32} (hn : n < 10) (hh : h < N) (i : Int32) (p0 s0 l0 : Nat → Int32) :
    ∃ mb' p s l, f_X9_layOutOf (nI C) (nI W) (nI nb) (nI nd) 0 mc mh ms mb md p0 s0 l0 (nI n) (nI h) r i = some (layA C W R nb nd a f kinds bn bt dn dt n (plc places h) r i, nI nb, mb', p, s, l) ∧ RowOK 8 nb mb' bn bt := by
  obtain ⟨p1, s1, l1, w⟩ := soM hX hM hn hh hM.2.2.2.2.1.more p0 s0 l0 r
  unfold f_X9_layOutOf
  rw [w, bind4_def]
  unfold layA
  cases b0 : lay0 C W R nb nd a f kinds bn bt dn dt n (plc places h) r
  · rw [b01_0 (show decide _ = false from b0), if_pos rfl]
    obtain ⟨mb1, p2, s2, l2, hb1, ⟨q, e⟩ | ⟨m, q, e⟩⟩ := lay_L31 (r := r) hX hM hn hh p1 s1 l1
    · rw [e, bindS_r]
      obtain ⟨mb2, p3, s3, l3, hb2, ⟨q2, e2⟩ | ⟨x, m, q2, q3, e2⟩⟩ := lay_L98 (r := r) hX (hM.bowls hb1) hn hh p2 s2 l2
      · refine ⟨mb2, p3, s3, l3, ?_, hb2⟩
        rw [layS_3 rfl q q2]
        show bindS (loopF _ FU (0, nI nb, mb1, p2, s2, l2)) _ _ = _
        rw [e2, bindS_r]; rfl
      · refine ⟨mb2, p3, s3, l3, ?_, hb2⟩
        rw [layS_2 rfl q q2 q3]
        show bindS (loopF _ FU (0, nI nb, mb1, p2, s2, l2)) _ _ = _
        rw [e2, bindS_l]
        show (if i = -1 then _ else if i = 0 then _ else _) = _
        by_cases h1 : i = -1
        · rw [if_pos h1, if_pos h1]
        · rw [if_neg h1, if_neg h1]
          by_cases h2 : i = 0
          · rw [if_pos h2, if_pos h2]
          · rw [if_neg h2, if_neg h2]
    · refine ⟨mb1, p2, s2, l2, ?_, hb1⟩
      rw [e, bindS_l, layS_1 rfl q]
      show (if i = -1 then _ else if i = 0 then _ else _) = _
      by_cases h1 : i = -1
      · rw [if_pos h1, if_pos h1]
      · rw [if_neg h1, if_neg h1]
        by_cases h2 : i = 0
        · rw [if_pos h2, if_pos h2]
        · rw [if_neg h2, if_neg h2]
  · rw [b01_1 (show decide _ = true from b0), if_neg one_ne0, layS_0 rfl]
    refine ⟨mb, p1, s1, l1, ?_, hM.2.2.2.2.1⟩
    by_cases h1 : i = -1
    · rw [if_pos h1, if_pos h1]
    · rw [if_neg h1, if_neg h1]
