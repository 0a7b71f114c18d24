/-! nights under a supposition, for both sides -/
def NLs (C W R : Nat) (kinds kd : Nat → Int32) (pr : Nat → Bool) (nb : Nat) (bn bt : Nat → Int32) (nd : Nat) (dn dt : Nat → Int32) (a f : Nat) : Nat → List Nat := nightL W C kinds (firstF W R kinds a) f (aOf kd nd dn dt) (bOf kd pr nb bn bt)
def LLs (C W R : Nat) (kinds kd : Nat → Int32) (pr : Nat → Bool) (nb : Nat) (bn bt : Nat → Int32) (nd : Nat) (dn dt : Nat → Int32) (a f : Nat) : Nat → Nat → Int32 := lineL W C R kinds (firstF W R kinds a) f (aOf kd nd dn dt) (bOf kd pr nb bn bt)
def Grid (C W R : Nat) : Prop := W ≤ 6 ∧ R ≤ 6 ∧ C = R * W ∧ (R = 0 ↔ W = 0)
theorem Grid.c36 {C W R : Nat} (h : Grid C W R) : C ≤ 36 := by
  have m : R * W ≤ 6 * 6 := Nat.mul_le_mul h.2.1 h.1
  have := h.2.2.1
  omega
theorem LandOK.grid {C W R : Nat} {kinds rowAt colAt ways beside : Nat → Int32} (h : LandOK C W R kinds rowAt colAt ways beside) : Grid C W R := ⟨h.1, h.2.1, h.2.2.1, h.2.2.2.1⟩
theorem firstF_congr {C W R a : Nat} {k k' : Nat → Int32} (hG : Grid C W R) (h : ∀ c, c < C → (k c = 1 ↔ k' c = 1)) : firstF W R k a = firstF W R k' a := by
  unfold firstF
  refine one_congr ?_ _
  constructor
  · rintro ⟨h1, h2⟩; exact ⟨h1, fun q => h2 ((h _ (first_lt hG.2.2.1 hG.2.2.2 h1)).mpr q)⟩
  · rintro ⟨h1, h2⟩; exact ⟨h1, fun q => h2 ((h _ (first_lt hG.2.2.1 hG.2.2.2 h1)).mp q)⟩
theorem addIf_congr (v : Int32) {p p' : Nat → Bool} : ∀ {n : Nat}, (∀ i, i < n → p i = p' i) → addIf v p n = addIf v p' n := by
  intro n
  induction n with
  | zero => intro _; rfl
  | succ n ih =>
    intro h
    show addIf v p n + (if p n = true then v else 0) = addIf v p' n + (if p' n = true then v else 0)
    rw [ih (fun i hi => h i (by omega)), h n (by omega)]
theorem NLs_congr {C W R nb nb' nd nd' a f L : Nat} {k k' kd kd' bn bt bn' bt' dn dt dn' dt' : Nat → Int32} {pr pr' : Nat → Bool} (hG : Grid C W R) (hk : ∀ c, c < C → (k c = 1 ↔ k' c = 1)) (hkd : ∀ c, c < C → kd c = kd' c)
    (hb : ∀ n, n ≤ L → ∀ c, c < C → addIf 4 (bowlT pr bn bt n c) nb = addIf 4 (bowlT pr' bn' bt' n c) nb') (hd : ∀ n, n ≤ L → ∀ c, c < C → addIf 5 (dogT dn dt n c) nd = addIf 5 (dogT dn' dt' n c) nd') :
    ∀ n, n ≤ L → NLs C W R k kd pr nb bn bt nd dn dt a f n = NLs C W R k' kd' pr' nb' bn' bt' nd' dn' dt' a f n ∧ LLs C W R k kd pr nb bn bt nd dn dt a f n = LLs C W R k' kd' pr' nb' bn' bt' nd' dn' dt' a f n := by
  intro n hn
  have hF := firstF_ok (C := C) k' a hG.2.2.1 hG.2.2.2
  have e : ∀ m, m ≤ n → ∀ d, d < C → aOf kd nd dn dt m d = aOf kd' nd' dn' dt' m d ∧ bOf kd pr nb bn bt m d = bOf kd' pr' nb' bn' bt' m d := fun m hm d hdC => by
    unfold aOf bOf
    rw [hkd d hdC, hb m (by omega) d hdC, hd m (by omega) d hdC]
    exact ⟨rfl, rfl⟩
  unfold NLs LLs
  rw [firstF_congr hG hk]
  exact ⟨nightL_congr hG.2.2.1 hG.c36 hk hF f n e, lineL_congr hG.2.2.1 hG.c36 hk hF f n e⟩
theorem CNights.congr {W N : Nat} {NL NL' : Nat → List Nat} {LL LL' : Nat → Nat → Int32} {tr go : Nat → Int32} {td : Nat → Int64} {li : Nat → Int32} (h : CNights W N NL LL tr go td li) (e : ∀ n, n < N → NL n = NL' n ∧ LL n = LL' n) : CNights W N NL' LL' tr go td li := by
  intro n hn
  have := h n hn
  rw [(e n hn).1, (e n hn).2] at this
  exact this
theorem MNights.congr {W N : Nat} {NL NL' : Nat → List Nat} {LL LL' : Nat → Nat → Int32} {p s l : Nat → Int32} (h : MNights W N NL LL p s l) (e : ∀ n, n < N → NL n = NL' n ∧ LL n = LL' n) : MNights W N NL' LL' p s l := by
  intro n hn
  have := h n hn
  rw [(e n hn).1, (e n hn).2] at this
  exact this
/-! realms -/
def realmS (C W : Nat) (L : Nat → Nat → Int32) (n p : Nat) : Int32 := if p < C then (if nI (p / W) = L n (p % W) then 2 else if L n (p % W) ≤ nI (p / W) then 1 else 0) else -1
theorem realmX {C W R : Nat} {kinds rowAt colAt ways beside : Nat → Int32} (hL : LandOK C W R kinds rowAt colAt ways beside) {LL : Nat → Nat → Int32} {li : Nat → Int32} {n p : Nat} (hn : n < 10) (hp : p ≤ 39) (hli : ∀ x, x < W → li (6 * n + x) = LL n x) : f_X7_realmOf (nI C) rowAt colAt li (nI n) (nI p) = some (realmS C W LL n p) := by
  have hC2 := hL.c36
  obtain ⟨hW6, hR6, hC, hRW, hcell⟩ := hL
  unfold f_X7_realmOf realmS
  by_cases h : p < C
  · obtain ⟨-, e1, e2, -⟩ := hcell p h
    have hW : 0 < W := by
      rcases Nat.eq_zero_or_pos W with q | q
      · subst q; omega
      · exact q
    have hm := Nat.mod_lt p hW
    rw [if_pos (by rw [nI_lt_i (by omega) (by omega)]; exact h), if_pos h, gd_t (inb_n (by omega) (by omega)), letv_def, tnN (by omega), e1, e2, gd_t (inb_n (by omega) (by omega)), mul6, gd_t (inb_n (by omega) (by omega)), letv_def, tnN (by omega), hli _ hm]
    by_cases h1 : nI (p / W) = LL n (p % W)
    · rw [if_pos h1, if_pos h1]
    · rw [if_neg h1, if_neg h1]
      by_cases h2 : LL n (p % W) ≤ nI (p / W)
      · rw [if_pos h2, if_pos h2]
      · rw [if_neg h2, if_neg h2]
  · rw [if_neg (by rw [nI_lt_i (by omega) (by omega)]; exact h), if_neg h]
theorem realmM {C W R : Nat} (hG : Grid C W R) {LL : Nat → Nat → Int32} {line : Nat → Int32} {n p : Nat} (hn : n < 10) (hp : p < C) (hli : ∀ x, x < W → line (6 * n + x) = LL n x) : f_X9_realmOf (nI W) line (nI n) (nI p) = some (realmS C W LL n p) := by
  have hC2 := hG.c36
  obtain ⟨hW6, hR6, hC, hRW⟩ := hG
  have hW : 0 < W := by
    rcases Nat.eq_zero_or_pos W with q | q
    · subst q; omega
    · exact q
  have hm := Nat.mod_lt p hW
  unfold f_X9_realmOf realmS
  rw [if_pos hp, gd_t (nz_n hW (by omega)), pk_rem (by omega) hW (by omega), n6, gd_t (inb_n (by omega) (by omega)), letv_def, gd_t (nz_n hW (by omega)), gd_t (nz_n hW (by omega)), pk_div (by omega) hW (by omega), tnN (by omega), hli _ hm]
  by_cases h2 : LL n (p % W) ≤ nI (p / W)
  · rw [if_pos h2]
    by_cases h1 : nI (p / W) = LL n (p % W)
    · rw [if_pos (by rw [h1]; exact Int32.le_refl _), if_pos h1]
    · rw [if_neg (fun q => h1 (Int32.le_antisymm q h2)), if_neg h1, if_pos h2]
  · rw [if_neg h2, if_neg (fun q => h2 (by rw [q]; exact Int32.le_refl _)), if_neg h2]
theorem liesM {C W R : Nat} (hG : Grid C W R) {LL : Nat → Nat → Int32} {line mh : Nat → Int32} {n p h : Nat} (hn : n < 10) (hh : h < 8) (hp : p ≤ 39) (hm : mh (2 * h) = nI p) (hli : ∀ x, x < W → line (6 * n + x) = LL n x) : f_X9_liesOf (nI C) (nI W) mh line (nI n) (nI h) = some (realmS C W LL n p) := by
  have hC2 := hG.c36
  unfold f_X9_liesOf
  rw [n2, gd_t (inb_n (by omega) (by omega)), tnN (by omega), hm, isCell_eq, gd_t (inb_n (by omega) (by omega))]
  rcases isHouse_cases (nI p) (N := C) (by omega) with ⟨e, q⟩ | ⟨e, k, hk, q⟩
  · rw [e, bind1_def, if_pos rfl]
    unfold realmS
    rw [if_neg (fun z => q ⟨p, z, rfl⟩)]
  · rw [nI_eq_i (by omega) (by omega)] at q
    rw [e, bind1_def, if_neg one_ne0, realmM hG hn (by omega) hli, bind1_def]
/-! what the relation says of the moment -/
def Sit (C W R N nb nd a f : Nat) (xi : Nat → Int32) (xa : Nat → Nat → Int32) (mi : Nat → Int32) (ma : Nat → Nat → Int32) : Prop :=
  (xi 5 = nI C ∧ xi 6 = nI W ∧ xi 7 = nI R ∧ LandOK C W R (xa 2) (xa 3) (xa 4) (xa 5) (xa 6)) ∧ (xi 9 = nI N ∧ HouseOK N (xa 7) (xa 8)) ∧
  (xi 10 = nI nb ∧ mi 4 = nI nb ∧ MarkOK nb (xa 10) ∧ RowOK 8 nb (ma 9) (xa 9) (xa 10)) ∧ (xi 11 = nI nd ∧ mi 5 = nI nd ∧ MarkOK nd (xa 13) ∧ RowOK 8 nd (ma 10) (xa 12) (xa 13)) ∧
  (a ≤ 5 ∧ xi 13 = nI a ∧ ma 8 0 = nI a) ∧ (f ≤ 10 ∧ xi 14 = nI f ∧ ma 8 1 = nI f) ∧ xi 15 = -1 ∧ xi 16 = -1 ∧ mi 6 = 0
theorem RMark.use {num : Int32} {nights things : Nat → Int32} {mnum : Int32} {mm : Nat → Int32} (h : RMark num nights things mnum mm) : ∃ n, num = nI n ∧ mnum = nI n ∧ MarkOK n things ∧ RowOK 8 n mm nights things := by
  obtain ⟨n, hn, e1, e2, hm⟩ := h
  exact ⟨n, e1, e2, ⟨hn, fun i hi => (hm i hi).2.2.2⟩, hn, fun i hi => ⟨(hm i hi).1, (hm i hi).2.1⟩⟩
theorem Rel.sit {xi : Nat → Int32} {xa : Nat → Nat → Int32} {xl : Nat → Int64} {xm : Nat → Nat → Int64} {mi : Nat → Int32} {ma : Nat → Nat → Int32} (h : Rel xi xa xl xm mi ma) : ∃ C W R N nb nd a f, Sit C W R N nb nd a f xi xa mi ma := by
  obtain ⟨C, W, R, c1, c2, c3, c4, -⟩ := h.land
  obtain ⟨N, n1, n2, -⟩ := h.houses
  obtain ⟨-, -, -, -, hB, hD, -, ⟨⟨a, ha, a1, a2⟩, ⟨f, hf, f1, f2⟩, s3, s4, s5⟩, -⟩ := h
  obtain ⟨nb, b1, b2, b3, b4⟩ := hB.use
  obtain ⟨nd, d1, d2, d3, d4⟩ := hD.use
  exact ⟨C, W, R, N, nb, nd, a, f, ⟨c1, c2, c3, c4⟩, ⟨n1, n2⟩, ⟨b1, b2, b3, b4⟩, ⟨d1, d2, d3, d4⟩, ⟨ha, a1, a2⟩, ⟨hf, f1, f2⟩, s3, s4, s5⟩
/-- the nights as they are -/
def NL0 (C W R nb nd a f : Nat) (xa : Nat → Nat → Int32) : Nat → List Nat := NLs C W R (xa 2) (xa 2) (fun _ => true) nb (xa 9) (xa 10) nd (xa 12) (xa 13) a f
def LL0 (C W R nb nd a f : Nat) (xa : Nat → Nat → Int32) : Nat → Nat → Int32 := LLs C W R (xa 2) (xa 2) (fun _ => true) nb (xa 9) (xa 10) nd (xa 12) (xa 13) a f
theorem rakedK_no (kinds : Nat → Int32) {c : Nat} (hc : c < 36) : rakedK kinds (-1) c = kinds c := by
  unfold rakedK
  rw [if_neg (nI_neg1 (by omega))]
theorem prX_all : ∀ i : Fin 16, prX (-1) i.1 = true := by decide
theorem prM_all : ∀ i : Fin 16, prM 0 i.1 = true := by decide
theorem bowlT_pr {pr pr' : Nat → Bool} {bn bt : Nat → Int32} {n c i : Nat} (h : pr i = pr' i) : bowlT pr bn bt n c i = bowlT pr' bn bt n c i := by
  unfold bowlT; rw [h]
theorem RowOK.more {n : Nat} {row nights things : Nat → Int32} (h : RowOK 8 n row nights things) : RowOK 10 n row nights things := ⟨by have := h.1; omega, h.2⟩
theorem Rel.told {xi : Nat → Int32} {xa : Nat → Nat → Int32} {xl : Nat → Int64} {xm : Nat → Nat → Int64} {mi : Nat → Int32} {ma : Nat → Nat → Int32} (h : Rel xi xa xl xm mi ma) {C W R N nb nd a f : Nat} (hS : Sit C W R N nb nd a f xi xa mi ma) :
    ∃ (st fr tr go : Nat → Int32) (td : Nat → Int64) (li : Nat → Int32), f_X8_told (xi 0) (xi 5) (xi 6) (xi 7) (xa 2) (xa 3) (xa 4) (xa 5) (xa 6) (xi 10) (xa 9) (xa 10) (xi 11) (xa 12) (xa 13) (xi 13) (xi 14) (xi 15) (xi 16) (xa 18) (xa 19) (xa 20) (xa 21) (xm 0) (xa 22) = some (0, st, fr, tr, go, td, li) ∧ CNights W 10 (NL0 C W R nb nd a f xa) (LL0 C W R nb nd a f xa) tr go td li ∧
      Rel (va_up xi 0 0) (va_up (va_up (va_up (va_up (va_up xa 18 st) 19 fr) 20 tr) 21 go) 22 li) xl (va_up xm 0 td) mi ma := by
  obtain ⟨⟨c1, c2, c3, hL⟩, -, ⟨b1, b2, b3, b4⟩, ⟨d1, d2, d3, d4⟩, ⟨ha, a1, a2⟩, ⟨hf, f1, f2⟩, p1, p2, p3⟩ := hS
  have hC2 := hL.c36
  have key : ∀ (s0 f0 t0 g0 : Nat → Int32) (d0 : Nat → Int64) (l0 : Nat → Int32), ∃ st fr tr go td li, f_X7_walkNights (xi 5) (xi 6) (xi 7) (xa 2) (xa 3) (xa 4) (xa 5) (xa 6) (xi 10) (xa 9) (xa 10) (xi 11) (xa 12) (xa 13) (xi 13) (xi 14) (xi 15) (xi 16) s0 f0 t0 g0 d0 l0 9 = some (st, fr, tr, go, td, li) ∧ CNights W 10 (NL0 C W R nb nd a f xa) (LL0 C W R nb nd a f xa) tr go td li := by
    intro s0 f0 t0 g0 d0 l0
    obtain ⟨st, fr, tr, go, td, li, w1, w2, -⟩ := walkNights_eq (bn := xa 9) (dn := xa 12) (last := 9) hL b3 d3 ha hf (by omega) (-1) (-1) s0 f0 t0 g0 d0 l0
    refine ⟨st, fr, tr, go, td, li, by rw [c1, c2, c3, b1, d1, a1, f1, p1, p2]; exact w1, CNights.congr w2 fun n hn => ?_⟩
    refine NLs_congr (L := 9) hL.grid (fun _ _ => Iff.rfl) (fun c hc => rakedK_no _ (by omega)) (fun n hn c hc => addIf_congr _ fun i hi => bowlT_pr (prX_all ⟨i, by have := b3.1; omega⟩)) (fun _ _ _ _ => rfl) n (by omega)
  obtain ⟨hT0, hT1, hLd, hH, hB, hD, hSi, hSe, hF, hSh, hW⟩ := id h
  rcases hW with hW | ⟨hW, s0, f0, t0, g0, d0, l0, hw⟩
  · obtain ⟨st, fr, tr, go, td, li, w1, w2⟩ := key (xa 18) (xa 19) (xa 20) (xa 21) (xm 0) (xa 22)
    refine ⟨st, fr, tr, go, td, li, ?_, w2, hT0, hT1, hLd, hH, hB, hD, hSi, hSe, hF, hSh, Or.inr ⟨rfl, _, _, _, _, _, _, w1⟩⟩
    unfold f_X8_told f_X8_told_b21
    rw [if_neg (by rw [hW]; exact one_ne0), w1]; rfl
  · obtain ⟨st, fr, tr, go, td, li, w1, w2⟩ := key s0 f0 t0 g0 d0 l0
    have e := Option.some.inj (w1.symm.trans hw)
    simp only [Prod.mk.injEq] at e
    obtain ⟨e1, e2, e3, e4, e5, e6⟩ := e
    subst e1 e2 e3 e4 e5 e6
    refine ⟨xa 18, xa 19, xa 20, xa 21, xm 0, xa 22, ?_, w2, hT0, hT1, hLd, hH, hB, hD, hSi, hSe, hF, hSh, Or.inr ⟨rfl, _, _, _, _, _, _, hw⟩⟩
    unfold f_X8_told f_X8_told_b21
    rw [if_pos hW, hW]
theorem Rel.find {xi : Nat → Int32} {xa : Nat → Nat → Int32} {xl : Nat → Int64} {xm : Nat → Nat → Int64} {mi : Nat → Int32} {ma : Nat → Nat → Int32} (h : Rel xi xa xl xm mi ma) {C W R N nb nd a f : Nat} (hS : Sit C W R N nb nd a f xi xa mi ma) :
    ∃ (mc mh p s l : Nat → Int32), f_X9_find (mi 1) (mi 2) (mi 3) (mi 4) (mi 5) (mi 6) (ma 4) (ma 5) (ma 6) (ma 7) (ma 8) (ma 9) (ma 10) (ma 11) (ma 12) (ma 13) = some (nI C, nI W, nI N, mc, mh, p, s, l) ∧ (∀ c, c < C → mc c = xa 2 c) ∧ (∀ k, k < N → mh (2 * k) = xa 7 k ∧ mh (2 * k + 1) = xa 8 k) ∧ MNights W 10 (NL0 C W R nb nd a f xa) (LL0 C W R nb nd a f xa) p s l := by
  obtain ⟨⟨c1, c2, c3, hL⟩, ⟨n1, n2⟩, ⟨b1, b2, b3, b4⟩, ⟨d1, d2, d3, d4⟩, ⟨ha, a1, a2⟩, ⟨hf, f1, f2⟩, p1, p2, p3⟩ := hS
  have hC2 := hL.c36
  obtain ⟨C', W', R', c1', c2', c3', hL', hM⟩ := h.land
  obtain ⟨N', n1', n2', hH⟩ := h.houses
  have hC2' := hL'.c36
  have eC : C' = C := by have q := c1'.symm.trans c1; rw [nI_eq_i (by omega) (by omega)] at q; exact q
  have eW : W' = W := by have q := c2'.symm.trans c2; rw [nI_eq_i (by have := hL'.1; omega) (by have := hL.1; omega)] at q; exact q
  have eN : N' = N := by have q := n1'.symm.trans n1; rw [nI_eq_i (by have := n2'.1; omega) (by have := n2.1; omega)] at q; exact q
  subst eC eW eN
  obtain ⟨mc, q1, q2⟩ := hM (mi 1) (mi 2) (ma 6)
  obtain ⟨mh, r1, r2⟩ := hH (mi 3) (ma 7)
  obtain ⟨p, s, l, w1, w2⟩ := lives_eq (C := C') (W := W') (R := R) (nb := nb) (nd := nd) (last := 9) hL.1 hL.2.1 hL.2.2.1 hC2 hL.2.2.2.1 ha hf (by omega) 0 (mc := mc) a2 f2 b4.more d4 (ma 11) (ma 12) (ma 13)
  refine ⟨mc, mh, p, s, l, ?_, q2, r2, MNights.congr w2 fun n hn => ?_⟩
  · unfold f_X9_find
    rw [q1, bind4_def, r1, bind3_def, b2, d2, p3, show (9 : Int32) = nI 9 from rfl, w1, bind3_def]
  · refine NLs_congr (L := 9) hL.grid (fun c hc => by rw [q2 c hc]) (fun c hc => q2 c hc) (fun n hn c hc => addIf_congr _ fun i hi => bowlT_pr (prM_all ⟨i, by have := b3.1; omega⟩)) (fun _ _ _ _ => rfl) n (by omega)
