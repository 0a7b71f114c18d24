theorem draws_L2 {C W R n : Nat} (hW6 : W ≤ 6) (hR6 : R ≤ 6) (hC : C = R * W) (hC2 : C ≤ 36) (hn : n < 10) (line : Nat → Int32) :
    ∃ z, loopF (fun q : Int32 × (Nat → Int32) => f_X9_draws_L2 (nI C) (nI W) (nI n) q.1 q.2) FU (0, line) = some z ∧ (∀ x, x < W → z (6 * n + x) = if n = 0 then nI (R / 2) else line (6 * (n - 1) + x)) ∧ ∀ j, (j < 6 * n ∨ 6 * n + 6 ≤ j) → z j = line j := by
  refine loopF_run (fun (m : Nat) (q : Int32 × (Nat → Int32)) => ∃ k : Nat, k + m = W ∧ q.1 = nI k ∧ (∀ x, x < k → q.2 (6 * n + x) = if n = 0 then nI (R / 2) else line (6 * (n - 1) + x)) ∧ ∀ j, (j < 6 * n ∨ 6 * n + 6 ≤ j) → q.2 j = line j) (fun z : Nat → Int32 => (∀ x, x < W → z (6 * n + x) = if n = 0 then nI (R / 2) else line (6 * (n - 1) + x)) ∧ ∀ j, (j < 6 * n ∨ 6 * n + 6 ≤ j) → z j = line j) ?_ FU W (0, line) ⟨0, by omega, rfl, fun x hx => absurd hx (Nat.not_lt_zero _), fun _ _ => rfl⟩ (Nat.lt_trans (by omega) FU_big)
  rintro m ⟨q1, q2⟩ ⟨k, hk, e1, e2, e3⟩
  dsimp only at e1 e2 e3
  subst e1
  show (∃ x, f_X9_draws_L2 (nI C) (nI W) (nI n) (nI k) q2 = some (.inr x) ∧ _) ∨ (∃ q' m', m' < m ∧ f_X9_draws_L2 (nI C) (nI W) (nI n) (nI k) q2 = some (.inl q') ∧ _)
  unfold f_X9_draws_L2 f_X9_draws_b52L2
  by_cases h : W ≤ k
  · exact Or.inl ⟨q2, by rw [if_pos (by rw [nI_le_i (by omega) (by omega)]; exact h)], fun x hx => e2 x (by omega), e3⟩
  · right
    refine ⟨(nI (k + 1), upd q2 (6 * n + k) (if n = 0 then nI (R / 2) else line (6 * (n - 1) + k))), m - 1, by omega, ?_, k + 1, by omega, rfl, fun x hx => ?_, fun j hj => ?_⟩
    · rw [if_neg (by rw [nI_le_i (by omega) (by omega)]; exact h), n6, show nI k + 1 = nI (k + 1) from nI_1 k]
      by_cases h0 : n = 0
      · subst h0
        have hdiv : C / W = R := by rw [hC]; exact Nat.mul_div_cancel _ (by omega)
        rw [if_pos (show nI 0 = 0 from rfl), gd_t (nz_n (by omega) (by omega)), gd_t (inb_n (by omega) (by omega)), tnN (by omega), if_pos rfl, pk_div (by omega) (by omega) (by omega), hdiv, show nI R / 2 = nI (R / 2) from pk_div (d := 2) (by omega) (by omega) (by omega)]
      · have a1 : (6 : Int32) * nI n - 6 + nI k = nI (6 * (n - 1) + k) := by
          rw [show (6 : Int32) * nI n = nI (6 * n) from pk_mul 6 n, show nI (6 * n) - 6 = nI (6 * n - 6) from pk_sub (b := 6) (by omega), nI_add, show 6 * n - 6 = 6 * (n - 1) by omega]
        rw [if_neg (nI_ne0 (by omega) (by omega)), a1, gd_t (inb_n (by omega) (by omega)), gd_t (inb_n (by omega) (by omega)), tnN (by omega), tnN (by omega), if_neg h0, e3 _ (Or.inl (by omega))]
    · dsimp only
      by_cases hx2 : x = k
      · rw [hx2, upd_at]
      · rw [upd_ne _ _ (by omega)]; exact e2 x (by omega)
    · dsimp only
      rw [upd_ne _ _ (by omega)]; exact e3 j hj
theorem draws_L61 {C W R n : Nat} (hW6 : W ≤ 6) (hC : C = R * W) (hC2 : C ≤ 36) (hn : n < 10) {path steps : Nat → Int32} {Z : List Nat} (hP : Path (25 * n) path Z) (hst : steps n = nI Z.length - 1) (hZ : ∀ d ∈ Z, d < C) (hlen : Z.length ≤ 25) (line base : Nat → Int32) (hb : ∀ x, x < W → line (6 * n + x) = base x) :
    ∃ z, loopF (fun q : Int32 × (Nat → Int32) => f_X9_draws_L61 (nI W) path steps (nI n) q.1 q.2) FU (0, line) = some z ∧ (∀ x, x < W → z (6 * n + x) = lineF W base Z x) ∧ ∀ j, (j < 6 * n ∨ 6 * n + 6 ≤ j) → z j = line j := by
  refine loopF_run (fun (m : Nat) (q : Int32 × (Nat → Int32)) => ∃ k : Nat, k + m = Z.length ∧ q.1 = nI k ∧ (∀ x, x < W → q.2 (6 * n + x) = lineF W base (Z.drop (Z.length - k)) x) ∧ ∀ j, (j < 6 * n ∨ 6 * n + 6 ≤ j) → q.2 j = line j) (fun z : Nat → Int32 => (∀ x, x < W → z (6 * n + x) = lineF W base Z x) ∧ ∀ j, (j < 6 * n ∨ 6 * n + 6 ≤ j) → z j = line j) ?_ FU Z.length (0, line) ⟨0, by omega, rfl, fun x hx => by rw [Nat.sub_zero, List.drop_length]; exact hb x hx, fun _ _ => rfl⟩ (Nat.lt_trans (by omega) FU_big)
  rintro m ⟨q1, q2⟩ ⟨k, hk, e1, e2, e3⟩
  dsimp only at e1 e2 e3
  subst e1
  show (∃ x, f_X9_draws_L61 (nI W) path steps (nI n) (nI k) q2 = some (.inr x) ∧ _) ∨ (∃ q' m', m' < m ∧ f_X9_draws_L61 (nI W) path steps (nI n) (nI k) q2 = some (.inl q') ∧ _)
  unfold f_X9_draws_L61
  rw [gd_t (inb_n hn (by omega)), tnN (by omega), hst]
  by_cases h : Z.length ≤ k
  · refine Or.inl ⟨q2, by rw [if_pos ((pred_lt (by omega) (by omega)).mpr h)], fun x hx => ?_, e3⟩
    have := e2 x hx
    rwa [show Z.length - k = 0 by omega, List.drop_zero] at this
  · right
    obtain ⟨c, c0, c1, c2⟩ := hP.at (k := k) (by omega)
    have hc := hZ c c0
    obtain ⟨k1, k2, k3⟩ := cell_next (W := W) (R := R) (c := c) (by omega)
    have hW : 0 < W := by
      rcases Nat.eq_zero_or_pos W with q | q
      · subst q; omega
      · exact q
    have hm := Nat.mod_lt c hW
    refine ⟨(nI (k + 1), upd q2 (6 * n + c % W) (nI (c / W))), m - 1, by omega, ?_, k + 1, by omega, rfl, fun x hx => ?_, fun j hj => ?_⟩
    · rw [if_neg (fun q => h ((pred_lt (by omega) (by omega)).mp q)), n25, gd_t (inb_n (by omega) (by omega)), letv_def, tnN (by omega), c2, gd_t (nz_n hW (by omega)), gd_t (nz_n hW (by omega)), letv_def, pk_rem (by omega) hW (by omega), n6, gd_t (inb_n (by omega) (by omega)), tnN (by omega), pk_div (by omega) hW (by omega), show nI k + 1 = nI (k + 1) from nI_1 k]
    · dsimp only
      rw [c1]
      show _ = (if x = c % W then nI (c / W) else lineF W base (Z.drop (Z.length - k)) x)
      by_cases e : x = c % W
      · rw [if_pos e, e, upd_at]
      · rw [if_neg e, upd_ne _ _ (by omega)]; exact e2 x hx
    · dsimp only
      rw [upd_ne _ _ (by omega)]; exact e3 j hj
def MNights (W N : Nat) (NL : Nat → List Nat) (LL : Nat → Nat → Int32) (path steps line : Nat → Int32) : Prop :=
  ∀ n, n < N → Path (25 * n) path (NL n) ∧ steps n = nI (NL n).length - 1 ∧ ∀ x, x < W → line (6 * n + x) = LL n x
set_option maxHeartbeats 1000000 in
theorem lives_eq {C W R nb nd a f last : Nat} (hW6 : W ≤ 6) (hR6 : R ≤ 6) (hC : C = R * W) (hC2 : C ≤ 36) (hRW : R = 0 ↔ W = 0) (ha : a ≤ 5) (hf : f ≤ 10) (hlast : last ≤ 9) (gone : Int32) {mc set mb md bn bt dn dt : Nat → Int32} (hs0 : set 0 = nI a) (hs1 : set 1 = nI f) (hb : RowOK 10 nb mb bn bt) (hd : RowOK 8 nd md dn dt) (path0 steps0 line0 : Nat → Int32) :
    ∃ path steps line, f_X9_lives (nI C) (nI W) (nI nb) (nI nd) gone mc set mb md path0 steps0 line0 (nI last) = some (path, steps, line) ∧
      MNights W (last + 1) (nightL W C mc (firstF W R mc a) f (aOf mc nd dn dt) (bOf mc (prM gone) nb bn bt)) (lineL W C R mc (firstF W R mc a) f (aOf mc nd dn dt) (bOf mc (prM gone) nb bn bt)) path steps line := by
  have hF := firstF_ok mc a hC hRW
  generalize hA : aOf mc nd dn dt = A
  generalize hB : bOf mc (prM gone) nb bn bt = B
  generalize hFF : firstF W R mc a = F at hF
  have hall := nightL_all hC hC2 mc hF f A B
  generalize hNL : nightL W C mc F f A B = NL at hall
  generalize hLL : lineL W C R mc F f A B = LL
  have X : ∃ x, loopF (fun q : Int32 × (Nat → Int32) × (Nat → Int32) × (Nat → Int32) => f_X9_lives_L2 (nI C) (nI W) (nI nb) (nI nd) gone mc set mb md (nI last) q.1 q.2.1 q.2.2.1 q.2.2.2) FU (0, path0, steps0, line0) = some x ∧ MNights W (last + 1) NL LL x.1 x.2.1 x.2.2 := by
    refine loopF_run (fun (m : Nat) (q : Int32 × (Nat → Int32) × (Nat → Int32) × (Nat → Int32)) => ∃ (k : Nat) (p s l : Nat → Int32), k + m = last + 1 ∧ q = (nI k, p, s, l) ∧ MNights W k NL LL p s l) (fun x : (Nat → Int32) × (Nat → Int32) × (Nat → Int32) => MNights W (last + 1) NL LL x.1 x.2.1 x.2.2) ?_ FU (last + 1) _ ⟨0, path0, steps0, line0, by omega, rfl, fun n hn => absurd hn (Nat.not_lt_zero _)⟩ (Nat.lt_trans (by omega) FU_big)
    rintro m q ⟨k, p, s, l, hk, rfl, hM⟩
    show (∃ x, f_X9_lives_L2 (nI C) (nI W) (nI nb) (nI nd) gone mc set mb md (nI last) (nI k) p s l = some (.inr x) ∧ _) ∨ (∃ q' m', m' < m ∧ f_X9_lives_L2 (nI C) (nI W) (nI nb) (nI nd) gone mc set mb md (nI last) (nI k) p s l = some (.inl q') ∧ _)
    by_cases h : last < k
    · have e : k = last + 1 := by omega
      refine Or.inl ⟨(p, s, l), ?_, by rw [← e]; exact hM⟩
      unfold f_X9_lives_L2
      rw [if_pos (by rw [nI_lt_i (by omega) (by omega)]; exact h)]
    · right
      have hpl := prev_lt (fun n => (hall n).1) k
      have hprev : PrevOK k (prevL NL k) p s := by
        refine ⟨fun d hd => by have := hpl d hd; omega, ?_, fun e => ?_, fun e => ?_⟩
        · unfold prevL
          by_cases e : k = 0
          · rw [if_pos e]; simp
          · rw [if_neg e]; exact (hall _).2
        · unfold prevL; rw [if_pos e]
        · unfold prevL; rw [if_neg (by omega)]
          obtain ⟨g1, g2, -⟩ := hM (k - 1) (by omega)
          exact ⟨g1, g2⟩
      obtain ⟨p1, s1, w1, w2⟩ := walks_eq (nb := nb) (nd := nd) (n := k) hW6 hR6 hC hC2 hRW (by omega) ha hf gone (mc := mc) hs0 hs1 hb hd hprev
      have hZ : night1 W C mc (firstF W R mc a) (k < f) (stP (aOf mc nd dn dt k) (prevL NL k)) (bOf mc (prM gone) nb bn bt k) = NL k := by
        rw [hFF, hA, hB, ← hNL]
        conv => rhs; rw [nightL_eq]
      rw [hZ] at w2
      obtain ⟨v1, v2, v3, v4⟩ := w2
      obtain ⟨l1, d1, d2, d3⟩ := draws_L2 (n := k) hW6 hR6 hC hC2 (by omega) l
      obtain ⟨l2, d4, d5, d6⟩ := draws_L61 (n := k) hW6 hC hC2 (by omega) v1 v2 (hall k).1 (hall k).2 l1 (fun x => if k = 0 then nI (R / 2) else LL (k - 1) x) (fun x hx => by
        rw [d2 x hx]
        by_cases e : k = 0
        · rw [if_pos e, if_pos e]
        · rw [if_neg e, if_neg e]; exact (hM (k - 1) (by omega)).2.2 x hx)
      refine ⟨(nI (k + 1), p1, s1, l2), m - 1, by omega, ?_, k + 1, p1, s1, l2, by omega, rfl, fun n hn => ?_⟩
      · unfold f_X9_lives_L2
        rw [if_neg (by rw [nI_lt_i (by omega) (by omega)]; exact h), w1, bind2_def]
        unfold f_X9_draws
        rw [d1, bind1_def, d4, bind1_def, bind1_def, show nI k + 1 = nI (k + 1) from nI_1 k]
      · by_cases e : n = k
        · subst e
          refine ⟨v1, v2, fun x hx => ?_⟩
          rw [d5 x hx, ← hLL]
          conv => rhs; rw [lineL_eq]
          rw [hNL]
        · obtain ⟨g1, g2, g3⟩ := hM n (by omega)
          have := (hall n).2
          exact ⟨g1.far fun j j1 j2 => v3 j (by omega), (v4 n e).trans g2, fun x hx => (d6 _ (by omega)).trans ((d3 _ (by omega)).trans (g3 x hx))⟩
  obtain ⟨⟨p, s, l⟩, h1, h2⟩ := X
  refine ⟨p, s, l, ?_, h2⟩
  unfold f_X9_lives
  rw [h1]; rfl
