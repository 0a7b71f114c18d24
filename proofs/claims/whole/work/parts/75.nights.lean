def prevL (NL : Nat → List Nat) (n : Nat) : List Nat := if n = 0 then [] else NL (n - 1)
def CNights (W N : Nat) (NL : Nat → List Nat) (LL : Nat → Nat → Int32) (tr go : Nat → Int32) (td : Nat → Int64) (li : Nat → Int32) : Prop :=
  ∀ n, n < N → Path (25 * n) tr (NL n) ∧ (NL n = [] → tr (25 * n) = -1) ∧ go n = nI ((NL n).length - 1) ∧ td n = bitsOf (NL n) ∧ ∀ x, x < W → li (6 * n + x) = LL n x
theorem nightL_eq (W C : Nat) (wl : Nat → Int32) (F : List Nat) (fz : Nat) (a b : Nat → Nat → Int32) (n : Nat) : nightL W C wl F fz a b n = night1 W C wl F (n < fz) (stP (a n) (prevL (nightL W C wl F fz a b) n)) (b n) := by
  cases n with
  | zero => rfl
  | succ n => rfl
theorem lineL_eq (W C R : Nat) (wl : Nat → Int32) (F : List Nat) (fz : Nat) (a b : Nat → Nat → Int32) (n : Nat) : lineL W C R wl F fz a b n = lineF W (fun x => if n = 0 then nI (R / 2) else lineL W C R wl F fz a b (n - 1) x) (nightL W C wl F fz a b n) := by
  cases n with
  | zero => rfl
  | succ n => rfl
theorem updL_at (f : Nat → Int64) (k : Nat) (v : Int64) : vp_updL f k v k = v := by unfold vp_updL; rw [if_pos rfl]
theorem updL_ne (f : Nat → Int64) {k j : Nat} (v : Int64) (h : j ≠ k) : vp_updL f k v j = f j := by unfold vp_updL; rw [if_neg h]
/-- one night more -/
theorem CNights.put {W C R : Nat} {NL : Nat → List Nat} {LL : Nat → Nat → Int32} (hlen : ∀ n, (NL n).length ≤ 25) (hW6 : W ≤ 6) {k : Nat} {tr go : Nat → Int32} {td : Nat → Int64} {li base : Nat → Int32} (h : CNights W k NL LL tr go td li) (hbase : LL k = lineF W base (NL k)) {tr' go' li' : Nat → Int32} (hS : Strolled W k (NL k) base tr go li tr' go' li') : CNights W (k + 1) NL LL tr' go' (vp_updL td k (bitsOf (NL k))) li' := by
  intro n hn
  obtain ⟨s1, s2, s3, s4, s5, s6, s7⟩ := hS
  by_cases e : n = k
  · subst e
    exact ⟨s1, s2, s3, updL_at _ _ _, fun x hx => by rw [hbase]; exact s4 x hx⟩
  · obtain ⟨h1, h2, h3, h4, h5⟩ := h n (by omega)
    have := hlen n
    refine ⟨h1.far fun j j1 j2 => s5 j (by omega), fun q => (s5 _ (by omega)).trans (h2 q), (s6 n e).trans h3, (updL_ne _ _ e).trans h4, fun x hx => (s7 _ (by omega)).trans (h5 x hx)⟩
theorem prev_lt {C : Nat} {NL : Nat → List Nat} (h : ∀ n, ∀ d ∈ NL n, d < C) (n : Nat) : ∀ d ∈ prevL NL n, d < C := by
  unfold prevL
  by_cases e : n = 0
  · rw [if_pos e]; intro d hd; exact absurd hd (List.not_mem_nil)
  · rw [if_neg e]; exact h _
set_option maxHeartbeats 1000000 in
theorem walkNights_eq {C W R : Nat} {kinds rowAt colAt ways beside : Nat → Int32} (hL : LandOK C W R kinds rowAt colAt ways beside) {nb nd a f last : Nat} {bn bt dn dt : Nat → Int32} (hb : MarkOK nb bt) (hd : MarkOK nd dt) (ha : a ≤ 5) (hf : f ≤ 10) (hlast : last ≤ 9) (present raked : Int32) (st0 fr0 tr0 go0 : Nat → Int32) (td0 : Nat → Int64) (li0 : Nat → Int32) :
    ∃ st fr tr go td li, f_X7_walkNights (nI C) (nI W) (nI R) kinds rowAt colAt ways beside (nI nb) bn bt (nI nd) dn dt (nI a) (nI f) present raked st0 fr0 tr0 go0 td0 li0 (nI last) = some (st, fr, tr, go, td, li) ∧
      CNights W (last + 1) (nightL W C kinds (firstF W R kinds a) f (aOf (rakedK kinds raked) nd dn dt) (bOf (rakedK kinds raked) (prX present) nb bn bt)) (lineL W C R kinds (firstF W R kinds a) f (aOf (rakedK kinds raked) nd dn dt) (bOf (rakedK kinds raked) (prX present) nb bn bt)) tr go td li ∧
      ∀ c, c < C → st c = stP (aOf (rakedK kinds raked) nd dn dt last) (prevL (nightL W C kinds (firstF W R kinds a) f (aOf (rakedK kinds raked) nd dn dt) (bOf (rakedK kinds raked) (prX present) nb bn bt)) last) c ∧ fr c = bOf (rakedK kinds raked) (prX present) nb bn bt last c := by
  have hC2 := hL.c36
  obtain ⟨hW6, hR6, hC, hRW, hcell⟩ := id hL
  have hF := firstF_ok kinds a hC hRW
  generalize hA : aOf (rakedK kinds raked) nd dn dt = A
  generalize hB : bOf (rakedK kinds raked) (prX present) nb bn bt = B
  generalize hFF : firstF W R kinds a = F at hF
  have hall := nightL_all hC hC2 kinds hF f A B
  generalize hNL : nightL W C kinds F f A B = NL at hall
  generalize hLL : lineL W C R kinds F f A B = LL
  have X : ∃ x, loopF (fun q : Int32 × (Nat → Int32) × (Nat → Int32) × (Nat → Int32) × (Nat → Int32) × (Nat → Int64) × (Nat → Int32) => f_X7_walkNights_L2 (nI C) (nI W) (nI R) kinds rowAt colAt ways beside (nI nb) bn bt (nI nd) dn dt (nI a) (nI f) present raked (nI last) q.1 q.2.1 q.2.2.1 q.2.2.2.1 q.2.2.2.2.1 q.2.2.2.2.2.1 q.2.2.2.2.2.2) FU (0, st0, fr0, tr0, go0, td0, li0) = some x ∧ (CNights W (last + 1) NL LL x.2.2.1 x.2.2.2.1 x.2.2.2.2.1 x.2.2.2.2.2 ∧ ∀ c, c < C → x.1 c = stP (A last) (prevL NL last) c ∧ x.2.1 c = B last c) := by
    refine loopF_run (fun (m : Nat) (q : Int32 × (Nat → Int32) × (Nat → Int32) × (Nat → Int32) × (Nat → Int32) × (Nat → Int64) × (Nat → Int32)) => ∃ (k : Nat) (st fr tr go : Nat → Int32) (td : Nat → Int64) (li : Nat → Int32), k + m = last + 1 ∧ q = (nI k, st, fr, tr, go, td, li) ∧ CNights W k NL LL tr go td li ∧ (k = last + 1 → ∀ c, c < C → st c = stP (A last) (prevL NL last) c ∧ fr c = B last c)) (fun x : (Nat → Int32) × (Nat → Int32) × (Nat → Int32) × (Nat → Int32) × (Nat → Int64) × (Nat → Int32) => CNights W (last + 1) NL LL x.2.2.1 x.2.2.2.1 x.2.2.2.2.1 x.2.2.2.2.2 ∧ ∀ c, c < C → x.1 c = stP (A last) (prevL NL last) c ∧ x.2.1 c = B last c) ?_ FU (last + 1) _ ⟨0, st0, fr0, tr0, go0, td0, li0, by omega, rfl, fun n hn => absurd hn (Nat.not_lt_zero _), fun q => absurd q (by omega)⟩ (Nat.lt_trans (by omega) FU_big)
    rintro m q ⟨k, st, fr, tr, go, td, li, hk, rfl, hCN, hend⟩
    show (∃ x, f_X7_walkNights_L2 (nI C) (nI W) (nI R) kinds rowAt colAt ways beside (nI nb) bn bt (nI nd) dn dt (nI a) (nI f) present raked (nI last) (nI k) st fr tr go td li = some (.inr x) ∧ _) ∨ (∃ q' m', m' < m ∧ f_X7_walkNights_L2 (nI C) (nI W) (nI R) kinds rowAt colAt ways beside (nI nb) bn bt (nI nd) dn dt (nI a) (nI f) present raked (nI last) (nI k) st fr tr go td li = some (.inl q') ∧ _)
    by_cases h : last < k
    · have e : k = last + 1 := by omega
      refine Or.inl ⟨(st, fr, tr, go, td, li), ?_, by rw [← e]; exact hCN, hend e⟩
      unfold f_X7_walkNights_L2
      rw [if_pos (by rw [nI_lt_i (by omega) (by omega)]; exact h)]
    · right
      obtain ⟨st1, fr1, w1, w2⟩ := weigh_eq (n := k) hC2 (by omega) kinds bn bt dn dt hb hd present raked st fr td (prevL NL k) (fun d hd => by have := prev_lt (fun n => (hall n).1) k d hd; omega) (by
        unfold prevL
        by_cases e : k = 0
        · rw [if_pos e, if_pos e]; rfl
        · rw [if_neg e, if_neg e]; exact (hCN (k - 1) (by omega)).2.2.2.1)
      rw [hA, hB] at w2
      obtain ⟨tr1, go1, li1, s1, s2⟩ := stroll_eq (a := a) (f := f) hL (n := k) (by omega) ha hf st1 fr1 (fun x => if k = 0 then nI (R / 2) else LL (k - 1) x) tr go td li (fun x hx => by
        by_cases e : k = 0
        · rw [if_pos e, if_pos e]
        · rw [if_neg e, if_neg e]; exact ((hCN (k - 1) (by omega)).2.2.2.2 x hx).symm)
      have hZ : night1 W C kinds (firstF W R kinds a) (k < f) st1 fr1 = NL k := by
        rw [← hNL, nightL_eq, hNL, hFF]
        exact night1_congr hC hC2 (fun _ _ => Iff.rfl) (fun d hd => (w2 d hd).1) (fun d hd => (w2 d hd).2) hF _
      rw [hZ] at s1 s2
      refine ⟨(nI (k + 1), st1, fr1, tr1, go1, _, li1), m - 1, by omega, ?_, k + 1, st1, fr1, tr1, go1, _, li1, by omega, rfl, hCN.put (C := C) (R := R) (fun n => (hall n).2) hW6 ?_ s2, fun q c hc => ?_⟩
      · unfold f_X7_walkNights_L2
        rw [if_neg (by rw [nI_lt_i (by omega) (by omega)]; exact h), if_neg (by rw [show (10 : Int32) = nI 10 from rfl, nI_le_i (by omega) (by omega)]; omega), w1, bind2_def, s1, bind4_def, show nI k + 1 = nI (k + 1) from nI_1 k]
      · rw [← hLL, lineL_eq, hNL]
      · rw [show last = k by omega]; exact w2 c hc
  obtain ⟨⟨st, fr, tr, go, td, li⟩, h1, h2, h3⟩ := X
  refine ⟨st, fr, tr, go, td, li, ?_, h2, h3⟩
  unfold f_X7_walkNights
  rw [h1]; rfl
