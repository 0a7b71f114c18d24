variable {C W R N nb nd ns a f : Nat} {kinds rowAt colAt ways beside places dues bn bt dn dt sn sh sr mc mh ms mb md mg : Nat → Int32}
def firS (g : Nat → Nat → Int32) (N n : Nat) : Option Nat := fstB (fun h => decide (g n h = 2)) N 0
def firstS (g : Nat → Nat → Int32) (N : Nat) (w : Int32) : Int32 :=
  match fstB (fun n => (firS g N n).isSome) 10 0 with
  | none => -1
  | some n => match firS g N n with
    | none => -1
    | some h => if w = 0 then nI n else nI h
theorem first_in {b : Int32 → Option (Int32 ⊕ (Int32 ⊕ Unit))} {g : Nat → Nat → Int32} {n : Nat} (hN : N ≤ 8) (hgo : ∀ h, h < N → ¬ g n h = 2 → b (nI h) = some (.inl (nI (h + 1)))) (hyes : ∀ h, h < N → g n h = 2 → b (nI h) = some (.inr (.inl (nI h)))) (hend : b (nI N) = some (.inr (.inr ()))) :
    (loopF b FU 0 = some (.inr ()) ∧ firS g N n = none) ∨ ∃ m, loopF b FU 0 = some (.inl (nI m)) ∧ firS g N n = some m := by
  obtain ⟨x, h1, h2⟩ := loop_find (body := b) (fun k q => q = nI k) (fun h => decide (g n h = 2)) N (fun m x => x = Sum.inl (nI m)) (fun x => x = Sum.inr ()) (fun k q hk hq => by
    subst hq
    constructor
    · intro hp; exact ⟨_, hgo k hk (of_decide_eq_false hp), rfl⟩
    · intro hp; exact ⟨_, hyes k hk (of_decide_eq_true hp), rfl⟩) (fun q hq => by subst hq; exact ⟨_, hend, rfl⟩) (by omega) (k0 := 0) (Nat.zero_le _) (q := 0) rfl
  rcases h2 with ⟨q, rfl⟩ | ⟨m, -, -, q, -, rfl⟩
  · exact Or.inl ⟨h1, q⟩
  · exact Or.inr ⟨m, h1, q⟩
theorem first_out {b : Int32 → Option (Int32 ⊕ ((Int32 × Int32) ⊕ Unit))} {g : Nat → Nat → Int32} (hno : ∀ n, n < 10 → firS g N n = none → b (nI n) = some (.inl (nI (n + 1)))) (hyes : ∀ n, n < 10 → ∀ m, firS g N n = some m → b (nI n) = some (.inr (.inl (nI n, nI m)))) (hend : b (nI 10) = some (.inr (.inr ()))) (w : Int32) :
    (loopF b FU 0 = some (.inr ()) ∧ firstS g N w = -1) ∨ ∃ n m, loopF b FU 0 = some (.inl (nI n, nI m)) ∧ firstS g N w = (if w = 0 then nI n else nI m) := by
  obtain ⟨x, h1, h2⟩ := loop_find (body := b) (fun k q => q = nI k) (fun n => (firS g N n).isSome) 10 (fun n x => ∃ m, firS g N n = some m ∧ x = Sum.inl (nI n, nI m)) (fun x => x = Sum.inr ()) (fun k q hk hq => by
    subst hq
    constructor
    · intro hp; exact ⟨_, hno k hk (by simpa using hp), rfl⟩
    · intro hp
      obtain ⟨m, hm⟩ := Option.isSome_iff_exists.mp hp
      exact ⟨_, hyes k hk m hm, m, hm, rfl⟩) (fun q hq => by subst hq; exact ⟨_, hend, rfl⟩) (by omega) (k0 := 0) (Nat.zero_le _) (q := 0) rfl
  rcases h2 with ⟨q, rfl⟩ | ⟨n, -, -, q, -, m, hm, rfl⟩
  · refine Or.inl ⟨h1, ?_⟩
    unfold firstS
    rw [show fstB (fun n => (firS g N n).isSome) 10 0 = none from q]
  · refine Or.inr ⟨n, m, h1, ?_⟩
    unfold firstS
    rw [show fstB (fun n => (firS g N n).isSome) 10 0 = some n from q]
    dsimp only
    rw [hm]
theorem first_x (hX : Ctx C W R N nb nd a f kinds rowAt colAt ways beside places dues bn bt dn dt) {sl : Int32} {st0 fr0 tr0 go0 li0 st fr tr go li : Nat → Int32} {td0 td : Nat → Int64} (hT : f_X8_told sl (nI C) (nI W) (nI R) kinds rowAt colAt ways beside (nI nb) bn bt (nI nd) dn dt (nI a) (nI f) (-1) (-1) st0 fr0 tr0 go0 td0 li0 = some (0, st, fr, tr, go, td, li)) (hC : CNights W 10 (NLs C W R kinds kinds (fun _ => true) nb bn bt nd dn dt a f) (LLs C W R kinds kinds (fun _ => true) nb bn bt nd dn dt a f) tr go td li) {r : Nat} (hr : r ≤ 1) :
    f_X8_first sl (nI C) (nI W) (nI R) kinds rowAt colAt ways beside (nI N) places (nI nb) bn bt (nI nd) dn dt (nI a) (nI f) (-1) (-1) st0 fr0 tr0 go0 td0 li0 (nI r) = some (firstS (fun n h => lieS C W places (LLs C W R kinds kinds (fun _ => true) nb bn bt nd dn dt a f) n h) N (nI r), 0, st, fr, tr, go, td, li) := by
  have h8 := hX.n8
  unfold f_X8_first
  rw [show f_X8_isUpTo (nI r) (1 : Int32) = some 1 from upTo_yes (M := 1) hr (by omega), bind1_def, if_neg one_ne0, hT, bind7_def]
  have inner : ∀ n, n < 10 → _ := fun n (hn : n < 10) => first_in (N := N) (b := fun q : Int32 => f_X8_first_L27 (nI C) rowAt colAt (nI N) places li (nI n) q) (g := fun n h => lieS C W places (LLs C W R kinds kinds (fun _ => true) nb bn bt nd dn dt a f) n h) (n := n) h8 (fun h hh hg => by
      unfold f_X8_first_L27
      rw [if_neg (by rw [nI_le_i (by omega) (by omega)]; omega), gd_t (inb_n (by omega) (by omega)), tnN (by omega), lieX hX hn hh (hC n hn).2.2.2.2, bind1_def, if_neg hg, show nI h + 1 = nI (h + 1) from nI_1 _]) (fun h hh hg => by
      unfold f_X8_first_L27
      rw [if_neg (by rw [nI_le_i (by omega) (by omega)]; omega), gd_t (inb_n (by omega) (by omega)), tnN (by omega), lieX hX hn hh (hC n hn).2.2.2.2, bind1_def, if_pos hg]) (by
      unfold f_X8_first_L27
      rw [if_pos (by rw [nI_le_i (by omega) (by omega)]; omega)])
  have outer := first_out (N := N) (b := fun q : Int32 => f_X8_first_L18 (nI C) rowAt colAt (nI N) places li q) (g := fun n h => lieS C W places (LLs C W R kinds kinds (fun _ => true) nb bn bt nd dn dt a f) n h) (fun n hn hf => by
      unfold f_X8_first_L18
      rw [if_neg (by rw [show (10 : Int32) = nI 10 from rfl, nI_le_i (by omega) (by omega)]; omega)]
      rcases inner n hn with ⟨e, -⟩ | ⟨m, -, e⟩
      · rw [e, bindS_r, show nI n + 1 = nI (n + 1) from nI_1 _]
      · rw [hf] at e; exact absurd e (by simp)) (fun n hn m hf => by
      unfold f_X8_first_L18
      rw [if_neg (by rw [show (10 : Int32) = nI 10 from rfl, nI_le_i (by omega) (by omega)]; omega)]
      rcases inner n hn with ⟨-, e⟩ | ⟨m', e, e2⟩
      · rw [hf] at e; exact absurd e (by simp)
      · rw [hf] at e2; rw [e, bindS_l, Option.some.inj e2]) (by
      unfold f_X8_first_L18
      rw [if_pos (by decide)]) (nI r)
  rcases outer with ⟨e, e2⟩ | ⟨n, m, e, e2⟩
  · rw [e, bindS_r, e2]
  · rw [e, bindS_l, e2]
    show (if nI r = 0 then _ else _) = _
    by_cases h : nI r = 0
    · rw [if_pos h, if_pos h]
    · rw [if_neg h, if_neg h]
theorem firstM (hX : Ctx C W R N nb nd a f kinds rowAt colAt ways beside places dues bn bt dn dt) (hM : MOK C N nb nd a f kinds places dues bn bt dn dt mc mh ms mb md) {LL : Nat → Nat → Int32} {l : Nat → Int32} (r : Int32) (hli : ∀ m, m < 10 → ∀ x, x < W → l (6 * m + x) = LL m x) :
    f_X9_firstOf (nI C) (nI W) (nI N) mh l r = some (firstS (fun n h => lieS C W places LL n h) N r) := by
  have h8 := hX.n8
  unfold f_X9_firstOf
  have inner : ∀ n, n < 10 → _ := fun n (hn : n < 10) => first_in (N := N) (b := fun q : Int32 => f_X9_firstOf_L10 (nI C) (nI W) (nI N) mh l (nI n) q) (g := fun n h => lieS C W places LL n h) (n := n) h8 (fun h hh hg => by
      unfold f_X9_firstOf_L10
      rw [if_neg (by rw [nI_le_i (by omega) (by omega)]; omega), lieM hX hM hn hh (hli n hn), bind1_def, if_neg hg, show nI h + 1 = nI (h + 1) from nI_1 _]) (fun h hh hg => by
      unfold f_X9_firstOf_L10
      rw [if_neg (by rw [nI_le_i (by omega) (by omega)]; omega), lieM hX hM hn hh (hli n hn), bind1_def, if_pos hg]) (by
      unfold f_X9_firstOf_L10
      rw [if_pos (by rw [nI_le_i (by omega) (by omega)]; omega)])
  have outer := first_out (N := N) (b := fun q : Int32 => f_X9_firstOf_L2 (nI C) (nI W) (nI N) mh l q) (g := fun n h => lieS C W places LL n h) (fun n hn hf => by
      unfold f_X9_firstOf_L2
      rw [if_neg (by rw [show (10 : Int32) = nI 10 from rfl, nI_le_i (by omega) (by omega)]; omega)]
      rcases inner n hn with ⟨e, -⟩ | ⟨m, -, e⟩
      · rw [e, bindS_r, show nI n + 1 = nI (n + 1) from nI_1 _]
      · rw [hf] at e; exact absurd e (by simp)) (fun n hn m hf => by
      unfold f_X9_firstOf_L2
      rw [if_neg (by rw [show (10 : Int32) = nI 10 from rfl, nI_le_i (by omega) (by omega)]; omega)]
      rcases inner n hn with ⟨-, e⟩ | ⟨m', e, e2⟩
      · rw [hf] at e; exact absurd e (by simp)
      · rw [hf] at e2; rw [e, bindS_l, Option.some.inj e2]) (by
      unfold f_X9_firstOf_L2
      rw [if_pos (by decide)]) r
  rcases outer with ⟨e, e2⟩ | ⟨n, m, e, e2⟩
  · rw [e, bindS_r, e2]
  · rw [e, bindS_l, e2]
    show (if r = 0 then _ else _) = _
    by_cases h : r = 0
    · rw [if_pos h, if_pos h]
    · rw [if_neg h, if_neg h]
