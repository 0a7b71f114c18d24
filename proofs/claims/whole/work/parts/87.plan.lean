variable {C W R N nb nd ns a f : Nat} {kinds rowAt colAt ways beside places dues bn bt dn dt sn sh sr mc mh ms mb md mg : Nat → Int32}
def lay2 (D2 : Nat → Nat → Bool) (C x : Nat) : Option Nat := fstB (D2 x) (C - x) x
def layS (b0 : Bool) (D1 : Nat → Bool) (D2 : Nat → Nat → Bool) (C : Nat) (i : Int32) : Int32 :=
  if b0 = true then (if i = -1 then 0 else -1) else
  match fstB D1 C 0 with
  | some x => if i = -1 then 1 else if i = 0 then nI x else -1
  | none => match fstB (fun x => (lay2 D2 C x).isSome) C 0 with
    | none => -1
    | some x => if i = -1 then 2 else if i = 0 then nI x else lk (lay2 D2 C x)
theorem layS_0 {b0 : Bool} {D1 : Nat → Bool} {D2 : Nat → Nat → Bool} {i : Int32} (h : b0 = true) : layS b0 D1 D2 C i = if i = -1 then 0 else -1 := by
  unfold layS; rw [if_pos h]
theorem layS_1 {b0 : Bool} {D1 : Nat → Bool} {D2 : Nat → Nat → Bool} {i : Int32} {x : Nat} (h : b0 = false) (h1 : fstB D1 C 0 = some x) : layS b0 D1 D2 C i = if i = -1 then 1 else if i = 0 then nI x else -1 := by
  unfold layS; rw [if_neg (by rw [h]; decide), h1]
theorem layS_2 {b0 : Bool} {D1 : Nat → Bool} {D2 : Nat → Nat → Bool} {i : Int32} {x y : Nat} (h : b0 = false) (h1 : fstB D1 C 0 = none) (h2 : fstB (fun x => (lay2 D2 C x).isSome) C 0 = some x) (h3 : lay2 D2 C x = some y) : layS b0 D1 D2 C i = if i = -1 then 2 else if i = 0 then nI x else nI y := by
  unfold layS; rw [if_neg (by rw [h]; decide), h1]; dsimp only; rw [h2]; dsimp only; rw [h3]; rfl
theorem layS_3 {b0 : Bool} {D1 : Nat → Bool} {D2 : Nat → Nat → Bool} {i : Int32} (h : b0 = false) (h1 : fstB D1 C 0 = none) (h2 : fstB (fun x => (lay2 D2 C x).isSome) C 0 = none) : layS b0 D1 D2 C i = -1 := by
  unfold layS; rw [if_neg (by rw [h]; decide), h1]; dsimp only; rw [h2]
theorem fstB_none {p : Nat → Bool} : ∀ (n k : Nat), (∀ j, k ≤ j → j < k + n → p j = false) → fstB p n k = none := by
  intro n
  induction n with
  | zero => intro k _; rfl
  | succ n ih =>
    intro k h
    rw [fstB_no (h k (Nat.le_refl _) (by omega))]
    exact ih (k + 1) (fun j h1 h2 => h j (by omega) (by omega))
theorem told_0 (o t : Int32) {i : Int32} (hi : i = -1 ∨ i = 0 ∨ i = 1) : f_X2_told 0 o t i = some (if i = -1 then 0 else -1) := by
  rcases hi with rfl | rfl | rfl <;> rfl
theorem told_m (o t : Int32) {i : Int32} (hi : i = -1 ∨ i = 0 ∨ i = 1) : f_X2_told (-1) o t i = some (-1) := by
  rcases hi with rfl | rfl | rfl <;> rfl
theorem told_1 (x t : Int32) {i : Int32} (hi : i = -1 ∨ i = 0 ∨ i = 1) : f_X2_told 1 x t i = some (if i = -1 then 1 else if i = 0 then x else -1) := by
  rcases hi with rfl | rfl | rfl <;> rfl
theorem told_2 (x y : Int32) {i : Int32} (hi : i = -1 ∨ i = 0 ∨ i = 1) : f_X2_told 2 x y i = some (if i = -1 then 2 else if i = 0 then x else y) := by
  rcases hi with rfl | rfl | rfl <;> rfl
theorem b01_0 {b : Bool} (h : b = false) : b01 b = 0 := by rw [h]; rfl
theorem b01_1 {b : Bool} (h : b = true) : b01 b = 1 := by rw [h]; rfl
set_option maxHeartbeats 1000000 in
theorem planOne_x (hX : Ctx C W R N nb nd a f kinds rowAt colAt ways beside places dues bn bt dn dt) {n p : Nat} {r : Int32} {st fr li : Nat → Int32} (hn : n < 10) (hp : p ≤ 39) (hW : Weighed C W R nb nd a f kinds bn bt dn dt n st fr li) (tr go : Nat → Int32) (td : Nat → Int64) (ln lo : Int32) :
    ∃ tr' go' td' li', Weighed C W R nb nd a f kinds bn bt dn dt n st fr li' ∧ ((fstB (dr1 C W R nb nd a f kinds bn bt dn dt n p r) C 0 = none ∧ f_X8_planOne (nI C) (nI W) (nI R) kinds rowAt colAt ways beside (nI a) (nI f) st fr tr go td li ln lo (nI n) (nI p) r = some (fr, tr', go', td', li', ln, lo)) ∨
      ∃ m, fstB (dr1 C W R nb nd a f kinds bn bt dn dt n p r) C 0 = some m ∧ f_X8_planOne (nI C) (nI W) (nI R) kinds rowAt colAt ways beside (nI a) (nI f) st fr tr go td li ln lo (nI n) (nI p) r = some (fr, tr', go', td', li', 1, nI m)) := by
  have h36 := hX.c36
  obtain ⟨x, h1, h2⟩ := loop_find (body := fun q : Int32 × (Nat → Int32) × (Nat → Int32) × (Nat → Int32) × (Nat → Int64) × (Nat → Int32) => f_X8_planOne_L3 (nI C) (nI W) (nI R) kinds rowAt colAt ways beside (nI a) (nI f) st (nI n) (nI p) r q.1 q.2.1 q.2.2.1 q.2.2.2.1 q.2.2.2.2.1 q.2.2.2.2.2)
    (fun k q => ∃ tr go td li, q = (nI k, fr, tr, go, td, li) ∧ Weighed C W R nb nd a f kinds bn bt dn dt n st fr li) (dr1 C W R nb nd a f kinds bn bt dn dt n p r) C
    (fun m x => ∃ tr go td li, x = Sum.inl (nI m, fr, tr, go, td, li) ∧ Weighed C W R nb nd a f kinds bn bt dn dt n st fr li) (fun x => ∃ tr go td li, x = Sum.inr (fr, tr, go, td, li) ∧ Weighed C W R nb nd a f kinds bn bt dn dt n st fr li) (by
      rintro k q hk ⟨tr1, go1, td1, li1, rfl, hW1⟩
      obtain ⟨tr2, go2, td2, li2, e, hW2⟩ := drawn1 (r := r) hX hn hp hk hW1 tr1 go1 td1
      constructor
      · intro hpk
        rw [b01_0 hpk] at e
        refine ⟨(nI (k + 1), fr, tr2, go2, td2, li2), ?_, tr2, go2, td2, li2, rfl, hW2⟩
        dsimp only
        unfold f_X8_planOne_L3
        rw [if_neg (by rw [nI_le_i (by omega) (by omega)]; omega), e, bind6_def, if_pos rfl, show nI k + 1 = nI (k + 1) from nI_1 _]
      · intro hpk
        rw [b01_1 hpk] at e
        refine ⟨_, ?_, tr2, go2, td2, li2, rfl, hW2⟩
        dsimp only
        unfold f_X8_planOne_L3
        rw [if_neg (by rw [nI_le_i (by omega) (by omega)]; omega), e, bind6_def, if_neg one_ne0]) (by
      rintro q ⟨tr1, go1, td1, li1, rfl, hW1⟩
      refine ⟨_, ?_, tr1, go1, td1, li1, rfl, hW1⟩
      dsimp only
      unfold f_X8_planOne_L3
      rw [if_pos (by rw [nI_le_i (by omega) (by omega)]; omega)]) (by omega) (k0 := 0) (Nat.zero_le _) (q := (0, fr, tr, go, td, li)) ⟨tr, go, td, li, rfl, hW⟩
  rcases h2 with ⟨q, tr2, go2, td2, li2, rfl, hW2⟩ | ⟨m, -, -, q, -, tr2, go2, td2, li2, rfl, hW2⟩
  · exact ⟨tr2, go2, td2, li2, hW2, Or.inl ⟨q, by unfold f_X8_planOne; rw [h1]; rfl⟩⟩
  · exact ⟨tr2, go2, td2, li2, hW2, Or.inr ⟨m, q, by unfold f_X8_planOne; rw [h1]; rfl⟩⟩
set_option maxHeartbeats 1000000 in
theorem planTwo_in (hX : Ctx C W R N nb nd a f kinds rowAt colAt ways beside places dues bn bt dn dt) {n p x : Nat} {r : Int32} {st fr li : Nat → Int32} (hn : n < 10) (hp : p ≤ 39) (hx : x < C) (hW : Weighed C W R nb nd a f kinds bn bt dn dt n st fr li) (tr go : Nat → Int32) (td : Nat → Int64) :
    ∃ tr' go' td' li', Weighed C W R nb nd a f kinds bn bt dn dt n st fr li' ∧ ((lay2 (dr2 C W R nb nd a f kinds bn bt dn dt n p r) C x = none ∧ loopF (fun q : Int32 × (Nat → Int32) × (Nat → Int32) × (Nat → Int32) × (Nat → Int64) × (Nat → Int32) => f_X8_planTwo_L19 (nI C) (nI W) (nI R) kinds rowAt colAt ways beside (nI a) (nI f) st (nI n) (nI p) r (nI x) q.1 q.2.1 q.2.2.1 q.2.2.2.1 q.2.2.2.2.1 q.2.2.2.2.2) FU (nI x, fr, tr, go, td, li) = some (.inr (fr, tr', go', td', li'))) ∨
      ∃ m, lay2 (dr2 C W R nb nd a f kinds bn bt dn dt n p r) C x = some m ∧ loopF (fun q : Int32 × (Nat → Int32) × (Nat → Int32) × (Nat → Int32) × (Nat → Int64) × (Nat → Int32) => f_X8_planTwo_L19 (nI C) (nI W) (nI R) kinds rowAt colAt ways beside (nI a) (nI f) st (nI n) (nI p) r (nI x) q.1 q.2.1 q.2.2.1 q.2.2.2.1 q.2.2.2.2.1 q.2.2.2.2.2) FU (nI x, fr, tr, go, td, li) = some (.inl (nI m, fr, tr', go', td', li'))) := by
  have h36 := hX.c36
  obtain ⟨z, h1, h2⟩ := loop_find (body := fun q : Int32 × (Nat → Int32) × (Nat → Int32) × (Nat → Int32) × (Nat → Int64) × (Nat → Int32) => f_X8_planTwo_L19 (nI C) (nI W) (nI R) kinds rowAt colAt ways beside (nI a) (nI f) st (nI n) (nI p) r (nI x) q.1 q.2.1 q.2.2.1 q.2.2.2.1 q.2.2.2.2.1 q.2.2.2.2.2)
    (fun k q => ∃ tr go td li, q = (nI k, fr, tr, go, td, li) ∧ Weighed C W R nb nd a f kinds bn bt dn dt n st fr li) (dr2 C W R nb nd a f kinds bn bt dn dt n p r x) C
    (fun m x => ∃ tr go td li, x = Sum.inl (nI m, fr, tr, go, td, li) ∧ Weighed C W R nb nd a f kinds bn bt dn dt n st fr li) (fun x => ∃ tr go td li, x = Sum.inr (fr, tr, go, td, li) ∧ Weighed C W R nb nd a f kinds bn bt dn dt n st fr li) (by
      rintro k q hk ⟨tr1, go1, td1, li1, rfl, hW1⟩
      obtain ⟨tr2, go2, td2, li2, e, hW2⟩ := drawn2 (r := r) hX hn hp hx hk hW1 tr1 go1 td1
      constructor
      · intro hpk
        rw [b01_0 hpk] at e
        refine ⟨(nI (k + 1), fr, tr2, go2, td2, li2), ?_, tr2, go2, td2, li2, rfl, hW2⟩
        dsimp only
        unfold f_X8_planTwo_L19
        rw [if_neg (by rw [nI_le_i (by omega) (by omega)]; omega), e, bind6_def, if_pos rfl, show nI k + 1 = nI (k + 1) from nI_1 _]
      · intro hpk
        rw [b01_1 hpk] at e
        refine ⟨_, ?_, tr2, go2, td2, li2, rfl, hW2⟩
        dsimp only
        unfold f_X8_planTwo_L19
        rw [if_neg (by rw [nI_le_i (by omega) (by omega)]; omega), e, bind6_def, if_neg one_ne0]) (by
      rintro q ⟨tr1, go1, td1, li1, rfl, hW1⟩
      refine ⟨_, ?_, tr1, go1, td1, li1, rfl, hW1⟩
      dsimp only
      unfold f_X8_planTwo_L19
      rw [if_pos (by rw [nI_le_i (by omega) (by omega)]; omega)]) (by omega) (k0 := x) (by omega) (q := (nI x, fr, tr, go, td, li)) ⟨tr, go, td, li, rfl, hW⟩
  rcases h2 with ⟨q, tr2, go2, td2, li2, rfl, hW2⟩ | ⟨m, -, -, q, -, tr2, go2, td2, li2, rfl, hW2⟩
  · exact ⟨tr2, go2, td2, li2, hW2, Or.inl ⟨q, h1⟩⟩
  · exact ⟨tr2, go2, td2, li2, hW2, Or.inr ⟨m, q, h1⟩⟩
set_option maxHeartbeats 1000000 in
theorem planTwo_x (hX : Ctx C W R N nb nd a f kinds rowAt colAt ways beside places dues bn bt dn dt) {n p : Nat} {r : Int32} {st fr li : Nat → Int32} (hn : n < 10) (hp : p ≤ 39) (hW : Weighed C W R nb nd a f kinds bn bt dn dt n st fr li) (tr go : Nat → Int32) (td : Nat → Int64) (ln lo lt : Int32) :
    ∃ tr' go' td' li', ((fstB (fun x => (lay2 (dr2 C W R nb nd a f kinds bn bt dn dt n p r) C x).isSome) C 0 = none ∧ f_X8_planTwo (nI C) (nI W) (nI R) kinds rowAt colAt ways beside (nI a) (nI f) st fr tr go td li ln lo lt (nI n) (nI p) r = some (fr, tr', go', td', li', ln, lo, lt)) ∨
      ∃ x m, fstB (fun x => (lay2 (dr2 C W R nb nd a f kinds bn bt dn dt n p r) C x).isSome) C 0 = some x ∧ lay2 (dr2 C W R nb nd a f kinds bn bt dn dt n p r) C x = some m ∧ f_X8_planTwo (nI C) (nI W) (nI R) kinds rowAt colAt ways beside (nI a) (nI f) st fr tr go td li ln lo lt (nI n) (nI p) r = some (fr, tr', go', td', li', 2, nI x, nI m)) := by
  have h36 := hX.c36
  obtain ⟨z, h1, h2⟩ := loop_find (body := fun q : Int32 × (Nat → Int32) × (Nat → Int32) × (Nat → Int32) × (Nat → Int64) × (Nat → Int32) => f_X8_planTwo_L3 (nI C) (nI W) (nI R) kinds rowAt colAt ways beside (nI a) (nI f) st (nI n) (nI p) r q.1 q.2.1 q.2.2.1 q.2.2.2.1 q.2.2.2.2.1 q.2.2.2.2.2)
    (fun k q => ∃ tr go td li, q = (nI k, fr, tr, go, td, li) ∧ Weighed C W R nb nd a f kinds bn bt dn dt n st fr li) (fun x => (lay2 (dr2 C W R nb nd a f kinds bn bt dn dt n p r) C x).isSome) C
    (fun x z => ∃ m tr go td li, lay2 (dr2 C W R nb nd a f kinds bn bt dn dt n p r) C x = some m ∧ z = Sum.inl (nI x, nI m, fr, tr, go, td, li)) (fun x => ∃ tr go td li, x = Sum.inr (fr, tr, go, td, li)) (by
      rintro k q hk ⟨tr1, go1, td1, li1, rfl, hW1⟩
      obtain ⟨tr2, go2, td2, li2, hW2, hh⟩ := planTwo_in (r := r) hX hn hp hk hW1 tr1 go1 td1
      constructor
      · intro hpk
        rcases hh with ⟨-, e⟩ | ⟨m, q, -⟩
        · refine ⟨(nI (k + 1), fr, tr2, go2, td2, li2), ?_, tr2, go2, td2, li2, rfl, hW2⟩
          dsimp only
          unfold f_X8_planTwo_L3
          rw [if_neg (by rw [nI_le_i (by omega) (by omega)]; omega), e, bindS_r, show nI k + 1 = nI (k + 1) from nI_1 _]; rfl
        · rw [q] at hpk; exact absurd hpk (by simp)
      · intro hpk
        rcases hh with ⟨q, -⟩ | ⟨m, q, e⟩
        · rw [q] at hpk; exact absurd hpk (by simp)
        · refine ⟨_, ?_, m, tr2, go2, td2, li2, q, rfl⟩
          dsimp only
          unfold f_X8_planTwo_L3
          rw [if_neg (by rw [nI_le_i (by omega) (by omega)]; omega), e, bindS_l]; rfl) (by
      rintro q ⟨tr1, go1, td1, li1, rfl, hW1⟩
      refine ⟨_, ?_, tr1, go1, td1, li1, rfl⟩
      dsimp only
      unfold f_X8_planTwo_L3
      rw [if_pos (by rw [nI_le_i (by omega) (by omega)]; omega)]) (by omega) (k0 := 0) (Nat.zero_le _) (q := (0, fr, tr, go, td, li)) ⟨tr, go, td, li, rfl, hW⟩
  rcases h2 with ⟨q, tr2, go2, td2, li2, rfl⟩ | ⟨x, -, -, q, -, m, tr2, go2, td2, li2, hm, rfl⟩
  · exact ⟨tr2, go2, td2, li2, Or.inl ⟨q, by unfold f_X8_planTwo; rw [h1]; rfl⟩⟩
  · exact ⟨tr2, go2, td2, li2, Or.inr ⟨x, m, q, hm, by unfold f_X8_planTwo; rw [h1]; rfl⟩⟩
/-- behind the frost, and off the land, bowls do nothing -/
theorem LL_frost (hG : Grid C W R) {n x : Nat} (hn : n < 10) (hf : f ≤ n) (hx : x < 36) : LLs C W R kinds kinds (fun _ => true) (nb + 1) (upd bn nb (nI n)) (upd bt nb (nI x)) nd dn dt a f n = LLs C W R kinds kinds (fun _ => true) nb bn bt nd dn dt a f n := by
  have e : ∀ nb' bn' bt', LLs C W R kinds kinds (fun _ => true) nb' bn' bt' nd dn dt a f n = (fun x => if n = 0 then nI (R / 2) else LLs C W R kinds kinds (fun _ => true) nb' bn' bt' nd dn dt a f (n - 1) x) := by
    intro nb' bn' bt'
    unfold LLs
    rw [lineL_eq, nightL_eq]
    unfold night1
    rw [if_neg (by omega)]; rfl
  rw [e, e]
  funext y
  by_cases h0 : n = 0
  · rw [if_pos h0, if_pos h0]
  · rw [if_neg h0, if_neg h0, (LL_early hG hn hx (by omega)).2]
def lay0 (C W R nb nd a f : Nat) (kinds bn bt dn dt : Nat → Int32) (n p : Nat) (r : Int32) : Bool := decide (realmS C W (LLs C W R kinds kinds (fun _ => true) nb bn bt nd dn dt a f) n p = r)
def layA (C W R nb nd a f : Nat) (kinds bn bt dn dt : Nat → Int32) (n p : Nat) (r i : Int32) : Int32 := layS (lay0 C W R nb nd a f kinds bn bt dn dt n p r) (dr1 C W R nb nd a f kinds bn bt dn dt n p r) (dr2 C W R nb nd a f kinds bn bt dn dt n p r) C i
theorem layA_not (hG : Grid C W R) {n p r : Nat} {i : Int32} (hn : n < 10) (hr : r ≤ 2) (h : C ≤ p ∨ f ≤ n) (h0 : lay0 C W R nb nd a f kinds bn bt dn dt n p (nI r) = false) : layA C W R nb nd a f kinds bn bt dn dt n p (nI r) i = -1 := by
  have h36 := hG.c36
  have hb := of_decide_eq_false h0
  have k1 : ∀ x, x < C → dr1 C W R nb nd a f kinds bn bt dn dt n p (nI r) x = false := by
    intro x hx
    refine decide_eq_false ?_
    rcases h with h | h
    · unfold realmS
      rw [if_neg (by omega)]
      exact fun q => nI_neg1 (by omega) q.symm
    · rw [realmS_eq (LL_frost hG hn h (by omega))]
      exact hb
  have k2 : ∀ x y, x < C → y < C → dr2 C W R nb nd a f kinds bn bt dn dt n p (nI r) x y = false := by
    intro x y hx hy
    refine decide_eq_false ?_
    rcases h with h | h
    · unfold realmS
      rw [if_neg (by omega)]
      exact fun q => nI_neg1 (by omega) q.symm
    · rw [realmS_eq (LL_frost hG hn h (by omega)), realmS_eq (LL_frost hG hn h (by omega))]
      exact hb
  refine layS_3 h0 (fstB_none _ _ fun j _ hj => k1 j (by omega)) (fstB_none _ _ fun j _ hj => ?_)
  have e : lay2 (dr2 C W R nb nd a f kinds bn bt dn dt n p (nI r)) C j = none := fstB_none _ _ fun y _ hy => k2 j y (by omega) (by omega)
  rw [e]; rfl
set_option maxHeartbeats 1000000 in
theorem planBowls_x (hX : Ctx C W R N nb nd a f kinds rowAt colAt ways beside places dues bn bt dn dt) {n h r : Nat} (hn : n < 10) (hh : h < N) (hr : r ≤ 2) (ts tf tp tk : Int32) (st0 fr0 tr0 go0 : Nat → Int32) (td0 : Nat → Int64) (li0 : Nat → Int32) (ln lo lt : Int32) :
    ∃ (c1 c2 c3 c4 : Int32) (c5 c6 c7 c8 : Nat → Int32) (c9 : Nat → Int64) (c10 : Nat → Int32) (c11 c12 c13 : Int32), f_X8_planBowls (nI C) (nI W) (nI R) kinds rowAt colAt ways beside places (nI nb) bn bt (nI nd) dn dt (nI a) (nI f) (-1) (-1) ts tf tp tk st0 fr0 tr0 go0 td0 li0 ln lo lt (nI n) (nI h) (nI r) = some (c1, c2, c3, c4, c5, c6, c7, c8, c9, c10, c11, c12, c13) ∧
      ∀ i : Int32, i = -1 ∨ i = 0 ∨ i = 1 → f_X2_told c11 c12 c13 i = some (layA C W R nb nd a f kinds bn bt dn dt n (plc places h) (nI r) i) := by
  have h36 := hX.c36
  have h8 := hX.n8
  have hb8 := hX.b8
  obtain ⟨ep, hp⟩ := hX.plcOK hh
  obtain ⟨st, fr, tr, go, td, li, w1, w2, w3⟩ := trialX hX (last := n) (v := a) hX.2.2.2.2.2.1 (by omega) (-1) (-1) st0 fr0 tr0 go0 td0 li0
  have hall := LLs_all hX (L := n) (v := a) (kd := rakedK kinds (-1)) (pr := prX (-1)) (fun i hi => prX_all ⟨i, by omega⟩) (fun c hc => rakedK_no _ (by omega))
  have hre := realmX hX.1 hn hp (w2.lines (n := n) (by omega) (hall n (Nat.le_refl _)).2)
  have X : f_X8_planBowls (nI C) (nI W) (nI R) kinds rowAt colAt ways beside places (nI nb) bn bt (nI nd) dn dt (nI a) (nI f) (-1) (-1) ts tf tp tk st0 fr0 tr0 go0 td0 li0 ln lo lt (nI n) (nI h) (nI r) = (if realmS C W (LLs C W R kinds kinds (fun _ => true) nb bn bt nd dn dt a f) n (plc places h) = nI r then some (nI a, nI f, (-1 : Int32), (-1 : Int32), st, fr, tr, go, td, li, (0 : Int32), lo, lt) else if nI C ≤ nI (plc places h) then some (nI a, nI f, (-1 : Int32), (-1 : Int32), st, fr, tr, go, td, li, (-1 : Int32), lo, lt) else if nI f ≤ nI n then some (nI a, nI f, (-1 : Int32), (-1 : Int32), st, fr, tr, go, td, li, (-1 : Int32), lo, lt) else bind7 (f_X8_planOne (nI C) (nI W) (nI R) kinds rowAt colAt ways beside (nI a) (nI f) st fr tr go td li (-1 : Int32) lo (nI n) (nI (plc places h)) (nI r)) (fun c13 c14 c15 c16 c17 c18 c19 => if c18 = (-1 : Int32) then (bind8 (f_X8_planTwo (nI C) (nI W) (nI R) kinds rowAt colAt ways beside (nI a) (nI f) st c13 c14 c15 c16 c17 c18 c19 lt (nI n) (nI (plc places h)) (nI r)) (fun c20 c21 c22 c23 c24 c25 c26 c27 => some (nI a, nI f, (-1 : Int32), (-1 : Int32), st, c20, c21, c22, c23, c24, c25, c26, c27))) else (some (nI a, nI f, (-1 : Int32), (-1 : Int32), st, c13, c14, c15, c16, c17, c18, c19, lt)))) := by
    unfold f_X8_planBowls f_X7_becomeLike
    rw [gd_t (inb_n (by omega) (by omega)), letv_def, tnN (by omega), ep, bind4_def, w1, bind6_def, hre, bind1_def]
  by_cases e0 : realmS C W (LLs C W R kinds kinds (fun _ => true) nb bn bt nd dn dt a f) n (plc places h) = nI r
  · rw [if_pos e0] at X
    refine ⟨_, _, _, _, _, _, _, _, _, _, _, _, _, X, fun i hi => ?_⟩
    rw [told_0 lo lt hi]
    unfold layA
    rw [layS_0 (show lay0 C W R nb nd a f kinds bn bt dn dt n (plc places h) (nI r) = true from decide_eq_true e0)]
  rw [if_neg e0] at X
  have b0 : lay0 C W R nb nd a f kinds bn bt dn dt n (plc places h) (nI r) = false := decide_eq_false e0
  by_cases e1 : C ≤ plc places h
  · rw [if_pos (by rw [nI_le_i (by omega) (by omega)]; exact e1)] at X
    refine ⟨_, _, _, _, _, _, _, _, _, _, _, _, _, X, fun i hi => ?_⟩
    rw [told_m lo lt hi, layA_not hX.grid hn hr (Or.inl e1) b0]
  rw [if_neg (by rw [nI_le_i (by omega) (by omega)]; exact e1)] at X
  have hf10 := hX.2.2.2.2.2.2
  by_cases e2 : f ≤ n
  · rw [if_pos (by rw [nI_le_i (by omega) (by omega)]; exact e2)] at X
    refine ⟨_, _, _, _, _, _, _, _, _, _, _, _, _, X, fun i hi => ?_⟩
    rw [told_m lo lt hi, layA_not hX.grid hn hr (Or.inr e2) b0]
  rw [if_neg (by rw [nI_le_i (by omega) (by omega)]; exact e2)] at X
  have hW : Weighed C W R nb nd a f kinds bn bt dn dt n st fr li := by
    refine ⟨fun c hc => ?_, fun c hc => ?_, fun k hk => w2.lines (n := k) (by omega) (hall k (by omega)).2⟩
    · rw [(w3 c hc).1, prevL_congr fun k hk => (hall k (by omega)).1]
      unfold stP aOf
      rw [rakedK_no _ (by omega)]
    · rw [(w3 c hc).2]
      unfold bOf
      rw [rakedK_no _ (by omega), addIf_congr _ fun i hi => bowlT_pr (pr' := fun _ => true) (prX_all ⟨i, by omega⟩)]
  obtain ⟨tr1, go1, td1, li1, hW1, ⟨q, e⟩ | ⟨m, q, e⟩⟩ := planOne_x (r := nI r) hX hn hp hW tr go td (-1) lo
  · rw [e, bind7_def, if_pos rfl] at X
    obtain ⟨tr2, go2, td2, li2, ⟨q2, e2⟩ | ⟨x, m, q2, q3, e2⟩⟩ := planTwo_x (r := nI r) hX hn hp hW1 tr1 go1 td1 (-1) lo lt
    · rw [e2, bind8_def] at X
      refine ⟨_, _, _, _, _, _, _, _, _, _, _, _, _, X, fun i hi => ?_⟩
      rw [told_m lo lt hi]
      unfold layA
      rw [layS_3 b0 q q2]
    · rw [e2, bind8_def] at X
      refine ⟨_, _, _, _, _, _, _, _, _, _, _, _, _, X, fun i hi => ?_⟩
      rw [told_2 _ _ hi]
      unfold layA
      rw [layS_2 b0 q q2 q3]
  · rw [e, bind7_def, if_neg (by decide)] at X
    refine ⟨_, _, _, _, _, _, _, _, _, _, _, _, _, X, fun i hi => ?_⟩
    rw [told_1 _ _ hi]
    unfold layA
    rw [layS_1 b0 q]
