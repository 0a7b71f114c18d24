theorem bind8_def {A1 A2 A3 A4 A5 A6 A7 A8 C : Type} (a1 : A1) (a2 : A2) (a3 : A3) (a4 : A4) (a5 : A5) (a6 : A6) (a7 : A7) (a8 : A8) (f : A1 → A2 → A3 → A4 → A5 → A6 → A7 → A8 → Option C) : bind8 (some (a1, a2, a3, a4, a5, a6, a7, a8)) f = f a1 a2 a3 a4 a5 a6 a7 a8 := rfl
theorem bind9_def {A1 A2 A3 A4 A5 A6 A7 A8 A9 C : Type} (a1 : A1) (a2 : A2) (a3 : A3) (a4 : A4) (a5 : A5) (a6 : A6) (a7 : A7) (a8 : A8) (a9 : A9) (f : A1 → A2 → A3 → A4 → A5 → A6 → A7 → A8 → A9 → Option C) : bind9 (some (a1, a2, a3, a4, a5, a6, a7, a8, a9)) f = f a1 a2 a3 a4 a5 a6 a7 a8 a9 := rfl
theorem bind11_def {A1 A2 A3 A4 A5 A6 A7 A8 A9 A10 A11 C : Type} (a1 : A1) (a2 : A2) (a3 : A3) (a4 : A4) (a5 : A5) (a6 : A6) (a7 : A7) (a8 : A8) (a9 : A9) (a10 : A10) (a11 : A11) (f : A1 → A2 → A3 → A4 → A5 → A6 → A7 → A8 → A9 → A10 → A11 → Option C) : bind11 (some (a1, a2, a3, a4, a5, a6, a7, a8, a9, a10, a11)) f = f a1 a2 a3 a4 a5 a6 a7 a8 a9 a10 a11 := rfl
theorem bind12_def {A1 A2 A3 A4 A5 A6 A7 A8 A9 A10 A11 A12 C : Type} (a1 : A1) (a2 : A2) (a3 : A3) (a4 : A4) (a5 : A5) (a6 : A6) (a7 : A7) (a8 : A8) (a9 : A9) (a10 : A10) (a11 : A11) (a12 : A12) (f : A1 → A2 → A3 → A4 → A5 → A6 → A7 → A8 → A9 → A10 → A11 → A12 → Option C) : bind12 (some (a1, a2, a3, a4, a5, a6, a7, a8, a9, a10, a11, a12)) f = f a1 a2 a3 a4 a5 a6 a7 a8 a9 a10 a11 a12 := rfl
theorem bind13_def {A1 A2 A3 A4 A5 A6 A7 A8 A9 A10 A11 A12 A13 C : Type} (a1 : A1) (a2 : A2) (a3 : A3) (a4 : A4) (a5 : A5) (a6 : A6) (a7 : A7) (a8 : A8) (a9 : A9) (a10 : A10) (a11 : A11) (a12 : A12) (a13 : A13) (f : A1 → A2 → A3 → A4 → A5 → A6 → A7 → A8 → A9 → A10 → A11 → A12 → A13 → Option C) : bind13 (some (a1, a2, a3, a4, a5, a6, a7, a8, a9, a10, a11, a12, a13)) f = f a1 a2 a3 a4 a5 a6 a7 a8 a9 a10 a11 a12 a13 := rfl
theorem bind19_def {A1 A2 A3 A4 A5 A6 A7 A8 A9 A10 A11 A12 A13 A14 A15 A16 A17 A18 A19 C : Type} (a1 : A1) (a2 : A2) (a3 : A3) (a4 : A4) (a5 : A5) (a6 : A6) (a7 : A7) (a8 : A8) (a9 : A9) (a10 : A10) (a11 : A11) (a12 : A12) (a13 : A13) (a14 : A14) (a15 : A15) (a16 : A16) (a17 : A17) (a18 : A18) (a19 : A19) (f : A1 → A2 → A3 → A4 → A5 → A6 → A7 → A8 → A9 → A10 → A11 → A12 → A13 → A14 → A15 → A16 → A17 → A18 → A19 → Option C) : bind19 (some (a1, a2, a3, a4, a5, a6, a7, a8, a9, a10, a11, a12, a13, a14, a15, a16, a17, a18, a19)) f = f a1 a2 a3 a4 a5 a6 a7 a8 a9 a10 a11 a12 a13 a14 a15 a16 a17 a18 a19 := rfl
theorem bind23_def {A1 A2 A3 A4 A5 A6 A7 A8 A9 A10 A11 A12 A13 A14 A15 A16 A17 A18 A19 A20 A21 A22 A23 C : Type} (a1 : A1) (a2 : A2) (a3 : A3) (a4 : A4) (a5 : A5) (a6 : A6) (a7 : A7) (a8 : A8) (a9 : A9) (a10 : A10) (a11 : A11) (a12 : A12) (a13 : A13) (a14 : A14) (a15 : A15) (a16 : A16) (a17 : A17) (a18 : A18) (a19 : A19) (a20 : A20) (a21 : A21) (a22 : A22) (a23 : A23) (f : A1 → A2 → A3 → A4 → A5 → A6 → A7 → A8 → A9 → A10 → A11 → A12 → A13 → A14 → A15 → A16 → A17 → A18 → A19 → A20 → A21 → A22 → A23 → Option C) : bind23 (some (a1, a2, a3, a4, a5, a6, a7, a8, a9, a10, a11, a12, a13, a14, a15, a16, a17, a18, a19, a20, a21, a22, a23)) f = f a1 a2 a3 a4 a5 a6 a7 a8 a9 a10 a11 a12 a13 a14 a15 a16 a17 a18 a19 a20 a21 a22 a23 := rfl
/-! loops again: steps counted from 0 on -/
theorem loop_for {P E : Type} {body : P → Option (P ⊕ E)} (mk : Nat → P) (K : Nat) {x : E} (hs : ∀ k, k < K → body (mk k) = some (.inl (mk (k + 1)))) (he : body (mk K) = some (.inr x)) (hK : K ≤ 4000) : loopF body FU (mk 0) = some x := by
  have key : ∀ n k N, k + n = K → n < N → loopF body N (mk k) = some x := by
    intro n
    induction n with
    | zero =>
      intro k N hk hN
      obtain ⟨M, rfl⟩ : ∃ M, N = M + 1 := ⟨N - 1, by omega⟩
      rw [show k = K by omega]
      exact loopF_end he
    | succ n ih =>
      intro k N hk hN
      obtain ⟨M, rfl⟩ : ∃ M, N = M + 1 := ⟨N - 1, by omega⟩
      rw [loopF_go (hs k (by omega))]
      exact ih (k + 1) M (by omega) (by omega)
  exact key K 0 FU (by omega) (Nat.lt_of_le_of_lt hK FU_big)
theorem loop_inv {P E : Type} {body : P → Option (P ⊕ E)} (I : Nat → P → Prop) (Z : E → Prop) (K : Nat)
    (hs : ∀ k q, k < K → I k q → (∃ q', body q = some (.inl q') ∧ I (k + 1) q') ∨ ∃ x, body q = some (.inr x) ∧ Z x)
    (he : ∀ q, I K q → ∃ x, body q = some (.inr x) ∧ Z x) (hK : K ≤ 4000) {q : P} (h0 : I 0 q) : ∃ x, loopF body FU q = some x ∧ Z x := by
  refine loopF_run (fun n q => ∃ k, k + n = K ∧ I k q) Z ?_ FU K q ⟨0, by omega, h0⟩ (Nat.lt_of_le_of_lt hK FU_big)
  rintro n q ⟨k, hk, hI⟩
  by_cases h : k < K
  · rcases hs k q h hI with ⟨q', h1, h2⟩ | h1
    · exact Or.inr ⟨q', n - 1, by omega, h1, k + 1, by omega, h2⟩
    · exact Or.inl h1
  · rw [show k = K by omega] at hI
    exact Or.inl (he q hI)
def fstB (p : Nat → Bool) : Nat → Nat → Option Nat
  | 0, _ => none
  | n + 1, k => if p k = true then some k else fstB p n (k + 1)
theorem fstB_no {p : Nat → Bool} {n k : Nat} (h : p k = false) : fstB p (n + 1) k = fstB p n (k + 1) := by
  show (if p k = true then some k else fstB p n (k + 1)) = _
  rw [h]; rfl
theorem fstB_yes {p : Nat → Bool} {n k : Nat} (h : p k = true) : fstB p (n + 1) k = some k := by
  show (if p k = true then some k else fstB p n (k + 1)) = _
  rw [if_pos h]
theorem fstB_congr {p p' : Nat → Bool} : ∀ (n k : Nat), (∀ j, k ≤ j → j < k + n → p j = p' j) → fstB p n k = fstB p' n k := by
  intro n
  induction n with
  | zero => intro k _; rfl
  | succ n ih =>
    intro k h
    cases hp : p k
    · rw [fstB_no hp, fstB_no (by rw [← h k (Nat.le_refl _) (by omega)]; exact hp)]
      exact ih (k + 1) (fun j h1 h2 => h j (by omega) (by omega))
    · rw [fstB_yes hp, fstB_yes (by rw [← h k (Nat.le_refl _) (by omega)]; exact hp)]
/-- a loop that looks for the first k with p -/
theorem loop_find {P E : Type} {body : P → Option (P ⊕ E)} (I : Nat → P → Prop) (p : Nat → Bool) (K : Nat) (Zy : Nat → E → Prop) (Zn : E → Prop)
    (hs : ∀ k q, k < K → I k q → (p k = false → ∃ q', body q = some (.inl q') ∧ I (k + 1) q') ∧ (p k = true → ∃ x, body q = some (.inr x) ∧ Zy k x))
    (he : ∀ q, I K q → ∃ x, body q = some (.inr x) ∧ Zn x) (hK : K ≤ 4000) {k0 : Nat} (hk0 : k0 ≤ K) {q : P} (h0 : I k0 q) :
    ∃ x, loopF body FU q = some x ∧ ((fstB p (K - k0) k0 = none ∧ Zn x) ∨ ∃ m, m < K ∧ k0 ≤ m ∧ fstB p (K - k0) k0 = some m ∧ p m = true ∧ Zy m x) := by
  refine loopF_run (fun n q => ∃ k, k + n = K ∧ k0 ≤ k ∧ I k q ∧ fstB p (K - k0) k0 = fstB p n k) _ ?_ FU (K - k0) q ⟨k0, by omega, Nat.le_refl _, h0, rfl⟩ (by have := FU_big; omega)
  rintro n q ⟨k, hk, hkk, hI, e⟩
  by_cases h : k < K
  · obtain ⟨m, rfl⟩ : ∃ m, n = m + 1 := ⟨n - 1, by omega⟩
    cases hp : p k
    · obtain ⟨q', h1, h2⟩ := (hs k q h hI).1 hp
      exact Or.inr ⟨q', m, by omega, h1, k + 1, by omega, by omega, h2, by rw [e, fstB_no hp]⟩
    · obtain ⟨x, h1, h2⟩ := (hs k q h hI).2 hp
      exact Or.inl ⟨x, h1, Or.inr ⟨k, h, hkk, by rw [e, fstB_yes hp], hp, h2⟩⟩
  · obtain rfl : n = 0 := by omega
    obtain ⟨x, h1, h2⟩ := he q (by rw [show k = K by omega] at hI; exact hI)
    exact Or.inl ⟨x, h1, Or.inl ⟨e, h2⟩⟩
def sumI (g : Nat → Int32) : Nat → Int32
  | 0 => 0
  | k + 1 => sumI g k + g k
theorem i_0add (x : Int32) : 0 + x = x := Int32.zero_add x
/-! what stands still while one asks -/
def Ctx (C W R N nb nd a f : Nat) (kinds rowAt colAt ways beside places dues bn bt dn dt : Nat → Int32) : Prop :=
  LandOK C W R kinds rowAt colAt ways beside ∧ HouseOK N places dues ∧ MarkOK nb bt ∧ MarkOK nd dt ∧ (∀ i, i < nb → ∃ k : Nat, k ≤ 9 ∧ bn i = nI k) ∧ a ≤ 5 ∧ f ≤ 10
def MOK (C N nb nd a f : Nat) (kinds places dues bn bt dn dt mc mh ms mb md : Nat → Int32) : Prop :=
  (∀ c, c < C → mc c = kinds c) ∧ (∀ k, k < N → mh (2 * k) = places k ∧ mh (2 * k + 1) = dues k) ∧ ms 0 = nI a ∧ ms 1 = nI f ∧ RowOK 8 nb mb bn bt ∧ RowOK 8 nd md dn dt
def SOK (n : Nat) (sn sh sr mg : Nat → Int32) : Prop :=
  n ≤ 8 ∧ ∀ i, i < n → mg (3 * i) = sn i ∧ mg (3 * i + 1) = sh i ∧ mg (3 * i + 2) = sr i ∧ (∃ a : Nat, a ≤ 9 ∧ sn i = nI a) ∧ (∃ c : Nat, c ≤ 7 ∧ sh i = nI c) ∧ (∃ c : Nat, c ≤ 2 ∧ sr i = nI c)
variable {C W R N nb nd ns a f : Nat} {kinds rowAt colAt ways beside places dues bn bt dn dt sn sh sr mc mh ms mb md mg : Nat → Int32}
theorem Ctx.c36 (h : Ctx C W R N nb nd a f kinds rowAt colAt ways beside places dues bn bt dn dt) : C ≤ 36 := h.1.c36
theorem Ctx.grid (h : Ctx C W R N nb nd a f kinds rowAt colAt ways beside places dues bn bt dn dt) : Grid C W R := h.1.grid
theorem Ctx.n8 (h : Ctx C W R N nb nd a f kinds rowAt colAt ways beside places dues bn bt dn dt) : N ≤ 8 := h.2.1.1
theorem Ctx.b8 (h : Ctx C W R N nb nd a f kinds rowAt colAt ways beside places dues bn bt dn dt) : nb ≤ 8 := h.2.2.1.1
theorem Ctx.d8 (h : Ctx C W R N nb nd a f kinds rowAt colAt ways beside places dues bn bt dn dt) : nd ≤ 8 := h.2.2.2.1.1
theorem Ctx.place (h : Ctx C W R N nb nd a f kinds rowAt colAt ways beside places dues bn bt dn dt) {k : Nat} (hk : k < N) : ∃ p : Nat, p ≤ 39 ∧ places k = nI p := (h.2.1.2 k hk).1
theorem NLs_len (hG : Grid C W R) (k kd : Nat → Int32) (pr : Nat → Bool) (n : Nat) : (NLs C W R k kd pr nb bn bt nd dn dt a f n).length ≤ 25 :=
  (nightL_all hG.2.2.1 hG.c36 k (firstF_ok k a hG.2.2.1 hG.2.2.2) f _ _ n).2
theorem NLs_lt (hG : Grid C W R) (k kd : Nat → Int32) (pr : Nat → Bool) (n : Nat) : ∀ d ∈ NLs C W R k kd pr nb bn bt nd dn dt a f n, d < C :=
  (nightL_all hG.2.2.1 hG.c36 k (firstF_ok k a hG.2.2.1 hG.2.2.2) f _ _ n).1
/-- the relation, all at once -/
theorem Rel.all {xi : Nat → Int32} {xa : Nat → Nat → Int32} {xl : Nat → Int64} {xm : Nat → Nat → Int64} {mi : Nat → Int32} {ma : Nat → Nat → Int32} (h : Rel xi xa xl xm mi ma) : ∃ C W R N nb nd ns a f : Nat,
    ((xi 5 = nI C ∧ xi 6 = nI W ∧ xi 7 = nI R) ∧ xi 9 = nI N ∧ (xi 10 = nI nb ∧ xi 11 = nI nd ∧ xi 12 = nI ns) ∧ (xi 13 = nI a ∧ xi 14 = nI f ∧ xi 15 = -1 ∧ xi 16 = -1)) ∧ (mi 4 = nI nb ∧ mi 5 = nI nd ∧ mi 6 = 0 ∧ mi 7 = nI ns) ∧
    Ctx C W R N nb nd a f (xa 2) (xa 3) (xa 4) (xa 5) (xa 6) (xa 7) (xa 8) (xa 9) (xa 10) (xa 12) (xa 13) ∧ SOK ns (xa 15) (xa 16) (xa 17) (ma 14) ∧
    (∃ (st fr tr go : Nat → Int32) (td : Nat → Int64) (li : Nat → Int32), f_X8_told (xi 0) (nI C) (nI W) (nI R) (xa 2) (xa 3) (xa 4) (xa 5) (xa 6) (nI nb) (xa 9) (xa 10) (nI nd) (xa 12) (xa 13) (nI a) (nI f) (-1) (-1) (xa 18) (xa 19) (xa 20) (xa 21) (xm 0) (xa 22) = some (0, st, fr, tr, go, td, li) ∧ CNights W 10 (NLs C W R (xa 2) (xa 2) (fun _ => true) nb (xa 9) (xa 10) nd (xa 12) (xa 13) a f) (LLs C W R (xa 2) (xa 2) (fun _ => true) nb (xa 9) (xa 10) nd (xa 12) (xa 13) a f) tr go td li ∧
      Rel (va_up xi 0 0) (va_up (va_up (va_up (va_up (va_up xa 18 st) 19 fr) 20 tr) 21 go) 22 li) xl (va_up xm 0 td) mi ma) ∧
    ∃ (mc mh p s l : Nat → Int32), f_X9_find (mi 1) (mi 2) (mi 3) (nI nb) (nI nd) 0 (ma 4) (ma 5) (ma 6) (ma 7) (ma 8) (ma 9) (ma 10) (ma 11) (ma 12) (ma 13) = some (nI C, nI W, nI N, mc, mh, p, s, l) ∧ MOK C N nb nd a f (xa 2) (xa 7) (xa 8) (xa 9) (xa 10) (xa 12) (xa 13) mc mh (ma 8) (ma 9) (ma 10) ∧
      MNights W 10 (NLs C W R (xa 2) (xa 2) (fun _ => true) nb (xa 9) (xa 10) nd (xa 12) (xa 13) a f) (LLs C W R (xa 2) (xa 2) (fun _ => true) nb (xa 9) (xa 10) nd (xa 12) (xa 13) a f) p s l := by
  obtain ⟨C, W, R, N, nb, nd, a, f, hS⟩ := h.sit
  obtain ⟨st, fr, tr, go, td, li, t1, t2, t3⟩ := h.told hS
  obtain ⟨mc, mh, p, s, l, g1, g2, g3, g4⟩ := h.find hS
  obtain ⟨⟨c1, c2, c3, hL⟩, ⟨n1, hH⟩, ⟨b1, b2, b3, b4⟩, ⟨d1, d2, d3, d4⟩, ⟨ha, a1, a2⟩, ⟨hf, f1, f2⟩, p1, p2, p3⟩ := hS
  obtain ⟨-, -, -, -, ⟨nb', hnb', e1, e2, e3⟩, -, ⟨ns, hns, s1, s2, s3⟩, -⟩ := id h
  have eb : nb' = nb := by have q := e1.symm.trans b1; rw [nI_eq_i (by omega) (by have := b3.1; omega)] at q; exact q
  subst eb
  rw [c1, c2, c3, b1, d1, a1, f1, p1, p2] at t1
  rw [b2, d2, p3] at g1
  exact ⟨C, W, R, N, nb', nd, ns, a, f, ⟨⟨c1, c2, c3⟩, n1, ⟨b1, d1, s1⟩, a1, f1, p1, p2⟩, ⟨b2, d2, p3, s2⟩, ⟨hL, hH, b3, d3, fun i hi => (e3 i hi).2.2.1, ha, hf⟩, ⟨hns, s3⟩, ⟨st, fr, tr, go, td, li, t1, t2, t3⟩, mc, mh, p, s, l, g1, ⟨g2, g3, a2, f2, b4, d4⟩, g4⟩
