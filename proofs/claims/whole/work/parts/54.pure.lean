/-! PURE GROUND: loops, guards, numbers -/
theorem gd_t {α : Type} {b : Bool} {x : Option α} (h : b = true) : gd b x = x := by unfold gd; rw [if_pos h]
theorem letv_def {α β : Type} (x : α) (f : α → Option β) : letv x f = f x := rfl
theorem bind1_def {A C : Type} (a : A) (f : A → Option C) : bind1 (some a) f = f a := rfl
theorem bind2_def {A B C : Type} (a : A) (b : B) (f : A → B → Option C) : bind2 (some (a, b)) f = f a b := rfl
theorem bind3_def {A1 A2 A3 C : Type} (a1 : A1) (a2 : A2) (a3 : A3) (f : A1 → A2 → A3 → Option C) : bind3 (some (a1, a2, a3)) f = f a1 a2 a3 := rfl
theorem bind4_def {A1 A2 A3 A4 C : Type} (a1 : A1) (a2 : A2) (a3 : A3) (a4 : A4) (f : A1 → A2 → A3 → A4 → Option C) : bind4 (some (a1, a2, a3, a4)) f = f a1 a2 a3 a4 := rfl
theorem bind5_def {A1 A2 A3 A4 A5 C : Type} (a1 : A1) (a2 : A2) (a3 : A3) (a4 : A4) (a5 : A5) (f : A1 → A2 → A3 → A4 → A5 → Option C) : bind5 (some (a1, a2, a3, a4, a5)) f = f a1 a2 a3 a4 a5 := rfl
theorem bind6_def {A1 A2 A3 A4 A5 A6 C : Type} (a1 : A1) (a2 : A2) (a3 : A3) (a4 : A4) (a5 : A5) (a6 : A6) (f : A1 → A2 → A3 → A4 → A5 → A6 → Option C) : bind6 (some (a1, a2, a3, a4, a5, a6)) f = f a1 a2 a3 a4 a5 a6 := rfl
theorem bindS_l {A B C : Type} (a : A) (f : A → Option C) (g : B → Option C) : bindS (some (.inl a)) f g = f a := rfl
theorem bindS_r {A B C : Type} (b : B) (f : A → Option C) (g : B → Option C) : bindS (some (.inr b)) f g = g b := rfl
theorem bindS3_1 {A B E C : Type} (a : A) (f : A → Option C) (g : B → Option C) (h : E → Option C) : bindS3 (some (.inl a)) f g h = f a := rfl
theorem bindS3_2 {A B E C : Type} (a : B) (f : A → Option C) (g : B → Option C) (h : E → Option C) : bindS3 (some (.inr (.inl a))) f g h = g a := rfl
theorem bindS3_3 {A B E C : Type} (a : E) (f : A → Option C) (g : B → Option C) (h : E → Option C) : bindS3 (some (.inr (.inr a))) f g h = h a := rfl
/-- one turn of a loop -/
theorem loopF_go {P E : Type} {body : P → Option (P ⊕ E)} {n : Nat} {q q' : P} (h : body q = some (.inl q')) : loopF body (n + 1) q = loopF body n q' := by
  show (match body q with | none => none | some (.inl q') => loopF body n q' | some (.inr x) => some x) = _
  rw [h]
theorem loopF_end {P E : Type} {body : P → Option (P ⊕ E)} {n : Nat} {q : P} {x : E} (h : body q = some (.inr x)) : loopF body (n + 1) q = some x := by
  show (match body q with | none => none | some (.inl q') => loopF body n q' | some (.inr x) => some x) = _
  rw [h]
/-- a loop with an invariant and a measure ends, and its end is as wanted -/
theorem loopF_run {P E : Type} {body : P → Option (P ⊕ E)} (I : Nat → P → Prop) (Z : E → Prop)
    (h : ∀ n q, I n q → (∃ x, body q = some (.inr x) ∧ Z x) ∨ (∃ q' m, m < n ∧ body q = some (.inl q') ∧ I m q')) :
    ∀ (N n : Nat) (q : P), I n q → n < N → ∃ x, loopF body N q = some x ∧ Z x := by
  intro N
  induction N with
  | zero => intro n q _ h2; exact absurd h2 (Nat.not_lt_zero _)
  | succ N ih =>
    intro n q hI hn
    rcases h n q hI with ⟨x, hb, hz⟩ | ⟨q', m, hm, hb, hI'⟩
    · exact ⟨x, loopF_end hb, hz⟩
    · obtain ⟨x, hl, hz⟩ := ih m q' hI' (by omega)
      exact ⟨x, by rw [loopF_go hb]; exact hl, hz⟩
/-- two loops in step -/
theorem loopF_two {P E P' E' : Type} {body : P → Option (P ⊕ E)} {body' : P' → Option (P' ⊕ E')} (I : Nat → P → P' → Prop) (Z : E → E' → Prop)
    (h : ∀ n q q', I n q q' → (∃ x x', body q = some (.inr x) ∧ body' q' = some (.inr x') ∧ Z x x') ∨ (∃ r r' m, m < n ∧ body q = some (.inl r) ∧ body' q' = some (.inl r') ∧ I m r r')) :
    ∀ (N n : Nat) (q : P) (q' : P'), I n q q' → n < N → ∃ x x', loopF body N q = some x ∧ loopF body' N q' = some x' ∧ Z x x' := by
  intro N
  induction N with
  | zero => intro n q q' _ h2; exact absurd h2 (Nat.not_lt_zero _)
  | succ N ih =>
    intro n q q' hI hn
    rcases h n q q' hI with ⟨x, x', hb, hb', hz⟩ | ⟨r, r', m, hm, hb, hb', hI'⟩
    · exact ⟨x, x', loopF_end hb, loopF_end hb', hz⟩
    · obtain ⟨x, x', hl, hl', hz⟩ := ih m r r' hI' (by omega)
      exact ⟨x, x', by rw [loopF_go hb]; exact hl, by rw [loopF_go hb']; exact hl', hz⟩
theorem FU_big : 4000 < FU := by decide
/-! numbers -/
theorem inb_n {k n : Nat} (h : k < n) (hn : n < 2147483648) : inb (nI k) n = true := by
  unfold inb
  rw [nI_toInt (by omega)]
  exact decide_eq_true ⟨by omega, by omega⟩
theorem tnN {k : Nat} (h : k < 2147483648) : (nI k).toNatClampNeg = k := nI_clamp (by omega)
theorem lit (n : Nat) : (OfNat.ofNat n : Int32) = nI n := rfl
theorem nI_neg1 {k : Nat} (h : k < 2147483648) : ¬ nI k = -1 := by
  intro q
  have := congrArg Int32.toInt q
  rw [nI_toInt (by omega)] at this
  have e : (-1 : Int32).toInt = -1 := by decide
  omega
theorem nI_le_i {a b : Nat} (ha : a < 2147483648) (hb : b < 2147483648) : (nI a ≤ nI b) = (a ≤ b) := propext (nI_leI (by omega) (by omega))
theorem nI_lt_i {a b : Nat} (ha : a < 2147483648) (hb : b < 2147483648) : (nI a < nI b) = (a < b) := propext (nI_ltI (by omega) (by omega))
theorem nI_eq_i {a b : Nat} (ha : a < 2147483648) (hb : b < 2147483648) : (nI a = nI b) = (a = b) := propext (nI_eq (by omega) (by omega))
theorem le_i {a b : Int32} : a ≤ b ↔ a.toInt ≤ b.toInt := Int32.le_iff_toInt_le
theorem lt_i {a b : Int32} : a < b ↔ a.toInt < b.toInt := Int32.lt_iff_toInt_lt
/-- a number between two bounds is a name's -/
theorem of_bounds {v : Int32} {M : Nat} (hM : M < 2147483648) (h0 : ¬ v < 0) (h1 : ¬ nI M < v) : ∃ k : Nat, k ≤ M ∧ v = nI k := by
  obtain ⟨j, hj, e⟩ := nI_of h0
  refine ⟨j, ?_, e⟩
  rw [e, nI_lt_i hM (by omega)] at h1
  omega
theorem upTo_yes {k M : Nat} (h : k ≤ M) (hM : M < 2147483648) : f_X8_isUpTo (nI k) (nI M) = some 1 := by
  unfold f_X8_isUpTo
  rw [if_neg (nI_pos (by omega)), if_neg (by rw [nI_lt_i hM (by omega)]; omega)]
/-- in or out, as both sides ask it -/
theorem upTo_cases (v : Int32) {M : Nat} (hM : M < 2147483648) : (f_X8_isUpTo v (nI M) = some 0 ∧ (v < 0 ∨ nI M < v)) ∨ (f_X8_isUpTo v (nI M) = some 1 ∧ ∃ k : Nat, k ≤ M ∧ v = nI k) := by
  unfold f_X8_isUpTo
  by_cases h0 : v < 0
  · rw [if_pos h0]; exact Or.inl ⟨rfl, Or.inl h0⟩
  · rw [if_neg h0]
    by_cases h1 : nI M < v
    · rw [if_pos h1]; exact Or.inl ⟨rfl, Or.inr h1⟩
    · rw [if_neg h1]; exact Or.inr ⟨rfl, of_bounds hM h0 h1⟩
theorem lg_lt0 (x y : Int64) : lg_cmp x y < 0 ↔ x < y := by
  unfold lg_cmp
  by_cases h1 : x > y
  · rw [if_pos h1]
    constructor
    · intro h; exact absurd h (by decide)
    · intro h; rw [Int64.lt_iff_toInt_lt] at h; have h2 : y < x := h1; rw [Int64.lt_iff_toInt_lt] at h2; omega
  · rw [if_neg h1]
    by_cases h2 : x = y
    · rw [if_pos h2]
      constructor
      · intro h; exact absurd h (by decide)
      · intro h; rw [h2, Int64.lt_iff_toInt_lt] at h; omega
    · rw [if_neg h2]
      constructor
      · intro _
        have h3 : ¬ y < x := h1
        rw [Int64.lt_iff_toInt_lt] at h3 ⊢
        have h4 : x.toInt ≠ y.toInt := fun q => h2 (Int64.toInt_inj.mp q)
        omega
      · intro _; decide
theorem lg_gt0 (x y : Int64) : 0 < lg_cmp x y ↔ y < x := by
  unfold lg_cmp
  by_cases h1 : x > y
  · rw [if_pos h1]; exact ⟨fun _ => h1, fun _ => by decide⟩
  · rw [if_neg h1]
    constructor
    · intro h
      by_cases h2 : x = y
      · rw [if_pos h2] at h; exact absurd h (by decide)
      · rw [if_neg h2] at h; exact absurd h (by decide)
    · intro h; exact absurd h h1
theorem i64_lt (a b : Int32) : a.toInt64 < b.toInt64 ↔ a < b := by
  rw [Int64.lt_iff_toInt_lt, Int32.lt_iff_toInt_lt, Int32.toInt_toInt64, Int32.toInt_toInt64]
theorem in_32 (v lo hi : Int32) : f_X9_in v.toInt64 lo.toInt64 hi.toInt64 = if v < lo then some 0 else if hi < v then some 0 else some 1 := by
  unfold f_X9_in
  by_cases h0 : v < lo
  · rw [if_pos ((lg_lt0 _ _).mpr ((i64_lt _ _).mpr h0)), if_pos h0]
  · rw [if_neg (fun q => h0 ((i64_lt _ _).mp ((lg_lt0 _ _).mp q))), if_neg h0]
    by_cases h1 : hi < v
    · rw [if_pos ((lg_gt0 _ _).mpr ((i64_lt _ _).mpr h1)), if_pos h1]
    · rw [if_neg (fun q => h1 ((i64_lt _ _).mp ((lg_gt0 _ _).mp q))), if_neg h1]
theorem in_up (v hi : Int32) : f_X9_in v.toInt64 (0 : Int64) hi.toInt64 = f_X8_isUpTo v hi := in_32 v 0 hi
theorem isNight_eq (v : Int32) : f_X9_isNight v = f_X8_isNight v := by
  unfold f_X9_isNight f_X8_isNight
  rw [show (9 : Int64) = (9 : Int32).toInt64 from by decide, in_up]
theorem isTwo_eq (v : Int32) : f_X9_isTwo v = f_X8_isUpTo v 1 := by
  unfold f_X9_isTwo
  rw [show (1 : Int64) = (1 : Int32).toInt64 from by decide, in_up]
  rcases upTo_cases v (M := 1) (by omega) with ⟨h, -⟩ | ⟨h, -⟩
  · rw [show (1 : Int32) = nI 1 from rfl, h]; rfl
  · rw [show (1 : Int32) = nI 1 from rfl, h]; rfl
theorem isNight_cases (v : Int32) : (f_X8_isNight v = some 0 ∧ (v < 0 ∨ nI 9 < v)) ∨ (f_X8_isNight v = some 1 ∧ ∃ k : Nat, k ≤ 9 ∧ v = nI k) := by
  unfold f_X8_isNight
  rcases upTo_cases v (M := 9) (by omega) with ⟨h, h2⟩ | ⟨h, h2⟩
  · exact Or.inl ⟨by rw [show (9 : Int32) = nI 9 from rfl, h]; rfl, h2⟩
  · exact Or.inr ⟨by rw [show (9 : Int32) = nI 9 from rfl, h]; rfl, h2⟩
theorem isSheet_eq (v : Int32) : f_X9_isSheet v = f_X8_isUpTo v 3 := by
  unfold f_X9_isSheet
  rw [show (3 : Int64) = (3 : Int32).toInt64 from by decide, in_up]
  rcases upTo_cases v (M := 3) (by omega) with ⟨h, -⟩ | ⟨h, -⟩
  · rw [show (3 : Int32) = nI 3 from rfl, h]; rfl
  · rw [show (3 : Int32) = nI 3 from rfl, h]; rfl
/-! banks -/
theorem up_self {α : Type} (f : Nat → α) (k : Nat) : va_up f k (f k) = f := by
  funext j
  unfold va_up
  by_cases h : j = k
  · rw [if_pos h, h]
  · rw [if_neg h]
theorem up_eq {α : Type} {f : Nat → α} {k : Nat} {v : α} (h : v = f k) : va_up f k v = f := by rw [h]; exact up_self f k
theorem up_at {α : Type} (f : Nat → α) (k : Nat) (v : α) : va_up f k v k = v := by unfold va_up; rw [if_pos rfl]
theorem up_ne {α : Type} (f : Nat → α) {k j : Nat} (v : α) (h : j ≠ k) : va_up f k v j = f j := by unfold va_up; rw [if_neg h]
theorem upd_at (f : Nat → Int32) (k : Nat) (v : Int32) : upd f k v k = v := by unfold upd; rw [if_pos rfl]
theorem upd_ne (f : Nat → Int32) {k j : Nat} (v : Int32) (h : j ≠ k) : upd f k v j = f j := by unfold upd; rw [if_neg h]
