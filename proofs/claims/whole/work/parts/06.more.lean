def bindS3 {A B E C : Type} (x : Option (A ⊕ (B ⊕ E))) (f : A → Option C) (g : B → Option C) (h : E → Option C) : Option C := x.bind (fun q => Sum.elim f (Sum.elim g h) q)
theorem bindS3_some {A B E C : Type} {x : Option (A ⊕ (B ⊕ E))} {f : A → Option C} {g : B → Option C} {h : E → Option C} {r : C} (hh : bindS3 x f g h = some r) : (∃ a, x = some (.inl a) ∧ f a = some r) ∨ (∃ b, x = some (.inr (.inl b)) ∧ g b = some r) ∨ (∃ b, x = some (.inr (.inr b)) ∧ h b = some r) := by
  unfold bindS3 at hh
  cases x with
  | none => cases hh
  | some q =>
    rcases q with a | b | b
    · exact Or.inl ⟨a, rfl, hh⟩
    · exact Or.inr (Or.inl ⟨b, rfl, hh⟩)
    · exact Or.inr (Or.inr ⟨b, rfl, hh⟩)
def unc2 {A1 A2 C : Type} (f : A1 → A2 → Option C) (q : A1 × A2) : Option C := f q.1 q.2
theorem unc2_some {A1 A2 C : Type} {f : A1 → A2 → Option C} {a1 : A1} {a2 : A2} {r : C} (h : unc2 f (a1, a2) = some r) : f a1 a2 = some r := h
def unc3 {A1 A2 A3 C : Type} (f : A1 → A2 → A3 → Option C) (q : A1 × A2 × A3) : Option C := f q.1 q.2.1 q.2.2
theorem unc3_some {A1 A2 A3 C : Type} {f : A1 → A2 → A3 → Option C} {a1 : A1} {a2 : A2} {a3 : A3} {r : C} (h : unc3 f (a1, a2, a3) = some r) : f a1 a2 a3 = some r := h
def unc4 {A1 A2 A3 A4 C : Type} (f : A1 → A2 → A3 → A4 → Option C) (q : A1 × A2 × A3 × A4) : Option C := f q.1 q.2.1 q.2.2.1 q.2.2.2
theorem unc4_some {A1 A2 A3 A4 C : Type} {f : A1 → A2 → A3 → A4 → Option C} {a1 : A1} {a2 : A2} {a3 : A3} {a4 : A4} {r : C} (h : unc4 f (a1, a2, a3, a4) = some r) : f a1 a2 a3 a4 = some r := h
def unc5 {A1 A2 A3 A4 A5 C : Type} (f : A1 → A2 → A3 → A4 → A5 → Option C) (q : A1 × A2 × A3 × A4 × A5) : Option C := f q.1 q.2.1 q.2.2.1 q.2.2.2.1 q.2.2.2.2
theorem unc5_some {A1 A2 A3 A4 A5 C : Type} {f : A1 → A2 → A3 → A4 → A5 → Option C} {a1 : A1} {a2 : A2} {a3 : A3} {a4 : A4} {a5 : A5} {r : C} (h : unc5 f (a1, a2, a3, a4, a5) = some r) : f a1 a2 a3 a4 a5 = some r := h
def unc6 {A1 A2 A3 A4 A5 A6 C : Type} (f : A1 → A2 → A3 → A4 → A5 → A6 → Option C) (q : A1 × A2 × A3 × A4 × A5 × A6) : Option C := f q.1 q.2.1 q.2.2.1 q.2.2.2.1 q.2.2.2.2.1 q.2.2.2.2.2
theorem unc6_some {A1 A2 A3 A4 A5 A6 C : Type} {f : A1 → A2 → A3 → A4 → A5 → A6 → Option C} {a1 : A1} {a2 : A2} {a3 : A3} {a4 : A4} {a5 : A5} {a6 : A6} {r : C} (h : unc6 f (a1, a2, a3, a4, a5, a6) = some r) : f a1 a2 a3 a4 a5 a6 = some r := h
def unc7 {A1 A2 A3 A4 A5 A6 A7 C : Type} (f : A1 → A2 → A3 → A4 → A5 → A6 → A7 → Option C) (q : A1 × A2 × A3 × A4 × A5 × A6 × A7) : Option C := f q.1 q.2.1 q.2.2.1 q.2.2.2.1 q.2.2.2.2.1 q.2.2.2.2.2.1 q.2.2.2.2.2.2
theorem unc7_some {A1 A2 A3 A4 A5 A6 A7 C : Type} {f : A1 → A2 → A3 → A4 → A5 → A6 → A7 → Option C} {a1 : A1} {a2 : A2} {a3 : A3} {a4 : A4} {a5 : A5} {a6 : A6} {a7 : A7} {r : C} (h : unc7 f (a1, a2, a3, a4, a5, a6, a7) = some r) : f a1 a2 a3 a4 a5 a6 a7 = some r := h
def unc8 {A1 A2 A3 A4 A5 A6 A7 A8 C : Type} (f : A1 → A2 → A3 → A4 → A5 → A6 → A7 → A8 → Option C) (q : A1 × A2 × A3 × A4 × A5 × A6 × A7 × A8) : Option C := f q.1 q.2.1 q.2.2.1 q.2.2.2.1 q.2.2.2.2.1 q.2.2.2.2.2.1 q.2.2.2.2.2.2.1 q.2.2.2.2.2.2.2
theorem unc8_some {A1 A2 A3 A4 A5 A6 A7 A8 C : Type} {f : A1 → A2 → A3 → A4 → A5 → A6 → A7 → A8 → Option C} {a1 : A1} {a2 : A2} {a3 : A3} {a4 : A4} {a5 : A5} {a6 : A6} {a7 : A7} {a8 : A8} {r : C} (h : unc8 f (a1, a2, a3, a4, a5, a6, a7, a8) = some r) : f a1 a2 a3 a4 a5 a6 a7 a8 = some r := h
def unc9 {A1 A2 A3 A4 A5 A6 A7 A8 A9 C : Type} (f : A1 → A2 → A3 → A4 → A5 → A6 → A7 → A8 → A9 → Option C) (q : A1 × A2 × A3 × A4 × A5 × A6 × A7 × A8 × A9) : Option C := f q.1 q.2.1 q.2.2.1 q.2.2.2.1 q.2.2.2.2.1 q.2.2.2.2.2.1 q.2.2.2.2.2.2.1 q.2.2.2.2.2.2.2.1 q.2.2.2.2.2.2.2.2
theorem unc9_some {A1 A2 A3 A4 A5 A6 A7 A8 A9 C : Type} {f : A1 → A2 → A3 → A4 → A5 → A6 → A7 → A8 → A9 → Option C} {a1 : A1} {a2 : A2} {a3 : A3} {a4 : A4} {a5 : A5} {a6 : A6} {a7 : A7} {a8 : A8} {a9 : A9} {r : C} (h : unc9 f (a1, a2, a3, a4, a5, a6, a7, a8, a9) = some r) : f a1 a2 a3 a4 a5 a6 a7 a8 a9 = some r := h
def unc10 {A1 A2 A3 A4 A5 A6 A7 A8 A9 A10 C : Type} (f : A1 → A2 → A3 → A4 → A5 → A6 → A7 → A8 → A9 → A10 → Option C) (q : A1 × A2 × A3 × A4 × A5 × A6 × A7 × A8 × A9 × A10) : Option C := f q.1 q.2.1 q.2.2.1 q.2.2.2.1 q.2.2.2.2.1 q.2.2.2.2.2.1 q.2.2.2.2.2.2.1 q.2.2.2.2.2.2.2.1 q.2.2.2.2.2.2.2.2.1 q.2.2.2.2.2.2.2.2.2
theorem unc10_some {A1 A2 A3 A4 A5 A6 A7 A8 A9 A10 C : Type} {f : A1 → A2 → A3 → A4 → A5 → A6 → A7 → A8 → A9 → A10 → Option C} {a1 : A1} {a2 : A2} {a3 : A3} {a4 : A4} {a5 : A5} {a6 : A6} {a7 : A7} {a8 : A8} {a9 : A9} {a10 : A10} {r : C} (h : unc10 f (a1, a2, a3, a4, a5, a6, a7, a8, a9, a10) = some r) : f a1 a2 a3 a4 a5 a6 a7 a8 a9 a10 = some r := h
def unc11 {A1 A2 A3 A4 A5 A6 A7 A8 A9 A10 A11 C : Type} (f : A1 → A2 → A3 → A4 → A5 → A6 → A7 → A8 → A9 → A10 → A11 → Option C) (q : A1 × A2 × A3 × A4 × A5 × A6 × A7 × A8 × A9 × A10 × A11) : Option C := f q.1 q.2.1 q.2.2.1 q.2.2.2.1 q.2.2.2.2.1 q.2.2.2.2.2.1 q.2.2.2.2.2.2.1 q.2.2.2.2.2.2.2.1 q.2.2.2.2.2.2.2.2.1 q.2.2.2.2.2.2.2.2.2.1 q.2.2.2.2.2.2.2.2.2.2
theorem unc11_some {A1 A2 A3 A4 A5 A6 A7 A8 A9 A10 A11 C : Type} {f : A1 → A2 → A3 → A4 → A5 → A6 → A7 → A8 → A9 → A10 → A11 → Option C} {a1 : A1} {a2 : A2} {a3 : A3} {a4 : A4} {a5 : A5} {a6 : A6} {a7 : A7} {a8 : A8} {a9 : A9} {a10 : A10} {a11 : A11} {r : C} (h : unc11 f (a1, a2, a3, a4, a5, a6, a7, a8, a9, a10, a11) = some r) : f a1 a2 a3 a4 a5 a6 a7 a8 a9 a10 a11 = some r := h
def unc12 {A1 A2 A3 A4 A5 A6 A7 A8 A9 A10 A11 A12 C : Type} (f : A1 → A2 → A3 → A4 → A5 → A6 → A7 → A8 → A9 → A10 → A11 → A12 → Option C) (q : A1 × A2 × A3 × A4 × A5 × A6 × A7 × A8 × A9 × A10 × A11 × A12) : Option C := f q.1 q.2.1 q.2.2.1 q.2.2.2.1 q.2.2.2.2.1 q.2.2.2.2.2.1 q.2.2.2.2.2.2.1 q.2.2.2.2.2.2.2.1 q.2.2.2.2.2.2.2.2.1 q.2.2.2.2.2.2.2.2.2.1 q.2.2.2.2.2.2.2.2.2.2.1 q.2.2.2.2.2.2.2.2.2.2.2
theorem unc12_some {A1 A2 A3 A4 A5 A6 A7 A8 A9 A10 A11 A12 C : Type} {f : A1 → A2 → A3 → A4 → A5 → A6 → A7 → A8 → A9 → A10 → A11 → A12 → Option C} {a1 : A1} {a2 : A2} {a3 : A3} {a4 : A4} {a5 : A5} {a6 : A6} {a7 : A7} {a8 : A8} {a9 : A9} {a10 : A10} {a11 : A11} {a12 : A12} {r : C} (h : unc12 f (a1, a2, a3, a4, a5, a6, a7, a8, a9, a10, a11, a12) = some r) : f a1 a2 a3 a4 a5 a6 a7 a8 a9 a10 a11 a12 = some r := h
def unc13 {A1 A2 A3 A4 A5 A6 A7 A8 A9 A10 A11 A12 A13 C : Type} (f : A1 → A2 → A3 → A4 → A5 → A6 → A7 → A8 → A9 → A10 → A11 → A12 → A13 → Option C) (q : A1 × A2 × A3 × A4 × A5 × A6 × A7 × A8 × A9 × A10 × A11 × A12 × A13) : Option C := f q.1 q.2.1 q.2.2.1 q.2.2.2.1 q.2.2.2.2.1 q.2.2.2.2.2.1 q.2.2.2.2.2.2.1 q.2.2.2.2.2.2.2.1 q.2.2.2.2.2.2.2.2.1 q.2.2.2.2.2.2.2.2.2.1 q.2.2.2.2.2.2.2.2.2.2.1 q.2.2.2.2.2.2.2.2.2.2.2.1 q.2.2.2.2.2.2.2.2.2.2.2.2
theorem unc13_some {A1 A2 A3 A4 A5 A6 A7 A8 A9 A10 A11 A12 A13 C : Type} {f : A1 → A2 → A3 → A4 → A5 → A6 → A7 → A8 → A9 → A10 → A11 → A12 → A13 → Option C} {a1 : A1} {a2 : A2} {a3 : A3} {a4 : A4} {a5 : A5} {a6 : A6} {a7 : A7} {a8 : A8} {a9 : A9} {a10 : A10} {a11 : A11} {a12 : A12} {a13 : A13} {r : C} (h : unc13 f (a1, a2, a3, a4, a5, a6, a7, a8, a9, a10, a11, a12, a13) = some r) : f a1 a2 a3 a4 a5 a6 a7 a8 a9 a10 a11 a12 a13 = some r := h
def unc14 {A1 A2 A3 A4 A5 A6 A7 A8 A9 A10 A11 A12 A13 A14 C : Type} (f : A1 → A2 → A3 → A4 → A5 → A6 → A7 → A8 → A9 → A10 → A11 → A12 → A13 → A14 → Option C) (q : A1 × A2 × A3 × A4 × A5 × A6 × A7 × A8 × A9 × A10 × A11 × A12 × A13 × A14) : Option C := f q.1 q.2.1 q.2.2.1 q.2.2.2.1 q.2.2.2.2.1 q.2.2.2.2.2.1 q.2.2.2.2.2.2.1 q.2.2.2.2.2.2.2.1 q.2.2.2.2.2.2.2.2.1 q.2.2.2.2.2.2.2.2.2.1 q.2.2.2.2.2.2.2.2.2.2.1 q.2.2.2.2.2.2.2.2.2.2.2.1 q.2.2.2.2.2.2.2.2.2.2.2.2.1 q.2.2.2.2.2.2.2.2.2.2.2.2.2
theorem unc14_some {A1 A2 A3 A4 A5 A6 A7 A8 A9 A10 A11 A12 A13 A14 C : Type} {f : A1 → A2 → A3 → A4 → A5 → A6 → A7 → A8 → A9 → A10 → A11 → A12 → A13 → A14 → Option C} {a1 : A1} {a2 : A2} {a3 : A3} {a4 : A4} {a5 : A5} {a6 : A6} {a7 : A7} {a8 : A8} {a9 : A9} {a10 : A10} {a11 : A11} {a12 : A12} {a13 : A13} {a14 : A14} {r : C} (h : unc14 f (a1, a2, a3, a4, a5, a6, a7, a8, a9, a10, a11, a12, a13, a14) = some r) : f a1 a2 a3 a4 a5 a6 a7 a8 a9 a10 a11 a12 a13 a14 = some r := h
def unc15 {A1 A2 A3 A4 A5 A6 A7 A8 A9 A10 A11 A12 A13 A14 A15 C : Type} (f : A1 → A2 → A3 → A4 → A5 → A6 → A7 → A8 → A9 → A10 → A11 → A12 → A13 → A14 → A15 → Option C) (q : A1 × A2 × A3 × A4 × A5 × A6 × A7 × A8 × A9 × A10 × A11 × A12 × A13 × A14 × A15) : Option C := f q.1 q.2.1 q.2.2.1 q.2.2.2.1 q.2.2.2.2.1 q.2.2.2.2.2.1 q.2.2.2.2.2.2.1 q.2.2.2.2.2.2.2.1 q.2.2.2.2.2.2.2.2.1 q.2.2.2.2.2.2.2.2.2.1 q.2.2.2.2.2.2.2.2.2.2.1 q.2.2.2.2.2.2.2.2.2.2.2.1 q.2.2.2.2.2.2.2.2.2.2.2.2.1 q.2.2.2.2.2.2.2.2.2.2.2.2.2.1 q.2.2.2.2.2.2.2.2.2.2.2.2.2.2
theorem unc15_some {A1 A2 A3 A4 A5 A6 A7 A8 A9 A10 A11 A12 A13 A14 A15 C : Type} {f : A1 → A2 → A3 → A4 → A5 → A6 → A7 → A8 → A9 → A10 → A11 → A12 → A13 → A14 → A15 → Option C} {a1 : A1} {a2 : A2} {a3 : A3} {a4 : A4} {a5 : A5} {a6 : A6} {a7 : A7} {a8 : A8} {a9 : A9} {a10 : A10} {a11 : A11} {a12 : A12} {a13 : A13} {a14 : A14} {a15 : A15} {r : C} (h : unc15 f (a1, a2, a3, a4, a5, a6, a7, a8, a9, a10, a11, a12, a13, a14, a15) = some r) : f a1 a2 a3 a4 a5 a6 a7 a8 a9 a10 a11 a12 a13 a14 a15 = some r := h
theorem bp_10 : (Int8.ofInt (10)).toInt32 = (10 : Int32) := by decide
theorem bp_108 : (Int8.ofInt (108)).toInt32 = (108 : Int32) := by decide
theorem bp_119 : (Int8.ofInt (119)).toInt32 = (119 : Int32) := by decide
theorem bp_127 : (Int8.ofInt (127)).toInt32 = (127 : Int32) := by decide
theorem bp_16 : (Int8.ofInt (16)).toInt32 = (16 : Int32) := by decide
theorem bp_20 : (Int8.ofInt (20)).toInt32 = (20 : Int32) := by decide
theorem bp_24 : (Int8.ofInt (24)).toInt32 = (24 : Int32) := by decide
theorem bp_25 : (Int8.ofInt (25)).toInt32 = (25 : Int32) := by decide
theorem bp_31 : (Int8.ofInt (31)).toInt32 = (31 : Int32) := by decide
theorem bp_32 : (Int8.ofInt (32)).toInt32 = (32 : Int32) := by decide
theorem bp_35 : (Int8.ofInt (35)).toInt32 = (35 : Int32) := by decide
theorem bp_36 : (Int8.ofInt (36)).toInt32 = (36 : Int32) := by decide
theorem bp_41 : (Int8.ofInt (41)).toInt32 = (41 : Int32) := by decide
theorem bp_42 : (Int8.ofInt (42)).toInt32 = (42 : Int32) := by decide
theorem bp_46 : (Int8.ofInt (46)).toInt32 = (46 : Int32) := by decide
theorem bp_48 : (Int8.ofInt (48)).toInt32 = (48 : Int32) := by decide
theorem bp_51 : (Int8.ofInt (51)).toInt32 = (51 : Int32) := by decide
theorem bp_57 : (Int8.ofInt (57)).toInt32 = (57 : Int32) := by decide
theorem bp_59 : (Int8.ofInt (59)).toInt32 = (59 : Int32) := by decide
theorem bp_6 : (Int8.ofInt (6)).toInt32 = (6 : Int32) := by decide
theorem bp_60 : (Int8.ofInt (60)).toInt32 = (60 : Int32) := by decide
theorem bp_63 : (Int8.ofInt (63)).toInt32 = (63 : Int32) := by decide
theorem bp_7 : (Int8.ofInt (7)).toInt32 = (7 : Int32) := by decide
theorem bp_8 : (Int8.ofInt (8)).toInt32 = (8 : Int32) := by decide
theorem bp_9 : (Int8.ofInt (9)).toInt32 = (9 : Int32) := by decide
theorem bp_m10 : (Int8.ofInt (-10)).toInt32 = (-10 : Int32) := by decide
theorem bp_m2 : (Int8.ofInt (-2)).toInt32 = (-2 : Int32) := by decide
theorem bp_m3 : (Int8.ofInt (-3)).toInt32 = (-3 : Int32) := by decide
theorem bp_m4 : (Int8.ofInt (-4)).toInt32 = (-4 : Int32) := by decide
theorem bp_m9 : (Int8.ofInt (-9)).toInt32 = (-9 : Int32) := by decide
theorem ic_0 : Int32.ofInt (0) = (0 : Int32) := by decide
theorem ic_1 : Int32.ofInt (1) = (1 : Int32) := by decide
theorem ic_2 : Int32.ofInt (2) = (2 : Int32) := by decide
theorem ic_3 : Int32.ofInt (3) = (3 : Int32) := by decide
theorem ic_4 : Int32.ofInt (4) = (4 : Int32) := by decide
theorem ic_5 : Int32.ofInt (5) = (5 : Int32) := by decide
theorem ic_m1 : Int32.ofInt (-1) = (-1 : Int32) := by decide
theorem sp_12345 : (Int16.ofInt (12345)).toInt32 = (12345 : Int32) := by decide
theorem sp_255 : (Int16.ofInt (255)).toInt32 = (255 : Int32) := by decide
theorem sp_256 : (Int16.ofInt (256)).toInt32 = (256 : Int32) := by decide
theorem vd_a {A : Nat → Prop} {ws ws' : va_W} (hD : va_D A ws) (h : ws'.map Prod.fst = ws.map Prod.fst) : va_D A ws' := vd_adr h hD
theorem isz_0 : isz 0 = true := by decide
theorem isz_1 : isz 1 = true := by decide
theorem tn_0 : (0 : Int32).toNatClampNeg = 0 := by decide
theorem tn_1 : (1 : Int32).toNatClampNeg = 1 := by decide
theorem tn_2 : (2 : Int32).toNatClampNeg = 2 := by decide
theorem tn_3 : (3 : Int32).toNatClampNeg = 3 := by decide
theorem sw_out9 {x : Int32} (h0 : ¬ x = 0) (h1 : ¬ x = 1) (h2 : ¬ x = 2) (h3 : ¬ x = 3) (h4 : ¬ x = 4) (h5 : ¬ x = 5) (h6 : ¬ x = 6) (h7 : ¬ x = 7) (h8 : ¬ x = 8) : x.toInt < 0 ∨ (8 : Int) < x.toInt := by
  have g : ∀ k : Int32, ¬ x = k → x.toInt ≠ k.toInt := fun k h q => h (Int32.toInt_inj.mp q)
  have e0 := g 0 h0
  have e1 := g 1 h1
  have e2 := g 2 h2
  have e3 := g 3 h3
  have e4 := g 4 h4
  have e5 := g 5 h5
  have e6 := g 6 h6
  have e7 := g 7 h7
  have e8 := g 8 h8
  rw [show (0 : Int32).toInt = 0 by decide] at e0
  rw [show (1 : Int32).toInt = 1 by decide] at e1
  rw [show (2 : Int32).toInt = 2 by decide] at e2
  rw [show (3 : Int32).toInt = 3 by decide] at e3
  rw [show (4 : Int32).toInt = 4 by decide] at e4
  rw [show (5 : Int32).toInt = 5 by decide] at e5
  rw [show (6 : Int32).toInt = 6 by decide] at e6
  rw [show (7 : Int32).toInt = 7 by decide] at e7
  rw [show (8 : Int32).toInt = 8 by decide] at e8
  omega
theorem sw_look {x : Int32} (h0 : ¬ x = 35) (h1 : ¬ x = 46) (h2 : ¬ x = 108) (h3 : ¬ x = 119) : Op.lookupswitch.offset (#[((35 : Int), (45 : Int)), (46, 43), (108, 47), (119, 49)] : Array (Int × Int)).toList 51 x.toInt = 51 := by
  have g : ∀ k : Int32, ¬ x = k → x.toInt ≠ k.toInt := fun k h q => h (Int32.toInt_inj.mp q)
  have e0 := g 35 h0
  have e1 := g 46 h1
  have e2 := g 108 h2
  have e3 := g 119 h3
  rw [show (35 : Int32).toInt = 35 by decide] at e0
  rw [show (46 : Int32).toInt = 46 by decide] at e1
  rw [show (108 : Int32).toInt = 108 by decide] at e2
  rw [show (119 : Int32).toInt = 119 by decide] at e3
  simp [Op.lookupswitch.offset, e0, e1, e2, e3, Ne.symm e0, Ne.symm e1, Ne.symm e2, Ne.symm e3]
def acp (sp dp n : Int32) (n0 n1 : Nat) : Bool := decide (¬ sp < 0 ∧ ¬ dp < 0 ∧ ¬ n < 0 ∧ sp.toNatClampNeg + n.toNatClampNeg ≤ n0 ∧ dp.toNatClampNeg + n.toNatClampNeg ≤ n1)
def ACF (own : String) (index : Nat) : Prop := Cond.methodLink own index arraycopyName ∈ lw_good ∧ Cond.native arraycopyName ∈ lw_good ∧ Cond.static arraycopyName ∈ lw_good ∧ Cond.initialized "java/lang/System" ∈ lw_good

/-- places of the callee, and of the rest: apart, and all -/
def pl_ok (n : Nat) (isC isR : List Nat) : Bool := va_nd isC && (isR.all (fun k => !isC.contains k)) && ((List.range n).all (fun k => isC.contains k || isR.contains k))
theorem pl_nd {n : Nat} {isC isR : List Nat} (h : pl_ok n isC isR = true) : va_nd isC = true := by
  unfold pl_ok at h
  simp only [Bool.and_eq_true] at h
  exact h.1.1
theorem pl_in {n : Nat} {isC isR : List Nat} (h : pl_ok n isC isR = true) (k : Nat) (hk : k < n) : k ∈ isC ∨ (k ∈ isR ∧ k ∉ isC) := by
  unfold pl_ok at h
  simp only [Bool.and_eq_true] at h
  have h1 := List.all_eq_true.mp h.2 k (List.mem_range.mpr hk)
  by_cases hc : k ∈ isC
  · exact Or.inl hc
  · right
    have hr : k ∈ isR := by
      rcases Bool.or_eq_true_iff.mp h1 with q | q
      · exact absurd (by simpa using q) hc
      · simpa using q
    exact ⟨hr, hc⟩
def pk_ (ws : va_W) : List Nat → List (Option (Nat × va_E))
  | [] => []
  | i :: is => ws[i]? :: pk_ ws is
theorem pk_map (ws : va_W) (is : List Nat) : pk_ ws is = is.map (fun i => ws[i]?) := by
  induction is with
  | nil => rfl
  | cons i is ih => rw [pk_, ih]; rfl
theorem call_P2 {A : Nat → Prop} {D : va_G} {cl : List vw_C} {ws wc w1 ws2 : va_W} {H H1 : Heap} {n : Nat} {isC isR : List Nat} (hP : va_P D cl ws H) (hD : va_D A ws) (hC : isC.map (fun i => ws[i]?) = wc.map some) (hC2 : isC.map (fun i => ws2[i]?) = w1.map some) (hR : pk_ ws2 isR = pk_ ws isR) (hn : ws2.length = n) (ok : pl_ok n isC isR = true)
    (hk : ∀ q : Nat, q < H.size → ¬ va_A wc H.size q → H1[q]? = H[q]?) (hP1 : va_P D cl w1 H1) : va_P D cl ws2 H1 := by
  intro k q hq
  have hl : k < n := by rw [← hn]; exact (List.getElem?_eq_some_iff.mp hq).1
  rcases pl_in ok k hl with h | ⟨h, hc⟩
  · obtain ⟨j, hj⟩ := List.getElem?_of_mem h
    have h1 : (isC.map (fun i => ws2[i]?))[j]? = some (ws2[k]?) := by rw [List.getElem?_map, hj]; rfl
    rw [hC2, List.getElem?_map, hq] at h1
    cases hw : w1[j]? with
    | none => rw [hw] at h1; cases h1
    | some x =>
      rw [hw] at h1
      have e : x = q := Option.some.inj (Option.some.inj h1)
      rw [← e]
      exact hP1 j x hw
  · obtain ⟨j, hj⟩ := List.getElem?_of_mem h
    have h1 : (isR.map (fun i => ws2[i]?))[j]? = some (ws2[k]?) := by rw [List.getElem?_map, hj]; rfl
    rw [← pk_map, hR, pk_map, List.getElem?_map, hj] at h1
    have h2 : ws[k]? = some q := by rw [← hq]; exact Option.some.inj h1
    have hlt := (hP k q h2).lt
    refine (hP k q h2).kept (hk q.1 hlt ?_)
    intro hz
    rcases hz with ⟨k2, x, hz⟩ | hz
    · obtain ⟨i, h3, h4⟩ := places_at hC k2 (q.1, x) hz
      have e := hD.1 k i q (q.1, x) h2 h4 rfl
      subst e
      exact hc (List.mem_of_getElem? h3)
    · omega
section FIN2
variable {p : Program} {l : Launch} {e : Env} {R : Room} {s : State} {m : MethodId} {args : Array Value} {below : List Frame} {meth : Method} {c : Code} {H : Heap} {locs : List Loc} {cells slots : Nat} {Q : State → Prop}
variable {D : va_G} {A : Nat → Prop} {ws wc w1 : va_W} {pc : Nat} {ls : Array Slot} {rest st0 : List Value} {av : Array Value}
theorem fin2_i {r0 : Int32} (ws2 : va_W) (hr : va_Run p l e R s m args below meth c H locs cells slots 0 0 (F0 m pc ls st0) rest (PostI D r0 wc w1 H.size av) (va_A wc H.size)) (hP : va_P D classes ws H) (hD : va_D A ws) (hS : va_S A s.heap H locs) (hA : ∀ q, s.heap.size ≤ q → A q) (isC isR : List Nat) {n : Nat} (hC : isC.map (fun i => ws[i]?) = wc.map some) (hC2 : isC.map (fun i => ws2[i]?) = w1.map some) (hR : pk_ ws2 isR = pk_ ws isR) (hn : ws2.length = n) (ok : pl_ok n isC isR = true)
    (kk : ∀ (H1 : Heap) (locs1 : List Loc), va_P D classes ws2 H1 → va_S A s.heap H1 locs1 → W p l e R s m args below meth c H1 locs1 cells slots Q (F0 m (pc + 3) ls (.int r0 :: rest))) : W p l e R s m args below meth c H locs cells slots Q (F0 m pc ls st0) := by
  have hFc := va_free hD hS hA isC hC
  refine va_calli hr hS (fun q _ h => hFc q h) hFc (fun r u t H1 locs1 ht hvm hw hB hz1 hk1 hS1 => ?_)
  subst hw
  exact kk H1 locs1 (call_P2 hP hD hC hC2 hR hn ok hk1 (by rw [← ht]; exact hB)) hS1
theorem fin2_l {r0 : Int64} (ws2 : va_W) (hr : va_Run p l e R s m args below meth c H locs cells slots 0 0 (F0 m pc ls st0) rest (PostL D r0 wc w1 H.size av) (va_A wc H.size)) (hP : va_P D classes ws H) (hD : va_D A ws) (hS : va_S A s.heap H locs) (hA : ∀ q, s.heap.size ≤ q → A q) (isC isR : List Nat) {n : Nat} (hC : isC.map (fun i => ws[i]?) = wc.map some) (hC2 : isC.map (fun i => ws2[i]?) = w1.map some) (hR : pk_ ws2 isR = pk_ ws isR) (hn : ws2.length = n) (ok : pl_ok n isC isR = true)
    (kk : ∀ (H1 : Heap) (locs1 : List Loc), va_P D classes ws2 H1 → va_S A s.heap H1 locs1 → W p l e R s m args below meth c H1 locs1 cells slots Q (F0 m (pc + 3) ls (.long r0 :: rest))) : W p l e R s m args below meth c H locs cells slots Q (F0 m pc ls st0) := by
  have hFc := va_free hD hS hA isC hC
  refine va_calll hr hS (fun q _ h => hFc q h) hFc (fun r u t H1 locs1 ht hvm hw hB hz1 hk1 hS1 => ?_)
  subst hw
  exact kk H1 locs1 (call_P2 hP hD hC hC2 hR hn ok hk1 (by rw [← ht]; exact hB)) hS1
theorem fin2_v (ws2 : va_W) (hr : va_Run p l e R s m args below meth c H locs cells slots 0 0 (F0 m pc ls st0) rest (PostV D wc w1 H.size av) (va_A wc H.size)) (hP : va_P D classes ws H) (hD : va_D A ws) (hS : va_S A s.heap H locs) (hA : ∀ q, s.heap.size ≤ q → A q) (isC isR : List Nat) {n : Nat} (hC : isC.map (fun i => ws[i]?) = wc.map some) (hC2 : isC.map (fun i => ws2[i]?) = w1.map some) (hR : pk_ ws2 isR = pk_ ws isR) (hn : ws2.length = n) (ok : pl_ok n isC isR = true)
    (kk : ∀ (H1 : Heap) (locs1 : List Loc), va_P D classes ws2 H1 → va_S A s.heap H1 locs1 → W p l e R s m args below meth c H1 locs1 cells slots Q (F0 m (pc + 3) ls (rest))) : W p l e R s m args below meth c H locs cells slots Q (F0 m pc ls st0) := by
  have hFc := va_free hD hS hA isC hC
  refine va_callv hr hS (fun q _ h => hFc q h) hFc (fun u t H1 locs1 ht hvm hw hB hz1 hk1 hS1 => ?_)
  exact kk H1 locs1 (call_P2 hP hD hC hC2 hR hn ok hk1 (by rw [← ht]; exact hB)) hS1
theorem fin2_r {a0 : Nat} (ws2 : va_W) (hr : va_Run p l e R s m args below meth c H locs cells slots 0 0 (F0 m pc ls st0) rest (PostR D a0 wc w1 H.size av) (va_A wc H.size)) (hP : va_P D classes ws H) (hD : va_D A ws) (hS : va_S A s.heap H locs) (hA : ∀ q, s.heap.size ≤ q → A q) (isC isR : List Nat) {n : Nat} (hC : isC.map (fun i => ws[i]?) = wc.map some) (hC2 : isC.map (fun i => ws2[i]?) = w1.map some) (hR : pk_ ws2 isR = pk_ ws isR) (hn : ws2.length = n) (ok : pl_ok n isC isR = true)
    (kk : ∀ (H1 : Heap) (locs1 : List Loc), va_P D classes ws2 H1 → va_S A s.heap H1 locs1 → W p l e R s m args below meth c H1 locs1 cells slots Q (F0 m (pc + 3) ls (.ref a0 :: rest))) : W p l e R s m args below meth c H locs cells slots Q (F0 m pc ls st0) := by
  have hFc := va_free hD hS hA isC hC
  refine va_callr hr hS (fun q _ h => hFc q h) hFc (fun u ra t H1 locs1 ht hvm hw hB hz1 hk1 hS1 => ?_)
  obtain ⟨rfl, hB⟩ := hB
  exact kk H1 locs1 (call_P2 hP hD hC hC2 hR hn ok hk1 (by rw [← ht]; exact hB)) hS1
end FIN2
section GR2
variable {p : Program} {l : Launch} {e : Env} {R : Room} {s : State} {m : MethodId} {args : Array Value} {below : List Frame} {meth : Method} {c : Code} {H : Heap} {locs : List Loc} {cells slots : Nat} {Q : State → Prop}
variable {own : String} {cc : ByteArray} {nL : Nat} {D : va_G} {cA : Nat → ClassId} {A : Nat → Prop} {ws : va_W} {pc : Nat} {ls : Array Slot} {rest : List Value}
theorem g_aald {a n t0 b : Nat} {k : ClassId} {Cn : String} {f : Nat → Option Nat} {i : Int32} (C : Cx own cc nL D cA p s m args c) (hP : va_P D classes ws H) (q0 : Nat) (he : ws[q0]? = some (a, .inl (k, n, .inr (.inr (.inr (.inr f)))))) (ht : (ar_tys cA)[t0]? = some (k, .object Cn)) (hin : inb i n = true) (hv : f i.toNatClampNeg = some b) (hdg : decode cc pc = .ok (.aaload, 1))
    (kk : W p l e R s m args below meth c H locs cells slots Q (F0 m (pc + 1) ls (.ref b :: rest))) : W p l e R s m args below meth c H locs cells slots Q (F0 m pc ls (.int i :: .ref a :: rest)) :=
  va_aldq C.1 C.2.1 C.2.2.2.2.2.1 hP q0 t0 he ht (inb_vp hin) hdg (by rw [hv]; exact kk)
theorem g_acopy {index a a0 n0 n1 : Nat} {f g : Nat → Int32} {sp dp n : Int32} (C : Cx own cc nL D cA p s m args c) (F : ACF own index) (hsz : ls.size = nL) (hP : va_P D classes ws H) (hD : va_D A ws) (hS : va_S A s.heap H locs) (q0 q1 : Nat) (h0 : ws[q0]? = some (a0, .inl (cA 0, n0, .inl f))) (h1 : ws[q1]? = some (a, .inl (cA 0, n1, .inl g))) (hg : acp sp dp n n0 n1 = true)
    (hR : 1 ≤ R.frames ∧ (rest.map fun v => v.category).sum + (nativeFrameWords "java/lang/System" "arraycopy" 5 + 11) ≤ R.locals) (hdg : decode cc pc = .ok (.invokestatic index, 3))
    (kk : ∀ (H1 : Heap) (locs1 : List Loc), va_P D classes (ws.set q1 (a, .inl (cA 0, n1, .inl (va_cpy f g sp.toNatClampNeg dp.toNatClampNeg n.toNatClampNeg)))) H1 → va_D A (ws.set q1 (a, .inl (cA 0, n1, .inl (va_cpy f g sp.toNatClampNeg dp.toNatClampNeg n.toNatClampNeg)))) → va_S A s.heap H1 locs1 → W p l e R s m args below meth c H1 locs1 cells slots Q (F0 m (pc + 3) ls rest)) : W p l e R s m args below meth c H locs cells slots Q (F0 m pc ls (.int n :: .int dp :: .ref a :: .int sp :: .ref a0 :: rest)) := by
  obtain ⟨hx, hb, hml, hown, hts, hK, hN⟩ := C
  obtain ⟨g1, g2, g3, g4, g5⟩ := of_decide_eq_true hg
  exact va_copyi hx hb (hml.trans hsz.symm) hown (hts _ F.1) (hts _ F.2.1) (hts _ F.2.2.1) (hts _ F.2.2.2) hK hP hD hS q0 q1 0 0 h0 h1 rfl rfl rfl g1 g2 g3 g4 g5 (fun _ _ => rfl) hR.1 hR.2 hdg kk
end GR2
theorem mm_X7_114 : Cond.methodLink RX7 114 Lib.Math.min.name ∈ lw_good ∧ Cond.static Lib.Math.min.name ∈ lw_good ∧ Cond.initialized "java/lang/Math" ∈ lw_good ∧ Cond.code Lib.Math.min.name Lib.Math.min.code 2 (some .int) ∈ lw_good := ⟨lg_in mw_119 rfl, lg_in mw_120 rfl, lg_in mw_121 rfl, lg_in mw_122 rfl⟩
theorem mm_X8_232 : Cond.methodLink RX8 232 Lib.Math.max.name ∈ lw_good ∧ Cond.static Lib.Math.max.name ∈ lw_good ∧ Cond.initialized "java/lang/Math" ∈ lw_good ∧ Cond.code Lib.Math.max.name Lib.Math.max.code 2 (some .int) ∈ lw_good := ⟨lg_in mw_284 rfl, lg_in mw_285 rfl, lg_in mw_121 rfl, lg_in mw_286 rfl⟩
theorem acl_X8_328 : ACF RX8 328 := ⟨lg_in mw_349 rfl, lg_in mw_350 rfl, lg_in mw_351 rfl, lg_in mw_352 rfl⟩
theorem mm_X8_334 : Cond.methodLink RX8 334 Lib.Math.min.name ∈ lw_good ∧ Cond.static Lib.Math.min.name ∈ lw_good ∧ Cond.initialized "java/lang/Math" ∈ lw_good ∧ Cond.code Lib.Math.min.name Lib.Math.min.code 2 (some .int) ∈ lw_good := ⟨lg_in mw_353 rfl, lg_in mw_120 rfl, lg_in mw_121 rfl, lg_in mw_122 rfl⟩
theorem pv_0 : pl_ok 2 [] [0, 1] = true := by decide +kernel
theorem pv_1 : pl_ok 5 [3, 4] [0, 1, 2] = true := by decide +kernel
theorem pv_2 : pl_ok 6 [] [0, 1, 2, 3, 4, 5] = true := by decide +kernel
theorem pv_3 : pl_ok 6 [0] [1, 2, 3, 4, 5] = true := by decide +kernel
theorem pv_4 : pl_ok 5 [0, 1, 3, 4] [2] = true := by decide +kernel
theorem pv_5 : pl_ok 8 [0] [1, 2, 3, 4, 5, 6, 7] = true := by decide +kernel
theorem pv_6 : pl_ok 8 [0, 1, 2, 3, 6, 7] [4, 5] = true := by decide +kernel
theorem pv_7 : pl_ok 8 [0, 1, 3, 4, 5] [2, 6, 7] = true := by decide +kernel
theorem pv_8 : pl_ok 2 [1] [0] = true := by decide +kernel
theorem pv_9 : pl_ok 13 [0, 6, 12] [1, 2, 3, 4, 5, 7, 8, 9, 10, 11] = true := by decide +kernel
theorem pv_10 : pl_ok 13 [0, 4, 5, 6, 7, 8] [1, 2, 3, 9, 10, 11, 12] = true := by decide +kernel
theorem pv_11 : pl_ok 13 [0, 1, 6] [2, 3, 4, 5, 7, 8, 9, 10, 11, 12] = true := by decide +kernel
theorem pv_12 : pl_ok 19 [0, 1, 6, 7, 8, 9, 10, 11, 12, 13, 14, 17] [2, 3, 4, 5, 15, 16, 18] = true := by decide +kernel
theorem pv_13 : pl_ok 19 [0, 1, 2, 3, 4, 5, 12, 13, 14, 15, 16, 17, 18] [6, 7, 8, 9, 10, 11] = true := by decide +kernel
theorem pv_14 : pl_ok 13 [0, 1, 2, 3, 4, 5, 6, 7, 8, 9, 10, 11, 12] [] = true := by decide +kernel
theorem pv_15 : pl_ok 13 [0, 2, 3, 6, 12] [1, 4, 5, 7, 8, 9, 10, 11] = true := by decide +kernel
theorem pv_16 : pl_ok 5 [0, 1, 2, 3, 4] [] = true := by decide +kernel
theorem pv_17 : pl_ok 15 [12, 13, 14, 4, 5] [0, 1, 2, 3, 6, 7, 8, 9, 10, 11] = true := by decide +kernel
theorem pv_18 : pl_ok 15 [6, 7, 8, 9, 10, 11, 2, 3] [0, 1, 4, 5, 12, 13, 14] = true := by decide +kernel
theorem pv_19 : pl_ok 15 [] [0, 1, 2, 3, 4, 5, 6, 7, 8, 9, 10, 11, 12, 13, 14] = true := by decide +kernel
theorem pv_20 : pl_ok 15 [2, 3] [0, 1, 4, 5, 6, 7, 8, 9, 10, 11, 12, 13, 14] = true := by decide +kernel
theorem pv_21 : pl_ok 15 [0, 1, 2, 3, 4, 5, 6, 7, 8, 9, 10, 11, 12, 13, 14] [] = true := by decide +kernel
theorem pv_22 : pl_ok 15 [4, 5] [0, 1, 2, 3, 6, 7, 8, 9, 10, 11, 12, 13, 14] = true := by decide +kernel
theorem pv_23 : pl_ok 3 [] [0, 1, 2] = true := by decide +kernel
theorem pv_24 : pl_ok 4 [0, 1] [2, 3] = true := by decide +kernel
theorem pv_25 : pl_ok 4 [] [0, 1, 2, 3] = true := by decide +kernel
theorem pv_26 : pl_ok 0 [] [] = true := by decide +kernel
theorem pv_27 : pl_ok 5 [] [0, 1, 2, 3, 4] = true := by decide +kernel
theorem pv_28 : pl_ok 5 [1, 2, 3, 4] [0] = true := by decide +kernel
theorem pv_29 : pl_ok 14 [] [0, 1, 2, 3, 4, 5, 6, 7, 8, 9, 10, 11, 12, 13] = true := by decide +kernel
theorem pv_30 : pl_ok 14 [0, 1, 2, 3, 4] [5, 6, 7, 8, 9, 10, 11, 12, 13] = true := by decide +kernel
theorem pv_31 : pl_ok 14 [0] [1, 2, 3, 4, 5, 6, 7, 8, 9, 10, 11, 12, 13] = true := by decide +kernel
theorem pv_32 : pl_ok 20 [1, 2, 3, 4, 5, 6, 7, 8, 9, 10, 11, 12, 13, 14, 15, 16, 17, 18, 19] [0] = true := by decide +kernel
theorem pv_33 : pl_ok 20 [] [0, 1, 2, 3, 4, 5, 6, 7, 8, 9, 10, 11, 12, 13, 14, 15, 16, 17, 18, 19] = true := by decide +kernel
theorem pv_34 : pl_ok 20 [0, 1, 2, 3, 4, 5, 6, 7, 8, 9, 10, 11, 12, 13, 14, 15, 16, 17, 18, 19] [] = true := by decide +kernel
theorem pv_35 : pl_ok 20 [13, 16, 17] [0, 1, 2, 3, 4, 5, 6, 7, 8, 9, 10, 11, 12, 14, 15, 18, 19] = true := by decide +kernel
theorem pv_36 : pl_ok 20 [1, 3, 4, 13, 19] [0, 2, 5, 6, 7, 8, 9, 10, 11, 12, 14, 15, 16, 17, 18] = true := by decide +kernel
theorem pv_37 : pl_ok 22 [] [0, 1, 2, 3, 4, 5, 6, 7, 8, 9, 10, 11, 12, 13, 14, 15, 16, 17, 18, 19, 20, 21] = true := by decide +kernel
theorem pv_38 : pl_ok 22 [0, 7] [1, 2, 3, 4, 5, 6, 8, 9, 10, 11, 12, 13, 14, 15, 16, 17, 18, 19, 20, 21] = true := by decide +kernel
theorem pv_39 : pl_ok 22 [0, 1, 2, 3, 4, 5, 6, 9, 10, 11, 12, 13, 14, 15, 16, 17, 18, 19, 20, 21] [7, 8] = true := by decide +kernel
theorem pv_40 : pl_ok 22 [1, 3, 4, 15, 21] [0, 2, 5, 6, 7, 8, 9, 10, 11, 12, 13, 14, 16, 17, 18, 19, 20] = true := by decide +kernel
theorem pv_41 : pl_ok 23 [] [0, 1, 2, 3, 4, 5, 6, 7, 8, 9, 10, 11, 12, 13, 14, 15, 16, 17, 18, 19, 20, 21, 22] = true := by decide +kernel
theorem pv_42 : pl_ok 23 [0, 1, 2, 3, 4, 5, 6, 10, 11, 12, 13, 14, 15, 16, 17, 18, 19, 20, 21, 22] [7, 8, 9] = true := by decide +kernel
theorem pv_43 : pl_ok 23 [1, 3, 4, 16, 22] [0, 2, 5, 6, 7, 8, 9, 10, 11, 12, 13, 14, 15, 17, 18, 19, 20, 21] = true := by decide +kernel
theorem pv_44 : pl_ok 2 [0, 1] [] = true := by decide +kernel
theorem pv_45 : pl_ok 15 [1, 2, 3, 4, 5, 6, 7, 8, 9, 10, 11, 12, 13] [0, 14] = true := by decide +kernel
theorem pv_46 : pl_ok 24 [15, 16] [0, 1, 2, 3, 4, 5, 6, 7, 8, 9, 10, 11, 12, 13, 14, 17, 18, 19, 20, 21, 22, 23] = true := by decide +kernel
theorem pv_47 : pl_ok 24 [1, 2, 3, 4, 5, 6, 9, 10, 11, 12, 13, 14, 16, 17, 18, 19, 20, 21, 22] [0, 7, 8, 15, 23] = true := by decide +kernel
theorem pv_48 : pl_ok 24 [1, 3, 4, 16, 22] [0, 2, 5, 6, 7, 8, 9, 10, 11, 12, 13, 14, 15, 17, 18, 19, 20, 21, 23] = true := by decide +kernel
theorem pv_49 : pl_ok 24 [0, 1, 2, 3, 4, 5, 6, 16, 17, 18, 19, 20, 21, 22, 23] [7, 8, 9, 10, 11, 12, 13, 14, 15] = true := by decide +kernel
theorem pv_50 : pl_ok 24 [0, 7] [1, 2, 3, 4, 5, 6, 8, 9, 10, 11, 12, 13, 14, 15, 16, 17, 18, 19, 20, 21, 22, 23] = true := by decide +kernel
theorem pv_51 : pl_ok 24 [0, 1, 2, 3, 4, 5, 6, 7, 8, 9, 10, 11, 12, 13, 14, 15, 16, 17, 18, 19, 20, 21, 22, 23] [] = true := by decide +kernel
theorem pv_52 : pl_ok 24 [23] [0, 1, 2, 3, 4, 5, 6, 7, 8, 9, 10, 11, 12, 13, 14, 15, 16, 17, 18, 19, 20, 21, 22] = true := by decide +kernel
theorem pv_53 : pl_ok 23 [0, 7] [1, 2, 3, 4, 5, 6, 8, 9, 10, 11, 12, 13, 14, 15, 16, 17, 18, 19, 20, 21, 22] = true := by decide +kernel
theorem pv_54 : pl_ok 23 [15, 16] [0, 1, 2, 3, 4, 5, 6, 7, 8, 9, 10, 11, 12, 13, 14, 17, 18, 19, 20, 21, 22] = true := by decide +kernel
theorem pv_55 : pl_ok 23 [1, 2, 3, 4, 5, 6, 9, 10, 11, 12, 13, 14, 16, 17, 18, 19, 20, 21, 22] [0, 7, 8, 15] = true := by decide +kernel
theorem pv_56 : pl_ok 22 [7, 8] [0, 1, 2, 3, 4, 5, 6, 9, 10, 11, 12, 13, 14, 15, 16, 17, 18, 19, 20, 21] = true := by decide +kernel
theorem pv_57 : pl_ok 12 [1, 2, 3, 10, 11] [0, 4, 5, 6, 7, 8, 9] = true := by decide +kernel
theorem pv_58 : pl_ok 27 [19, 20] [0, 1, 2, 3, 4, 5, 6, 7, 8, 9, 10, 11, 12, 13, 14, 15, 16, 17, 18, 21, 22, 23, 24, 25, 26] = true := by decide +kernel
theorem pv_59 : pl_ok 27 [1, 2, 3, 4, 5, 6, 9, 10, 11, 12, 13, 14, 20, 21, 22, 23, 24, 25, 26] [0, 7, 8, 15, 16, 17, 18, 19] = true := by decide +kernel
theorem pv_60 : pl_ok 27 [0, 1, 3, 4, 7, 8, 15, 16, 17, 18, 20, 26] [2, 5, 6, 9, 10, 11, 12, 13, 14, 19, 21, 22, 23, 24, 25] = true := by decide +kernel
theorem pv_61 : pl_ok 28 [27] [0, 1, 2, 3, 4, 5, 6, 7, 8, 9, 10, 11, 12, 13, 14, 15, 16, 17, 18, 19, 20, 21, 22, 23, 24, 25, 26] = true := by decide +kernel
theorem pv_62 : pl_ok 28 [19, 20] [0, 1, 2, 3, 4, 5, 6, 7, 8, 9, 10, 11, 12, 13, 14, 15, 16, 17, 18, 21, 22, 23, 24, 25, 26, 27] = true := by decide +kernel
theorem pv_63 : pl_ok 28 [1, 2, 3, 4, 5, 6, 9, 10, 11, 12, 13, 14, 20, 21, 22, 23, 24, 25, 26] [0, 7, 8, 15, 16, 17, 18, 19, 27] = true := by decide +kernel
theorem pv_64 : pl_ok 28 [0, 1, 3, 4, 7, 8, 15, 16, 17, 18, 20, 26] [2, 5, 6, 9, 10, 11, 12, 13, 14, 19, 21, 22, 23, 24, 25, 27] = true := by decide +kernel
theorem pv_65 : pl_ok 28 [1, 3, 4, 20, 26] [0, 2, 5, 6, 7, 8, 9, 10, 11, 12, 13, 14, 15, 16, 17, 18, 19, 21, 22, 23, 24, 25, 27] = true := by decide +kernel
theorem pv_66 : pl_ok 28 [] [0, 1, 2, 3, 4, 5, 6, 7, 8, 9, 10, 11, 12, 13, 14, 15, 16, 17, 18, 19, 20, 21, 22, 23, 24, 25, 26, 27] = true := by decide +kernel
theorem pv_67 : pl_ok 28 [0, 1, 2, 3, 4, 5, 6, 7, 8, 9, 10, 11, 12, 13, 14, 15, 16, 17, 18, 19, 20, 21, 22, 23, 24, 25, 26, 27] [] = true := by decide +kernel
theorem pv_68 : pl_ok 24 [1, 2, 3, 4, 5, 6, 9, 10, 11, 12, 13, 14, 15, 16, 17, 18, 19, 20, 21] [0, 7, 8, 22, 23] = true := by decide +kernel
theorem pv_69 : pl_ok 24 [1, 3, 4, 15, 21] [0, 2, 5, 6, 7, 8, 9, 10, 11, 12, 13, 14, 16, 17, 18, 19, 20, 22, 23] = true := by decide +kernel
theorem pv_70 : pl_ok 25 [0, 1, 9, 10, 11, 15] [2, 3, 4, 5, 6, 7, 8, 12, 13, 14, 16, 17, 18, 19, 20, 21, 22, 23, 24] = true := by decide +kernel
theorem pv_71 : pl_ok 25 [] [0, 1, 2, 3, 4, 5, 6, 7, 8, 9, 10, 11, 12, 13, 14, 15, 16, 17, 18, 19, 20, 21, 22, 23, 24] = true := by decide +kernel
theorem pv_72 : pl_ok 25 [24] [0, 1, 2, 3, 4, 5, 6, 7, 8, 9, 10, 11, 12, 13, 14, 15, 16, 17, 18, 19, 20, 21, 22, 23] = true := by decide +kernel
theorem pv_73 : pl_ok 25 [15, 16] [0, 1, 2, 3, 4, 5, 6, 7, 8, 9, 10, 11, 12, 13, 14, 17, 18, 19, 20, 21, 22, 23, 24] = true := by decide +kernel
theorem pv_74 : pl_ok 25 [0, 1, 2, 3, 4, 5, 6, 7, 8, 9, 10, 11, 12, 13, 14, 16, 17, 18, 19, 20, 21, 22, 23, 24] [15] = true := by decide +kernel
theorem pv_75 : pl_ok 25 [0, 7] [1, 2, 3, 4, 5, 6, 8, 9, 10, 11, 12, 13, 14, 15, 16, 17, 18, 19, 20, 21, 22, 23, 24] = true := by decide +kernel
theorem pv_76 : pl_ok 25 [0, 1, 2, 3, 4, 5, 6, 7, 8, 9, 10, 11, 12, 13, 14, 15, 16, 17, 18, 19, 20, 21, 22, 23, 24] [] = true := by decide +kernel
theorem pv_77 : pl_ok 25 [23, 24] [0, 1, 2, 3, 4, 5, 6, 7, 8, 9, 10, 11, 12, 13, 14, 15, 16, 17, 18, 19, 20, 21, 22] = true := by decide +kernel
theorem pv_78 : pl_ok 6 [1, 2, 5] [0, 3, 4] = true := by decide +kernel
theorem pv_79 : pl_ok 10 [] [0, 1, 2, 3, 4, 5, 6, 7, 8, 9] = true := by decide +kernel
theorem pv_80 : pl_ok 10 [2, 3] [0, 1, 4, 5, 6, 7, 8, 9] = true := by decide +kernel
theorem pv_81 : pl_ok 10 [4, 5] [0, 1, 2, 3, 6, 7, 8, 9] = true := by decide +kernel
theorem pv_82 : pl_ok 10 [6, 7] [0, 1, 2, 3, 4, 5, 8, 9] = true := by decide +kernel
theorem pv_83 : pl_ok 10 [8, 9] [0, 1, 2, 3, 4, 5, 6, 7] = true := by decide +kernel
theorem pv_84 : pl_ok 10 [0] [1, 2, 3, 4, 5, 6, 7, 8, 9] = true := by decide +kernel
theorem pv_85 : pl_ok 10 [2] [0, 1, 3, 4, 5, 6, 7, 8, 9] = true := by decide +kernel
theorem pv_86 : pl_ok 10 [4] [0, 1, 2, 3, 5, 6, 7, 8, 9] = true := by decide +kernel
theorem pv_87 : pl_ok 10 [6] [0, 1, 2, 3, 4, 5, 7, 8, 9] = true := by decide +kernel
theorem pv_88 : pl_ok 10 [8] [0, 1, 2, 3, 4, 5, 6, 7, 9] = true := by decide +kernel
theorem pv_89 : pl_ok 29 [] [0, 1, 2, 3, 4, 5, 6, 7, 8, 9, 10, 11, 12, 13, 14, 15, 16, 17, 18, 19, 20, 21, 22, 23, 24, 25, 26, 27, 28] = true := by decide +kernel
theorem pv_90 : pl_ok 29 [0, 1, 2, 3, 4, 5, 6, 7, 8, 9, 10, 11, 12, 13, 14, 15, 16, 17, 18, 19] [20, 21, 22, 23, 24, 25, 26, 27, 28] = true := by decide +kernel
theorem pv_91 : pl_ok 29 [13, 16, 17] [0, 1, 2, 3, 4, 5, 6, 7, 8, 9, 10, 11, 12, 14, 15, 18, 19, 20, 21, 22, 23, 24, 25, 26, 27, 28] = true := by decide +kernel
theorem pv_92 : pl_ok 29 [21, 22] [0, 1, 2, 3, 4, 5, 6, 7, 8, 9, 10, 11, 12, 13, 14, 15, 16, 17, 18, 19, 20, 23, 24, 25, 26, 27, 28] = true := by decide +kernel
theorem pv_93 : pl_ok 29 [0] [1, 2, 3, 4, 5, 6, 7, 8, 9, 10, 11, 12, 13, 14, 15, 16, 17, 18, 19, 20, 21, 22, 23, 24, 25, 26, 27, 28] = true := by decide +kernel
theorem pv_94 : pl_ok 29 [23, 24] [0, 1, 2, 3, 4, 5, 6, 7, 8, 9, 10, 11, 12, 13, 14, 15, 16, 17, 18, 19, 20, 21, 22, 25, 26, 27, 28] = true := by decide +kernel
theorem pv_95 : pl_ok 29 [25, 26] [0, 1, 2, 3, 4, 5, 6, 7, 8, 9, 10, 11, 12, 13, 14, 15, 16, 17, 18, 19, 20, 21, 22, 23, 24, 27, 28] = true := by decide +kernel
theorem pv_96 : pl_ok 29 [27, 28] [0, 1, 2, 3, 4, 5, 6, 7, 8, 9, 10, 11, 12, 13, 14, 15, 16, 17, 18, 19, 20, 21, 22, 23, 24, 25, 26] = true := by decide +kernel
theorem pv_97 : pl_ok 33 [0, 7, 8, 9] [1, 2, 3, 4, 5, 6, 10, 11, 12, 13, 14, 15, 16, 17, 18, 19, 20, 21, 22, 23, 24, 25, 26, 27, 28, 29, 30, 31, 32] = true := by decide +kernel
theorem pv_98 : pl_ok 33 [] [0, 1, 2, 3, 4, 5, 6, 7, 8, 9, 10, 11, 12, 13, 14, 15, 16, 17, 18, 19, 20, 21, 22, 23, 24, 25, 26, 27, 28, 29, 30, 31, 32] = true := by decide +kernel
theorem pv_99 : pl_ok 33 [0, 1, 2, 3, 4, 5, 6, 7, 8, 10, 11, 12, 13, 14, 15, 16, 17, 18, 19, 20, 21, 22] [9, 23, 24, 25, 26, 27, 28, 29, 30, 31, 32] = true := by decide +kernel
theorem pv_100 : pl_ok 33 [0, 1, 2, 3, 4, 5, 6, 7, 8, 10, 11, 12, 13, 14, 15, 16, 23, 24, 25, 26, 27, 28, 29, 30] [9, 17, 18, 19, 20, 21, 22, 31, 32] = true := by decide +kernel
theorem pv_101 : pl_ok 33 [30] [0, 1, 2, 3, 4, 5, 6, 7, 8, 9, 10, 11, 12, 13, 14, 15, 16, 17, 18, 19, 20, 21, 22, 23, 24, 25, 26, 27, 28, 29, 31, 32] = true := by decide +kernel
theorem pv_102 : pl_ok 33 [0, 1, 2, 3, 4, 5, 6, 7, 8, 10, 11, 12, 13, 14, 15, 16, 23, 24, 25, 26, 27, 28, 29] [9, 17, 18, 19, 20, 21, 22, 30, 31, 32] = true := by decide +kernel
theorem pv_103 : pl_ok 33 [31, 32] [0, 1, 2, 3, 4, 5, 6, 7, 8, 9, 10, 11, 12, 13, 14, 15, 16, 17, 18, 19, 20, 21, 22, 23, 24, 25, 26, 27, 28, 29, 30] = true := by decide +kernel
theorem pv_104 : pl_ok 35 [0, 1, 2, 3, 4, 5, 6, 10, 11, 12, 13, 14, 15, 20, 21, 22, 23, 24, 25, 26] [7, 8, 9, 16, 17, 18, 19, 27, 28, 29, 30, 31, 32, 33, 34] = true := by decide +kernel
theorem pv_105 : pl_ok 35 [] [0, 1, 2, 3, 4, 5, 6, 7, 8, 9, 10, 11, 12, 13, 14, 15, 16, 17, 18, 19, 20, 21, 22, 23, 24, 25, 26, 27, 28, 29, 30, 31, 32, 33, 34] = true := by decide +kernel
theorem pv_106 : pl_ok 35 [0, 1, 2, 3, 4, 5, 6, 7, 8, 10, 11, 12, 13, 14, 15, 16, 17, 18, 19, 20, 27, 28, 29, 30, 31, 32, 33, 34] [9, 21, 22, 23, 24, 25, 26] = true := by decide +kernel
theorem pv_107 : pl_ok 35 [0, 1, 2, 3, 4, 5, 6, 7, 8, 9, 10, 11, 12, 13, 14, 15, 20, 21, 22, 23, 24, 25, 26] [16, 17, 18, 19, 27, 28, 29, 30, 31, 32, 33, 34] = true := by decide +kernel
theorem pv_108 : pl_ok 41 [0, 1, 2, 3, 4, 10, 13, 16, 19] [5, 6, 7, 8, 9, 11, 12, 14, 15, 17, 18, 20, 21, 22, 23, 24, 25, 26, 27, 28, 29, 30, 31, 32, 33, 34, 35, 36, 37, 38, 39, 40] = true := by decide +kernel
theorem pv_109 : pl_ok 41 [] [0, 1, 2, 3, 4, 5, 6, 7, 8, 9, 10, 11, 12, 13, 14, 15, 16, 17, 18, 19, 20, 21, 22, 23, 24, 25, 26, 27, 28, 29, 30, 31, 32, 33, 34, 35, 36, 37, 38, 39, 40] = true := by decide +kernel
theorem pv_110 : pl_ok 41 [0, 4, 10] [1, 2, 3, 5, 6, 7, 8, 9, 11, 12, 13, 14, 15, 16, 17, 18, 19, 20, 21, 22, 23, 24, 25, 26, 27, 28, 29, 30, 31, 32, 33, 34, 35, 36, 37, 38, 39, 40] = true := by decide +kernel
theorem pv_111 : pl_ok 41 [0, 4, 5] [1, 2, 3, 6, 7, 8, 9, 10, 11, 12, 13, 14, 15, 16, 17, 18, 19, 20, 21, 22, 23, 24, 25, 26, 27, 28, 29, 30, 31, 32, 33, 34, 35, 36, 37, 38, 39, 40] = true := by decide +kernel
theorem pv_112 : pl_ok 41 [0, 4, 5, 6, 7, 8, 9, 13, 14, 15, 16, 17, 18, 23, 24, 25, 26, 27, 28, 29] [1, 2, 3, 10, 11, 12, 19, 20, 21, 22, 30, 31, 32, 33, 34, 35, 36, 37, 38, 39, 40] = true := by decide +kernel
theorem pv_113 : pl_ok 41 [0, 4, 5, 6, 7, 8, 9, 10, 11, 13, 14, 15, 16, 17, 18, 23, 30, 31, 32, 33, 34, 35, 36, 38, 39] [1, 2, 3, 12, 19, 20, 21, 22, 24, 25, 26, 27, 28, 29, 37, 40] = true := by decide +kernel
theorem pv_114 : pl_ok 41 [0, 4, 5, 6, 7, 8, 9, 10, 11, 12, 13, 14, 15, 16, 17, 18, 23, 24, 25, 26, 27, 28, 29, 30, 31, 32, 33, 34, 35, 36, 37, 38, 39] [1, 2, 3, 19, 20, 21, 22, 40] = true := by decide +kernel
theorem pv_115 : pl_ok 41 [0, 4, 5, 6, 7, 8, 9, 10, 11, 12, 13, 14, 15, 16, 17, 18, 19, 20, 21, 22, 23, 24, 25, 26, 27, 28, 29, 30, 31, 32, 33, 34, 35, 36, 40] [1, 2, 3, 37, 38, 39] = true := by decide +kernel
theorem pv_116 : pl_ok 41 [0, 4, 5, 6, 7, 8, 9, 10, 11, 13, 14, 15, 16, 17, 18, 23, 24, 25, 26, 27, 28, 29] [1, 2, 3, 12, 19, 20, 21, 22, 30, 31, 32, 33, 34, 35, 36, 37, 38, 39, 40] = true := by decide +kernel
theorem pv_117 : pl_ok 41 [0, 4, 5, 6, 7, 8, 9, 10, 11, 13, 14, 15, 16, 17, 18, 19, 20, 21, 22, 23, 30, 31, 32, 33, 34, 35, 36] [1, 2, 3, 12, 24, 25, 26, 27, 28, 29, 37, 38, 39, 40] = true := by decide +kernel
theorem pv_118 : pl_ok 41 [0, 4, 5, 8, 9, 23] [1, 2, 3, 6, 7, 10, 11, 12, 13, 14, 15, 16, 17, 18, 19, 20, 21, 22, 24, 25, 26, 27, 28, 29, 30, 31, 32, 33, 34, 35, 36, 37, 38, 39, 40] = true := by decide +kernel
theorem pv_119 : pl_ok 4 [0] [1, 2, 3] = true := by decide +kernel
theorem pv_120 : pl_ok 3 [0] [1, 2] = true := by decide +kernel
theorem pv_121 : pl_ok 4 [0, 1, 2] [3] = true := by decide +kernel
theorem pv_122 : pl_ok 5 [0] [1, 2, 3, 4] = true := by decide +kernel
theorem pv_123 : pl_ok 5 [0, 1, 2, 4] [3] = true := by decide +kernel
theorem pv_124 : pl_ok 5 [0, 1, 2, 3] [4] = true := by decide +kernel
theorem pv_125 : pl_ok 1 [] [0] = true := by decide +kernel
theorem pv_126 : pl_ok 4 [0, 1, 2, 3] [] = true := by decide +kernel
theorem pv_127 : pl_ok 5 [0, 4] [1, 2, 3] = true := by decide +kernel
theorem pv_128 : pl_ok 6 [0, 4] [1, 2, 3, 5] = true := by decide +kernel
theorem pv_129 : pl_ok 6 [0, 1] [2, 3, 4, 5] = true := by decide +kernel
theorem pv_130 : pl_ok 6 [0, 1, 2, 3, 4, 5] [] = true := by decide +kernel
theorem pv_131 : pl_ok 7 [0] [1, 2, 3, 4, 5, 6] = true := by decide +kernel
theorem pv_132 : pl_ok 7 [0, 1, 3, 4, 5, 6] [2] = true := by decide +kernel
theorem pv_133 : pl_ok 8 [0, 1, 2, 3, 4, 5, 6] [7] = true := by decide +kernel
theorem pv_134 : pl_ok 8 [0, 5, 6, 7] [1, 2, 3, 4] = true := by decide +kernel
theorem pv_135 : pl_ok 11 [0, 1, 2, 3] [4, 5, 6, 7, 8, 9, 10] = true := by decide +kernel
theorem pv_136 : pl_ok 11 [0, 1, 2, 4] [3, 5, 6, 7, 8, 9, 10] = true := by decide +kernel
theorem pv_137 : pl_ok 11 [0, 3, 5, 6, 7, 8, 9, 10] [1, 2, 4] = true := by decide +kernel
theorem pv_138 : pl_ok 11 [0, 1, 2, 3, 4, 5, 6, 7, 8, 9, 10] [] = true := by decide +kernel
theorem pv_139 : pl_ok 11 [] [0, 1, 2, 3, 4, 5, 6, 7, 8, 9, 10] = true := by decide +kernel
theorem pv_140 : pl_ok 11 [0, 8, 9] [1, 2, 3, 4, 5, 6, 7, 10] = true := by decide +kernel
theorem pv_141 : pl_ok 11 [0, 9] [1, 2, 3, 4, 5, 6, 7, 8, 10] = true := by decide +kernel
theorem pv_142 : pl_ok 11 [0] [1, 2, 3, 4, 5, 6, 7, 8, 9, 10] = true := by decide +kernel
theorem pv_143 : pl_ok 11 [0, 10] [1, 2, 3, 4, 5, 6, 7, 8, 9] = true := by decide +kernel
theorem pv_144 : pl_ok 3 [0, 2] [1] = true := by decide +kernel
theorem pv_145 : pl_ok 11 [0, 4, 10] [1, 2, 3, 5, 6, 7, 8, 9] = true := by decide +kernel
theorem pv_146 : pl_ok 3 [0, 1, 2] [] = true := by decide +kernel
theorem pv_147 : pl_ok 9 [0, 1, 3, 4, 5, 6, 7, 8] [2] = true := by decide +kernel
theorem pv_148 : pl_ok 9 [0, 2, 8] [1, 3, 4, 5, 6, 7] = true := by decide +kernel
theorem pv_149 : pl_ok 9 [0, 1, 2, 3, 4, 5, 6, 7, 8] [] = true := by decide +kernel
theorem pv_150 : pl_ok 9 [0, 4] [1, 2, 3, 5, 6, 7, 8] = true := by decide +kernel
theorem pv_151 : pl_ok 11 [0, 3, 4, 5, 6, 7, 8, 9, 10] [1, 2] = true := by decide +kernel
theorem pv_152 : pl_ok 9 [0, 8] [1, 2, 3, 4, 5, 6, 7] = true := by decide +kernel
theorem pv_153 : pl_ok 9 [0, 1, 2] [3, 4, 5, 6, 7, 8] = true := by decide +kernel
theorem pv_154 : pl_ok 10 [0, 1, 3, 4, 5, 6, 7, 8] [2, 9] = true := by decide +kernel
theorem pv_155 : pl_ok 10 [0, 2, 8] [1, 3, 4, 5, 6, 7, 9] = true := by decide +kernel
theorem pv_156 : pl_ok 10 [0, 1, 2, 3, 4, 5, 6, 7, 8, 9] [] = true := by decide +kernel
theorem pv_157 : pl_ok 12 [0, 1, 2, 3, 4, 5, 6, 7, 8, 9, 10] [11] = true := by decide +kernel
theorem pv_158 : pl_ok 12 [0, 3, 4, 5, 6, 7, 8, 9, 10, 11] [1, 2] = true := by decide +kernel
theorem pv_159 : pl_ok 11 [0, 1, 2, 3, 4, 5, 6, 7, 8, 9] [10] = true := by decide +kernel
theorem pv_160 : pl_ok 11 [0, 1, 3, 4, 5, 6, 7, 8] [2, 9, 10] = true := by decide +kernel
theorem pv_161 : pl_ok 11 [0, 2, 8] [1, 3, 4, 5, 6, 7, 9, 10] = true := by decide +kernel
theorem pv_162 : pl_ok 13 [0, 1, 2, 3, 4, 5, 6, 7, 8, 9, 10] [11, 12] = true := by decide +kernel
theorem pv_163 : pl_ok 13 [] [0, 1, 2, 3, 4, 5, 6, 7, 8, 9, 10, 11, 12] = true := by decide +kernel
theorem pv_164 : pl_ok 13 [0, 3, 4, 5, 6, 7, 8, 9, 10, 11, 12] [1, 2] = true := by decide +kernel
theorem pv_165 : pl_ok 9 [] [0, 1, 2, 3, 4, 5, 6, 7, 8] = true := by decide +kernel
theorem pv_166 : pl_ok 3 [0, 1] [2] = true := by decide +kernel
theorem pv_167 : pl_ok 11 [0, 3, 5] [1, 2, 4, 6, 7, 8, 9, 10] = true := by decide +kernel
theorem pv_168 : pl_ok 14 [0, 4, 5, 6, 7, 8, 9, 10, 11, 12, 13] [1, 2, 3] = true := by decide +kernel
theorem pv_169 : pl_ok 14 [0, 11, 12] [1, 2, 3, 4, 5, 6, 7, 8, 9, 10, 13] = true := by decide +kernel
theorem pv_170 : pl_ok 11 [0, 6, 7] [1, 2, 3, 4, 5, 8, 9, 10] = true := by decide +kernel
theorem pv_171 : pl_ok 11 [0, 7] [1, 2, 3, 4, 5, 6, 8, 9, 10] = true := by decide +kernel
theorem pv_172 : pl_ok 13 [0, 1, 2, 3] [4, 5, 6, 7, 8, 9, 10, 11, 12] = true := by decide +kernel
theorem pv_173 : pl_ok 13 [0, 1, 2, 4] [3, 5, 6, 7, 8, 9, 10, 11, 12] = true := by decide +kernel
theorem pv_174 : pl_ok 13 [0, 10] [1, 2, 3, 4, 5, 6, 7, 8, 9, 11, 12] = true := by decide +kernel
theorem pv_175 : pl_ok 13 [0, 3, 4, 5, 6, 7, 8, 9, 10] [1, 2, 11, 12] = true := by decide +kernel
theorem pv_176 : pl_ok 13 [0, 3, 5, 6, 7, 8, 9, 10] [1, 2, 4, 11, 12] = true := by decide +kernel
theorem pv_177 : pl_ok 13 [0, 4, 10] [1, 2, 3, 5, 6, 7, 8, 9, 11, 12] = true := by decide +kernel
theorem pv_178 : pl_ok 13 [0, 3, 4, 5, 6, 7, 8, 9, 10, 11] [1, 2, 12] = true := by decide +kernel
theorem pv_179 : pl_ok 13 [0, 3, 5] [1, 2, 4, 6, 7, 8, 9, 10, 11, 12] = true := by decide +kernel
