def bindS3 {A B E C : Type} (x : Option (A ⊕ (B ⊕ E))) (f : A → Option C) (g : B → Option C) (h : E → Option C) : Option C := x.bind (fun q => Sum.elim f (Sum.elim g h) q)
theorem bindS3_some {A B E C : Type} {x : Option (A ⊕ (B ⊕ E))} {f : A → Option C} {g : B → Option C} {h : E → Option C} {r : C} (hh : bindS3 x f g h = some r) : (∃ a, x = some (.inl a) ∧ f a = some r) ∨ (∃ b, x = some (.inr (.inl b)) ∧ g b = some r) ∨ (∃ b, x = some (.inr (.inr b)) ∧ h b = some r) := by
  unfold bindS3 at hh
  cases x with
  | none => cases hh
  | some q =>
    rcases q with a | b | b
    · exact Or.inl ⟨a, rfl, hh⟩
    · exact Or.inr (Or.inl ⟨b, rfl, hh⟩)
    · exact Or.inr (Or.inr ⟨b, rfl, hh⟩)
def unc2 {A1 A2 C : Type} (f : A1 → A2 → Option C) (q : A1 × A2) : Option C := f q.1 q.2
theorem unc2_some {A1 A2 C : Type} {f : A1 → A2 → Option C} {a1 : A1} {a2 : A2} {r : C} (h : unc2 f (a1, a2) = some r) : f a1 a2 = some r := h
def unc3 {A1 A2 A3 C : Type} (f : A1 → A2 → A3 → Option C) (q : A1 × A2 × A3) : Option C := f q.1 q.2.1 q.2.2
theorem unc3_some {A1 A2 A3 C : Type} {f : A1 → A2 → A3 → Option C} {a1 : A1} {a2 : A2} {a3 : A3} {r : C} (h : unc3 f (a1, a2, a3) = some r) : f a1 a2 a3 = some r := h
def unc4 {A1 A2 A3 A4 C : Type} (f : A1 → A2 → A3 → A4 → Option C) (q : A1 × A2 × A3 × A4) : Option C := f q.1 q.2.1 q.2.2.1 q.2.2.2
theorem unc4_some {A1 A2 A3 A4 C : Type} {f : A1 → A2 → A3 → A4 → Option C} {a1 : A1} {a2 : A2} {a3 : A3} {a4 : A4} {r : C} (h : unc4 f (a1, a2, a3, a4) = some r) : f a1 a2 a3 a4 = some r := h
def unc5 {A1 A2 A3 A4 A5 C : Type} (f : A1 → A2 → A3 → A4 → A5 → Option C) (q : A1 × A2 × A3 × A4 × A5) : Option C := f q.1 q.2.1 q.2.2.1 q.2.2.2.1 q.2.2.2.2
theorem unc5_some {A1 A2 A3 A4 A5 C : Type} {f : A1 → A2 → A3 → A4 → A5 → Option C} {a1 : A1} {a2 : A2} {a3 : A3} {a4 : A4} {a5 : A5} {r : C} (h : unc5 f (a1, a2, a3, a4, a5) = some r) : f a1 a2 a3 a4 a5 = some r := h
def unc6 {A1 A2 A3 A4 A5 A6 C : Type} (f : A1 → A2 → A3 → A4 → A5 → A6 → Option C) (q : A1 × A2 × A3 × A4 × A5 × A6) : Option C := f q.1 q.2.1 q.2.2.1 q.2.2.2.1 q.2.2.2.2.1 q.2.2.2.2.2
theorem unc6_some {A1 A2 A3 A4 A5 A6 C : Type} {f : A1 → A2 → A3 → A4 → A5 → A6 → Option C} {a1 : A1} {a2 : A2} {a3 : A3} {a4 : A4} {a5 : A5} {a6 : A6} {r : C} (h : unc6 f (a1, a2, a3, a4, a5, a6) = some r) : f a1 a2 a3 a4 a5 a6 = some r := h
def unc7 {A1 A2 A3 A4 A5 A6 A7 C : Type} (f : A1 → A2 → A3 → A4 → A5 → A6 → A7 → Option C) (q : A1 × A2 × A3 × A4 × A5 × A6 × A7) : Option C := f q.1 q.2.1 q.2.2.1 q.2.2.2.1 q.2.2.2.2.1 q.2.2.2.2.2.1 q.2.2.2.2.2.2
theorem unc7_some {A1 A2 A3 A4 A5 A6 A7 C : Type} {f : A1 → A2 → A3 → A4 → A5 → A6 → A7 → Option C} {a1 : A1} {a2 : A2} {a3 : A3} {a4 : A4} {a5 : A5} {a6 : A6} {a7 : A7} {r : C} (h : unc7 f (a1, a2, a3, a4, a5, a6, a7) = some r) : f a1 a2 a3 a4 a5 a6 a7 = some r := h
def unc8 {A1 A2 A3 A4 A5 A6 A7 A8 C : Type} (f : A1 → A2 → A3 → A4 → A5 → A6 → A7 → A8 → Option C) (q : A1 × A2 × A3 × A4 × A5 × A6 × A7 × A8) : Option C := f q.1 q.2.1 q.2.2.1 q.2.2.2.1 q.2.2.2.2.1 q.2.2.2.2.2.1 q.2.2.2.2.2.2.1 q.2.2.2.2.2.2.2
theorem unc8_some {A1 A2 A3 A4 A5 A6 A7 A8 C : Type} {f : A1 → A2 → A3 → A4 → A5 → A6 → A7 → A8 → Option C} {a1 : A1} {a2 : A2} {a3 : A3} {a4 : A4} {a5 : A5} {a6 : A6} {a7 : A7} {a8 : A8} {r : C} (h : unc8 f (a1, a2, a3, a4, a5, a6, a7, a8) = some r) : f a1 a2 a3 a4 a5 a6 a7 a8 = some r := h
def unc9 {A1 A2 A3 A4 A5 A6 A7 A8 A9 C : Type} (f : A1 → A2 → A3 → A4 → A5 → A6 → A7 → A8 → A9 → Option C) (q : A1 × A2 × A3 × A4 × A5 × A6 × A7 × A8 × A9) : Option C := f q.1 q.2.1 q.2.2.1 q.2.2.2.1 q.2.2.2.2.1 q.2.2.2.2.2.1 q.2.2.2.2.2.2.1 q.2.2.2.2.2.2.2.1 q.2.2.2.2.2.2.2.2
theorem unc9_some {A1 A2 A3 A4 A5 A6 A7 A8 A9 C : Type} {f : A1 → A2 → A3 → A4 → A5 → A6 → A7 → A8 → A9 → Option C} {a1 : A1} {a2 : A2} {a3 : A3} {a4 : A4} {a5 : A5} {a6 : A6} {a7 : A7} {a8 : A8} {a9 : A9} {r : C} (h : unc9 f (a1, a2, a3, a4, a5, a6, a7, a8, a9) = some r) : f a1 a2 a3 a4 a5 a6 a7 a8 a9 = some r := h
def unc10 {A1 A2 A3 A4 A5 A6 A7 A8 A9 A10 C : Type} (f : A1 → A2 → A3 → A4 → A5 → A6 → A7 → A8 → A9 → A10 → Option C) (q : A1 × A2 × A3 × A4 × A5 × A6 × A7 × A8 × A9 × A10) : Option C := f q.1 q.2.1 q.2.2.1 q.2.2.2.1 q.2.2.2.2.1 q.2.2.2.2.2.1 q.2.2.2.2.2.2.1 q.2.2.2.2.2.2.2.1 q.2.2.2.2.2.2.2.2.1 q.2.2.2.2.2.2.2.2.2
theorem unc10_some {A1 A2 A3 A4 A5 A6 A7 A8 A9 A10 C : Type} {f : A1 → A2 → A3 → A4 → A5 → A6 → A7 → A8 → A9 → A10 → Option C} {a1 : A1} {a2 : A2} {a3 : A3} {a4 : A4} {a5 : A5} {a6 : A6} {a7 : A7} {a8 : A8} {a9 : A9} {a10 : A10} {r : C} (h : unc10 f (a1, a2, a3, a4, a5, a6, a7, a8, a9, a10) = some r) : f a1 a2 a3 a4 a5 a6 a7 a8 a9 a10 = some r := h
def unc11 {A1 A2 A3 A4 A5 A6 A7 A8 A9 A10 A11 C : Type} (f : A1 → A2 → A3 → A4 → A5 → A6 → A7 → A8 → A9 → A10 → A11 → Option C) (q : A1 × A2 × A3 × A4 × A5 × A6 × A7 × A8 × A9 × A10 × A11) : Option C := f q.1 q.2.1 q.2.2.1 q.2.2.2.1 q.2.2.2.2.1 q.2.2.2.2.2.1 q.2.2.2.2.2.2.1 q.2.2.2.2.2.2.2.1 q.2.2.2.2.2.2.2.2.1 q.2.2.2.2.2.2.2.2.2.1 q.2.2.2.2.2.2.2.2.2.2
theorem unc11_some {A1 A2 A3 A4 A5 A6 A7 A8 A9 A10 A11 C : Type} {f : A1 → A2 → A3 → A4 → A5 → A6 → A7 → A8 → A9 → A10 → A11 → Option C} {a1 : A1} {a2 : A2} {a3 : A3} {a4 : A4} {a5 : A5} {a6 : A6} {a7 : A7} {a8 : A8} {a9 : A9} {a10 : A10} {a11 : A11} {r : C} (h : unc11 f (a1, a2, a3, a4, a5, a6, a7, a8, a9, a10, a11) = some r) : f a1 a2 a3 a4 a5 a6 a7 a8 a9 a10 a11 = some r := h
def unc12 {A1 A2 A3 A4 A5 A6 A7 A8 A9 A10 A11 A12 C : Type} (f : A1 → A2 → A3 → A4 → A5 → A6 → A7 → A8 → A9 → A10 → A11 → A12 → Option C) (q : A1 × A2 × A3 × A4 × A5 × A6 × A7 × A8 × A9 × A10 × A11 × A12) : Option C := f q.1 q.2.1 q.2.2.1 q.2.2.2.1 q.2.2.2.2.1 q.2.2.2.2.2.1 q.2.2.2.2.2.2.1 q.2.2.2.2.2.2.2.1 q.2.2.2.2.2.2.2.2.1 q.2.2.2.2.2.2.2.2.2.1 q.2.2.2.2.2.2.2.2.2.2.1 q.2.2.2.2.2.2.2.2.2.2.2
theorem unc12_some {A1 A2 A3 A4 A5 A6 A7 A8 A9 A10 A11 A12 C : Type} {f : A1 → A2 → A3 → A4 → A5 → A6 → A7 → A8 → A9 → A10 → A11 → A12 → Option C} {a1 : A1} {a2 : A2} {a3 : A3} {a4 : A4} {a5 : A5} {a6 : A6} {a7 : A7} {a8 : A8} {a9 : A9} {a10 : A10} {a11 : A11} {a12 : A12} {r : C} (h : unc12 f (a1, a2, a3, a4, a5, a6, a7, a8, a9, a10, a11, a12) = some r) : f a1 a2 a3 a4 a5 a6 a7 a8 a9 a10 a11 a12 = some r := h
def unc13 {A1 A2 A3 A4 A5 A6 A7 A8 A9 A10 A11 A12 A13 C : Type} (f : A1 → A2 → A3 → A4 → A5 → A6 → A7 → A8 → A9 → A10 → A11 → A12 → A13 → Option C) (q : A1 × A2 × A3 × A4 × A5 × A6 × A7 × A8 × A9 × A10 × A11 × A12 × A13) : Option C := f q.1 q.2.1 q.2.2.1 q.2.2.2.1 q.2.2.2.2.1 q.2.2.2.2.2.1 q.2.2.2.2.2.2.1 q.2.2.2.2.2.2.2.1 q.2.2.2.2.2.2.2.2.1 q.2.2.2.2.2.2.2.2.2.1 q.2.2.2.2.2.2.2.2.2.2.1 q.2.2.2.2.2.2.2.2.2.2.2.1 q.2.2.2.2.2.2.2.2.2.2.2.2
theorem unc13_some {A1 A2 A3 A4 A5 A6 A7 A8 A9 A10 A11 A12 A13 C : Type} {f : A1 → A2 → A3 → A4 → A5 → A6 → A7 → A8 → A9 → A10 → A11 → A12 → A13 → Option C} {a1 : A1} {a2 : A2} {a3 : A3} {a4 : A4} {a5 : A5} {a6 : A6} {a7 : A7} {a8 : A8} {a9 : A9} {a10 : A10} {a11 : A11} {a12 : A12} {a13 : A13} {r : C} (h : unc13 f (a1, a2, a3, a4, a5, a6, a7, a8, a9, a10, a11, a12, a13) = some r) : f a1 a2 a3 a4 a5 a6 a7 a8 a9 a10 a11 a12 a13 = some r := h
def unc14 {A1 A2 A3 A4 A5 A6 A7 A8 A9 A10 A11 A12 A13 A14 C : Type} (f : A1 → A2 → A3 → A4 → A5 → A6 → A7 → A8 → A9 → A10 → A11 → A12 → A13 → A14 → Option C) (q : A1 × A2 × A3 × A4 × A5 × A6 × A7 × A8 × A9 × A10 × A11 × A12 × A13 × A14) : Option C := f q.1 q.2.1 q.2.2.1 q.2.2.2.1 q.2.2.2.2.1 q.2.2.2.2.2.1 q.2.2.2.2.2.2.1 q.2.2.2.2.2.2.2.1 q.2.2.2.2.2.2.2.2.1 q.2.2.2.2.2.2.2.2.2.1 q.2.2.2.2.2.2.2.2.2.2.1 q.2.2.2.2.2.2.2.2.2.2.2.1 q.2.2.2.2.2.2.2.2.2.2.2.2.1 q.2.2.2.2.2.2.2.2.2.2.2.2.2
theorem unc14_some {A1 A2 A3 A4 A5 A6 A7 A8 A9 A10 A11 A12 A13 A14 C : Type} {f : A1 → A2 → A3 → A4 → A5 → A6 → A7 → A8 → A9 → A10 → A11 → A12 → A13 → A14 → Option C} {a1 : A1} {a2 : A2} {a3 : A3} {a4 : A4} {a5 : A5} {a6 : A6} {a7 : A7} {a8 : A8} {a9 : A9} {a10 : A10} {a11 : A11} {a12 : A12} {a13 : A13} {a14 : A14} {r : C} (h : unc14 f (a1, a2, a3, a4, a5, a6, a7, a8, a9, a10, a11, a12, a13, a14) = some r) : f a1 a2 a3 a4 a5 a6 a7 a8 a9 a10 a11 a12 a13 a14 = some r := h
def unc15 {A1 A2 A3 A4 A5 A6 A7 A8 A9 A10 A11 A12 A13 A14 A15 C : Type} (f : A1 → A2 → A3 → A4 → A5 → A6 → A7 → A8 → A9 → A10 → A11 → A12 → A13 → A14 → A15 → Option C) (q : A1 × A2 × A3 × A4 × A5 × A6 × A7 × A8 × A9 × A10 × A11 × A12 × A13 × A14 × A15) : Option C := f q.1 q.2.1 q.2.2.1 q.2.2.2.1 q.2.2.2.2.1 q.2.2.2.2.2.1 q.2.2.2.2.2.2.1 q.2.2.2.2.2.2.2.1 q.2.2.2.2.2.2.2.2.1 q.2.2.2.2.2.2.2.2.2.1 q.2.2.2.2.2.2.2.2.2.2.1 q.2.2.2.2.2.2.2.2.2.2.2.1 q.2.2.2.2.2.2.2.2.2.2.2.2.1 q.2.2.2.2.2.2.2.2.2.2.2.2.2.1 q.2.2.2.2.2.2.2.2.2.2.2.2.2.2
theorem unc15_some {A1 A2 A3 A4 A5 A6 A7 A8 A9 A10 A11 A12 A13 A14 A15 C : Type} {f : A1 → A2 → A3 → A4 → A5 → A6 → A7 → A8 → A9 → A10 → A11 → A12 → A13 → A14 → A15 → Option C} {a1 : A1} {a2 : A2} {a3 : A3} {a4 : A4} {a5 : A5} {a6 : A6} {a7 : A7} {a8 : A8} {a9 : A9} {a10 : A10} {a11 : A11} {a12 : A12} {a13 : A13} {a14 : A14} {a15 : A15} {r : C} (h : unc15 f (a1, a2, a3, a4, a5, a6, a7, a8, a9, a10, a11, a12, a13, a14, a15) = some r) : f a1 a2 a3 a4 a5 a6 a7 a8 a9 a10 a11 a12 a13 a14 a15 = some r := h
theorem bp_10 : (Int8.ofInt (10)).toInt32 = (10 : Int32) := by decide
theorem bp_108 : (Int8.ofInt (108)).toInt32 = (108 : Int32) := by decide
theorem bp_119 : (Int8.ofInt (119)).toInt32 = (119 : Int32) := by decide
theorem bp_127 : (Int8.ofInt (127)).toInt32 = (127 : Int32) := by decide
theorem bp_16 : (Int8.ofInt (16)).toInt32 = (16 : Int32) := by decide
theorem bp_20 : (Int8.ofInt (20)).toInt32 = (20 : Int32) := by decide
theorem bp_24 : (Int8.ofInt (24)).toInt32 = (24 : Int32) := by decide
theorem bp_25 : (Int8.ofInt (25)).toInt32 = (25 : Int32) := by decide
theorem bp_31 : (Int8.ofInt (31)).toInt32 = (31 : Int32) := by decide
theorem bp_32 : (Int8.ofInt (32)).toInt32 = (32 : Int32) := by decide
theorem bp_35 : (Int8.ofInt (35)).toInt32 = (35 : Int32) := by decide
theorem bp_36 : (Int8.ofInt (36)).toInt32 = (36 : Int32) := by decide
theorem bp_41 : (Int8.ofInt (41)).toInt32 = (41 : Int32) := by decide
theorem bp_42 : (Int8.ofInt (42)).toInt32 = (42 : Int32) := by decide
theorem bp_46 : (Int8.ofInt (46)).toInt32 = (46 : Int32) := by decide
theorem bp_48 : (Int8.ofInt (48)).toInt32 = (48 : Int32) := by decide
theorem bp_51 : (Int8.ofInt (51)).toInt32 = (51 : Int32) := by decide
theorem bp_57 : (Int8.ofInt (57)).toInt32 = (57 : Int32) := by decide
theorem bp_59 : (Int8.ofInt (59)).toInt32 = (59 : Int32) := by decide
theorem bp_6 : (Int8.ofInt (6)).toInt32 = (6 : Int32) := by decide
theorem bp_60 : (Int8.ofInt (60)).toInt32 = (60 : Int32) := by decide
theorem bp_63 : (Int8.ofInt (63)).toInt32 = (63 : Int32) := by decide
theorem bp_7 : (Int8.ofInt (7)).toInt32 = (7 : Int32) := by decide
theorem bp_8 : (Int8.ofInt (8)).toInt32 = (8 : Int32) := by decide
theorem bp_9 : (Int8.ofInt (9)).toInt32 = (9 : Int32) := by decide
theorem bp_m10 : (Int8.ofInt (-10)).toInt32 = (-10 : Int32) := by decide
theorem bp_m2 : (Int8.ofInt (-2)).toInt32 = (-2 : Int32) := by decide
theorem bp_m3 : (Int8.ofInt (-3)).toInt32 = (-3 : Int32) := by decide
theorem bp_m4 : (Int8.ofInt (-4)).toInt32 = (-4 : Int32) := by decide
theorem bp_m9 : (Int8.ofInt (-9)).toInt32 = (-9 : Int32) := by decide
theorem ic_0 : Int32.ofInt (0) = (0 : Int32) := by decide
theorem ic_1 : Int32.ofInt (1) = (1 : Int32) := by decide
theorem ic_2 : Int32.ofInt (2) = (2 : Int32) := by decide
theorem ic_3 : Int32.ofInt (3) = (3 : Int32) := by decide
theorem ic_4 : Int32.ofInt (4) = (4 : Int32) := by decide
theorem ic_5 : Int32.ofInt (5) = (5 : Int32) := by decide
theorem ic_m1 : Int32.ofInt (-1) = (-1 : Int32) := by decide
theorem sp_12345 : (Int16.ofInt (12345)).toInt32 = (12345 : Int32) := by decide
theorem sp_255 : (Int16.ofInt (255)).toInt32 = (255 : Int32) := by decide
theorem sp_256 : (Int16.ofInt (256)).toInt32 = (256 : Int32) := by decide
theorem vd_a {A : Nat → Prop} {ws ws' : va_W} (hD : va_D A ws) (h : ws'.map Prod.fst = ws.map Prod.fst) : va_D A ws' := vd_adr h hD
theorem isz_0 : isz 0 = true := by decide
theorem isz_1 : isz 1 = true := by decide
theorem tn_0 : (0 : Int32).toNatClampNeg = 0 := by decide
theorem tn_1 : (1 : Int32).toNatClampNeg = 1 := by decide
theorem tn_2 : (2 : Int32).toNatClampNeg = 2 := by decide
theorem tn_3 : (3 : Int32).toNatClampNeg = 3 := by decide
theorem sw_out9 {x : Int32} (h0 : ¬ x = 0) (h1 : ¬ x = 1) (h2 : ¬ x = 2) (h3 : ¬ x = 3) (h4 : ¬ x = 4) (h5 : ¬ x = 5) (h6 : ¬ x = 6) (h7 : ¬ x = 7) (h8 : ¬ x = 8) : x.toInt < 0 ∨ (8 : Int) < x.toInt := by
  have g : ∀ k : Int32, ¬ x = k → x.toInt ≠ k.toInt := fun k h q => h (Int32.toInt_inj.mp q)
  have e0 := g 0 h0
  have e1 := g 1 h1
  have e2 := g 2 h2
  have e3 := g 3 h3
  have e4 := g 4 h4
  have e5 := g 5 h5
  have e6 := g 6 h6
  have e7 := g 7 h7
  have e8 := g 8 h8
  rw [show (0 : Int32).toInt = 0 by decide] at e0
  rw [show (1 : Int32).toInt = 1 by decide] at e1
  rw [show (2 : Int32).toInt = 2 by decide] at e2
  rw [show (3 : Int32).toInt = 3 by decide] at e3
  rw [show (4 : Int32).toInt = 4 by decide] at e4
  rw [show (5 : Int32).toInt = 5 by decide] at e5
  rw [show (6 : Int32).toInt = 6 by decide] at e6
  rw [show (7 : Int32).toInt = 7 by decide] at e7
  rw [show (8 : Int32).toInt = 8 by decide] at e8
  omega
theorem sw_look {x : Int32} (h0 : ¬ x = 35) (h1 : ¬ x = 46) (h2 : ¬ x = 108) (h3 : ¬ x = 119) : Op.lookupswitch.offset (#[((35 : Int), (45 : Int)), (46, 43), (108, 47), (119, 49)] : Array (Int × Int)).toList 51 x.toInt = 51 := by
  have g : ∀ k : Int32, ¬ x = k → x.toInt ≠ k.toInt := fun k h q => h (Int32.toInt_inj.mp q)
  have e0 := g 35 h0
  have e1 := g 46 h1
  have e2 := g 108 h2
  have e3 := g 119 h3
  rw [show (35 : Int32).toInt = 35 by decide] at e0
  rw [show (46 : Int32).toInt = 46 by decide] at e1
  rw [show (108 : Int32).toInt = 108 by decide] at e2
  rw [show (119 : Int32).toInt = 119 by decide] at e3
  simp [Op.lookupswitch.offset, e0, e1, e2, e3, Ne.symm e0, Ne.symm e1, Ne.symm e2, Ne.symm e3]
def acp (sp dp n : Int32) (n0 n1 : Nat) : Bool := decide (¬ sp < 0 ∧ ¬ dp < 0 ∧ ¬ n < 0 ∧ sp.toNatClampNeg + n.toNatClampNeg ≤ n0 ∧ dp.toNatClampNeg + n.toNatClampNeg ≤ n1)
def ACF (own : String) (index : Nat) : Prop := Cond.methodLink own index arraycopyName ∈ lw_good ∧ Cond.native arraycopyName ∈ lw_good ∧ Cond.static arraycopyName ∈ lw_good ∧ Cond.initialized "java/lang/System" ∈ lw_good
section GR2
variable {p : Program} {l : Launch} {e : Env} {R : Room} {s : State} {m : MethodId} {args : Array Value} {below : List Frame} {meth : Method} {c : Code} {H : Heap} {locs : List Loc} {cells slots : Nat} {Q : State → Prop}
variable {own : String} {cc : ByteArray} {nL : Nat} {D : va_G} {cA : Nat → ClassId} {A : Nat → Prop} {ws : va_W} {pc : Nat} {ls : Array Slot} {rest : List Value}
theorem g_aald {a n t0 b : Nat} {k : ClassId} {Cn : String} {f : Nat → Option Nat} {i : Int32} (C : Cx own cc nL D cA p s m args c) (hP : va_P D classes ws H) (q0 : Nat) (he : ws[q0]? = some (a, .inl (k, n, .inr (.inr (.inr (.inr f)))))) (ht : (ar_tys cA)[t0]? = some (k, .object Cn)) (hin : inb i n = true) (hv : f i.toNatClampNeg = some b) (hdg : decode cc pc = .ok (.aaload, 1))
    (kk : W p l e R s m args below meth c H locs cells slots Q (F0 m (pc + 1) ls (.ref b :: rest))) : W p l e R s m args below meth c H locs cells slots Q (F0 m pc ls (.int i :: .ref a :: rest)) :=
  va_aldq C.1 C.2.1 C.2.2.2.2.2.1 hP q0 t0 he ht (inb_vp hin) hdg (by rw [hv]; exact kk)
theorem g_acopy {index a a0 n0 n1 : Nat} {f g : Nat → Int32} {sp dp n : Int32} (C : Cx own cc nL D cA p s m args c) (F : ACF own index) (hsz : ls.size = nL) (hP : va_P D classes ws H) (hD : va_D A ws) (hS : va_S A s.heap H locs) (q0 q1 : Nat) (h0 : ws[q0]? = some (a0, .inl (cA 0, n0, .inl f))) (h1 : ws[q1]? = some (a, .inl (cA 0, n1, .inl g))) (hg : acp sp dp n n0 n1 = true)
    (hR : 1 ≤ R.frames ∧ (rest.map fun v => v.category).sum + (nativeFrameWords "java/lang/System" "arraycopy" 5 + 11) ≤ R.locals) (hdg : decode cc pc = .ok (.invokestatic index, 3))
    (kk : ∀ (H1 : Heap) (locs1 : List Loc), va_P D classes (ws.set q1 (a, .inl (cA 0, n1, .inl (va_cpy f g sp.toNatClampNeg dp.toNatClampNeg n.toNatClampNeg)))) H1 → va_D A (ws.set q1 (a, .inl (cA 0, n1, .inl (va_cpy f g sp.toNatClampNeg dp.toNatClampNeg n.toNatClampNeg)))) → va_S A s.heap H1 locs1 → W p l e R s m args below meth c H1 locs1 cells slots Q (F0 m (pc + 3) ls rest)) : W p l e R s m args below meth c H locs cells slots Q (F0 m pc ls (.int n :: .int dp :: .ref a :: .int sp :: .ref a0 :: rest)) := by
  obtain ⟨hx, hb, hml, hown, hts, hK, hN⟩ := C
  obtain ⟨g1, g2, g3, g4, g5⟩ := of_decide_eq_true hg
  exact va_copyi hx hb (hml.trans hsz.symm) hown (hts _ F.1) (hts _ F.2.1) (hts _ F.2.2.1) (hts _ F.2.2.2) hK hP hD hS q0 q1 0 0 h0 h1 rfl rfl rfl g1 g2 g3 g4 g5 (fun _ _ => rfl) hR.1 hR.2 hdg kk
end GR2
theorem mm_X7_114 : Cond.methodLink RX7 114 Lib.Math.min.name ∈ lw_good ∧ Cond.static Lib.Math.min.name ∈ lw_good ∧ Cond.initialized "java/lang/Math" ∈ lw_good ∧ Cond.code Lib.Math.min.name Lib.Math.min.code 2 (some .int) ∈ lw_good := ⟨lg_in mw_119 rfl, lg_in mw_120 rfl, lg_in mw_121 rfl, lg_in mw_122 rfl⟩
theorem mm_X8_232 : Cond.methodLink RX8 232 Lib.Math.max.name ∈ lw_good ∧ Cond.static Lib.Math.max.name ∈ lw_good ∧ Cond.initialized "java/lang/Math" ∈ lw_good ∧ Cond.code Lib.Math.max.name Lib.Math.max.code 2 (some .int) ∈ lw_good := ⟨lg_in mw_284 rfl, lg_in mw_285 rfl, lg_in mw_121 rfl, lg_in mw_286 rfl⟩
theorem acl_X8_328 : ACF RX8 328 := ⟨lg_in mw_349 rfl, lg_in mw_350 rfl, lg_in mw_351 rfl, lg_in mw_352 rfl⟩
theorem mm_X8_334 : Cond.methodLink RX8 334 Lib.Math.min.name ∈ lw_good ∧ Cond.static Lib.Math.min.name ∈ lw_good ∧ Cond.initialized "java/lang/Math" ∈ lw_good ∧ Cond.code Lib.Math.min.name Lib.Math.min.code 2 (some .int) ∈ lw_good := ⟨lg_in mw_353 rfl, lg_in mw_120 rfl, lg_in mw_121 rfl, lg_in mw_122 rfl⟩
