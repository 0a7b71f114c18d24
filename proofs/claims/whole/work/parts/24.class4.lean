abbrev wl_X8_weighChances (cA : Nat → ClassId) (a : Nat → Nat) (x_stale : Int32) (x_finding : Int32) (land_flaw : Int32) (land_cells : Int32) (land_columns : Int32) (land_rows : Int32) (land_kinds : Nat → Int32) (land_rowAt : Nat → Int32) (land_columnAt : Nat → Int32) (land_ways : Nat → Int32) (land_beside : Nat → Int32) (houses_flaw : Int32) (houses_number : Int32) (houses_places : Nat → Int32) (bowls_number : Int32) (bowls_nights : Nat → Int32) (bowls_things : Nat → Int32) (dogs_number : Int32) (dogs_nights : Nat → Int32) (dogs_things : Nat → Int32) (walks_start : Int32) (walks_frost : Int32) (walks_present : Int32) (walks_raked : Int32) (trial_start : Int32) (trial_frost : Int32) (trial_present : Int32) (trial_raked : Int32) (trial_steady : Nat → Int32) (trial_fresh : Nat → Int32) (trial_track : Nat → Int32) (trial_gone : Nat → Int32) (trial_trodden : Nat → Int64) (trial_lines : Nat → Int32) (chances_whole : Int64) (chances_above : Int64) (chances_below : Int64) (chances_shares : Nat → Int64) : va_W := [((a 0), .inr (8, [.ref (a 1), .ref (a 6), .ref (a 12), .ref (a 15), .ref (a 19), .ref (a 23), .ref (a 27), .ref (a 34), .ref (a 41), .ref (a 42), .ref (a 44), .ref (a 45), .int x_stale, .int x_finding])), ((a 6), .inr (3, [.ref (a 7), .ref (a 8), .ref (a 9), .ref (a 10), .ref (a 11), .int land_flaw, .int land_cells, .int land_columns, .int land_rows])), ((a 7), .inl (cA 0, 36, .inl land_kinds)), ((a 8), .inl (cA 0, 36, .inl land_rowAt)), ((a 9), .inl (cA 0, 36, .inl land_columnAt)), ((a 10), .inl (cA 0, 36, .inl land_ways)), ((a 11), .inl (cA 0, 144, .inl land_beside)), ((a 12), .inr (1, [.ref (a 13), .ref (a 14), .int houses_flaw, .int houses_number])), ((a 13), .inl (cA 0, 8, .inl houses_places)), ((a 15), .inr (4, [.ref (a 16), .ref (a 17), .ref (a 18), .int bowls_number])), ((a 16), .inl (cA 0, 8, .inl bowls_nights)), ((a 17), .inl (cA 0, 8, .inl bowls_things)), ((a 19), .inr (4, [.ref (a 20), .ref (a 21), .ref (a 22), .int dogs_number])), ((a 20), .inl (cA 0, 8, .inl dogs_nights)), ((a 21), .inl (cA 0, 8, .inl dogs_things)), ((a 27), .inr (7, [.ref (a 6), .ref (a 15), .ref (a 19), .ref (a 28), .ref (a 29), .ref (a 30), .ref (a 31), .ref (a 32), .ref (a 33), .int walks_start, .int walks_frost, .int walks_present, .int walks_raked])), ((a 34), .inr (7, [.ref (a 6), .ref (a 15), .ref (a 19), .ref (a 35), .ref (a 36), .ref (a 37), .ref (a 38), .ref (a 39), .ref (a 40), .int trial_start, .int trial_frost, .int trial_present, .int trial_raked])), ((a 35), .inl (cA 0, 36, .inl trial_steady)), ((a 36), .inl (cA 0, 36, .inl trial_fresh)), ((a 37), .inl (cA 0, 250, .inl trial_track)), ((a 38), .inl (cA 0, 10, .inl trial_gone)), ((a 39), .inl (cA 1, 10, .inr (.inl trial_trodden))), ((a 40), .inl (cA 0, 60, .inl trial_lines)), ((a 42), .inr (0, [.ref (a 43), .long chances_whole, .long chances_above, .long chances_below])), ((a 43), .inl (cA 1, 8, .inr (.inl chances_shares)))]
abbrev rm_X8_weighChances : Room := { frames := 4, cells := 0, slots := 0, locals := 103 }
section
variable {p : Program} {l : Launch} {e : Env} {s : State} {m : MethodId} {args : Array Value} {below : List Frame} {meth : Method} {c : Code} {D : va_G} {cA : Nat → ClassId} {ws0 : va_W} {sz : Nat} {A : Nat → Prop} {Q : State → Prop}
def f_X8_weighChances_b115L54 (land_cells : Int32) (land_columns : Int32) (land_rows : Int32) (land_kinds : Nat → Int32) (land_rowAt : Nat → Int32) (land_columnAt : Nat → Int32) (land_ways : Nat → Int32) (land_beside : Nat → Int32) (houses_number : Int32) (houses_places : Nat → Int32) (bowls_number : Int32) (bowls_nights : Nat → Int32) (bowls_things : Nat → Int32) (dogs_number : Int32) (dogs_nights : Nat → Int32) (dogs_things : Nat → Int32) (trial_start : Int32) (trial_frost : Int32) (trial_present : Int32) (trial_raked : Int32) (trial_steady : Nat → Int32) (trial_fresh : Nat → Int32) (trial_track : Nat → Int32) (trial_gone : Nat → Int32) (trial_trodden : Nat → Int64) (trial_lines : Nat → Int32) (chances_shares : Nat → Int64) (x1 : Int32) (x2 : Int32) (x3 : Int32) (x4 : Int32) (x5 : Int32) (x6 : Int32) : Option ((Int32 × Int32 × (Nat → Int32) × (Nat → Int32) × (Nat → Int32) × (Nat → Int32) × (Nat → Int64) × (Nat → Int32) × (Nat → Int64)) ⊕ (Int32 × (Nat → Int32) × (Nat → Int32) × (Nat → Int32) × (Nat → Int32) × (Nat → Int64) × (Nat → Int32) × (Nat → Int64))) :=
  some (.inl ((x6 + 1), trial_present, trial_steady, trial_fresh, trial_track, trial_gone, trial_trodden, trial_lines, chances_shares))
set_option maxHeartbeats 4000000 in
set_option maxRecDepth 100000 in
theorem k_X8_weighChances_b115L54 (C : Cx RX8 cX8_weighChances 8 D cA p s m args c) (hA : ∀ q, s.heap.size ≤ q → A q) (a : Nat → Nat) (x_stale : Int32) (x_finding : Int32) (land_flaw : Int32) (land_cells : Int32) (land_columns : Int32) (land_rows : Int32) (land_kinds : Nat → Int32) (land_rowAt : Nat → Int32) (land_columnAt : Nat → Int32) (land_ways : Nat → Int32) (land_beside : Nat → Int32) (houses_flaw : Int32) (houses_number : Int32) (houses_places : Nat → Int32) (bowls_number : Int32) (bowls_nights : Nat → Int32) (bowls_things : Nat → Int32) (dogs_number : Int32) (dogs_nights : Nat → Int32) (dogs_things : Nat → Int32) (walks_start : Int32) (walks_frost : Int32) (walks_present : Int32) (walks_raked : Int32) (trial_start : Int32) (trial_frost : Int32) (trial_present : Int32) (trial_raked : Int32) (trial_steady : Nat → Int32) (trial_fresh : Nat → Int32) (trial_track : Nat → Int32) (trial_gone : Nat → Int32) (trial_trodden : Nat → Int64) (trial_lines : Nat → Int32) (chances_whole : Int64) (chances_above : Int64) (chances_below : Int64) (chances_shares : Nat → Int64) (x1 : Int32) (x2 : Int32) (x3 : Int32) (x4 : Int32) (x5 : Int32) (x6 : Int32) (r : (Int32 × Int32 × (Nat → Int32) × (Nat → Int32) × (Nat → Int32) × (Nat → Int32) × (Nat → Int64) × (Nat → Int32) × (Nat → Int64)) ⊕ (Int32 × (Nat → Int32) × (Nat → Int32) × (Nat → Int32) × (Nat → Int32) × (Nat → Int64) × (Nat → Int32) × (Nat → Int64))) (hf : f_X8_weighChances_b115L54 land_cells land_columns land_rows land_kinds land_rowAt land_columnAt land_ways land_beside houses_number houses_places bowls_number bowls_nights bowls_things dogs_number dogs_nights dogs_things trial_start trial_frost trial_present trial_raked trial_steady trial_fresh trial_track trial_gone trial_trodden trial_lines chances_shares x1 x2 x3 x4 x5 x6 = some r) (hK : Sum.elim (fun q : Int32 × Int32 × (Nat → Int32) × (Nat → Int32) × (Nat → Int32) × (Nat → Int32) × (Nat → Int64) × (Nat → Int32) × (Nat → Int64) => At p l e rm_X8_weighChances s m args below meth c D A 0 0 Q 8 54 (wl_X8_weighChances cA a x_stale x_finding land_flaw land_cells land_columns land_rows land_kinds land_rowAt land_columnAt land_ways land_beside houses_flaw houses_number houses_places bowls_number bowls_nights bowls_things dogs_number dogs_nights dogs_things walks_start walks_frost walks_present walks_raked trial_start trial_frost (q.2.1) trial_raked (q.2.2.1) (q.2.2.2.1) (q.2.2.2.2.1) (q.2.2.2.2.2.1) (q.2.2.2.2.2.2.1) (q.2.2.2.2.2.2.2.1) chances_whole chances_above chances_below (q.2.2.2.2.2.2.2.2)) [(0, .ref (a 0)), (1, .int x1), (2, .int x2), (3, .int x3), (4, .int x4), (5, .int x5), (6, .int (q.1))] []) (fun q : Int32 × (Nat → Int32) × (Nat → Int32) × (Nat → Int32) × (Nat → Int32) × (Nat → Int64) × (Nat → Int32) × (Nat → Int64) => At p l e rm_X8_weighChances s m args below meth c D A 0 0 Q 8 121 (wl_X8_weighChances cA a x_stale x_finding land_flaw land_cells land_columns land_rows land_kinds land_rowAt land_columnAt land_ways land_beside houses_flaw houses_number houses_places bowls_number bowls_nights bowls_things dogs_number dogs_nights dogs_things walks_start walks_frost walks_present walks_raked trial_start trial_frost (q.1) trial_raked (q.2.1) (q.2.2.1) (q.2.2.2.1) (q.2.2.2.2.1) (q.2.2.2.2.2.1) (q.2.2.2.2.2.2.1) chances_whole chances_above chances_below (q.2.2.2.2.2.2.2)) [] []) r) : At p l e rm_X8_weighChances s m args below meth c D A 0 0 Q 8 115 (wl_X8_weighChances cA a x_stale x_finding land_flaw land_cells land_columns land_rows land_kinds land_rowAt land_columnAt land_ways land_beside houses_flaw houses_number houses_places bowls_number bowls_nights bowls_things dogs_number dogs_nights dogs_things walks_start walks_frost walks_present walks_raked trial_start trial_frost trial_present trial_raked trial_steady trial_fresh trial_track trial_gone trial_trodden trial_lines chances_whole chances_above chances_below chances_shares) [(0, .ref (a 0)), (1, .int x1), (2, .int x2), (3, .int x3), (4, .int x4), (5, .int x5), (6, .int x6)] [] := by
  intro H locs ls hP hD hS hl
  have hx := C.1
  have hb := C.2.1
  have hown := C.2.2.2.1
  have hts := C.2.2.2.2.1
  unfold f_X8_weighChances_b115L54 at hf
  refine lv_iinc (pc := 115) (v := (x6 + 1)) (lv' := [(6, .int (x6 + 1)), (0, .ref (a 0)), (1, .int x1), (2, .int x2), (3, .int x3), (4, .int x4), (5, .int x5)]) hx hb dX8_weighChances_115 hl (k := 6) rfl rfl (Nat.le_of_ble_eq_true rfl) rfl (fun ls hl => ?_)
  refine lv_goto (pc := 118) (tgt := 54) hx hb dX8_weighChances_118 (by decide) ?_
  have hf := Option.some.inj hf
  subst hf
  exact hK H locs ls hP hD hS (lv_sub hl [1, 2, 3, 4, 5, 6, 0] rfl)
def f_X8_weighChances_L54 (land_cells : Int32) (land_columns : Int32) (land_rows : Int32) (land_kinds : Nat → Int32) (land_rowAt : Nat → Int32) (land_columnAt : Nat → Int32) (land_ways : Nat → Int32) (land_beside : Nat → Int32) (houses_number : Int32) (houses_places : Nat → Int32) (bowls_number : Int32) (bowls_nights : Nat → Int32) (bowls_things : Nat → Int32) (dogs_number : Int32) (dogs_nights : Nat → Int32) (dogs_things : Nat → Int32) (trial_start : Int32) (trial_frost : Int32) (trial_raked : Int32) (x1 : Int32) (x2 : Int32) (x3 : Int32) (x4 : Int32) (x5 : Int32) (x6 : Int32) (trial_present : Int32) (trial_steady : Nat → Int32) (trial_fresh : Nat → Int32) (trial_track : Nat → Int32) (trial_gone : Nat → Int32) (trial_trodden : Nat → Int64) (trial_lines : Nat → Int32) (chances_shares : Nat → Int64) : Option ((Int32 × Int32 × (Nat → Int32) × (Nat → Int32) × (Nat → Int32) × (Nat → Int32) × (Nat → Int64) × (Nat → Int32) × (Nat → Int64)) ⊕ (Int32 × (Nat → Int32) × (Nat → Int32) × (Nat → Int32) × (Nat → Int32) × (Nat → Int64) × (Nat → Int32) × (Nat → Int64))) :=
  if (256 : Int32) ≤ x6 then (some (.inr (trial_present, trial_steady, trial_fresh, trial_track, trial_gone, trial_trodden, trial_lines, chances_shares))) else (bind1 (f_J6_bitCount_0f7a4 x6) (fun r9 => if (x6 &&& (x4 ^^^ (-1 : Int32))) = 0 then (bind1 (f_X8_power (x1.toInt64) r9) (fun r10 => bind1 (f_X8_power (((16 : Int32) - x1).toInt64) (x5 - r9)) (fun r11 => bind7 (f_X8_shareOut land_cells land_columns land_rows land_kinds land_rowAt land_columnAt land_ways land_beside houses_number houses_places bowls_number bowls_nights bowls_things dogs_number dogs_nights dogs_things trial_start trial_frost x6 trial_raked trial_steady trial_fresh trial_track trial_gone trial_trodden trial_lines chances_shares (r10 * r11) x2 x3) (fun c12 c13 c14 c15 c16 c17 c18 => f_X8_weighChances_b115L54 land_cells land_columns land_rows land_kinds land_rowAt land_columnAt land_ways land_beside houses_number houses_places bowls_number bowls_nights bowls_things dogs_number dogs_nights dogs_things trial_start trial_frost x6 trial_raked c12 c13 c14 c15 c16 c17 c18 x1 x2 x3 x4 x5 x6)))) else (f_X8_weighChances_b115L54 land_cells land_columns land_rows land_kinds land_rowAt land_columnAt land_ways land_beside houses_number houses_places bowls_number bowls_nights bowls_things dogs_number dogs_nights dogs_things trial_start trial_frost trial_present trial_raked trial_steady trial_fresh trial_track trial_gone trial_trodden trial_lines chances_shares x1 x2 x3 x4 x5 x6)))
set_option maxHeartbeats 4000000 in
set_option maxRecDepth 100000 in
theorem k_X8_weighChances_L54 (C : Cx RX8 cX8_weighChances 8 D cA p s m args c) (hA : ∀ q, s.heap.size ≤ q → A q) (a : Nat → Nat) (x_stale : Int32) (x_finding : Int32) (land_flaw : Int32) (land_cells : Int32) (land_columns : Int32) (land_rows : Int32) (land_kinds : Nat → Int32) (land_rowAt : Nat → Int32) (land_columnAt : Nat → Int32) (land_ways : Nat → Int32) (land_beside : Nat → Int32) (houses_flaw : Int32) (houses_number : Int32) (houses_places : Nat → Int32) (bowls_number : Int32) (bowls_nights : Nat → Int32) (bowls_things : Nat → Int32) (dogs_number : Int32) (dogs_nights : Nat → Int32) (dogs_things : Nat → Int32) (walks_start : Int32) (walks_frost : Int32) (walks_present : Int32) (walks_raked : Int32) (trial_start : Int32) (trial_frost : Int32) (trial_raked : Int32) (chances_whole : Int64) (chances_above : Int64) (chances_below : Int64) (x1 : Int32) (x2 : Int32) (x3 : Int32) (x4 : Int32) (x5 : Int32) (x6 : Int32) (trial_present : Int32) (trial_steady : Nat → Int32) (trial_fresh : Nat → Int32) (trial_track : Nat → Int32) (trial_gone : Nat → Int32) (trial_trodden : Nat → Int64) (trial_lines : Nat → Int32) (chances_shares : Nat → Int64) (r : (Int32 × Int32 × (Nat → Int32) × (Nat → Int32) × (Nat → Int32) × (Nat → Int32) × (Nat → Int64) × (Nat → Int32) × (Nat → Int64)) ⊕ (Int32 × (Nat → Int32) × (Nat → Int32) × (Nat → Int32) × (Nat → Int32) × (Nat → Int64) × (Nat → Int32) × (Nat → Int64))) (hf : f_X8_weighChances_L54 land_cells land_columns land_rows land_kinds land_rowAt land_columnAt land_ways land_beside houses_number houses_places bowls_number bowls_nights bowls_things dogs_number dogs_nights dogs_things trial_start trial_frost trial_raked x1 x2 x3 x4 x5 x6 trial_present trial_steady trial_fresh trial_track trial_gone trial_trodden trial_lines chances_shares = some r) (hK : Sum.elim (fun q : Int32 × Int32 × (Nat → Int32) × (Nat → Int32) × (Nat → Int32) × (Nat → Int32) × (Nat → Int64) × (Nat → Int32) × (Nat → Int64) => At p l e rm_X8_weighChances s m args below meth c D A 0 0 Q 8 54 (wl_X8_weighChances cA a x_stale x_finding land_flaw land_cells land_columns land_rows land_kinds land_rowAt land_columnAt land_ways land_beside houses_flaw houses_number houses_places bowls_number bowls_nights bowls_things dogs_number dogs_nights dogs_things walks_start walks_frost walks_present walks_raked trial_start trial_frost (q.2.1) trial_raked (q.2.2.1) (q.2.2.2.1) (q.2.2.2.2.1) (q.2.2.2.2.2.1) (q.2.2.2.2.2.2.1) (q.2.2.2.2.2.2.2.1) chances_whole chances_above chances_below (q.2.2.2.2.2.2.2.2)) [(0, .ref (a 0)), (1, .int x1), (2, .int x2), (3, .int x3), (4, .int x4), (5, .int x5), (6, .int (q.1))] []) (fun q : Int32 × (Nat → Int32) × (Nat → Int32) × (Nat → Int32) × (Nat → Int32) × (Nat → Int64) × (Nat → Int32) × (Nat → Int64) => At p l e rm_X8_weighChances s m args below meth c D A 0 0 Q 8 121 (wl_X8_weighChances cA a x_stale x_finding land_flaw land_cells land_columns land_rows land_kinds land_rowAt land_columnAt land_ways land_beside houses_flaw houses_number houses_places bowls_number bowls_nights bowls_things dogs_number dogs_nights dogs_things walks_start walks_frost walks_present walks_raked trial_start trial_frost (q.1) trial_raked (q.2.1) (q.2.2.1) (q.2.2.2.1) (q.2.2.2.2.1) (q.2.2.2.2.2.1) (q.2.2.2.2.2.2.1) chances_whole chances_above chances_below (q.2.2.2.2.2.2.2)) [] []) r) : At p l e rm_X8_weighChances s m args below meth c D A 0 0 Q 8 54 (wl_X8_weighChances cA a x_stale x_finding land_flaw land_cells land_columns land_rows land_kinds land_rowAt land_columnAt land_ways land_beside houses_flaw houses_number houses_places bowls_number bowls_nights bowls_things dogs_number dogs_nights dogs_things walks_start walks_frost walks_present walks_raked trial_start trial_frost trial_present trial_raked trial_steady trial_fresh trial_track trial_gone trial_trodden trial_lines chances_whole chances_above chances_below chances_shares) [(0, .ref (a 0)), (1, .int x1), (2, .int x2), (3, .int x3), (4, .int x4), (5, .int x5), (6, .int x6)] [] := by
  intro H locs ls hP hD hS hl
  have hx := C.1
  have hb := C.2.1
  have hown := C.2.2.2.1
  have hts := C.2.2.2.2.1
  unfold f_X8_weighChances_L54 at hf
  refine lv_iload (pc := 54) hx hb dX8_weighChances_54 (lv_at hl 6 rfl) ?_
  refine lv_sipush (pc := 56) (v := 256) hx hb dX8_weighChances_56 sp_256 ?_
  refine lv_icmp_ge (pc := 59) (tgt := 121) hx hb dX8_weighChances_59 (by decide) (fun hc => ?_) (fun hc => ?_)
  · have hf := (if_pos hc).symm.trans hf
    have hf := Option.some.inj hf
    subst hf
    exact hK H locs ls hP hD hS (lv_sub hl [] rfl)
  · have hf := (if_neg hc).symm.trans hf
    refine lv_iload (pc := 62) hx hb dX8_weighChances_62 (lv_at hl 6 rfl) ?_
    obtain ⟨r9, hq, hf⟩ := bind1_some hf
    refine fin_i (run_S (rest := []) (pc := 64) (As := [.int x6]) C mf_X8_287 (c_J6_bitCount_0f7a4 l D cA  x6 r9 hq H.size) rfl rfl ⟨(Nat.le_of_ble_eq_true rfl), (Nat.le_of_ble_eq_true rfl)⟩ (preS_of C hP hD [] rfl rfl) rfl hl.1 rfl (Nat.le_of_ble_eq_true rfl) dX8_weighChances_64 ⟨Nat.zero_le _, Nat.zero_le _⟩) hP hD hS hA [] rfl rfl (fun H locs hP hS => ?_)
    have hP : va_P D classes (wl_X8_weighChances cA a x_stale x_finding land_flaw land_cells land_columns land_rows land_kinds land_rowAt land_columnAt land_ways land_beside houses_flaw houses_number houses_places bowls_number bowls_nights bowls_things dogs_number dogs_nights dogs_things walks_start walks_frost walks_present walks_raked trial_start trial_frost trial_present trial_raked trial_steady trial_fresh trial_track trial_gone trial_trodden trial_lines chances_whole chances_above chances_below chances_shares) H := hP
    have hD : va_D A (wl_X8_weighChances cA a x_stale x_finding land_flaw land_cells land_columns land_rows land_kinds land_rowAt land_columnAt land_ways land_beside houses_flaw houses_number houses_places bowls_number bowls_nights bowls_things dogs_number dogs_nights dogs_things walks_start walks_frost walks_present walks_raked trial_start trial_frost trial_present trial_raked trial_steady trial_fresh trial_track trial_gone trial_trodden trial_lines chances_whole chances_above chances_below chances_shares) := vd_a hD rfl
    refine lv_istore (pc := 67) (lv' := [(7, .int r9), (0, .ref (a 0)), (1, .int x1), (2, .int x2), (3, .int x3), (4, .int x4), (5, .int x5), (6, .int x6)]) hx hb dX8_weighChances_67 hl (Nat.le_of_ble_eq_true rfl) rfl (fun ls hl => ?_)
    refine lv_iload (pc := 69) hx hb dX8_weighChances_69 (lv_at hl 7 rfl) ?_
    refine lv_iload (pc := 71) hx hb dX8_weighChances_71 (lv_at hl 5 rfl) ?_
    refine lv_iconst (pc := 73) (v := (-1)) hx hb dX8_weighChances_73 ic_m1 ?_
    refine lv_ixor (pc := 74) hx hb dX8_weighChances_74 ?_
    refine lv_iand (pc := 75) hx hb dX8_weighChances_75 ?_
    refine lv_if_ne (pc := 76) (tgt := 115) hx hb dX8_weighChances_76 (by decide) (fun hc => ?_) (fun hc => ?_)
    · have hf := (if_neg hc).symm.trans hf
      exact k_X8_weighChances_b115L54 C hA a x_stale x_finding land_flaw land_cells land_columns land_rows land_kinds land_rowAt land_columnAt land_ways land_beside houses_flaw houses_number houses_places bowls_number bowls_nights bowls_things dogs_number dogs_nights dogs_things walks_start walks_frost walks_present walks_raked trial_start trial_frost trial_present trial_raked trial_steady trial_fresh trial_track trial_gone trial_trodden trial_lines chances_whole chances_above chances_below chances_shares x1 x2 x3 x4 x5 x6 r hf hK H locs ls hP hD hS (lv_sub hl [1, 2, 3, 4, 5, 6, 7] rfl)
    · have hf := (if_pos hc).symm.trans hf
      refine lv_aload_n (pc := 79) hx hb dX8_weighChances_79 rfl (lv_at hl 1 rfl) ?_
      refine g_get (pc := 80) C fg_X8_54 hP 0 rfl rfl dX8_weighChances_80 ?_
      refine lv_iload (pc := 83) hx hb dX8_weighChances_83 (lv_at hl 7 rfl) ?_
      refine g_put (pc := 85) C fg_X8_222 ft_X7_11 hP hD hS 16 rfl rfl rfl (Nat.le_of_ble_eq_true rfl) dX8_weighChances_85 (fun H locs hP hD hS => ?_)
      have hP : va_P D classes (wl_X8_weighChances cA a x_stale x_finding land_flaw land_cells land_columns land_rows land_kinds land_rowAt land_columnAt land_ways land_beside houses_flaw houses_number houses_places bowls_number bowls_nights bowls_things dogs_number dogs_nights dogs_things walks_start walks_frost walks_present walks_raked trial_start trial_frost x6 trial_raked trial_steady trial_fresh trial_track trial_gone trial_trodden trial_lines chances_whole chances_above chances_below chances_shares) H := hP
      have hD : va_D A (wl_X8_weighChances cA a x_stale x_finding land_flaw land_cells land_columns land_rows land_kinds land_rowAt land_columnAt land_ways land_beside houses_flaw houses_number houses_places bowls_number bowls_nights bowls_things dogs_number dogs_nights dogs_things walks_start walks_frost walks_present walks_raked trial_start trial_frost x6 trial_raked trial_steady trial_fresh trial_track trial_gone trial_trodden trial_lines chances_whole chances_above chances_below chances_shares) := hD
      refine lv_aload_n (pc := 88) hx hb dX8_weighChances_88 rfl (lv_at hl 1 rfl) ?_
      refine lv_iload_n (pc := 89) hx hb dX8_weighChances_89 rfl (lv_at hl 2 rfl) ?_
      refine lv_i2l (pc := 90) hx hb dX8_weighChances_90 rfl ?_
      refine lv_iload (pc := 91) hx hb dX8_weighChances_91 (lv_at hl 0 rfl) ?_
      obtain ⟨r10, hq, hf⟩ := bind1_some hf
      refine fin_l (run_S (rest := [.ref (a 0)]) (pc := 93) (As := [.long (x1.toInt64), .int r9]) C mf_X8_300 (c_X8_power l D cA  (x1.toInt64) r9 r10 hq H.size) rfl rfl ⟨(Nat.le_of_ble_eq_true rfl), (Nat.le_of_ble_eq_true rfl)⟩ (preS_of C hP hD [] rfl rfl) rfl hl.1 rfl (Nat.le_of_ble_eq_true rfl) dX8_weighChances_93 ⟨Nat.zero_le _, Nat.zero_le _⟩) hP hD hS hA [] rfl rfl (fun H locs hP hS => ?_)
      have hP : va_P D classes (wl_X8_weighChances cA a x_stale x_finding land_flaw land_cells land_columns land_rows land_kinds land_rowAt land_columnAt land_ways land_beside houses_flaw houses_number houses_places bowls_number bowls_nights bowls_things dogs_number dogs_nights dogs_things walks_start walks_frost walks_present walks_raked trial_start trial_frost x6 trial_raked trial_steady trial_fresh trial_track trial_gone trial_trodden trial_lines chances_whole chances_above chances_below chances_shares) H := hP
      have hD : va_D A (wl_X8_weighChances cA a x_stale x_finding land_flaw land_cells land_columns land_rows land_kinds land_rowAt land_columnAt land_ways land_beside houses_flaw houses_number houses_places bowls_number bowls_nights bowls_things dogs_number dogs_nights dogs_things walks_start walks_frost walks_present walks_raked trial_start trial_frost x6 trial_raked trial_steady trial_fresh trial_track trial_gone trial_trodden trial_lines chances_whole chances_above chances_below chances_shares) := vd_a hD rfl
      refine lv_bipush (pc := 96) (v := 16) hx hb dX8_weighChances_96 bp_16 ?_
      refine lv_iload_n (pc := 98) hx hb dX8_weighChances_98 rfl (lv_at hl 2 rfl) ?_
      refine lv_isub (pc := 99) hx hb dX8_weighChances_99 ?_
      refine lv_i2l (pc := 100) hx hb dX8_weighChances_100 rfl ?_
      refine lv_iload (pc := 101) hx hb dX8_weighChances_101 (lv_at hl 6 rfl) ?_
      refine lv_iload (pc := 103) hx hb dX8_weighChances_103 (lv_at hl 0 rfl) ?_
      refine lv_isub (pc := 105) hx hb dX8_weighChances_105 ?_
      obtain ⟨r11, hq, hf⟩ := bind1_some hf
      refine fin_l (run_S (rest := [.long r10, .ref (a 0)]) (pc := 106) (As := [.long (((16 : Int32) - x1).toInt64), .int (x5 - r9)]) C mf_X8_300 (c_X8_power l D cA  (((16 : Int32) - x1).toInt64) (x5 - r9) r11 hq H.size) rfl rfl ⟨(Nat.le_of_ble_eq_true rfl), (Nat.le_of_ble_eq_true rfl)⟩ (preS_of C hP hD [] rfl rfl) rfl hl.1 rfl (Nat.le_of_ble_eq_true rfl) dX8_weighChances_106 ⟨Nat.zero_le _, Nat.zero_le _⟩) hP hD hS hA [] rfl rfl (fun H locs hP hS => ?_)
      have hP : va_P D classes (wl_X8_weighChances cA a x_stale x_finding land_flaw land_cells land_columns land_rows land_kinds land_rowAt land_columnAt land_ways land_beside houses_flaw houses_number houses_places bowls_number bowls_nights bowls_things dogs_number dogs_nights dogs_things walks_start walks_frost walks_present walks_raked trial_start trial_frost x6 trial_raked trial_steady trial_fresh trial_track trial_gone trial_trodden trial_lines chances_whole chances_above chances_below chances_shares) H := hP
      have hD : va_D A (wl_X8_weighChances cA a x_stale x_finding land_flaw land_cells land_columns land_rows land_kinds land_rowAt land_columnAt land_ways land_beside houses_flaw houses_number houses_places bowls_number bowls_nights bowls_things dogs_number dogs_nights dogs_things walks_start walks_frost walks_present walks_raked trial_start trial_frost x6 trial_raked trial_steady trial_fresh trial_track trial_gone trial_trodden trial_lines chances_whole chances_above chances_below chances_shares) := vd_a hD rfl
      refine lv_lmul (pc := 109) hx hb dX8_weighChances_109 ?_
      refine lv_iload_n (pc := 110) hx hb dX8_weighChances_110 rfl (lv_at hl 3 rfl) ?_
      refine lv_iload_n (pc := 111) hx hb dX8_weighChances_111 rfl (lv_at hl 4 rfl) ?_
      obtain ⟨c12, c13, c14, c15, c16, c17, c18, hq, hf⟩ := bind7_some hf
      refine fin_v (run_V (rest := []) (pc := 112) (As := [.long (r10 * r11), .int x2, .int x3]) C mf_X8_307 (c_X8_shareOut l D cA a x_stale x_finding land_flaw land_cells land_columns land_rows land_kinds land_rowAt land_columnAt land_ways land_beside houses_flaw houses_number houses_places bowls_number bowls_nights bowls_things dogs_number dogs_nights dogs_things trial_start trial_frost x6 trial_raked trial_steady trial_fresh trial_track trial_gone trial_trodden trial_lines chances_whole chances_above chances_below chances_shares (r10 * r11) x2 x3 (c12, c13, c14, c15, c16, c17, c18) hq H.size) rfl rfl ⟨(Nat.le_of_ble_eq_true rfl), (Nat.le_of_ble_eq_true rfl)⟩ (preV_of C hP hD [0, 1, 2, 3, 4, 5, 6, 7, 8, 9, 10, 11, 12, 13, 14, 16, 17, 18, 19, 20, 21, 22, 23, 24] rfl rfl 0 rfl rfl rfl) rfl hl.1 rfl (Nat.le_of_ble_eq_true rfl) dX8_weighChances_112 ⟨Nat.zero_le _, Nat.zero_le _⟩) hP hD hS hA [0, 1, 2, 3, 4, 5, 6, 7, 8, 9, 10, 11, 12, 13, 14, 16, 17, 18, 19, 20, 21, 22, 23, 24] rfl rfl (fun H locs hP hS => ?_)
      have hP : va_P D classes (wl_X8_weighChances cA a x_stale x_finding land_flaw land_cells land_columns land_rows land_kinds land_rowAt land_columnAt land_ways land_beside houses_flaw houses_number houses_places bowls_number bowls_nights bowls_things dogs_number dogs_nights dogs_things walks_start walks_frost walks_present walks_raked trial_start trial_frost x6 trial_raked c12 c13 c14 c15 c16 c17 chances_whole chances_above chances_below c18) H := hP
      have hD : va_D A (wl_X8_weighChances cA a x_stale x_finding land_flaw land_cells land_columns land_rows land_kinds land_rowAt land_columnAt land_ways land_beside houses_flaw houses_number houses_places bowls_number bowls_nights bowls_things dogs_number dogs_nights dogs_things walks_start walks_frost walks_present walks_raked trial_start trial_frost x6 trial_raked c12 c13 c14 c15 c16 c17 chances_whole chances_above chances_below c18) := vd_a hD rfl
      exact k_X8_weighChances_b115L54 C hA a x_stale x_finding land_flaw land_cells land_columns land_rows land_kinds land_rowAt land_columnAt land_ways land_beside houses_flaw houses_number houses_places bowls_number bowls_nights bowls_things dogs_number dogs_nights dogs_things walks_start walks_frost walks_present walks_raked trial_start trial_frost x6 trial_raked c12 c13 c14 c15 c16 c17 chances_whole chances_above chances_below c18 x1 x2 x3 x4 x5 x6 r hf hK H locs ls hP hD hS (lv_sub hl [1, 2, 3, 4, 5, 6, 7] rfl)
theorem kl_X8_weighChances_L54 (C : Cx RX8 cX8_weighChances 8 D cA p s m args c) (hA : ∀ q, s.heap.size ≤ q → A q) (a : Nat → Nat) (x_stale : Int32) (x_finding : Int32) (land_flaw : Int32) (land_cells : Int32) (land_columns : Int32) (land_rows : Int32) (land_kinds : Nat → Int32) (land_rowAt : Nat → Int32) (land_columnAt : Nat → Int32) (land_ways : Nat → Int32) (land_beside : Nat → Int32) (houses_flaw : Int32) (houses_number : Int32) (houses_places : Nat → Int32) (bowls_number : Int32) (bowls_nights : Nat → Int32) (bowls_things : Nat → Int32) (dogs_number : Int32) (dogs_nights : Nat → Int32) (dogs_things : Nat → Int32) (walks_start : Int32) (walks_frost : Int32) (walks_present : Int32) (walks_raked : Int32) (trial_start : Int32) (trial_frost : Int32) (trial_raked : Int32) (chances_whole : Int64) (chances_above : Int64) (chances_below : Int64) (x1 : Int32) (x2 : Int32) (x3 : Int32) (x4 : Int32) (x5 : Int32) : ∀ (n : Nat) (q : Int32 × Int32 × (Nat → Int32) × (Nat → Int32) × (Nat → Int32) × (Nat → Int32) × (Nat → Int64) × (Nat → Int32) × (Nat → Int64)) (z : (Int32 × (Nat → Int32) × (Nat → Int32) × (Nat → Int32) × (Nat → Int32) × (Nat → Int64) × (Nat → Int32) × (Nat → Int64))), loopF (fun q : Int32 × Int32 × (Nat → Int32) × (Nat → Int32) × (Nat → Int32) × (Nat → Int32) × (Nat → Int64) × (Nat → Int32) × (Nat → Int64) => f_X8_weighChances_L54 land_cells land_columns land_rows land_kinds land_rowAt land_columnAt land_ways land_beside houses_number houses_places bowls_number bowls_nights bowls_things dogs_number dogs_nights dogs_things trial_start trial_frost trial_raked x1 x2 x3 x4 x5 q.1 q.2.1 q.2.2.1 q.2.2.2.1 q.2.2.2.2.1 q.2.2.2.2.2.1 q.2.2.2.2.2.2.1 q.2.2.2.2.2.2.2.1 q.2.2.2.2.2.2.2.2) n q = some z → (fun q : Int32 × (Nat → Int32) × (Nat → Int32) × (Nat → Int32) × (Nat → Int32) × (Nat → Int64) × (Nat → Int32) × (Nat → Int64) => At p l e rm_X8_weighChances s m args below meth c D A 0 0 Q 8 121 (wl_X8_weighChances cA a x_stale x_finding land_flaw land_cells land_columns land_rows land_kinds land_rowAt land_columnAt land_ways land_beside houses_flaw houses_number houses_places bowls_number bowls_nights bowls_things dogs_number dogs_nights dogs_things walks_start walks_frost walks_present walks_raked trial_start trial_frost (q.1) trial_raked (q.2.1) (q.2.2.1) (q.2.2.2.1) (q.2.2.2.2.1) (q.2.2.2.2.2.1) (q.2.2.2.2.2.2.1) chances_whole chances_above chances_below (q.2.2.2.2.2.2.2)) [] []) z → At p l e rm_X8_weighChances s m args below meth c D A 0 0 Q 8 54 (wl_X8_weighChances cA a x_stale x_finding land_flaw land_cells land_columns land_rows land_kinds land_rowAt land_columnAt land_ways land_beside houses_flaw houses_number houses_places bowls_number bowls_nights bowls_things dogs_number dogs_nights dogs_things walks_start walks_frost walks_present walks_raked trial_start trial_frost (q.2.1) trial_raked (q.2.2.1) (q.2.2.2.1) (q.2.2.2.2.1) (q.2.2.2.2.2.1) (q.2.2.2.2.2.2.1) (q.2.2.2.2.2.2.2.1) chances_whole chances_above chances_below (q.2.2.2.2.2.2.2.2)) [(0, .ref (a 0)), (1, .int x1), (2, .int x2), (3, .int x3), (4, .int x4), (5, .int x5), (6, .int (q.1))] [] :=
  loop_lem (WP := fun q : Int32 × Int32 × (Nat → Int32) × (Nat → Int32) × (Nat → Int32) × (Nat → Int32) × (Nat → Int64) × (Nat → Int32) × (Nat → Int64) => At p l e rm_X8_weighChances s m args below meth c D A 0 0 Q 8 54 (wl_X8_weighChances cA a x_stale x_finding land_flaw land_cells land_columns land_rows land_kinds land_rowAt land_columnAt land_ways land_beside houses_flaw houses_number houses_places bowls_number bowls_nights bowls_things dogs_number dogs_nights dogs_things walks_start walks_frost walks_present walks_raked trial_start trial_frost (q.2.1) trial_raked (q.2.2.1) (q.2.2.2.1) (q.2.2.2.2.1) (q.2.2.2.2.2.1) (q.2.2.2.2.2.2.1) (q.2.2.2.2.2.2.2.1) chances_whole chances_above chances_below (q.2.2.2.2.2.2.2.2)) [(0, .ref (a 0)), (1, .int x1), (2, .int x2), (3, .int x3), (4, .int x4), (5, .int x5), (6, .int (q.1))] []) (WE := (fun q : Int32 × (Nat → Int32) × (Nat → Int32) × (Nat → Int32) × (Nat → Int32) × (Nat → Int64) × (Nat → Int32) × (Nat → Int64) => At p l e rm_X8_weighChances s m args below meth c D A 0 0 Q 8 121 (wl_X8_weighChances cA a x_stale x_finding land_flaw land_cells land_columns land_rows land_kinds land_rowAt land_columnAt land_ways land_beside houses_flaw houses_number houses_places bowls_number bowls_nights bowls_things dogs_number dogs_nights dogs_things walks_start walks_frost walks_present walks_raked trial_start trial_frost (q.1) trial_raked (q.2.1) (q.2.2.1) (q.2.2.2.1) (q.2.2.2.2.1) (q.2.2.2.2.2.1) (q.2.2.2.2.2.2.1) chances_whole chances_above chances_below (q.2.2.2.2.2.2.2)) [] [])) (fun q r hf hK => k_X8_weighChances_L54 C hA a x_stale x_finding land_flaw land_cells land_columns land_rows land_kinds land_rowAt land_columnAt land_ways land_beside houses_flaw houses_number houses_places bowls_number bowls_nights bowls_things dogs_number dogs_nights dogs_things walks_start walks_frost walks_present walks_raked trial_start trial_frost trial_raked chances_whole chances_above chances_below x1 x2 x3 x4 x5 q.1 q.2.1 q.2.2.1 q.2.2.2.1 q.2.2.2.2.1 q.2.2.2.2.2.1 q.2.2.2.2.2.2.1 q.2.2.2.2.2.2.2.1 q.2.2.2.2.2.2.2.2 r hf hK)
def f_X8_weighChances (land_cells : Int32) (land_columns : Int32) (land_rows : Int32) (land_kinds : Nat → Int32) (land_rowAt : Nat → Int32) (land_columnAt : Nat → Int32) (land_ways : Nat → Int32) (land_beside : Nat → Int32) (houses_number : Int32) (houses_places : Nat → Int32) (bowls_number : Int32) (bowls_nights : Nat → Int32) (bowls_things : Nat → Int32) (dogs_number : Int32) (dogs_nights : Nat → Int32) (dogs_things : Nat → Int32) (walks_start : Int32) (walks_frost : Int32) (walks_present : Int32) (walks_raked : Int32) (trial_start : Int32) (trial_frost : Int32) (trial_present : Int32) (trial_raked : Int32) (trial_steady : Nat → Int32) (trial_fresh : Nat → Int32) (trial_track : Nat → Int32) (trial_gone : Nat → Int32) (trial_trodden : Nat → Int64) (trial_lines : Nat → Int32) (chances_whole : Int64) (chances_shares : Nat → Int64) (x1 : Int32) (x2 : Int32) (x3 : Int32) : Option (Int32 × Int32 × Int32 × Int32 × (Nat → Int32) × (Nat → Int32) × (Nat → Int32) × (Nat → Int32) × (Nat → Int64) × (Nat → Int32) × Int64 × (Nat → Int64)) :=
  bind1 (f_X8_bowlsThatMatter land_cells bowls_number bowls_nights bowls_things walks_frost x2) (fun r1 => bind1 (f_J6_bitCount_0f7a4 r1) (fun r2 => bind1 (f_J7_fill_d0a16 8 chances_shares (0 : Int64)) (fun c3 => bind1 (f_X8_power (16 : Int64) r2) (fun r4 => bind4 (f_X7_becomeLike walks_start walks_frost walks_present walks_raked trial_start trial_frost trial_present trial_raked) (fun c5 c6 c7 c8 => bind8 (loopF (fun q : Int32 × Int32 × (Nat → Int32) × (Nat → Int32) × (Nat → Int32) × (Nat → Int32) × (Nat → Int64) × (Nat → Int32) × (Nat → Int64) => f_X8_weighChances_L54 land_cells land_columns land_rows land_kinds land_rowAt land_columnAt land_ways land_beside houses_number houses_places bowls_number bowls_nights bowls_things dogs_number dogs_nights dogs_things c5 c6 c8 x1 x2 x3 r1 r2 q.1 q.2.1 q.2.2.1 q.2.2.2.1 q.2.2.2.2.1 q.2.2.2.2.2.1 q.2.2.2.2.2.2.1 q.2.2.2.2.2.2.2.1 q.2.2.2.2.2.2.2.2) FU ((0 : Int32), c7, trial_steady, trial_fresh, trial_track, trial_gone, trial_trodden, trial_lines, c3)) (fun u19 u20 u21 u22 u23 u24 u25 u26 => some (c5, c6, u19, c8, u20, u21, u22, u23, u24, u25, r4, u26)))))))
set_option maxHeartbeats 4000000 in
set_option maxRecDepth 100000 in
theorem k_X8_weighChances (C : Cx RX8 cX8_weighChances 8 D cA p s m args c) (hr : meth.sig.returnType = none) (hlk : meth.locks = false) (hA : ∀ q, s.heap.size ≤ q → va_A ws0 sz q) (a : Nat → Nat) (x_stale : Int32) (x_finding : Int32) (land_flaw : Int32) (land_cells : Int32) (land_columns : Int32) (land_rows : Int32) (land_kinds : Nat → Int32) (land_rowAt : Nat → Int32) (land_columnAt : Nat → Int32) (land_ways : Nat → Int32) (land_beside : Nat → Int32) (houses_flaw : Int32) (houses_number : Int32) (houses_places : Nat → Int32) (bowls_number : Int32) (bowls_nights : Nat → Int32) (bowls_things : Nat → Int32) (dogs_number : Int32) (dogs_nights : Nat → Int32) (dogs_things : Nat → Int32) (walks_start : Int32) (walks_frost : Int32) (walks_present : Int32) (walks_raked : Int32) (trial_start : Int32) (trial_frost : Int32) (trial_present : Int32) (trial_raked : Int32) (trial_steady : Nat → Int32) (trial_fresh : Nat → Int32) (trial_track : Nat → Int32) (trial_gone : Nat → Int32) (trial_trodden : Nat → Int64) (trial_lines : Nat → Int32) (chances_whole : Int64) (chances_above : Int64) (chances_below : Int64) (chances_shares : Nat → Int64) (x1 : Int32) (x2 : Int32) (x3 : Int32) (r : Int32 × Int32 × Int32 × Int32 × (Nat → Int32) × (Nat → Int32) × (Nat → Int32) × (Nat → Int32) × (Nat → Int64) × (Nat → Int32) × Int64 × (Nat → Int64)) (hf : f_X8_weighChances land_cells land_columns land_rows land_kinds land_rowAt land_columnAt land_ways land_beside houses_number houses_places bowls_number bowls_nights bowls_things dogs_number dogs_nights dogs_things walks_start walks_frost walks_present walks_raked trial_start trial_frost trial_present trial_raked trial_steady trial_fresh trial_track trial_gone trial_trodden trial_lines chances_whole chances_shares x1 x2 x3 = some r) : At p l e rm_X8_weighChances s m args below meth c D (va_A ws0 sz) 0 0 (MQ below (PostV D ws0 (wl_X8_weighChances cA a x_stale x_finding land_flaw land_cells land_columns land_rows land_kinds land_rowAt land_columnAt land_ways land_beside houses_flaw houses_number houses_places bowls_number bowls_nights bowls_things dogs_number dogs_nights dogs_things walks_start walks_frost walks_present walks_raked (r.1) (r.2.1) (r.2.2.1) (r.2.2.2.1) (r.2.2.2.2.1) (r.2.2.2.2.2.1) (r.2.2.2.2.2.2.1) (r.2.2.2.2.2.2.2.1) (r.2.2.2.2.2.2.2.2.1) (r.2.2.2.2.2.2.2.2.2.1) (r.2.2.2.2.2.2.2.2.2.2.1) chances_above chances_below (r.2.2.2.2.2.2.2.2.2.2.2)) sz) args s 0 0 (va_A ws0 sz)) 8 0 (wl_X8_weighChances cA a x_stale x_finding land_flaw land_cells land_columns land_rows land_kinds land_rowAt land_columnAt land_ways land_beside houses_flaw houses_number houses_places bowls_number bowls_nights bowls_things dogs_number dogs_nights dogs_things walks_start walks_frost walks_present walks_raked trial_start trial_frost trial_present trial_raked trial_steady trial_fresh trial_track trial_gone trial_trodden trial_lines chances_whole chances_above chances_below chances_shares) [(0, .ref (a 0)), (1, .int x1), (2, .int x2), (3, .int x3)] [] := by
  intro H locs ls hP hD hS hl
  have hx := C.1
  have hb := C.2.1
  have hown := C.2.2.2.1
  have hts := C.2.2.2.2.1
  unfold f_X8_weighChances at hf
  refine lv_aload_n (pc := 0) hx hb dX8_weighChances_0 rfl (lv_at hl 0 rfl) ?_
  refine lv_iload_n (pc := 1) hx hb dX8_weighChances_1 rfl (lv_at hl 2 rfl) ?_
  obtain ⟨r1, hq, hf⟩ := bind1_some hf
  refine fin_i (run_V (rest := []) (pc := 2) (As := [.int x2]) C mf_X8_284 (c_X8_bowlsThatMatter l D cA a x_stale x_finding land_flaw land_cells land_columns land_rows bowls_number bowls_nights bowls_things walks_start walks_frost walks_present walks_raked x2 r1 hq H.size) rfl rfl ⟨(Nat.le_of_ble_eq_true rfl), (Nat.le_of_ble_eq_true rfl)⟩ (preV_of C hP hD [0, 1, 9, 10, 11, 15] rfl rfl 0 rfl rfl rfl) rfl hl.1 rfl (Nat.le_of_ble_eq_true rfl) dX8_weighChances_2 ⟨Nat.zero_le _, Nat.zero_le _⟩) hP hD hS hA [0, 1, 9, 10, 11, 15] rfl rfl (fun H locs hP hS => ?_)
  have hP : va_P D classes (wl_X8_weighChances cA a x_stale x_finding land_flaw land_cells land_columns land_rows land_kinds land_rowAt land_columnAt land_ways land_beside houses_flaw houses_number houses_places bowls_number bowls_nights bowls_things dogs_number dogs_nights dogs_things walks_start walks_frost walks_present walks_raked trial_start trial_frost trial_present trial_raked trial_steady trial_fresh trial_track trial_gone trial_trodden trial_lines chances_whole chances_above chances_below chances_shares) H := hP
  have hD : va_D (va_A ws0 sz) (wl_X8_weighChances cA a x_stale x_finding land_flaw land_cells land_columns land_rows land_kinds land_rowAt land_columnAt land_ways land_beside houses_flaw houses_number houses_places bowls_number bowls_nights bowls_things dogs_number dogs_nights dogs_things walks_start walks_frost walks_present walks_raked trial_start trial_frost trial_present trial_raked trial_steady trial_fresh trial_track trial_gone trial_trodden trial_lines chances_whole chances_above chances_below chances_shares) := vd_a hD rfl
  refine lv_istore (pc := 5) (lv' := [(4, .int r1), (0, .ref (a 0)), (1, .int x1), (2, .int x2), (3, .int x3)]) hx hb dX8_weighChances_5 hl (Nat.le_of_ble_eq_true rfl) rfl (fun ls hl => ?_)
  refine lv_iload (pc := 7) hx hb dX8_weighChances_7 (lv_at hl 0 rfl) ?_
  obtain ⟨r2, hq, hf⟩ := bind1_some hf
  refine fin_i (run_S (rest := []) (pc := 9) (As := [.int r1]) C mf_X8_287 (c_J6_bitCount_0f7a4 l D cA  r1 r2 hq H.size) rfl rfl ⟨(Nat.le_of_ble_eq_true rfl), (Nat.le_of_ble_eq_true rfl)⟩ (preS_of C hP hD [] rfl rfl) rfl hl.1 rfl (Nat.le_of_ble_eq_true rfl) dX8_weighChances_9 ⟨Nat.zero_le _, Nat.zero_le _⟩) hP hD hS hA [] rfl rfl (fun H locs hP hS => ?_)
  have hP : va_P D classes (wl_X8_weighChances cA a x_stale x_finding land_flaw land_cells land_columns land_rows land_kinds land_rowAt land_columnAt land_ways land_beside houses_flaw houses_number houses_places bowls_number bowls_nights bowls_things dogs_number dogs_nights dogs_things walks_start walks_frost walks_present walks_raked trial_start trial_frost trial_present trial_raked trial_steady trial_fresh trial_track trial_gone trial_trodden trial_lines chances_whole chances_above chances_below chances_shares) H := hP
  have hD : va_D (va_A ws0 sz) (wl_X8_weighChances cA a x_stale x_finding land_flaw land_cells land_columns land_rows land_kinds land_rowAt land_columnAt land_ways land_beside houses_flaw houses_number houses_places bowls_number bowls_nights bowls_things dogs_number dogs_nights dogs_things walks_start walks_frost walks_present walks_raked trial_start trial_frost trial_present trial_raked trial_steady trial_fresh trial_track trial_gone trial_trodden trial_lines chances_whole chances_above chances_below chances_shares) := vd_a hD rfl
  refine lv_istore (pc := 12) (lv' := [(5, .int r2), (4, .int r1), (0, .ref (a 0)), (1, .int x1), (2, .int x2), (3, .int x3)]) hx hb dX8_weighChances_12 hl (Nat.le_of_ble_eq_true rfl) rfl (fun ls hl => ?_)
  refine lv_aload_n (pc := 14) hx hb dX8_weighChances_14 rfl (lv_at hl 2 rfl) ?_
  refine g_get (pc := 15) C fg_X8_67 hP 0 rfl rfl dX8_weighChances_15 ?_
  refine g_get (pc := 18) C fg_X8_291 hP 23 rfl rfl dX8_weighChances_18 ?_
  refine lv_lconst (pc := 21) (v := 0) hx hb dX8_weighChances_21 rfl ?_
  obtain ⟨c3, hq, hf⟩ := bind1_some hf
  refine fin_v (run_S (rest := []) (pc := 22) (As := [.ref (a 43), .long (0 : Int64)]) C mf_X8_295 (c_J7_fill_d0a16 l D cA (a 43) 8 chances_shares (0 : Int64) c3 hq H.size) rfl rfl ⟨(Nat.le_of_ble_eq_true rfl), (Nat.le_of_ble_eq_true rfl)⟩ (preS_of C hP hD [24] rfl rfl) rfl hl.1 rfl (Nat.le_of_ble_eq_true rfl) dX8_weighChances_22 ⟨Nat.zero_le _, Nat.zero_le _⟩) hP hD hS hA [24] rfl rfl (fun H locs hP hS => ?_)
  have hP : va_P D classes (wl_X8_weighChances cA a x_stale x_finding land_flaw land_cells land_columns land_rows land_kinds land_rowAt land_columnAt land_ways land_beside houses_flaw houses_number houses_places bowls_number bowls_nights bowls_things dogs_number dogs_nights dogs_things walks_start walks_frost walks_present walks_raked trial_start trial_frost trial_present trial_raked trial_steady trial_fresh trial_track trial_gone trial_trodden trial_lines chances_whole chances_above chances_below c3) H := hP
  have hD : va_D (va_A ws0 sz) (wl_X8_weighChances cA a x_stale x_finding land_flaw land_cells land_columns land_rows land_kinds land_rowAt land_columnAt land_ways land_beside houses_flaw houses_number houses_places bowls_number bowls_nights bowls_things dogs_number dogs_nights dogs_things walks_start walks_frost walks_present walks_raked trial_start trial_frost trial_present trial_raked trial_steady trial_fresh trial_track trial_gone trial_trodden trial_lines chances_whole chances_above chances_below c3) := vd_a hD rfl
  refine lv_aload_n (pc := 25) hx hb dX8_weighChances_25 rfl (lv_at hl 2 rfl) ?_
  refine g_get (pc := 26) C fg_X8_67 hP 0 rfl rfl dX8_weighChances_26 ?_
  refine lv_ldc2 (pc := 29) hx hb hown (hts _ (lg_in mw_322 rfl)) dX8_weighChances_29 ?_
  refine lv_iload (pc := 32) hx hb dX8_weighChances_32 (lv_at hl 0 rfl) ?_
  obtain ⟨r4, hq, hf⟩ := bind1_some hf
  refine fin_l (run_S (rest := [.ref (a 42)]) (pc := 34) (As := [.long (16 : Int64), .int r2]) C mf_X8_300 (c_X8_power l D cA  (16 : Int64) r2 r4 hq H.size) rfl rfl ⟨(Nat.le_of_ble_eq_true rfl), (Nat.le_of_ble_eq_true rfl)⟩ (preS_of C hP hD [] rfl rfl) rfl hl.1 rfl (Nat.le_of_ble_eq_true rfl) dX8_weighChances_34 ⟨Nat.zero_le _, Nat.zero_le _⟩) hP hD hS hA [] rfl rfl (fun H locs hP hS => ?_)
  have hP : va_P D classes (wl_X8_weighChances cA a x_stale x_finding land_flaw land_cells land_columns land_rows land_kinds land_rowAt land_columnAt land_ways land_beside houses_flaw houses_number houses_places bowls_number bowls_nights bowls_things dogs_number dogs_nights dogs_things walks_start walks_frost walks_present walks_raked trial_start trial_frost trial_present trial_raked trial_steady trial_fresh trial_track trial_gone trial_trodden trial_lines chances_whole chances_above chances_below c3) H := hP
  have hD : va_D (va_A ws0 sz) (wl_X8_weighChances cA a x_stale x_finding land_flaw land_cells land_columns land_rows land_kinds land_rowAt land_columnAt land_ways land_beside houses_flaw houses_number houses_places bowls_number bowls_nights bowls_things dogs_number dogs_nights dogs_things walks_start walks_frost walks_present walks_raked trial_start trial_frost trial_present trial_raked trial_steady trial_fresh trial_track trial_gone trial_trodden trial_lines chances_whole chances_above chances_below c3) := vd_a hD rfl
  refine g_put (pc := 37) C fg_X8_304 ft_X0_1 hP hD hS 23 rfl rfl rfl (Nat.le_of_ble_eq_true rfl) dX8_weighChances_37 (fun H locs hP hD hS => ?_)
  have hP : va_P D classes (wl_X8_weighChances cA a x_stale x_finding land_flaw land_cells land_columns land_rows land_kinds land_rowAt land_columnAt land_ways land_beside houses_flaw houses_number houses_places bowls_number bowls_nights bowls_things dogs_number dogs_nights dogs_things walks_start walks_frost walks_present walks_raked trial_start trial_frost trial_present trial_raked trial_steady trial_fresh trial_track trial_gone trial_trodden trial_lines r4 chances_above chances_below c3) H := hP
  have hD : va_D (va_A ws0 sz) (wl_X8_weighChances cA a x_stale x_finding land_flaw land_cells land_columns land_rows land_kinds land_rowAt land_columnAt land_ways land_beside houses_flaw houses_number houses_places bowls_number bowls_nights bowls_things dogs_number dogs_nights dogs_things walks_start walks_frost walks_present walks_raked trial_start trial_frost trial_present trial_raked trial_steady trial_fresh trial_track trial_gone trial_trodden trial_lines r4 chances_above chances_below c3) := hD
  refine lv_aload_n (pc := 40) hx hb dX8_weighChances_40 rfl (lv_at hl 2 rfl) ?_
  refine g_get (pc := 41) C fg_X8_54 hP 0 rfl rfl dX8_weighChances_41 ?_
  refine lv_aload_n (pc := 44) hx hb dX8_weighChances_44 rfl (lv_at hl 2 rfl) ?_
  refine g_get (pc := 45) C fg_X8_50 hP 0 rfl rfl dX8_weighChances_45 ?_
  obtain ⟨c5, c6, c7, c8, hq, hf⟩ := bind4_some hf
  refine fin_v (run_V (rest := []) (pc := 48) (As := [.ref (a 27)]) C mf_X8_192 (c_X7_becomeLike l D cA (a 6) (a 15) (a 19) (a 27) (a 28) (a 29) (a 30) (a 31) (a 32) (a 33) (a 34) (a 35) (a 36) (a 37) (a 38) (a 39) (a 40) walks_start walks_frost walks_present walks_raked trial_start trial_frost trial_present trial_raked (c5, c6, c7, c8) hq H.size) rfl rfl ⟨(Nat.le_of_ble_eq_true rfl), (Nat.le_of_ble_eq_true rfl)⟩ (preV_of C hP hD [15, 16] rfl rfl 1 rfl rfl rfl) rfl hl.1 rfl (Nat.le_of_ble_eq_true rfl) dX8_weighChances_48 ⟨Nat.zero_le _, Nat.zero_le _⟩) hP hD hS hA [15, 16] rfl rfl (fun H locs hP hS => ?_)
  have hP : va_P D classes (wl_X8_weighChances cA a x_stale x_finding land_flaw land_cells land_columns land_rows land_kinds land_rowAt land_columnAt land_ways land_beside houses_flaw houses_number houses_places bowls_number bowls_nights bowls_things dogs_number dogs_nights dogs_things walks_start walks_frost walks_present walks_raked c5 c6 c7 c8 trial_steady trial_fresh trial_track trial_gone trial_trodden trial_lines r4 chances_above chances_below c3) H := hP
  have hD : va_D (va_A ws0 sz) (wl_X8_weighChances cA a x_stale x_finding land_flaw land_cells land_columns land_rows land_kinds land_rowAt land_columnAt land_ways land_beside houses_flaw houses_number houses_places bowls_number bowls_nights bowls_things dogs_number dogs_nights dogs_things walks_start walks_frost walks_present walks_raked c5 c6 c7 c8 trial_steady trial_fresh trial_track trial_gone trial_trodden trial_lines r4 chances_above chances_below c3) := vd_a hD rfl
  refine lv_iconst (pc := 51) (v := 0) hx hb dX8_weighChances_51 ic_0 ?_
  refine lv_istore (pc := 52) (lv' := [(6, .int (0 : Int32)), (5, .int r2), (4, .int r1), (0, .ref (a 0)), (1, .int x1), (2, .int x2), (3, .int x3)]) hx hb dX8_weighChances_52 hl (Nat.le_of_ble_eq_true rfl) rfl (fun ls hl => ?_)
  obtain ⟨u19, u20, u21, u22, u23, u24, u25, u26, hq, hf⟩ := bind8_some hf
  refine kl_X8_weighChances_L54 C hA a x_stale x_finding land_flaw land_cells land_columns land_rows land_kinds land_rowAt land_columnAt land_ways land_beside houses_flaw houses_number houses_places bowls_number bowls_nights bowls_things dogs_number dogs_nights dogs_things walks_start walks_frost walks_present walks_raked c5 c6 c8 r4 chances_above chances_below x1 x2 x3 r1 r2 FU ((0 : Int32), c7, trial_steady, trial_fresh, trial_track, trial_gone, trial_trodden, trial_lines, c3) _ hq ?_ H locs ls hP hD hS (lv_sub hl [3, 4, 5, 6, 2, 1, 0] rfl)
  intro H locs ls hP hD hS hl
  have hP : va_P D classes (wl_X8_weighChances cA a x_stale x_finding land_flaw land_cells land_columns land_rows land_kinds land_rowAt land_columnAt land_ways land_beside houses_flaw houses_number houses_places bowls_number bowls_nights bowls_things dogs_number dogs_nights dogs_things walks_start walks_frost walks_present walks_raked c5 c6 u19 c8 u20 u21 u22 u23 u24 u25 r4 chances_above chances_below u26) H := hP
  have hD : va_D (va_A ws0 sz) (wl_X8_weighChances cA a x_stale x_finding land_flaw land_cells land_columns land_rows land_kinds land_rowAt land_columnAt land_ways land_beside houses_flaw houses_number houses_places bowls_number bowls_nights bowls_things dogs_number dogs_nights dogs_things walks_start walks_frost walks_present walks_raked c5 c6 u19 c8 u20 u21 u22 u23 u24 u25 r4 chances_above chances_below u26) := hD
  have hl : lv_has ls 8 [] := hl
  have hf := Option.some.inj hf
  subst hf
  exact ret_v C hr hlk hP hS dX8_weighChances_121
set_option maxRecDepth 100000 in
theorem c_X8_weighChances (l : Launch) (D : va_G) (cA : Nat → ClassId) (a : Nat → Nat) (x_stale : Int32) (x_finding : Int32) (land_flaw : Int32) (land_cells : Int32) (land_columns : Int32) (land_rows : Int32) (land_kinds : Nat → Int32) (land_rowAt : Nat → Int32) (land_columnAt : Nat → Int32) (land_ways : Nat → Int32) (land_beside : Nat → Int32) (houses_flaw : Int32) (houses_number : Int32) (houses_places : Nat → Int32) (bowls_number : Int32) (bowls_nights : Nat → Int32) (bowls_things : Nat → Int32) (dogs_number : Int32) (dogs_nights : Nat → Int32) (dogs_things : Nat → Int32) (walks_start : Int32) (walks_frost : Int32) (walks_present : Int32) (walks_raked : Int32) (trial_start : Int32) (trial_frost : Int32) (trial_present : Int32) (trial_raked : Int32) (trial_steady : Nat → Int32) (trial_fresh : Nat → Int32) (trial_track : Nat → Int32) (trial_gone : Nat → Int32) (trial_trodden : Nat → Int64) (trial_lines : Nat → Int32) (chances_whole : Int64) (chances_above : Int64) (chances_below : Int64) (chances_shares : Nat → Int64) (x1 : Int32) (x2 : Int32) (x3 : Int32) (r : Int32 × Int32 × Int32 × Int32 × (Nat → Int32) × (Nat → Int32) × (Nat → Int32) × (Nat → Int32) × (Nat → Int64) × (Nat → Int32) × Int64 × (Nat → Int64)) (hf : f_X8_weighChances land_cells land_columns land_rows land_kinds land_rowAt land_columnAt land_ways land_beside houses_number houses_places bowls_number bowls_nights bowls_things dogs_number dogs_nights dogs_things walks_start walks_frost walks_present walks_raked trial_start trial_frost trial_present trial_raked trial_steady trial_fresh trial_track trial_gone trial_trodden trial_lines chances_whole chances_shares x1 x2 x3 = some r) (sz : Nat) : Met l yX8_weighChances (Cond.code yX8_weighChances cX8_weighChances 8 none :: lw_good) rm_X8_weighChances (PreX D cA [.ref (a 0), .int x1, .int x2, .int x3] sz (wl_X8_weighChances cA a x_stale x_finding land_flaw land_cells land_columns land_rows land_kinds land_rowAt land_columnAt land_ways land_beside houses_flaw houses_number houses_places bowls_number bowls_nights bowls_things dogs_number dogs_nights dogs_things walks_start walks_frost walks_present walks_raked trial_start trial_frost trial_present trial_raked trial_steady trial_fresh trial_track trial_gone trial_trodden trial_lines chances_whole chances_above chances_below chances_shares)) (PostV D (wl_X8_weighChances cA a x_stale x_finding land_flaw land_cells land_columns land_rows land_kinds land_rowAt land_columnAt land_ways land_beside houses_flaw houses_number houses_places bowls_number bowls_nights bowls_things dogs_number dogs_nights dogs_things walks_start walks_frost walks_present walks_raked trial_start trial_frost trial_present trial_raked trial_steady trial_fresh trial_track trial_gone trial_trodden trial_lines chances_whole chances_above chances_below chances_shares) (wl_X8_weighChances cA a x_stale x_finding land_flaw land_cells land_columns land_rows land_kinds land_rowAt land_columnAt land_ways land_beside houses_flaw houses_number houses_places bowls_number bowls_nights bowls_things dogs_number dogs_nights dogs_things walks_start walks_frost walks_present walks_raked (r.1) (r.2.1) (r.2.2.1) (r.2.2.2.1) (r.2.2.2.2.1) (r.2.2.2.2.2.1) (r.2.2.2.2.2.2.1) (r.2.2.2.2.2.2.2.1) (r.2.2.2.2.2.2.2.2.1) (r.2.2.2.2.2.2.2.2.2.1) (r.2.2.2.2.2.2.2.2.2.2.1) chances_above chances_below (r.2.2.2.2.2.2.2.2.2.2.2)) sz) 0 0 (va_A (wl_X8_weighChances cA a x_stale x_finding land_flaw land_cells land_columns land_rows land_kinds land_rowAt land_columnAt land_ways land_beside houses_flaw houses_number houses_places bowls_number bowls_nights bowls_things dogs_number dogs_nights dogs_things walks_start walks_frost walks_present walks_raked trial_start trial_frost trial_present trial_raked trial_steady trial_fresh trial_track trial_gone trial_trodden trial_lines chances_whole chances_above chances_below chances_shares) sz) :=
  met_of (by decide) (Nat.le_of_ble_eq_true rfl) (fun p e s m args below meth c C hr hlk hA => k_X8_weighChances C hr hlk hA a x_stale x_finding land_flaw land_cells land_columns land_rows land_kinds land_rowAt land_columnAt land_ways land_beside houses_flaw houses_number houses_places bowls_number bowls_nights bowls_things dogs_number dogs_nights dogs_things walks_start walks_frost walks_present walks_raked trial_start trial_frost trial_present trial_raked trial_steady trial_fresh trial_track trial_gone trial_trodden trial_lines chances_whole chances_above chances_below chances_shares x1 x2 x3 r hf)
end

abbrev wl_X8_cat (cA : Nat → ClassId) (a : Nat → Nat) (x_stale : Int32) (x_finding : Int32) (land_flaw : Int32) (land_cells : Int32) (land_columns : Int32) (land_rows : Int32) (land_kinds : Nat → Int32) (land_rowAt : Nat → Int32) (land_columnAt : Nat → Int32) (land_ways : Nat → Int32) (land_beside : Nat → Int32) (houses_flaw : Int32) (houses_number : Int32) (houses_places : Nat → Int32) (bowls_number : Int32) (bowls_nights : Nat → Int32) (bowls_things : Nat → Int32) (dogs_number : Int32) (dogs_nights : Nat → Int32) (dogs_things : Nat → Int32) (walks_start : Int32) (walks_frost : Int32) (walks_present : Int32) (walks_raked : Int32) (trial_start : Int32) (trial_frost : Int32) (trial_present : Int32) (trial_raked : Int32) (trial_steady : Nat → Int32) (trial_fresh : Nat → Int32) (trial_track : Nat → Int32) (trial_gone : Nat → Int32) (trial_trodden : Nat → Int64) (trial_lines : Nat → Int32) (chances_whole : Int64) (chances_above : Int64) (chances_below : Int64) (chances_shares : Nat → Int64) : va_W := [((a 0), .inr (8, [.ref (a 1), .ref (a 6), .ref (a 12), .ref (a 15), .ref (a 19), .ref (a 23), .ref (a 27), .ref (a 34), .ref (a 41), .ref (a 42), .ref (a 44), .ref (a 45), .int x_stale, .int x_finding])), ((a 6), .inr (3, [.ref (a 7), .ref (a 8), .ref (a 9), .ref (a 10), .ref (a 11), .int land_flaw, .int land_cells, .int land_columns, .int land_rows])), ((a 7), .inl (cA 0, 36, .inl land_kinds)), ((a 8), .inl (cA 0, 36, .inl land_rowAt)), ((a 9), .inl (cA 0, 36, .inl land_columnAt)), ((a 10), .inl (cA 0, 36, .inl land_ways)), ((a 11), .inl (cA 0, 144, .inl land_beside)), ((a 12), .inr (1, [.ref (a 13), .ref (a 14), .int houses_flaw, .int houses_number])), ((a 13), .inl (cA 0, 8, .inl houses_places)), ((a 15), .inr (4, [.ref (a 16), .ref (a 17), .ref (a 18), .int bowls_number])), ((a 16), .inl (cA 0, 8, .inl bowls_nights)), ((a 17), .inl (cA 0, 8, .inl bowls_things)), ((a 19), .inr (4, [.ref (a 20), .ref (a 21), .ref (a 22), .int dogs_number])), ((a 20), .inl (cA 0, 8, .inl dogs_nights)), ((a 21), .inl (cA 0, 8, .inl dogs_things)), ((a 27), .inr (7, [.ref (a 6), .ref (a 15), .ref (a 19), .ref (a 28), .ref (a 29), .ref (a 30), .ref (a 31), .ref (a 32), .ref (a 33), .int walks_start, .int walks_frost, .int walks_present, .int walks_raked])), ((a 34), .inr (7, [.ref (a 6), .ref (a 15), .ref (a 19), .ref (a 35), .ref (a 36), .ref (a 37), .ref (a 38), .ref (a 39), .ref (a 40), .int trial_start, .int trial_frost, .int trial_present, .int trial_raked])), ((a 35), .inl (cA 0, 36, .inl trial_steady)), ((a 36), .inl (cA 0, 36, .inl trial_fresh)), ((a 37), .inl (cA 0, 250, .inl trial_track)), ((a 38), .inl (cA 0, 10, .inl trial_gone)), ((a 39), .inl (cA 1, 10, .inr (.inl trial_trodden))), ((a 40), .inl (cA 0, 60, .inl trial_lines)), ((a 42), .inr (0, [.ref (a 43), .long chances_whole, .long chances_above, .long chances_below])), ((a 43), .inl (cA 1, 8, .inr (.inl chances_shares)))]
abbrev rm_X8_cat : Room := { frames := 5, cells := 0, slots := 0, locals := 130 }
section
variable {p : Program} {l : Launch} {e : Env} {s : State} {m : MethodId} {args : Array Value} {below : List Frame} {meth : Method} {c : Code} {D : va_G} {cA : Nat → ClassId} {ws0 : va_W} {sz : Nat} {A : Nat → Prop} {Q : State → Prop}
def f_X8_cat_b29 (land_cells : Int32) (land_columns : Int32) (land_rows : Int32) (land_kinds : Nat → Int32) (land_rowAt : Nat → Int32) (land_columnAt : Nat → Int32) (land_ways : Nat → Int32) (land_beside : Nat → Int32) (houses_number : Int32) (houses_places : Nat → Int32) (bowls_number : Int32) (bowls_nights : Nat → Int32) (bowls_things : Nat → Int32) (dogs_number : Int32) (dogs_nights : Nat → Int32) (dogs_things : Nat → Int32) (walks_start : Int32) (walks_frost : Int32) (walks_present : Int32) (walks_raked : Int32) (trial_start : Int32) (trial_frost : Int32) (trial_present : Int32) (trial_raked : Int32) (trial_steady : Nat → Int32) (trial_fresh : Nat → Int32) (trial_track : Nat → Int32) (trial_gone : Nat → Int32) (trial_trodden : Nat → Int64) (trial_lines : Nat → Int32) (chances_whole : Int64) (chances_above : Int64) (chances_below : Int64) (chances_shares : Nat → Int64) : Option (Int64 × Int32 × Int32 × Int32 × Int32 × (Nat → Int32) × (Nat → Int32) × (Nat → Int32) × (Nat → Int32) × (Nat → Int64) × (Nat → Int32) × Int64 × Int64 × Int64 × (Nat → Int64)) :=
  some ((-9223372036854775806 : Int64), trial_start, trial_frost, trial_present, trial_raked, trial_steady, trial_fresh, trial_track, trial_gone, trial_trodden, trial_lines, chances_whole, chances_above, chances_below, chances_shares)
set_option maxHeartbeats 4000000 in
set_option maxRecDepth 100000 in
theorem k_X8_cat_b29 (C : Cx RX8 cX8_cat 6 D cA p s m args c) (hr : meth.sig.returnType = (some .long)) (hlk : meth.locks = false) (hA : ∀ q, s.heap.size ≤ q → va_A ws0 sz q) (a : Nat → Nat) (x_stale : Int32) (x_finding : Int32) (land_flaw : Int32) (land_cells : Int32) (land_columns : Int32) (land_rows : Int32) (land_kinds : Nat → Int32) (land_rowAt : Nat → Int32) (land_columnAt : Nat → Int32) (land_ways : Nat → Int32) (land_beside : Nat → Int32) (houses_flaw : Int32) (houses_number : Int32) (houses_places : Nat → Int32) (bowls_number : Int32) (bowls_nights : Nat → Int32) (bowls_things : Nat → Int32) (dogs_number : Int32) (dogs_nights : Nat → Int32) (dogs_things : Nat → Int32) (walks_start : Int32) (walks_frost : Int32) (walks_present : Int32) (walks_raked : Int32) (trial_start : Int32) (trial_frost : Int32) (trial_present : Int32) (trial_raked : Int32) (trial_steady : Nat → Int32) (trial_fresh : Nat → Int32) (trial_track : Nat → Int32) (trial_gone : Nat → Int32) (trial_trodden : Nat → Int64) (trial_lines : Nat → Int32) (chances_whole : Int64) (chances_above : Int64) (chances_below : Int64) (chances_shares : Nat → Int64) (r : Int64 × Int32 × Int32 × Int32 × Int32 × (Nat → Int32) × (Nat → Int32) × (Nat → Int32) × (Nat → Int32) × (Nat → Int64) × (Nat → Int32) × Int64 × Int64 × Int64 × (Nat → Int64)) (hf : f_X8_cat_b29 land_cells land_columns land_rows land_kinds land_rowAt land_columnAt land_ways land_beside houses_number houses_places bowls_number bowls_nights bowls_things dogs_number dogs_nights dogs_things walks_start walks_frost walks_present walks_raked trial_start trial_frost trial_present trial_raked trial_steady trial_fresh trial_track trial_gone trial_trodden trial_lines chances_whole chances_above chances_below chances_shares = some r) : At p l e rm_X8_cat s m args below meth c D (va_A ws0 sz) 0 0 (MQ below (PostL D r.1 ws0 (wl_X8_cat cA a x_stale x_finding land_flaw land_cells land_columns land_rows land_kinds land_rowAt land_columnAt land_ways land_beside houses_flaw houses_number houses_places bowls_number bowls_nights bowls_things dogs_number dogs_nights dogs_things walks_start walks_frost walks_present walks_raked (r.2.1) (r.2.2.1) (r.2.2.2.1) (r.2.2.2.2.1) (r.2.2.2.2.2.1) (r.2.2.2.2.2.2.1) (r.2.2.2.2.2.2.2.1) (r.2.2.2.2.2.2.2.2.1) (r.2.2.2.2.2.2.2.2.2.1) (r.2.2.2.2.2.2.2.2.2.2.1) (r.2.2.2.2.2.2.2.2.2.2.2.1) (r.2.2.2.2.2.2.2.2.2.2.2.2.1) (r.2.2.2.2.2.2.2.2.2.2.2.2.2.1) (r.2.2.2.2.2.2.2.2.2.2.2.2.2.2)) sz) args s 0 0 (va_A ws0 sz)) 6 29 (wl_X8_cat cA a x_stale x_finding land_flaw land_cells land_columns land_rows land_kinds land_rowAt land_columnAt land_ways land_beside houses_flaw houses_number houses_places bowls_number bowls_nights bowls_things dogs_number dogs_nights dogs_things walks_start walks_frost walks_present walks_raked trial_start trial_frost trial_present trial_raked trial_steady trial_fresh trial_track trial_gone trial_trodden trial_lines chances_whole chances_above chances_below chances_shares) [] [] := by
  intro H locs ls hP hD hS hl
  have hx := C.1
  have hb := C.2.1
  have hown := C.2.2.2.1
  have hts := C.2.2.2.2.1
  unfold f_X8_cat_b29 at hf
  refine lv_ldc2 (pc := 29) hx hb hown (hts _ (lg_in mw_287 rfl)) dX8_cat_29 ?_
  have hf := Option.some.inj hf
  subst hf
  exact ret_l C hr hlk hP hS dX8_cat_32
def f_X8_cat (land_cells : Int32) (land_columns : Int32) (land_rows : Int32) (land_kinds : Nat → Int32) (land_rowAt : Nat → Int32) (land_columnAt : Nat → Int32) (land_ways : Nat → Int32) (land_beside : Nat → Int32) (houses_number : Int32) (houses_places : Nat → Int32) (bowls_number : Int32) (bowls_nights : Nat → Int32) (bowls_things : Nat → Int32) (dogs_number : Int32) (dogs_nights : Nat → Int32) (dogs_things : Nat → Int32) (walks_start : Int32) (walks_frost : Int32) (walks_present : Int32) (walks_raked : Int32) (trial_start : Int32) (trial_frost : Int32) (trial_present : Int32) (trial_raked : Int32) (trial_steady : Nat → Int32) (trial_fresh : Nat → Int32) (trial_track : Nat → Int32) (trial_gone : Nat → Int32) (trial_trodden : Nat → Int64) (trial_lines : Nat → Int32) (chances_whole : Int64) (chances_above : Int64) (chances_below : Int64) (chances_shares : Nat → Int64) (x1 : Int32) (x2 : Int32) (x3 : Int32) (x4 : Int32) (x5 : Int32) : Option (Int64 × Int32 × Int32 × Int32 × Int32 × (Nat → Int32) × (Nat → Int32) × (Nat → Int32) × (Nat → Int32) × (Nat → Int64) × (Nat → Int32) × Int64 × Int64 × Int64 × (Nat → Int64)) :=
  bind1 (f_X8_isUpTo x1 (16 : Int32)) (fun r1 => if r1 = 0 then (f_X8_cat_b29 land_cells land_columns land_rows land_kinds land_rowAt land_columnAt land_ways land_beside houses_number houses_places bowls_number bowls_nights bowls_things dogs_number dogs_nights dogs_things walks_start walks_frost walks_present walks_raked trial_start trial_frost trial_present trial_raked trial_steady trial_fresh trial_track trial_gone trial_trodden trial_lines chances_whole chances_above chances_below chances_shares) else (bind1 (f_X8_isQuestion houses_number x2 x3 x4) (fun r2 => if r2 = 0 then (f_X8_cat_b29 land_cells land_columns land_rows land_kinds land_rowAt land_columnAt land_ways land_beside houses_number houses_places bowls_number bowls_nights bowls_things dogs_number dogs_nights dogs_things walks_start walks_frost walks_present walks_raked trial_start trial_frost trial_present trial_raked trial_steady trial_fresh trial_track trial_gone trial_trodden trial_lines chances_whole chances_above chances_below chances_shares) else (bind1 (f_X8_isUpTo x5 (1 : Int32)) (fun r3 => if r3 = 0 then (f_X8_cat_b29 land_cells land_columns land_rows land_kinds land_rowAt land_columnAt land_ways land_beside houses_number houses_places bowls_number bowls_nights bowls_things dogs_number dogs_nights dogs_things walks_start walks_frost walks_present walks_raked trial_start trial_frost trial_present trial_raked trial_steady trial_fresh trial_track trial_gone trial_trodden trial_lines chances_whole chances_above chances_below chances_shares) else (bind12 (f_X8_weighChances land_cells land_columns land_rows land_kinds land_rowAt land_columnAt land_ways land_beside houses_number houses_places bowls_number bowls_nights bowls_things dogs_number dogs_nights dogs_things walks_start walks_frost walks_present walks_raked trial_start trial_frost trial_present trial_raked trial_steady trial_fresh trial_track trial_gone trial_trodden trial_lines chances_whole chances_shares x1 x2 x4) (fun c4 c5 c6 c7 c8 c9 c10 c11 c12 c13 c14 c15 => bind2 (f_X0_reduce c14 chances_above chances_below c15 x3) (fun c16 c17 => if x5 = 0 then (some (c16, c4, c5, c6, c7, c8, c9, c10, c11, c12, c13, c14, c16, c17, c15)) else (some (c17, c4, c5, c6, c7, c8, c9, c10, c11, c12, c13, c14, c16, c17, c15))))))))))
set_option maxHeartbeats 4000000 in
set_option maxRecDepth 100000 in
theorem k_X8_cat (C : Cx RX8 cX8_cat 6 D cA p s m args c) (hr : meth.sig.returnType = (some .long)) (hlk : meth.locks = false) (hA : ∀ q, s.heap.size ≤ q → va_A ws0 sz q) (a : Nat → Nat) (x_stale : Int32) (x_finding : Int32) (land_flaw : Int32) (land_cells : Int32) (land_columns : Int32) (land_rows : Int32) (land_kinds : Nat → Int32) (land_rowAt : Nat → Int32) (land_columnAt : Nat → Int32) (land_ways : Nat → Int32) (land_beside : Nat → Int32) (houses_flaw : Int32) (houses_number : Int32) (houses_places : Nat → Int32) (bowls_number : Int32) (bowls_nights : Nat → Int32) (bowls_things : Nat → Int32) (dogs_number : Int32) (dogs_nights : Nat → Int32) (dogs_things : Nat → Int32) (walks_start : Int32) (walks_frost : Int32) (walks_present : Int32) (walks_raked : Int32) (trial_start : Int32) (trial_frost : Int32) (trial_present : Int32) (trial_raked : Int32) (trial_steady : Nat → Int32) (trial_fresh : Nat → Int32) (trial_track : Nat → Int32) (trial_gone : Nat → Int32) (trial_trodden : Nat → Int64) (trial_lines : Nat → Int32) (chances_whole : Int64) (chances_above : Int64) (chances_below : Int64) (chances_shares : Nat → Int64) (x1 : Int32) (x2 : Int32) (x3 : Int32) (x4 : Int32) (x5 : Int32) (r : Int64 × Int32 × Int32 × Int32 × Int32 × (Nat → Int32) × (Nat → Int32) × (Nat → Int32) × (Nat → Int32) × (Nat → Int64) × (Nat → Int32) × Int64 × Int64 × Int64 × (Nat → Int64)) (hf : f_X8_cat land_cells land_columns land_rows land_kinds land_rowAt land_columnAt land_ways land_beside houses_number houses_places bowls_number bowls_nights bowls_things dogs_number dogs_nights dogs_things walks_start walks_frost walks_present walks_raked trial_start trial_frost trial_present trial_raked trial_steady trial_fresh trial_track trial_gone trial_trodden trial_lines chances_whole chances_above chances_below chances_shares x1 x2 x3 x4 x5 = some r) : At p l e rm_X8_cat s m args below meth c D (va_A ws0 sz) 0 0 (MQ below (PostL D r.1 ws0 (wl_X8_cat cA a x_stale x_finding land_flaw land_cells land_columns land_rows land_kinds land_rowAt land_columnAt land_ways land_beside houses_flaw houses_number houses_places bowls_number bowls_nights bowls_things dogs_number dogs_nights dogs_things walks_start walks_frost walks_present walks_raked (r.2.1) (r.2.2.1) (r.2.2.2.1) (r.2.2.2.2.1) (r.2.2.2.2.2.1) (r.2.2.2.2.2.2.1) (r.2.2.2.2.2.2.2.1) (r.2.2.2.2.2.2.2.2.1) (r.2.2.2.2.2.2.2.2.2.1) (r.2.2.2.2.2.2.2.2.2.2.1) (r.2.2.2.2.2.2.2.2.2.2.2.1) (r.2.2.2.2.2.2.2.2.2.2.2.2.1) (r.2.2.2.2.2.2.2.2.2.2.2.2.2.1) (r.2.2.2.2.2.2.2.2.2.2.2.2.2.2)) sz) args s 0 0 (va_A ws0 sz)) 6 0 (wl_X8_cat cA a x_stale x_finding land_flaw land_cells land_columns land_rows land_kinds land_rowAt land_columnAt land_ways land_beside houses_flaw houses_number houses_places bowls_number bowls_nights bowls_things dogs_number dogs_nights dogs_things walks_start walks_frost walks_present walks_raked trial_start trial_frost trial_present trial_raked trial_steady trial_fresh trial_track trial_gone trial_trodden trial_lines chances_whole chances_above chances_below chances_shares) [(0, .ref (a 0)), (1, .int x1), (2, .int x2), (3, .int x3), (4, .int x4), (5, .int x5)] [] := by
  intro H locs ls hP hD hS hl
  have hx := C.1
  have hb := C.2.1
  have hown := C.2.2.2.1
  have hts := C.2.2.2.2.1
  unfold f_X8_cat at hf
  refine lv_iload_n (pc := 0) hx hb dX8_cat_0 rfl (lv_at hl 1 rfl) ?_
  refine lv_bipush (pc := 1) (v := 16) hx hb dX8_cat_1 bp_16 ?_
  obtain ⟨r1, hq, hf⟩ := bind1_some hf
  refine fin_i (run_S (rest := []) (pc := 3) (As := [.int x1, .int (16 : Int32)]) C mf_X8_90 (c_X8_isUpTo l D cA  x1 (16 : Int32) r1 hq H.size) rfl rfl ⟨(Nat.le_of_ble_eq_true rfl), (Nat.le_of_ble_eq_true rfl)⟩ (preS_of C hP hD [] rfl rfl) rfl hl.1 rfl (Nat.le_of_ble_eq_true rfl) dX8_cat_3 ⟨Nat.zero_le _, Nat.zero_le _⟩) hP hD hS hA [] rfl rfl (fun H locs hP hS => ?_)
  have hP : va_P D classes (wl_X8_cat cA a x_stale x_finding land_flaw land_cells land_columns land_rows land_kinds land_rowAt land_columnAt land_ways land_beside houses_flaw houses_number houses_places bowls_number bowls_nights bowls_things dogs_number dogs_nights dogs_things walks_start walks_frost walks_present walks_raked trial_start trial_frost trial_present trial_raked trial_steady trial_fresh trial_track trial_gone trial_trodden trial_lines chances_whole chances_above chances_below chances_shares) H := hP
  have hD : va_D (va_A ws0 sz) (wl_X8_cat cA a x_stale x_finding land_flaw land_cells land_columns land_rows land_kinds land_rowAt land_columnAt land_ways land_beside houses_flaw houses_number houses_places bowls_number bowls_nights bowls_things dogs_number dogs_nights dogs_things walks_start walks_frost walks_present walks_raked trial_start trial_frost trial_present trial_raked trial_steady trial_fresh trial_track trial_gone trial_trodden trial_lines chances_whole chances_above chances_below chances_shares) := vd_a hD rfl
  refine lv_if_eq (pc := 6) (tgt := 29) hx hb dX8_cat_6 (by decide) (fun hc => ?_) (fun hc => ?_)
  · have hf := (if_pos hc).symm.trans hf
    exact k_X8_cat_b29 C hr hlk hA a x_stale x_finding land_flaw land_cells land_columns land_rows land_kinds land_rowAt land_columnAt land_ways land_beside houses_flaw houses_number houses_places bowls_number bowls_nights bowls_things dogs_number dogs_nights dogs_things walks_start walks_frost walks_present walks_raked trial_start trial_frost trial_present trial_raked trial_steady trial_fresh trial_track trial_gone trial_trodden trial_lines chances_whole chances_above chances_below chances_shares r hf H locs ls hP hD hS (lv_sub hl [] rfl)
  · have hf := (if_neg hc).symm.trans hf
    refine lv_aload_n (pc := 9) hx hb dX8_cat_9 rfl (lv_at hl 0 rfl) ?_
    refine lv_iload_n (pc := 10) hx hb dX8_cat_10 rfl (lv_at hl 2 rfl) ?_
    refine lv_iload_n (pc := 11) hx hb dX8_cat_11 rfl (lv_at hl 3 rfl) ?_
    refine lv_iload (pc := 12) hx hb dX8_cat_12 (lv_at hl 4 rfl) ?_
    obtain ⟨r2, hq, hf⟩ := bind1_some hf
    refine fin_i (run_V (rest := []) (pc := 14) (As := [.int x2, .int x3, .int x4]) C mf_X8_183 (c_X8_isQuestion l D cA a x_stale x_finding houses_flaw houses_number x2 x3 x4 r2 hq H.size) rfl rfl ⟨(Nat.le_of_ble_eq_true rfl), (Nat.le_of_ble_eq_true rfl)⟩ (preV_of C hP hD [0, 7] rfl rfl 0 rfl rfl rfl) rfl hl.1 rfl (Nat.le_of_ble_eq_true rfl) dX8_cat_14 ⟨Nat.zero_le _, Nat.zero_le _⟩) hP hD hS hA [0, 7] rfl rfl (fun H locs hP hS => ?_)
    have hP : va_P D classes (wl_X8_cat cA a x_stale x_finding land_flaw land_cells land_columns land_rows land_kinds land_rowAt land_columnAt land_ways land_beside houses_flaw houses_number houses_places bowls_number bowls_nights bowls_things dogs_number dogs_nights dogs_things walks_start walks_frost walks_present walks_raked trial_start trial_frost trial_present trial_raked trial_steady trial_fresh trial_track trial_gone trial_trodden trial_lines chances_whole chances_above chances_below chances_shares) H := hP
    have hD : va_D (va_A ws0 sz) (wl_X8_cat cA a x_stale x_finding land_flaw land_cells land_columns land_rows land_kinds land_rowAt land_columnAt land_ways land_beside houses_flaw houses_number houses_places bowls_number bowls_nights bowls_things dogs_number dogs_nights dogs_things walks_start walks_frost walks_present walks_raked trial_start trial_frost trial_present trial_raked trial_steady trial_fresh trial_track trial_gone trial_trodden trial_lines chances_whole chances_above chances_below chances_shares) := vd_a hD rfl
    refine lv_if_eq (pc := 17) (tgt := 29) hx hb dX8_cat_17 (by decide) (fun hc => ?_) (fun hc => ?_)
    · have hf := (if_pos hc).symm.trans hf
      exact k_X8_cat_b29 C hr hlk hA a x_stale x_finding land_flaw land_cells land_columns land_rows land_kinds land_rowAt land_columnAt land_ways land_beside houses_flaw houses_number houses_places bowls_number bowls_nights bowls_things dogs_number dogs_nights dogs_things walks_start walks_frost walks_present walks_raked trial_start trial_frost trial_present trial_raked trial_steady trial_fresh trial_track trial_gone trial_trodden trial_lines chances_whole chances_above chances_below chances_shares r hf H locs ls hP hD hS (lv_sub hl [] rfl)
    · have hf := (if_neg hc).symm.trans hf
      refine lv_iload (pc := 20) hx hb dX8_cat_20 (lv_at hl 5 rfl) ?_
      refine lv_iconst (pc := 22) (v := 1) hx hb dX8_cat_22 ic_1 ?_
      obtain ⟨r3, hq, hf⟩ := bind1_some hf
      refine fin_i (run_S (rest := []) (pc := 23) (As := [.int x5, .int (1 : Int32)]) C mf_X8_90 (c_X8_isUpTo l D cA  x5 (1 : Int32) r3 hq H.size) rfl rfl ⟨(Nat.le_of_ble_eq_true rfl), (Nat.le_of_ble_eq_true rfl)⟩ (preS_of C hP hD [] rfl rfl) rfl hl.1 rfl (Nat.le_of_ble_eq_true rfl) dX8_cat_23 ⟨Nat.zero_le _, Nat.zero_le _⟩) hP hD hS hA [] rfl rfl (fun H locs hP hS => ?_)
      have hP : va_P D classes (wl_X8_cat cA a x_stale x_finding land_flaw land_cells land_columns land_rows land_kinds land_rowAt land_columnAt land_ways land_beside houses_flaw houses_number houses_places bowls_number bowls_nights bowls_things dogs_number dogs_nights dogs_things walks_start walks_frost walks_present walks_raked trial_start trial_frost trial_present trial_raked trial_steady trial_fresh trial_track trial_gone trial_trodden trial_lines chances_whole chances_above chances_below chances_shares) H := hP
      have hD : va_D (va_A ws0 sz) (wl_X8_cat cA a x_stale x_finding land_flaw land_cells land_columns land_rows land_kinds land_rowAt land_columnAt land_ways land_beside houses_flaw houses_number houses_places bowls_number bowls_nights bowls_things dogs_number dogs_nights dogs_things walks_start walks_frost walks_present walks_raked trial_start trial_frost trial_present trial_raked trial_steady trial_fresh trial_track trial_gone trial_trodden trial_lines chances_whole chances_above chances_below chances_shares) := vd_a hD rfl
      refine lv_if_ne (pc := 26) (tgt := 33) hx hb dX8_cat_26 (by decide) (fun hc => ?_) (fun hc => ?_)
      · have hf := (if_neg hc).symm.trans hf
        refine lv_aload_n (pc := 33) hx hb dX8_cat_33 rfl (lv_at hl 0 rfl) ?_
        refine lv_iload_n (pc := 34) hx hb dX8_cat_34 rfl (lv_at hl 1 rfl) ?_
        refine lv_iload_n (pc := 35) hx hb dX8_cat_35 rfl (lv_at hl 2 rfl) ?_
        refine lv_iload (pc := 36) hx hb dX8_cat_36 (lv_at hl 4 rfl) ?_
        obtain ⟨c4, c5, c6, c7, c8, c9, c10, c11, c12, c13, c14, c15, hq, hf⟩ := bind12_some hf
        refine fin_v (run_V (rest := []) (pc := 38) (As := [.int x1, .int x2, .int x4]) C mf_X8_239 (c_X8_weighChances l D cA a x_stale x_finding land_flaw land_cells land_columns land_rows land_kinds land_rowAt land_columnAt land_ways land_beside houses_flaw houses_number houses_places bowls_number bowls_nights bowls_things dogs_number dogs_nights dogs_things walks_start walks_frost walks_present walks_raked trial_start trial_frost trial_present trial_raked trial_steady trial_fresh trial_track trial_gone trial_trodden trial_lines chances_whole chances_above chances_below chances_shares x1 x2 x4 (c4, c5, c6, c7, c8, c9, c10, c11, c12, c13, c14, c15) hq H.size) rfl rfl ⟨(Nat.le_of_ble_eq_true rfl), (Nat.le_of_ble_eq_true rfl)⟩ (preV_of C hP hD [0, 1, 2, 3, 4, 5, 6, 7, 8, 9, 10, 11, 12, 13, 14, 15, 16, 17, 18, 19, 20, 21, 22, 23, 24] rfl rfl 0 rfl rfl rfl) rfl hl.1 rfl (Nat.le_of_ble_eq_true rfl) dX8_cat_38 ⟨Nat.zero_le _, Nat.zero_le _⟩) hP hD hS hA [0, 1, 2, 3, 4, 5, 6, 7, 8, 9, 10, 11, 12, 13, 14, 15, 16, 17, 18, 19, 20, 21, 22, 23, 24] rfl rfl (fun H locs hP hS => ?_)
        have hP : va_P D classes (wl_X8_cat cA a x_stale x_finding land_flaw land_cells land_columns land_rows land_kinds land_rowAt land_columnAt land_ways land_beside houses_flaw houses_number houses_places bowls_number bowls_nights bowls_things dogs_number dogs_nights dogs_things walks_start walks_frost walks_present walks_raked c4 c5 c6 c7 c8 c9 c10 c11 c12 c13 c14 chances_above chances_below c15) H := hP
        have hD : va_D (va_A ws0 sz) (wl_X8_cat cA a x_stale x_finding land_flaw land_cells land_columns land_rows land_kinds land_rowAt land_columnAt land_ways land_beside houses_flaw houses_number houses_places bowls_number bowls_nights bowls_things dogs_number dogs_nights dogs_things walks_start walks_frost walks_present walks_raked c4 c5 c6 c7 c8 c9 c10 c11 c12 c13 c14 chances_above chances_below c15) := vd_a hD rfl
        refine lv_aload_n (pc := 41) hx hb dX8_cat_41 rfl (lv_at hl 0 rfl) ?_
        refine g_get (pc := 42) C fg_X8_67 hP 0 rfl rfl dX8_cat_42 ?_
        refine lv_iload_n (pc := 45) hx hb dX8_cat_45 rfl (lv_at hl 3 rfl) ?_
        obtain ⟨c16, c17, hq, hf⟩ := bind2_some hf
        refine fin_v (run_V (rest := []) (pc := 46) (As := [.int x3]) C mf_X8_242 (c_X0_reduce l D cA (a 42) (a 43) c14 chances_above chances_below c15 x3 (c16, c17) hq H.size) rfl rfl ⟨(Nat.le_of_ble_eq_true rfl), (Nat.le_of_ble_eq_true rfl)⟩ (preV_of C hP hD [23, 24] rfl rfl 0 rfl rfl rfl) rfl hl.1 rfl (Nat.le_of_ble_eq_true rfl) dX8_cat_46 ⟨Nat.zero_le _, Nat.zero_le _⟩) hP hD hS hA [23, 24] rfl rfl (fun H locs hP hS => ?_)
        have hP : va_P D classes (wl_X8_cat cA a x_stale x_finding land_flaw land_cells land_columns land_rows land_kinds land_rowAt land_columnAt land_ways land_beside houses_flaw houses_number houses_places bowls_number bowls_nights bowls_things dogs_number dogs_nights dogs_things walks_start walks_frost walks_present walks_raked c4 c5 c6 c7 c8 c9 c10 c11 c12 c13 c14 c16 c17 c15) H := hP
        have hD : va_D (va_A ws0 sz) (wl_X8_cat cA a x_stale x_finding land_flaw land_cells land_columns land_rows land_kinds land_rowAt land_columnAt land_ways land_beside houses_flaw houses_number houses_places bowls_number bowls_nights bowls_things dogs_number dogs_nights dogs_things walks_start walks_frost walks_present walks_raked c4 c5 c6 c7 c8 c9 c10 c11 c12 c13 c14 c16 c17 c15) := vd_a hD rfl
        refine lv_iload (pc := 49) hx hb dX8_cat_49 (lv_at hl 5 rfl) ?_
        refine lv_if_ne (pc := 51) (tgt := 64) hx hb dX8_cat_51 (by decide) (fun hc => ?_) (fun hc => ?_)
        · have hf := (if_neg hc).symm.trans hf
          refine lv_aload_n (pc := 64) hx hb dX8_cat_64 rfl (lv_at hl 0 rfl) ?_
          refine g_get (pc := 65) C fg_X8_67 hP 0 rfl rfl dX8_cat_65 ?_
          refine g_get (pc := 68) C fg_X8_249 hP 23 rfl rfl dX8_cat_68 ?_
          have hf := Option.some.inj hf
          subst hf
          exact ret_l C hr hlk hP hS dX8_cat_71
        · have hf := (if_pos hc).symm.trans hf
          refine lv_aload_n (pc := 54) hx hb dX8_cat_54 rfl (lv_at hl 0 rfl) ?_
          refine g_get (pc := 55) C fg_X8_67 hP 0 rfl rfl dX8_cat_55 ?_
          refine g_get (pc := 58) C fg_X8_245 hP 23 rfl rfl dX8_cat_58 ?_
          refine lv_goto (pc := 61) (tgt := 71) hx hb dX8_cat_61 (by decide) ?_
          have hf := Option.some.inj hf
          subst hf
          exact ret_l C hr hlk hP hS dX8_cat_71
      · have hf := (if_pos hc).symm.trans hf
        exact k_X8_cat_b29 C hr hlk hA a x_stale x_finding land_flaw land_cells land_columns land_rows land_kinds land_rowAt land_columnAt land_ways land_beside houses_flaw houses_number houses_places bowls_number bowls_nights bowls_things dogs_number dogs_nights dogs_things walks_start walks_frost walks_present walks_raked trial_start trial_frost trial_present trial_raked trial_steady trial_fresh trial_track trial_gone trial_trodden trial_lines chances_whole chances_above chances_below chances_shares r hf H locs ls hP hD hS (lv_sub hl [] rfl)
set_option maxRecDepth 100000 in
theorem c_X8_cat (l : Launch) (D : va_G) (cA : Nat → ClassId) (a : Nat → Nat) (x_stale : Int32) (x_finding : Int32) (land_flaw : Int32) (land_cells : Int32) (land_columns : Int32) (land_rows : Int32) (land_kinds : Nat → Int32) (land_rowAt : Nat → Int32) (land_columnAt : Nat → Int32) (land_ways : Nat → Int32) (land_beside : Nat → Int32) (houses_flaw : Int32) (houses_number : Int32) (houses_places : Nat → Int32) (bowls_number : Int32) (bowls_nights : Nat → Int32) (bowls_things : Nat → Int32) (dogs_number : Int32) (dogs_nights : Nat → Int32) (dogs_things : Nat → Int32) (walks_start : Int32) (walks_frost : Int32) (walks_present : Int32) (walks_raked : Int32) (trial_start : Int32) (trial_frost : Int32) (trial_present : Int32) (trial_raked : Int32) (trial_steady : Nat → Int32) (trial_fresh : Nat → Int32) (trial_track : Nat → Int32) (trial_gone : Nat → Int32) (trial_trodden : Nat → Int64) (trial_lines : Nat → Int32) (chances_whole : Int64) (chances_above : Int64) (chances_below : Int64) (chances_shares : Nat → Int64) (x1 : Int32) (x2 : Int32) (x3 : Int32) (x4 : Int32) (x5 : Int32) (r : Int64 × Int32 × Int32 × Int32 × Int32 × (Nat → Int32) × (Nat → Int32) × (Nat → Int32) × (Nat → Int32) × (Nat → Int64) × (Nat → Int32) × Int64 × Int64 × Int64 × (Nat → Int64)) (hf : f_X8_cat land_cells land_columns land_rows land_kinds land_rowAt land_columnAt land_ways land_beside houses_number houses_places bowls_number bowls_nights bowls_things dogs_number dogs_nights dogs_things walks_start walks_frost walks_present walks_raked trial_start trial_frost trial_present trial_raked trial_steady trial_fresh trial_track trial_gone trial_trodden trial_lines chances_whole chances_above chances_below chances_shares x1 x2 x3 x4 x5 = some r) (sz : Nat) : Met l yX8_cat (Cond.code yX8_cat cX8_cat 6 (some .long) :: lw_good) rm_X8_cat (PreX D cA [.ref (a 0), .int x1, .int x2, .int x3, .int x4, .int x5] sz (wl_X8_cat cA a x_stale x_finding land_flaw land_cells land_columns land_rows land_kinds land_rowAt land_columnAt land_ways land_beside houses_flaw houses_number houses_places bowls_number bowls_nights bowls_things dogs_number dogs_nights dogs_things walks_start walks_frost walks_present walks_raked trial_start trial_frost trial_present trial_raked trial_steady trial_fresh trial_track trial_gone trial_trodden trial_lines chances_whole chances_above chances_below chances_shares)) (PostL D r.1 (wl_X8_cat cA a x_stale x_finding land_flaw land_cells land_columns land_rows land_kinds land_rowAt land_columnAt land_ways land_beside houses_flaw houses_number houses_places bowls_number bowls_nights bowls_things dogs_number dogs_nights dogs_things walks_start walks_frost walks_present walks_raked trial_start trial_frost trial_present trial_raked trial_steady trial_fresh trial_track trial_gone trial_trodden trial_lines chances_whole chances_above chances_below chances_shares) (wl_X8_cat cA a x_stale x_finding land_flaw land_cells land_columns land_rows land_kinds land_rowAt land_columnAt land_ways land_beside houses_flaw houses_number houses_places bowls_number bowls_nights bowls_things dogs_number dogs_nights dogs_things walks_start walks_frost walks_present walks_raked (r.2.1) (r.2.2.1) (r.2.2.2.1) (r.2.2.2.2.1) (r.2.2.2.2.2.1) (r.2.2.2.2.2.2.1) (r.2.2.2.2.2.2.2.1) (r.2.2.2.2.2.2.2.2.1) (r.2.2.2.2.2.2.2.2.2.1) (r.2.2.2.2.2.2.2.2.2.2.1) (r.2.2.2.2.2.2.2.2.2.2.2.1) (r.2.2.2.2.2.2.2.2.2.2.2.2.1) (r.2.2.2.2.2.2.2.2.2.2.2.2.2.1) (r.2.2.2.2.2.2.2.2.2.2.2.2.2.2)) sz) 0 0 (va_A (wl_X8_cat cA a x_stale x_finding land_flaw land_cells land_columns land_rows land_kinds land_rowAt land_columnAt land_ways land_beside houses_flaw houses_number houses_places bowls_number bowls_nights bowls_things dogs_number dogs_nights dogs_things walks_start walks_frost walks_present walks_raked trial_start trial_frost trial_present trial_raked trial_steady trial_fresh trial_track trial_gone trial_trodden trial_lines chances_whole chances_above chances_below chances_shares) sz) :=
  met_of (by decide) (Nat.le_of_ble_eq_true rfl) (fun p e s m args below meth c C hr hlk hA => k_X8_cat C hr hlk hA a x_stale x_finding land_flaw land_cells land_columns land_rows land_kinds land_rowAt land_columnAt land_ways land_beside houses_flaw houses_number houses_places bowls_number bowls_nights bowls_things dogs_number dogs_nights dogs_things walks_start walks_frost walks_present walks_raked trial_start trial_frost trial_present trial_raked trial_steady trial_fresh trial_track trial_gone trial_trodden trial_lines chances_whole chances_above chances_below chances_shares x1 x2 x3 x4 x5 r hf)
end

abbrev wl_X8_roam (cA : Nat → ClassId) (a : Nat → Nat) (x_stale : Int32) (x_finding : Int32) (land_flaw : Int32) (land_cells : Int32) (land_columns : Int32) (land_rows : Int32) (land_kinds : Nat → Int32) (land_ways : Nat → Int32) (land_beside : Nat → Int32) (walks_start : Int32) (walks_frost : Int32) (walks_present : Int32) (walks_raked : Int32) : va_W := [((a 0), .inr (8, [.ref (a 1), .ref (a 6), .ref (a 12), .ref (a 15), .ref (a 19), .ref (a 23), .ref (a 27), .ref (a 34), .ref (a 41), .ref (a 42), .ref (a 44), .ref (a 45), .int x_stale, .int x_finding])), ((a 6), .inr (3, [.ref (a 7), .ref (a 8), .ref (a 9), .ref (a 10), .ref (a 11), .int land_flaw, .int land_cells, .int land_columns, .int land_rows])), ((a 7), .inl (cA 0, 36, .inl land_kinds)), ((a 10), .inl (cA 0, 36, .inl land_ways)), ((a 11), .inl (cA 0, 144, .inl land_beside)), ((a 27), .inr (7, [.ref (a 6), .ref (a 15), .ref (a 19), .ref (a 28), .ref (a 29), .ref (a 30), .ref (a 31), .ref (a 32), .ref (a 33), .int walks_start, .int walks_frost, .int walks_present, .int walks_raked]))]
abbrev rm_X8_roam : Room := { frames := 1, cells := 0, slots := 0, locals := 21 }
section
variable {p : Program} {l : Launch} {e : Env} {s : State} {m : MethodId} {args : Array Value} {below : List Frame} {meth : Method} {c : Code} {D : va_G} {cA : Nat → ClassId} {ws0 : va_W} {sz : Nat} {A : Nat → Prop} {Q : State → Prop}
def f_X8_roam_b124L57 (land_ways : Nat → Int32) (land_beside : Nat → Int32) (x2 : Int32) (x4 : Int32) (x5 : Int32) (x6 : Int64) (x8 : Int32) : Option ((Int32 × Int32 × Int64 × Int32) ⊕ (Int32 × Int64)) :=
  some (.inl (x4, x5, x6, (x8 + 1)))
set_option maxHeartbeats 4000000 in
set_option maxRecDepth 100000 in
theorem k_X8_roam_b124L57 (C : Cx RX8 cX8_roam 10 D cA p s m args c) (hA : ∀ q, s.heap.size ≤ q → A q) (a : Nat → Nat) (x_stale : Int32) (x_finding : Int32) (land_flaw : Int32) (land_cells : Int32) (land_columns : Int32) (land_rows : Int32) (land_kinds : Nat → Int32) (land_ways : Nat → Int32) (land_beside : Nat → Int32) (walks_start : Int32) (walks_frost : Int32) (walks_present : Int32) (walks_raked : Int32) (x2 : Int32) (x3 : Int32) (x4 : Int32) (x5 : Int32) (x6 : Int64) (x8 : Int32) (r : (Int32 × Int32 × Int64 × Int32) ⊕ (Int32 × Int64)) (hf : f_X8_roam_b124L57 land_ways land_beside x2 x4 x5 x6 x8 = some r) (hK : Sum.elim (fun q : Int32 × Int32 × Int64 × Int32 => At p l e rm_X8_roam s m args below meth c D A 0 0 Q 10 57 (wl_X8_roam cA a x_stale x_finding land_flaw land_cells land_columns land_rows land_kinds land_ways land_beside walks_start walks_frost walks_present walks_raked) [(0, .ref (a 0)), (2, .int x2), (3, .int x3), (4, .int (q.1)), (5, .int (q.2.1)), (6, .long (q.2.2.1)), (8, .int (q.2.2.2))] []) (fun q : Int32 × Int64 => At p l e rm_X8_roam s m args below meth c D A 0 0 Q 10 130 (wl_X8_roam cA a x_stale x_finding land_flaw land_cells land_columns land_rows land_kinds land_ways land_beside walks_start walks_frost walks_present walks_raked) [(3, .int x3), (4, .int (q.1)), (6, .long (q.2))] []) r) : At p l e rm_X8_roam s m args below meth c D A 0 0 Q 10 124 (wl_X8_roam cA a x_stale x_finding land_flaw land_cells land_columns land_rows land_kinds land_ways land_beside walks_start walks_frost walks_present walks_raked) [(0, .ref (a 0)), (2, .int x2), (3, .int x3), (4, .int x4), (5, .int x5), (6, .long x6), (8, .int x8)] [] := by
  intro H locs ls hP hD hS hl
  have hx := C.1
  have hb := C.2.1
  have hown := C.2.2.2.1
  have hts := C.2.2.2.2.1
  unfold f_X8_roam_b124L57 at hf
  refine lv_iinc (pc := 124) (v := (x8 + 1)) (lv' := [(8, .int (x8 + 1)), (0, .ref (a 0)), (2, .int x2), (3, .int x3), (4, .int x4), (5, .int x5), (6, .long x6)]) hx hb dX8_roam_124 hl (k := 6) rfl rfl (Nat.le_of_ble_eq_true rfl) rfl (fun ls hl => ?_)
  refine lv_goto (pc := 127) (tgt := 57) hx hb dX8_roam_127 (by decide) ?_
  have hf := Option.some.inj hf
  subst hf
  exact hK H locs ls hP hD hS (lv_sub hl [1, 2, 3, 4, 5, 6, 0] rfl)
def f_X8_roam_L57 (land_ways : Nat → Int32) (land_beside : Nat → Int32) (x2 : Int32) (x4 : Int32) (x5 : Int32) (x6 : Int64) (x8 : Int32) : Option ((Int32 × Int32 × Int64 × Int32) ⊕ (Int32 × Int64)) :=
  if x2 ≤ x8 then (some (.inr (x4, x6))) else (gd (inb x4 36) (letv ((land_ways x4.toNatClampNeg)) (fun v5 => if v5 ≤ 0 then (f_X8_roam_b124L57 land_ways land_beside x2 x4 x5 x6 x8) else (letv ((((1103515245 : Int32) * x5) + (12345 : Int32))) (fun v6 => gd (nz v5) (gd (inb ((x4 * (4 : Int32)) + (((v6.toUInt32 >>> ((16 : Int32).toUInt32 &&& Int32.toUInt32 31)).toInt32) - ((v6.toUInt32 >>> ((16 : Int32).toUInt32 &&& Int32.toUInt32 31)).toInt32) / v5 * v5)) 144) (letv ((land_beside ((x4 * (4 : Int32)) + (((v6.toUInt32 >>> ((16 : Int32).toUInt32 &&& Int32.toUInt32 31)).toInt32) - ((v6.toUInt32 >>> ((16 : Int32).toUInt32 &&& Int32.toUInt32 31)).toInt32) / v5 * v5)).toNatClampNeg)) (fun v7 => letv ((x6 ||| ((1 : Int64) <<< (v7.toInt64 &&& 63)))) (fun v8 => f_X8_roam_b124L57 land_ways land_beside x2 v7 v6 v8 x8)))))))))
set_option maxHeartbeats 4000000 in
set_option maxRecDepth 100000 in
theorem k_X8_roam_L57 (C : Cx RX8 cX8_roam 10 D cA p s m args c) (hA : ∀ q, s.heap.size ≤ q → A q) (a : Nat → Nat) (x_stale : Int32) (x_finding : Int32) (land_flaw : Int32) (land_cells : Int32) (land_columns : Int32) (land_rows : Int32) (land_kinds : Nat → Int32) (land_ways : Nat → Int32) (land_beside : Nat → Int32) (walks_start : Int32) (walks_frost : Int32) (walks_present : Int32) (walks_raked : Int32) (x2 : Int32) (x3 : Int32) (x4 : Int32) (x5 : Int32) (x6 : Int64) (x8 : Int32) (r : (Int32 × Int32 × Int64 × Int32) ⊕ (Int32 × Int64)) (hf : f_X8_roam_L57 land_ways land_beside x2 x4 x5 x6 x8 = some r) (hK : Sum.elim (fun q : Int32 × Int32 × Int64 × Int32 => At p l e rm_X8_roam s m args below meth c D A 0 0 Q 10 57 (wl_X8_roam cA a x_stale x_finding land_flaw land_cells land_columns land_rows land_kinds land_ways land_beside walks_start walks_frost walks_present walks_raked) [(0, .ref (a 0)), (2, .int x2), (3, .int x3), (4, .int (q.1)), (5, .int (q.2.1)), (6, .long (q.2.2.1)), (8, .int (q.2.2.2))] []) (fun q : Int32 × Int64 => At p l e rm_X8_roam s m args below meth c D A 0 0 Q 10 130 (wl_X8_roam cA a x_stale x_finding land_flaw land_cells land_columns land_rows land_kinds land_ways land_beside walks_start walks_frost walks_present walks_raked) [(3, .int x3), (4, .int (q.1)), (6, .long (q.2))] []) r) : At p l e rm_X8_roam s m args below meth c D A 0 0 Q 10 57 (wl_X8_roam cA a x_stale x_finding land_flaw land_cells land_columns land_rows land_kinds land_ways land_beside walks_start walks_frost walks_present walks_raked) [(0, .ref (a 0)), (2, .int x2), (3, .int x3), (4, .int x4), (5, .int x5), (6, .long x6), (8, .int x8)] [] := by
  intro H locs ls hP hD hS hl
  have hx := C.1
  have hb := C.2.1
  have hown := C.2.2.2.1
  have hts := C.2.2.2.2.1
  unfold f_X8_roam_L57 at hf
  refine lv_iload (pc := 57) hx hb dX8_roam_57 (lv_at hl 6 rfl) ?_
  refine lv_iload_n (pc := 59) hx hb dX8_roam_59 rfl (lv_at hl 1 rfl) ?_
  refine lv_icmp_ge (pc := 60) (tgt := 130) hx hb dX8_roam_60 (by decide) (fun hc => ?_) (fun hc => ?_)
  · have hf := (if_pos hc).symm.trans hf
    have hf := Option.some.inj hf
    subst hf
    exact hK H locs ls hP hD hS (lv_sub hl [2, 3, 5] rfl)
  · have hf := (if_neg hc).symm.trans hf
    refine lv_aload_n (pc := 63) hx hb dX8_roam_63 rfl (lv_at hl 0 rfl) ?_
    refine g_get (pc := 64) C fg_X8_21 hP 0 rfl rfl dX8_roam_64 ?_
    refine g_get (pc := 67) C fg_X8_256 hP 1 rfl rfl dX8_roam_67 ?_
    refine lv_iload (pc := 70) hx hb dX8_roam_70 (lv_at hl 3 rfl) ?_
    obtain ⟨hg, hf⟩ := gd_some hf
    refine g_iald (pc := 72) C hP 3 rfl hg dX8_roam_72 ?_
    obtain ⟨v5, e_v5, hf⟩ := letv_some hf
    refine tp_i e_v5 ?_
    refine lv_istore (pc := 73) (lv' := [(9, .int v5), (0, .ref (a 0)), (2, .int x2), (3, .int x3), (4, .int x4), (5, .int x5), (6, .long x6), (8, .int x8)]) hx hb dX8_roam_73 hl (Nat.le_of_ble_eq_true rfl) rfl (fun ls hl => ?_)
    refine lv_iload (pc := 75) hx hb dX8_roam_75 (lv_at hl 0 rfl) ?_
    refine lv_if_le (pc := 77) (tgt := 124) hx hb dX8_roam_77 (by decide) (fun hc => ?_) (fun hc => ?_)
    · have hf := (if_pos hc).symm.trans hf
      exact k_X8_roam_b124L57 C hA a x_stale x_finding land_flaw land_cells land_columns land_rows land_kinds land_ways land_beside walks_start walks_frost walks_present walks_raked x2 x3 x4 x5 x6 x8 r hf hK H locs ls hP hD hS (lv_sub hl [1, 2, 3, 4, 5, 6, 7] rfl)
    · have hf := (if_neg hc).symm.trans hf
      refine lv_ldcw (pc := 80) hx hb hown (hts _ (lg_in mw_300 rfl)) dX8_roam_80 ?_
      refine lv_iload (pc := 83) hx hb dX8_roam_83 (lv_at hl 5 rfl) ?_
      refine lv_imul (pc := 85) hx hb dX8_roam_85 ?_
      refine lv_sipush (pc := 86) (v := 12345) hx hb dX8_roam_86 sp_12345 ?_
      refine lv_iadd (pc := 89) hx hb dX8_roam_89 ?_
      obtain ⟨v6, e_v6, hf⟩ := letv_some hf
      refine tp_i e_v6 ?_
      refine lv_istore (pc := 90) (lv' := [(5, .int v6), (9, .int v5), (0, .ref (a 0)), (2, .int x2), (3, .int x3), (4, .int x4), (6, .long x6), (8, .int x8)]) hx hb dX8_roam_90 hl (Nat.le_of_ble_eq_true rfl) rfl (fun ls hl => ?_)
      refine lv_aload_n (pc := 92) hx hb dX8_roam_92 rfl (lv_at hl 2 rfl) ?_
      refine g_get (pc := 93) C fg_X8_21 hP 0 rfl rfl dX8_roam_93 ?_
      refine g_get (pc := 96) C fg_X8_260 hP 1 rfl rfl dX8_roam_96 ?_
      refine lv_iload (pc := 99) hx hb dX8_roam_99 (lv_at hl 5 rfl) ?_
      refine lv_iconst (pc := 101) (v := 4) hx hb dX8_roam_101 ic_4 ?_
      refine lv_imul (pc := 102) hx hb dX8_roam_102 ?_
      refine lv_iload (pc := 103) hx hb dX8_roam_103 (lv_at hl 0 rfl) ?_
      refine lv_bipush (pc := 105) (v := 16) hx hb dX8_roam_105 bp_16 ?_
      refine lv_iushr (pc := 107) hx hb dX8_roam_107 rfl ?_
      refine lv_iload (pc := 108) hx hb dX8_roam_108 (lv_at hl 1 rfl) ?_
      obtain ⟨hg, hf⟩ := gd_some hf
      refine lv_irem (pc := 110) hx hb dX8_roam_110 (nz_of hg) ?_
      refine lv_iadd (pc := 111) hx hb dX8_roam_111 ?_
      obtain ⟨hg, hf⟩ := gd_some hf
      refine g_iald (pc := 112) C hP 4 rfl hg dX8_roam_112 ?_
      obtain ⟨v7, e_v7, hf⟩ := letv_some hf
      refine tp_i e_v7 ?_
      refine lv_istore (pc := 113) (lv' := [(4, .int v7), (5, .int v6), (9, .int v5), (0, .ref (a 0)), (2, .int x2), (3, .int x3), (6, .long x6), (8, .int x8)]) hx hb dX8_roam_113 hl (Nat.le_of_ble_eq_true rfl) rfl (fun ls hl => ?_)
      refine lv_lload (pc := 115) hx hb dX8_roam_115 (lv_at hl 6 rfl) ?_
      refine lv_lconst (pc := 117) (v := 1) hx hb dX8_roam_117 rfl ?_
      refine lv_iload (pc := 118) hx hb dX8_roam_118 (lv_at hl 0 rfl) ?_
      refine lv_lshl (pc := 120) hx hb dX8_roam_120 rfl ?_
      refine lv_lor (pc := 121) hx hb dX8_roam_121 ?_
      obtain ⟨v8, e_v8, hf⟩ := letv_some hf
      refine tp_l e_v8 ?_
      refine lv_lstore (pc := 122) (lv' := [(6, .long v8), (4, .int v7), (5, .int v6), (9, .int v5), (0, .ref (a 0)), (2, .int x2), (3, .int x3), (8, .int x8)]) hx hb dX8_roam_122 hl (Nat.le_of_ble_eq_true rfl) rfl (fun ls hl => ?_)
      exact k_X8_roam_b124L57 C hA a x_stale x_finding land_flaw land_cells land_columns land_rows land_kinds land_ways land_beside walks_start walks_frost walks_present walks_raked x2 x3 v7 v6 v8 x8 r hf hK H locs ls hP hD hS (lv_sub hl [4, 5, 6, 1, 2, 0, 7] rfl)
theorem kl_X8_roam_L57 (C : Cx RX8 cX8_roam 10 D cA p s m args c) (hA : ∀ q, s.heap.size ≤ q → A q) (a : Nat → Nat) (x_stale : Int32) (x_finding : Int32) (land_flaw : Int32) (land_cells : Int32) (land_columns : Int32) (land_rows : Int32) (land_kinds : Nat → Int32) (land_ways : Nat → Int32) (land_beside : Nat → Int32) (walks_start : Int32) (walks_frost : Int32) (walks_present : Int32) (walks_raked : Int32) (x2 : Int32) (x3 : Int32) : ∀ (n : Nat) (q : Int32 × Int32 × Int64 × Int32) (z : (Int32 × Int64)), loopF (fun q : Int32 × Int32 × Int64 × Int32 => f_X8_roam_L57 land_ways land_beside x2 q.1 q.2.1 q.2.2.1 q.2.2.2) n q = some z → (fun q : Int32 × Int64 => At p l e rm_X8_roam s m args below meth c D A 0 0 Q 10 130 (wl_X8_roam cA a x_stale x_finding land_flaw land_cells land_columns land_rows land_kinds land_ways land_beside walks_start walks_frost walks_present walks_raked) [(3, .int x3), (4, .int (q.1)), (6, .long (q.2))] []) z → At p l e rm_X8_roam s m args below meth c D A 0 0 Q 10 57 (wl_X8_roam cA a x_stale x_finding land_flaw land_cells land_columns land_rows land_kinds land_ways land_beside walks_start walks_frost walks_present walks_raked) [(0, .ref (a 0)), (2, .int x2), (3, .int x3), (4, .int (q.1)), (5, .int (q.2.1)), (6, .long (q.2.2.1)), (8, .int (q.2.2.2))] [] :=
  loop_lem (WP := fun q : Int32 × Int32 × Int64 × Int32 => At p l e rm_X8_roam s m args below meth c D A 0 0 Q 10 57 (wl_X8_roam cA a x_stale x_finding land_flaw land_cells land_columns land_rows land_kinds land_ways land_beside walks_start walks_frost walks_present walks_raked) [(0, .ref (a 0)), (2, .int x2), (3, .int x3), (4, .int (q.1)), (5, .int (q.2.1)), (6, .long (q.2.2.1)), (8, .int (q.2.2.2))] []) (WE := (fun q : Int32 × Int64 => At p l e rm_X8_roam s m args below meth c D A 0 0 Q 10 130 (wl_X8_roam cA a x_stale x_finding land_flaw land_cells land_columns land_rows land_kinds land_ways land_beside walks_start walks_frost walks_present walks_raked) [(3, .int x3), (4, .int (q.1)), (6, .long (q.2))] [])) (fun q r hf hK => k_X8_roam_L57 C hA a x_stale x_finding land_flaw land_cells land_columns land_rows land_kinds land_ways land_beside walks_start walks_frost walks_present walks_raked x2 x3 q.1 q.2.1 q.2.2.1 q.2.2.2 r hf hK)
def f_X8_roam (land_columns : Int32) (land_rows : Int32) (land_kinds : Nat → Int32) (land_ways : Nat → Int32) (land_beside : Nat → Int32) (walks_start : Int32) (x1 : Int32) (x2 : Int32) (x3 : Int32) : Option (Int32) :=
  bind1 (f_X8_isUpTo x2 (60 : Int32)) (fun r1 => if r1 = 0 then (some (-2 : Int32)) else (bind1 (f_X8_isUpTo x3 (1 : Int32)) (fun r2 => if r2 = 0 then (some (-2 : Int32)) else (bind1 (f_X7_firstCell land_columns land_rows land_kinds walks_start) (fun r3 => if r3 = (-1 : Int32) then (if x3 = 0 then (some (-1 : Int32)) else (some (0 : Int32))) else (letv (((1 : Int64) <<< (r3.toInt64 &&& 63))) (fun v4 => bind2 (loopF (fun q : Int32 × Int32 × Int64 × Int32 => f_X8_roam_L57 land_ways land_beside x2 q.1 q.2.1 q.2.2.1 q.2.2.2) FU (r3, x1, v4, (0 : Int32))) (fun u9 u10 => if x3 = 0 then (some u9) else (bind1 (f_J13_bitCount_95d88 u10) (fun r11 => some r11))))))))))
set_option maxHeartbeats 4000000 in
set_option maxRecDepth 100000 in
theorem k_X8_roam (C : Cx RX8 cX8_roam 10 D cA p s m args c) (hr : meth.sig.returnType = (some .int)) (hlk : meth.locks = false) (hA : ∀ q, s.heap.size ≤ q → va_A ws0 sz q) (a : Nat → Nat) (x_stale : Int32) (x_finding : Int32) (land_flaw : Int32) (land_cells : Int32) (land_columns : Int32) (land_rows : Int32) (land_kinds : Nat → Int32) (land_ways : Nat → Int32) (land_beside : Nat → Int32) (walks_start : Int32) (walks_frost : Int32) (walks_present : Int32) (walks_raked : Int32) (x1 : Int32) (x2 : Int32) (x3 : Int32) (r : Int32) (hf : f_X8_roam land_columns land_rows land_kinds land_ways land_beside walks_start x1 x2 x3 = some r) : At p l e rm_X8_roam s m args below meth c D (va_A ws0 sz) 0 0 (MQ below (PostI D r ws0 (wl_X8_roam cA a x_stale x_finding land_flaw land_cells land_columns land_rows land_kinds land_ways land_beside walks_start walks_frost walks_present walks_raked) sz) args s 0 0 (va_A ws0 sz)) 10 0 (wl_X8_roam cA a x_stale x_finding land_flaw land_cells land_columns land_rows land_kinds land_ways land_beside walks_start walks_frost walks_present walks_raked) [(0, .ref (a 0)), (1, .int x1), (2, .int x2), (3, .int x3)] [] := by
  intro H locs ls hP hD hS hl
  have hx := C.1
  have hb := C.2.1
  have hown := C.2.2.2.1
  have hts := C.2.2.2.2.1
  unfold f_X8_roam at hf
  refine lv_iload_n (pc := 0) hx hb dX8_roam_0 rfl (lv_at hl 2 rfl) ?_
  refine lv_bipush (pc := 1) (v := 60) hx hb dX8_roam_1 bp_60 ?_
  obtain ⟨r1, hq, hf⟩ := bind1_some hf
  refine fin_i (run_S (rest := []) (pc := 3) (As := [.int x2, .int (60 : Int32)]) C mf_X8_90 (c_X8_isUpTo l D cA  x2 (60 : Int32) r1 hq H.size) rfl rfl ⟨(Nat.le_of_ble_eq_true rfl), (Nat.le_of_ble_eq_true rfl)⟩ (preS_of C hP hD [] rfl rfl) rfl hl.1 rfl (Nat.le_of_ble_eq_true rfl) dX8_roam_3 ⟨Nat.zero_le _, Nat.zero_le _⟩) hP hD hS hA [] rfl rfl (fun H locs hP hS => ?_)
  have hP : va_P D classes (wl_X8_roam cA a x_stale x_finding land_flaw land_cells land_columns land_rows land_kinds land_ways land_beside walks_start walks_frost walks_present walks_raked) H := hP
  have hD : va_D (va_A ws0 sz) (wl_X8_roam cA a x_stale x_finding land_flaw land_cells land_columns land_rows land_kinds land_ways land_beside walks_start walks_frost walks_present walks_raked) := vd_a hD rfl
  refine lv_if_eq (pc := 6) (tgt := 17) hx hb dX8_roam_6 (by decide) (fun hc => ?_) (fun hc => ?_)
  · have hf := (if_pos hc).symm.trans hf
    refine lv_bipush (pc := 17) (v := (-2)) hx hb dX8_roam_17 bp_m2 ?_
    have hf := Option.some.inj hf
    subst hf
    exact ret_i C hr hlk hP hS dX8_roam_19
  · have hf := (if_neg hc).symm.trans hf
    refine lv_iload_n (pc := 9) hx hb dX8_roam_9 rfl (lv_at hl 3 rfl) ?_
    refine lv_iconst (pc := 10) (v := 1) hx hb dX8_roam_10 ic_1 ?_
    obtain ⟨r2, hq, hf⟩ := bind1_some hf
    refine fin_i (run_S (rest := []) (pc := 11) (As := [.int x3, .int (1 : Int32)]) C mf_X8_90 (c_X8_isUpTo l D cA  x3 (1 : Int32) r2 hq H.size) rfl rfl ⟨(Nat.le_of_ble_eq_true rfl), (Nat.le_of_ble_eq_true rfl)⟩ (preS_of C hP hD [] rfl rfl) rfl hl.1 rfl (Nat.le_of_ble_eq_true rfl) dX8_roam_11 ⟨Nat.zero_le _, Nat.zero_le _⟩) hP hD hS hA [] rfl rfl (fun H locs hP hS => ?_)
    have hP : va_P D classes (wl_X8_roam cA a x_stale x_finding land_flaw land_cells land_columns land_rows land_kinds land_ways land_beside walks_start walks_frost walks_present walks_raked) H := hP
    have hD : va_D (va_A ws0 sz) (wl_X8_roam cA a x_stale x_finding land_flaw land_cells land_columns land_rows land_kinds land_ways land_beside walks_start walks_frost walks_present walks_raked) := vd_a hD rfl
    refine lv_if_ne (pc := 14) (tgt := 20) hx hb dX8_roam_14 (by decide) (fun hc => ?_) (fun hc => ?_)
    · have hf := (if_neg hc).symm.trans hf
      refine lv_aload_n (pc := 20) hx hb dX8_roam_20 rfl (lv_at hl 0 rfl) ?_
      refine g_get (pc := 21) C fg_X8_50 hP 0 rfl rfl dX8_roam_21 ?_
      obtain ⟨r3, hq, hf⟩ := bind1_some hf
      refine fin_i (run_V (rest := []) (pc := 24) (As := []) C mf_X8_252 (c_X7_firstCell l D cA (a 6) (a 7) (a 8) (a 9) (a 10) (a 11) (a 15) (a 19) (a 27) (a 28) (a 29) (a 30) (a 31) (a 32) (a 33) land_flaw land_cells land_columns land_rows land_kinds walks_start walks_frost walks_present walks_raked r3 hq H.size) rfl rfl ⟨(Nat.le_of_ble_eq_true rfl), (Nat.le_of_ble_eq_true rfl)⟩ (preV_of C hP hD [1, 2, 5] rfl rfl 2 rfl rfl rfl) rfl hl.1 rfl (Nat.le_of_ble_eq_true rfl) dX8_roam_24 ⟨Nat.zero_le _, Nat.zero_le _⟩) hP hD hS hA [1, 2, 5] rfl rfl (fun H locs hP hS => ?_)
      have hP : va_P D classes (wl_X8_roam cA a x_stale x_finding land_flaw land_cells land_columns land_rows land_kinds land_ways land_beside walks_start walks_frost walks_present walks_raked) H := hP
      have hD : va_D (va_A ws0 sz) (wl_X8_roam cA a x_stale x_finding land_flaw land_cells land_columns land_rows land_kinds land_ways land_beside walks_start walks_frost walks_present walks_raked) := vd_a hD rfl
      refine lv_istore (pc := 27) (lv' := [(4, .int r3), (0, .ref (a 0)), (1, .int x1), (2, .int x2), (3, .int x3)]) hx hb dX8_roam_27 hl (Nat.le_of_ble_eq_true rfl) rfl (fun ls hl => ?_)
      refine lv_iload (pc := 29) hx hb dX8_roam_29 (lv_at hl 0 rfl) ?_
      refine lv_iconst (pc := 31) (v := (-1)) hx hb dX8_roam_31 ic_m1 ?_
      refine lv_icmp_ne (pc := 32) (tgt := 45) hx hb dX8_roam_32 (by decide) (fun hc => ?_) (fun hc => ?_)
      · have hf := (if_neg hc).symm.trans hf
        refine lv_iload_n (pc := 45) hx hb dX8_roam_45 rfl (lv_at hl 2 rfl) ?_
        refine lv_istore (pc := 46) (lv' := [(5, .int x1), (4, .int r3), (0, .ref (a 0)), (1, .int x1), (2, .int x2), (3, .int x3)]) hx hb dX8_roam_46 hl (Nat.le_of_ble_eq_true rfl) rfl (fun ls hl => ?_)
        refine lv_lconst (pc := 48) (v := 1) hx hb dX8_roam_48 rfl ?_
        refine lv_iload (pc := 49) hx hb dX8_roam_49 (lv_at hl 1 rfl) ?_
        refine lv_lshl (pc := 51) hx hb dX8_roam_51 rfl ?_
        obtain ⟨v4, e_v4, hf⟩ := letv_some hf
        refine tp_l e_v4 ?_
        refine lv_lstore (pc := 52) (lv' := [(6, .long v4), (5, .int x1), (4, .int r3), (0, .ref (a 0)), (1, .int x1), (2, .int x2), (3, .int x3)]) hx hb dX8_roam_52 hl (Nat.le_of_ble_eq_true rfl) rfl (fun ls hl => ?_)
        refine lv_iconst (pc := 54) (v := 0) hx hb dX8_roam_54 ic_0 ?_
        refine lv_istore (pc := 55) (lv' := [(8, .int (0 : Int32)), (6, .long v4), (5, .int x1), (4, .int r3), (0, .ref (a 0)), (1, .int x1), (2, .int x2), (3, .int x3)]) hx hb dX8_roam_55 hl (Nat.le_of_ble_eq_true rfl) rfl (fun ls hl => ?_)
        obtain ⟨u9, u10, hq, hf⟩ := bind2_some hf
        refine kl_X8_roam_L57 C hA a x_stale x_finding land_flaw land_cells land_columns land_rows land_kinds land_ways land_beside walks_start walks_frost walks_present walks_raked x2 x3 FU (r3, x1, v4, (0 : Int32)) _ hq ?_ H locs ls hP hD hS (lv_sub hl [4, 6, 7, 3, 2, 1, 0] rfl)
        intro H locs ls hP hD hS hl
        have hP : va_P D classes (wl_X8_roam cA a x_stale x_finding land_flaw land_cells land_columns land_rows land_kinds land_ways land_beside walks_start walks_frost walks_present walks_raked) H := hP
        have hD : va_D (va_A ws0 sz) (wl_X8_roam cA a x_stale x_finding land_flaw land_cells land_columns land_rows land_kinds land_ways land_beside walks_start walks_frost walks_present walks_raked) := hD
        have hl : lv_has ls 10 [(3, .int x3), (4, .int u9), (6, .long u10)] := hl
        refine lv_iload_n (pc := 130) hx hb dX8_roam_130 rfl (lv_at hl 0 rfl) ?_
        refine lv_if_ne (pc := 131) (tgt := 139) hx hb dX8_roam_131 (by decide) (fun hc => ?_) (fun hc => ?_)
        · have hf := (if_neg hc).symm.trans hf
          refine lv_lload (pc := 139) hx hb dX8_roam_139 (lv_at hl 2 rfl) ?_
          obtain ⟨r11, hq, hf⟩ := bind1_some hf
          refine fin_i (run_S (rest := []) (pc := 141) (As := [.long u10]) C mf_X8_263 (c_J13_bitCount_95d88 l D cA  u10 r11 hq H.size) rfl rfl ⟨(Nat.le_of_ble_eq_true rfl), (Nat.le_of_ble_eq_true rfl)⟩ (preS_of C hP hD [] rfl rfl) rfl hl.1 rfl (Nat.le_of_ble_eq_true rfl) dX8_roam_141 ⟨Nat.zero_le _, Nat.zero_le _⟩) hP hD hS hA [] rfl rfl (fun H locs hP hS => ?_)
          have hP : va_P D classes (wl_X8_roam cA a x_stale x_finding land_flaw land_cells land_columns land_rows land_kinds land_ways land_beside walks_start walks_frost walks_present walks_raked) H := hP
          have hD : va_D (va_A ws0 sz) (wl_X8_roam cA a x_stale x_finding land_flaw land_cells land_columns land_rows land_kinds land_ways land_beside walks_start walks_frost walks_present walks_raked) := vd_a hD rfl
          have hf := Option.some.inj hf
          subst hf
          exact ret_i C hr hlk hP hS dX8_roam_144
        · have hf := (if_pos hc).symm.trans hf
          refine lv_iload (pc := 134) hx hb dX8_roam_134 (lv_at hl 1 rfl) ?_
          refine lv_goto (pc := 136) (tgt := 144) hx hb dX8_roam_136 (by decide) ?_
          have hf := Option.some.inj hf
          subst hf
          exact ret_i C hr hlk hP hS dX8_roam_144
      · have hf := (if_pos hc).symm.trans hf
        refine lv_iload_n (pc := 35) hx hb dX8_roam_35 rfl (lv_at hl 4 rfl) ?_
        refine lv_if_ne (pc := 36) (tgt := 43) hx hb dX8_roam_36 (by decide) (fun hc => ?_) (fun hc => ?_)
        · have hf := (if_neg hc).symm.trans hf
          refine lv_iconst (pc := 43) (v := 0) hx hb dX8_roam_43 ic_0 ?_
          have hf := Option.some.inj hf
          subst hf
          exact ret_i C hr hlk hP hS dX8_roam_44
        · have hf := (if_pos hc).symm.trans hf
          refine lv_iconst (pc := 39) (v := (-1)) hx hb dX8_roam_39 ic_m1 ?_
          refine lv_goto (pc := 40) (tgt := 44) hx hb dX8_roam_40 (by decide) ?_
          have hf := Option.some.inj hf
          subst hf
          exact ret_i C hr hlk hP hS dX8_roam_44
    · have hf := (if_pos hc).symm.trans hf
      refine lv_bipush (pc := 17) (v := (-2)) hx hb dX8_roam_17 bp_m2 ?_
      have hf := Option.some.inj hf
      subst hf
      exact ret_i C hr hlk hP hS dX8_roam_19
set_option maxRecDepth 100000 in
theorem c_X8_roam (l : Launch) (D : va_G) (cA : Nat → ClassId) (a : Nat → Nat) (x_stale : Int32) (x_finding : Int32) (land_flaw : Int32) (land_cells : Int32) (land_columns : Int32) (land_rows : Int32) (land_kinds : Nat → Int32) (land_ways : Nat → Int32) (land_beside : Nat → Int32) (walks_start : Int32) (walks_frost : Int32) (walks_present : Int32) (walks_raked : Int32) (x1 : Int32) (x2 : Int32) (x3 : Int32) (r : Int32) (hf : f_X8_roam land_columns land_rows land_kinds land_ways land_beside walks_start x1 x2 x3 = some r) (sz : Nat) : Met l yX8_roam (Cond.code yX8_roam cX8_roam 10 (some .int) :: lw_good) rm_X8_roam (PreX D cA [.ref (a 0), .int x1, .int x2, .int x3] sz (wl_X8_roam cA a x_stale x_finding land_flaw land_cells land_columns land_rows land_kinds land_ways land_beside walks_start walks_frost walks_present walks_raked)) (PostI D r (wl_X8_roam cA a x_stale x_finding land_flaw land_cells land_columns land_rows land_kinds land_ways land_beside walks_start walks_frost walks_present walks_raked) (wl_X8_roam cA a x_stale x_finding land_flaw land_cells land_columns land_rows land_kinds land_ways land_beside walks_start walks_frost walks_present walks_raked) sz) 0 0 (va_A (wl_X8_roam cA a x_stale x_finding land_flaw land_cells land_columns land_rows land_kinds land_ways land_beside walks_start walks_frost walks_present walks_raked) sz) :=
  met_of (by decide) (Nat.le_of_ble_eq_true rfl) (fun p e s m args below meth c C hr hlk hA => k_X8_roam C hr hlk hA a x_stale x_finding land_flaw land_cells land_columns land_rows land_kinds land_ways land_beside walks_start walks_frost walks_present walks_raked x1 x2 x3 r hf)
end

abbrev wl_X8_sheet (cA : Nat → ClassId) (a : Nat → Nat) (x_stale : Int32) (x_finding : Int32) (sheet0_lost : Int32) (sheet0_form : Int32) (sheet0_size : Int32) (sheet0_items : Nat → Int32) (sheet1_lost : Int32) (sheet1_form : Int32) (sheet1_size : Int32) (sheet1_items : Nat → Int32) (sheet2_lost : Int32) (sheet2_form : Int32) (sheet2_size : Int32) (sheet2_items : Nat → Int32) (sheet3_lost : Int32) (sheet3_form : Int32) (sheet3_size : Int32) (sheet3_items : Nat → Int32) : va_W := [((a 0), .inr (8, [.ref (a 1), .ref (a 6), .ref (a 12), .ref (a 15), .ref (a 19), .ref (a 23), .ref (a 27), .ref (a 34), .ref (a 41), .ref (a 42), .ref (a 44), .ref (a 45), .int x_stale, .int x_finding])), ((a 45), .inl (cA 3, 4, .inr (.inr (.inr (.inr (fun k : Nat => if k = 0 then some (a 46) else if k = 1 then some (a 48) else if k = 2 then some (a 50) else some (a 52))))))), ((a 46), .inr (5, [.ref (a 47), .int sheet0_lost, .int sheet0_form, .int sheet0_size])), ((a 47), .inl (cA 0, 60, .inl sheet0_items)), ((a 48), .inr (5, [.ref (a 49), .int sheet1_lost, .int sheet1_form, .int sheet1_size])), ((a 49), .inl (cA 0, 60, .inl sheet1_items)), ((a 50), .inr (5, [.ref (a 51), .int sheet2_lost, .int sheet2_form, .int sheet2_size])), ((a 51), .inl (cA 0, 60, .inl sheet2_items)), ((a 52), .inr (5, [.ref (a 53), .int sheet3_lost, .int sheet3_form, .int sheet3_size])), ((a 53), .inl (cA 0, 60, .inl sheet3_items))]
abbrev rm_X8_sheet : Room := { frames := 2, cells := 0, slots := 0, locals := 45 }
section
variable {p : Program} {l : Launch} {e : Env} {s : State} {m : MethodId} {args : Array Value} {below : List Frame} {meth : Method} {c : Code} {D : va_G} {cA : Nat → ClassId} {ws0 : va_W} {sz : Nat} {A : Nat → Prop} {Q : State → Prop}
def f_X8_sheet (x_finding : Int32) (sheet0_lost : Int32) (sheet0_form : Int32) (sheet0_size : Int32) (sheet0_items : Nat → Int32) (sheet1_lost : Int32) (sheet1_form : Int32) (sheet1_size : Int32) (sheet1_items : Nat → Int32) (sheet2_lost : Int32) (sheet2_form : Int32) (sheet2_size : Int32) (sheet2_items : Nat → Int32) (sheet3_lost : Int32) (sheet3_form : Int32) (sheet3_size : Int32) (sheet3_items : Nat → Int32) (x1 : Int32) (x2 : Int32) (x3 : Int32) : Option (Int32 × Int32 × Int32 × Int32 × Int32 × (Nat → Int32) × Int32 × Int32 × Int32 × (Nat → Int32) × Int32 × Int32 × Int32 × (Nat → Int32) × Int32 × Int32 × Int32 × (Nat → Int32)) :=
  bind1 (f_X8_isUpTo x1 (3 : Int32)) (fun r1 => if r1 = 0 then (some ((-2 : Int32), x_finding, sheet0_lost, sheet0_form, sheet0_size, sheet0_items, sheet1_lost, sheet1_form, sheet1_size, sheet1_items, sheet2_lost, sheet2_form, sheet2_size, sheet2_items, sheet3_lost, sheet3_form, sheet3_size, sheet3_items)) else (bind1 (f_X8_isUpTo x2 (2 : Int32)) (fun r2 => if r2 = 0 then (some ((-2 : Int32), x_finding, sheet0_lost, sheet0_form, sheet0_size, sheet0_items, sheet1_lost, sheet1_form, sheet1_size, sheet1_items, sheet2_lost, sheet2_form, sheet2_size, sheet2_items, sheet3_lost, sheet3_form, sheet3_size, sheet3_items)) else (if x3 ≤ (60 : Int32) then (if 0 ≤ x3 then (if x1 = (0 : Int32) then (bind4 (f_X5_begin sheet0_lost sheet0_form sheet0_size sheet0_items x2 x3) (fun c3 c4 c5 c6 => some (x3, x_finding, c3, c4, c5, c6, sheet1_lost, sheet1_form, sheet1_size, sheet1_items, sheet2_lost, sheet2_form, sheet2_size, sheet2_items, sheet3_lost, sheet3_form, sheet3_size, sheet3_items))) else (if x1 = (1 : Int32) then (bind4 (f_X5_begin sheet1_lost sheet1_form sheet1_size sheet1_items x2 x3) (fun c7 c8 c9 c10 => some (x3, x_finding, sheet0_lost, sheet0_form, sheet0_size, sheet0_items, c7, c8, c9, c10, sheet2_lost, sheet2_form, sheet2_size, sheet2_items, sheet3_lost, sheet3_form, sheet3_size, sheet3_items))) else (if x1 = (2 : Int32) then (bind4 (f_X5_begin sheet2_lost sheet2_form sheet2_size sheet2_items x2 x3) (fun c11 c12 c13 c14 => some (x3, x_finding, sheet0_lost, sheet0_form, sheet0_size, sheet0_items, sheet1_lost, sheet1_form, sheet1_size, sheet1_items, c11, c12, c13, c14, sheet3_lost, sheet3_form, sheet3_size, sheet3_items))) else (if x1 = (3 : Int32) then (bind4 (f_X5_begin sheet3_lost sheet3_form sheet3_size sheet3_items x2 x3) (fun c15 c16 c17 c18 => some (x3, x_finding, sheet0_lost, sheet0_form, sheet0_size, sheet0_items, sheet1_lost, sheet1_form, sheet1_size, sheet1_items, sheet2_lost, sheet2_form, sheet2_size, sheet2_items, c15, c16, c17, c18))) else (none))))) else (bind2 (f_X8_found x_finding (5 : Int32)) (fun r19 c20 => some (r19, c20, sheet0_lost, sheet0_form, sheet0_size, sheet0_items, sheet1_lost, sheet1_form, sheet1_size, sheet1_items, sheet2_lost, sheet2_form, sheet2_size, sheet2_items, sheet3_lost, sheet3_form, sheet3_size, sheet3_items)))) else (some ((-2 : Int32), x_finding, sheet0_lost, sheet0_form, sheet0_size, sheet0_items, sheet1_lost, sheet1_form, sheet1_size, sheet1_items, sheet2_lost, sheet2_form, sheet2_size, sheet2_items, sheet3_lost, sheet3_form, sheet3_size, sheet3_items))))))
set_option maxHeartbeats 4000000 in
set_option maxRecDepth 100000 in
theorem k_X8_sheet (C : Cx RX8 cX8_sheet 4 D cA p s m args c) (hr : meth.sig.returnType = (some .int)) (hlk : meth.locks = false) (hA : ∀ q, s.heap.size ≤ q → va_A ws0 sz q) (a : Nat → Nat) (x_stale : Int32) (x_finding : Int32) (sheet0_lost : Int32) (sheet0_form : Int32) (sheet0_size : Int32) (sheet0_items : Nat → Int32) (sheet1_lost : Int32) (sheet1_form : Int32) (sheet1_size : Int32) (sheet1_items : Nat → Int32) (sheet2_lost : Int32) (sheet2_form : Int32) (sheet2_size : Int32) (sheet2_items : Nat → Int32) (sheet3_lost : Int32) (sheet3_form : Int32) (sheet3_size : Int32) (sheet3_items : Nat → Int32) (x1 : Int32) (x2 : Int32) (x3 : Int32) (r : Int32 × Int32 × Int32 × Int32 × Int32 × (Nat → Int32) × Int32 × Int32 × Int32 × (Nat → Int32) × Int32 × Int32 × Int32 × (Nat → Int32) × Int32 × Int32 × Int32 × (Nat → Int32)) (hf : f_X8_sheet x_finding sheet0_lost sheet0_form sheet0_size sheet0_items sheet1_lost sheet1_form sheet1_size sheet1_items sheet2_lost sheet2_form sheet2_size sheet2_items sheet3_lost sheet3_form sheet3_size sheet3_items x1 x2 x3 = some r) : At p l e rm_X8_sheet s m args below meth c D (va_A ws0 sz) 0 0 (MQ below (PostI D r.1 ws0 (wl_X8_sheet cA a x_stale (r.2.1) (r.2.2.1) (r.2.2.2.1) (r.2.2.2.2.1) (r.2.2.2.2.2.1) (r.2.2.2.2.2.2.1) (r.2.2.2.2.2.2.2.1) (r.2.2.2.2.2.2.2.2.1) (r.2.2.2.2.2.2.2.2.2.1) (r.2.2.2.2.2.2.2.2.2.2.1) (r.2.2.2.2.2.2.2.2.2.2.2.1) (r.2.2.2.2.2.2.2.2.2.2.2.2.1) (r.2.2.2.2.2.2.2.2.2.2.2.2.2.1) (r.2.2.2.2.2.2.2.2.2.2.2.2.2.2.1) (r.2.2.2.2.2.2.2.2.2.2.2.2.2.2.2.1) (r.2.2.2.2.2.2.2.2.2.2.2.2.2.2.2.2.1) (r.2.2.2.2.2.2.2.2.2.2.2.2.2.2.2.2.2)) sz) args s 0 0 (va_A ws0 sz)) 4 0 (wl_X8_sheet cA a x_stale x_finding sheet0_lost sheet0_form sheet0_size sheet0_items sheet1_lost sheet1_form sheet1_size sheet1_items sheet2_lost sheet2_form sheet2_size sheet2_items sheet3_lost sheet3_form sheet3_size sheet3_items) [(0, .ref (a 0)), (1, .int x1), (2, .int x2), (3, .int x3)] [] := by
  intro H locs ls hP hD hS hl
  have hx := C.1
  have hb := C.2.1
  have hown := C.2.2.2.1
  have hts := C.2.2.2.2.1
  unfold f_X8_sheet at hf
  refine lv_iload_n (pc := 0) hx hb dX8_sheet_0 rfl (lv_at hl 1 rfl) ?_
  refine lv_iconst (pc := 1) (v := 3) hx hb dX8_sheet_1 ic_3 ?_
  obtain ⟨r1, hq, hf⟩ := bind1_some hf
  refine fin_i (run_S (rest := []) (pc := 2) (As := [.int x1, .int (3 : Int32)]) C mf_X8_90 (c_X8_isUpTo l D cA  x1 (3 : Int32) r1 hq H.size) rfl rfl ⟨(Nat.le_of_ble_eq_true rfl), (Nat.le_of_ble_eq_true rfl)⟩ (preS_of C hP hD [] rfl rfl) rfl hl.1 rfl (Nat.le_of_ble_eq_true rfl) dX8_sheet_2 ⟨Nat.zero_le _, Nat.zero_le _⟩) hP hD hS hA [] rfl rfl (fun H locs hP hS => ?_)
  have hP : va_P D classes (wl_X8_sheet cA a x_stale x_finding sheet0_lost sheet0_form sheet0_size sheet0_items sheet1_lost sheet1_form sheet1_size sheet1_items sheet2_lost sheet2_form sheet2_size sheet2_items sheet3_lost sheet3_form sheet3_size sheet3_items) H := hP
  have hD : va_D (va_A ws0 sz) (wl_X8_sheet cA a x_stale x_finding sheet0_lost sheet0_form sheet0_size sheet0_items sheet1_lost sheet1_form sheet1_size sheet1_items sheet2_lost sheet2_form sheet2_size sheet2_items sheet3_lost sheet3_form sheet3_size sheet3_items) := vd_a hD rfl
  refine lv_if_eq (pc := 5) (tgt := 22) hx hb dX8_sheet_5 (by decide) (fun hc => ?_) (fun hc => ?_)
  · have hf := (if_pos hc).symm.trans hf
    refine lv_bipush (pc := 22) (v := (-2)) hx hb dX8_sheet_22 bp_m2 ?_
    have hf := Option.some.inj hf
    subst hf
    exact ret_i C hr hlk hP hS dX8_sheet_24
  · have hf := (if_neg hc).symm.trans hf
    refine lv_iload_n (pc := 8) hx hb dX8_sheet_8 rfl (lv_at hl 2 rfl) ?_
    refine lv_iconst (pc := 9) (v := 2) hx hb dX8_sheet_9 ic_2 ?_
    obtain ⟨r2, hq, hf⟩ := bind1_some hf
    refine fin_i (run_S (rest := []) (pc := 10) (As := [.int x2, .int (2 : Int32)]) C mf_X8_90 (c_X8_isUpTo l D cA  x2 (2 : Int32) r2 hq H.size) rfl rfl ⟨(Nat.le_of_ble_eq_true rfl), (Nat.le_of_ble_eq_true rfl)⟩ (preS_of C hP hD [] rfl rfl) rfl hl.1 rfl (Nat.le_of_ble_eq_true rfl) dX8_sheet_10 ⟨Nat.zero_le _, Nat.zero_le _⟩) hP hD hS hA [] rfl rfl (fun H locs hP hS => ?_)
    have hP : va_P D classes (wl_X8_sheet cA a x_stale x_finding sheet0_lost sheet0_form sheet0_size sheet0_items sheet1_lost sheet1_form sheet1_size sheet1_items sheet2_lost sheet2_form sheet2_size sheet2_items sheet3_lost sheet3_form sheet3_size sheet3_items) H := hP
    have hD : va_D (va_A ws0 sz) (wl_X8_sheet cA a x_stale x_finding sheet0_lost sheet0_form sheet0_size sheet0_items sheet1_lost sheet1_form sheet1_size sheet1_items sheet2_lost sheet2_form sheet2_size sheet2_items sheet3_lost sheet3_form sheet3_size sheet3_items) := vd_a hD rfl
    refine lv_if_eq (pc := 13) (tgt := 22) hx hb dX8_sheet_13 (by decide) (fun hc => ?_) (fun hc => ?_)
    · have hf := (if_pos hc).symm.trans hf
      refine lv_bipush (pc := 22) (v := (-2)) hx hb dX8_sheet_22 bp_m2 ?_
      have hf := Option.some.inj hf
      subst hf
      exact ret_i C hr hlk hP hS dX8_sheet_24
    · have hf := (if_neg hc).symm.trans hf
      refine lv_iload_n (pc := 16) hx hb dX8_sheet_16 rfl (lv_at hl 3 rfl) ?_
      refine lv_bipush (pc := 17) (v := 60) hx hb dX8_sheet_17 bp_60 ?_
      refine lv_icmp_le (pc := 19) (tgt := 25) hx hb dX8_sheet_19 (by decide) (fun hc => ?_) (fun hc => ?_)
      · have hf := (if_pos hc).symm.trans hf
        refine lv_iload_n (pc := 25) hx hb dX8_sheet_25 rfl (lv_at hl 3 rfl) ?_
        refine lv_if_ge (pc := 26) (tgt := 35) hx hb dX8_sheet_26 (by decide) (fun hc => ?_) (fun hc => ?_)
        · have hf := (if_pos hc).symm.trans hf
          refine lv_aload_n (pc := 35) hx hb dX8_sheet_35 rfl (lv_at hl 0 rfl) ?_
          refine g_get (pc := 36) C fg_X8_77 hP 0 rfl rfl dX8_sheet_36 ?_
          refine lv_iload_n (pc := 39) hx hb dX8_sheet_39 rfl (lv_at hl 1 rfl) ?_
          by_cases h_0 : x1 = (0 : Int32)
          · have hf := (if_pos h_0).symm.trans hf
            refine g_aald (pc := 40) (b := (a 46)) C hP 1 rfl (t0 := 3) rfl (by rw [h_0]; decide) (by rw [h_0, tn_0]; rfl) dX8_sheet_40 ?_
            refine lv_iload_n (pc := 41) hx hb dX8_sheet_41 rfl (lv_at hl 2 rfl) ?_
            refine lv_iload_n (pc := 42) hx hb dX8_sheet_42 rfl (lv_at hl 3 rfl) ?_
            obtain ⟨c3, c4, c5, c6, hq, hf⟩ := bind4_some hf
            refine fin_v (run_V (rest := []) (pc := 43) (As := [.int x2, .int x3]) C mf_X8_311 (c_X5_begin l D cA (a 46) (a 47) sheet0_lost sheet0_form sheet0_size sheet0_items x2 x3 (c3, c4, c5, c6) hq H.size) rfl rfl ⟨(Nat.le_of_ble_eq_true rfl), (Nat.le_of_ble_eq_true rfl)⟩ (preV_of C hP hD [2, 3] rfl rfl 0 rfl rfl rfl) rfl hl.1 rfl (Nat.le_of_ble_eq_true rfl) dX8_sheet_43 ⟨Nat.zero_le _, Nat.zero_le _⟩) hP hD hS hA [2, 3] rfl rfl (fun H locs hP hS => ?_)
            have hP : va_P D classes (wl_X8_sheet cA a x_stale x_finding c3 c4 c5 c6 sheet1_lost sheet1_form sheet1_size sheet1_items sheet2_lost sheet2_form sheet2_size sheet2_items sheet3_lost sheet3_form sheet3_size sheet3_items) H := hP
            have hD : va_D (va_A ws0 sz) (wl_X8_sheet cA a x_stale x_finding c3 c4 c5 c6 sheet1_lost sheet1_form sheet1_size sheet1_items sheet2_lost sheet2_form sheet2_size sheet2_items sheet3_lost sheet3_form sheet3_size sheet3_items) := vd_a hD rfl
            refine lv_iload_n (pc := 46) hx hb dX8_sheet_46 rfl (lv_at hl 3 rfl) ?_
            have hf := Option.some.inj hf
            subst hf
            exact ret_i C hr hlk hP hS dX8_sheet_47
          have hf := (if_neg h_0).symm.trans hf
          by_cases h_1 : x1 = (1 : Int32)
          · have hf := (if_pos h_1).symm.trans hf
            refine g_aald (pc := 40) (b := (a 48)) C hP 1 rfl (t0 := 3) rfl (by rw [h_1]; decide) (by rw [h_1, tn_1]; rfl) dX8_sheet_40 ?_
            refine lv_iload_n (pc := 41) hx hb dX8_sheet_41 rfl (lv_at hl 2 rfl) ?_
            refine lv_iload_n (pc := 42) hx hb dX8_sheet_42 rfl (lv_at hl 3 rfl) ?_
            obtain ⟨c7, c8, c9, c10, hq, hf⟩ := bind4_some hf
            refine fin_v (run_V (rest := []) (pc := 43) (As := [.int x2, .int x3]) C mf_X8_311 (c_X5_begin l D cA (a 48) (a 49) sheet1_lost sheet1_form sheet1_size sheet1_items x2 x3 (c7, c8, c9, c10) hq H.size) rfl rfl ⟨(Nat.le_of_ble_eq_true rfl), (Nat.le_of_ble_eq_true rfl)⟩ (preV_of C hP hD [4, 5] rfl rfl 0 rfl rfl rfl) rfl hl.1 rfl (Nat.le_of_ble_eq_true rfl) dX8_sheet_43 ⟨Nat.zero_le _, Nat.zero_le _⟩) hP hD hS hA [4, 5] rfl rfl (fun H locs hP hS => ?_)
            have hP : va_P D classes (wl_X8_sheet cA a x_stale x_finding sheet0_lost sheet0_form sheet0_size sheet0_items c7 c8 c9 c10 sheet2_lost sheet2_form sheet2_size sheet2_items sheet3_lost sheet3_form sheet3_size sheet3_items) H := hP
            have hD : va_D (va_A ws0 sz) (wl_X8_sheet cA a x_stale x_finding sheet0_lost sheet0_form sheet0_size sheet0_items c7 c8 c9 c10 sheet2_lost sheet2_form sheet2_size sheet2_items sheet3_lost sheet3_form sheet3_size sheet3_items) := vd_a hD rfl
            refine lv_iload_n (pc := 46) hx hb dX8_sheet_46 rfl (lv_at hl 3 rfl) ?_
            have hf := Option.some.inj hf
            subst hf
            exact ret_i C hr hlk hP hS dX8_sheet_47
          have hf := (if_neg h_1).symm.trans hf
          by_cases h_2 : x1 = (2 : Int32)
          · have hf := (if_pos h_2).symm.trans hf
            refine g_aald (pc := 40) (b := (a 50)) C hP 1 rfl (t0 := 3) rfl (by rw [h_2]; decide) (by rw [h_2, tn_2]; rfl) dX8_sheet_40 ?_
            refine lv_iload_n (pc := 41) hx hb dX8_sheet_41 rfl (lv_at hl 2 rfl) ?_
            refine lv_iload_n (pc := 42) hx hb dX8_sheet_42 rfl (lv_at hl 3 rfl) ?_
            obtain ⟨c11, c12, c13, c14, hq, hf⟩ := bind4_some hf
            refine fin_v (run_V (rest := []) (pc := 43) (As := [.int x2, .int x3]) C mf_X8_311 (c_X5_begin l D cA (a 50) (a 51) sheet2_lost sheet2_form sheet2_size sheet2_items x2 x3 (c11, c12, c13, c14) hq H.size) rfl rfl ⟨(Nat.le_of_ble_eq_true rfl), (Nat.le_of_ble_eq_true rfl)⟩ (preV_of C hP hD [6, 7] rfl rfl 0 rfl rfl rfl) rfl hl.1 rfl (Nat.le_of_ble_eq_true rfl) dX8_sheet_43 ⟨Nat.zero_le _, Nat.zero_le _⟩) hP hD hS hA [6, 7] rfl rfl (fun H locs hP hS => ?_)
            have hP : va_P D classes (wl_X8_sheet cA a x_stale x_finding sheet0_lost sheet0_form sheet0_size sheet0_items sheet1_lost sheet1_form sheet1_size sheet1_items c11 c12 c13 c14 sheet3_lost sheet3_form sheet3_size sheet3_items) H := hP
            have hD : va_D (va_A ws0 sz) (wl_X8_sheet cA a x_stale x_finding sheet0_lost sheet0_form sheet0_size sheet0_items sheet1_lost sheet1_form sheet1_size sheet1_items c11 c12 c13 c14 sheet3_lost sheet3_form sheet3_size sheet3_items) := vd_a hD rfl
            refine lv_iload_n (pc := 46) hx hb dX8_sheet_46 rfl (lv_at hl 3 rfl) ?_
            have hf := Option.some.inj hf
            subst hf
            exact ret_i C hr hlk hP hS dX8_sheet_47
          have hf := (if_neg h_2).symm.trans hf
          by_cases h_3 : x1 = (3 : Int32)
          · have hf := (if_pos h_3).symm.trans hf
            refine g_aald (pc := 40) (b := (a 52)) C hP 1 rfl (t0 := 3) rfl (by rw [h_3]; decide) (by rw [h_3, tn_3]; rfl) dX8_sheet_40 ?_
            refine lv_iload_n (pc := 41) hx hb dX8_sheet_41 rfl (lv_at hl 2 rfl) ?_
            refine lv_iload_n (pc := 42) hx hb dX8_sheet_42 rfl (lv_at hl 3 rfl) ?_
            obtain ⟨c15, c16, c17, c18, hq, hf⟩ := bind4_some hf
            refine fin_v (run_V (rest := []) (pc := 43) (As := [.int x2, .int x3]) C mf_X8_311 (c_X5_begin l D cA (a 52) (a 53) sheet3_lost sheet3_form sheet3_size sheet3_items x2 x3 (c15, c16, c17, c18) hq H.size) rfl rfl ⟨(Nat.le_of_ble_eq_true rfl), (Nat.le_of_ble_eq_true rfl)⟩ (preV_of C hP hD [8, 9] rfl rfl 0 rfl rfl rfl) rfl hl.1 rfl (Nat.le_of_ble_eq_true rfl) dX8_sheet_43 ⟨Nat.zero_le _, Nat.zero_le _⟩) hP hD hS hA [8, 9] rfl rfl (fun H locs hP hS => ?_)
            have hP : va_P D classes (wl_X8_sheet cA a x_stale x_finding sheet0_lost sheet0_form sheet0_size sheet0_items sheet1_lost sheet1_form sheet1_size sheet1_items sheet2_lost sheet2_form sheet2_size sheet2_items c15 c16 c17 c18) H := hP
            have hD : va_D (va_A ws0 sz) (wl_X8_sheet cA a x_stale x_finding sheet0_lost sheet0_form sheet0_size sheet0_items sheet1_lost sheet1_form sheet1_size sheet1_items sheet2_lost sheet2_form sheet2_size sheet2_items c15 c16 c17 c18) := vd_a hD rfl
            refine lv_iload_n (pc := 46) hx hb dX8_sheet_46 rfl (lv_at hl 3 rfl) ?_
            have hf := Option.some.inj hf
            subst hf
            exact ret_i C hr hlk hP hS dX8_sheet_47
          have hf := (if_neg h_3).symm.trans hf
          cases hf
        · have hf := (if_neg hc).symm.trans hf
          refine lv_aload_n (pc := 29) hx hb dX8_sheet_29 rfl (lv_at hl 0 rfl) ?_
          refine lv_iconst (pc := 30) (v := 5) hx hb dX8_sheet_30 ic_5 ?_
          obtain ⟨r19, c20, hq, hf⟩ := bind2_some hf
          refine fin_i (run_V (rest := []) (pc := 31) (As := [.int (5 : Int32)]) C mf_X8_139 (c_X8_found l D cA a x_stale x_finding (5 : Int32) (r19, c20) hq H.size) rfl rfl ⟨(Nat.le_of_ble_eq_true rfl), (Nat.le_of_ble_eq_true rfl)⟩ (preV_of C hP hD [0] rfl rfl 0 rfl rfl rfl) rfl hl.1 rfl (Nat.le_of_ble_eq_true rfl) dX8_sheet_31 ⟨Nat.zero_le _, Nat.zero_le _⟩) hP hD hS hA [0] rfl rfl (fun H locs hP hS => ?_)
          have hP : va_P D classes (wl_X8_sheet cA a x_stale c20 sheet0_lost sheet0_form sheet0_size sheet0_items sheet1_lost sheet1_form sheet1_size sheet1_items sheet2_lost sheet2_form sheet2_size sheet2_items sheet3_lost sheet3_form sheet3_size sheet3_items) H := hP
          have hD : va_D (va_A ws0 sz) (wl_X8_sheet cA a x_stale c20 sheet0_lost sheet0_form sheet0_size sheet0_items sheet1_lost sheet1_form sheet1_size sheet1_items sheet2_lost sheet2_form sheet2_size sheet2_items sheet3_lost sheet3_form sheet3_size sheet3_items) := vd_a hD rfl
          have hf := Option.some.inj hf
          subst hf
          exact ret_i C hr hlk hP hS dX8_sheet_34
      · have hf := (if_neg hc).symm.trans hf
        refine lv_bipush (pc := 22) (v := (-2)) hx hb dX8_sheet_22 bp_m2 ?_
        have hf := Option.some.inj hf
        subst hf
        exact ret_i C hr hlk hP hS dX8_sheet_24
set_option maxRecDepth 100000 in
theorem c_X8_sheet (l : Launch) (D : va_G) (cA : Nat → ClassId) (a : Nat → Nat) (x_stale : Int32) (x_finding : Int32) (sheet0_lost : Int32) (sheet0_form : Int32) (sheet0_size : Int32) (sheet0_items : Nat → Int32) (sheet1_lost : Int32) (sheet1_form : Int32) (sheet1_size : Int32) (sheet1_items : Nat → Int32) (sheet2_lost : Int32) (sheet2_form : Int32) (sheet2_size : Int32) (sheet2_items : Nat → Int32) (sheet3_lost : Int32) (sheet3_form : Int32) (sheet3_size : Int32) (sheet3_items : Nat → Int32) (x1 : Int32) (x2 : Int32) (x3 : Int32) (r : Int32 × Int32 × Int32 × Int32 × Int32 × (Nat → Int32) × Int32 × Int32 × Int32 × (Nat → Int32) × Int32 × Int32 × Int32 × (Nat → Int32) × Int32 × Int32 × Int32 × (Nat → Int32)) (hf : f_X8_sheet x_finding sheet0_lost sheet0_form sheet0_size sheet0_items sheet1_lost sheet1_form sheet1_size sheet1_items sheet2_lost sheet2_form sheet2_size sheet2_items sheet3_lost sheet3_form sheet3_size sheet3_items x1 x2 x3 = some r) (sz : Nat) : Met l yX8_sheet (Cond.code yX8_sheet cX8_sheet 4 (some .int) :: lw_good) rm_X8_sheet (PreX D cA [.ref (a 0), .int x1, .int x2, .int x3] sz (wl_X8_sheet cA a x_stale x_finding sheet0_lost sheet0_form sheet0_size sheet0_items sheet1_lost sheet1_form sheet1_size sheet1_items sheet2_lost sheet2_form sheet2_size sheet2_items sheet3_lost sheet3_form sheet3_size sheet3_items)) (PostI D r.1 (wl_X8_sheet cA a x_stale x_finding sheet0_lost sheet0_form sheet0_size sheet0_items sheet1_lost sheet1_form sheet1_size sheet1_items sheet2_lost sheet2_form sheet2_size sheet2_items sheet3_lost sheet3_form sheet3_size sheet3_items) (wl_X8_sheet cA a x_stale (r.2.1) (r.2.2.1) (r.2.2.2.1) (r.2.2.2.2.1) (r.2.2.2.2.2.1) (r.2.2.2.2.2.2.1) (r.2.2.2.2.2.2.2.1) (r.2.2.2.2.2.2.2.2.1) (r.2.2.2.2.2.2.2.2.2.1) (r.2.2.2.2.2.2.2.2.2.2.1) (r.2.2.2.2.2.2.2.2.2.2.2.1) (r.2.2.2.2.2.2.2.2.2.2.2.2.1) (r.2.2.2.2.2.2.2.2.2.2.2.2.2.1) (r.2.2.2.2.2.2.2.2.2.2.2.2.2.2.1) (r.2.2.2.2.2.2.2.2.2.2.2.2.2.2.2.1) (r.2.2.2.2.2.2.2.2.2.2.2.2.2.2.2.2.1) (r.2.2.2.2.2.2.2.2.2.2.2.2.2.2.2.2.2)) sz) 0 0 (va_A (wl_X8_sheet cA a x_stale x_finding sheet0_lost sheet0_form sheet0_size sheet0_items sheet1_lost sheet1_form sheet1_size sheet1_items sheet2_lost sheet2_form sheet2_size sheet2_items sheet3_lost sheet3_form sheet3_size sheet3_items) sz) :=
  met_of (by decide) (Nat.le_of_ble_eq_true rfl) (fun p e s m args below meth c C hr hlk hA => k_X8_sheet C hr hlk hA a x_stale x_finding sheet0_lost sheet0_form sheet0_size sheet0_items sheet1_lost sheet1_form sheet1_size sheet1_items sheet2_lost sheet2_form sheet2_size sheet2_items sheet3_lost sheet3_form sheet3_size sheet3_items x1 x2 x3 r hf)
end

abbrev wl_X8_lose (cA : Nat → ClassId) (a : Nat → Nat) (x_stale : Int32) (x_finding : Int32) (sheet0_lost : Int32) (sheet0_form : Int32) (sheet0_size : Int32) (sheet1_lost : Int32) (sheet1_form : Int32) (sheet1_size : Int32) (sheet2_lost : Int32) (sheet2_form : Int32) (sheet2_size : Int32) (sheet3_lost : Int32) (sheet3_form : Int32) (sheet3_size : Int32) : va_W := [((a 0), .inr (8, [.ref (a 1), .ref (a 6), .ref (a 12), .ref (a 15), .ref (a 19), .ref (a 23), .ref (a 27), .ref (a 34), .ref (a 41), .ref (a 42), .ref (a 44), .ref (a 45), .int x_stale, .int x_finding])), ((a 45), .inl (cA 3, 4, .inr (.inr (.inr (.inr (fun k : Nat => if k = 0 then some (a 46) else if k = 1 then some (a 48) else if k = 2 then some (a 50) else some (a 52))))))), ((a 46), .inr (5, [.ref (a 47), .int sheet0_lost, .int sheet0_form, .int sheet0_size])), ((a 48), .inr (5, [.ref (a 49), .int sheet1_lost, .int sheet1_form, .int sheet1_size])), ((a 50), .inr (5, [.ref (a 51), .int sheet2_lost, .int sheet2_form, .int sheet2_size])), ((a 52), .inr (5, [.ref (a 53), .int sheet3_lost, .int sheet3_form, .int sheet3_size]))]
abbrev rm_X8_lose : Room := { frames := 1, cells := 0, slots := 0, locals := 21 }
section
variable {p : Program} {l : Launch} {e : Env} {s : State} {m : MethodId} {args : Array Value} {below : List Frame} {meth : Method} {c : Code} {D : va_G} {cA : Nat → ClassId} {ws0 : va_W} {sz : Nat} {A : Nat → Prop} {Q : State → Prop}
def f_X8_lose (x_finding : Int32) (sheet0_lost : Int32) (sheet0_size : Int32) (sheet1_lost : Int32) (sheet1_size : Int32) (sheet2_lost : Int32) (sheet2_size : Int32) (sheet3_lost : Int32) (sheet3_size : Int32) (x1 : Int32) : Option (Int32 × Int32 × Int32 × Int32 × Int32 × Int32) :=
  bind1 (f_X8_isUpTo x1 (3 : Int32)) (fun r1 => if r1 = 0 then (some ((-2 : Int32), x_finding, sheet0_lost, sheet1_lost, sheet2_lost, sheet3_lost)) else (if x1 = (0 : Int32) then (if sheet0_lost = 0 then (if x1 = (0 : Int32) then (if x1 = (0 : Int32) then (some (sheet0_size, x_finding, (1 : Int32), sheet1_lost, sheet2_lost, sheet3_lost)) else (if x1 = (1 : Int32) then (some (sheet1_size, x_finding, (1 : Int32), sheet1_lost, sheet2_lost, sheet3_lost)) else (if x1 = (2 : Int32) then (some (sheet2_size, x_finding, (1 : Int32), sheet1_lost, sheet2_lost, sheet3_lost)) else (if x1 = (3 : Int32) then (some (sheet3_size, x_finding, (1 : Int32), sheet1_lost, sheet2_lost, sheet3_lost)) else (none))))) else (if x1 = (1 : Int32) then (if x1 = (0 : Int32) then (some (sheet0_size, x_finding, sheet0_lost, (1 : Int32), sheet2_lost, sheet3_lost)) else (if x1 = (1 : Int32) then (some (sheet1_size, x_finding, sheet0_lost, (1 : Int32), sheet2_lost, sheet3_lost)) else (if x1 = (2 : Int32) then (some (sheet2_size, x_finding, sheet0_lost, (1 : Int32), sheet2_lost, sheet3_lost)) else (if x1 = (3 : Int32) then (some (sheet3_size, x_finding, sheet0_lost, (1 : Int32), sheet2_lost, sheet3_lost)) else (none))))) else (if x1 = (2 : Int32) then (if x1 = (0 : Int32) then (some (sheet0_size, x_finding, sheet0_lost, sheet1_lost, (1 : Int32), sheet3_lost)) else (if x1 = (1 : Int32) then (some (sheet1_size, x_finding, sheet0_lost, sheet1_lost, (1 : Int32), sheet3_lost)) else (if x1 = (2 : Int32) then (some (sheet2_size, x_finding, sheet0_lost, sheet1_lost, (1 : Int32), sheet3_lost)) else (if x1 = (3 : Int32) then (some (sheet3_size, x_finding, sheet0_lost, sheet1_lost, (1 : Int32), sheet3_lost)) else (none))))) else (if x1 = (3 : Int32) then (if x1 = (0 : Int32) then (some (sheet0_size, x_finding, sheet0_lost, sheet1_lost, sheet2_lost, (1 : Int32))) else (if x1 = (1 : Int32) then (some (sheet1_size, x_finding, sheet0_lost, sheet1_lost, sheet2_lost, (1 : Int32))) else (if x1 = (2 : Int32) then (some (sheet2_size, x_finding, sheet0_lost, sheet1_lost, sheet2_lost, (1 : Int32))) else (if x1 = (3 : Int32) then (some (sheet3_size, x_finding, sheet0_lost, sheet1_lost, sheet2_lost, (1 : Int32))) else (none))))) else (none))))) else (bind2 (f_X8_found x_finding (1 : Int32)) (fun r2 c3 => some (r2, c3, sheet0_lost, sheet1_lost, sheet2_lost, sheet3_lost)))) else (if x1 = (1 : Int32) then (if sheet1_lost = 0 then (if x1 = (0 : Int32) then (if x1 = (0 : Int32) then (some (sheet0_size, x_finding, (1 : Int32), sheet1_lost, sheet2_lost, sheet3_lost)) else (if x1 = (1 : Int32) then (some (sheet1_size, x_finding, (1 : Int32), sheet1_lost, sheet2_lost, sheet3_lost)) else (if x1 = (2 : Int32) then (some (sheet2_size, x_finding, (1 : Int32), sheet1_lost, sheet2_lost, sheet3_lost)) else (if x1 = (3 : Int32) then (some (sheet3_size, x_finding, (1 : Int32), sheet1_lost, sheet2_lost, sheet3_lost)) else (none))))) else (if x1 = (1 : Int32) then (if x1 = (0 : Int32) then (some (sheet0_size, x_finding, sheet0_lost, (1 : Int32), sheet2_lost, sheet3_lost)) else (if x1 = (1 : Int32) then (some (sheet1_size, x_finding, sheet0_lost, (1 : Int32), sheet2_lost, sheet3_lost)) else (if x1 = (2 : Int32) then (some (sheet2_size, x_finding, sheet0_lost, (1 : Int32), sheet2_lost, sheet3_lost)) else (if x1 = (3 : Int32) then (some (sheet3_size, x_finding, sheet0_lost, (1 : Int32), sheet2_lost, sheet3_lost)) else (none))))) else (if x1 = (2 : Int32) then (if x1 = (0 : Int32) then (some (sheet0_size, x_finding, sheet0_lost, sheet1_lost, (1 : Int32), sheet3_lost)) else (if x1 = (1 : Int32) then (some (sheet1_size, x_finding, sheet0_lost, sheet1_lost, (1 : Int32), sheet3_lost)) else (if x1 = (2 : Int32) then (some (sheet2_size, x_finding, sheet0_lost, sheet1_lost, (1 : Int32), sheet3_lost)) else (if x1 = (3 : Int32) then (some (sheet3_size, x_finding, sheet0_lost, sheet1_lost, (1 : Int32), sheet3_lost)) else (none))))) else (if x1 = (3 : Int32) then (if x1 = (0 : Int32) then (some (sheet0_size, x_finding, sheet0_lost, sheet1_lost, sheet2_lost, (1 : Int32))) else (if x1 = (1 : Int32) then (some (sheet1_size, x_finding, sheet0_lost, sheet1_lost, sheet2_lost, (1 : Int32))) else (if x1 = (2 : Int32) then (some (sheet2_size, x_finding, sheet0_lost, sheet1_lost, sheet2_lost, (1 : Int32))) else (if x1 = (3 : Int32) then (some (sheet3_size, x_finding, sheet0_lost, sheet1_lost, sheet2_lost, (1 : Int32))) else (none))))) else (none))))) else (bind2 (f_X8_found x_finding (1 : Int32)) (fun r4 c5 => some (r4, c5, sheet0_lost, sheet1_lost, sheet2_lost, sheet3_lost)))) else (if x1 = (2 : Int32) then (if sheet2_lost = 0 then (if x1 = (0 : Int32) then (if x1 = (0 : Int32) then (some (sheet0_size, x_finding, (1 : Int32), sheet1_lost, sheet2_lost, sheet3_lost)) else (if x1 = (1 : Int32) then (some (sheet1_size, x_finding, (1 : Int32), sheet1_lost, sheet2_lost, sheet3_lost)) else (if x1 = (2 : Int32) then (some (sheet2_size, x_finding, (1 : Int32), sheet1_lost, sheet2_lost, sheet3_lost)) else (if x1 = (3 : Int32) then (some (sheet3_size, x_finding, (1 : Int32), sheet1_lost, sheet2_lost, sheet3_lost)) else (none))))) else (if x1 = (1 : Int32) then (if x1 = (0 : Int32) then (some (sheet0_size, x_finding, sheet0_lost, (1 : Int32), sheet2_lost, sheet3_lost)) else (if x1 = (1 : Int32) then (some (sheet1_size, x_finding, sheet0_lost, (1 : Int32), sheet2_lost, sheet3_lost)) else (if x1 = (2 : Int32) then (some (sheet2_size, x_finding, sheet0_lost, (1 : Int32), sheet2_lost, sheet3_lost)) else (if x1 = (3 : Int32) then (some (sheet3_size, x_finding, sheet0_lost, (1 : Int32), sheet2_lost, sheet3_lost)) else (none))))) else (if x1 = (2 : Int32) then (if x1 = (0 : Int32) then (some (sheet0_size, x_finding, sheet0_lost, sheet1_lost, (1 : Int32), sheet3_lost)) else (if x1 = (1 : Int32) then (some (sheet1_size, x_finding, sheet0_lost, sheet1_lost, (1 : Int32), sheet3_lost)) else (if x1 = (2 : Int32) then (some (sheet2_size, x_finding, sheet0_lost, sheet1_lost, (1 : Int32), sheet3_lost)) else (if x1 = (3 : Int32) then (some (sheet3_size, x_finding, sheet0_lost, sheet1_lost, (1 : Int32), sheet3_lost)) else (none))))) else (if x1 = (3 : Int32) then (if x1 = (0 : Int32) then (some (sheet0_size, x_finding, sheet0_lost, sheet1_lost, sheet2_lost, (1 : Int32))) else (if x1 = (1 : Int32) then (some (sheet1_size, x_finding, sheet0_lost, sheet1_lost, sheet2_lost, (1 : Int32))) else (if x1 = (2 : Int32) then (some (sheet2_size, x_finding, sheet0_lost, sheet1_lost, sheet2_lost, (1 : Int32))) else (if x1 = (3 : Int32) then (some (sheet3_size, x_finding, sheet0_lost, sheet1_lost, sheet2_lost, (1 : Int32))) else (none))))) else (none))))) else (bind2 (f_X8_found x_finding (1 : Int32)) (fun r6 c7 => some (r6, c7, sheet0_lost, sheet1_lost, sheet2_lost, sheet3_lost)))) else (if x1 = (3 : Int32) then (if sheet3_lost = 0 then (if x1 = (0 : Int32) then (if x1 = (0 : Int32) then (some (sheet0_size, x_finding, (1 : Int32), sheet1_lost, sheet2_lost, sheet3_lost)) else (if x1 = (1 : Int32) then (some (sheet1_size, x_finding, (1 : Int32), sheet1_lost, sheet2_lost, sheet3_lost)) else (if x1 = (2 : Int32) then (some (sheet2_size, x_finding, (1 : Int32), sheet1_lost, sheet2_lost, sheet3_lost)) else (if x1 = (3 : Int32) then (some (sheet3_size, x_finding, (1 : Int32), sheet1_lost, sheet2_lost, sheet3_lost)) else (none))))) else (if x1 = (1 : Int32) then (if x1 = (0 : Int32) then (some (sheet0_size, x_finding, sheet0_lost, (1 : Int32), sheet2_lost, sheet3_lost)) else (if x1 = (1 : Int32) then (some (sheet1_size, x_finding, sheet0_lost, (1 : Int32), sheet2_lost, sheet3_lost)) else (if x1 = (2 : Int32) then (some (sheet2_size, x_finding, sheet0_lost, (1 : Int32), sheet2_lost, sheet3_lost)) else (if x1 = (3 : Int32) then (some (sheet3_size, x_finding, sheet0_lost, (1 : Int32), sheet2_lost, sheet3_lost)) else (none))))) else (if x1 = (2 : Int32) then (if x1 = (0 : Int32) then (some (sheet0_size, x_finding, sheet0_lost, sheet1_lost, (1 : Int32), sheet3_lost)) else (if x1 = (1 : Int32) then (some (sheet1_size, x_finding, sheet0_lost, sheet1_lost, (1 : Int32), sheet3_lost)) else (if x1 = (2 : Int32) then (some (sheet2_size, x_finding, sheet0_lost, sheet1_lost, (1 : Int32), sheet3_lost)) else (if x1 = (3 : Int32) then (some (sheet3_size, x_finding, sheet0_lost, sheet1_lost, (1 : Int32), sheet3_lost)) else (none))))) else (if x1 = (3 : Int32) then (if x1 = (0 : Int32) then (some (sheet0_size, x_finding, sheet0_lost, sheet1_lost, sheet2_lost, (1 : Int32))) else (if x1 = (1 : Int32) then (some (sheet1_size, x_finding, sheet0_lost, sheet1_lost, sheet2_lost, (1 : Int32))) else (if x1 = (2 : Int32) then (some (sheet2_size, x_finding, sheet0_lost, sheet1_lost, sheet2_lost, (1 : Int32))) else (if x1 = (3 : Int32) then (some (sheet3_size, x_finding, sheet0_lost, sheet1_lost, sheet2_lost, (1 : Int32))) else (none))))) else (none))))) else (bind2 (f_X8_found x_finding (1 : Int32)) (fun r8 c9 => some (r8, c9, sheet0_lost, sheet1_lost, sheet2_lost, sheet3_lost)))) else (none))))))
set_option maxHeartbeats 4000000 in
set_option maxRecDepth 100000 in
theorem k_X8_lose (C : Cx RX8 cX8_lose 2 D cA p s m args c) (hr : meth.sig.returnType = (some .int)) (hlk : meth.locks = false) (hA : ∀ q, s.heap.size ≤ q → va_A ws0 sz q) (a : Nat → Nat) (x_stale : Int32) (x_finding : Int32) (sheet0_lost : Int32) (sheet0_form : Int32) (sheet0_size : Int32) (sheet1_lost : Int32) (sheet1_form : Int32) (sheet1_size : Int32) (sheet2_lost : Int32) (sheet2_form : Int32) (sheet2_size : Int32) (sheet3_lost : Int32) (sheet3_form : Int32) (sheet3_size : Int32) (x1 : Int32) (r : Int32 × Int32 × Int32 × Int32 × Int32 × Int32) (hf : f_X8_lose x_finding sheet0_lost sheet0_size sheet1_lost sheet1_size sheet2_lost sheet2_size sheet3_lost sheet3_size x1 = some r) : At p l e rm_X8_lose s m args below meth c D (va_A ws0 sz) 0 0 (MQ below (PostI D r.1 ws0 (wl_X8_lose cA a x_stale (r.2.1) (r.2.2.1) sheet0_form sheet0_size (r.2.2.2.1) sheet1_form sheet1_size (r.2.2.2.2.1) sheet2_form sheet2_size (r.2.2.2.2.2) sheet3_form sheet3_size) sz) args s 0 0 (va_A ws0 sz)) 2 0 (wl_X8_lose cA a x_stale x_finding sheet0_lost sheet0_form sheet0_size sheet1_lost sheet1_form sheet1_size sheet2_lost sheet2_form sheet2_size sheet3_lost sheet3_form sheet3_size) [(0, .ref (a 0)), (1, .int x1)] [] := by
  intro H locs ls hP hD hS hl
  have hx := C.1
  have hb := C.2.1
  have hown := C.2.2.2.1
  have hts := C.2.2.2.2.1
  unfold f_X8_lose at hf
  refine lv_iload_n (pc := 0) hx hb dX8_lose_0 rfl (lv_at hl 1 rfl) ?_
  refine lv_iconst (pc := 1) (v := 3) hx hb dX8_lose_1 ic_3 ?_
  obtain ⟨r1, hq, hf⟩ := bind1_some hf
  refine fin_i (run_S (rest := []) (pc := 2) (As := [.int x1, .int (3 : Int32)]) C mf_X8_90 (c_X8_isUpTo l D cA  x1 (3 : Int32) r1 hq H.size) rfl rfl ⟨(Nat.le_of_ble_eq_true rfl), (Nat.le_of_ble_eq_true rfl)⟩ (preS_of C hP hD [] rfl rfl) rfl hl.1 rfl (Nat.le_of_ble_eq_true rfl) dX8_lose_2 ⟨Nat.zero_le _, Nat.zero_le _⟩) hP hD hS hA [] rfl rfl (fun H locs hP hS => ?_)
  have hP : va_P D classes (wl_X8_lose cA a x_stale x_finding sheet0_lost sheet0_form sheet0_size sheet1_lost sheet1_form sheet1_size sheet2_lost sheet2_form sheet2_size sheet3_lost sheet3_form sheet3_size) H := hP
  have hD : va_D (va_A ws0 sz) (wl_X8_lose cA a x_stale x_finding sheet0_lost sheet0_form sheet0_size sheet1_lost sheet1_form sheet1_size sheet2_lost sheet2_form sheet2_size sheet3_lost sheet3_form sheet3_size) := vd_a hD rfl
  refine lv_if_ne (pc := 5) (tgt := 11) hx hb dX8_lose_5 (by decide) (fun hc => ?_) (fun hc => ?_)
  · have hf := (if_neg hc).symm.trans hf
    refine lv_aload_n (pc := 11) hx hb dX8_lose_11 rfl (lv_at hl 0 rfl) ?_
    refine g_get (pc := 12) C fg_X8_77 hP 0 rfl rfl dX8_lose_12 ?_
    refine lv_iload_n (pc := 15) hx hb dX8_lose_15 rfl (lv_at hl 1 rfl) ?_
    by_cases h_0 : x1 = (0 : Int32)
    · have hf := (if_pos h_0).symm.trans hf
      refine g_aald (pc := 16) (b := (a 46)) C hP 1 rfl (t0 := 3) rfl (by rw [h_0]; decide) (by rw [h_0, tn_0]; rfl) dX8_lose_16 ?_
      refine g_get (pc := 17) C fg_X8_136 hP 2 rfl rfl dX8_lose_17 ?_
      refine lv_if_eq (pc := 20) (tgt := 29) hx hb dX8_lose_20 (by decide) (fun hc => ?_) (fun hc => ?_)
      · have hf := (if_pos hc).symm.trans hf
        refine lv_aload_n (pc := 29) hx hb dX8_lose_29 rfl (lv_at hl 0 rfl) ?_
        refine g_get (pc := 30) C fg_X8_77 hP 0 rfl rfl dX8_lose_30 ?_
        refine lv_iload_n (pc := 33) hx hb dX8_lose_33 rfl (lv_at hl 1 rfl) ?_
        by_cases h_0 : x1 = (0 : Int32)
        · have hf := (if_pos h_0).symm.trans hf
          refine g_aald (pc := 34) (b := (a 46)) C hP 1 rfl (t0 := 3) rfl (by rw [h_0]; decide) (by rw [h_0, tn_0]; rfl) dX8_lose_34 ?_
          refine lv_iconst (pc := 35) (v := 1) hx hb dX8_lose_35 ic_1 ?_
          refine g_put (pc := 36) C fg_X8_136 ft_X5_1 hP hD hS 2 rfl (by decide) rfl (Nat.le_of_ble_eq_true rfl) dX8_lose_36 (fun H locs hP hD hS => ?_)
          have hP : va_P D classes (wl_X8_lose cA a x_stale x_finding (1 : Int32) sheet0_form sheet0_size sheet1_lost sheet1_form sheet1_size sheet2_lost sheet2_form sheet2_size sheet3_lost sheet3_form sheet3_size) H := hP
          have hD : va_D (va_A ws0 sz) (wl_X8_lose cA a x_stale x_finding (1 : Int32) sheet0_form sheet0_size sheet1_lost sheet1_form sheet1_size sheet2_lost sheet2_form sheet2_size sheet3_lost sheet3_form sheet3_size) := hD
          refine lv_aload_n (pc := 39) hx hb dX8_lose_39 rfl (lv_at hl 0 rfl) ?_
          refine g_get (pc := 40) C fg_X8_77 hP 0 rfl rfl dX8_lose_40 ?_
          refine lv_iload_n (pc := 43) hx hb dX8_lose_43 rfl (lv_at hl 1 rfl) ?_
          by_cases h_0 : x1 = (0 : Int32)
          · have hf := (if_pos h_0).symm.trans hf
            refine g_aald (pc := 44) (b := (a 46)) C hP 1 rfl (t0 := 3) rfl (by rw [h_0]; decide) (by rw [h_0, tn_0]; rfl) dX8_lose_44 ?_
            refine g_get (pc := 45) C fg_X8_143 hP 2 rfl rfl dX8_lose_45 ?_
            have hf := Option.some.inj hf
            subst hf
            exact ret_i C hr hlk hP hS dX8_lose_48
          have hf := (if_neg h_0).symm.trans hf
          by_cases h_1 : x1 = (1 : Int32)
          · have hf := (if_pos h_1).symm.trans hf
            refine g_aald (pc := 44) (b := (a 48)) C hP 1 rfl (t0 := 3) rfl (by rw [h_1]; decide) (by rw [h_1, tn_1]; rfl) dX8_lose_44 ?_
            refine g_get (pc := 45) C fg_X8_143 hP 3 rfl rfl dX8_lose_45 ?_
            have hf := Option.some.inj hf
            subst hf
            exact ret_i C hr hlk hP hS dX8_lose_48
          have hf := (if_neg h_1).symm.trans hf
          by_cases h_2 : x1 = (2 : Int32)
          · have hf := (if_pos h_2).symm.trans hf
            refine g_aald (pc := 44) (b := (a 50)) C hP 1 rfl (t0 := 3) rfl (by rw [h_2]; decide) (by rw [h_2, tn_2]; rfl) dX8_lose_44 ?_
            refine g_get (pc := 45) C fg_X8_143 hP 4 rfl rfl dX8_lose_45 ?_
            have hf := Option.some.inj hf
            subst hf
            exact ret_i C hr hlk hP hS dX8_lose_48
          have hf := (if_neg h_2).symm.trans hf
          by_cases h_3 : x1 = (3 : Int32)
          · have hf := (if_pos h_3).symm.trans hf
            refine g_aald (pc := 44) (b := (a 52)) C hP 1 rfl (t0 := 3) rfl (by rw [h_3]; decide) (by rw [h_3, tn_3]; rfl) dX8_lose_44 ?_
            refine g_get (pc := 45) C fg_X8_143 hP 5 rfl rfl dX8_lose_45 ?_
            have hf := Option.some.inj hf
            subst hf
            exact ret_i C hr hlk hP hS dX8_lose_48
          have hf := (if_neg h_3).symm.trans hf
          cases hf
        have hf := (if_neg h_0).symm.trans hf
        by_cases h_1 : x1 = (1 : Int32)
        · have hf := (if_pos h_1).symm.trans hf
          refine g_aald (pc := 34) (b := (a 48)) C hP 1 rfl (t0 := 3) rfl (by rw [h_1]; decide) (by rw [h_1, tn_1]; rfl) dX8_lose_34 ?_
          refine lv_iconst (pc := 35) (v := 1) hx hb dX8_lose_35 ic_1 ?_
          refine g_put (pc := 36) C fg_X8_136 ft_X5_1 hP hD hS 3 rfl (by decide) rfl (Nat.le_of_ble_eq_true rfl) dX8_lose_36 (fun H locs hP hD hS => ?_)
          have hP : va_P D classes (wl_X8_lose cA a x_stale x_finding sheet0_lost sheet0_form sheet0_size (1 : Int32) sheet1_form sheet1_size sheet2_lost sheet2_form sheet2_size sheet3_lost sheet3_form sheet3_size) H := hP
          have hD : va_D (va_A ws0 sz) (wl_X8_lose cA a x_stale x_finding sheet0_lost sheet0_form sheet0_size (1 : Int32) sheet1_form sheet1_size sheet2_lost sheet2_form sheet2_size sheet3_lost sheet3_form sheet3_size) := hD
          refine lv_aload_n (pc := 39) hx hb dX8_lose_39 rfl (lv_at hl 0 rfl) ?_
          refine g_get (pc := 40) C fg_X8_77 hP 0 rfl rfl dX8_lose_40 ?_
          refine lv_iload_n (pc := 43) hx hb dX8_lose_43 rfl (lv_at hl 1 rfl) ?_
          by_cases h_0 : x1 = (0 : Int32)
          · have hf := (if_pos h_0).symm.trans hf
            refine g_aald (pc := 44) (b := (a 46)) C hP 1 rfl (t0 := 3) rfl (by rw [h_0]; decide) (by rw [h_0, tn_0]; rfl) dX8_lose_44 ?_
            refine g_get (pc := 45) C fg_X8_143 hP 2 rfl rfl dX8_lose_45 ?_
            have hf := Option.some.inj hf
            subst hf
            exact ret_i C hr hlk hP hS dX8_lose_48
          have hf := (if_neg h_0).symm.trans hf
          by_cases h_1 : x1 = (1 : Int32)
          · have hf := (if_pos h_1).symm.trans hf
            refine g_aald (pc := 44) (b := (a 48)) C hP 1 rfl (t0 := 3) rfl (by rw [h_1]; decide) (by rw [h_1, tn_1]; rfl) dX8_lose_44 ?_
            refine g_get (pc := 45) C fg_X8_143 hP 3 rfl rfl dX8_lose_45 ?_
            have hf := Option.some.inj hf
            subst hf
            exact ret_i C hr hlk hP hS dX8_lose_48
          have hf := (if_neg h_1).symm.trans hf
          by_cases h_2 : x1 = (2 : Int32)
          · have hf := (if_pos h_2).symm.trans hf
            refine g_aald (pc := 44) (b := (a 50)) C hP 1 rfl (t0 := 3) rfl (by rw [h_2]; decide) (by rw [h_2, tn_2]; rfl) dX8_lose_44 ?_
            refine g_get (pc := 45) C fg_X8_143 hP 4 rfl rfl dX8_lose_45 ?_
            have hf := Option.some.inj hf
            subst hf
            exact ret_i C hr hlk hP hS dX8_lose_48
          have hf := (if_neg h_2).symm.trans hf
          by_cases h_3 : x1 = (3 : Int32)
          · have hf := (if_pos h_3).symm.trans hf
            refine g_aald (pc := 44) (b := (a 52)) C hP 1 rfl (t0 := 3) rfl (by rw [h_3]; decide) (by rw [h_3, tn_3]; rfl) dX8_lose_44 ?_
            refine g_get (pc := 45) C fg_X8_143 hP 5 rfl rfl dX8_lose_45 ?_
            have hf := Option.some.inj hf
            subst hf
            exact ret_i C hr hlk hP hS dX8_lose_48
          have hf := (if_neg h_3).symm.trans hf
          cases hf
        have hf := (if_neg h_1).symm.trans hf
        by_cases h_2 : x1 = (2 : Int32)
        · have hf := (if_pos h_2).symm.trans hf
          refine g_aald (pc := 34) (b := (a 50)) C hP 1 rfl (t0 := 3) rfl (by rw [h_2]; decide) (by rw [h_2, tn_2]; rfl) dX8_lose_34 ?_
          refine lv_iconst (pc := 35) (v := 1) hx hb dX8_lose_35 ic_1 ?_
          refine g_put (pc := 36) C fg_X8_136 ft_X5_1 hP hD hS 4 rfl (by decide) rfl (Nat.le_of_ble_eq_true rfl) dX8_lose_36 (fun H locs hP hD hS => ?_)
          have hP : va_P D classes (wl_X8_lose cA a x_stale x_finding sheet0_lost sheet0_form sheet0_size sheet1_lost sheet1_form sheet1_size (1 : Int32) sheet2_form sheet2_size sheet3_lost sheet3_form sheet3_size) H := hP
          have hD : va_D (va_A ws0 sz) (wl_X8_lose cA a x_stale x_finding sheet0_lost sheet0_form sheet0_size sheet1_lost sheet1_form sheet1_size (1 : Int32) sheet2_form sheet2_size sheet3_lost sheet3_form sheet3_size) := hD
          refine lv_aload_n (pc := 39) hx hb dX8_lose_39 rfl (lv_at hl 0 rfl) ?_
          refine g_get (pc := 40) C fg_X8_77 hP 0 rfl rfl dX8_lose_40 ?_
          refine lv_iload_n (pc := 43) hx hb dX8_lose_43 rfl (lv_at hl 1 rfl) ?_
          by_cases h_0 : x1 = (0 : Int32)
          · have hf := (if_pos h_0).symm.trans hf
            refine g_aald (pc := 44) (b := (a 46)) C hP 1 rfl (t0 := 3) rfl (by rw [h_0]; decide) (by rw [h_0, tn_0]; rfl) dX8_lose_44 ?_
            refine g_get (pc := 45) C fg_X8_143 hP 2 rfl rfl dX8_lose_45 ?_
            have hf := Option.some.inj hf
            subst hf
            exact ret_i C hr hlk hP hS dX8_lose_48
          have hf := (if_neg h_0).symm.trans hf
          by_cases h_1 : x1 = (1 : Int32)
          · have hf := (if_pos h_1).symm.trans hf
            refine g_aald (pc := 44) (b := (a 48)) C hP 1 rfl (t0 := 3) rfl (by rw [h_1]; decide) (by rw [h_1, tn_1]; rfl) dX8_lose_44 ?_
            refine g_get (pc := 45) C fg_X8_143 hP 3 rfl rfl dX8_lose_45 ?_
            have hf := Option.some.inj hf
            subst hf
            exact ret_i C hr hlk hP hS dX8_lose_48
          have hf := (if_neg h_1).symm.trans hf
          by_cases h_2 : x1 = (2 : Int32)
          · have hf := (if_pos h_2).symm.trans hf
            refine g_aald (pc := 44) (b := (a 50)) C hP 1 rfl (t0 := 3) rfl (by rw [h_2]; decide) (by rw [h_2, tn_2]; rfl) dX8_lose_44 ?_
            refine g_get (pc := 45) C fg_X8_143 hP 4 rfl rfl dX8_lose_45 ?_
            have hf := Option.some.inj hf
            subst hf
            exact ret_i C hr hlk hP hS dX8_lose_48
          have hf := (if_neg h_2).symm.trans hf
          by_cases h_3 : x1 = (3 : Int32)
          · have hf := (if_pos h_3).symm.trans hf
            refine g_aald (pc := 44) (b := (a 52)) C hP 1 rfl (t0 := 3) rfl (by rw [h_3]; decide) (by rw [h_3, tn_3]; rfl) dX8_lose_44 ?_
            refine g_get (pc := 45) C fg_X8_143 hP 5 rfl rfl dX8_lose_45 ?_
            have hf := Option.some.inj hf
            subst hf
            exact ret_i C hr hlk hP hS dX8_lose_48
          have hf := (if_neg h_3).symm.trans hf
          cases hf
        have hf := (if_neg h_2).symm.trans hf
        by_cases h_3 : x1 = (3 : Int32)
        · have hf := (if_pos h_3).symm.trans hf
          refine g_aald (pc := 34) (b := (a 52)) C hP 1 rfl (t0 := 3) rfl (by rw [h_3]; decide) (by rw [h_3, tn_3]; rfl) dX8_lose_34 ?_
          refine lv_iconst (pc := 35) (v := 1) hx hb dX8_lose_35 ic_1 ?_
          refine g_put (pc := 36) C fg_X8_136 ft_X5_1 hP hD hS 5 rfl (by decide) rfl (Nat.le_of_ble_eq_true rfl) dX8_lose_36 (fun H locs hP hD hS => ?_)
          have hP : va_P D classes (wl_X8_lose cA a x_stale x_finding sheet0_lost sheet0_form sheet0_size sheet1_lost sheet1_form sheet1_size sheet2_lost sheet2_form sheet2_size (1 : Int32) sheet3_form sheet3_size) H := hP
          have hD : va_D (va_A ws0 sz) (wl_X8_lose cA a x_stale x_finding sheet0_lost sheet0_form sheet0_size sheet1_lost sheet1_form sheet1_size sheet2_lost sheet2_form sheet2_size (1 : Int32) sheet3_form sheet3_size) := hD
          refine lv_aload_n (pc := 39) hx hb dX8_lose_39 rfl (lv_at hl 0 rfl) ?_
          refine g_get (pc := 40) C fg_X8_77 hP 0 rfl rfl dX8_lose_40 ?_
          refine lv_iload_n (pc := 43) hx hb dX8_lose_43 rfl (lv_at hl 1 rfl) ?_
          by_cases h_0 : x1 = (0 : Int32)
          · have hf := (if_pos h_0).symm.trans hf
            refine g_aald (pc := 44) (b := (a 46)) C hP 1 rfl (t0 := 3) rfl (by rw [h_0]; decide) (by rw [h_0, tn_0]; rfl) dX8_lose_44 ?_
            refine g_get (pc := 45) C fg_X8_143 hP 2 rfl rfl dX8_lose_45 ?_
            have hf := Option.some.inj hf
            subst hf
            exact ret_i C hr hlk hP hS dX8_lose_48
          have hf := (if_neg h_0).symm.trans hf
          by_cases h_1 : x1 = (1 : Int32)
          · have hf := (if_pos h_1).symm.trans hf
            refine g_aald (pc := 44) (b := (a 48)) C hP 1 rfl (t0 := 3) rfl (by rw [h_1]; decide) (by rw [h_1, tn_1]; rfl) dX8_lose_44 ?_
            refine g_get (pc := 45) C fg_X8_143 hP 3 rfl rfl dX8_lose_45 ?_
            have hf := Option.some.inj hf
            subst hf
            exact ret_i C hr hlk hP hS dX8_lose_48
          have hf := (if_neg h_1).symm.trans hf
          by_cases h_2 : x1 = (2 : Int32)
          · have hf := (if_pos h_2).symm.trans hf
            refine g_aald (pc := 44) (b := (a 50)) C hP 1 rfl (t0 := 3) rfl (by rw [h_2]; decide) (by rw [h_2, tn_2]; rfl) dX8_lose_44 ?_
            refine g_get (pc := 45) C fg_X8_143 hP 4 rfl rfl dX8_lose_45 ?_
            have hf := Option.some.inj hf
            subst hf
            exact ret_i C hr hlk hP hS dX8_lose_48
          have hf := (if_neg h_2).symm.trans hf
          by_cases h_3 : x1 = (3 : Int32)
          · have hf := (if_pos h_3).symm.trans hf
            refine g_aald (pc := 44) (b := (a 52)) C hP 1 rfl (t0 := 3) rfl (by rw [h_3]; decide) (by rw [h_3, tn_3]; rfl) dX8_lose_44 ?_
            refine g_get (pc := 45) C fg_X8_143 hP 5 rfl rfl dX8_lose_45 ?_
            have hf := Option.some.inj hf
            subst hf
            exact ret_i C hr hlk hP hS dX8_lose_48
          have hf := (if_neg h_3).symm.trans hf
          cases hf
        have hf := (if_neg h_3).symm.trans hf
        cases hf
      · have hf := (if_neg hc).symm.trans hf
        refine lv_aload_n (pc := 23) hx hb dX8_lose_23 rfl (lv_at hl 0 rfl) ?_
        refine lv_iconst (pc := 24) (v := 1) hx hb dX8_lose_24 ic_1 ?_
        obtain ⟨r2, c3, hq, hf⟩ := bind2_some hf
        refine fin_i (run_V (rest := []) (pc := 25) (As := [.int (1 : Int32)]) C mf_X8_139 (c_X8_found l D cA a x_stale x_finding (1 : Int32) (r2, c3) hq H.size) rfl rfl ⟨(Nat.le_of_ble_eq_true rfl), (Nat.le_of_ble_eq_true rfl)⟩ (preV_of C hP hD [0] rfl rfl 0 rfl rfl rfl) rfl hl.1 rfl (Nat.le_of_ble_eq_true rfl) dX8_lose_25 ⟨Nat.zero_le _, Nat.zero_le _⟩) hP hD hS hA [0] rfl rfl (fun H locs hP hS => ?_)
        have hP : va_P D classes (wl_X8_lose cA a x_stale c3 sheet0_lost sheet0_form sheet0_size sheet1_lost sheet1_form sheet1_size sheet2_lost sheet2_form sheet2_size sheet3_lost sheet3_form sheet3_size) H := hP
        have hD : va_D (va_A ws0 sz) (wl_X8_lose cA a x_stale c3 sheet0_lost sheet0_form sheet0_size sheet1_lost sheet1_form sheet1_size sheet2_lost sheet2_form sheet2_size sheet3_lost sheet3_form sheet3_size) := vd_a hD rfl
        have hf := Option.some.inj hf
        subst hf
        exact ret_i C hr hlk hP hS dX8_lose_28
    have hf := (if_neg h_0).symm.trans hf
    by_cases h_1 : x1 = (1 : Int32)
    · have hf := (if_pos h_1).symm.trans hf
      refine g_aald (pc := 16) (b := (a 48)) C hP 1 rfl (t0 := 3) rfl (by rw [h_1]; decide) (by rw [h_1, tn_1]; rfl) dX8_lose_16 ?_
      refine g_get (pc := 17) C fg_X8_136 hP 3 rfl rfl dX8_lose_17 ?_
      refine lv_if_eq (pc := 20) (tgt := 29) hx hb dX8_lose_20 (by decide) (fun hc => ?_) (fun hc => ?_)
      · have hf := (if_pos hc).symm.trans hf
        refine lv_aload_n (pc := 29) hx hb dX8_lose_29 rfl (lv_at hl 0 rfl) ?_
        refine g_get (pc := 30) C fg_X8_77 hP 0 rfl rfl dX8_lose_30 ?_
        refine lv_iload_n (pc := 33) hx hb dX8_lose_33 rfl (lv_at hl 1 rfl) ?_
        by_cases h_0 : x1 = (0 : Int32)
        · have hf := (if_pos h_0).symm.trans hf
          refine g_aald (pc := 34) (b := (a 46)) C hP 1 rfl (t0 := 3) rfl (by rw [h_0]; decide) (by rw [h_0, tn_0]; rfl) dX8_lose_34 ?_
          refine lv_iconst (pc := 35) (v := 1) hx hb dX8_lose_35 ic_1 ?_
          refine g_put (pc := 36) C fg_X8_136 ft_X5_1 hP hD hS 2 rfl (by decide) rfl (Nat.le_of_ble_eq_true rfl) dX8_lose_36 (fun H locs hP hD hS => ?_)
          have hP : va_P D classes (wl_X8_lose cA a x_stale x_finding (1 : Int32) sheet0_form sheet0_size sheet1_lost sheet1_form sheet1_size sheet2_lost sheet2_form sheet2_size sheet3_lost sheet3_form sheet3_size) H := hP
          have hD : va_D (va_A ws0 sz) (wl_X8_lose cA a x_stale x_finding (1 : Int32) sheet0_form sheet0_size sheet1_lost sheet1_form sheet1_size sheet2_lost sheet2_form sheet2_size sheet3_lost sheet3_form sheet3_size) := hD
          refine lv_aload_n (pc := 39) hx hb dX8_lose_39 rfl (lv_at hl 0 rfl) ?_
          refine g_get (pc := 40) C fg_X8_77 hP 0 rfl rfl dX8_lose_40 ?_
          refine lv_iload_n (pc := 43) hx hb dX8_lose_43 rfl (lv_at hl 1 rfl) ?_
          by_cases h_0 : x1 = (0 : Int32)
          · have hf := (if_pos h_0).symm.trans hf
            refine g_aald (pc := 44) (b := (a 46)) C hP 1 rfl (t0 := 3) rfl (by rw [h_0]; decide) (by rw [h_0, tn_0]; rfl) dX8_lose_44 ?_
            refine g_get (pc := 45) C fg_X8_143 hP 2 rfl rfl dX8_lose_45 ?_
            have hf := Option.some.inj hf
            subst hf
            exact ret_i C hr hlk hP hS dX8_lose_48
          have hf := (if_neg h_0).symm.trans hf
          by_cases h_1 : x1 = (1 : Int32)
          · have hf := (if_pos h_1).symm.trans hf
            refine g_aald (pc := 44) (b := (a 48)) C hP 1 rfl (t0 := 3) rfl (by rw [h_1]; decide) (by rw [h_1, tn_1]; rfl) dX8_lose_44 ?_
            refine g_get (pc := 45) C fg_X8_143 hP 3 rfl rfl dX8_lose_45 ?_
            have hf := Option.some.inj hf
            subst hf
            exact ret_i C hr hlk hP hS dX8_lose_48
          have hf := (if_neg h_1).symm.trans hf
          by_cases h_2 : x1 = (2 : Int32)
          · have hf := (if_pos h_2).symm.trans hf
            refine g_aald (pc := 44) (b := (a 50)) C hP 1 rfl (t0 := 3) rfl (by rw [h_2]; decide) (by rw [h_2, tn_2]; rfl) dX8_lose_44 ?_
            refine g_get (pc := 45) C fg_X8_143 hP 4 rfl rfl dX8_lose_45 ?_
            have hf := Option.some.inj hf
            subst hf
            exact ret_i C hr hlk hP hS dX8_lose_48
          have hf := (if_neg h_2).symm.trans hf
          by_cases h_3 : x1 = (3 : Int32)
          · have hf := (if_pos h_3).symm.trans hf
            refine g_aald (pc := 44) (b := (a 52)) C hP 1 rfl (t0 := 3) rfl (by rw [h_3]; decide) (by rw [h_3, tn_3]; rfl) dX8_lose_44 ?_
            refine g_get (pc := 45) C fg_X8_143 hP 5 rfl rfl dX8_lose_45 ?_
            have hf := Option.some.inj hf
            subst hf
            exact ret_i C hr hlk hP hS dX8_lose_48
          have hf := (if_neg h_3).symm.trans hf
          cases hf
        have hf := (if_neg h_0).symm.trans hf
        by_cases h_1 : x1 = (1 : Int32)
        · have hf := (if_pos h_1).symm.trans hf
          refine g_aald (pc := 34) (b := (a 48)) C hP 1 rfl (t0 := 3) rfl (by rw [h_1]; decide) (by rw [h_1, tn_1]; rfl) dX8_lose_34 ?_
          refine lv_iconst (pc := 35) (v := 1) hx hb dX8_lose_35 ic_1 ?_
          refine g_put (pc := 36) C fg_X8_136 ft_X5_1 hP hD hS 3 rfl (by decide) rfl (Nat.le_of_ble_eq_true rfl) dX8_lose_36 (fun H locs hP hD hS => ?_)
          have hP : va_P D classes (wl_X8_lose cA a x_stale x_finding sheet0_lost sheet0_form sheet0_size (1 : Int32) sheet1_form sheet1_size sheet2_lost sheet2_form sheet2_size sheet3_lost sheet3_form sheet3_size) H := hP
          have hD : va_D (va_A ws0 sz) (wl_X8_lose cA a x_stale x_finding sheet0_lost sheet0_form sheet0_size (1 : Int32) sheet1_form sheet1_size sheet2_lost sheet2_form sheet2_size sheet3_lost sheet3_form sheet3_size) := hD
          refine lv_aload_n (pc := 39) hx hb dX8_lose_39 rfl (lv_at hl 0 rfl) ?_
          refine g_get (pc := 40) C fg_X8_77 hP 0 rfl rfl dX8_lose_40 ?_
          refine lv_iload_n (pc := 43) hx hb dX8_lose_43 rfl (lv_at hl 1 rfl) ?_
          by_cases h_0 : x1 = (0 : Int32)
          · have hf := (if_pos h_0).symm.trans hf
            refine g_aald (pc := 44) (b := (a 46)) C hP 1 rfl (t0 := 3) rfl (by rw [h_0]; decide) (by rw [h_0, tn_0]; rfl) dX8_lose_44 ?_
            refine g_get (pc := 45) C fg_X8_143 hP 2 rfl rfl dX8_lose_45 ?_
            have hf := Option.some.inj hf
            subst hf
            exact ret_i C hr hlk hP hS dX8_lose_48
          have hf := (if_neg h_0).symm.trans hf
          by_cases h_1 : x1 = (1 : Int32)
          · have hf := (if_pos h_1).symm.trans hf
            refine g_aald (pc := 44) (b := (a 48)) C hP 1 rfl (t0 := 3) rfl (by rw [h_1]; decide) (by rw [h_1, tn_1]; rfl) dX8_lose_44 ?_
            refine g_get (pc := 45) C fg_X8_143 hP 3 rfl rfl dX8_lose_45 ?_
            have hf := Option.some.inj hf
            subst hf
            exact ret_i C hr hlk hP hS dX8_lose_48
          have hf := (if_neg h_1).symm.trans hf
          by_cases h_2 : x1 = (2 : Int32)
          · have hf := (if_pos h_2).symm.trans hf
            refine g_aald (pc := 44) (b := (a 50)) C hP 1 rfl (t0 := 3) rfl (by rw [h_2]; decide) (by rw [h_2, tn_2]; rfl) dX8_lose_44 ?_
            refine g_get (pc := 45) C fg_X8_143 hP 4 rfl rfl dX8_lose_45 ?_
            have hf := Option.some.inj hf
            subst hf
            exact ret_i C hr hlk hP hS dX8_lose_48
          have hf := (if_neg h_2).symm.trans hf
          by_cases h_3 : x1 = (3 : Int32)
          · have hf := (if_pos h_3).symm.trans hf
            refine g_aald (pc := 44) (b := (a 52)) C hP 1 rfl (t0 := 3) rfl (by rw [h_3]; decide) (by rw [h_3, tn_3]; rfl) dX8_lose_44 ?_
            refine g_get (pc := 45) C fg_X8_143 hP 5 rfl rfl dX8_lose_45 ?_
            have hf := Option.some.inj hf
            subst hf
            exact ret_i C hr hlk hP hS dX8_lose_48
          have hf := (if_neg h_3).symm.trans hf
          cases hf
        have hf := (if_neg h_1).symm.trans hf
        by_cases h_2 : x1 = (2 : Int32)
        · have hf := (if_pos h_2).symm.trans hf
          refine g_aald (pc := 34) (b := (a 50)) C hP 1 rfl (t0 := 3) rfl (by rw [h_2]; decide) (by rw [h_2, tn_2]; rfl) dX8_lose_34 ?_
          refine lv_iconst (pc := 35) (v := 1) hx hb dX8_lose_35 ic_1 ?_
          refine g_put (pc := 36) C fg_X8_136 ft_X5_1 hP hD hS 4 rfl (by decide) rfl (Nat.le_of_ble_eq_true rfl) dX8_lose_36 (fun H locs hP hD hS => ?_)
          have hP : va_P D classes (wl_X8_lose cA a x_stale x_finding sheet0_lost sheet0_form sheet0_size sheet1_lost sheet1_form sheet1_size (1 : Int32) sheet2_form sheet2_size sheet3_lost sheet3_form sheet3_size) H := hP
          have hD : va_D (va_A ws0 sz) (wl_X8_lose cA a x_stale x_finding sheet0_lost sheet0_form sheet0_size sheet1_lost sheet1_form sheet1_size (1 : Int32) sheet2_form sheet2_size sheet3_lost sheet3_form sheet3_size) := hD
          refine lv_aload_n (pc := 39) hx hb dX8_lose_39 rfl (lv_at hl 0 rfl) ?_
          refine g_get (pc := 40) C fg_X8_77 hP 0 rfl rfl dX8_lose_40 ?_
          refine lv_iload_n (pc := 43) hx hb dX8_lose_43 rfl (lv_at hl 1 rfl) ?_
          by_cases h_0 : x1 = (0 : Int32)
          · have hf := (if_pos h_0).symm.trans hf
            refine g_aald (pc := 44) (b := (a 46)) C hP 1 rfl (t0 := 3) rfl (by rw [h_0]; decide) (by rw [h_0, tn_0]; rfl) dX8_lose_44 ?_
            refine g_get (pc := 45) C fg_X8_143 hP 2 rfl rfl dX8_lose_45 ?_
            have hf := Option.some.inj hf
            subst hf
            exact ret_i C hr hlk hP hS dX8_lose_48
          have hf := (if_neg h_0).symm.trans hf
          by_cases h_1 : x1 = (1 : Int32)
          · have hf := (if_pos h_1).symm.trans hf
            refine g_aald (pc := 44) (b := (a 48)) C hP 1 rfl (t0 := 3) rfl (by rw [h_1]; decide) (by rw [h_1, tn_1]; rfl) dX8_lose_44 ?_
            refine g_get (pc := 45) C fg_X8_143 hP 3 rfl rfl dX8_lose_45 ?_
            have hf := Option.some.inj hf
            subst hf
            exact ret_i C hr hlk hP hS dX8_lose_48
          have hf := (if_neg h_1).symm.trans hf
          by_cases h_2 : x1 = (2 : Int32)
          · have hf := (if_pos h_2).symm.trans hf
            refine g_aald (pc := 44) (b := (a 50)) C hP 1 rfl (t0 := 3) rfl (by rw [h_2]; decide) (by rw [h_2, tn_2]; rfl) dX8_lose_44 ?_
            refine g_get (pc := 45) C fg_X8_143 hP 4 rfl rfl dX8_lose_45 ?_
            have hf := Option.some.inj hf
            subst hf
            exact ret_i C hr hlk hP hS dX8_lose_48
          have hf := (if_neg h_2).symm.trans hf
          by_cases h_3 : x1 = (3 : Int32)
          · have hf := (if_pos h_3).symm.trans hf
            refine g_aald (pc := 44) (b := (a 52)) C hP 1 rfl (t0 := 3) rfl (by rw [h_3]; decide) (by rw [h_3, tn_3]; rfl) dX8_lose_44 ?_
            refine g_get (pc := 45) C fg_X8_143 hP 5 rfl rfl dX8_lose_45 ?_
            have hf := Option.some.inj hf
            subst hf
            exact ret_i C hr hlk hP hS dX8_lose_48
          have hf := (if_neg h_3).symm.trans hf
          cases hf
        have hf := (if_neg h_2).symm.trans hf
        by_cases h_3 : x1 = (3 : Int32)
        · have hf := (if_pos h_3).symm.trans hf
          refine g_aald (pc := 34) (b := (a 52)) C hP 1 rfl (t0 := 3) rfl (by rw [h_3]; decide) (by rw [h_3, tn_3]; rfl) dX8_lose_34 ?_
          refine lv_iconst (pc := 35) (v := 1) hx hb dX8_lose_35 ic_1 ?_
          refine g_put (pc := 36) C fg_X8_136 ft_X5_1 hP hD hS 5 rfl (by decide) rfl (Nat.le_of_ble_eq_true rfl) dX8_lose_36 (fun H locs hP hD hS => ?_)
          have hP : va_P D classes (wl_X8_lose cA a x_stale x_finding sheet0_lost sheet0_form sheet0_size sheet1_lost sheet1_form sheet1_size sheet2_lost sheet2_form sheet2_size (1 : Int32) sheet3_form sheet3_size) H := hP
          have hD : va_D (va_A ws0 sz) (wl_X8_lose cA a x_stale x_finding sheet0_lost sheet0_form sheet0_size sheet1_lost sheet1_form sheet1_size sheet2_lost sheet2_form sheet2_size (1 : Int32) sheet3_form sheet3_size) := hD
          refine lv_aload_n (pc := 39) hx hb dX8_lose_39 rfl (lv_at hl 0 rfl) ?_
          refine g_get (pc := 40) C fg_X8_77 hP 0 rfl rfl dX8_lose_40 ?_
          refine lv_iload_n (pc := 43) hx hb dX8_lose_43 rfl (lv_at hl 1 rfl) ?_
          by_cases h_0 : x1 = (0 : Int32)
          · have hf := (if_pos h_0).symm.trans hf
            refine g_aald (pc := 44) (b := (a 46)) C hP 1 rfl (t0 := 3) rfl (by rw [h_0]; decide) (by rw [h_0, tn_0]; rfl) dX8_lose_44 ?_
            refine g_get (pc := 45) C fg_X8_143 hP 2 rfl rfl dX8_lose_45 ?_
            have hf := Option.some.inj hf
            subst hf
            exact ret_i C hr hlk hP hS dX8_lose_48
          have hf := (if_neg h_0).symm.trans hf
          by_cases h_1 : x1 = (1 : Int32)
          · have hf := (if_pos h_1).symm.trans hf
            refine g_aald (pc := 44) (b := (a 48)) C hP 1 rfl (t0 := 3) rfl (by rw [h_1]; decide) (by rw [h_1, tn_1]; rfl) dX8_lose_44 ?_
            refine g_get (pc := 45) C fg_X8_143 hP 3 rfl rfl dX8_lose_45 ?_
            have hf := Option.some.inj hf
            subst hf
            exact ret_i C hr hlk hP hS dX8_lose_48
          have hf := (if_neg h_1).symm.trans hf
          by_cases h_2 : x1 = (2 : Int32)
          · have hf := (if_pos h_2).symm.trans hf
            refine g_aald (pc := 44) (b := (a 50)) C hP 1 rfl (t0 := 3) rfl (by rw [h_2]; decide) (by rw [h_2, tn_2]; rfl) dX8_lose_44 ?_
            refine g_get (pc := 45) C fg_X8_143 hP 4 rfl rfl dX8_lose_45 ?_
            have hf := Option.some.inj hf
            subst hf
            exact ret_i C hr hlk hP hS dX8_lose_48
          have hf := (if_neg h_2).symm.trans hf
          by_cases h_3 : x1 = (3 : Int32)
          · have hf := (if_pos h_3).symm.trans hf
            refine g_aald (pc := 44) (b := (a 52)) C hP 1 rfl (t0 := 3) rfl (by rw [h_3]; decide) (by rw [h_3, tn_3]; rfl) dX8_lose_44 ?_
            refine g_get (pc := 45) C fg_X8_143 hP 5 rfl rfl dX8_lose_45 ?_
            have hf := Option.some.inj hf
            subst hf
            exact ret_i C hr hlk hP hS dX8_lose_48
          have hf := (if_neg h_3).symm.trans hf
          cases hf
        have hf := (if_neg h_3).symm.trans hf
        cases hf
      · have hf := (if_neg hc).symm.trans hf
        refine lv_aload_n (pc := 23) hx hb dX8_lose_23 rfl (lv_at hl 0 rfl) ?_
        refine lv_iconst (pc := 24) (v := 1) hx hb dX8_lose_24 ic_1 ?_
        obtain ⟨r4, c5, hq, hf⟩ := bind2_some hf
        refine fin_i (run_V (rest := []) (pc := 25) (As := [.int (1 : Int32)]) C mf_X8_139 (c_X8_found l D cA a x_stale x_finding (1 : Int32) (r4, c5) hq H.size) rfl rfl ⟨(Nat.le_of_ble_eq_true rfl), (Nat.le_of_ble_eq_true rfl)⟩ (preV_of C hP hD [0] rfl rfl 0 rfl rfl rfl) rfl hl.1 rfl (Nat.le_of_ble_eq_true rfl) dX8_lose_25 ⟨Nat.zero_le _, Nat.zero_le _⟩) hP hD hS hA [0] rfl rfl (fun H locs hP hS => ?_)
        have hP : va_P D classes (wl_X8_lose cA a x_stale c5 sheet0_lost sheet0_form sheet0_size sheet1_lost sheet1_form sheet1_size sheet2_lost sheet2_form sheet2_size sheet3_lost sheet3_form sheet3_size) H := hP
        have hD : va_D (va_A ws0 sz) (wl_X8_lose cA a x_stale c5 sheet0_lost sheet0_form sheet0_size sheet1_lost sheet1_form sheet1_size sheet2_lost sheet2_form sheet2_size sheet3_lost sheet3_form sheet3_size) := vd_a hD rfl
        have hf := Option.some.inj hf
        subst hf
        exact ret_i C hr hlk hP hS dX8_lose_28
    have hf := (if_neg h_1).symm.trans hf
    by_cases h_2 : x1 = (2 : Int32)
    · have hf := (if_pos h_2).symm.trans hf
      refine g_aald (pc := 16) (b := (a 50)) C hP 1 rfl (t0 := 3) rfl (by rw [h_2]; decide) (by rw [h_2, tn_2]; rfl) dX8_lose_16 ?_
      refine g_get (pc := 17) C fg_X8_136 hP 4 rfl rfl dX8_lose_17 ?_
      refine lv_if_eq (pc := 20) (tgt := 29) hx hb dX8_lose_20 (by decide) (fun hc => ?_) (fun hc => ?_)
      · have hf := (if_pos hc).symm.trans hf
        refine lv_aload_n (pc := 29) hx hb dX8_lose_29 rfl (lv_at hl 0 rfl) ?_
        refine g_get (pc := 30) C fg_X8_77 hP 0 rfl rfl dX8_lose_30 ?_
        refine lv_iload_n (pc := 33) hx hb dX8_lose_33 rfl (lv_at hl 1 rfl) ?_
        by_cases h_0 : x1 = (0 : Int32)
        · have hf := (if_pos h_0).symm.trans hf
          refine g_aald (pc := 34) (b := (a 46)) C hP 1 rfl (t0 := 3) rfl (by rw [h_0]; decide) (by rw [h_0, tn_0]; rfl) dX8_lose_34 ?_
          refine lv_iconst (pc := 35) (v := 1) hx hb dX8_lose_35 ic_1 ?_
          refine g_put (pc := 36) C fg_X8_136 ft_X5_1 hP hD hS 2 rfl (by decide) rfl (Nat.le_of_ble_eq_true rfl) dX8_lose_36 (fun H locs hP hD hS => ?_)
          have hP : va_P D classes (wl_X8_lose cA a x_stale x_finding (1 : Int32) sheet0_form sheet0_size sheet1_lost sheet1_form sheet1_size sheet2_lost sheet2_form sheet2_size sheet3_lost sheet3_form sheet3_size) H := hP
          have hD : va_D (va_A ws0 sz) (wl_X8_lose cA a x_stale x_finding (1 : Int32) sheet0_form sheet0_size sheet1_lost sheet1_form sheet1_size sheet2_lost sheet2_form sheet2_size sheet3_lost sheet3_form sheet3_size) := hD
          refine lv_aload_n (pc := 39) hx hb dX8_lose_39 rfl (lv_at hl 0 rfl) ?_
          refine g_get (pc := 40) C fg_X8_77 hP 0 rfl rfl dX8_lose_40 ?_
          refine lv_iload_n (pc := 43) hx hb dX8_lose_43 rfl (lv_at hl 1 rfl) ?_
          by_cases h_0 : x1 = (0 : Int32)
          · have hf := (if_pos h_0).symm.trans hf
            refine g_aald (pc := 44) (b := (a 46)) C hP 1 rfl (t0 := 3) rfl (by rw [h_0]; decide) (by rw [h_0, tn_0]; rfl) dX8_lose_44 ?_
            refine g_get (pc := 45) C fg_X8_143 hP 2 rfl rfl dX8_lose_45 ?_
            have hf := Option.some.inj hf
            subst hf
            exact ret_i C hr hlk hP hS dX8_lose_48
          have hf := (if_neg h_0).symm.trans hf
          by_cases h_1 : x1 = (1 : Int32)
          · have hf := (if_pos h_1).symm.trans hf
            refine g_aald (pc := 44) (b := (a 48)) C hP 1 rfl (t0 := 3) rfl (by rw [h_1]; decide) (by rw [h_1, tn_1]; rfl) dX8_lose_44 ?_
            refine g_get (pc := 45) C fg_X8_143 hP 3 rfl rfl dX8_lose_45 ?_
            have hf := Option.some.inj hf
            subst hf
            exact ret_i C hr hlk hP hS dX8_lose_48
          have hf := (if_neg h_1).symm.trans hf
          by_cases h_2 : x1 = (2 : Int32)
          · have hf := (if_pos h_2).symm.trans hf
            refine g_aald (pc := 44) (b := (a 50)) C hP 1 rfl (t0 := 3) rfl (by rw [h_2]; decide) (by rw [h_2, tn_2]; rfl) dX8_lose_44 ?_
            refine g_get (pc := 45) C fg_X8_143 hP 4 rfl rfl dX8_lose_45 ?_
            have hf := Option.some.inj hf
            subst hf
            exact ret_i C hr hlk hP hS dX8_lose_48
          have hf := (if_neg h_2).symm.trans hf
          by_cases h_3 : x1 = (3 : Int32)
          · have hf := (if_pos h_3).symm.trans hf
            refine g_aald (pc := 44) (b := (a 52)) C hP 1 rfl (t0 := 3) rfl (by rw [h_3]; decide) (by rw [h_3, tn_3]; rfl) dX8_lose_44 ?_
            refine g_get (pc := 45) C fg_X8_143 hP 5 rfl rfl dX8_lose_45 ?_
            have hf := Option.some.inj hf
            subst hf
            exact ret_i C hr hlk hP hS dX8_lose_48
          have hf := (if_neg h_3).symm.trans hf
          cases hf
        have hf := (if_neg h_0).symm.trans hf
        by_cases h_1 : x1 = (1 : Int32)
        · have hf := (if_pos h_1).symm.trans hf
          refine g_aald (pc := 34) (b := (a 48)) C hP 1 rfl (t0 := 3) rfl (by rw [h_1]; decide) (by rw [h_1, tn_1]; rfl) dX8_lose_34 ?_
          refine lv_iconst (pc := 35) (v := 1) hx hb dX8_lose_35 ic_1 ?_
          refine g_put (pc := 36) C fg_X8_136 ft_X5_1 hP hD hS 3 rfl (by decide) rfl (Nat.le_of_ble_eq_true rfl) dX8_lose_36 (fun H locs hP hD hS => ?_)
          have hP : va_P D classes (wl_X8_lose cA a x_stale x_finding sheet0_lost sheet0_form sheet0_size (1 : Int32) sheet1_form sheet1_size sheet2_lost sheet2_form sheet2_size sheet3_lost sheet3_form sheet3_size) H := hP
          have hD : va_D (va_A ws0 sz) (wl_X8_lose cA a x_stale x_finding sheet0_lost sheet0_form sheet0_size (1 : Int32) sheet1_form sheet1_size sheet2_lost sheet2_form sheet2_size sheet3_lost sheet3_form sheet3_size) := hD
          refine lv_aload_n (pc := 39) hx hb dX8_lose_39 rfl (lv_at hl 0 rfl) ?_
          refine g_get (pc := 40) C fg_X8_77 hP 0 rfl rfl dX8_lose_40 ?_
          refine lv_iload_n (pc := 43) hx hb dX8_lose_43 rfl (lv_at hl 1 rfl) ?_
          by_cases h_0 : x1 = (0 : Int32)
          · have hf := (if_pos h_0).symm.trans hf
            refine g_aald (pc := 44) (b := (a 46)) C hP 1 rfl (t0 := 3) rfl (by rw [h_0]; decide) (by rw [h_0, tn_0]; rfl) dX8_lose_44 ?_
            refine g_get (pc := 45) C fg_X8_143 hP 2 rfl rfl dX8_lose_45 ?_
            have hf := Option.some.inj hf
            subst hf
            exact ret_i C hr hlk hP hS dX8_lose_48
          have hf := (if_neg h_0).symm.trans hf
          by_cases h_1 : x1 = (1 : Int32)
          · have hf := (if_pos h_1).symm.trans hf
            refine g_aald (pc := 44) (b := (a 48)) C hP 1 rfl (t0 := 3) rfl (by rw [h_1]; decide) (by rw [h_1, tn_1]; rfl) dX8_lose_44 ?_
            refine g_get (pc := 45) C fg_X8_143 hP 3 rfl rfl dX8_lose_45 ?_
            have hf := Option.some.inj hf
            subst hf
            exact ret_i C hr hlk hP hS dX8_lose_48
          have hf := (if_neg h_1).symm.trans hf
          by_cases h_2 : x1 = (2 : Int32)
          · have hf := (if_pos h_2).symm.trans hf
            refine g_aald (pc := 44) (b := (a 50)) C hP 1 rfl (t0 := 3) rfl (by rw [h_2]; decide) (by rw [h_2, tn_2]; rfl) dX8_lose_44 ?_
            refine g_get (pc := 45) C fg_X8_143 hP 4 rfl rfl dX8_lose_45 ?_
            have hf := Option.some.inj hf
            subst hf
            exact ret_i C hr hlk hP hS dX8_lose_48
          have hf := (if_neg h_2).symm.trans hf
          by_cases h_3 : x1 = (3 : Int32)
          · have hf := (if_pos h_3).symm.trans hf
            refine g_aald (pc := 44) (b := (a 52)) C hP 1 rfl (t0 := 3) rfl (by rw [h_3]; decide) (by rw [h_3, tn_3]; rfl) dX8_lose_44 ?_
            refine g_get (pc := 45) C fg_X8_143 hP 5 rfl rfl dX8_lose_45 ?_
            have hf := Option.some.inj hf
            subst hf
            exact ret_i C hr hlk hP hS dX8_lose_48
          have hf := (if_neg h_3).symm.trans hf
          cases hf
        have hf := (if_neg h_1).symm.trans hf
        by_cases h_2 : x1 = (2 : Int32)
        · have hf := (if_pos h_2).symm.trans hf
          refine g_aald (pc := 34) (b := (a 50)) C hP 1 rfl (t0 := 3) rfl (by rw [h_2]; decide) (by rw [h_2, tn_2]; rfl) dX8_lose_34 ?_
          refine lv_iconst (pc := 35) (v := 1) hx hb dX8_lose_35 ic_1 ?_
          refine g_put (pc := 36) C fg_X8_136 ft_X5_1 hP hD hS 4 rfl (by decide) rfl (Nat.le_of_ble_eq_true rfl) dX8_lose_36 (fun H locs hP hD hS => ?_)
          have hP : va_P D classes (wl_X8_lose cA a x_stale x_finding sheet0_lost sheet0_form sheet0_size sheet1_lost sheet1_form sheet1_size (1 : Int32) sheet2_form sheet2_size sheet3_lost sheet3_form sheet3_size) H := hP
          have hD : va_D (va_A ws0 sz) (wl_X8_lose cA a x_stale x_finding sheet0_lost sheet0_form sheet0_size sheet1_lost sheet1_form sheet1_size (1 : Int32) sheet2_form sheet2_size sheet3_lost sheet3_form sheet3_size) := hD
          refine lv_aload_n (pc := 39) hx hb dX8_lose_39 rfl (lv_at hl 0 rfl) ?_
          refine g_get (pc := 40) C fg_X8_77 hP 0 rfl rfl dX8_lose_40 ?_
          refine lv_iload_n (pc := 43) hx hb dX8_lose_43 rfl (lv_at hl 1 rfl) ?_
          by_cases h_0 : x1 = (0 : Int32)
          · have hf := (if_pos h_0).symm.trans hf
            refine g_aald (pc := 44) (b := (a 46)) C hP 1 rfl (t0 := 3) rfl (by rw [h_0]; decide) (by rw [h_0, tn_0]; rfl) dX8_lose_44 ?_
            refine g_get (pc := 45) C fg_X8_143 hP 2 rfl rfl dX8_lose_45 ?_
            have hf := Option.some.inj hf
            subst hf
            exact ret_i C hr hlk hP hS dX8_lose_48
          have hf := (if_neg h_0).symm.trans hf
          by_cases h_1 : x1 = (1 : Int32)
          · have hf := (if_pos h_1).symm.trans hf
            refine g_aald (pc := 44) (b := (a 48)) C hP 1 rfl (t0 := 3) rfl (by rw [h_1]; decide) (by rw [h_1, tn_1]; rfl) dX8_lose_44 ?_
            refine g_get (pc := 45) C fg_X8_143 hP 3 rfl rfl dX8_lose_45 ?_
            have hf := Option.some.inj hf
            subst hf
            exact ret_i C hr hlk hP hS dX8_lose_48
          have hf := (if_neg h_1).symm.trans hf
          by_cases h_2 : x1 = (2 : Int32)
          · have hf := (if_pos h_2).symm.trans hf
            refine g_aald (pc := 44) (b := (a 50)) C hP 1 rfl (t0 := 3) rfl (by rw [h_2]; decide) (by rw [h_2, tn_2]; rfl) dX8_lose_44 ?_
            refine g_get (pc := 45) C fg_X8_143 hP 4 rfl rfl dX8_lose_45 ?_
            have hf := Option.some.inj hf
            subst hf
            exact ret_i C hr hlk hP hS dX8_lose_48
          have hf := (if_neg h_2).symm.trans hf
          by_cases h_3 : x1 = (3 : Int32)
          · have hf := (if_pos h_3).symm.trans hf
            refine g_aald (pc := 44) (b := (a 52)) C hP 1 rfl (t0 := 3) rfl (by rw [h_3]; decide) (by rw [h_3, tn_3]; rfl) dX8_lose_44 ?_
            refine g_get (pc := 45) C fg_X8_143 hP 5 rfl rfl dX8_lose_45 ?_
            have hf := Option.some.inj hf
            subst hf
            exact ret_i C hr hlk hP hS dX8_lose_48
          have hf := (if_neg h_3).symm.trans hf
          cases hf
        have hf := (if_neg h_2).symm.trans hf
        by_cases h_3 : x1 = (3 : Int32)
        · have hf := (if_pos h_3).symm.trans hf
          refine g_aald (pc := 34) (b := (a 52)) C hP 1 rfl (t0 := 3) rfl (by rw [h_3]; decide) (by rw [h_3, tn_3]; rfl) dX8_lose_34 ?_
          refine lv_iconst (pc := 35) (v := 1) hx hb dX8_lose_35 ic_1 ?_
          refine g_put (pc := 36) C fg_X8_136 ft_X5_1 hP hD hS 5 rfl (by decide) rfl (Nat.le_of_ble_eq_true rfl) dX8_lose_36 (fun H locs hP hD hS => ?_)
          have hP : va_P D classes (wl_X8_lose cA a x_stale x_finding sheet0_lost sheet0_form sheet0_size sheet1_lost sheet1_form sheet1_size sheet2_lost sheet2_form sheet2_size (1 : Int32) sheet3_form sheet3_size) H := hP
          have hD : va_D (va_A ws0 sz) (wl_X8_lose cA a x_stale x_finding sheet0_lost sheet0_form sheet0_size sheet1_lost sheet1_form sheet1_size sheet2_lost sheet2_form sheet2_size (1 : Int32) sheet3_form sheet3_size) := hD
          refine lv_aload_n (pc := 39) hx hb dX8_lose_39 rfl (lv_at hl 0 rfl) ?_
          refine g_get (pc := 40) C fg_X8_77 hP 0 rfl rfl dX8_lose_40 ?_
          refine lv_iload_n (pc := 43) hx hb dX8_lose_43 rfl (lv_at hl 1 rfl) ?_
          by_cases h_0 : x1 = (0 : Int32)
          · have hf := (if_pos h_0).symm.trans hf
            refine g_aald (pc := 44) (b := (a 46)) C hP 1 rfl (t0 := 3) rfl (by rw [h_0]; decide) (by rw [h_0, tn_0]; rfl) dX8_lose_44 ?_
            refine g_get (pc := 45) C fg_X8_143 hP 2 rfl rfl dX8_lose_45 ?_
            have hf := Option.some.inj hf
            subst hf
            exact ret_i C hr hlk hP hS dX8_lose_48
          have hf := (if_neg h_0).symm.trans hf
          by_cases h_1 : x1 = (1 : Int32)
          · have hf := (if_pos h_1).symm.trans hf
            refine g_aald (pc := 44) (b := (a 48)) C hP 1 rfl (t0 := 3) rfl (by rw [h_1]; decide) (by rw [h_1, tn_1]; rfl) dX8_lose_44 ?_
            refine g_get (pc := 45) C fg_X8_143 hP 3 rfl rfl dX8_lose_45 ?_
            have hf := Option.some.inj hf
            subst hf
            exact ret_i C hr hlk hP hS dX8_lose_48
          have hf := (if_neg h_1).symm.trans hf
          by_cases h_2 : x1 = (2 : Int32)
          · have hf := (if_pos h_2).symm.trans hf
            refine g_aald (pc := 44) (b := (a 50)) C hP 1 rfl (t0 := 3) rfl (by rw [h_2]; decide) (by rw [h_2, tn_2]; rfl) dX8_lose_44 ?_
            refine g_get (pc := 45) C fg_X8_143 hP 4 rfl rfl dX8_lose_45 ?_
            have hf := Option.some.inj hf
            subst hf
            exact ret_i C hr hlk hP hS dX8_lose_48
          have hf := (if_neg h_2).symm.trans hf
          by_cases h_3 : x1 = (3 : Int32)
          · have hf := (if_pos h_3).symm.trans hf
            refine g_aald (pc := 44) (b := (a 52)) C hP 1 rfl (t0 := 3) rfl (by rw [h_3]; decide) (by rw [h_3, tn_3]; rfl) dX8_lose_44 ?_
            refine g_get (pc := 45) C fg_X8_143 hP 5 rfl rfl dX8_lose_45 ?_
            have hf := Option.some.inj hf
            subst hf
            exact ret_i C hr hlk hP hS dX8_lose_48
          have hf := (if_neg h_3).symm.trans hf
          cases hf
        have hf := (if_neg h_3).symm.trans hf
        cases hf
      · have hf := (if_neg hc).symm.trans hf
        refine lv_aload_n (pc := 23) hx hb dX8_lose_23 rfl (lv_at hl 0 rfl) ?_
        refine lv_iconst (pc := 24) (v := 1) hx hb dX8_lose_24 ic_1 ?_
        obtain ⟨r6, c7, hq, hf⟩ := bind2_some hf
        refine fin_i (run_V (rest := []) (pc := 25) (As := [.int (1 : Int32)]) C mf_X8_139 (c_X8_found l D cA a x_stale x_finding (1 : Int32) (r6, c7) hq H.size) rfl rfl ⟨(Nat.le_of_ble_eq_true rfl), (Nat.le_of_ble_eq_true rfl)⟩ (preV_of C hP hD [0] rfl rfl 0 rfl rfl rfl) rfl hl.1 rfl (Nat.le_of_ble_eq_true rfl) dX8_lose_25 ⟨Nat.zero_le _, Nat.zero_le _⟩) hP hD hS hA [0] rfl rfl (fun H locs hP hS => ?_)
        have hP : va_P D classes (wl_X8_lose cA a x_stale c7 sheet0_lost sheet0_form sheet0_size sheet1_lost sheet1_form sheet1_size sheet2_lost sheet2_form sheet2_size sheet3_lost sheet3_form sheet3_size) H := hP
        have hD : va_D (va_A ws0 sz) (wl_X8_lose cA a x_stale c7 sheet0_lost sheet0_form sheet0_size sheet1_lost sheet1_form sheet1_size sheet2_lost sheet2_form sheet2_size sheet3_lost sheet3_form sheet3_size) := vd_a hD rfl
        have hf := Option.some.inj hf
        subst hf
        exact ret_i C hr hlk hP hS dX8_lose_28
    have hf := (if_neg h_2).symm.trans hf
    by_cases h_3 : x1 = (3 : Int32)
    · have hf := (if_pos h_3).symm.trans hf
      refine g_aald (pc := 16) (b := (a 52)) C hP 1 rfl (t0 := 3) rfl (by rw [h_3]; decide) (by rw [h_3, tn_3]; rfl) dX8_lose_16 ?_
      refine g_get (pc := 17) C fg_X8_136 hP 5 rfl rfl dX8_lose_17 ?_
      refine lv_if_eq (pc := 20) (tgt := 29) hx hb dX8_lose_20 (by decide) (fun hc => ?_) (fun hc => ?_)
      · have hf := (if_pos hc).symm.trans hf
        refine lv_aload_n (pc := 29) hx hb dX8_lose_29 rfl (lv_at hl 0 rfl) ?_
        refine g_get (pc := 30) C fg_X8_77 hP 0 rfl rfl dX8_lose_30 ?_
        refine lv_iload_n (pc := 33) hx hb dX8_lose_33 rfl (lv_at hl 1 rfl) ?_
        by_cases h_0 : x1 = (0 : Int32)
        · have hf := (if_pos h_0).symm.trans hf
          refine g_aald (pc := 34) (b := (a 46)) C hP 1 rfl (t0 := 3) rfl (by rw [h_0]; decide) (by rw [h_0, tn_0]; rfl) dX8_lose_34 ?_
          refine lv_iconst (pc := 35) (v := 1) hx hb dX8_lose_35 ic_1 ?_
          refine g_put (pc := 36) C fg_X8_136 ft_X5_1 hP hD hS 2 rfl (by decide) rfl (Nat.le_of_ble_eq_true rfl) dX8_lose_36 (fun H locs hP hD hS => ?_)
          have hP : va_P D classes (wl_X8_lose cA a x_stale x_finding (1 : Int32) sheet0_form sheet0_size sheet1_lost sheet1_form sheet1_size sheet2_lost sheet2_form sheet2_size sheet3_lost sheet3_form sheet3_size) H := hP
          have hD : va_D (va_A ws0 sz) (wl_X8_lose cA a x_stale x_finding (1 : Int32) sheet0_form sheet0_size sheet1_lost sheet1_form sheet1_size sheet2_lost sheet2_form sheet2_size sheet3_lost sheet3_form sheet3_size) := hD
          refine lv_aload_n (pc := 39) hx hb dX8_lose_39 rfl (lv_at hl 0 rfl) ?_
          refine g_get (pc := 40) C fg_X8_77 hP 0 rfl rfl dX8_lose_40 ?_
          refine lv_iload_n (pc := 43) hx hb dX8_lose_43 rfl (lv_at hl 1 rfl) ?_
          by_cases h_0 : x1 = (0 : Int32)
          · have hf := (if_pos h_0).symm.trans hf
            refine g_aald (pc := 44) (b := (a 46)) C hP 1 rfl (t0 := 3) rfl (by rw [h_0]; decide) (by rw [h_0, tn_0]; rfl) dX8_lose_44 ?_
            refine g_get (pc := 45) C fg_X8_143 hP 2 rfl rfl dX8_lose_45 ?_
            have hf := Option.some.inj hf
            subst hf
            exact ret_i C hr hlk hP hS dX8_lose_48
          have hf := (if_neg h_0).symm.trans hf
          by_cases h_1 : x1 = (1 : Int32)
          · have hf := (if_pos h_1).symm.trans hf
            refine g_aald (pc := 44) (b := (a 48)) C hP 1 rfl (t0 := 3) rfl (by rw [h_1]; decide) (by rw [h_1, tn_1]; rfl) dX8_lose_44 ?_
            refine g_get (pc := 45) C fg_X8_143 hP 3 rfl rfl dX8_lose_45 ?_
            have hf := Option.some.inj hf
            subst hf
            exact ret_i C hr hlk hP hS dX8_lose_48
          have hf := (if_neg h_1).symm.trans hf
          by_cases h_2 : x1 = (2 : Int32)
          · have hf := (if_pos h_2).symm.trans hf
            refine g_aald (pc := 44) (b := (a 50)) C hP 1 rfl (t0 := 3) rfl (by rw [h_2]; decide) (by rw [h_2, tn_2]; rfl) dX8_lose_44 ?_
            refine g_get (pc := 45) C fg_X8_143 hP 4 rfl rfl dX8_lose_45 ?_
            have hf := Option.some.inj hf
            subst hf
            exact ret_i C hr hlk hP hS dX8_lose_48
          have hf := (if_neg h_2).symm.trans hf
          by_cases h_3 : x1 = (3 : Int32)
          · have hf := (if_pos h_3).symm.trans hf
            refine g_aald (pc := 44) (b := (a 52)) C hP 1 rfl (t0 := 3) rfl (by rw [h_3]; decide) (by rw [h_3, tn_3]; rfl) dX8_lose_44 ?_
            refine g_get (pc := 45) C fg_X8_143 hP 5 rfl rfl dX8_lose_45 ?_
            have hf := Option.some.inj hf
            subst hf
            exact ret_i C hr hlk hP hS dX8_lose_48
          have hf := (if_neg h_3).symm.trans hf
          cases hf
        have hf := (if_neg h_0).symm.trans hf
        by_cases h_1 : x1 = (1 : Int32)
        · have hf := (if_pos h_1).symm.trans hf
          refine g_aald (pc := 34) (b := (a 48)) C hP 1 rfl (t0 := 3) rfl (by rw [h_1]; decide) (by rw [h_1, tn_1]; rfl) dX8_lose_34 ?_
          refine lv_iconst (pc := 35) (v := 1) hx hb dX8_lose_35 ic_1 ?_
          refine g_put (pc := 36) C fg_X8_136 ft_X5_1 hP hD hS 3 rfl (by decide) rfl (Nat.le_of_ble_eq_true rfl) dX8_lose_36 (fun H locs hP hD hS => ?_)
          have hP : va_P D classes (wl_X8_lose cA a x_stale x_finding sheet0_lost sheet0_form sheet0_size (1 : Int32) sheet1_form sheet1_size sheet2_lost sheet2_form sheet2_size sheet3_lost sheet3_form sheet3_size) H := hP
          have hD : va_D (va_A ws0 sz) (wl_X8_lose cA a x_stale x_finding sheet0_lost sheet0_form sheet0_size (1 : Int32) sheet1_form sheet1_size sheet2_lost sheet2_form sheet2_size sheet3_lost sheet3_form sheet3_size) := hD
          refine lv_aload_n (pc := 39) hx hb dX8_lose_39 rfl (lv_at hl 0 rfl) ?_
          refine g_get (pc := 40) C fg_X8_77 hP 0 rfl rfl dX8_lose_40 ?_
          refine lv_iload_n (pc := 43) hx hb dX8_lose_43 rfl (lv_at hl 1 rfl) ?_
          by_cases h_0 : x1 = (0 : Int32)
          · have hf := (if_pos h_0).symm.trans hf
            refine g_aald (pc := 44) (b := (a 46)) C hP 1 rfl (t0 := 3) rfl (by rw [h_0]; decide) (by rw [h_0, tn_0]; rfl) dX8_lose_44 ?_
            refine g_get (pc := 45) C fg_X8_143 hP 2 rfl rfl dX8_lose_45 ?_
            have hf := Option.some.inj hf
            subst hf
            exact ret_i C hr hlk hP hS dX8_lose_48
          have hf := (if_neg h_0).symm.trans hf
          by_cases h_1 : x1 = (1 : Int32)
          · have hf := (if_pos h_1).symm.trans hf
            refine g_aald (pc := 44) (b := (a 48)) C hP 1 rfl (t0 := 3) rfl (by rw [h_1]; decide) (by rw [h_1, tn_1]; rfl) dX8_lose_44 ?_
            refine g_get (pc := 45) C fg_X8_143 hP 3 rfl rfl dX8_lose_45 ?_
            have hf := Option.some.inj hf
            subst hf
            exact ret_i C hr hlk hP hS dX8_lose_48
          have hf := (if_neg h_1).symm.trans hf
          by_cases h_2 : x1 = (2 : Int32)
          · have hf := (if_pos h_2).symm.trans hf
            refine g_aald (pc := 44) (b := (a 50)) C hP 1 rfl (t0 := 3) rfl (by rw [h_2]; decide) (by rw [h_2, tn_2]; rfl) dX8_lose_44 ?_
            refine g_get (pc := 45) C fg_X8_143 hP 4 rfl rfl dX8_lose_45 ?_
            have hf := Option.some.inj hf
            subst hf
            exact ret_i C hr hlk hP hS dX8_lose_48
          have hf := (if_neg h_2).symm.trans hf
          by_cases h_3 : x1 = (3 : Int32)
          · have hf := (if_pos h_3).symm.trans hf
            refine g_aald (pc := 44) (b := (a 52)) C hP 1 rfl (t0 := 3) rfl (by rw [h_3]; decide) (by rw [h_3, tn_3]; rfl) dX8_lose_44 ?_
            refine g_get (pc := 45) C fg_X8_143 hP 5 rfl rfl dX8_lose_45 ?_
            have hf := Option.some.inj hf
            subst hf
            exact ret_i C hr hlk hP hS dX8_lose_48
          have hf := (if_neg h_3).symm.trans hf
          cases hf
        have hf := (if_neg h_1).symm.trans hf
        by_cases h_2 : x1 = (2 : Int32)
        · have hf := (if_pos h_2).symm.trans hf
          refine g_aald (pc := 34) (b := (a 50)) C hP 1 rfl (t0 := 3) rfl (by rw [h_2]; decide) (by rw [h_2, tn_2]; rfl) dX8_lose_34 ?_
          refine lv_iconst (pc := 35) (v := 1) hx hb dX8_lose_35 ic_1 ?_
          refine g_put (pc := 36) C fg_X8_136 ft_X5_1 hP hD hS 4 rfl (by decide) rfl (Nat.le_of_ble_eq_true rfl) dX8_lose_36 (fun H locs hP hD hS => ?_)
          have hP : va_P D classes (wl_X8_lose cA a x_stale x_finding sheet0_lost sheet0_form sheet0_size sheet1_lost sheet1_form sheet1_size (1 : Int32) sheet2_form sheet2_size sheet3_lost sheet3_form sheet3_size) H := hP
          have hD : va_D (va_A ws0 sz) (wl_X8_lose cA a x_stale x_finding sheet0_lost sheet0_form sheet0_size sheet1_lost sheet1_form sheet1_size (1 : Int32) sheet2_form sheet2_size sheet3_lost sheet3_form sheet3_size) := hD
          refine lv_aload_n (pc := 39) hx hb dX8_lose_39 rfl (lv_at hl 0 rfl) ?_
          refine g_get (pc := 40) C fg_X8_77 hP 0 rfl rfl dX8_lose_40 ?_
          refine lv_iload_n (pc := 43) hx hb dX8_lose_43 rfl (lv_at hl 1 rfl) ?_
          by_cases h_0 : x1 = (0 : Int32)
          · have hf := (if_pos h_0).symm.trans hf
            refine g_aald (pc := 44) (b := (a 46)) C hP 1 rfl (t0 := 3) rfl (by rw [h_0]; decide) (by rw [h_0, tn_0]; rfl) dX8_lose_44 ?_
            refine g_get (pc := 45) C fg_X8_143 hP 2 rfl rfl dX8_lose_45 ?_
            have hf := Option.some.inj hf
            subst hf
            exact ret_i C hr hlk hP hS dX8_lose_48
          have hf := (if_neg h_0).symm.trans hf
          by_cases h_1 : x1 = (1 : Int32)
          · have hf := (if_pos h_1).symm.trans hf
            refine g_aald (pc := 44) (b := (a 48)) C hP 1 rfl (t0 := 3) rfl (by rw [h_1]; decide) (by rw [h_1, tn_1]; rfl) dX8_lose_44 ?_
            refine g_get (pc := 45) C fg_X8_143 hP 3 rfl rfl dX8_lose_45 ?_
            have hf := Option.some.inj hf
            subst hf
            exact ret_i C hr hlk hP hS dX8_lose_48
          have hf := (if_neg h_1).symm.trans hf
          by_cases h_2 : x1 = (2 : Int32)
          · have hf := (if_pos h_2).symm.trans hf
            refine g_aald (pc := 44) (b := (a 50)) C hP 1 rfl (t0 := 3) rfl (by rw [h_2]; decide) (by rw [h_2, tn_2]; rfl) dX8_lose_44 ?_
            refine g_get (pc := 45) C fg_X8_143 hP 4 rfl rfl dX8_lose_45 ?_
            have hf := Option.some.inj hf
            subst hf
            exact ret_i C hr hlk hP hS dX8_lose_48
          have hf := (if_neg h_2).symm.trans hf
          by_cases h_3 : x1 = (3 : Int32)
          · have hf := (if_pos h_3).symm.trans hf
            refine g_aald (pc := 44) (b := (a 52)) C hP 1 rfl (t0 := 3) rfl (by rw [h_3]; decide) (by rw [h_3, tn_3]; rfl) dX8_lose_44 ?_
            refine g_get (pc := 45) C fg_X8_143 hP 5 rfl rfl dX8_lose_45 ?_
            have hf := Option.some.inj hf
            subst hf
            exact ret_i C hr hlk hP hS dX8_lose_48
          have hf := (if_neg h_3).symm.trans hf
          cases hf
        have hf := (if_neg h_2).symm.trans hf
        by_cases h_3 : x1 = (3 : Int32)
        · have hf := (if_pos h_3).symm.trans hf
          refine g_aald (pc := 34) (b := (a 52)) C hP 1 rfl (t0 := 3) rfl (by rw [h_3]; decide) (by rw [h_3, tn_3]; rfl) dX8_lose_34 ?_
          refine lv_iconst (pc := 35) (v := 1) hx hb dX8_lose_35 ic_1 ?_
          refine g_put (pc := 36) C fg_X8_136 ft_X5_1 hP hD hS 5 rfl (by decide) rfl (Nat.le_of_ble_eq_true rfl) dX8_lose_36 (fun H locs hP hD hS => ?_)
          have hP : va_P D classes (wl_X8_lose cA a x_stale x_finding sheet0_lost sheet0_form sheet0_size sheet1_lost sheet1_form sheet1_size sheet2_lost sheet2_form sheet2_size (1 : Int32) sheet3_form sheet3_size) H := hP
          have hD : va_D (va_A ws0 sz) (wl_X8_lose cA a x_stale x_finding sheet0_lost sheet0_form sheet0_size sheet1_lost sheet1_form sheet1_size sheet2_lost sheet2_form sheet2_size (1 : Int32) sheet3_form sheet3_size) := hD
          refine lv_aload_n (pc := 39) hx hb dX8_lose_39 rfl (lv_at hl 0 rfl) ?_
          refine g_get (pc := 40) C fg_X8_77 hP 0 rfl rfl dX8_lose_40 ?_
          refine lv_iload_n (pc := 43) hx hb dX8_lose_43 rfl (lv_at hl 1 rfl) ?_
          by_cases h_0 : x1 = (0 : Int32)
          · have hf := (if_pos h_0).symm.trans hf
            refine g_aald (pc := 44) (b := (a 46)) C hP 1 rfl (t0 := 3) rfl (by rw [h_0]; decide) (by rw [h_0, tn_0]; rfl) dX8_lose_44 ?_
            refine g_get (pc := 45) C fg_X8_143 hP 2 rfl rfl dX8_lose_45 ?_
            have hf := Option.some.inj hf
            subst hf
            exact ret_i C hr hlk hP hS dX8_lose_48
          have hf := (if_neg h_0).symm.trans hf
          by_cases h_1 : x1 = (1 : Int32)
          · have hf := (if_pos h_1).symm.trans hf
            refine g_aald (pc := 44) (b := (a 48)) C hP 1 rfl (t0 := 3) rfl (by rw [h_1]; decide) (by rw [h_1, tn_1]; rfl) dX8_lose_44 ?_
            refine g_get (pc := 45) C fg_X8_143 hP 3 rfl rfl dX8_lose_45 ?_
            have hf := Option.some.inj hf
            subst hf
            exact ret_i C hr hlk hP hS dX8_lose_48
          have hf := (if_neg h_1).symm.trans hf
          by_cases h_2 : x1 = (2 : Int32)
          · have hf := (if_pos h_2).symm.trans hf
            refine g_aald (pc := 44) (b := (a 50)) C hP 1 rfl (t0 := 3) rfl (by rw [h_2]; decide) (by rw [h_2, tn_2]; rfl) dX8_lose_44 ?_
            refine g_get (pc := 45) C fg_X8_143 hP 4 rfl rfl dX8_lose_45 ?_
            have hf := Option.some.inj hf
            subst hf
            exact ret_i C hr hlk hP hS dX8_lose_48
          have hf := (if_neg h_2).symm.trans hf
          by_cases h_3 : x1 = (3 : Int32)
          · have hf := (if_pos h_3).symm.trans hf
            refine g_aald (pc := 44) (b := (a 52)) C hP 1 rfl (t0 := 3) rfl (by rw [h_3]; decide) (by rw [h_3, tn_3]; rfl) dX8_lose_44 ?_
            refine g_get (pc := 45) C fg_X8_143 hP 5 rfl rfl dX8_lose_45 ?_
            have hf := Option.some.inj hf
            subst hf
            exact ret_i C hr hlk hP hS dX8_lose_48
          have hf := (if_neg h_3).symm.trans hf
          cases hf
        have hf := (if_neg h_3).symm.trans hf
        cases hf
      · have hf := (if_neg hc).symm.trans hf
        refine lv_aload_n (pc := 23) hx hb dX8_lose_23 rfl (lv_at hl 0 rfl) ?_
        refine lv_iconst (pc := 24) (v := 1) hx hb dX8_lose_24 ic_1 ?_
        obtain ⟨r8, c9, hq, hf⟩ := bind2_some hf
        refine fin_i (run_V (rest := []) (pc := 25) (As := [.int (1 : Int32)]) C mf_X8_139 (c_X8_found l D cA a x_stale x_finding (1 : Int32) (r8, c9) hq H.size) rfl rfl ⟨(Nat.le_of_ble_eq_true rfl), (Nat.le_of_ble_eq_true rfl)⟩ (preV_of C hP hD [0] rfl rfl 0 rfl rfl rfl) rfl hl.1 rfl (Nat.le_of_ble_eq_true rfl) dX8_lose_25 ⟨Nat.zero_le _, Nat.zero_le _⟩) hP hD hS hA [0] rfl rfl (fun H locs hP hS => ?_)
        have hP : va_P D classes (wl_X8_lose cA a x_stale c9 sheet0_lost sheet0_form sheet0_size sheet1_lost sheet1_form sheet1_size sheet2_lost sheet2_form sheet2_size sheet3_lost sheet3_form sheet3_size) H := hP
        have hD : va_D (va_A ws0 sz) (wl_X8_lose cA a x_stale c9 sheet0_lost sheet0_form sheet0_size sheet1_lost sheet1_form sheet1_size sheet2_lost sheet2_form sheet2_size sheet3_lost sheet3_form sheet3_size) := vd_a hD rfl
        have hf := Option.some.inj hf
        subst hf
        exact ret_i C hr hlk hP hS dX8_lose_28
    have hf := (if_neg h_3).symm.trans hf
    cases hf
  · have hf := (if_pos hc).symm.trans hf
    refine lv_bipush (pc := 8) (v := (-2)) hx hb dX8_lose_8 bp_m2 ?_
    have hf := Option.some.inj hf
    subst hf
    exact ret_i C hr hlk hP hS dX8_lose_10
set_option maxRecDepth 100000 in
theorem c_X8_lose (l : Launch) (D : va_G) (cA : Nat → ClassId) (a : Nat → Nat) (x_stale : Int32) (x_finding : Int32) (sheet0_lost : Int32) (sheet0_form : Int32) (sheet0_size : Int32) (sheet1_lost : Int32) (sheet1_form : Int32) (sheet1_size : Int32) (sheet2_lost : Int32) (sheet2_form : Int32) (sheet2_size : Int32) (sheet3_lost : Int32) (sheet3_form : Int32) (sheet3_size : Int32) (x1 : Int32) (r : Int32 × Int32 × Int32 × Int32 × Int32 × Int32) (hf : f_X8_lose x_finding sheet0_lost sheet0_size sheet1_lost sheet1_size sheet2_lost sheet2_size sheet3_lost sheet3_size x1 = some r) (sz : Nat) : Met l yX8_lose (Cond.code yX8_lose cX8_lose 2 (some .int) :: lw_good) rm_X8_lose (PreX D cA [.ref (a 0), .int x1] sz (wl_X8_lose cA a x_stale x_finding sheet0_lost sheet0_form sheet0_size sheet1_lost sheet1_form sheet1_size sheet2_lost sheet2_form sheet2_size sheet3_lost sheet3_form sheet3_size)) (PostI D r.1 (wl_X8_lose cA a x_stale x_finding sheet0_lost sheet0_form sheet0_size sheet1_lost sheet1_form sheet1_size sheet2_lost sheet2_form sheet2_size sheet3_lost sheet3_form sheet3_size) (wl_X8_lose cA a x_stale (r.2.1) (r.2.2.1) sheet0_form sheet0_size (r.2.2.2.1) sheet1_form sheet1_size (r.2.2.2.2.1) sheet2_form sheet2_size (r.2.2.2.2.2) sheet3_form sheet3_size) sz) 0 0 (va_A (wl_X8_lose cA a x_stale x_finding sheet0_lost sheet0_form sheet0_size sheet1_lost sheet1_form sheet1_size sheet2_lost sheet2_form sheet2_size sheet3_lost sheet3_form sheet3_size) sz) :=
  met_of (by decide) (Nat.le_of_ble_eq_true rfl) (fun p e s m args below meth c C hr hlk hA => k_X8_lose C hr hlk hA a x_stale x_finding sheet0_lost sheet0_form sheet0_size sheet1_lost sheet1_form sheet1_size sheet2_lost sheet2_form sheet2_size sheet3_lost sheet3_form sheet3_size x1 r hf)
end
