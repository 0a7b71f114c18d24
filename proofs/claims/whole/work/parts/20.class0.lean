abbrev rm_X8_isUpTo : Room := { frames := 0, cells := 0, slots := 0, locals := 0 }
section
variable {p : Program} {l : Launch} {e : Env} {s : State} {m : MethodId} {args : Array Value} {below : List Frame} {meth : Method} {c : Code} {D : va_G} {cA : Nat → ClassId} {ws0 : va_W} {sz : Nat} {A : Nat → Prop} {Q : State → Prop}
def f_X8_isUpTo (x0 : Int32) (x1 : Int32) : Option (Int32) :=
  if x0 < 0 then (some (0 : Int32)) else (if x1 < x0 then (some (0 : Int32)) else (some (1 : Int32)))
set_option maxHeartbeats 4000000 in
set_option maxRecDepth 100000 in
theorem k_X8_isUpTo (C : Cx RX8 cX8_isUpTo 2 D cA p s m args c) (hr : meth.sig.returnType = (some .boolean)) (hlk : meth.locks = false) (hA : ∀ q, s.heap.size ≤ q → va_A ws0 sz q) (x0 : Int32) (x1 : Int32) (r : Int32) (hf : f_X8_isUpTo x0 x1 = some r) : At p l e rm_X8_isUpTo s m args below meth c D (va_A ws0 sz) 0 0 (MQ below (PostI D r ws0 ([] : va_W) sz) args s 0 0 (va_A ws0 sz)) 2 0 ([] : va_W) [(0, .int x0), (1, .int x1)] [] := by
  intro H locs ls hP hD hS hl
  have hx := C.1
  have hb := C.2.1
  have hown := C.2.2.2.1
  have hts := C.2.2.2.2.1
  unfold f_X8_isUpTo at hf
  refine lv_iload_n (pc := 0) hx hb dX8_isUpTo_0 rfl (lv_at hl 0 rfl) ?_
  refine lv_if_lt (pc := 1) (tgt := 13) hx hb dX8_isUpTo_1 (by decide) (fun hc => ?_) (fun hc => ?_)
  · have hf := (if_pos hc).symm.trans hf
    refine lv_iconst (pc := 13) (v := 0) hx hb dX8_isUpTo_13 ic_0 ?_
    have hf := Option.some.inj hf
    subst hf
    exact ret_z C hr hlk isz_0 hP hS dX8_isUpTo_14
  · have hf := (if_neg hc).symm.trans hf
    refine lv_iload_n (pc := 4) hx hb dX8_isUpTo_4 rfl (lv_at hl 0 rfl) ?_
    refine lv_iload_n (pc := 5) hx hb dX8_isUpTo_5 rfl (lv_at hl 1 rfl) ?_
    refine lv_icmp_gt (pc := 6) (tgt := 13) hx hb dX8_isUpTo_6 (by decide) (fun hc => ?_) (fun hc => ?_)
    · have hf := (if_pos hc).symm.trans hf
      refine lv_iconst (pc := 13) (v := 0) hx hb dX8_isUpTo_13 ic_0 ?_
      have hf := Option.some.inj hf
      subst hf
      exact ret_z C hr hlk isz_0 hP hS dX8_isUpTo_14
    · have hf := (if_neg hc).symm.trans hf
      refine lv_iconst (pc := 9) (v := 1) hx hb dX8_isUpTo_9 ic_1 ?_
      refine lv_goto (pc := 10) (tgt := 14) hx hb dX8_isUpTo_10 (by decide) ?_
      have hf := Option.some.inj hf
      subst hf
      exact ret_z C hr hlk isz_1 hP hS dX8_isUpTo_14
set_option maxRecDepth 100000 in
theorem c_X8_isUpTo (l : Launch) (D : va_G) (cA : Nat → ClassId) (x0 : Int32) (x1 : Int32) (r : Int32) (hf : f_X8_isUpTo x0 x1 = some r) (sz : Nat) : Met l yX8_isUpTo (Cond.code yX8_isUpTo cX8_isUpTo 2 (some .boolean) :: lw_good) rm_X8_isUpTo (PreX D cA [.int x0, .int x1] sz ([] : va_W)) (PostI D r ([] : va_W) ([] : va_W) sz) 0 0 (va_A ([] : va_W) sz) :=
  met_of (by decide) (Nat.le_of_ble_eq_true rfl) (fun p e s m args below meth c C hr hlk hA => k_X8_isUpTo C hr hlk hA x0 x1 r hf)
end

abbrev wl_X8_understand (cA : Nat → ClassId) (a : Nat → Nat) (x_stale : Int32) (x_finding : Int32) (text0_length : Int32) (text0_bytes : Nat → Int32) (text1_length : Int32) (text1_bytes : Nat → Int32) (land_flaw : Int32) (land_cells : Int32) (land_columns : Int32) (land_rows : Int32) (land_kinds : Nat → Int32) (land_rowAt : Nat → Int32) (land_columnAt : Nat → Int32) (land_ways : Nat → Int32) (land_beside : Nat → Int32) (houses_flaw : Int32) (houses_number : Int32) (houses_places : Nat → Int32) (houses_dues : Nat → Int32) : va_W := [((a 0), .inr (8, [.ref (a 1), .ref (a 6), .ref (a 12), .ref (a 15), .ref (a 19), .ref (a 23), .ref (a 27), .ref (a 34), .ref (a 41), .ref (a 42), .ref (a 44), .ref (a 45), .int x_stale, .int x_finding])), ((a 1), .inl (cA 2, 2, .inr (.inr (.inr (.inr (fun k : Nat => if k = 0 then some (a 2) else some (a 4))))))), ((a 2), .inr (6, [.ref (a 3), .int text0_length])), ((a 3), .inl (cA 0, 41, .inl text0_bytes)), ((a 4), .inr (6, [.ref (a 5), .int text1_length])), ((a 5), .inl (cA 0, 31, .inl text1_bytes)), ((a 6), .inr (3, [.ref (a 7), .ref (a 8), .ref (a 9), .ref (a 10), .ref (a 11), .int land_flaw, .int land_cells, .int land_columns, .int land_rows])), ((a 7), .inl (cA 0, 36, .inl land_kinds)), ((a 8), .inl (cA 0, 36, .inl land_rowAt)), ((a 9), .inl (cA 0, 36, .inl land_columnAt)), ((a 10), .inl (cA 0, 36, .inl land_ways)), ((a 11), .inl (cA 0, 144, .inl land_beside)), ((a 12), .inr (1, [.ref (a 13), .ref (a 14), .int houses_flaw, .int houses_number])), ((a 13), .inl (cA 0, 8, .inl houses_places)), ((a 14), .inl (cA 0, 8, .inl houses_dues))]
abbrev rm_X8_understand : Room := { frames := 3, cells := 0, slots := 0, locals := 69 }
section
variable {p : Program} {l : Launch} {e : Env} {s : State} {m : MethodId} {args : Array Value} {below : List Frame} {meth : Method} {c : Code} {D : va_G} {cA : Nat → ClassId} {ws0 : va_W} {sz : Nat} {A : Nat → Prop} {Q : State → Prop}
def f_X8_understand (x_stale : Int32) (text0_length : Int32) (text0_bytes : Nat → Int32) (text1_length : Int32) (text1_bytes : Nat → Int32) (land_flaw : Int32) (land_cells : Int32) (land_columns : Int32) (land_rows : Int32) (land_kinds : Nat → Int32) (land_rowAt : Nat → Int32) (land_columnAt : Nat → Int32) (land_ways : Nat → Int32) (land_beside : Nat → Int32) (houses_flaw : Int32) (houses_number : Int32) (houses_places : Nat → Int32) (houses_dues : Nat → Int32) (x1 : Int32) : Option (Int32 × Int32 × Int32 × Int32 × Int32 × (Nat → Int32) × (Nat → Int32) × (Nat → Int32) × (Nat → Int32) × (Nat → Int32) × Int32 × Int32 × (Nat → Int32) × (Nat → Int32)) :=
  if x1 = 0 then (bind9 (f_X3_understand 41 land_flaw land_cells land_columns land_rows land_kinds land_rowAt land_columnAt land_ways land_beside text0_length text0_bytes) (fun c5 c6 c7 c8 c9 c10 c11 c12 c13 => some ((1 : Int32), c5, c6, c7, c8, c9, c10, c11, c12, c13, houses_flaw, houses_number, houses_places, houses_dues))) else (bind4 (f_X1_understand 31 houses_flaw houses_number houses_places houses_dues text1_length text1_bytes) (fun c1 c2 c3 c4 => some (x_stale, land_flaw, land_cells, land_columns, land_rows, land_kinds, land_rowAt, land_columnAt, land_ways, land_beside, c1, c2, c3, c4)))
set_option maxHeartbeats 4000000 in
set_option maxRecDepth 100000 in
theorem k_X8_understand (C : Cx RX8 cX8_understand 2 D cA p s m args c) (hr : meth.sig.returnType = none) (hlk : meth.locks = false) (hA : ∀ q, s.heap.size ≤ q → va_A ws0 sz q) (a : Nat → Nat) (x_stale : Int32) (x_finding : Int32) (text0_length : Int32) (text0_bytes : Nat → Int32) (text1_length : Int32) (text1_bytes : Nat → Int32) (land_flaw : Int32) (land_cells : Int32) (land_columns : Int32) (land_rows : Int32) (land_kinds : Nat → Int32) (land_rowAt : Nat → Int32) (land_columnAt : Nat → Int32) (land_ways : Nat → Int32) (land_beside : Nat → Int32) (houses_flaw : Int32) (houses_number : Int32) (houses_places : Nat → Int32) (houses_dues : Nat → Int32) (x1 : Int32) (r : Int32 × Int32 × Int32 × Int32 × Int32 × (Nat → Int32) × (Nat → Int32) × (Nat → Int32) × (Nat → Int32) × (Nat → Int32) × Int32 × Int32 × (Nat → Int32) × (Nat → Int32)) (hf : f_X8_understand x_stale text0_length text0_bytes text1_length text1_bytes land_flaw land_cells land_columns land_rows land_kinds land_rowAt land_columnAt land_ways land_beside houses_flaw houses_number houses_places houses_dues x1 = some r) : At p l e rm_X8_understand s m args below meth c D (va_A ws0 sz) 0 0 (MQ below (PostV D ws0 (wl_X8_understand cA a (r.1) x_finding text0_length text0_bytes text1_length text1_bytes (r.2.1) (r.2.2.1) (r.2.2.2.1) (r.2.2.2.2.1) (r.2.2.2.2.2.1) (r.2.2.2.2.2.2.1) (r.2.2.2.2.2.2.2.1) (r.2.2.2.2.2.2.2.2.1) (r.2.2.2.2.2.2.2.2.2.1) (r.2.2.2.2.2.2.2.2.2.2.1) (r.2.2.2.2.2.2.2.2.2.2.2.1) (r.2.2.2.2.2.2.2.2.2.2.2.2.1) (r.2.2.2.2.2.2.2.2.2.2.2.2.2)) sz) args s 0 0 (va_A ws0 sz)) 2 0 (wl_X8_understand cA a x_stale x_finding text0_length text0_bytes text1_length text1_bytes land_flaw land_cells land_columns land_rows land_kinds land_rowAt land_columnAt land_ways land_beside houses_flaw houses_number houses_places houses_dues) [(0, .ref (a 0)), (1, .int x1)] [] := by
  intro H locs ls hP hD hS hl
  have hx := C.1
  have hb := C.2.1
  have hown := C.2.2.2.1
  have hts := C.2.2.2.2.1
  unfold f_X8_understand at hf
  refine lv_iload_n (pc := 0) hx hb dX8_understand_0 rfl (lv_at hl 1 rfl) ?_
  refine lv_if_ne (pc := 1) (tgt := 25) hx hb dX8_understand_1 (by decide) (fun hc => ?_) (fun hc => ?_)
  · have hf := (if_neg hc).symm.trans hf
    refine lv_aload_n (pc := 25) hx hb dX8_understand_25 rfl (lv_at hl 0 rfl) ?_
    refine g_get (pc := 26) C fg_X8_28 hP 0 rfl rfl dX8_understand_26 ?_
    refine lv_aload_n (pc := 29) hx hb dX8_understand_29 rfl (lv_at hl 0 rfl) ?_
    refine g_get (pc := 30) C fg_X8_11 hP 0 rfl rfl dX8_understand_30 ?_
    refine lv_iconst (pc := 33) (v := 1) hx hb dX8_understand_33 ic_1 ?_
    refine g_aald (pc := 34) (b := (a 4)) C hP 1 rfl (t0 := 2) rfl (by decide) (by rw [tn_1]; rfl) dX8_understand_34 ?_
    obtain ⟨c1, c2, c3, c4, hq, hf⟩ := bind4_some hf
    refine fin2_v (wl_X8_understand cA a x_stale x_finding text0_length text0_bytes text1_length text1_bytes land_flaw land_cells land_columns land_rows land_kinds land_rowAt land_columnAt land_ways land_beside c1 c2 c3 c4) (run_V (rest := []) (pc := 35) (As := [.ref (a 4)]) C mf_X8_158 (c_X1_understand l D cA (a 12) (a 13) (a 14) (a 4) (a 5) 31 houses_flaw houses_number houses_places houses_dues text1_length text1_bytes (c1, c2, c3, c4) hq H.size) rfl rfl ⟨(Nat.le_of_ble_eq_true rfl), (Nat.le_of_ble_eq_true rfl)⟩ (preV_of C hP hD [12, 13, 14, 4, 5] rfl (pl_nd pv_17) 0 rfl rfl rfl) rfl hl.1 rfl (Nat.le_of_ble_eq_true rfl) dX8_understand_35 ⟨Nat.zero_le _, Nat.zero_le _⟩) hP hD hS hA [12, 13, 14, 4, 5] [0, 1, 2, 3, 6, 7, 8, 9, 10, 11] rfl rfl rfl rfl pv_17 (fun H locs hP hS => ?_)
    have hD : va_D (va_A ws0 sz) (wl_X8_understand cA a x_stale x_finding text0_length text0_bytes text1_length text1_bytes land_flaw land_cells land_columns land_rows land_kinds land_rowAt land_columnAt land_ways land_beside c1 c2 c3 c4) := vd_a hD rfl
    have hf := Option.some.inj hf
    subst hf
    exact ret_v C hr hlk hP hS dX8_understand_38
  · have hf := (if_pos hc).symm.trans hf
    refine lv_aload_n (pc := 4) hx hb dX8_understand_4 rfl (lv_at hl 0 rfl) ?_
    refine g_get (pc := 5) C fg_X8_21 hP 0 rfl rfl dX8_understand_5 ?_
    refine lv_aload_n (pc := 8) hx hb dX8_understand_8 rfl (lv_at hl 0 rfl) ?_
    refine g_get (pc := 9) C fg_X8_11 hP 0 rfl rfl dX8_understand_9 ?_
    refine lv_iconst (pc := 12) (v := 0) hx hb dX8_understand_12 ic_0 ?_
    refine g_aald (pc := 13) (b := (a 2)) C hP 1 rfl (t0 := 2) rfl (by decide) (by rw [tn_0]; rfl) dX8_understand_13 ?_
    obtain ⟨c5, c6, c7, c8, c9, c10, c11, c12, c13, hq, hf⟩ := bind9_some hf
    refine fin2_v (wl_X8_understand cA a x_stale x_finding text0_length text0_bytes text1_length text1_bytes c5 c6 c7 c8 c9 c10 c11 c12 c13 houses_flaw houses_number houses_places houses_dues) (run_V (rest := []) (pc := 14) (As := [.ref (a 2)]) C mf_X8_155 (c_X3_understand l D cA (a 6) (a 7) (a 8) (a 9) (a 10) (a 11) (a 2) (a 3) 41 land_flaw land_cells land_columns land_rows land_kinds land_rowAt land_columnAt land_ways land_beside text0_length text0_bytes (c5, c6, c7, c8, c9, c10, c11, c12, c13) hq H.size) rfl rfl ⟨(Nat.le_of_ble_eq_true rfl), (Nat.le_of_ble_eq_true rfl)⟩ (preV_of C hP hD [6, 7, 8, 9, 10, 11, 2, 3] rfl (pl_nd pv_18) 0 rfl rfl rfl) rfl hl.1 rfl (Nat.le_of_ble_eq_true rfl) dX8_understand_14 ⟨Nat.zero_le _, Nat.zero_le _⟩) hP hD hS hA [6, 7, 8, 9, 10, 11, 2, 3] [0, 1, 4, 5, 12, 13, 14] rfl rfl rfl rfl pv_18 (fun H locs hP hS => ?_)
    have hD : va_D (va_A ws0 sz) (wl_X8_understand cA a x_stale x_finding text0_length text0_bytes text1_length text1_bytes c5 c6 c7 c8 c9 c10 c11 c12 c13 houses_flaw houses_number houses_places houses_dues) := vd_a hD rfl
    refine lv_aload_n (pc := 17) hx hb dX8_understand_17 rfl (lv_at hl 0 rfl) ?_
    refine lv_iconst (pc := 18) (v := 1) hx hb dX8_understand_18 ic_1 ?_
    refine g_put (pc := 19) C fg_X8_82 ft_X8_12 hP hD hS 0 rfl (by decide) rfl (Nat.le_of_ble_eq_true rfl) dX8_understand_19 (fun H locs hP hD hS => ?_)
    have hP : va_P D classes (wl_X8_understand cA a (1 : Int32) x_finding text0_length text0_bytes text1_length text1_bytes c5 c6 c7 c8 c9 c10 c11 c12 c13 houses_flaw houses_number houses_places houses_dues) H := hP
    have hD : va_D (va_A ws0 sz) (wl_X8_understand cA a (1 : Int32) x_finding text0_length text0_bytes text1_length text1_bytes c5 c6 c7 c8 c9 c10 c11 c12 c13 houses_flaw houses_number houses_places houses_dues) := hD
    refine lv_goto (pc := 22) (tgt := 38) hx hb dX8_understand_22 (by decide) ?_
    have hf := Option.some.inj hf
    subst hf
    exact ret_v C hr hlk hP hS dX8_understand_38
set_option maxRecDepth 100000 in
theorem c_X8_understand (l : Launch) (D : va_G) (cA : Nat → ClassId) (a : Nat → Nat) (x_stale : Int32) (x_finding : Int32) (text0_length : Int32) (text0_bytes : Nat → Int32) (text1_length : Int32) (text1_bytes : Nat → Int32) (land_flaw : Int32) (land_cells : Int32) (land_columns : Int32) (land_rows : Int32) (land_kinds : Nat → Int32) (land_rowAt : Nat → Int32) (land_columnAt : Nat → Int32) (land_ways : Nat → Int32) (land_beside : Nat → Int32) (houses_flaw : Int32) (houses_number : Int32) (houses_places : Nat → Int32) (houses_dues : Nat → Int32) (x1 : Int32) (r : Int32 × Int32 × Int32 × Int32 × Int32 × (Nat → Int32) × (Nat → Int32) × (Nat → Int32) × (Nat → Int32) × (Nat → Int32) × Int32 × Int32 × (Nat → Int32) × (Nat → Int32)) (hf : f_X8_understand x_stale text0_length text0_bytes text1_length text1_bytes land_flaw land_cells land_columns land_rows land_kinds land_rowAt land_columnAt land_ways land_beside houses_flaw houses_number houses_places houses_dues x1 = some r) (sz : Nat) : Met l yX8_understand (Cond.code yX8_understand cX8_understand 2 none :: lw_good) rm_X8_understand (PreX D cA [.ref (a 0), .int x1] sz (wl_X8_understand cA a x_stale x_finding text0_length text0_bytes text1_length text1_bytes land_flaw land_cells land_columns land_rows land_kinds land_rowAt land_columnAt land_ways land_beside houses_flaw houses_number houses_places houses_dues)) (PostV D (wl_X8_understand cA a x_stale x_finding text0_length text0_bytes text1_length text1_bytes land_flaw land_cells land_columns land_rows land_kinds land_rowAt land_columnAt land_ways land_beside houses_flaw houses_number houses_places houses_dues) (wl_X8_understand cA a (r.1) x_finding text0_length text0_bytes text1_length text1_bytes (r.2.1) (r.2.2.1) (r.2.2.2.1) (r.2.2.2.2.1) (r.2.2.2.2.2.1) (r.2.2.2.2.2.2.1) (r.2.2.2.2.2.2.2.1) (r.2.2.2.2.2.2.2.2.1) (r.2.2.2.2.2.2.2.2.2.1) (r.2.2.2.2.2.2.2.2.2.2.1) (r.2.2.2.2.2.2.2.2.2.2.2.1) (r.2.2.2.2.2.2.2.2.2.2.2.2.1) (r.2.2.2.2.2.2.2.2.2.2.2.2.2)) sz) 0 0 (va_A (wl_X8_understand cA a x_stale x_finding text0_length text0_bytes text1_length text1_bytes land_flaw land_cells land_columns land_rows land_kinds land_rowAt land_columnAt land_ways land_beside houses_flaw houses_number houses_places houses_dues) sz) :=
  met_of (by decide) (Nat.le_of_ble_eq_true rfl) (fun p e s m args below meth c C hr hlk hA => k_X8_understand C hr hlk hA a x_stale x_finding text0_length text0_bytes text1_length text1_bytes land_flaw land_cells land_columns land_rows land_kinds land_rowAt land_columnAt land_ways land_beside houses_flaw houses_number houses_places houses_dues x1 r hf)
end

abbrev wl_X8_type (cA : Nat → ClassId) (a : Nat → Nat) (x_stale : Int32) (x_finding : Int32) (text0_length : Int32) (text0_bytes : Nat → Int32) (text1_length : Int32) (text1_bytes : Nat → Int32) (land_flaw : Int32) (land_cells : Int32) (land_columns : Int32) (land_rows : Int32) (land_kinds : Nat → Int32) (land_rowAt : Nat → Int32) (land_columnAt : Nat → Int32) (land_ways : Nat → Int32) (land_beside : Nat → Int32) (houses_flaw : Int32) (houses_number : Int32) (houses_places : Nat → Int32) (houses_dues : Nat → Int32) : va_W := [((a 0), .inr (8, [.ref (a 1), .ref (a 6), .ref (a 12), .ref (a 15), .ref (a 19), .ref (a 23), .ref (a 27), .ref (a 34), .ref (a 41), .ref (a 42), .ref (a 44), .ref (a 45), .int x_stale, .int x_finding])), ((a 1), .inl (cA 2, 2, .inr (.inr (.inr (.inr (fun k : Nat => if k = 0 then some (a 2) else some (a 4))))))), ((a 2), .inr (6, [.ref (a 3), .int text0_length])), ((a 3), .inl (cA 0, 41, .inl text0_bytes)), ((a 4), .inr (6, [.ref (a 5), .int text1_length])), ((a 5), .inl (cA 0, 31, .inl text1_bytes)), ((a 6), .inr (3, [.ref (a 7), .ref (a 8), .ref (a 9), .ref (a 10), .ref (a 11), .int land_flaw, .int land_cells, .int land_columns, .int land_rows])), ((a 7), .inl (cA 0, 36, .inl land_kinds)), ((a 8), .inl (cA 0, 36, .inl land_rowAt)), ((a 9), .inl (cA 0, 36, .inl land_columnAt)), ((a 10), .inl (cA 0, 36, .inl land_ways)), ((a 11), .inl (cA 0, 144, .inl land_beside)), ((a 12), .inr (1, [.ref (a 13), .ref (a 14), .int houses_flaw, .int houses_number])), ((a 13), .inl (cA 0, 8, .inl houses_places)), ((a 14), .inl (cA 0, 8, .inl houses_dues))]
abbrev rm_X8_type : Room := { frames := 4, cells := 0, slots := 0, locals := 90 }
section
variable {p : Program} {l : Launch} {e : Env} {s : State} {m : MethodId} {args : Array Value} {below : List Frame} {meth : Method} {c : Code} {D : va_G} {cA : Nat → ClassId} {ws0 : va_W} {sz : Nat} {A : Nat → Prop} {Q : State → Prop}
def f_X8_type (x_stale : Int32) (text0_length : Int32) (text0_bytes : Nat → Int32) (text1_length : Int32) (text1_bytes : Nat → Int32) (land_flaw : Int32) (land_cells : Int32) (land_columns : Int32) (land_rows : Int32) (land_kinds : Nat → Int32) (land_rowAt : Nat → Int32) (land_columnAt : Nat → Int32) (land_ways : Nat → Int32) (land_beside : Nat → Int32) (houses_flaw : Int32) (houses_number : Int32) (houses_places : Nat → Int32) (houses_dues : Nat → Int32) (x1 : Int32) (x2 : Int32) : Option (Int32 × Int32 × Int32 × (Nat → Int32) × Int32 × (Nat → Int32) × Int32 × Int32 × Int32 × Int32 × (Nat → Int32) × (Nat → Int32) × (Nat → Int32) × (Nat → Int32) × (Nat → Int32) × Int32 × Int32 × (Nat → Int32) × (Nat → Int32)) :=
  bind1 (f_X8_isUpTo x1 (1 : Int32)) (fun r1 => if r1 = 0 then (some ((-2 : Int32), x_stale, text0_length, text0_bytes, text1_length, text1_bytes, land_flaw, land_cells, land_columns, land_rows, land_kinds, land_rowAt, land_columnAt, land_ways, land_beside, houses_flaw, houses_number, houses_places, houses_dues)) else (bind1 (f_X8_isUpTo x2 (255 : Int32)) (fun r2 => if r2 = 0 then (some ((-2 : Int32), x_stale, text0_length, text0_bytes, text1_length, text1_bytes, land_flaw, land_cells, land_columns, land_rows, land_kinds, land_rowAt, land_columnAt, land_ways, land_beside, houses_flaw, houses_number, houses_places, houses_dues)) else (if x1 = (0 : Int32) then (bind3 (f_X6_append 41 text0_length text0_bytes x2) (fun r3 c4 c5 => if r3 = 0 then (some ((-4 : Int32), x_stale, c4, c5, text1_length, text1_bytes, land_flaw, land_cells, land_columns, land_rows, land_kinds, land_rowAt, land_columnAt, land_ways, land_beside, houses_flaw, houses_number, houses_places, houses_dues)) else (bind14 (f_X8_understand x_stale c4 c5 text1_length text1_bytes land_flaw land_cells land_columns land_rows land_kinds land_rowAt land_columnAt land_ways land_beside houses_flaw houses_number houses_places houses_dues x1) (fun c6 c7 c8 c9 c10 c11 c12 c13 c14 c15 c16 c17 c18 c19 => if x1 = (0 : Int32) then (some (c4, c6, c4, c5, text1_length, text1_bytes, c7, c8, c9, c10, c11, c12, c13, c14, c15, c16, c17, c18, c19)) else (if x1 = (1 : Int32) then (some (text1_length, c6, c4, c5, text1_length, text1_bytes, c7, c8, c9, c10, c11, c12, c13, c14, c15, c16, c17, c18, c19)) else (none)))))) else (if x1 = (1 : Int32) then (bind3 (f_X6_append 31 text1_length text1_bytes x2) (fun r20 c21 c22 => if r20 = 0 then (some ((-4 : Int32), x_stale, text0_length, text0_bytes, c21, c22, land_flaw, land_cells, land_columns, land_rows, land_kinds, land_rowAt, land_columnAt, land_ways, land_beside, houses_flaw, houses_number, houses_places, houses_dues)) else (bind14 (f_X8_understand x_stale text0_length text0_bytes c21 c22 land_flaw land_cells land_columns land_rows land_kinds land_rowAt land_columnAt land_ways land_beside houses_flaw houses_number houses_places houses_dues x1) (fun c23 c24 c25 c26 c27 c28 c29 c30 c31 c32 c33 c34 c35 c36 => if x1 = (0 : Int32) then (some (text0_length, c23, text0_length, text0_bytes, c21, c22, c24, c25, c26, c27, c28, c29, c30, c31, c32, c33, c34, c35, c36)) else (if x1 = (1 : Int32) then (some (c21, c23, text0_length, text0_bytes, c21, c22, c24, c25, c26, c27, c28, c29, c30, c31, c32, c33, c34, c35, c36)) else (none)))))) else (none))))))
set_option maxHeartbeats 4000000 in
set_option maxRecDepth 100000 in
theorem k_X8_type (C : Cx RX8 cX8_type 3 D cA p s m args c) (hr : meth.sig.returnType = (some .int)) (hlk : meth.locks = false) (hA : ∀ q, s.heap.size ≤ q → va_A ws0 sz q) (a : Nat → Nat) (x_stale : Int32) (x_finding : Int32) (text0_length : Int32) (text0_bytes : Nat → Int32) (text1_length : Int32) (text1_bytes : Nat → Int32) (land_flaw : Int32) (land_cells : Int32) (land_columns : Int32) (land_rows : Int32) (land_kinds : Nat → Int32) (land_rowAt : Nat → Int32) (land_columnAt : Nat → Int32) (land_ways : Nat → Int32) (land_beside : Nat → Int32) (houses_flaw : Int32) (houses_number : Int32) (houses_places : Nat → Int32) (houses_dues : Nat → Int32) (x1 : Int32) (x2 : Int32) (r : Int32 × Int32 × Int32 × (Nat → Int32) × Int32 × (Nat → Int32) × Int32 × Int32 × Int32 × Int32 × (Nat → Int32) × (Nat → Int32) × (Nat → Int32) × (Nat → Int32) × (Nat → Int32) × Int32 × Int32 × (Nat → Int32) × (Nat → Int32)) (hf : f_X8_type x_stale text0_length text0_bytes text1_length text1_bytes land_flaw land_cells land_columns land_rows land_kinds land_rowAt land_columnAt land_ways land_beside houses_flaw houses_number houses_places houses_dues x1 x2 = some r) : At p l e rm_X8_type s m args below meth c D (va_A ws0 sz) 0 0 (MQ below (PostI D r.1 ws0 (wl_X8_type cA a (r.2.1) x_finding (r.2.2.1) (r.2.2.2.1) (r.2.2.2.2.1) (r.2.2.2.2.2.1) (r.2.2.2.2.2.2.1) (r.2.2.2.2.2.2.2.1) (r.2.2.2.2.2.2.2.2.1) (r.2.2.2.2.2.2.2.2.2.1) (r.2.2.2.2.2.2.2.2.2.2.1) (r.2.2.2.2.2.2.2.2.2.2.2.1) (r.2.2.2.2.2.2.2.2.2.2.2.2.1) (r.2.2.2.2.2.2.2.2.2.2.2.2.2.1) (r.2.2.2.2.2.2.2.2.2.2.2.2.2.2.1) (r.2.2.2.2.2.2.2.2.2.2.2.2.2.2.2.1) (r.2.2.2.2.2.2.2.2.2.2.2.2.2.2.2.2.1) (r.2.2.2.2.2.2.2.2.2.2.2.2.2.2.2.2.2.1) (r.2.2.2.2.2.2.2.2.2.2.2.2.2.2.2.2.2.2)) sz) args s 0 0 (va_A ws0 sz)) 3 0 (wl_X8_type cA a x_stale x_finding text0_length text0_bytes text1_length text1_bytes land_flaw land_cells land_columns land_rows land_kinds land_rowAt land_columnAt land_ways land_beside houses_flaw houses_number houses_places houses_dues) [(0, .ref (a 0)), (1, .int x1), (2, .int x2)] [] := by
  intro H locs ls hP hD hS hl
  have hx := C.1
  have hb := C.2.1
  have hown := C.2.2.2.1
  have hts := C.2.2.2.2.1
  unfold f_X8_type at hf
  refine lv_iload_n (pc := 0) hx hb dX8_type_0 rfl (lv_at hl 1 rfl) ?_
  refine lv_iconst (pc := 1) (v := 1) hx hb dX8_type_1 ic_1 ?_
  obtain ⟨r1, hq, hf⟩ := bind1_some hf
  refine fin2_i (wl_X8_type cA a x_stale x_finding text0_length text0_bytes text1_length text1_bytes land_flaw land_cells land_columns land_rows land_kinds land_rowAt land_columnAt land_ways land_beside houses_flaw houses_number houses_places houses_dues) (run_S (rest := []) (pc := 2) (As := [.int x1, .int (1 : Int32)]) C mf_X8_90 (c_X8_isUpTo l D cA  x1 (1 : Int32) r1 hq H.size) rfl rfl ⟨(Nat.le_of_ble_eq_true rfl), (Nat.le_of_ble_eq_true rfl)⟩ (preS_of C hP hD [] rfl (pl_nd pv_19)) rfl hl.1 rfl (Nat.le_of_ble_eq_true rfl) dX8_type_2 ⟨Nat.zero_le _, Nat.zero_le _⟩) hP hD hS hA [] [0, 1, 2, 3, 4, 5, 6, 7, 8, 9, 10, 11, 12, 13, 14] rfl rfl rfl rfl pv_19 (fun H locs hP hS => ?_)
  refine lv_if_eq (pc := 5) (tgt := 18) hx hb dX8_type_5 (by decide) (fun hc => ?_) (fun hc => ?_)
  · have hf := (if_pos hc).symm.trans hf
    refine lv_bipush (pc := 18) (v := (-2)) hx hb dX8_type_18 bp_m2 ?_
    have hf := Option.some.inj hf
    subst hf
    exact ret_i C hr hlk hP hS dX8_type_20
  · have hf := (if_neg hc).symm.trans hf
    refine lv_iload_n (pc := 8) hx hb dX8_type_8 rfl (lv_at hl 2 rfl) ?_
    refine lv_sipush (pc := 9) (v := 255) hx hb dX8_type_9 sp_255 ?_
    obtain ⟨r2, hq, hf⟩ := bind1_some hf
    refine fin2_i (wl_X8_type cA a x_stale x_finding text0_length text0_bytes text1_length text1_bytes land_flaw land_cells land_columns land_rows land_kinds land_rowAt land_columnAt land_ways land_beside houses_flaw houses_number houses_places houses_dues) (run_S (rest := []) (pc := 12) (As := [.int x2, .int (255 : Int32)]) C mf_X8_90 (c_X8_isUpTo l D cA  x2 (255 : Int32) r2 hq H.size) rfl rfl ⟨(Nat.le_of_ble_eq_true rfl), (Nat.le_of_ble_eq_true rfl)⟩ (preS_of C hP hD [] rfl (pl_nd pv_19)) rfl hl.1 rfl (Nat.le_of_ble_eq_true rfl) dX8_type_12 ⟨Nat.zero_le _, Nat.zero_le _⟩) hP hD hS hA [] [0, 1, 2, 3, 4, 5, 6, 7, 8, 9, 10, 11, 12, 13, 14] rfl rfl rfl rfl pv_19 (fun H locs hP hS => ?_)
    refine lv_if_ne (pc := 15) (tgt := 21) hx hb dX8_type_15 (by decide) (fun hc => ?_) (fun hc => ?_)
    · have hf := (if_neg hc).symm.trans hf
      refine lv_aload_n (pc := 21) hx hb dX8_type_21 rfl (lv_at hl 0 rfl) ?_
      refine g_get (pc := 22) C fg_X8_11 hP 0 rfl rfl dX8_type_22 ?_
      refine lv_iload_n (pc := 25) hx hb dX8_type_25 rfl (lv_at hl 1 rfl) ?_
      by_cases h_0 : x1 = (0 : Int32)
      · have hf := (if_pos h_0).symm.trans hf
        refine g_aald (pc := 26) (b := (a 2)) C hP 1 rfl (t0 := 2) rfl (by rw [h_0]; decide) (by rw [h_0, tn_0]; rfl) dX8_type_26 ?_
        refine lv_iload_n (pc := 27) hx hb dX8_type_27 rfl (lv_at hl 2 rfl) ?_
        obtain ⟨r3, c4, c5, hq, hf⟩ := bind3_some hf
        refine fin2_i (wl_X8_type cA a x_stale x_finding c4 c5 text1_length text1_bytes land_flaw land_cells land_columns land_rows land_kinds land_rowAt land_columnAt land_ways land_beside houses_flaw houses_number houses_places houses_dues) (run_V (rest := []) (pc := 28) (As := [.int x2]) C mf_X8_94 (c_X6_append l D cA (a 2) (a 3) 41 text0_length text0_bytes x2 (r3, c4, c5) hq H.size) rfl rfl ⟨(Nat.le_of_ble_eq_true rfl), (Nat.le_of_ble_eq_true rfl)⟩ (preV_of C hP hD [2, 3] rfl (pl_nd pv_20) 0 rfl rfl rfl) rfl hl.1 rfl (Nat.le_of_ble_eq_true rfl) dX8_type_28 ⟨Nat.zero_le _, Nat.zero_le _⟩) hP hD hS hA [2, 3] [0, 1, 4, 5, 6, 7, 8, 9, 10, 11, 12, 13, 14] rfl rfl rfl rfl pv_20 (fun H locs hP hS => ?_)
        have hD : va_D (va_A ws0 sz) (wl_X8_type cA a x_stale x_finding c4 c5 text1_length text1_bytes land_flaw land_cells land_columns land_rows land_kinds land_rowAt land_columnAt land_ways land_beside houses_flaw houses_number houses_places houses_dues) := vd_a hD rfl
        refine lv_if_ne (pc := 31) (tgt := 37) hx hb dX8_type_31 (by decide) (fun hc => ?_) (fun hc => ?_)
        · have hf := (if_neg hc).symm.trans hf
          refine lv_aload_n (pc := 37) hx hb dX8_type_37 rfl (lv_at hl 0 rfl) ?_
          refine lv_iload_n (pc := 38) hx hb dX8_type_38 rfl (lv_at hl 1 rfl) ?_
          obtain ⟨c6, c7, c8, c9, c10, c11, c12, c13, c14, c15, c16, c17, c18, c19, hq, hf⟩ := bind14_some hf
          refine fin2_v (wl_X8_type cA a c6 x_finding c4 c5 text1_length text1_bytes c7 c8 c9 c10 c11 c12 c13 c14 c15 c16 c17 c18 c19) (run_V (rest := []) (pc := 39) (As := [.int x1]) C mf_X8_98 (c_X8_understand l D cA a x_stale x_finding c4 c5 text1_length text1_bytes land_flaw land_cells land_columns land_rows land_kinds land_rowAt land_columnAt land_ways land_beside houses_flaw houses_number houses_places houses_dues x1 (c6, c7, c8, c9, c10, c11, c12, c13, c14, c15, c16, c17, c18, c19) hq H.size) rfl rfl ⟨(Nat.le_of_ble_eq_true rfl), (Nat.le_of_ble_eq_true rfl)⟩ (preV_of C hP hD [0, 1, 2, 3, 4, 5, 6, 7, 8, 9, 10, 11, 12, 13, 14] rfl (pl_nd pv_21) 0 rfl rfl rfl) rfl hl.1 rfl (Nat.le_of_ble_eq_true rfl) dX8_type_39 ⟨Nat.zero_le _, Nat.zero_le _⟩) hP hD hS hA [0, 1, 2, 3, 4, 5, 6, 7, 8, 9, 10, 11, 12, 13, 14] [] rfl rfl rfl rfl pv_21 (fun H locs hP hS => ?_)
          have hD : va_D (va_A ws0 sz) (wl_X8_type cA a c6 x_finding c4 c5 text1_length text1_bytes c7 c8 c9 c10 c11 c12 c13 c14 c15 c16 c17 c18 c19) := vd_a hD rfl
          refine lv_aload_n (pc := 42) hx hb dX8_type_42 rfl (lv_at hl 0 rfl) ?_
          refine g_get (pc := 43) C fg_X8_11 hP 0 rfl rfl dX8_type_43 ?_
          refine lv_iload_n (pc := 46) hx hb dX8_type_46 rfl (lv_at hl 1 rfl) ?_
          by_cases h_0 : x1 = (0 : Int32)
          · have hf := (if_pos h_0).symm.trans hf
            refine g_aald (pc := 47) (b := (a 2)) C hP 1 rfl (t0 := 2) rfl (by rw [h_0]; decide) (by rw [h_0, tn_0]; rfl) dX8_type_47 ?_
            refine g_get (pc := 48) C fg_X8_101 hP 2 rfl rfl dX8_type_48 ?_
            have hf := Option.some.inj hf
            subst hf
            exact ret_i C hr hlk hP hS dX8_type_51
          have hf := (if_neg h_0).symm.trans hf
          by_cases h_1 : x1 = (1 : Int32)
          · have hf := (if_pos h_1).symm.trans hf
            refine g_aald (pc := 47) (b := (a 4)) C hP 1 rfl (t0 := 2) rfl (by rw [h_1]; decide) (by rw [h_1, tn_1]; rfl) dX8_type_47 ?_
            refine g_get (pc := 48) C fg_X8_101 hP 4 rfl rfl dX8_type_48 ?_
            have hf := Option.some.inj hf
            subst hf
            exact ret_i C hr hlk hP hS dX8_type_51
          have hf := (if_neg h_1).symm.trans hf
          cases hf
        · have hf := (if_pos hc).symm.trans hf
          refine lv_bipush (pc := 34) (v := (-4)) hx hb dX8_type_34 bp_m4 ?_
          have hf := Option.some.inj hf
          subst hf
          exact ret_i C hr hlk hP hS dX8_type_36
      have hf := (if_neg h_0).symm.trans hf
      by_cases h_1 : x1 = (1 : Int32)
      · have hf := (if_pos h_1).symm.trans hf
        refine g_aald (pc := 26) (b := (a 4)) C hP 1 rfl (t0 := 2) rfl (by rw [h_1]; decide) (by rw [h_1, tn_1]; rfl) dX8_type_26 ?_
        refine lv_iload_n (pc := 27) hx hb dX8_type_27 rfl (lv_at hl 2 rfl) ?_
        obtain ⟨r20, c21, c22, hq, hf⟩ := bind3_some hf
        refine fin2_i (wl_X8_type cA a x_stale x_finding text0_length text0_bytes c21 c22 land_flaw land_cells land_columns land_rows land_kinds land_rowAt land_columnAt land_ways land_beside houses_flaw houses_number houses_places houses_dues) (run_V (rest := []) (pc := 28) (As := [.int x2]) C mf_X8_94 (c_X6_append l D cA (a 4) (a 5) 31 text1_length text1_bytes x2 (r20, c21, c22) hq H.size) rfl rfl ⟨(Nat.le_of_ble_eq_true rfl), (Nat.le_of_ble_eq_true rfl)⟩ (preV_of C hP hD [4, 5] rfl (pl_nd pv_22) 0 rfl rfl rfl) rfl hl.1 rfl (Nat.le_of_ble_eq_true rfl) dX8_type_28 ⟨Nat.zero_le _, Nat.zero_le _⟩) hP hD hS hA [4, 5] [0, 1, 2, 3, 6, 7, 8, 9, 10, 11, 12, 13, 14] rfl rfl rfl rfl pv_22 (fun H locs hP hS => ?_)
        have hD : va_D (va_A ws0 sz) (wl_X8_type cA a x_stale x_finding text0_length text0_bytes c21 c22 land_flaw land_cells land_columns land_rows land_kinds land_rowAt land_columnAt land_ways land_beside houses_flaw houses_number houses_places houses_dues) := vd_a hD rfl
        refine lv_if_ne (pc := 31) (tgt := 37) hx hb dX8_type_31 (by decide) (fun hc => ?_) (fun hc => ?_)
        · have hf := (if_neg hc).symm.trans hf
          refine lv_aload_n (pc := 37) hx hb dX8_type_37 rfl (lv_at hl 0 rfl) ?_
          refine lv_iload_n (pc := 38) hx hb dX8_type_38 rfl (lv_at hl 1 rfl) ?_
          obtain ⟨c23, c24, c25, c26, c27, c28, c29, c30, c31, c32, c33, c34, c35, c36, hq, hf⟩ := bind14_some hf
          refine fin2_v (wl_X8_type cA a c23 x_finding text0_length text0_bytes c21 c22 c24 c25 c26 c27 c28 c29 c30 c31 c32 c33 c34 c35 c36) (run_V (rest := []) (pc := 39) (As := [.int x1]) C mf_X8_98 (c_X8_understand l D cA a x_stale x_finding text0_length text0_bytes c21 c22 land_flaw land_cells land_columns land_rows land_kinds land_rowAt land_columnAt land_ways land_beside houses_flaw houses_number houses_places houses_dues x1 (c23, c24, c25, c26, c27, c28, c29, c30, c31, c32, c33, c34, c35, c36) hq H.size) rfl rfl ⟨(Nat.le_of_ble_eq_true rfl), (Nat.le_of_ble_eq_true rfl)⟩ (preV_of C hP hD [0, 1, 2, 3, 4, 5, 6, 7, 8, 9, 10, 11, 12, 13, 14] rfl (pl_nd pv_21) 0 rfl rfl rfl) rfl hl.1 rfl (Nat.le_of_ble_eq_true rfl) dX8_type_39 ⟨Nat.zero_le _, Nat.zero_le _⟩) hP hD hS hA [0, 1, 2, 3, 4, 5, 6, 7, 8, 9, 10, 11, 12, 13, 14] [] rfl rfl rfl rfl pv_21 (fun H locs hP hS => ?_)
          have hD : va_D (va_A ws0 sz) (wl_X8_type cA a c23 x_finding text0_length text0_bytes c21 c22 c24 c25 c26 c27 c28 c29 c30 c31 c32 c33 c34 c35 c36) := vd_a hD rfl
          refine lv_aload_n (pc := 42) hx hb dX8_type_42 rfl (lv_at hl 0 rfl) ?_
          refine g_get (pc := 43) C fg_X8_11 hP 0 rfl rfl dX8_type_43 ?_
          refine lv_iload_n (pc := 46) hx hb dX8_type_46 rfl (lv_at hl 1 rfl) ?_
          by_cases h_0 : x1 = (0 : Int32)
          · have hf := (if_pos h_0).symm.trans hf
            refine g_aald (pc := 47) (b := (a 2)) C hP 1 rfl (t0 := 2) rfl (by rw [h_0]; decide) (by rw [h_0, tn_0]; rfl) dX8_type_47 ?_
            refine g_get (pc := 48) C fg_X8_101 hP 2 rfl rfl dX8_type_48 ?_
            have hf := Option.some.inj hf
            subst hf
            exact ret_i C hr hlk hP hS dX8_type_51
          have hf := (if_neg h_0).symm.trans hf
          by_cases h_1 : x1 = (1 : Int32)
          · have hf := (if_pos h_1).symm.trans hf
            refine g_aald (pc := 47) (b := (a 4)) C hP 1 rfl (t0 := 2) rfl (by rw [h_1]; decide) (by rw [h_1, tn_1]; rfl) dX8_type_47 ?_
            refine g_get (pc := 48) C fg_X8_101 hP 4 rfl rfl dX8_type_48 ?_
            have hf := Option.some.inj hf
            subst hf
            exact ret_i C hr hlk hP hS dX8_type_51
          have hf := (if_neg h_1).symm.trans hf
          cases hf
        · have hf := (if_pos hc).symm.trans hf
          refine lv_bipush (pc := 34) (v := (-4)) hx hb dX8_type_34 bp_m4 ?_
          have hf := Option.some.inj hf
          subst hf
          exact ret_i C hr hlk hP hS dX8_type_36
      have hf := (if_neg h_1).symm.trans hf
      cases hf
    · have hf := (if_pos hc).symm.trans hf
      refine lv_bipush (pc := 18) (v := (-2)) hx hb dX8_type_18 bp_m2 ?_
      have hf := Option.some.inj hf
      subst hf
      exact ret_i C hr hlk hP hS dX8_type_20
set_option maxRecDepth 100000 in
theorem c_X8_type (l : Launch) (D : va_G) (cA : Nat → ClassId) (a : Nat → Nat) (x_stale : Int32) (x_finding : Int32) (text0_length : Int32) (text0_bytes : Nat → Int32) (text1_length : Int32) (text1_bytes : Nat → Int32) (land_flaw : Int32) (land_cells : Int32) (land_columns : Int32) (land_rows : Int32) (land_kinds : Nat → Int32) (land_rowAt : Nat → Int32) (land_columnAt : Nat → Int32) (land_ways : Nat → Int32) (land_beside : Nat → Int32) (houses_flaw : Int32) (houses_number : Int32) (houses_places : Nat → Int32) (houses_dues : Nat → Int32) (x1 : Int32) (x2 : Int32) (r : Int32 × Int32 × Int32 × (Nat → Int32) × Int32 × (Nat → Int32) × Int32 × Int32 × Int32 × Int32 × (Nat → Int32) × (Nat → Int32) × (Nat → Int32) × (Nat → Int32) × (Nat → Int32) × Int32 × Int32 × (Nat → Int32) × (Nat → Int32)) (hf : f_X8_type x_stale text0_length text0_bytes text1_length text1_bytes land_flaw land_cells land_columns land_rows land_kinds land_rowAt land_columnAt land_ways land_beside houses_flaw houses_number houses_places houses_dues x1 x2 = some r) (sz : Nat) : Met l yX8_type (Cond.code yX8_type cX8_type 3 (some .int) :: lw_good) rm_X8_type (PreX D cA [.ref (a 0), .int x1, .int x2] sz (wl_X8_type cA a x_stale x_finding text0_length text0_bytes text1_length text1_bytes land_flaw land_cells land_columns land_rows land_kinds land_rowAt land_columnAt land_ways land_beside houses_flaw houses_number houses_places houses_dues)) (PostI D r.1 (wl_X8_type cA a x_stale x_finding text0_length text0_bytes text1_length text1_bytes land_flaw land_cells land_columns land_rows land_kinds land_rowAt land_columnAt land_ways land_beside houses_flaw houses_number houses_places houses_dues) (wl_X8_type cA a (r.2.1) x_finding (r.2.2.1) (r.2.2.2.1) (r.2.2.2.2.1) (r.2.2.2.2.2.1) (r.2.2.2.2.2.2.1) (r.2.2.2.2.2.2.2.1) (r.2.2.2.2.2.2.2.2.1) (r.2.2.2.2.2.2.2.2.2.1) (r.2.2.2.2.2.2.2.2.2.2.1) (r.2.2.2.2.2.2.2.2.2.2.2.1) (r.2.2.2.2.2.2.2.2.2.2.2.2.1) (r.2.2.2.2.2.2.2.2.2.2.2.2.2.1) (r.2.2.2.2.2.2.2.2.2.2.2.2.2.2.1) (r.2.2.2.2.2.2.2.2.2.2.2.2.2.2.2.1) (r.2.2.2.2.2.2.2.2.2.2.2.2.2.2.2.2.1) (r.2.2.2.2.2.2.2.2.2.2.2.2.2.2.2.2.2.1) (r.2.2.2.2.2.2.2.2.2.2.2.2.2.2.2.2.2.2)) sz) 0 0 (va_A (wl_X8_type cA a x_stale x_finding text0_length text0_bytes text1_length text1_bytes land_flaw land_cells land_columns land_rows land_kinds land_rowAt land_columnAt land_ways land_beside houses_flaw houses_number houses_places houses_dues) sz) :=
  met_of (by decide) (Nat.le_of_ble_eq_true rfl) (fun p e s m args below meth c C hr hlk hA => k_X8_type C hr hlk hA a x_stale x_finding text0_length text0_bytes text1_length text1_bytes land_flaw land_cells land_columns land_rows land_kinds land_rowAt land_columnAt land_ways land_beside houses_flaw houses_number houses_places houses_dues x1 x2 r hf)
end

abbrev wl_X8_wipe (cA : Nat → ClassId) (a : Nat → Nat) (x_stale : Int32) (x_finding : Int32) (text0_length : Int32) (text0_bytes : Nat → Int32) (text1_length : Int32) (text1_bytes : Nat → Int32) (land_flaw : Int32) (land_cells : Int32) (land_columns : Int32) (land_rows : Int32) (land_kinds : Nat → Int32) (land_rowAt : Nat → Int32) (land_columnAt : Nat → Int32) (land_ways : Nat → Int32) (land_beside : Nat → Int32) (houses_flaw : Int32) (houses_number : Int32) (houses_places : Nat → Int32) (houses_dues : Nat → Int32) : va_W := [((a 0), .inr (8, [.ref (a 1), .ref (a 6), .ref (a 12), .ref (a 15), .ref (a 19), .ref (a 23), .ref (a 27), .ref (a 34), .ref (a 41), .ref (a 42), .ref (a 44), .ref (a 45), .int x_stale, .int x_finding])), ((a 1), .inl (cA 2, 2, .inr (.inr (.inr (.inr (fun k : Nat => if k = 0 then some (a 2) else some (a 4))))))), ((a 2), .inr (6, [.ref (a 3), .int text0_length])), ((a 3), .inl (cA 0, 41, .inl text0_bytes)), ((a 4), .inr (6, [.ref (a 5), .int text1_length])), ((a 5), .inl (cA 0, 31, .inl text1_bytes)), ((a 6), .inr (3, [.ref (a 7), .ref (a 8), .ref (a 9), .ref (a 10), .ref (a 11), .int land_flaw, .int land_cells, .int land_columns, .int land_rows])), ((a 7), .inl (cA 0, 36, .inl land_kinds)), ((a 8), .inl (cA 0, 36, .inl land_rowAt)), ((a 9), .inl (cA 0, 36, .inl land_columnAt)), ((a 10), .inl (cA 0, 36, .inl land_ways)), ((a 11), .inl (cA 0, 144, .inl land_beside)), ((a 12), .inr (1, [.ref (a 13), .ref (a 14), .int houses_flaw, .int houses_number])), ((a 13), .inl (cA 0, 8, .inl houses_places)), ((a 14), .inl (cA 0, 8, .inl houses_dues))]
abbrev rm_X8_wipe : Room := { frames := 4, cells := 0, slots := 0, locals := 90 }
section
variable {p : Program} {l : Launch} {e : Env} {s : State} {m : MethodId} {args : Array Value} {below : List Frame} {meth : Method} {c : Code} {D : va_G} {cA : Nat → ClassId} {ws0 : va_W} {sz : Nat} {A : Nat → Prop} {Q : State → Prop}
def f_X8_wipe (x_stale : Int32) (text0_length : Int32) (text0_bytes : Nat → Int32) (text1_length : Int32) (text1_bytes : Nat → Int32) (land_flaw : Int32) (land_cells : Int32) (land_columns : Int32) (land_rows : Int32) (land_kinds : Nat → Int32) (land_rowAt : Nat → Int32) (land_columnAt : Nat → Int32) (land_ways : Nat → Int32) (land_beside : Nat → Int32) (houses_flaw : Int32) (houses_number : Int32) (houses_places : Nat → Int32) (houses_dues : Nat → Int32) (x1 : Int32) : Option (Int32 × Int32 × Int32 × Int32 × Int32 × Int32 × Int32 × Int32 × (Nat → Int32) × (Nat → Int32) × (Nat → Int32) × (Nat → Int32) × (Nat → Int32) × Int32 × Int32 × (Nat → Int32) × (Nat → Int32)) :=
  bind1 (f_X8_isUpTo x1 (1 : Int32)) (fun r1 => if r1 = 0 then (some ((-2 : Int32), x_stale, text0_length, text1_length, land_flaw, land_cells, land_columns, land_rows, land_kinds, land_rowAt, land_columnAt, land_ways, land_beside, houses_flaw, houses_number, houses_places, houses_dues)) else (if x1 = (0 : Int32) then (if x1 = (0 : Int32) then (bind14 (f_X8_understand x_stale (0 : Int32) text0_bytes text1_length text1_bytes land_flaw land_cells land_columns land_rows land_kinds land_rowAt land_columnAt land_ways land_beside houses_flaw houses_number houses_places houses_dues x1) (fun c2 c3 c4 c5 c6 c7 c8 c9 c10 c11 c12 c13 c14 c15 => some (text0_length, c2, (0 : Int32), text1_length, c3, c4, c5, c6, c7, c8, c9, c10, c11, c12, c13, c14, c15))) else (if x1 = (1 : Int32) then (bind14 (f_X8_understand x_stale text0_length text0_bytes (0 : Int32) text1_bytes land_flaw land_cells land_columns land_rows land_kinds land_rowAt land_columnAt land_ways land_beside houses_flaw houses_number houses_places houses_dues x1) (fun c16 c17 c18 c19 c20 c21 c22 c23 c24 c25 c26 c27 c28 c29 => some (text0_length, c16, text0_length, (0 : Int32), c17, c18, c19, c20, c21, c22, c23, c24, c25, c26, c27, c28, c29))) else (none))) else (if x1 = (1 : Int32) then (if x1 = (0 : Int32) then (bind14 (f_X8_understand x_stale (0 : Int32) text0_bytes text1_length text1_bytes land_flaw land_cells land_columns land_rows land_kinds land_rowAt land_columnAt land_ways land_beside houses_flaw houses_number houses_places houses_dues x1) (fun c30 c31 c32 c33 c34 c35 c36 c37 c38 c39 c40 c41 c42 c43 => some (text1_length, c30, (0 : Int32), text1_length, c31, c32, c33, c34, c35, c36, c37, c38, c39, c40, c41, c42, c43))) else (if x1 = (1 : Int32) then (bind14 (f_X8_understand x_stale text0_length text0_bytes (0 : Int32) text1_bytes land_flaw land_cells land_columns land_rows land_kinds land_rowAt land_columnAt land_ways land_beside houses_flaw houses_number houses_places houses_dues x1) (fun c44 c45 c46 c47 c48 c49 c50 c51 c52 c53 c54 c55 c56 c57 => some (text1_length, c44, text0_length, (0 : Int32), c45, c46, c47, c48, c49, c50, c51, c52, c53, c54, c55, c56, c57))) else (none))) else (none))))
set_option maxHeartbeats 4000000 in
set_option maxRecDepth 100000 in
theorem k_X8_wipe (C : Cx RX8 cX8_wipe 3 D cA p s m args c) (hr : meth.sig.returnType = (some .int)) (hlk : meth.locks = false) (hA : ∀ q, s.heap.size ≤ q → va_A ws0 sz q) (a : Nat → Nat) (x_stale : Int32) (x_finding : Int32) (text0_length : Int32) (text0_bytes : Nat → Int32) (text1_length : Int32) (text1_bytes : Nat → Int32) (land_flaw : Int32) (land_cells : Int32) (land_columns : Int32) (land_rows : Int32) (land_kinds : Nat → Int32) (land_rowAt : Nat → Int32) (land_columnAt : Nat → Int32) (land_ways : Nat → Int32) (land_beside : Nat → Int32) (houses_flaw : Int32) (houses_number : Int32) (houses_places : Nat → Int32) (houses_dues : Nat → Int32) (x1 : Int32) (r : Int32 × Int32 × Int32 × Int32 × Int32 × Int32 × Int32 × Int32 × (Nat → Int32) × (Nat → Int32) × (Nat → Int32) × (Nat → Int32) × (Nat → Int32) × Int32 × Int32 × (Nat → Int32) × (Nat → Int32)) (hf : f_X8_wipe x_stale text0_length text0_bytes text1_length text1_bytes land_flaw land_cells land_columns land_rows land_kinds land_rowAt land_columnAt land_ways land_beside houses_flaw houses_number houses_places houses_dues x1 = some r) : At p l e rm_X8_wipe s m args below meth c D (va_A ws0 sz) 0 0 (MQ below (PostI D r.1 ws0 (wl_X8_wipe cA a (r.2.1) x_finding (r.2.2.1) text0_bytes (r.2.2.2.1) text1_bytes (r.2.2.2.2.1) (r.2.2.2.2.2.1) (r.2.2.2.2.2.2.1) (r.2.2.2.2.2.2.2.1) (r.2.2.2.2.2.2.2.2.1) (r.2.2.2.2.2.2.2.2.2.1) (r.2.2.2.2.2.2.2.2.2.2.1) (r.2.2.2.2.2.2.2.2.2.2.2.1) (r.2.2.2.2.2.2.2.2.2.2.2.2.1) (r.2.2.2.2.2.2.2.2.2.2.2.2.2.1) (r.2.2.2.2.2.2.2.2.2.2.2.2.2.2.1) (r.2.2.2.2.2.2.2.2.2.2.2.2.2.2.2.1) (r.2.2.2.2.2.2.2.2.2.2.2.2.2.2.2.2)) sz) args s 0 0 (va_A ws0 sz)) 3 0 (wl_X8_wipe cA a x_stale x_finding text0_length text0_bytes text1_length text1_bytes land_flaw land_cells land_columns land_rows land_kinds land_rowAt land_columnAt land_ways land_beside houses_flaw houses_number houses_places houses_dues) [(0, .ref (a 0)), (1, .int x1)] [] := by
  intro H locs ls hP hD hS hl
  have hx := C.1
  have hb := C.2.1
  have hown := C.2.2.2.1
  have hts := C.2.2.2.2.1
  unfold f_X8_wipe at hf
  refine lv_iload_n (pc := 0) hx hb dX8_wipe_0 rfl (lv_at hl 1 rfl) ?_
  refine lv_iconst (pc := 1) (v := 1) hx hb dX8_wipe_1 ic_1 ?_
  obtain ⟨r1, hq, hf⟩ := bind1_some hf
  refine fin2_i (wl_X8_wipe cA a x_stale x_finding text0_length text0_bytes text1_length text1_bytes land_flaw land_cells land_columns land_rows land_kinds land_rowAt land_columnAt land_ways land_beside houses_flaw houses_number houses_places houses_dues) (run_S (rest := []) (pc := 2) (As := [.int x1, .int (1 : Int32)]) C mf_X8_90 (c_X8_isUpTo l D cA  x1 (1 : Int32) r1 hq H.size) rfl rfl ⟨(Nat.le_of_ble_eq_true rfl), (Nat.le_of_ble_eq_true rfl)⟩ (preS_of C hP hD [] rfl (pl_nd pv_19)) rfl hl.1 rfl (Nat.le_of_ble_eq_true rfl) dX8_wipe_2 ⟨Nat.zero_le _, Nat.zero_le _⟩) hP hD hS hA [] [0, 1, 2, 3, 4, 5, 6, 7, 8, 9, 10, 11, 12, 13, 14] rfl rfl rfl rfl pv_19 (fun H locs hP hS => ?_)
  refine lv_if_ne (pc := 5) (tgt := 11) hx hb dX8_wipe_5 (by decide) (fun hc => ?_) (fun hc => ?_)
  · have hf := (if_neg hc).symm.trans hf
    refine lv_aload_n (pc := 11) hx hb dX8_wipe_11 rfl (lv_at hl 0 rfl) ?_
    refine g_get (pc := 12) C fg_X8_11 hP 0 rfl rfl dX8_wipe_12 ?_
    refine lv_iload_n (pc := 15) hx hb dX8_wipe_15 rfl (lv_at hl 1 rfl) ?_
    by_cases h_0 : x1 = (0 : Int32)
    · have hf := (if_pos h_0).symm.trans hf
      refine g_aald (pc := 16) (b := (a 2)) C hP 1 rfl (t0 := 2) rfl (by rw [h_0]; decide) (by rw [h_0, tn_0]; rfl) dX8_wipe_16 ?_
      refine g_get (pc := 17) C fg_X8_101 hP 2 rfl rfl dX8_wipe_17 ?_
      refine lv_istore_n (pc := 20) (lv' := [(2, .int text0_length), (0, .ref (a 0)), (1, .int x1)]) hx hb dX8_wipe_20 rfl hl (Nat.le_of_ble_eq_true rfl) rfl (fun ls hl => ?_)
      refine lv_aload_n (pc := 21) hx hb dX8_wipe_21 rfl (lv_at hl 1 rfl) ?_
      refine g_get (pc := 22) C fg_X8_11 hP 0 rfl rfl dX8_wipe_22 ?_
      refine lv_iload_n (pc := 25) hx hb dX8_wipe_25 rfl (lv_at hl 2 rfl) ?_
      by_cases h_0 : x1 = (0 : Int32)
      · have hf := (if_pos h_0).symm.trans hf
        refine g_aald (pc := 26) (b := (a 2)) C hP 1 rfl (t0 := 2) rfl (by rw [h_0]; decide) (by rw [h_0, tn_0]; rfl) dX8_wipe_26 ?_
        refine lv_iconst (pc := 27) (v := 0) hx hb dX8_wipe_27 ic_0 ?_
        refine g_put (pc := 28) C fg_X8_101 ft_X6_1 hP hD hS 2 rfl rfl rfl (Nat.le_of_ble_eq_true rfl) dX8_wipe_28 (fun H locs hP hD hS => ?_)
        have hP : va_P D classes (wl_X8_wipe cA a x_stale x_finding (0 : Int32) text0_bytes text1_length text1_bytes land_flaw land_cells land_columns land_rows land_kinds land_rowAt land_columnAt land_ways land_beside houses_flaw houses_number houses_places houses_dues) H := hP
        have hD : va_D (va_A ws0 sz) (wl_X8_wipe cA a x_stale x_finding (0 : Int32) text0_bytes text1_length text1_bytes land_flaw land_cells land_columns land_rows land_kinds land_rowAt land_columnAt land_ways land_beside houses_flaw houses_number houses_places houses_dues) := hD
        refine lv_aload_n (pc := 31) hx hb dX8_wipe_31 rfl (lv_at hl 1 rfl) ?_
        refine lv_iload_n (pc := 32) hx hb dX8_wipe_32 rfl (lv_at hl 2 rfl) ?_
        obtain ⟨c2, c3, c4, c5, c6, c7, c8, c9, c10, c11, c12, c13, c14, c15, hq, hf⟩ := bind14_some hf
        refine fin2_v (wl_X8_wipe cA a c2 x_finding (0 : Int32) text0_bytes text1_length text1_bytes c3 c4 c5 c6 c7 c8 c9 c10 c11 c12 c13 c14 c15) (run_V (rest := []) (pc := 33) (As := [.int x1]) C mf_X8_98 (c_X8_understand l D cA a x_stale x_finding (0 : Int32) text0_bytes text1_length text1_bytes land_flaw land_cells land_columns land_rows land_kinds land_rowAt land_columnAt land_ways land_beside houses_flaw houses_number houses_places houses_dues x1 (c2, c3, c4, c5, c6, c7, c8, c9, c10, c11, c12, c13, c14, c15) hq H.size) rfl rfl ⟨(Nat.le_of_ble_eq_true rfl), (Nat.le_of_ble_eq_true rfl)⟩ (preV_of C hP hD [0, 1, 2, 3, 4, 5, 6, 7, 8, 9, 10, 11, 12, 13, 14] rfl (pl_nd pv_21) 0 rfl rfl rfl) rfl hl.1 rfl (Nat.le_of_ble_eq_true rfl) dX8_wipe_33 ⟨Nat.zero_le _, Nat.zero_le _⟩) hP hD hS hA [0, 1, 2, 3, 4, 5, 6, 7, 8, 9, 10, 11, 12, 13, 14] [] rfl rfl rfl rfl pv_21 (fun H locs hP hS => ?_)
        have hD : va_D (va_A ws0 sz) (wl_X8_wipe cA a c2 x_finding (0 : Int32) text0_bytes text1_length text1_bytes c3 c4 c5 c6 c7 c8 c9 c10 c11 c12 c13 c14 c15) := vd_a hD rfl
        refine lv_iload_n (pc := 36) hx hb dX8_wipe_36 rfl (lv_at hl 0 rfl) ?_
        have hf := Option.some.inj hf
        subst hf
        exact ret_i C hr hlk hP hS dX8_wipe_37
      have hf := (if_neg h_0).symm.trans hf
      by_cases h_1 : x1 = (1 : Int32)
      · have hf := (if_pos h_1).symm.trans hf
        refine g_aald (pc := 26) (b := (a 4)) C hP 1 rfl (t0 := 2) rfl (by rw [h_1]; decide) (by rw [h_1, tn_1]; rfl) dX8_wipe_26 ?_
        refine lv_iconst (pc := 27) (v := 0) hx hb dX8_wipe_27 ic_0 ?_
        refine g_put (pc := 28) C fg_X8_101 ft_X6_1 hP hD hS 4 rfl rfl rfl (Nat.le_of_ble_eq_true rfl) dX8_wipe_28 (fun H locs hP hD hS => ?_)
        have hP : va_P D classes (wl_X8_wipe cA a x_stale x_finding text0_length text0_bytes (0 : Int32) text1_bytes land_flaw land_cells land_columns land_rows land_kinds land_rowAt land_columnAt land_ways land_beside houses_flaw houses_number houses_places houses_dues) H := hP
        have hD : va_D (va_A ws0 sz) (wl_X8_wipe cA a x_stale x_finding text0_length text0_bytes (0 : Int32) text1_bytes land_flaw land_cells land_columns land_rows land_kinds land_rowAt land_columnAt land_ways land_beside houses_flaw houses_number houses_places houses_dues) := hD
        refine lv_aload_n (pc := 31) hx hb dX8_wipe_31 rfl (lv_at hl 1 rfl) ?_
        refine lv_iload_n (pc := 32) hx hb dX8_wipe_32 rfl (lv_at hl 2 rfl) ?_
        obtain ⟨c16, c17, c18, c19, c20, c21, c22, c23, c24, c25, c26, c27, c28, c29, hq, hf⟩ := bind14_some hf
        refine fin2_v (wl_X8_wipe cA a c16 x_finding text0_length text0_bytes (0 : Int32) text1_bytes c17 c18 c19 c20 c21 c22 c23 c24 c25 c26 c27 c28 c29) (run_V (rest := []) (pc := 33) (As := [.int x1]) C mf_X8_98 (c_X8_understand l D cA a x_stale x_finding text0_length text0_bytes (0 : Int32) text1_bytes land_flaw land_cells land_columns land_rows land_kinds land_rowAt land_columnAt land_ways land_beside houses_flaw houses_number houses_places houses_dues x1 (c16, c17, c18, c19, c20, c21, c22, c23, c24, c25, c26, c27, c28, c29) hq H.size) rfl rfl ⟨(Nat.le_of_ble_eq_true rfl), (Nat.le_of_ble_eq_true rfl)⟩ (preV_of C hP hD [0, 1, 2, 3, 4, 5, 6, 7, 8, 9, 10, 11, 12, 13, 14] rfl (pl_nd pv_21) 0 rfl rfl rfl) rfl hl.1 rfl (Nat.le_of_ble_eq_true rfl) dX8_wipe_33 ⟨Nat.zero_le _, Nat.zero_le _⟩) hP hD hS hA [0, 1, 2, 3, 4, 5, 6, 7, 8, 9, 10, 11, 12, 13, 14] [] rfl rfl rfl rfl pv_21 (fun H locs hP hS => ?_)
        have hD : va_D (va_A ws0 sz) (wl_X8_wipe cA a c16 x_finding text0_length text0_bytes (0 : Int32) text1_bytes c17 c18 c19 c20 c21 c22 c23 c24 c25 c26 c27 c28 c29) := vd_a hD rfl
        refine lv_iload_n (pc := 36) hx hb dX8_wipe_36 rfl (lv_at hl 0 rfl) ?_
        have hf := Option.some.inj hf
        subst hf
        exact ret_i C hr hlk hP hS dX8_wipe_37
      have hf := (if_neg h_1).symm.trans hf
      cases hf
    have hf := (if_neg h_0).symm.trans hf
    by_cases h_1 : x1 = (1 : Int32)
    · have hf := (if_pos h_1).symm.trans hf
      refine g_aald (pc := 16) (b := (a 4)) C hP 1 rfl (t0 := 2) rfl (by rw [h_1]; decide) (by rw [h_1, tn_1]; rfl) dX8_wipe_16 ?_
      refine g_get (pc := 17) C fg_X8_101 hP 4 rfl rfl dX8_wipe_17 ?_
      refine lv_istore_n (pc := 20) (lv' := [(2, .int text1_length), (0, .ref (a 0)), (1, .int x1)]) hx hb dX8_wipe_20 rfl hl (Nat.le_of_ble_eq_true rfl) rfl (fun ls hl => ?_)
      refine lv_aload_n (pc := 21) hx hb dX8_wipe_21 rfl (lv_at hl 1 rfl) ?_
      refine g_get (pc := 22) C fg_X8_11 hP 0 rfl rfl dX8_wipe_22 ?_
      refine lv_iload_n (pc := 25) hx hb dX8_wipe_25 rfl (lv_at hl 2 rfl) ?_
      by_cases h_0 : x1 = (0 : Int32)
      · have hf := (if_pos h_0).symm.trans hf
        refine g_aald (pc := 26) (b := (a 2)) C hP 1 rfl (t0 := 2) rfl (by rw [h_0]; decide) (by rw [h_0, tn_0]; rfl) dX8_wipe_26 ?_
        refine lv_iconst (pc := 27) (v := 0) hx hb dX8_wipe_27 ic_0 ?_
        refine g_put (pc := 28) C fg_X8_101 ft_X6_1 hP hD hS 2 rfl rfl rfl (Nat.le_of_ble_eq_true rfl) dX8_wipe_28 (fun H locs hP hD hS => ?_)
        have hP : va_P D classes (wl_X8_wipe cA a x_stale x_finding (0 : Int32) text0_bytes text1_length text1_bytes land_flaw land_cells land_columns land_rows land_kinds land_rowAt land_columnAt land_ways land_beside houses_flaw houses_number houses_places houses_dues) H := hP
        have hD : va_D (va_A ws0 sz) (wl_X8_wipe cA a x_stale x_finding (0 : Int32) text0_bytes text1_length text1_bytes land_flaw land_cells land_columns land_rows land_kinds land_rowAt land_columnAt land_ways land_beside houses_flaw houses_number houses_places houses_dues) := hD
        refine lv_aload_n (pc := 31) hx hb dX8_wipe_31 rfl (lv_at hl 1 rfl) ?_
        refine lv_iload_n (pc := 32) hx hb dX8_wipe_32 rfl (lv_at hl 2 rfl) ?_
        obtain ⟨c30, c31, c32, c33, c34, c35, c36, c37, c38, c39, c40, c41, c42, c43, hq, hf⟩ := bind14_some hf
        refine fin2_v (wl_X8_wipe cA a c30 x_finding (0 : Int32) text0_bytes text1_length text1_bytes c31 c32 c33 c34 c35 c36 c37 c38 c39 c40 c41 c42 c43) (run_V (rest := []) (pc := 33) (As := [.int x1]) C mf_X8_98 (c_X8_understand l D cA a x_stale x_finding (0 : Int32) text0_bytes text1_length text1_bytes land_flaw land_cells land_columns land_rows land_kinds land_rowAt land_columnAt land_ways land_beside houses_flaw houses_number houses_places houses_dues x1 (c30, c31, c32, c33, c34, c35, c36, c37, c38, c39, c40, c41, c42, c43) hq H.size) rfl rfl ⟨(Nat.le_of_ble_eq_true rfl), (Nat.le_of_ble_eq_true rfl)⟩ (preV_of C hP hD [0, 1, 2, 3, 4, 5, 6, 7, 8, 9, 10, 11, 12, 13, 14] rfl (pl_nd pv_21) 0 rfl rfl rfl) rfl hl.1 rfl (Nat.le_of_ble_eq_true rfl) dX8_wipe_33 ⟨Nat.zero_le _, Nat.zero_le _⟩) hP hD hS hA [0, 1, 2, 3, 4, 5, 6, 7, 8, 9, 10, 11, 12, 13, 14] [] rfl rfl rfl rfl pv_21 (fun H locs hP hS => ?_)
        have hD : va_D (va_A ws0 sz) (wl_X8_wipe cA a c30 x_finding (0 : Int32) text0_bytes text1_length text1_bytes c31 c32 c33 c34 c35 c36 c37 c38 c39 c40 c41 c42 c43) := vd_a hD rfl
        refine lv_iload_n (pc := 36) hx hb dX8_wipe_36 rfl (lv_at hl 0 rfl) ?_
        have hf := Option.some.inj hf
        subst hf
        exact ret_i C hr hlk hP hS dX8_wipe_37
      have hf := (if_neg h_0).symm.trans hf
      by_cases h_1 : x1 = (1 : Int32)
      · have hf := (if_pos h_1).symm.trans hf
        refine g_aald (pc := 26) (b := (a 4)) C hP 1 rfl (t0 := 2) rfl (by rw [h_1]; decide) (by rw [h_1, tn_1]; rfl) dX8_wipe_26 ?_
        refine lv_iconst (pc := 27) (v := 0) hx hb dX8_wipe_27 ic_0 ?_
        refine g_put (pc := 28) C fg_X8_101 ft_X6_1 hP hD hS 4 rfl rfl rfl (Nat.le_of_ble_eq_true rfl) dX8_wipe_28 (fun H locs hP hD hS => ?_)
        have hP : va_P D classes (wl_X8_wipe cA a x_stale x_finding text0_length text0_bytes (0 : Int32) text1_bytes land_flaw land_cells land_columns land_rows land_kinds land_rowAt land_columnAt land_ways land_beside houses_flaw houses_number houses_places houses_dues) H := hP
        have hD : va_D (va_A ws0 sz) (wl_X8_wipe cA a x_stale x_finding text0_length text0_bytes (0 : Int32) text1_bytes land_flaw land_cells land_columns land_rows land_kinds land_rowAt land_columnAt land_ways land_beside houses_flaw houses_number houses_places houses_dues) := hD
        refine lv_aload_n (pc := 31) hx hb dX8_wipe_31 rfl (lv_at hl 1 rfl) ?_
        refine lv_iload_n (pc := 32) hx hb dX8_wipe_32 rfl (lv_at hl 2 rfl) ?_
        obtain ⟨c44, c45, c46, c47, c48, c49, c50, c51, c52, c53, c54, c55, c56, c57, hq, hf⟩ := bind14_some hf
        refine fin2_v (wl_X8_wipe cA a c44 x_finding text0_length text0_bytes (0 : Int32) text1_bytes c45 c46 c47 c48 c49 c50 c51 c52 c53 c54 c55 c56 c57) (run_V (rest := []) (pc := 33) (As := [.int x1]) C mf_X8_98 (c_X8_understand l D cA a x_stale x_finding text0_length text0_bytes (0 : Int32) text1_bytes land_flaw land_cells land_columns land_rows land_kinds land_rowAt land_columnAt land_ways land_beside houses_flaw houses_number houses_places houses_dues x1 (c44, c45, c46, c47, c48, c49, c50, c51, c52, c53, c54, c55, c56, c57) hq H.size) rfl rfl ⟨(Nat.le_of_ble_eq_true rfl), (Nat.le_of_ble_eq_true rfl)⟩ (preV_of C hP hD [0, 1, 2, 3, 4, 5, 6, 7, 8, 9, 10, 11, 12, 13, 14] rfl (pl_nd pv_21) 0 rfl rfl rfl) rfl hl.1 rfl (Nat.le_of_ble_eq_true rfl) dX8_wipe_33 ⟨Nat.zero_le _, Nat.zero_le _⟩) hP hD hS hA [0, 1, 2, 3, 4, 5, 6, 7, 8, 9, 10, 11, 12, 13, 14] [] rfl rfl rfl rfl pv_21 (fun H locs hP hS => ?_)
        have hD : va_D (va_A ws0 sz) (wl_X8_wipe cA a c44 x_finding text0_length text0_bytes (0 : Int32) text1_bytes c45 c46 c47 c48 c49 c50 c51 c52 c53 c54 c55 c56 c57) := vd_a hD rfl
        refine lv_iload_n (pc := 36) hx hb dX8_wipe_36 rfl (lv_at hl 0 rfl) ?_
        have hf := Option.some.inj hf
        subst hf
        exact ret_i C hr hlk hP hS dX8_wipe_37
      have hf := (if_neg h_1).symm.trans hf
      cases hf
    have hf := (if_neg h_1).symm.trans hf
    cases hf
  · have hf := (if_pos hc).symm.trans hf
    refine lv_bipush (pc := 8) (v := (-2)) hx hb dX8_wipe_8 bp_m2 ?_
    have hf := Option.some.inj hf
    subst hf
    exact ret_i C hr hlk hP hS dX8_wipe_10
set_option maxRecDepth 100000 in
theorem c_X8_wipe (l : Launch) (D : va_G) (cA : Nat → ClassId) (a : Nat → Nat) (x_stale : Int32) (x_finding : Int32) (text0_length : Int32) (text0_bytes : Nat → Int32) (text1_length : Int32) (text1_bytes : Nat → Int32) (land_flaw : Int32) (land_cells : Int32) (land_columns : Int32) (land_rows : Int32) (land_kinds : Nat → Int32) (land_rowAt : Nat → Int32) (land_columnAt : Nat → Int32) (land_ways : Nat → Int32) (land_beside : Nat → Int32) (houses_flaw : Int32) (houses_number : Int32) (houses_places : Nat → Int32) (houses_dues : Nat → Int32) (x1 : Int32) (r : Int32 × Int32 × Int32 × Int32 × Int32 × Int32 × Int32 × Int32 × (Nat → Int32) × (Nat → Int32) × (Nat → Int32) × (Nat → Int32) × (Nat → Int32) × Int32 × Int32 × (Nat → Int32) × (Nat → Int32)) (hf : f_X8_wipe x_stale text0_length text0_bytes text1_length text1_bytes land_flaw land_cells land_columns land_rows land_kinds land_rowAt land_columnAt land_ways land_beside houses_flaw houses_number houses_places houses_dues x1 = some r) (sz : Nat) : Met l yX8_wipe (Cond.code yX8_wipe cX8_wipe 3 (some .int) :: lw_good) rm_X8_wipe (PreX D cA [.ref (a 0), .int x1] sz (wl_X8_wipe cA a x_stale x_finding text0_length text0_bytes text1_length text1_bytes land_flaw land_cells land_columns land_rows land_kinds land_rowAt land_columnAt land_ways land_beside houses_flaw houses_number houses_places houses_dues)) (PostI D r.1 (wl_X8_wipe cA a x_stale x_finding text0_length text0_bytes text1_length text1_bytes land_flaw land_cells land_columns land_rows land_kinds land_rowAt land_columnAt land_ways land_beside houses_flaw houses_number houses_places houses_dues) (wl_X8_wipe cA a (r.2.1) x_finding (r.2.2.1) text0_bytes (r.2.2.2.1) text1_bytes (r.2.2.2.2.1) (r.2.2.2.2.2.1) (r.2.2.2.2.2.2.1) (r.2.2.2.2.2.2.2.1) (r.2.2.2.2.2.2.2.2.1) (r.2.2.2.2.2.2.2.2.2.1) (r.2.2.2.2.2.2.2.2.2.2.1) (r.2.2.2.2.2.2.2.2.2.2.2.1) (r.2.2.2.2.2.2.2.2.2.2.2.2.1) (r.2.2.2.2.2.2.2.2.2.2.2.2.2.1) (r.2.2.2.2.2.2.2.2.2.2.2.2.2.2.1) (r.2.2.2.2.2.2.2.2.2.2.2.2.2.2.2.1) (r.2.2.2.2.2.2.2.2.2.2.2.2.2.2.2.2)) sz) 0 0 (va_A (wl_X8_wipe cA a x_stale x_finding text0_length text0_bytes text1_length text1_bytes land_flaw land_cells land_columns land_rows land_kinds land_rowAt land_columnAt land_ways land_beside houses_flaw houses_number houses_places houses_dues) sz) :=
  met_of (by decide) (Nat.le_of_ble_eq_true rfl) (fun p e s m args below meth c C hr hlk hA => k_X8_wipe C hr hlk hA a x_stale x_finding text0_length text0_bytes text1_length text1_bytes land_flaw land_cells land_columns land_rows land_kinds land_rowAt land_columnAt land_ways land_beside houses_flaw houses_number houses_places houses_dues x1 r hf)
end

abbrev wl_X8_undo (cA : Nat → ClassId) (a : Nat → Nat) (x_stale : Int32) (x_finding : Int32) (text0_length : Int32) (text0_bytes : Nat → Int32) (text1_length : Int32) (text1_bytes : Nat → Int32) (land_flaw : Int32) (land_cells : Int32) (land_columns : Int32) (land_rows : Int32) (land_kinds : Nat → Int32) (land_rowAt : Nat → Int32) (land_columnAt : Nat → Int32) (land_ways : Nat → Int32) (land_beside : Nat → Int32) (houses_flaw : Int32) (houses_number : Int32) (houses_places : Nat → Int32) (houses_dues : Nat → Int32) : va_W := [((a 0), .inr (8, [.ref (a 1), .ref (a 6), .ref (a 12), .ref (a 15), .ref (a 19), .ref (a 23), .ref (a 27), .ref (a 34), .ref (a 41), .ref (a 42), .ref (a 44), .ref (a 45), .int x_stale, .int x_finding])), ((a 1), .inl (cA 2, 2, .inr (.inr (.inr (.inr (fun k : Nat => if k = 0 then some (a 2) else some (a 4))))))), ((a 2), .inr (6, [.ref (a 3), .int text0_length])), ((a 3), .inl (cA 0, 41, .inl text0_bytes)), ((a 4), .inr (6, [.ref (a 5), .int text1_length])), ((a 5), .inl (cA 0, 31, .inl text1_bytes)), ((a 6), .inr (3, [.ref (a 7), .ref (a 8), .ref (a 9), .ref (a 10), .ref (a 11), .int land_flaw, .int land_cells, .int land_columns, .int land_rows])), ((a 7), .inl (cA 0, 36, .inl land_kinds)), ((a 8), .inl (cA 0, 36, .inl land_rowAt)), ((a 9), .inl (cA 0, 36, .inl land_columnAt)), ((a 10), .inl (cA 0, 36, .inl land_ways)), ((a 11), .inl (cA 0, 144, .inl land_beside)), ((a 12), .inr (1, [.ref (a 13), .ref (a 14), .int houses_flaw, .int houses_number])), ((a 13), .inl (cA 0, 8, .inl houses_places)), ((a 14), .inl (cA 0, 8, .inl houses_dues))]
abbrev rm_X8_undo : Room := { frames := 4, cells := 0, slots := 0, locals := 90 }
section
variable {p : Program} {l : Launch} {e : Env} {s : State} {m : MethodId} {args : Array Value} {below : List Frame} {meth : Method} {c : Code} {D : va_G} {cA : Nat → ClassId} {ws0 : va_W} {sz : Nat} {A : Nat → Prop} {Q : State → Prop}
def f_X8_undo (x_stale : Int32) (text0_length : Int32) (text0_bytes : Nat → Int32) (text1_length : Int32) (text1_bytes : Nat → Int32) (land_flaw : Int32) (land_cells : Int32) (land_columns : Int32) (land_rows : Int32) (land_kinds : Nat → Int32) (land_rowAt : Nat → Int32) (land_columnAt : Nat → Int32) (land_ways : Nat → Int32) (land_beside : Nat → Int32) (houses_flaw : Int32) (houses_number : Int32) (houses_places : Nat → Int32) (houses_dues : Nat → Int32) (x1 : Int32) : Option (Int32 × Int32 × Int32 × Int32 × Int32 × Int32 × Int32 × Int32 × (Nat → Int32) × (Nat → Int32) × (Nat → Int32) × (Nat → Int32) × (Nat → Int32) × Int32 × Int32 × (Nat → Int32) × (Nat → Int32)) :=
  bind1 (f_X8_isUpTo x1 (1 : Int32)) (fun r1 => if r1 = 0 then (some ((-2 : Int32), x_stale, text0_length, text1_length, land_flaw, land_cells, land_columns, land_rows, land_kinds, land_rowAt, land_columnAt, land_ways, land_beside, houses_flaw, houses_number, houses_places, houses_dues)) else (if x1 = (0 : Int32) then (if text0_length = 0 then (some ((-3 : Int32), x_stale, text0_length, text1_length, land_flaw, land_cells, land_columns, land_rows, land_kinds, land_rowAt, land_columnAt, land_ways, land_beside, houses_flaw, houses_number, houses_places, houses_dues)) else (if x1 = (0 : Int32) then (letv ((text0_length - (1 : Int32))) (fun v2 => bind14 (f_X8_understand x_stale v2 text0_bytes text1_length text1_bytes land_flaw land_cells land_columns land_rows land_kinds land_rowAt land_columnAt land_ways land_beside houses_flaw houses_number houses_places houses_dues x1) (fun c3 c4 c5 c6 c7 c8 c9 c10 c11 c12 c13 c14 c15 c16 => if x1 = (0 : Int32) then (some (v2, c3, v2, text1_length, c4, c5, c6, c7, c8, c9, c10, c11, c12, c13, c14, c15, c16)) else (if x1 = (1 : Int32) then (some (text1_length, c3, v2, text1_length, c4, c5, c6, c7, c8, c9, c10, c11, c12, c13, c14, c15, c16)) else (none))))) else (if x1 = (1 : Int32) then (letv ((text1_length - (1 : Int32))) (fun v17 => bind14 (f_X8_understand x_stale text0_length text0_bytes v17 text1_bytes land_flaw land_cells land_columns land_rows land_kinds land_rowAt land_columnAt land_ways land_beside houses_flaw houses_number houses_places houses_dues x1) (fun c18 c19 c20 c21 c22 c23 c24 c25 c26 c27 c28 c29 c30 c31 => if x1 = (0 : Int32) then (some (text0_length, c18, text0_length, v17, c19, c20, c21, c22, c23, c24, c25, c26, c27, c28, c29, c30, c31)) else (if x1 = (1 : Int32) then (some (v17, c18, text0_length, v17, c19, c20, c21, c22, c23, c24, c25, c26, c27, c28, c29, c30, c31)) else (none))))) else (none)))) else (if x1 = (1 : Int32) then (if text1_length = 0 then (some ((-3 : Int32), x_stale, text0_length, text1_length, land_flaw, land_cells, land_columns, land_rows, land_kinds, land_rowAt, land_columnAt, land_ways, land_beside, houses_flaw, houses_number, houses_places, houses_dues)) else (if x1 = (0 : Int32) then (letv ((text0_length - (1 : Int32))) (fun v32 => bind14 (f_X8_understand x_stale v32 text0_bytes text1_length text1_bytes land_flaw land_cells land_columns land_rows land_kinds land_rowAt land_columnAt land_ways land_beside houses_flaw houses_number houses_places houses_dues x1) (fun c33 c34 c35 c36 c37 c38 c39 c40 c41 c42 c43 c44 c45 c46 => if x1 = (0 : Int32) then (some (v32, c33, v32, text1_length, c34, c35, c36, c37, c38, c39, c40, c41, c42, c43, c44, c45, c46)) else (if x1 = (1 : Int32) then (some (text1_length, c33, v32, text1_length, c34, c35, c36, c37, c38, c39, c40, c41, c42, c43, c44, c45, c46)) else (none))))) else (if x1 = (1 : Int32) then (letv ((text1_length - (1 : Int32))) (fun v47 => bind14 (f_X8_understand x_stale text0_length text0_bytes v47 text1_bytes land_flaw land_cells land_columns land_rows land_kinds land_rowAt land_columnAt land_ways land_beside houses_flaw houses_number houses_places houses_dues x1) (fun c48 c49 c50 c51 c52 c53 c54 c55 c56 c57 c58 c59 c60 c61 => if x1 = (0 : Int32) then (some (text0_length, c48, text0_length, v47, c49, c50, c51, c52, c53, c54, c55, c56, c57, c58, c59, c60, c61)) else (if x1 = (1 : Int32) then (some (v47, c48, text0_length, v47, c49, c50, c51, c52, c53, c54, c55, c56, c57, c58, c59, c60, c61)) else (none))))) else (none)))) else (none))))
set_option maxHeartbeats 4000000 in
set_option maxRecDepth 100000 in
theorem k_X8_undo (C : Cx RX8 cX8_undo 2 D cA p s m args c) (hr : meth.sig.returnType = (some .int)) (hlk : meth.locks = false) (hA : ∀ q, s.heap.size ≤ q → va_A ws0 sz q) (a : Nat → Nat) (x_stale : Int32) (x_finding : Int32) (text0_length : Int32) (text0_bytes : Nat → Int32) (text1_length : Int32) (text1_bytes : Nat → Int32) (land_flaw : Int32) (land_cells : Int32) (land_columns : Int32) (land_rows : Int32) (land_kinds : Nat → Int32) (land_rowAt : Nat → Int32) (land_columnAt : Nat → Int32) (land_ways : Nat → Int32) (land_beside : Nat → Int32) (houses_flaw : Int32) (houses_number : Int32) (houses_places : Nat → Int32) (houses_dues : Nat → Int32) (x1 : Int32) (r : Int32 × Int32 × Int32 × Int32 × Int32 × Int32 × Int32 × Int32 × (Nat → Int32) × (Nat → Int32) × (Nat → Int32) × (Nat → Int32) × (Nat → Int32) × Int32 × Int32 × (Nat → Int32) × (Nat → Int32)) (hf : f_X8_undo x_stale text0_length text0_bytes text1_length text1_bytes land_flaw land_cells land_columns land_rows land_kinds land_rowAt land_columnAt land_ways land_beside houses_flaw houses_number houses_places houses_dues x1 = some r) : At p l e rm_X8_undo s m args below meth c D (va_A ws0 sz) 0 0 (MQ below (PostI D r.1 ws0 (wl_X8_undo cA a (r.2.1) x_finding (r.2.2.1) text0_bytes (r.2.2.2.1) text1_bytes (r.2.2.2.2.1) (r.2.2.2.2.2.1) (r.2.2.2.2.2.2.1) (r.2.2.2.2.2.2.2.1) (r.2.2.2.2.2.2.2.2.1) (r.2.2.2.2.2.2.2.2.2.1) (r.2.2.2.2.2.2.2.2.2.2.1) (r.2.2.2.2.2.2.2.2.2.2.2.1) (r.2.2.2.2.2.2.2.2.2.2.2.2.1) (r.2.2.2.2.2.2.2.2.2.2.2.2.2.1) (r.2.2.2.2.2.2.2.2.2.2.2.2.2.2.1) (r.2.2.2.2.2.2.2.2.2.2.2.2.2.2.2.1) (r.2.2.2.2.2.2.2.2.2.2.2.2.2.2.2.2)) sz) args s 0 0 (va_A ws0 sz)) 2 0 (wl_X8_undo cA a x_stale x_finding text0_length text0_bytes text1_length text1_bytes land_flaw land_cells land_columns land_rows land_kinds land_rowAt land_columnAt land_ways land_beside houses_flaw houses_number houses_places houses_dues) [(0, .ref (a 0)), (1, .int x1)] [] := by
  intro H locs ls hP hD hS hl
  have hx := C.1
  have hb := C.2.1
  have hown := C.2.2.2.1
  have hts := C.2.2.2.2.1
  unfold f_X8_undo at hf
  refine lv_iload_n (pc := 0) hx hb dX8_undo_0 rfl (lv_at hl 1 rfl) ?_
  refine lv_iconst (pc := 1) (v := 1) hx hb dX8_undo_1 ic_1 ?_
  obtain ⟨r1, hq, hf⟩ := bind1_some hf
  refine fin2_i (wl_X8_undo cA a x_stale x_finding text0_length text0_bytes text1_length text1_bytes land_flaw land_cells land_columns land_rows land_kinds land_rowAt land_columnAt land_ways land_beside houses_flaw houses_number houses_places houses_dues) (run_S (rest := []) (pc := 2) (As := [.int x1, .int (1 : Int32)]) C mf_X8_90 (c_X8_isUpTo l D cA  x1 (1 : Int32) r1 hq H.size) rfl rfl ⟨(Nat.le_of_ble_eq_true rfl), (Nat.le_of_ble_eq_true rfl)⟩ (preS_of C hP hD [] rfl (pl_nd pv_19)) rfl hl.1 rfl (Nat.le_of_ble_eq_true rfl) dX8_undo_2 ⟨Nat.zero_le _, Nat.zero_le _⟩) hP hD hS hA [] [0, 1, 2, 3, 4, 5, 6, 7, 8, 9, 10, 11, 12, 13, 14] rfl rfl rfl rfl pv_19 (fun H locs hP hS => ?_)
  refine lv_if_ne (pc := 5) (tgt := 11) hx hb dX8_undo_5 (by decide) (fun hc => ?_) (fun hc => ?_)
  · have hf := (if_neg hc).symm.trans hf
    refine lv_aload_n (pc := 11) hx hb dX8_undo_11 rfl (lv_at hl 0 rfl) ?_
    refine g_get (pc := 12) C fg_X8_11 hP 0 rfl rfl dX8_undo_12 ?_
    refine lv_iload_n (pc := 15) hx hb dX8_undo_15 rfl (lv_at hl 1 rfl) ?_
    by_cases h_0 : x1 = (0 : Int32)
    · have hf := (if_pos h_0).symm.trans hf
      refine g_aald (pc := 16) (b := (a 2)) C hP 1 rfl (t0 := 2) rfl (by rw [h_0]; decide) (by rw [h_0, tn_0]; rfl) dX8_undo_16 ?_
      refine g_get (pc := 17) C fg_X8_101 hP 2 rfl rfl dX8_undo_17 ?_
      refine lv_if_ne (pc := 20) (tgt := 26) hx hb dX8_undo_20 (by decide) (fun hc => ?_) (fun hc => ?_)
      · have hf := (if_neg hc).symm.trans hf
        refine lv_aload_n (pc := 26) hx hb dX8_undo_26 rfl (lv_at hl 0 rfl) ?_
        refine g_get (pc := 27) C fg_X8_11 hP 0 rfl rfl dX8_undo_27 ?_
        refine lv_iload_n (pc := 30) hx hb dX8_undo_30 rfl (lv_at hl 1 rfl) ?_
        by_cases h_0 : x1 = (0 : Int32)
        · have hf := (if_pos h_0).symm.trans hf
          refine g_aald (pc := 31) (b := (a 2)) C hP 1 rfl (t0 := 2) rfl (by rw [h_0]; decide) (by rw [h_0, tn_0]; rfl) dX8_undo_31 ?_
          refine lv_dup (pc := 32) hx hb dX8_undo_32 rfl ?_
          refine g_get (pc := 33) C fg_X8_101 hP 2 rfl rfl dX8_undo_33 ?_
          refine lv_iconst (pc := 36) (v := 1) hx hb dX8_undo_36 ic_1 ?_
          refine lv_isub (pc := 37) hx hb dX8_undo_37 ?_
          obtain ⟨v2, e_v2, hf⟩ := letv_some hf
          refine tp_i e_v2 ?_
          refine g_put (pc := 38) C fg_X8_101 ft_X6_1 hP hD hS 2 rfl rfl rfl (Nat.le_of_ble_eq_true rfl) dX8_undo_38 (fun H locs hP hD hS => ?_)
          have hP : va_P D classes (wl_X8_undo cA a x_stale x_finding v2 text0_bytes text1_length text1_bytes land_flaw land_cells land_columns land_rows land_kinds land_rowAt land_columnAt land_ways land_beside houses_flaw houses_number houses_places houses_dues) H := hP
          have hD : va_D (va_A ws0 sz) (wl_X8_undo cA a x_stale x_finding v2 text0_bytes text1_length text1_bytes land_flaw land_cells land_columns land_rows land_kinds land_rowAt land_columnAt land_ways land_beside houses_flaw houses_number houses_places houses_dues) := hD
          refine lv_aload_n (pc := 41) hx hb dX8_undo_41 rfl (lv_at hl 0 rfl) ?_
          refine lv_iload_n (pc := 42) hx hb dX8_undo_42 rfl (lv_at hl 1 rfl) ?_
          obtain ⟨c3, c4, c5, c6, c7, c8, c9, c10, c11, c12, c13, c14, c15, c16, hq, hf⟩ := bind14_some hf
          refine fin2_v (wl_X8_undo cA a c3 x_finding v2 text0_bytes text1_length text1_bytes c4 c5 c6 c7 c8 c9 c10 c11 c12 c13 c14 c15 c16) (run_V (rest := []) (pc := 43) (As := [.int x1]) C mf_X8_98 (c_X8_understand l D cA a x_stale x_finding v2 text0_bytes text1_length text1_bytes land_flaw land_cells land_columns land_rows land_kinds land_rowAt land_columnAt land_ways land_beside houses_flaw houses_number houses_places houses_dues x1 (c3, c4, c5, c6, c7, c8, c9, c10, c11, c12, c13, c14, c15, c16) hq H.size) rfl rfl ⟨(Nat.le_of_ble_eq_true rfl), (Nat.le_of_ble_eq_true rfl)⟩ (preV_of C hP hD [0, 1, 2, 3, 4, 5, 6, 7, 8, 9, 10, 11, 12, 13, 14] rfl (pl_nd pv_21) 0 rfl rfl rfl) rfl hl.1 rfl (Nat.le_of_ble_eq_true rfl) dX8_undo_43 ⟨Nat.zero_le _, Nat.zero_le _⟩) hP hD hS hA [0, 1, 2, 3, 4, 5, 6, 7, 8, 9, 10, 11, 12, 13, 14] [] rfl rfl rfl rfl pv_21 (fun H locs hP hS => ?_)
          have hD : va_D (va_A ws0 sz) (wl_X8_undo cA a c3 x_finding v2 text0_bytes text1_length text1_bytes c4 c5 c6 c7 c8 c9 c10 c11 c12 c13 c14 c15 c16) := vd_a hD rfl
          refine lv_aload_n (pc := 46) hx hb dX8_undo_46 rfl (lv_at hl 0 rfl) ?_
          refine g_get (pc := 47) C fg_X8_11 hP 0 rfl rfl dX8_undo_47 ?_
          refine lv_iload_n (pc := 50) hx hb dX8_undo_50 rfl (lv_at hl 1 rfl) ?_
          by_cases h_0 : x1 = (0 : Int32)
          · have hf := (if_pos h_0).symm.trans hf
            refine g_aald (pc := 51) (b := (a 2)) C hP 1 rfl (t0 := 2) rfl (by rw [h_0]; decide) (by rw [h_0, tn_0]; rfl) dX8_undo_51 ?_
            refine g_get (pc := 52) C fg_X8_101 hP 2 rfl rfl dX8_undo_52 ?_
            have hf := Option.some.inj hf
            subst hf
            exact ret_i C hr hlk hP hS dX8_undo_55
          have hf := (if_neg h_0).symm.trans hf
          by_cases h_1 : x1 = (1 : Int32)
          · have hf := (if_pos h_1).symm.trans hf
            refine g_aald (pc := 51) (b := (a 4)) C hP 1 rfl (t0 := 2) rfl (by rw [h_1]; decide) (by rw [h_1, tn_1]; rfl) dX8_undo_51 ?_
            refine g_get (pc := 52) C fg_X8_101 hP 4 rfl rfl dX8_undo_52 ?_
            have hf := Option.some.inj hf
            subst hf
            exact ret_i C hr hlk hP hS dX8_undo_55
          have hf := (if_neg h_1).symm.trans hf
          cases hf
        have hf := (if_neg h_0).symm.trans hf
        by_cases h_1 : x1 = (1 : Int32)
        · have hf := (if_pos h_1).symm.trans hf
          refine g_aald (pc := 31) (b := (a 4)) C hP 1 rfl (t0 := 2) rfl (by rw [h_1]; decide) (by rw [h_1, tn_1]; rfl) dX8_undo_31 ?_
          refine lv_dup (pc := 32) hx hb dX8_undo_32 rfl ?_
          refine g_get (pc := 33) C fg_X8_101 hP 4 rfl rfl dX8_undo_33 ?_
          refine lv_iconst (pc := 36) (v := 1) hx hb dX8_undo_36 ic_1 ?_
          refine lv_isub (pc := 37) hx hb dX8_undo_37 ?_
          obtain ⟨v17, e_v17, hf⟩ := letv_some hf
          refine tp_i e_v17 ?_
          refine g_put (pc := 38) C fg_X8_101 ft_X6_1 hP hD hS 4 rfl rfl rfl (Nat.le_of_ble_eq_true rfl) dX8_undo_38 (fun H locs hP hD hS => ?_)
          have hP : va_P D classes (wl_X8_undo cA a x_stale x_finding text0_length text0_bytes v17 text1_bytes land_flaw land_cells land_columns land_rows land_kinds land_rowAt land_columnAt land_ways land_beside houses_flaw houses_number houses_places houses_dues) H := hP
          have hD : va_D (va_A ws0 sz) (wl_X8_undo cA a x_stale x_finding text0_length text0_bytes v17 text1_bytes land_flaw land_cells land_columns land_rows land_kinds land_rowAt land_columnAt land_ways land_beside houses_flaw houses_number houses_places houses_dues) := hD
          refine lv_aload_n (pc := 41) hx hb dX8_undo_41 rfl (lv_at hl 0 rfl) ?_
          refine lv_iload_n (pc := 42) hx hb dX8_undo_42 rfl (lv_at hl 1 rfl) ?_
          obtain ⟨c18, c19, c20, c21, c22, c23, c24, c25, c26, c27, c28, c29, c30, c31, hq, hf⟩ := bind14_some hf
          refine fin2_v (wl_X8_undo cA a c18 x_finding text0_length text0_bytes v17 text1_bytes c19 c20 c21 c22 c23 c24 c25 c26 c27 c28 c29 c30 c31) (run_V (rest := []) (pc := 43) (As := [.int x1]) C mf_X8_98 (c_X8_understand l D cA a x_stale x_finding text0_length text0_bytes v17 text1_bytes land_flaw land_cells land_columns land_rows land_kinds land_rowAt land_columnAt land_ways land_beside houses_flaw houses_number houses_places houses_dues x1 (c18, c19, c20, c21, c22, c23, c24, c25, c26, c27, c28, c29, c30, c31) hq H.size) rfl rfl ⟨(Nat.le_of_ble_eq_true rfl), (Nat.le_of_ble_eq_true rfl)⟩ (preV_of C hP hD [0, 1, 2, 3, 4, 5, 6, 7, 8, 9, 10, 11, 12, 13, 14] rfl (pl_nd pv_21) 0 rfl rfl rfl) rfl hl.1 rfl (Nat.le_of_ble_eq_true rfl) dX8_undo_43 ⟨Nat.zero_le _, Nat.zero_le _⟩) hP hD hS hA [0, 1, 2, 3, 4, 5, 6, 7, 8, 9, 10, 11, 12, 13, 14] [] rfl rfl rfl rfl pv_21 (fun H locs hP hS => ?_)
          have hD : va_D (va_A ws0 sz) (wl_X8_undo cA a c18 x_finding text0_length text0_bytes v17 text1_bytes c19 c20 c21 c22 c23 c24 c25 c26 c27 c28 c29 c30 c31) := vd_a hD rfl
          refine lv_aload_n (pc := 46) hx hb dX8_undo_46 rfl (lv_at hl 0 rfl) ?_
          refine g_get (pc := 47) C fg_X8_11 hP 0 rfl rfl dX8_undo_47 ?_
          refine lv_iload_n (pc := 50) hx hb dX8_undo_50 rfl (lv_at hl 1 rfl) ?_
          by_cases h_0 : x1 = (0 : Int32)
          · have hf := (if_pos h_0).symm.trans hf
            refine g_aald (pc := 51) (b := (a 2)) C hP 1 rfl (t0 := 2) rfl (by rw [h_0]; decide) (by rw [h_0, tn_0]; rfl) dX8_undo_51 ?_
            refine g_get (pc := 52) C fg_X8_101 hP 2 rfl rfl dX8_undo_52 ?_
            have hf := Option.some.inj hf
            subst hf
            exact ret_i C hr hlk hP hS dX8_undo_55
          have hf := (if_neg h_0).symm.trans hf
          by_cases h_1 : x1 = (1 : Int32)
          · have hf := (if_pos h_1).symm.trans hf
            refine g_aald (pc := 51) (b := (a 4)) C hP 1 rfl (t0 := 2) rfl (by rw [h_1]; decide) (by rw [h_1, tn_1]; rfl) dX8_undo_51 ?_
            refine g_get (pc := 52) C fg_X8_101 hP 4 rfl rfl dX8_undo_52 ?_
            have hf := Option.some.inj hf
            subst hf
            exact ret_i C hr hlk hP hS dX8_undo_55
          have hf := (if_neg h_1).symm.trans hf
          cases hf
        have hf := (if_neg h_1).symm.trans hf
        cases hf
      · have hf := (if_pos hc).symm.trans hf
        refine lv_bipush (pc := 23) (v := (-3)) hx hb dX8_undo_23 bp_m3 ?_
        have hf := Option.some.inj hf
        subst hf
        exact ret_i C hr hlk hP hS dX8_undo_25
    have hf := (if_neg h_0).symm.trans hf
    by_cases h_1 : x1 = (1 : Int32)
    · have hf := (if_pos h_1).symm.trans hf
      refine g_aald (pc := 16) (b := (a 4)) C hP 1 rfl (t0 := 2) rfl (by rw [h_1]; decide) (by rw [h_1, tn_1]; rfl) dX8_undo_16 ?_
      refine g_get (pc := 17) C fg_X8_101 hP 4 rfl rfl dX8_undo_17 ?_
      refine lv_if_ne (pc := 20) (tgt := 26) hx hb dX8_undo_20 (by decide) (fun hc => ?_) (fun hc => ?_)
      · have hf := (if_neg hc).symm.trans hf
        refine lv_aload_n (pc := 26) hx hb dX8_undo_26 rfl (lv_at hl 0 rfl) ?_
        refine g_get (pc := 27) C fg_X8_11 hP 0 rfl rfl dX8_undo_27 ?_
        refine lv_iload_n (pc := 30) hx hb dX8_undo_30 rfl (lv_at hl 1 rfl) ?_
        by_cases h_0 : x1 = (0 : Int32)
        · have hf := (if_pos h_0).symm.trans hf
          refine g_aald (pc := 31) (b := (a 2)) C hP 1 rfl (t0 := 2) rfl (by rw [h_0]; decide) (by rw [h_0, tn_0]; rfl) dX8_undo_31 ?_
          refine lv_dup (pc := 32) hx hb dX8_undo_32 rfl ?_
          refine g_get (pc := 33) C fg_X8_101 hP 2 rfl rfl dX8_undo_33 ?_
          refine lv_iconst (pc := 36) (v := 1) hx hb dX8_undo_36 ic_1 ?_
          refine lv_isub (pc := 37) hx hb dX8_undo_37 ?_
          obtain ⟨v32, e_v32, hf⟩ := letv_some hf
          refine tp_i e_v32 ?_
          refine g_put (pc := 38) C fg_X8_101 ft_X6_1 hP hD hS 2 rfl rfl rfl (Nat.le_of_ble_eq_true rfl) dX8_undo_38 (fun H locs hP hD hS => ?_)
          have hP : va_P D classes (wl_X8_undo cA a x_stale x_finding v32 text0_bytes text1_length text1_bytes land_flaw land_cells land_columns land_rows land_kinds land_rowAt land_columnAt land_ways land_beside houses_flaw houses_number houses_places houses_dues) H := hP
          have hD : va_D (va_A ws0 sz) (wl_X8_undo cA a x_stale x_finding v32 text0_bytes text1_length text1_bytes land_flaw land_cells land_columns land_rows land_kinds land_rowAt land_columnAt land_ways land_beside houses_flaw houses_number houses_places houses_dues) := hD
          refine lv_aload_n (pc := 41) hx hb dX8_undo_41 rfl (lv_at hl 0 rfl) ?_
          refine lv_iload_n (pc := 42) hx hb dX8_undo_42 rfl (lv_at hl 1 rfl) ?_
          obtain ⟨c33, c34, c35, c36, c37, c38, c39, c40, c41, c42, c43, c44, c45, c46, hq, hf⟩ := bind14_some hf
          refine fin2_v (wl_X8_undo cA a c33 x_finding v32 text0_bytes text1_length text1_bytes c34 c35 c36 c37 c38 c39 c40 c41 c42 c43 c44 c45 c46) (run_V (rest := []) (pc := 43) (As := [.int x1]) C mf_X8_98 (c_X8_understand l D cA a x_stale x_finding v32 text0_bytes text1_length text1_bytes land_flaw land_cells land_columns land_rows land_kinds land_rowAt land_columnAt land_ways land_beside houses_flaw houses_number houses_places houses_dues x1 (c33, c34, c35, c36, c37, c38, c39, c40, c41, c42, c43, c44, c45, c46) hq H.size) rfl rfl ⟨(Nat.le_of_ble_eq_true rfl), (Nat.le_of_ble_eq_true rfl)⟩ (preV_of C hP hD [0, 1, 2, 3, 4, 5, 6, 7, 8, 9, 10, 11, 12, 13, 14] rfl (pl_nd pv_21) 0 rfl rfl rfl) rfl hl.1 rfl (Nat.le_of_ble_eq_true rfl) dX8_undo_43 ⟨Nat.zero_le _, Nat.zero_le _⟩) hP hD hS hA [0, 1, 2, 3, 4, 5, 6, 7, 8, 9, 10, 11, 12, 13, 14] [] rfl rfl rfl rfl pv_21 (fun H locs hP hS => ?_)
          have hD : va_D (va_A ws0 sz) (wl_X8_undo cA a c33 x_finding v32 text0_bytes text1_length text1_bytes c34 c35 c36 c37 c38 c39 c40 c41 c42 c43 c44 c45 c46) := vd_a hD rfl
          refine lv_aload_n (pc := 46) hx hb dX8_undo_46 rfl (lv_at hl 0 rfl) ?_
          refine g_get (pc := 47) C fg_X8_11 hP 0 rfl rfl dX8_undo_47 ?_
          refine lv_iload_n (pc := 50) hx hb dX8_undo_50 rfl (lv_at hl 1 rfl) ?_
          by_cases h_0 : x1 = (0 : Int32)
          · have hf := (if_pos h_0).symm.trans hf
            refine g_aald (pc := 51) (b := (a 2)) C hP 1 rfl (t0 := 2) rfl (by rw [h_0]; decide) (by rw [h_0, tn_0]; rfl) dX8_undo_51 ?_
            refine g_get (pc := 52) C fg_X8_101 hP 2 rfl rfl dX8_undo_52 ?_
            have hf := Option.some.inj hf
            subst hf
            exact ret_i C hr hlk hP hS dX8_undo_55
          have hf := (if_neg h_0).symm.trans hf
          by_cases h_1 : x1 = (1 : Int32)
          · have hf := (if_pos h_1).symm.trans hf
            refine g_aald (pc := 51) (b := (a 4)) C hP 1 rfl (t0 := 2) rfl (by rw [h_1]; decide) (by rw [h_1, tn_1]; rfl) dX8_undo_51 ?_
            refine g_get (pc := 52) C fg_X8_101 hP 4 rfl rfl dX8_undo_52 ?_
            have hf := Option.some.inj hf
            subst hf
            exact ret_i C hr hlk hP hS dX8_undo_55
          have hf := (if_neg h_1).symm.trans hf
          cases hf
        have hf := (if_neg h_0).symm.trans hf
        by_cases h_1 : x1 = (1 : Int32)
        · have hf := (if_pos h_1).symm.trans hf
          refine g_aald (pc := 31) (b := (a 4)) C hP 1 rfl (t0 := 2) rfl (by rw [h_1]; decide) (by rw [h_1, tn_1]; rfl) dX8_undo_31 ?_
          refine lv_dup (pc := 32) hx hb dX8_undo_32 rfl ?_
          refine g_get (pc := 33) C fg_X8_101 hP 4 rfl rfl dX8_undo_33 ?_
          refine lv_iconst (pc := 36) (v := 1) hx hb dX8_undo_36 ic_1 ?_
          refine lv_isub (pc := 37) hx hb dX8_undo_37 ?_
          obtain ⟨v47, e_v47, hf⟩ := letv_some hf
          refine tp_i e_v47 ?_
          refine g_put (pc := 38) C fg_X8_101 ft_X6_1 hP hD hS 4 rfl rfl rfl (Nat.le_of_ble_eq_true rfl) dX8_undo_38 (fun H locs hP hD hS => ?_)
          have hP : va_P D classes (wl_X8_undo cA a x_stale x_finding text0_length text0_bytes v47 text1_bytes land_flaw land_cells land_columns land_rows land_kinds land_rowAt land_columnAt land_ways land_beside houses_flaw houses_number houses_places houses_dues) H := hP
          have hD : va_D (va_A ws0 sz) (wl_X8_undo cA a x_stale x_finding text0_length text0_bytes v47 text1_bytes land_flaw land_cells land_columns land_rows land_kinds land_rowAt land_columnAt land_ways land_beside houses_flaw houses_number houses_places houses_dues) := hD
          refine lv_aload_n (pc := 41) hx hb dX8_undo_41 rfl (lv_at hl 0 rfl) ?_
          refine lv_iload_n (pc := 42) hx hb dX8_undo_42 rfl (lv_at hl 1 rfl) ?_
          obtain ⟨c48, c49, c50, c51, c52, c53, c54, c55, c56, c57, c58, c59, c60, c61, hq, hf⟩ := bind14_some hf
          refine fin2_v (wl_X8_undo cA a c48 x_finding text0_length text0_bytes v47 text1_bytes c49 c50 c51 c52 c53 c54 c55 c56 c57 c58 c59 c60 c61) (run_V (rest := []) (pc := 43) (As := [.int x1]) C mf_X8_98 (c_X8_understand l D cA a x_stale x_finding text0_length text0_bytes v47 text1_bytes land_flaw land_cells land_columns land_rows land_kinds land_rowAt land_columnAt land_ways land_beside houses_flaw houses_number houses_places houses_dues x1 (c48, c49, c50, c51, c52, c53, c54, c55, c56, c57, c58, c59, c60, c61) hq H.size) rfl rfl ⟨(Nat.le_of_ble_eq_true rfl), (Nat.le_of_ble_eq_true rfl)⟩ (preV_of C hP hD [0, 1, 2, 3, 4, 5, 6, 7, 8, 9, 10, 11, 12, 13, 14] rfl (pl_nd pv_21) 0 rfl rfl rfl) rfl hl.1 rfl (Nat.le_of_ble_eq_true rfl) dX8_undo_43 ⟨Nat.zero_le _, Nat.zero_le _⟩) hP hD hS hA [0, 1, 2, 3, 4, 5, 6, 7, 8, 9, 10, 11, 12, 13, 14] [] rfl rfl rfl rfl pv_21 (fun H locs hP hS => ?_)
          have hD : va_D (va_A ws0 sz) (wl_X8_undo cA a c48 x_finding text0_length text0_bytes v47 text1_bytes c49 c50 c51 c52 c53 c54 c55 c56 c57 c58 c59 c60 c61) := vd_a hD rfl
          refine lv_aload_n (pc := 46) hx hb dX8_undo_46 rfl (lv_at hl 0 rfl) ?_
          refine g_get (pc := 47) C fg_X8_11 hP 0 rfl rfl dX8_undo_47 ?_
          refine lv_iload_n (pc := 50) hx hb dX8_undo_50 rfl (lv_at hl 1 rfl) ?_
          by_cases h_0 : x1 = (0 : Int32)
          · have hf := (if_pos h_0).symm.trans hf
            refine g_aald (pc := 51) (b := (a 2)) C hP 1 rfl (t0 := 2) rfl (by rw [h_0]; decide) (by rw [h_0, tn_0]; rfl) dX8_undo_51 ?_
            refine g_get (pc := 52) C fg_X8_101 hP 2 rfl rfl dX8_undo_52 ?_
            have hf := Option.some.inj hf
            subst hf
            exact ret_i C hr hlk hP hS dX8_undo_55
          have hf := (if_neg h_0).symm.trans hf
          by_cases h_1 : x1 = (1 : Int32)
          · have hf := (if_pos h_1).symm.trans hf
            refine g_aald (pc := 51) (b := (a 4)) C hP 1 rfl (t0 := 2) rfl (by rw [h_1]; decide) (by rw [h_1, tn_1]; rfl) dX8_undo_51 ?_
            refine g_get (pc := 52) C fg_X8_101 hP 4 rfl rfl dX8_undo_52 ?_
            have hf := Option.some.inj hf
            subst hf
            exact ret_i C hr hlk hP hS dX8_undo_55
          have hf := (if_neg h_1).symm.trans hf
          cases hf
        have hf := (if_neg h_1).symm.trans hf
        cases hf
      · have hf := (if_pos hc).symm.trans hf
        refine lv_bipush (pc := 23) (v := (-3)) hx hb dX8_undo_23 bp_m3 ?_
        have hf := Option.some.inj hf
        subst hf
        exact ret_i C hr hlk hP hS dX8_undo_25
    have hf := (if_neg h_1).symm.trans hf
    cases hf
  · have hf := (if_pos hc).symm.trans hf
    refine lv_bipush (pc := 8) (v := (-2)) hx hb dX8_undo_8 bp_m2 ?_
    have hf := Option.some.inj hf
    subst hf
    exact ret_i C hr hlk hP hS dX8_undo_10
set_option maxRecDepth 100000 in
theorem c_X8_undo (l : Launch) (D : va_G) (cA : Nat → ClassId) (a : Nat → Nat) (x_stale : Int32) (x_finding : Int32) (text0_length : Int32) (text0_bytes : Nat → Int32) (text1_length : Int32) (text1_bytes : Nat → Int32) (land_flaw : Int32) (land_cells : Int32) (land_columns : Int32) (land_rows : Int32) (land_kinds : Nat → Int32) (land_rowAt : Nat → Int32) (land_columnAt : Nat → Int32) (land_ways : Nat → Int32) (land_beside : Nat → Int32) (houses_flaw : Int32) (houses_number : Int32) (houses_places : Nat → Int32) (houses_dues : Nat → Int32) (x1 : Int32) (r : Int32 × Int32 × Int32 × Int32 × Int32 × Int32 × Int32 × Int32 × (Nat → Int32) × (Nat → Int32) × (Nat → Int32) × (Nat → Int32) × (Nat → Int32) × Int32 × Int32 × (Nat → Int32) × (Nat → Int32)) (hf : f_X8_undo x_stale text0_length text0_bytes text1_length text1_bytes land_flaw land_cells land_columns land_rows land_kinds land_rowAt land_columnAt land_ways land_beside houses_flaw houses_number houses_places houses_dues x1 = some r) (sz : Nat) : Met l yX8_undo (Cond.code yX8_undo cX8_undo 2 (some .int) :: lw_good) rm_X8_undo (PreX D cA [.ref (a 0), .int x1] sz (wl_X8_undo cA a x_stale x_finding text0_length text0_bytes text1_length text1_bytes land_flaw land_cells land_columns land_rows land_kinds land_rowAt land_columnAt land_ways land_beside houses_flaw houses_number houses_places houses_dues)) (PostI D r.1 (wl_X8_undo cA a x_stale x_finding text0_length text0_bytes text1_length text1_bytes land_flaw land_cells land_columns land_rows land_kinds land_rowAt land_columnAt land_ways land_beside houses_flaw houses_number houses_places houses_dues) (wl_X8_undo cA a (r.2.1) x_finding (r.2.2.1) text0_bytes (r.2.2.2.1) text1_bytes (r.2.2.2.2.1) (r.2.2.2.2.2.1) (r.2.2.2.2.2.2.1) (r.2.2.2.2.2.2.2.1) (r.2.2.2.2.2.2.2.2.1) (r.2.2.2.2.2.2.2.2.2.1) (r.2.2.2.2.2.2.2.2.2.2.1) (r.2.2.2.2.2.2.2.2.2.2.2.1) (r.2.2.2.2.2.2.2.2.2.2.2.2.1) (r.2.2.2.2.2.2.2.2.2.2.2.2.2.1) (r.2.2.2.2.2.2.2.2.2.2.2.2.2.2.1) (r.2.2.2.2.2.2.2.2.2.2.2.2.2.2.2.1) (r.2.2.2.2.2.2.2.2.2.2.2.2.2.2.2.2)) sz) 0 0 (va_A (wl_X8_undo cA a x_stale x_finding text0_length text0_bytes text1_length text1_bytes land_flaw land_cells land_columns land_rows land_kinds land_rowAt land_columnAt land_ways land_beside houses_flaw houses_number houses_places houses_dues) sz) :=
  met_of (by decide) (Nat.le_of_ble_eq_true rfl) (fun p e s m args below meth c C hr hlk hA => k_X8_undo C hr hlk hA a x_stale x_finding text0_length text0_bytes text1_length text1_bytes land_flaw land_cells land_columns land_rows land_kinds land_rowAt land_columnAt land_ways land_beside houses_flaw houses_number houses_places houses_dues x1 r hf)
end

abbrev wl_X8_fault (cA : Nat → ClassId) (a : Nat → Nat) (x_stale : Int32) (x_finding : Int32) (land_flaw : Int32) (land_cells : Int32) (land_columns : Int32) (land_rows : Int32) (houses_flaw : Int32) (houses_number : Int32) : va_W := [((a 0), .inr (8, [.ref (a 1), .ref (a 6), .ref (a 12), .ref (a 15), .ref (a 19), .ref (a 23), .ref (a 27), .ref (a 34), .ref (a 41), .ref (a 42), .ref (a 44), .ref (a 45), .int x_stale, .int x_finding])), ((a 6), .inr (3, [.ref (a 7), .ref (a 8), .ref (a 9), .ref (a 10), .ref (a 11), .int land_flaw, .int land_cells, .int land_columns, .int land_rows])), ((a 12), .inr (1, [.ref (a 13), .ref (a 14), .int houses_flaw, .int houses_number]))]
abbrev rm_X8_fault : Room := { frames := 1, cells := 0, slots := 0, locals := 21 }
section
variable {p : Program} {l : Launch} {e : Env} {s : State} {m : MethodId} {args : Array Value} {below : List Frame} {meth : Method} {c : Code} {D : va_G} {cA : Nat → ClassId} {ws0 : va_W} {sz : Nat} {A : Nat → Prop} {Q : State → Prop}
def f_X8_fault (land_flaw : Int32) (houses_flaw : Int32) (x1 : Int32) : Option (Int32) :=
  bind1 (f_X8_isUpTo x1 (1 : Int32)) (fun r1 => if r1 = 0 then (some (-2 : Int32)) else (if x1 = 0 then (some land_flaw) else (some houses_flaw)))
set_option maxHeartbeats 4000000 in
set_option maxRecDepth 100000 in
theorem k_X8_fault (C : Cx RX8 cX8_fault 2 D cA p s m args c) (hr : meth.sig.returnType = (some .int)) (hlk : meth.locks = false) (hA : ∀ q, s.heap.size ≤ q → va_A ws0 sz q) (a : Nat → Nat) (x_stale : Int32) (x_finding : Int32) (land_flaw : Int32) (land_cells : Int32) (land_columns : Int32) (land_rows : Int32) (houses_flaw : Int32) (houses_number : Int32) (x1 : Int32) (r : Int32) (hf : f_X8_fault land_flaw houses_flaw x1 = some r) : At p l e rm_X8_fault s m args below meth c D (va_A ws0 sz) 0 0 (MQ below (PostI D r ws0 (wl_X8_fault cA a x_stale x_finding land_flaw land_cells land_columns land_rows houses_flaw houses_number) sz) args s 0 0 (va_A ws0 sz)) 2 0 (wl_X8_fault cA a x_stale x_finding land_flaw land_cells land_columns land_rows houses_flaw houses_number) [(0, .ref (a 0)), (1, .int x1)] [] := by
  intro H locs ls hP hD hS hl
  have hx := C.1
  have hb := C.2.1
  have hown := C.2.2.2.1
  have hts := C.2.2.2.2.1
  unfold f_X8_fault at hf
  refine lv_iload_n (pc := 0) hx hb dX8_fault_0 rfl (lv_at hl 1 rfl) ?_
  refine lv_iconst (pc := 1) (v := 1) hx hb dX8_fault_1 ic_1 ?_
  obtain ⟨r1, hq, hf⟩ := bind1_some hf
  refine fin2_i (wl_X8_fault cA a x_stale x_finding land_flaw land_cells land_columns land_rows houses_flaw houses_number) (run_S (rest := []) (pc := 2) (As := [.int x1, .int (1 : Int32)]) C mf_X8_90 (c_X8_isUpTo l D cA  x1 (1 : Int32) r1 hq H.size) rfl rfl ⟨(Nat.le_of_ble_eq_true rfl), (Nat.le_of_ble_eq_true rfl)⟩ (preS_of C hP hD [] rfl (pl_nd pv_23)) rfl hl.1 rfl (Nat.le_of_ble_eq_true rfl) dX8_fault_2 ⟨Nat.zero_le _, Nat.zero_le _⟩) hP hD hS hA [] [0, 1, 2] rfl rfl rfl rfl pv_23 (fun H locs hP hS => ?_)
  refine lv_if_ne (pc := 5) (tgt := 11) hx hb dX8_fault_5 (by decide) (fun hc => ?_) (fun hc => ?_)
  · have hf := (if_neg hc).symm.trans hf
    refine lv_iload_n (pc := 11) hx hb dX8_fault_11 rfl (lv_at hl 1 rfl) ?_
    refine lv_if_ne (pc := 12) (tgt := 25) hx hb dX8_fault_12 (by decide) (fun hc => ?_) (fun hc => ?_)
    · have hf := (if_neg hc).symm.trans hf
      refine lv_aload_n (pc := 25) hx hb dX8_fault_25 rfl (lv_at hl 0 rfl) ?_
      refine g_get (pc := 26) C fg_X8_28 hP 0 rfl rfl dX8_fault_26 ?_
      refine g_get (pc := 29) C fg_X8_107 hP 2 rfl rfl dX8_fault_29 ?_
      have hf := Option.some.inj hf
      subst hf
      exact ret_i C hr hlk hP hS dX8_fault_32
    · have hf := (if_pos hc).symm.trans hf
      refine lv_aload_n (pc := 15) hx hb dX8_fault_15 rfl (lv_at hl 0 rfl) ?_
      refine g_get (pc := 16) C fg_X8_21 hP 0 rfl rfl dX8_fault_16 ?_
      refine g_get (pc := 19) C fg_X8_104 hP 1 rfl rfl dX8_fault_19 ?_
      refine lv_goto (pc := 22) (tgt := 32) hx hb dX8_fault_22 (by decide) ?_
      have hf := Option.some.inj hf
      subst hf
      exact ret_i C hr hlk hP hS dX8_fault_32
  · have hf := (if_pos hc).symm.trans hf
    refine lv_bipush (pc := 8) (v := (-2)) hx hb dX8_fault_8 bp_m2 ?_
    have hf := Option.some.inj hf
    subst hf
    exact ret_i C hr hlk hP hS dX8_fault_10
set_option maxRecDepth 100000 in
theorem c_X8_fault (l : Launch) (D : va_G) (cA : Nat → ClassId) (a : Nat → Nat) (x_stale : Int32) (x_finding : Int32) (land_flaw : Int32) (land_cells : Int32) (land_columns : Int32) (land_rows : Int32) (houses_flaw : Int32) (houses_number : Int32) (x1 : Int32) (r : Int32) (hf : f_X8_fault land_flaw houses_flaw x1 = some r) (sz : Nat) : Met l yX8_fault (Cond.code yX8_fault cX8_fault 2 (some .int) :: lw_good) rm_X8_fault (PreX D cA [.ref (a 0), .int x1] sz (wl_X8_fault cA a x_stale x_finding land_flaw land_cells land_columns land_rows houses_flaw houses_number)) (PostI D r (wl_X8_fault cA a x_stale x_finding land_flaw land_cells land_columns land_rows houses_flaw houses_number) (wl_X8_fault cA a x_stale x_finding land_flaw land_cells land_columns land_rows houses_flaw houses_number) sz) 0 0 (va_A (wl_X8_fault cA a x_stale x_finding land_flaw land_cells land_columns land_rows houses_flaw houses_number) sz) :=
  met_of (by decide) (Nat.le_of_ble_eq_true rfl) (fun p e s m args below meth c C hr hlk hA => k_X8_fault C hr hlk hA a x_stale x_finding land_flaw land_cells land_columns land_rows houses_flaw houses_number x1 r hf)
end

abbrev wl_X8_cell (cA : Nat → ClassId) (a : Nat → Nat) (x_stale : Int32) (x_finding : Int32) (land_flaw : Int32) (land_cells : Int32) (land_columns : Int32) (land_rows : Int32) (land_kinds : Nat → Int32) : va_W := [((a 0), .inr (8, [.ref (a 1), .ref (a 6), .ref (a 12), .ref (a 15), .ref (a 19), .ref (a 23), .ref (a 27), .ref (a 34), .ref (a 41), .ref (a 42), .ref (a 44), .ref (a 45), .int x_stale, .int x_finding])), ((a 6), .inr (3, [.ref (a 7), .ref (a 8), .ref (a 9), .ref (a 10), .ref (a 11), .int land_flaw, .int land_cells, .int land_columns, .int land_rows])), ((a 7), .inl (cA 0, 36, .inl land_kinds))]
abbrev rm_X8_cell : Room := { frames := 1, cells := 0, slots := 0, locals := 21 }
section
variable {p : Program} {l : Launch} {e : Env} {s : State} {m : MethodId} {args : Array Value} {below : List Frame} {meth : Method} {c : Code} {D : va_G} {cA : Nat → ClassId} {ws0 : va_W} {sz : Nat} {A : Nat → Prop} {Q : State → Prop}
def f_X8_cell (land_cells : Int32) (land_kinds : Nat → Int32) (x1 : Int32) : Option (Int32) :=
  bind1 (f_X8_isUpTo x1 (35 : Int32)) (fun r1 => if r1 = 0 then (some (-2 : Int32)) else (if land_cells ≤ x1 then (some (-1 : Int32)) else (gd (inb x1 36) (some (land_kinds x1.toNatClampNeg)))))
set_option maxHeartbeats 4000000 in
set_option maxRecDepth 100000 in
theorem k_X8_cell (C : Cx RX8 cX8_cell 2 D cA p s m args c) (hr : meth.sig.returnType = (some .int)) (hlk : meth.locks = false) (hA : ∀ q, s.heap.size ≤ q → va_A ws0 sz q) (a : Nat → Nat) (x_stale : Int32) (x_finding : Int32) (land_flaw : Int32) (land_cells : Int32) (land_columns : Int32) (land_rows : Int32) (land_kinds : Nat → Int32) (x1 : Int32) (r : Int32) (hf : f_X8_cell land_cells land_kinds x1 = some r) : At p l e rm_X8_cell s m args below meth c D (va_A ws0 sz) 0 0 (MQ below (PostI D r ws0 (wl_X8_cell cA a x_stale x_finding land_flaw land_cells land_columns land_rows land_kinds) sz) args s 0 0 (va_A ws0 sz)) 2 0 (wl_X8_cell cA a x_stale x_finding land_flaw land_cells land_columns land_rows land_kinds) [(0, .ref (a 0)), (1, .int x1)] [] := by
  intro H locs ls hP hD hS hl
  have hx := C.1
  have hb := C.2.1
  have hown := C.2.2.2.1
  have hts := C.2.2.2.2.1
  unfold f_X8_cell at hf
  refine lv_iload_n (pc := 0) hx hb dX8_cell_0 rfl (lv_at hl 1 rfl) ?_
  refine lv_bipush (pc := 1) (v := 35) hx hb dX8_cell_1 bp_35 ?_
  obtain ⟨r1, hq, hf⟩ := bind1_some hf
  refine fin2_i (wl_X8_cell cA a x_stale x_finding land_flaw land_cells land_columns land_rows land_kinds) (run_S (rest := []) (pc := 3) (As := [.int x1, .int (35 : Int32)]) C mf_X8_90 (c_X8_isUpTo l D cA  x1 (35 : Int32) r1 hq H.size) rfl rfl ⟨(Nat.le_of_ble_eq_true rfl), (Nat.le_of_ble_eq_true rfl)⟩ (preS_of C hP hD [] rfl (pl_nd pv_23)) rfl hl.1 rfl (Nat.le_of_ble_eq_true rfl) dX8_cell_3 ⟨Nat.zero_le _, Nat.zero_le _⟩) hP hD hS hA [] [0, 1, 2] rfl rfl rfl rfl pv_23 (fun H locs hP hS => ?_)
  refine lv_if_ne (pc := 6) (tgt := 12) hx hb dX8_cell_6 (by decide) (fun hc => ?_) (fun hc => ?_)
  · have hf := (if_neg hc).symm.trans hf
    refine lv_iload_n (pc := 12) hx hb dX8_cell_12 rfl (lv_at hl 1 rfl) ?_
    refine lv_aload_n (pc := 13) hx hb dX8_cell_13 rfl (lv_at hl 0 rfl) ?_
    refine g_get (pc := 14) C fg_X8_21 hP 0 rfl rfl dX8_cell_14 ?_
    refine g_get (pc := 17) C fg_X8_108 hP 1 rfl rfl dX8_cell_17 ?_
    refine lv_icmp_ge (pc := 20) (tgt := 35) hx hb dX8_cell_20 (by decide) (fun hc => ?_) (fun hc => ?_)
    · have hf := (if_pos hc).symm.trans hf
      refine lv_iconst (pc := 35) (v := (-1)) hx hb dX8_cell_35 ic_m1 ?_
      have hf := Option.some.inj hf
      subst hf
      exact ret_i C hr hlk hP hS dX8_cell_36
    · have hf := (if_neg hc).symm.trans hf
      refine lv_aload_n (pc := 23) hx hb dX8_cell_23 rfl (lv_at hl 0 rfl) ?_
      refine g_get (pc := 24) C fg_X8_21 hP 0 rfl rfl dX8_cell_24 ?_
      refine g_get (pc := 27) C fg_X8_111 hP 1 rfl rfl dX8_cell_27 ?_
      refine lv_iload_n (pc := 30) hx hb dX8_cell_30 rfl (lv_at hl 1 rfl) ?_
      obtain ⟨hg, hf⟩ := gd_some hf
      refine g_iald (pc := 31) C hP 2 rfl hg dX8_cell_31 ?_
      refine lv_goto (pc := 32) (tgt := 36) hx hb dX8_cell_32 (by decide) ?_
      have hf := Option.some.inj hf
      subst hf
      exact ret_i C hr hlk hP hS dX8_cell_36
  · have hf := (if_pos hc).symm.trans hf
    refine lv_bipush (pc := 9) (v := (-2)) hx hb dX8_cell_9 bp_m2 ?_
    have hf := Option.some.inj hf
    subst hf
    exact ret_i C hr hlk hP hS dX8_cell_11
set_option maxRecDepth 100000 in
theorem c_X8_cell (l : Launch) (D : va_G) (cA : Nat → ClassId) (a : Nat → Nat) (x_stale : Int32) (x_finding : Int32) (land_flaw : Int32) (land_cells : Int32) (land_columns : Int32) (land_rows : Int32) (land_kinds : Nat → Int32) (x1 : Int32) (r : Int32) (hf : f_X8_cell land_cells land_kinds x1 = some r) (sz : Nat) : Met l yX8_cell (Cond.code yX8_cell cX8_cell 2 (some .int) :: lw_good) rm_X8_cell (PreX D cA [.ref (a 0), .int x1] sz (wl_X8_cell cA a x_stale x_finding land_flaw land_cells land_columns land_rows land_kinds)) (PostI D r (wl_X8_cell cA a x_stale x_finding land_flaw land_cells land_columns land_rows land_kinds) (wl_X8_cell cA a x_stale x_finding land_flaw land_cells land_columns land_rows land_kinds) sz) 0 0 (va_A (wl_X8_cell cA a x_stale x_finding land_flaw land_cells land_columns land_rows land_kinds) sz) :=
  met_of (by decide) (Nat.le_of_ble_eq_true rfl) (fun p e s m args below meth c C hr hlk hA => k_X8_cell C hr hlk hA a x_stale x_finding land_flaw land_cells land_columns land_rows land_kinds x1 r hf)
end

abbrev wl_X8_isHouse (cA : Nat → ClassId) (a : Nat → Nat) (x_stale : Int32) (x_finding : Int32) (houses_flaw : Int32) (houses_number : Int32) : va_W := [((a 0), .inr (8, [.ref (a 1), .ref (a 6), .ref (a 12), .ref (a 15), .ref (a 19), .ref (a 23), .ref (a 27), .ref (a 34), .ref (a 41), .ref (a 42), .ref (a 44), .ref (a 45), .int x_stale, .int x_finding])), ((a 12), .inr (1, [.ref (a 13), .ref (a 14), .int houses_flaw, .int houses_number]))]
abbrev rm_X8_isHouse : Room := { frames := 1, cells := 0, slots := 0, locals := 21 }
section
variable {p : Program} {l : Launch} {e : Env} {s : State} {m : MethodId} {args : Array Value} {below : List Frame} {meth : Method} {c : Code} {D : va_G} {cA : Nat → ClassId} {ws0 : va_W} {sz : Nat} {A : Nat → Prop} {Q : State → Prop}
def f_X8_isHouse (houses_number : Int32) (x1 : Int32) : Option (Int32) :=
  bind1 (f_X8_isUpTo x1 (houses_number - (1 : Int32))) (fun r1 => gd (isz r1) (some r1))
set_option maxHeartbeats 4000000 in
set_option maxRecDepth 100000 in
theorem k_X8_isHouse (C : Cx RX8 cX8_isHouse 2 D cA p s m args c) (hr : meth.sig.returnType = (some .boolean)) (hlk : meth.locks = false) (hA : ∀ q, s.heap.size ≤ q → va_A ws0 sz q) (a : Nat → Nat) (x_stale : Int32) (x_finding : Int32) (houses_flaw : Int32) (houses_number : Int32) (x1 : Int32) (r : Int32) (hf : f_X8_isHouse houses_number x1 = some r) : At p l e rm_X8_isHouse s m args below meth c D (va_A ws0 sz) 0 0 (MQ below (PostI D r ws0 (wl_X8_isHouse cA a x_stale x_finding houses_flaw houses_number) sz) args s 0 0 (va_A ws0 sz)) 2 0 (wl_X8_isHouse cA a x_stale x_finding houses_flaw houses_number) [(0, .ref (a 0)), (1, .int x1)] [] := by
  intro H locs ls hP hD hS hl
  have hx := C.1
  have hb := C.2.1
  have hown := C.2.2.2.1
  have hts := C.2.2.2.2.1
  unfold f_X8_isHouse at hf
  refine lv_iload_n (pc := 0) hx hb dX8_isHouse_0 rfl (lv_at hl 1 rfl) ?_
  refine lv_aload_n (pc := 1) hx hb dX8_isHouse_1 rfl (lv_at hl 0 rfl) ?_
  refine g_get (pc := 2) C fg_X8_28 hP 0 rfl rfl dX8_isHouse_2 ?_
  refine g_get (pc := 5) C fg_X8_179 hP 1 rfl rfl dX8_isHouse_5 ?_
  refine lv_iconst (pc := 8) (v := 1) hx hb dX8_isHouse_8 ic_1 ?_
  refine lv_isub (pc := 9) hx hb dX8_isHouse_9 ?_
  obtain ⟨r1, hq, hf⟩ := bind1_some hf
  refine fin2_i (wl_X8_isHouse cA a x_stale x_finding houses_flaw houses_number) (run_S (rest := []) (pc := 10) (As := [.int x1, .int (houses_number - (1 : Int32))]) C mf_X8_90 (c_X8_isUpTo l D cA  x1 (houses_number - (1 : Int32)) r1 hq H.size) rfl rfl ⟨(Nat.le_of_ble_eq_true rfl), (Nat.le_of_ble_eq_true rfl)⟩ (preS_of C hP hD [] rfl (pl_nd pv_0)) rfl hl.1 rfl (Nat.le_of_ble_eq_true rfl) dX8_isHouse_10 ⟨Nat.zero_le _, Nat.zero_le _⟩) hP hD hS hA [] [0, 1] rfl rfl rfl rfl pv_0 (fun H locs hP hS => ?_)
  obtain ⟨hg, hf⟩ := gd_some hf
  have hf := Option.some.inj hf
  subst hf
  exact ret_z C hr hlk hg hP hS dX8_isHouse_13
set_option maxRecDepth 100000 in
theorem c_X8_isHouse (l : Launch) (D : va_G) (cA : Nat → ClassId) (a : Nat → Nat) (x_stale : Int32) (x_finding : Int32) (houses_flaw : Int32) (houses_number : Int32) (x1 : Int32) (r : Int32) (hf : f_X8_isHouse houses_number x1 = some r) (sz : Nat) : Met l yX8_isHouse (Cond.code yX8_isHouse cX8_isHouse 2 (some .boolean) :: lw_good) rm_X8_isHouse (PreX D cA [.ref (a 0), .int x1] sz (wl_X8_isHouse cA a x_stale x_finding houses_flaw houses_number)) (PostI D r (wl_X8_isHouse cA a x_stale x_finding houses_flaw houses_number) (wl_X8_isHouse cA a x_stale x_finding houses_flaw houses_number) sz) 0 0 (va_A (wl_X8_isHouse cA a x_stale x_finding houses_flaw houses_number) sz) :=
  met_of (by decide) (Nat.le_of_ble_eq_true rfl) (fun p e s m args below meth c C hr hlk hA => k_X8_isHouse C hr hlk hA a x_stale x_finding houses_flaw houses_number x1 r hf)
end

abbrev wl_X8_house (cA : Nat → ClassId) (a : Nat → Nat) (x_stale : Int32) (x_finding : Int32) (houses_flaw : Int32) (houses_number : Int32) (houses_places : Nat → Int32) (houses_dues : Nat → Int32) : va_W := [((a 0), .inr (8, [.ref (a 1), .ref (a 6), .ref (a 12), .ref (a 15), .ref (a 19), .ref (a 23), .ref (a 27), .ref (a 34), .ref (a 41), .ref (a 42), .ref (a 44), .ref (a 45), .int x_stale, .int x_finding])), ((a 12), .inr (1, [.ref (a 13), .ref (a 14), .int houses_flaw, .int houses_number])), ((a 13), .inl (cA 0, 8, .inl houses_places)), ((a 14), .inl (cA 0, 8, .inl houses_dues))]
abbrev rm_X8_house : Room := { frames := 2, cells := 0, slots := 0, locals := 42 }
section
variable {p : Program} {l : Launch} {e : Env} {s : State} {m : MethodId} {args : Array Value} {below : List Frame} {meth : Method} {c : Code} {D : va_G} {cA : Nat → ClassId} {ws0 : va_W} {sz : Nat} {A : Nat → Prop} {Q : State → Prop}
def f_X8_house (houses_number : Int32) (houses_places : Nat → Int32) (houses_dues : Nat → Int32) (x1 : Int32) (x2 : Int32) : Option (Int32) :=
  bind1 (f_X8_isHouse houses_number x1) (fun r1 => if r1 = 0 then (some (-2 : Int32)) else (bind1 (f_X8_isUpTo x2 (1 : Int32)) (fun r2 => if r2 = 0 then (some (-2 : Int32)) else (if x2 = 0 then (gd (inb x1 8) (some (houses_places x1.toNatClampNeg))) else (gd (inb x1 8) (some (houses_dues x1.toNatClampNeg)))))))
set_option maxHeartbeats 4000000 in
set_option maxRecDepth 100000 in
theorem k_X8_house (C : Cx RX8 cX8_house 3 D cA p s m args c) (hr : meth.sig.returnType = (some .int)) (hlk : meth.locks = false) (hA : ∀ q, s.heap.size ≤ q → va_A ws0 sz q) (a : Nat → Nat) (x_stale : Int32) (x_finding : Int32) (houses_flaw : Int32) (houses_number : Int32) (houses_places : Nat → Int32) (houses_dues : Nat → Int32) (x1 : Int32) (x2 : Int32) (r : Int32) (hf : f_X8_house houses_number houses_places houses_dues x1 x2 = some r) : At p l e rm_X8_house s m args below meth c D (va_A ws0 sz) 0 0 (MQ below (PostI D r ws0 (wl_X8_house cA a x_stale x_finding houses_flaw houses_number houses_places houses_dues) sz) args s 0 0 (va_A ws0 sz)) 3 0 (wl_X8_house cA a x_stale x_finding houses_flaw houses_number houses_places houses_dues) [(0, .ref (a 0)), (1, .int x1), (2, .int x2)] [] := by
  intro H locs ls hP hD hS hl
  have hx := C.1
  have hb := C.2.1
  have hown := C.2.2.2.1
  have hts := C.2.2.2.2.1
  unfold f_X8_house at hf
  refine lv_aload_n (pc := 0) hx hb dX8_house_0 rfl (lv_at hl 0 rfl) ?_
  refine lv_iload_n (pc := 1) hx hb dX8_house_1 rfl (lv_at hl 1 rfl) ?_
  obtain ⟨r1, hq, hf⟩ := bind1_some hf
  refine fin2_i (wl_X8_house cA a x_stale x_finding houses_flaw houses_number houses_places houses_dues) (run_V (rest := []) (pc := 2) (As := [.int x1]) C mf_X8_114 (c_X8_isHouse l D cA a x_stale x_finding houses_flaw houses_number x1 r1 hq H.size) rfl rfl ⟨(Nat.le_of_ble_eq_true rfl), (Nat.le_of_ble_eq_true rfl)⟩ (preV_of C hP hD [0, 1] rfl (pl_nd pv_24) 0 rfl rfl rfl) rfl hl.1 rfl (Nat.le_of_ble_eq_true rfl) dX8_house_2 ⟨Nat.zero_le _, Nat.zero_le _⟩) hP hD hS hA [0, 1] [2, 3] rfl rfl rfl rfl pv_24 (fun H locs hP hS => ?_)
  refine lv_if_eq (pc := 5) (tgt := 16) hx hb dX8_house_5 (by decide) (fun hc => ?_) (fun hc => ?_)
  · have hf := (if_pos hc).symm.trans hf
    refine lv_bipush (pc := 16) (v := (-2)) hx hb dX8_house_16 bp_m2 ?_
    have hf := Option.some.inj hf
    subst hf
    exact ret_i C hr hlk hP hS dX8_house_18
  · have hf := (if_neg hc).symm.trans hf
    refine lv_iload_n (pc := 8) hx hb dX8_house_8 rfl (lv_at hl 2 rfl) ?_
    refine lv_iconst (pc := 9) (v := 1) hx hb dX8_house_9 ic_1 ?_
    obtain ⟨r2, hq, hf⟩ := bind1_some hf
    refine fin2_i (wl_X8_house cA a x_stale x_finding houses_flaw houses_number houses_places houses_dues) (run_S (rest := []) (pc := 10) (As := [.int x2, .int (1 : Int32)]) C mf_X8_90 (c_X8_isUpTo l D cA  x2 (1 : Int32) r2 hq H.size) rfl rfl ⟨(Nat.le_of_ble_eq_true rfl), (Nat.le_of_ble_eq_true rfl)⟩ (preS_of C hP hD [] rfl (pl_nd pv_25)) rfl hl.1 rfl (Nat.le_of_ble_eq_true rfl) dX8_house_10 ⟨Nat.zero_le _, Nat.zero_le _⟩) hP hD hS hA [] [0, 1, 2, 3] rfl rfl rfl rfl pv_25 (fun H locs hP hS => ?_)
    refine lv_if_ne (pc := 13) (tgt := 19) hx hb dX8_house_13 (by decide) (fun hc => ?_) (fun hc => ?_)
    · have hf := (if_neg hc).symm.trans hf
      refine lv_iload_n (pc := 19) hx hb dX8_house_19 rfl (lv_at hl 2 rfl) ?_
      refine lv_if_ne (pc := 20) (tgt := 35) hx hb dX8_house_20 (by decide) (fun hc => ?_) (fun hc => ?_)
      · have hf := (if_neg hc).symm.trans hf
        refine lv_aload_n (pc := 35) hx hb dX8_house_35 rfl (lv_at hl 0 rfl) ?_
        refine g_get (pc := 36) C fg_X8_28 hP 0 rfl rfl dX8_house_36 ?_
        refine g_get (pc := 39) C fg_X8_120 hP 1 rfl rfl dX8_house_39 ?_
        refine lv_iload_n (pc := 42) hx hb dX8_house_42 rfl (lv_at hl 1 rfl) ?_
        obtain ⟨hg, hf⟩ := gd_some hf
        refine g_iald (pc := 43) C hP 3 rfl hg dX8_house_43 ?_
        have hf := Option.some.inj hf
        subst hf
        exact ret_i C hr hlk hP hS dX8_house_44
      · have hf := (if_pos hc).symm.trans hf
        refine lv_aload_n (pc := 23) hx hb dX8_house_23 rfl (lv_at hl 0 rfl) ?_
        refine g_get (pc := 24) C fg_X8_28 hP 0 rfl rfl dX8_house_24 ?_
        refine g_get (pc := 27) C fg_X8_117 hP 1 rfl rfl dX8_house_27 ?_
        refine lv_iload_n (pc := 30) hx hb dX8_house_30 rfl (lv_at hl 1 rfl) ?_
        obtain ⟨hg, hf⟩ := gd_some hf
        refine g_iald (pc := 31) C hP 2 rfl hg dX8_house_31 ?_
        refine lv_goto (pc := 32) (tgt := 44) hx hb dX8_house_32 (by decide) ?_
        have hf := Option.some.inj hf
        subst hf
        exact ret_i C hr hlk hP hS dX8_house_44
    · have hf := (if_pos hc).symm.trans hf
      refine lv_bipush (pc := 16) (v := (-2)) hx hb dX8_house_16 bp_m2 ?_
      have hf := Option.some.inj hf
      subst hf
      exact ret_i C hr hlk hP hS dX8_house_18
set_option maxRecDepth 100000 in
theorem c_X8_house (l : Launch) (D : va_G) (cA : Nat → ClassId) (a : Nat → Nat) (x_stale : Int32) (x_finding : Int32) (houses_flaw : Int32) (houses_number : Int32) (houses_places : Nat → Int32) (houses_dues : Nat → Int32) (x1 : Int32) (x2 : Int32) (r : Int32) (hf : f_X8_house houses_number houses_places houses_dues x1 x2 = some r) (sz : Nat) : Met l yX8_house (Cond.code yX8_house cX8_house 3 (some .int) :: lw_good) rm_X8_house (PreX D cA [.ref (a 0), .int x1, .int x2] sz (wl_X8_house cA a x_stale x_finding houses_flaw houses_number houses_places houses_dues)) (PostI D r (wl_X8_house cA a x_stale x_finding houses_flaw houses_number houses_places houses_dues) (wl_X8_house cA a x_stale x_finding houses_flaw houses_number houses_places houses_dues) sz) 0 0 (va_A (wl_X8_house cA a x_stale x_finding houses_flaw houses_number houses_places houses_dues) sz) :=
  met_of (by decide) (Nat.le_of_ble_eq_true rfl) (fun p e s m args below meth c C hr hlk hA => k_X8_house C hr hlk hA a x_stale x_finding houses_flaw houses_number houses_places houses_dues x1 x2 r hf)
end

abbrev wl_X8_set (cA : Nat → ClassId) (a : Nat → Nat) (x_stale : Int32) (x_finding : Int32) (walks_start : Int32) (walks_frost : Int32) (walks_present : Int32) (walks_raked : Int32) : va_W := [((a 0), .inr (8, [.ref (a 1), .ref (a 6), .ref (a 12), .ref (a 15), .ref (a 19), .ref (a 23), .ref (a 27), .ref (a 34), .ref (a 41), .ref (a 42), .ref (a 44), .ref (a 45), .int x_stale, .int x_finding])), ((a 27), .inr (7, [.ref (a 6), .ref (a 15), .ref (a 19), .ref (a 28), .ref (a 29), .ref (a 30), .ref (a 31), .ref (a 32), .ref (a 33), .int walks_start, .int walks_frost, .int walks_present, .int walks_raked]))]
abbrev rm_X8_set : Room := { frames := 1, cells := 0, slots := 0, locals := 21 }
section
variable {p : Program} {l : Launch} {e : Env} {s : State} {m : MethodId} {args : Array Value} {below : List Frame} {meth : Method} {c : Code} {D : va_G} {cA : Nat → ClassId} {ws0 : va_W} {sz : Nat} {A : Nat → Prop} {Q : State → Prop}
def f_X8_set_b67 (x_stale : Int32) (walks_start : Int32) (walks_frost : Int32) (x3 : Int32) : Option (Int32 × Int32 × Int32 × Int32) :=
  some (x3, (1 : Int32), walks_start, walks_frost)
set_option maxHeartbeats 4000000 in
set_option maxRecDepth 100000 in
theorem k_X8_set_b67 (C : Cx RX8 cX8_set 4 D cA p s m args c) (hr : meth.sig.returnType = (some .int)) (hlk : meth.locks = false) (hA : ∀ q, s.heap.size ≤ q → va_A ws0 sz q) (a : Nat → Nat) (x_stale : Int32) (x_finding : Int32) (walks_start : Int32) (walks_frost : Int32) (walks_present : Int32) (walks_raked : Int32) (x3 : Int32) (r : Int32 × Int32 × Int32 × Int32) (hf : f_X8_set_b67 x_stale walks_start walks_frost x3 = some r) : At p l e rm_X8_set s m args below meth c D (va_A ws0 sz) 0 0 (MQ below (PostI D r.1 ws0 (wl_X8_set cA a (r.2.1) x_finding (r.2.2.1) (r.2.2.2) walks_present walks_raked) sz) args s 0 0 (va_A ws0 sz)) 4 67 (wl_X8_set cA a x_stale x_finding walks_start walks_frost walks_present walks_raked) [(0, .ref (a 0)), (3, .int x3)] [] := by
  intro H locs ls hP hD hS hl
  have hx := C.1
  have hb := C.2.1
  have hown := C.2.2.2.1
  have hts := C.2.2.2.2.1
  unfold f_X8_set_b67 at hf
  refine lv_aload_n (pc := 67) hx hb dX8_set_67 rfl (lv_at hl 0 rfl) ?_
  refine lv_iconst (pc := 68) (v := 1) hx hb dX8_set_68 ic_1 ?_
  refine g_put (pc := 69) C fg_X8_82 ft_X8_12 hP hD hS 0 rfl (by decide) rfl (Nat.le_of_ble_eq_true rfl) dX8_set_69 (fun H locs hP hD hS => ?_)
  have hP : va_P D classes (wl_X8_set cA a (1 : Int32) x_finding walks_start walks_frost walks_present walks_raked) H := hP
  have hD : va_D (va_A ws0 sz) (wl_X8_set cA a (1 : Int32) x_finding walks_start walks_frost walks_present walks_raked) := hD
  refine lv_iload_n (pc := 72) hx hb dX8_set_72 rfl (lv_at hl 1 rfl) ?_
  have hf := Option.some.inj hf
  subst hf
  exact ret_i C hr hlk hP hS dX8_set_73
def f_X8_set_b19 (x_stale : Int32) (walks_start : Int32) (walks_frost : Int32) (x1 : Int32) (x2 : Int32) (s0 : Int32) (s1 : Int32) : Option (Int32 × Int32 × Int32 × Int32) :=
  bind1 (f_X8_isUpTo s1 s0) (fun r2 => if r2 = 0 then (some ((-2 : Int32), x_stale, walks_start, walks_frost)) else (if x1 = 0 then (f_X8_set_b67 x_stale x2 walks_frost walks_start) else (f_X8_set_b67 x_stale walks_start x2 walks_frost)))
set_option maxHeartbeats 4000000 in
set_option maxRecDepth 100000 in
theorem k_X8_set_b19 (C : Cx RX8 cX8_set 4 D cA p s m args c) (hr : meth.sig.returnType = (some .int)) (hlk : meth.locks = false) (hA : ∀ q, s.heap.size ≤ q → va_A ws0 sz q) (a : Nat → Nat) (x_stale : Int32) (x_finding : Int32) (walks_start : Int32) (walks_frost : Int32) (walks_present : Int32) (walks_raked : Int32) (x1 : Int32) (x2 : Int32) (s0 : Int32) (s1 : Int32) (r : Int32 × Int32 × Int32 × Int32) (hf : f_X8_set_b19 x_stale walks_start walks_frost x1 x2 s0 s1 = some r) : At p l e rm_X8_set s m args below meth c D (va_A ws0 sz) 0 0 (MQ below (PostI D r.1 ws0 (wl_X8_set cA a (r.2.1) x_finding (r.2.2.1) (r.2.2.2) walks_present walks_raked) sz) args s 0 0 (va_A ws0 sz)) 4 19 (wl_X8_set cA a x_stale x_finding walks_start walks_frost walks_present walks_raked) [(0, .ref (a 0)), (1, .int x1), (2, .int x2)] [.int s0, .int s1] := by
  intro H locs ls hP hD hS hl
  have hx := C.1
  have hb := C.2.1
  have hown := C.2.2.2.1
  have hts := C.2.2.2.2.1
  unfold f_X8_set_b19 at hf
  obtain ⟨r2, hq, hf⟩ := bind1_some hf
  refine fin2_i (wl_X8_set cA a x_stale x_finding walks_start walks_frost walks_present walks_raked) (run_S (rest := []) (pc := 19) (As := [.int s1, .int s0]) C mf_X8_90 (c_X8_isUpTo l D cA  s1 s0 r2 hq H.size) rfl rfl ⟨(Nat.le_of_ble_eq_true rfl), (Nat.le_of_ble_eq_true rfl)⟩ (preS_of C hP hD [] rfl (pl_nd pv_0)) rfl hl.1 rfl (Nat.le_of_ble_eq_true rfl) dX8_set_19 ⟨Nat.zero_le _, Nat.zero_le _⟩) hP hD hS hA [] [0, 1] rfl rfl rfl rfl pv_0 (fun H locs hP hS => ?_)
  refine lv_if_ne (pc := 22) (tgt := 28) hx hb dX8_set_22 (by decide) (fun hc => ?_) (fun hc => ?_)
  · have hf := (if_neg hc).symm.trans hf
    refine lv_iload_n (pc := 28) hx hb dX8_set_28 rfl (lv_at hl 1 rfl) ?_
    refine lv_if_ne (pc := 29) (tgt := 51) hx hb dX8_set_29 (by decide) (fun hc => ?_) (fun hc => ?_)
    · have hf := (if_neg hc).symm.trans hf
      refine lv_aload_n (pc := 51) hx hb dX8_set_51 rfl (lv_at hl 0 rfl) ?_
      refine g_get (pc := 52) C fg_X8_50 hP 0 rfl rfl dX8_set_52 ?_
      refine g_get (pc := 55) C fg_X8_126 hP 1 rfl rfl dX8_set_55 ?_
      refine lv_istore_n (pc := 58) (lv' := [(3, .int walks_frost), (0, .ref (a 0)), (1, .int x1), (2, .int x2)]) hx hb dX8_set_58 rfl hl (Nat.le_of_ble_eq_true rfl) rfl (fun ls hl => ?_)
      refine lv_aload_n (pc := 59) hx hb dX8_set_59 rfl (lv_at hl 1 rfl) ?_
      refine g_get (pc := 60) C fg_X8_50 hP 0 rfl rfl dX8_set_60 ?_
      refine lv_iload_n (pc := 63) hx hb dX8_set_63 rfl (lv_at hl 3 rfl) ?_
      refine g_put (pc := 64) C fg_X8_126 ft_X7_10 hP hD hS 1 rfl rfl rfl (Nat.le_of_ble_eq_true rfl) dX8_set_64 (fun H locs hP hD hS => ?_)
      have hP : va_P D classes (wl_X8_set cA a x_stale x_finding walks_start x2 walks_present walks_raked) H := hP
      have hD : va_D (va_A ws0 sz) (wl_X8_set cA a x_stale x_finding walks_start x2 walks_present walks_raked) := hD
      exact k_X8_set_b67 C hr hlk hA a x_stale x_finding walks_start x2 walks_present walks_raked walks_frost r hf H locs ls hP hD hS (lv_sub hl [1, 0] rfl)
    · have hf := (if_pos hc).symm.trans hf
      refine lv_aload_n (pc := 32) hx hb dX8_set_32 rfl (lv_at hl 0 rfl) ?_
      refine g_get (pc := 33) C fg_X8_50 hP 0 rfl rfl dX8_set_33 ?_
      refine g_get (pc := 36) C fg_X8_123 hP 1 rfl rfl dX8_set_36 ?_
      refine lv_istore_n (pc := 39) (lv' := [(3, .int walks_start), (0, .ref (a 0)), (1, .int x1), (2, .int x2)]) hx hb dX8_set_39 rfl hl (Nat.le_of_ble_eq_true rfl) rfl (fun ls hl => ?_)
      refine lv_aload_n (pc := 40) hx hb dX8_set_40 rfl (lv_at hl 1 rfl) ?_
      refine g_get (pc := 41) C fg_X8_50 hP 0 rfl rfl dX8_set_41 ?_
      refine lv_iload_n (pc := 44) hx hb dX8_set_44 rfl (lv_at hl 3 rfl) ?_
      refine g_put (pc := 45) C fg_X8_123 ft_X7_9 hP hD hS 1 rfl rfl rfl (Nat.le_of_ble_eq_true rfl) dX8_set_45 (fun H locs hP hD hS => ?_)
      have hP : va_P D classes (wl_X8_set cA a x_stale x_finding x2 walks_frost walks_present walks_raked) H := hP
      have hD : va_D (va_A ws0 sz) (wl_X8_set cA a x_stale x_finding x2 walks_frost walks_present walks_raked) := hD
      refine lv_goto (pc := 48) (tgt := 67) hx hb dX8_set_48 (by decide) ?_
      exact k_X8_set_b67 C hr hlk hA a x_stale x_finding x2 walks_frost walks_present walks_raked walks_start r hf H locs ls hP hD hS (lv_sub hl [1, 0] rfl)
  · have hf := (if_pos hc).symm.trans hf
    refine lv_bipush (pc := 25) (v := (-2)) hx hb dX8_set_25 bp_m2 ?_
    have hf := Option.some.inj hf
    subst hf
    exact ret_i C hr hlk hP hS dX8_set_27
def f_X8_set (x_stale : Int32) (walks_start : Int32) (walks_frost : Int32) (x1 : Int32) (x2 : Int32) : Option (Int32 × Int32 × Int32 × Int32) :=
  bind1 (f_X8_isUpTo x1 (1 : Int32)) (fun r1 => if r1 = 0 then (some ((-2 : Int32), x_stale, walks_start, walks_frost)) else (if x1 = 0 then (f_X8_set_b19 x_stale walks_start walks_frost x1 x2 (5 : Int32) x2) else (f_X8_set_b19 x_stale walks_start walks_frost x1 x2 (10 : Int32) x2)))
set_option maxHeartbeats 4000000 in
set_option maxRecDepth 100000 in
theorem k_X8_set (C : Cx RX8 cX8_set 4 D cA p s m args c) (hr : meth.sig.returnType = (some .int)) (hlk : meth.locks = false) (hA : ∀ q, s.heap.size ≤ q → va_A ws0 sz q) (a : Nat → Nat) (x_stale : Int32) (x_finding : Int32) (walks_start : Int32) (walks_frost : Int32) (walks_present : Int32) (walks_raked : Int32) (x1 : Int32) (x2 : Int32) (r : Int32 × Int32 × Int32 × Int32) (hf : f_X8_set x_stale walks_start walks_frost x1 x2 = some r) : At p l e rm_X8_set s m args below meth c D (va_A ws0 sz) 0 0 (MQ below (PostI D r.1 ws0 (wl_X8_set cA a (r.2.1) x_finding (r.2.2.1) (r.2.2.2) walks_present walks_raked) sz) args s 0 0 (va_A ws0 sz)) 4 0 (wl_X8_set cA a x_stale x_finding walks_start walks_frost walks_present walks_raked) [(0, .ref (a 0)), (1, .int x1), (2, .int x2)] [] := by
  intro H locs ls hP hD hS hl
  have hx := C.1
  have hb := C.2.1
  have hown := C.2.2.2.1
  have hts := C.2.2.2.2.1
  unfold f_X8_set at hf
  refine lv_iload_n (pc := 0) hx hb dX8_set_0 rfl (lv_at hl 1 rfl) ?_
  refine lv_iconst (pc := 1) (v := 1) hx hb dX8_set_1 ic_1 ?_
  obtain ⟨r1, hq, hf⟩ := bind1_some hf
  refine fin2_i (wl_X8_set cA a x_stale x_finding walks_start walks_frost walks_present walks_raked) (run_S (rest := []) (pc := 2) (As := [.int x1, .int (1 : Int32)]) C mf_X8_90 (c_X8_isUpTo l D cA  x1 (1 : Int32) r1 hq H.size) rfl rfl ⟨(Nat.le_of_ble_eq_true rfl), (Nat.le_of_ble_eq_true rfl)⟩ (preS_of C hP hD [] rfl (pl_nd pv_0)) rfl hl.1 rfl (Nat.le_of_ble_eq_true rfl) dX8_set_2 ⟨Nat.zero_le _, Nat.zero_le _⟩) hP hD hS hA [] [0, 1] rfl rfl rfl rfl pv_0 (fun H locs hP hS => ?_)
  refine lv_if_eq (pc := 5) (tgt := 25) hx hb dX8_set_5 (by decide) (fun hc => ?_) (fun hc => ?_)
  · have hf := (if_pos hc).symm.trans hf
    refine lv_bipush (pc := 25) (v := (-2)) hx hb dX8_set_25 bp_m2 ?_
    have hf := Option.some.inj hf
    subst hf
    exact ret_i C hr hlk hP hS dX8_set_27
  · have hf := (if_neg hc).symm.trans hf
    refine lv_iload_n (pc := 8) hx hb dX8_set_8 rfl (lv_at hl 2 rfl) ?_
    refine lv_iload_n (pc := 9) hx hb dX8_set_9 rfl (lv_at hl 1 rfl) ?_
    refine lv_if_ne (pc := 10) (tgt := 17) hx hb dX8_set_10 (by decide) (fun hc => ?_) (fun hc => ?_)
    · have hf := (if_neg hc).symm.trans hf
      refine lv_bipush (pc := 17) (v := 10) hx hb dX8_set_17 bp_10 ?_
      exact k_X8_set_b19 C hr hlk hA a x_stale x_finding walks_start walks_frost walks_present walks_raked x1 x2 (10 : Int32) x2 r hf H locs ls hP hD hS hl
    · have hf := (if_pos hc).symm.trans hf
      refine lv_iconst (pc := 13) (v := 5) hx hb dX8_set_13 ic_5 ?_
      refine lv_goto (pc := 14) (tgt := 19) hx hb dX8_set_14 (by decide) ?_
      exact k_X8_set_b19 C hr hlk hA a x_stale x_finding walks_start walks_frost walks_present walks_raked x1 x2 (5 : Int32) x2 r hf H locs ls hP hD hS hl
set_option maxRecDepth 100000 in
theorem c_X8_set (l : Launch) (D : va_G) (cA : Nat → ClassId) (a : Nat → Nat) (x_stale : Int32) (x_finding : Int32) (walks_start : Int32) (walks_frost : Int32) (walks_present : Int32) (walks_raked : Int32) (x1 : Int32) (x2 : Int32) (r : Int32 × Int32 × Int32 × Int32) (hf : f_X8_set x_stale walks_start walks_frost x1 x2 = some r) (sz : Nat) : Met l yX8_set (Cond.code yX8_set cX8_set 4 (some .int) :: lw_good) rm_X8_set (PreX D cA [.ref (a 0), .int x1, .int x2] sz (wl_X8_set cA a x_stale x_finding walks_start walks_frost walks_present walks_raked)) (PostI D r.1 (wl_X8_set cA a x_stale x_finding walks_start walks_frost walks_present walks_raked) (wl_X8_set cA a (r.2.1) x_finding (r.2.2.1) (r.2.2.2) walks_present walks_raked) sz) 0 0 (va_A (wl_X8_set cA a x_stale x_finding walks_start walks_frost walks_present walks_raked) sz) :=
  met_of (by decide) (Nat.le_of_ble_eq_true rfl) (fun p e s m args below meth c C hr hlk hA => k_X8_set C hr hlk hA a x_stale x_finding walks_start walks_frost walks_present walks_raked x1 x2 r hf)
end

abbrev rm_X8_isNight : Room := { frames := 1, cells := 0, slots := 0, locals := 21 }
section
variable {p : Program} {l : Launch} {e : Env} {s : State} {m : MethodId} {args : Array Value} {below : List Frame} {meth : Method} {c : Code} {D : va_G} {cA : Nat → ClassId} {ws0 : va_W} {sz : Nat} {A : Nat → Prop} {Q : State → Prop}
def f_X8_isNight (x0 : Int32) : Option (Int32) :=
  bind1 (f_X8_isUpTo x0 (9 : Int32)) (fun r1 => gd (isz r1) (some r1))
set_option maxHeartbeats 4000000 in
set_option maxRecDepth 100000 in
theorem k_X8_isNight (C : Cx RX8 cX8_isNight 1 D cA p s m args c) (hr : meth.sig.returnType = (some .boolean)) (hlk : meth.locks = false) (hA : ∀ q, s.heap.size ≤ q → va_A ws0 sz q) (x0 : Int32) (r : Int32) (hf : f_X8_isNight x0 = some r) : At p l e rm_X8_isNight s m args below meth c D (va_A ws0 sz) 0 0 (MQ below (PostI D r ws0 ([] : va_W) sz) args s 0 0 (va_A ws0 sz)) 1 0 ([] : va_W) [(0, .int x0)] [] := by
  intro H locs ls hP hD hS hl
  have hx := C.1
  have hb := C.2.1
  have hown := C.2.2.2.1
  have hts := C.2.2.2.2.1
  unfold f_X8_isNight at hf
  refine lv_iload_n (pc := 0) hx hb dX8_isNight_0 rfl (lv_at hl 0 rfl) ?_
  refine lv_bipush (pc := 1) (v := 9) hx hb dX8_isNight_1 bp_9 ?_
  obtain ⟨r1, hq, hf⟩ := bind1_some hf
  refine fin2_i ([] : va_W) (run_S (rest := []) (pc := 3) (As := [.int x0, .int (9 : Int32)]) C mf_X8_90 (c_X8_isUpTo l D cA  x0 (9 : Int32) r1 hq H.size) rfl rfl ⟨(Nat.le_of_ble_eq_true rfl), (Nat.le_of_ble_eq_true rfl)⟩ (preS_of C hP hD [] rfl (pl_nd pv_26)) rfl hl.1 rfl (Nat.le_of_ble_eq_true rfl) dX8_isNight_3 ⟨Nat.zero_le _, Nat.zero_le _⟩) hP hD hS hA [] [] rfl rfl rfl rfl pv_26 (fun H locs hP hS => ?_)
  obtain ⟨hg, hf⟩ := gd_some hf
  have hf := Option.some.inj hf
  subst hf
  exact ret_z C hr hlk hg hP hS dX8_isNight_6
set_option maxRecDepth 100000 in
theorem c_X8_isNight (l : Launch) (D : va_G) (cA : Nat → ClassId) (x0 : Int32) (r : Int32) (hf : f_X8_isNight x0 = some r) (sz : Nat) : Met l yX8_isNight (Cond.code yX8_isNight cX8_isNight 1 (some .boolean) :: lw_good) rm_X8_isNight (PreX D cA [.int x0] sz ([] : va_W)) (PostI D r ([] : va_W) ([] : va_W) sz) 0 0 (va_A ([] : va_W) sz) :=
  met_of (by decide) (Nat.le_of_ble_eq_true rfl) (fun p e s m args below meth c C hr hlk hA => k_X8_isNight C hr hlk hA x0 r hf)
end

abbrev wl_X8_putMark (cA : Nat → ClassId) (a : Nat → Nat) (a_M a_M_nights a_M_things a_M_realms : Nat) (x_stale : Int32) (x_finding : Int32) (M_number : Int32) (M_nights : Nat → Int32) (M_things : Nat → Int32) (M_realms : Nat → Int32) : va_W := [((a 0), .inr (8, [.ref (a 1), .ref (a 6), .ref (a 12), .ref (a 15), .ref (a 19), .ref (a 23), .ref (a 27), .ref (a 34), .ref (a 41), .ref (a 42), .ref (a 44), .ref (a 45), .int x_stale, .int x_finding])), (a_M, .inr (4, [.ref a_M_nights, .ref a_M_things, .ref a_M_realms, .int M_number])), (a_M_nights, .inl (cA 0, 8, .inl M_nights)), (a_M_things, .inl (cA 0, 8, .inl M_things)), (a_M_realms, .inl (cA 0, 8, .inl M_realms))]
abbrev rm_X8_putMark : Room := { frames := 2, cells := 0, slots := 0, locals := 41 }
section
variable {p : Program} {l : Launch} {e : Env} {s : State} {m : MethodId} {args : Array Value} {below : List Frame} {meth : Method} {c : Code} {D : va_G} {cA : Nat → ClassId} {ws0 : va_W} {sz : Nat} {A : Nat → Prop} {Q : State → Prop}
def f_X8_putMark (x_stale : Int32) (M_number : Int32) (M_nights : Nat → Int32) (M_things : Nat → Int32) (M_realms : Nat → Int32) (x2 : Int32) (x3 : Int32) : Option (Int32 × Int32 × Int32 × (Nat → Int32) × (Nat → Int32) × (Nat → Int32)) :=
  bind1 (f_X8_isNight x2) (fun r1 => if r1 = 0 then (some ((-2 : Int32), x_stale, M_number, M_nights, M_things, M_realms)) else (bind1 (f_X8_isUpTo x3 (35 : Int32)) (fun r2 => if r2 = 0 then (some ((-2 : Int32), x_stale, M_number, M_nights, M_things, M_realms)) else (bind5 (f_X4_append M_number M_nights M_things M_realms x2 x3 (0 : Int32)) (fun r3 c4 c5 c6 c7 => if r3 = 0 then (some ((-4 : Int32), x_stale, c4, c5, c6, c7)) else (some (c4, (1 : Int32), c4, c5, c6, c7)))))))
set_option maxHeartbeats 4000000 in
set_option maxRecDepth 100000 in
theorem k_X8_putMark (C : Cx RX8 cX8_putMark 4 D cA p s m args c) (hr : meth.sig.returnType = (some .int)) (hlk : meth.locks = false) (hA : ∀ q, s.heap.size ≤ q → va_A ws0 sz q) (a : Nat → Nat) (a_M a_M_nights a_M_things a_M_realms : Nat) (x_stale : Int32) (x_finding : Int32) (M_number : Int32) (M_nights : Nat → Int32) (M_things : Nat → Int32) (M_realms : Nat → Int32) (x2 : Int32) (x3 : Int32) (r : Int32 × Int32 × Int32 × (Nat → Int32) × (Nat → Int32) × (Nat → Int32)) (hf : f_X8_putMark x_stale M_number M_nights M_things M_realms x2 x3 = some r) : At p l e rm_X8_putMark s m args below meth c D (va_A ws0 sz) 0 0 (MQ below (PostI D r.1 ws0 (wl_X8_putMark cA a a_M a_M_nights a_M_things a_M_realms (r.2.1) x_finding (r.2.2.1) (r.2.2.2.1) (r.2.2.2.2.1) (r.2.2.2.2.2)) sz) args s 0 0 (va_A ws0 sz)) 4 0 (wl_X8_putMark cA a a_M a_M_nights a_M_things a_M_realms x_stale x_finding M_number M_nights M_things M_realms) [(0, .ref (a 0)), (1, .ref a_M), (2, .int x2), (3, .int x3)] [] := by
  intro H locs ls hP hD hS hl
  have hx := C.1
  have hb := C.2.1
  have hown := C.2.2.2.1
  have hts := C.2.2.2.2.1
  unfold f_X8_putMark at hf
  refine lv_iload_n (pc := 0) hx hb dX8_putMark_0 rfl (lv_at hl 2 rfl) ?_
  obtain ⟨r1, hq, hf⟩ := bind1_some hf
  refine fin2_i (wl_X8_putMark cA a a_M a_M_nights a_M_things a_M_realms x_stale x_finding M_number M_nights M_things M_realms) (run_S (rest := []) (pc := 1) (As := [.int x2]) C mf_X8_149 (c_X8_isNight l D cA  x2 r1 hq H.size) rfl rfl ⟨(Nat.le_of_ble_eq_true rfl), (Nat.le_of_ble_eq_true rfl)⟩ (preS_of C hP hD [] rfl (pl_nd pv_27)) rfl hl.1 rfl (Nat.le_of_ble_eq_true rfl) dX8_putMark_1 ⟨Nat.zero_le _, Nat.zero_le _⟩) hP hD hS hA [] [0, 1, 2, 3, 4] rfl rfl rfl rfl pv_27 (fun H locs hP hS => ?_)
  refine lv_if_eq (pc := 4) (tgt := 16) hx hb dX8_putMark_4 (by decide) (fun hc => ?_) (fun hc => ?_)
  · have hf := (if_pos hc).symm.trans hf
    refine lv_bipush (pc := 16) (v := (-2)) hx hb dX8_putMark_16 bp_m2 ?_
    have hf := Option.some.inj hf
    subst hf
    exact ret_i C hr hlk hP hS dX8_putMark_18
  · have hf := (if_neg hc).symm.trans hf
    refine lv_iload_n (pc := 7) hx hb dX8_putMark_7 rfl (lv_at hl 3 rfl) ?_
    refine lv_bipush (pc := 8) (v := 35) hx hb dX8_putMark_8 bp_35 ?_
    obtain ⟨r2, hq, hf⟩ := bind1_some hf
    refine fin2_i (wl_X8_putMark cA a a_M a_M_nights a_M_things a_M_realms x_stale x_finding M_number M_nights M_things M_realms) (run_S (rest := []) (pc := 10) (As := [.int x3, .int (35 : Int32)]) C mf_X8_90 (c_X8_isUpTo l D cA  x3 (35 : Int32) r2 hq H.size) rfl rfl ⟨(Nat.le_of_ble_eq_true rfl), (Nat.le_of_ble_eq_true rfl)⟩ (preS_of C hP hD [] rfl (pl_nd pv_27)) rfl hl.1 rfl (Nat.le_of_ble_eq_true rfl) dX8_putMark_10 ⟨Nat.zero_le _, Nat.zero_le _⟩) hP hD hS hA [] [0, 1, 2, 3, 4] rfl rfl rfl rfl pv_27 (fun H locs hP hS => ?_)
    refine lv_if_ne (pc := 13) (tgt := 19) hx hb dX8_putMark_13 (by decide) (fun hc => ?_) (fun hc => ?_)
    · have hf := (if_neg hc).symm.trans hf
      refine lv_aload_n (pc := 19) hx hb dX8_putMark_19 rfl (lv_at hl 1 rfl) ?_
      refine lv_iload_n (pc := 20) hx hb dX8_putMark_20 rfl (lv_at hl 2 rfl) ?_
      refine lv_iload_n (pc := 21) hx hb dX8_putMark_21 rfl (lv_at hl 3 rfl) ?_
      refine lv_iconst (pc := 22) (v := 0) hx hb dX8_putMark_22 ic_0 ?_
      obtain ⟨r3, c4, c5, c6, c7, hq, hf⟩ := bind5_some hf
      refine fin2_i (wl_X8_putMark cA a a_M a_M_nights a_M_things a_M_realms x_stale x_finding c4 c5 c6 c7) (run_V (rest := []) (pc := 23) (As := [.int x2, .int x3, .int (0 : Int32)]) C mf_X8_152 (c_X4_append l D cA a_M a_M_nights a_M_things a_M_realms M_number M_nights M_things M_realms x2 x3 (0 : Int32) (r3, c4, c5, c6, c7) hq H.size) rfl rfl ⟨(Nat.le_of_ble_eq_true rfl), (Nat.le_of_ble_eq_true rfl)⟩ (preV_of C hP hD [1, 2, 3, 4] rfl (pl_nd pv_28) 0 rfl rfl rfl) rfl hl.1 rfl (Nat.le_of_ble_eq_true rfl) dX8_putMark_23 ⟨Nat.zero_le _, Nat.zero_le _⟩) hP hD hS hA [1, 2, 3, 4] [0] rfl rfl rfl rfl pv_28 (fun H locs hP hS => ?_)
      have hD : va_D (va_A ws0 sz) (wl_X8_putMark cA a a_M a_M_nights a_M_things a_M_realms x_stale x_finding c4 c5 c6 c7) := vd_a hD rfl
      refine lv_if_ne (pc := 26) (tgt := 32) hx hb dX8_putMark_26 (by decide) (fun hc => ?_) (fun hc => ?_)
      · have hf := (if_neg hc).symm.trans hf
        refine lv_aload_n (pc := 32) hx hb dX8_putMark_32 rfl (lv_at hl 0 rfl) ?_
        refine lv_iconst (pc := 33) (v := 1) hx hb dX8_putMark_33 ic_1 ?_
        refine g_put (pc := 34) C fg_X8_82 ft_X8_12 hP hD hS 0 rfl (by decide) rfl (Nat.le_of_ble_eq_true rfl) dX8_putMark_34 (fun H locs hP hD hS => ?_)
        have hP : va_P D classes (wl_X8_putMark cA a a_M a_M_nights a_M_things a_M_realms (1 : Int32) x_finding c4 c5 c6 c7) H := hP
        have hD : va_D (va_A ws0 sz) (wl_X8_putMark cA a a_M a_M_nights a_M_things a_M_realms (1 : Int32) x_finding c4 c5 c6 c7) := hD
        refine lv_aload_n (pc := 37) hx hb dX8_putMark_37 rfl (lv_at hl 1 rfl) ?_
        refine g_get (pc := 38) C fg_X8_133 hP 1 rfl rfl dX8_putMark_38 ?_
        have hf := Option.some.inj hf
        subst hf
        exact ret_i C hr hlk hP hS dX8_putMark_41
      · have hf := (if_pos hc).symm.trans hf
        refine lv_bipush (pc := 29) (v := (-4)) hx hb dX8_putMark_29 bp_m4 ?_
        have hf := Option.some.inj hf
        subst hf
        exact ret_i C hr hlk hP hS dX8_putMark_31
    · have hf := (if_pos hc).symm.trans hf
      refine lv_bipush (pc := 16) (v := (-2)) hx hb dX8_putMark_16 bp_m2 ?_
      have hf := Option.some.inj hf
      subst hf
      exact ret_i C hr hlk hP hS dX8_putMark_18
set_option maxRecDepth 100000 in
theorem c_X8_putMark (l : Launch) (D : va_G) (cA : Nat → ClassId) (a : Nat → Nat) (a_M a_M_nights a_M_things a_M_realms : Nat) (x_stale : Int32) (x_finding : Int32) (M_number : Int32) (M_nights : Nat → Int32) (M_things : Nat → Int32) (M_realms : Nat → Int32) (x2 : Int32) (x3 : Int32) (r : Int32 × Int32 × Int32 × (Nat → Int32) × (Nat → Int32) × (Nat → Int32)) (hf : f_X8_putMark x_stale M_number M_nights M_things M_realms x2 x3 = some r) (sz : Nat) : Met l yX8_putMark (Cond.code yX8_putMark cX8_putMark 4 (some .int) :: lw_good) rm_X8_putMark (PreX D cA [.ref (a 0), .ref a_M, .int x2, .int x3] sz (wl_X8_putMark cA a a_M a_M_nights a_M_things a_M_realms x_stale x_finding M_number M_nights M_things M_realms)) (PostI D r.1 (wl_X8_putMark cA a a_M a_M_nights a_M_things a_M_realms x_stale x_finding M_number M_nights M_things M_realms) (wl_X8_putMark cA a a_M a_M_nights a_M_things a_M_realms (r.2.1) x_finding (r.2.2.1) (r.2.2.2.1) (r.2.2.2.2.1) (r.2.2.2.2.2)) sz) 0 0 (va_A (wl_X8_putMark cA a a_M a_M_nights a_M_things a_M_realms x_stale x_finding M_number M_nights M_things M_realms) sz) :=
  met_of (by decide) (Nat.le_of_ble_eq_true rfl) (fun p e s m args below meth c C hr hlk hA => k_X8_putMark C hr hlk hA a a_M a_M_nights a_M_things a_M_realms x_stale x_finding M_number M_nights M_things M_realms x2 x3 r hf)
end

abbrev wl_X8_bowl (cA : Nat → ClassId) (a : Nat → Nat) (x_stale : Int32) (x_finding : Int32) (bowls_number : Int32) (bowls_nights : Nat → Int32) (bowls_things : Nat → Int32) (bowls_realms : Nat → Int32) : va_W := [((a 0), .inr (8, [.ref (a 1), .ref (a 6), .ref (a 12), .ref (a 15), .ref (a 19), .ref (a 23), .ref (a 27), .ref (a 34), .ref (a 41), .ref (a 42), .ref (a 44), .ref (a 45), .int x_stale, .int x_finding])), ((a 15), .inr (4, [.ref (a 16), .ref (a 17), .ref (a 18), .int bowls_number])), ((a 16), .inl (cA 0, 8, .inl bowls_nights)), ((a 17), .inl (cA 0, 8, .inl bowls_things)), ((a 18), .inl (cA 0, 8, .inl bowls_realms))]
abbrev rm_X8_bowl : Room := { frames := 3, cells := 0, slots := 0, locals := 64 }
section
variable {p : Program} {l : Launch} {e : Env} {s : State} {m : MethodId} {args : Array Value} {below : List Frame} {meth : Method} {c : Code} {D : va_G} {cA : Nat → ClassId} {ws0 : va_W} {sz : Nat} {A : Nat → Prop} {Q : State → Prop}
def f_X8_bowl (x_stale : Int32) (bowls_number : Int32) (bowls_nights : Nat → Int32) (bowls_things : Nat → Int32) (bowls_realms : Nat → Int32) (x1 : Int32) (x2 : Int32) : Option (Int32 × Int32 × Int32 × (Nat → Int32) × (Nat → Int32) × (Nat → Int32)) :=
  bind6 (f_X8_putMark x_stale bowls_number bowls_nights bowls_things bowls_realms x1 x2) (fun r1 c2 c3 c4 c5 c6 => some (r1, c2, c3, c4, c5, c6))
set_option maxHeartbeats 4000000 in
set_option maxRecDepth 100000 in
theorem k_X8_bowl (C : Cx RX8 cX8_bowl 3 D cA p s m args c) (hr : meth.sig.returnType = (some .int)) (hlk : meth.locks = false) (hA : ∀ q, s.heap.size ≤ q → va_A ws0 sz q) (a : Nat → Nat) (x_stale : Int32) (x_finding : Int32) (bowls_number : Int32) (bowls_nights : Nat → Int32) (bowls_things : Nat → Int32) (bowls_realms : Nat → Int32) (x1 : Int32) (x2 : Int32) (r : Int32 × Int32 × Int32 × (Nat → Int32) × (Nat → Int32) × (Nat → Int32)) (hf : f_X8_bowl x_stale bowls_number bowls_nights bowls_things bowls_realms x1 x2 = some r) : At p l e rm_X8_bowl s m args below meth c D (va_A ws0 sz) 0 0 (MQ below (PostI D r.1 ws0 (wl_X8_bowl cA a (r.2.1) x_finding (r.2.2.1) (r.2.2.2.1) (r.2.2.2.2.1) (r.2.2.2.2.2)) sz) args s 0 0 (va_A ws0 sz)) 3 0 (wl_X8_bowl cA a x_stale x_finding bowls_number bowls_nights bowls_things bowls_realms) [(0, .ref (a 0)), (1, .int x1), (2, .int x2)] [] := by
  intro H locs ls hP hD hS hl
  have hx := C.1
  have hb := C.2.1
  have hown := C.2.2.2.1
  have hts := C.2.2.2.2.1
  unfold f_X8_bowl at hf
  refine lv_aload_n (pc := 0) hx hb dX8_bowl_0 rfl (lv_at hl 0 rfl) ?_
  refine lv_aload_n (pc := 1) hx hb dX8_bowl_1 rfl (lv_at hl 0 rfl) ?_
  refine g_get (pc := 2) C fg_X8_35 hP 0 rfl rfl dX8_bowl_2 ?_
  refine lv_iload_n (pc := 5) hx hb dX8_bowl_5 rfl (lv_at hl 1 rfl) ?_
  refine lv_iload_n (pc := 6) hx hb dX8_bowl_6 rfl (lv_at hl 2 rfl) ?_
  obtain ⟨r1, c2, c3, c4, c5, c6, hq, hf⟩ := bind6_some hf
  refine fin2_i (wl_X8_bowl cA a c2 x_finding c3 c4 c5 c6) (run_V (rest := []) (pc := 7) (As := [.ref (a 15), .int x1, .int x2]) C mf_X8_129 (c_X8_putMark l D cA a (a 15) (a 16) (a 17) (a 18) x_stale x_finding bowls_number bowls_nights bowls_things bowls_realms x1 x2 (r1, c2, c3, c4, c5, c6) hq H.size) rfl rfl ⟨(Nat.le_of_ble_eq_true rfl), (Nat.le_of_ble_eq_true rfl)⟩ (preV_of C hP hD [0, 1, 2, 3, 4] rfl (pl_nd pv_16) 0 rfl rfl rfl) rfl hl.1 rfl (Nat.le_of_ble_eq_true rfl) dX8_bowl_7 ⟨Nat.zero_le _, Nat.zero_le _⟩) hP hD hS hA [0, 1, 2, 3, 4] [] rfl rfl rfl rfl pv_16 (fun H locs hP hS => ?_)
  have hD : va_D (va_A ws0 sz) (wl_X8_bowl cA a c2 x_finding c3 c4 c5 c6) := vd_a hD rfl
  have hf := Option.some.inj hf
  subst hf
  exact ret_i C hr hlk hP hS dX8_bowl_10
set_option maxRecDepth 100000 in
theorem c_X8_bowl (l : Launch) (D : va_G) (cA : Nat → ClassId) (a : Nat → Nat) (x_stale : Int32) (x_finding : Int32) (bowls_number : Int32) (bowls_nights : Nat → Int32) (bowls_things : Nat → Int32) (bowls_realms : Nat → Int32) (x1 : Int32) (x2 : Int32) (r : Int32 × Int32 × Int32 × (Nat → Int32) × (Nat → Int32) × (Nat → Int32)) (hf : f_X8_bowl x_stale bowls_number bowls_nights bowls_things bowls_realms x1 x2 = some r) (sz : Nat) : Met l yX8_bowl (Cond.code yX8_bowl cX8_bowl 3 (some .int) :: lw_good) rm_X8_bowl (PreX D cA [.ref (a 0), .int x1, .int x2] sz (wl_X8_bowl cA a x_stale x_finding bowls_number bowls_nights bowls_things bowls_realms)) (PostI D r.1 (wl_X8_bowl cA a x_stale x_finding bowls_number bowls_nights bowls_things bowls_realms) (wl_X8_bowl cA a (r.2.1) x_finding (r.2.2.1) (r.2.2.2.1) (r.2.2.2.2.1) (r.2.2.2.2.2)) sz) 0 0 (va_A (wl_X8_bowl cA a x_stale x_finding bowls_number bowls_nights bowls_things bowls_realms) sz) :=
  met_of (by decide) (Nat.le_of_ble_eq_true rfl) (fun p e s m args below meth c C hr hlk hA => k_X8_bowl C hr hlk hA a x_stale x_finding bowls_number bowls_nights bowls_things bowls_realms x1 x2 r hf)
end

abbrev wl_X8_dog (cA : Nat → ClassId) (a : Nat → Nat) (x_stale : Int32) (x_finding : Int32) (dogs_number : Int32) (dogs_nights : Nat → Int32) (dogs_things : Nat → Int32) (dogs_realms : Nat → Int32) : va_W := [((a 0), .inr (8, [.ref (a 1), .ref (a 6), .ref (a 12), .ref (a 15), .ref (a 19), .ref (a 23), .ref (a 27), .ref (a 34), .ref (a 41), .ref (a 42), .ref (a 44), .ref (a 45), .int x_stale, .int x_finding])), ((a 19), .inr (4, [.ref (a 20), .ref (a 21), .ref (a 22), .int dogs_number])), ((a 20), .inl (cA 0, 8, .inl dogs_nights)), ((a 21), .inl (cA 0, 8, .inl dogs_things)), ((a 22), .inl (cA 0, 8, .inl dogs_realms))]
abbrev rm_X8_dog : Room := { frames := 3, cells := 0, slots := 0, locals := 64 }
section
variable {p : Program} {l : Launch} {e : Env} {s : State} {m : MethodId} {args : Array Value} {below : List Frame} {meth : Method} {c : Code} {D : va_G} {cA : Nat → ClassId} {ws0 : va_W} {sz : Nat} {A : Nat → Prop} {Q : State → Prop}
def f_X8_dog (x_stale : Int32) (dogs_number : Int32) (dogs_nights : Nat → Int32) (dogs_things : Nat → Int32) (dogs_realms : Nat → Int32) (x1 : Int32) (x2 : Int32) : Option (Int32 × Int32 × Int32 × (Nat → Int32) × (Nat → Int32) × (Nat → Int32)) :=
  bind6 (f_X8_putMark x_stale dogs_number dogs_nights dogs_things dogs_realms x1 x2) (fun r1 c2 c3 c4 c5 c6 => some (r1, c2, c3, c4, c5, c6))
set_option maxHeartbeats 4000000 in
set_option maxRecDepth 100000 in
theorem k_X8_dog (C : Cx RX8 cX8_dog 3 D cA p s m args c) (hr : meth.sig.returnType = (some .int)) (hlk : meth.locks = false) (hA : ∀ q, s.heap.size ≤ q → va_A ws0 sz q) (a : Nat → Nat) (x_stale : Int32) (x_finding : Int32) (dogs_number : Int32) (dogs_nights : Nat → Int32) (dogs_things : Nat → Int32) (dogs_realms : Nat → Int32) (x1 : Int32) (x2 : Int32) (r : Int32 × Int32 × Int32 × (Nat → Int32) × (Nat → Int32) × (Nat → Int32)) (hf : f_X8_dog x_stale dogs_number dogs_nights dogs_things dogs_realms x1 x2 = some r) : At p l e rm_X8_dog s m args below meth c D (va_A ws0 sz) 0 0 (MQ below (PostI D r.1 ws0 (wl_X8_dog cA a (r.2.1) x_finding (r.2.2.1) (r.2.2.2.1) (r.2.2.2.2.1) (r.2.2.2.2.2)) sz) args s 0 0 (va_A ws0 sz)) 3 0 (wl_X8_dog cA a x_stale x_finding dogs_number dogs_nights dogs_things dogs_realms) [(0, .ref (a 0)), (1, .int x1), (2, .int x2)] [] := by
  intro H locs ls hP hD hS hl
  have hx := C.1
  have hb := C.2.1
  have hown := C.2.2.2.1
  have hts := C.2.2.2.2.1
  unfold f_X8_dog at hf
  refine lv_aload_n (pc := 0) hx hb dX8_dog_0 rfl (lv_at hl 0 rfl) ?_
  refine lv_aload_n (pc := 1) hx hb dX8_dog_1 rfl (lv_at hl 0 rfl) ?_
  refine g_get (pc := 2) C fg_X8_39 hP 0 rfl rfl dX8_dog_2 ?_
  refine lv_iload_n (pc := 5) hx hb dX8_dog_5 rfl (lv_at hl 1 rfl) ?_
  refine lv_iload_n (pc := 6) hx hb dX8_dog_6 rfl (lv_at hl 2 rfl) ?_
  obtain ⟨r1, c2, c3, c4, c5, c6, hq, hf⟩ := bind6_some hf
  refine fin2_i (wl_X8_dog cA a c2 x_finding c3 c4 c5 c6) (run_V (rest := []) (pc := 7) (As := [.ref (a 19), .int x1, .int x2]) C mf_X8_129 (c_X8_putMark l D cA a (a 19) (a 20) (a 21) (a 22) x_stale x_finding dogs_number dogs_nights dogs_things dogs_realms x1 x2 (r1, c2, c3, c4, c5, c6) hq H.size) rfl rfl ⟨(Nat.le_of_ble_eq_true rfl), (Nat.le_of_ble_eq_true rfl)⟩ (preV_of C hP hD [0, 1, 2, 3, 4] rfl (pl_nd pv_16) 0 rfl rfl rfl) rfl hl.1 rfl (Nat.le_of_ble_eq_true rfl) dX8_dog_7 ⟨Nat.zero_le _, Nat.zero_le _⟩) hP hD hS hA [0, 1, 2, 3, 4] [] rfl rfl rfl rfl pv_16 (fun H locs hP hS => ?_)
  have hD : va_D (va_A ws0 sz) (wl_X8_dog cA a c2 x_finding c3 c4 c5 c6) := vd_a hD rfl
  have hf := Option.some.inj hf
  subst hf
  exact ret_i C hr hlk hP hS dX8_dog_10
set_option maxRecDepth 100000 in
theorem c_X8_dog (l : Launch) (D : va_G) (cA : Nat → ClassId) (a : Nat → Nat) (x_stale : Int32) (x_finding : Int32) (dogs_number : Int32) (dogs_nights : Nat → Int32) (dogs_things : Nat → Int32) (dogs_realms : Nat → Int32) (x1 : Int32) (x2 : Int32) (r : Int32 × Int32 × Int32 × (Nat → Int32) × (Nat → Int32) × (Nat → Int32)) (hf : f_X8_dog x_stale dogs_number dogs_nights dogs_things dogs_realms x1 x2 = some r) (sz : Nat) : Met l yX8_dog (Cond.code yX8_dog cX8_dog 3 (some .int) :: lw_good) rm_X8_dog (PreX D cA [.ref (a 0), .int x1, .int x2] sz (wl_X8_dog cA a x_stale x_finding dogs_number dogs_nights dogs_things dogs_realms)) (PostI D r.1 (wl_X8_dog cA a x_stale x_finding dogs_number dogs_nights dogs_things dogs_realms) (wl_X8_dog cA a (r.2.1) x_finding (r.2.2.1) (r.2.2.2.1) (r.2.2.2.2.1) (r.2.2.2.2.2)) sz) 0 0 (va_A (wl_X8_dog cA a x_stale x_finding dogs_number dogs_nights dogs_things dogs_realms) sz) :=
  met_of (by decide) (Nat.le_of_ble_eq_true rfl) (fun p e s m args below meth c C hr hlk hA => k_X8_dog C hr hlk hA a x_stale x_finding dogs_number dogs_nights dogs_things dogs_realms x1 x2 r hf)
end

abbrev wl_X8_back (cA : Nat → ClassId) (a : Nat → Nat) (x_stale : Int32) (x_finding : Int32) (bowls_number : Int32) (dogs_number : Int32) : va_W := [((a 0), .inr (8, [.ref (a 1), .ref (a 6), .ref (a 12), .ref (a 15), .ref (a 19), .ref (a 23), .ref (a 27), .ref (a 34), .ref (a 41), .ref (a 42), .ref (a 44), .ref (a 45), .int x_stale, .int x_finding])), ((a 15), .inr (4, [.ref (a 16), .ref (a 17), .ref (a 18), .int bowls_number])), ((a 19), .inr (4, [.ref (a 20), .ref (a 21), .ref (a 22), .int dogs_number]))]
abbrev rm_X8_back : Room := { frames := 1, cells := 0, slots := 0, locals := 21 }
section
variable {p : Program} {l : Launch} {e : Env} {s : State} {m : MethodId} {args : Array Value} {below : List Frame} {meth : Method} {c : Code} {D : va_G} {cA : Nat → ClassId} {ws0 : va_W} {sz : Nat} {A : Nat → Prop} {Q : State → Prop}
def f_X8_back_b26 (x_stale : Int32) (bowls_number : Int32) (dogs_number : Int32) : Option (Int32 × Int32 × Int32 × Int32) :=
  if dogs_number = 0 then (some ((-3 : Int32), x_stale, bowls_number, dogs_number)) else (letv ((dogs_number - (1 : Int32))) (fun v2 => some (v2, (1 : Int32), bowls_number, v2)))
set_option maxHeartbeats 4000000 in
set_option maxRecDepth 100000 in
theorem k_X8_back_b26 (C : Cx RX8 cX8_back 3 D cA p s m args c) (hr : meth.sig.returnType = (some .int)) (hlk : meth.locks = false) (hA : ∀ q, s.heap.size ≤ q → va_A ws0 sz q) (a : Nat → Nat) (x_stale : Int32) (x_finding : Int32) (bowls_number : Int32) (dogs_number : Int32) (r : Int32 × Int32 × Int32 × Int32) (hf : f_X8_back_b26 x_stale bowls_number dogs_number = some r) : At p l e rm_X8_back s m args below meth c D (va_A ws0 sz) 0 0 (MQ below (PostI D r.1 ws0 (wl_X8_back cA a (r.2.1) x_finding (r.2.2.1) (r.2.2.2)) sz) args s 0 0 (va_A ws0 sz)) 3 26 (wl_X8_back cA a x_stale x_finding bowls_number dogs_number) [(0, .ref (a 0))] [.ref (a 19)] := by
  intro H locs ls hP hD hS hl
  have hx := C.1
  have hb := C.2.1
  have hown := C.2.2.2.1
  have hts := C.2.2.2.2.1
  unfold f_X8_back_b26 at hf
  refine lv_astore_n (pc := 26) (lv' := [(2, .ref (a 19)), (0, .ref (a 0))]) hx hb dX8_back_26 rfl hl (Nat.le_of_ble_eq_true rfl) rfl (fun ls hl => ?_)
  refine lv_aload_n (pc := 27) hx hb dX8_back_27 rfl (lv_at hl 0 rfl) ?_
  refine g_get (pc := 28) C fg_X8_133 hP 2 rfl rfl dX8_back_28 ?_
  refine lv_if_ne (pc := 31) (tgt := 37) hx hb dX8_back_31 (by decide) (fun hc => ?_) (fun hc => ?_)
  · have hf := (if_neg hc).symm.trans hf
    refine lv_aload_n (pc := 37) hx hb dX8_back_37 rfl (lv_at hl 0 rfl) ?_
    refine lv_dup (pc := 38) hx hb dX8_back_38 rfl ?_
    refine g_get (pc := 39) C fg_X8_133 hP 2 rfl rfl dX8_back_39 ?_
    refine lv_iconst (pc := 42) (v := 1) hx hb dX8_back_42 ic_1 ?_
    refine lv_isub (pc := 43) hx hb dX8_back_43 ?_
    obtain ⟨v2, e_v2, hf⟩ := letv_some hf
    refine tp_i e_v2 ?_
    refine g_put (pc := 44) C fg_X8_133 ft_X4_3 hP hD hS 2 rfl rfl rfl (Nat.le_of_ble_eq_true rfl) dX8_back_44 (fun H locs hP hD hS => ?_)
    have hP : va_P D classes (wl_X8_back cA a x_stale x_finding bowls_number v2) H := hP
    have hD : va_D (va_A ws0 sz) (wl_X8_back cA a x_stale x_finding bowls_number v2) := hD
    refine lv_aload_n (pc := 47) hx hb dX8_back_47 rfl (lv_at hl 1 rfl) ?_
    refine lv_iconst (pc := 48) (v := 1) hx hb dX8_back_48 ic_1 ?_
    refine g_put (pc := 49) C fg_X8_82 ft_X8_12 hP hD hS 0 rfl (by decide) rfl (Nat.le_of_ble_eq_true rfl) dX8_back_49 (fun H locs hP hD hS => ?_)
    have hP : va_P D classes (wl_X8_back cA a (1 : Int32) x_finding bowls_number v2) H := hP
    have hD : va_D (va_A ws0 sz) (wl_X8_back cA a (1 : Int32) x_finding bowls_number v2) := hD
    refine lv_aload_n (pc := 52) hx hb dX8_back_52 rfl (lv_at hl 0 rfl) ?_
    refine g_get (pc := 53) C fg_X8_133 hP 2 rfl rfl dX8_back_53 ?_
    have hf := Option.some.inj hf
    subst hf
    exact ret_i C hr hlk hP hS dX8_back_56
  · have hf := (if_pos hc).symm.trans hf
    refine lv_bipush (pc := 34) (v := (-3)) hx hb dX8_back_34 bp_m3 ?_
    have hf := Option.some.inj hf
    subst hf
    exact ret_i C hr hlk hP hS dX8_back_36
def f_X8_back_b26_v1 (x_stale : Int32) (bowls_number : Int32) (dogs_number : Int32) : Option (Int32 × Int32 × Int32 × Int32) :=
  if bowls_number = 0 then (some ((-3 : Int32), x_stale, bowls_number, dogs_number)) else (letv ((bowls_number - (1 : Int32))) (fun v3 => some (v3, (1 : Int32), v3, dogs_number)))
set_option maxHeartbeats 4000000 in
set_option maxRecDepth 100000 in
theorem k_X8_back_b26_v1 (C : Cx RX8 cX8_back 3 D cA p s m args c) (hr : meth.sig.returnType = (some .int)) (hlk : meth.locks = false) (hA : ∀ q, s.heap.size ≤ q → va_A ws0 sz q) (a : Nat → Nat) (x_stale : Int32) (x_finding : Int32) (bowls_number : Int32) (dogs_number : Int32) (r : Int32 × Int32 × Int32 × Int32) (hf : f_X8_back_b26_v1 x_stale bowls_number dogs_number = some r) : At p l e rm_X8_back s m args below meth c D (va_A ws0 sz) 0 0 (MQ below (PostI D r.1 ws0 (wl_X8_back cA a (r.2.1) x_finding (r.2.2.1) (r.2.2.2)) sz) args s 0 0 (va_A ws0 sz)) 3 26 (wl_X8_back cA a x_stale x_finding bowls_number dogs_number) [(0, .ref (a 0))] [.ref (a 15)] := by
  intro H locs ls hP hD hS hl
  have hx := C.1
  have hb := C.2.1
  have hown := C.2.2.2.1
  have hts := C.2.2.2.2.1
  unfold f_X8_back_b26_v1 at hf
  refine lv_astore_n (pc := 26) (lv' := [(2, .ref (a 15)), (0, .ref (a 0))]) hx hb dX8_back_26 rfl hl (Nat.le_of_ble_eq_true rfl) rfl (fun ls hl => ?_)
  refine lv_aload_n (pc := 27) hx hb dX8_back_27 rfl (lv_at hl 0 rfl) ?_
  refine g_get (pc := 28) C fg_X8_133 hP 1 rfl rfl dX8_back_28 ?_
  refine lv_if_ne (pc := 31) (tgt := 37) hx hb dX8_back_31 (by decide) (fun hc => ?_) (fun hc => ?_)
  · have hf := (if_neg hc).symm.trans hf
    refine lv_aload_n (pc := 37) hx hb dX8_back_37 rfl (lv_at hl 0 rfl) ?_
    refine lv_dup (pc := 38) hx hb dX8_back_38 rfl ?_
    refine g_get (pc := 39) C fg_X8_133 hP 1 rfl rfl dX8_back_39 ?_
    refine lv_iconst (pc := 42) (v := 1) hx hb dX8_back_42 ic_1 ?_
    refine lv_isub (pc := 43) hx hb dX8_back_43 ?_
    obtain ⟨v3, e_v3, hf⟩ := letv_some hf
    refine tp_i e_v3 ?_
    refine g_put (pc := 44) C fg_X8_133 ft_X4_3 hP hD hS 1 rfl rfl rfl (Nat.le_of_ble_eq_true rfl) dX8_back_44 (fun H locs hP hD hS => ?_)
    have hP : va_P D classes (wl_X8_back cA a x_stale x_finding v3 dogs_number) H := hP
    have hD : va_D (va_A ws0 sz) (wl_X8_back cA a x_stale x_finding v3 dogs_number) := hD
    refine lv_aload_n (pc := 47) hx hb dX8_back_47 rfl (lv_at hl 1 rfl) ?_
    refine lv_iconst (pc := 48) (v := 1) hx hb dX8_back_48 ic_1 ?_
    refine g_put (pc := 49) C fg_X8_82 ft_X8_12 hP hD hS 0 rfl (by decide) rfl (Nat.le_of_ble_eq_true rfl) dX8_back_49 (fun H locs hP hD hS => ?_)
    have hP : va_P D classes (wl_X8_back cA a (1 : Int32) x_finding v3 dogs_number) H := hP
    have hD : va_D (va_A ws0 sz) (wl_X8_back cA a (1 : Int32) x_finding v3 dogs_number) := hD
    refine lv_aload_n (pc := 52) hx hb dX8_back_52 rfl (lv_at hl 0 rfl) ?_
    refine g_get (pc := 53) C fg_X8_133 hP 1 rfl rfl dX8_back_53 ?_
    have hf := Option.some.inj hf
    subst hf
    exact ret_i C hr hlk hP hS dX8_back_56
  · have hf := (if_pos hc).symm.trans hf
    refine lv_bipush (pc := 34) (v := (-3)) hx hb dX8_back_34 bp_m3 ?_
    have hf := Option.some.inj hf
    subst hf
    exact ret_i C hr hlk hP hS dX8_back_36
def f_X8_back (x_stale : Int32) (bowls_number : Int32) (dogs_number : Int32) (x1 : Int32) : Option (Int32 × Int32 × Int32 × Int32) :=
  bind1 (f_X8_isUpTo x1 (1 : Int32)) (fun r1 => if r1 = 0 then (some ((-2 : Int32), x_stale, bowls_number, dogs_number)) else (if x1 = 0 then (f_X8_back_b26_v1 x_stale bowls_number dogs_number) else (f_X8_back_b26 x_stale bowls_number dogs_number)))
set_option maxHeartbeats 4000000 in
set_option maxRecDepth 100000 in
theorem k_X8_back (C : Cx RX8 cX8_back 3 D cA p s m args c) (hr : meth.sig.returnType = (some .int)) (hlk : meth.locks = false) (hA : ∀ q, s.heap.size ≤ q → va_A ws0 sz q) (a : Nat → Nat) (x_stale : Int32) (x_finding : Int32) (bowls_number : Int32) (dogs_number : Int32) (x1 : Int32) (r : Int32 × Int32 × Int32 × Int32) (hf : f_X8_back x_stale bowls_number dogs_number x1 = some r) : At p l e rm_X8_back s m args below meth c D (va_A ws0 sz) 0 0 (MQ below (PostI D r.1 ws0 (wl_X8_back cA a (r.2.1) x_finding (r.2.2.1) (r.2.2.2)) sz) args s 0 0 (va_A ws0 sz)) 3 0 (wl_X8_back cA a x_stale x_finding bowls_number dogs_number) [(0, .ref (a 0)), (1, .int x1)] [] := by
  intro H locs ls hP hD hS hl
  have hx := C.1
  have hb := C.2.1
  have hown := C.2.2.2.1
  have hts := C.2.2.2.2.1
  unfold f_X8_back at hf
  refine lv_iload_n (pc := 0) hx hb dX8_back_0 rfl (lv_at hl 1 rfl) ?_
  refine lv_iconst (pc := 1) (v := 1) hx hb dX8_back_1 ic_1 ?_
  obtain ⟨r1, hq, hf⟩ := bind1_some hf
  refine fin2_i (wl_X8_back cA a x_stale x_finding bowls_number dogs_number) (run_S (rest := []) (pc := 2) (As := [.int x1, .int (1 : Int32)]) C mf_X8_90 (c_X8_isUpTo l D cA  x1 (1 : Int32) r1 hq H.size) rfl rfl ⟨(Nat.le_of_ble_eq_true rfl), (Nat.le_of_ble_eq_true rfl)⟩ (preS_of C hP hD [] rfl (pl_nd pv_23)) rfl hl.1 rfl (Nat.le_of_ble_eq_true rfl) dX8_back_2 ⟨Nat.zero_le _, Nat.zero_le _⟩) hP hD hS hA [] [0, 1, 2] rfl rfl rfl rfl pv_23 (fun H locs hP hS => ?_)
  refine lv_if_ne (pc := 5) (tgt := 11) hx hb dX8_back_5 (by decide) (fun hc => ?_) (fun hc => ?_)
  · have hf := (if_neg hc).symm.trans hf
    refine lv_iload_n (pc := 11) hx hb dX8_back_11 rfl (lv_at hl 1 rfl) ?_
    refine lv_if_ne (pc := 12) (tgt := 22) hx hb dX8_back_12 (by decide) (fun hc => ?_) (fun hc => ?_)
    · have hf := (if_neg hc).symm.trans hf
      refine lv_aload_n (pc := 22) hx hb dX8_back_22 rfl (lv_at hl 0 rfl) ?_
      refine g_get (pc := 23) C fg_X8_39 hP 0 rfl rfl dX8_back_23 ?_
      exact k_X8_back_b26 C hr hlk hA a x_stale x_finding bowls_number dogs_number r hf H locs ls hP hD hS (lv_sub hl [0] rfl)
    · have hf := (if_pos hc).symm.trans hf
      refine lv_aload_n (pc := 15) hx hb dX8_back_15 rfl (lv_at hl 0 rfl) ?_
      refine g_get (pc := 16) C fg_X8_35 hP 0 rfl rfl dX8_back_16 ?_
      refine lv_goto (pc := 19) (tgt := 26) hx hb dX8_back_19 (by decide) ?_
      exact k_X8_back_b26_v1 C hr hlk hA a x_stale x_finding bowls_number dogs_number r hf H locs ls hP hD hS (lv_sub hl [0] rfl)
  · have hf := (if_pos hc).symm.trans hf
    refine lv_bipush (pc := 8) (v := (-2)) hx hb dX8_back_8 bp_m2 ?_
    have hf := Option.some.inj hf
    subst hf
    exact ret_i C hr hlk hP hS dX8_back_10
set_option maxRecDepth 100000 in
theorem c_X8_back (l : Launch) (D : va_G) (cA : Nat → ClassId) (a : Nat → Nat) (x_stale : Int32) (x_finding : Int32) (bowls_number : Int32) (dogs_number : Int32) (x1 : Int32) (r : Int32 × Int32 × Int32 × Int32) (hf : f_X8_back x_stale bowls_number dogs_number x1 = some r) (sz : Nat) : Met l yX8_back (Cond.code yX8_back cX8_back 3 (some .int) :: lw_good) rm_X8_back (PreX D cA [.ref (a 0), .int x1] sz (wl_X8_back cA a x_stale x_finding bowls_number dogs_number)) (PostI D r.1 (wl_X8_back cA a x_stale x_finding bowls_number dogs_number) (wl_X8_back cA a (r.2.1) x_finding (r.2.2.1) (r.2.2.2)) sz) 0 0 (va_A (wl_X8_back cA a x_stale x_finding bowls_number dogs_number) sz) :=
  met_of (by decide) (Nat.le_of_ble_eq_true rfl) (fun p e s m args below meth c C hr hlk hA => k_X8_back C hr hlk hA a x_stale x_finding bowls_number dogs_number x1 r hf)
end

abbrev wl_X8_found (cA : Nat → ClassId) (a : Nat → Nat) (x_stale : Int32) (x_finding : Int32) : va_W := [((a 0), .inr (8, [.ref (a 1), .ref (a 6), .ref (a 12), .ref (a 15), .ref (a 19), .ref (a 23), .ref (a 27), .ref (a 34), .ref (a 41), .ref (a 42), .ref (a 44), .ref (a 45), .int x_stale, .int x_finding]))]
abbrev rm_X8_found : Room := { frames := 0, cells := 0, slots := 0, locals := 0 }
section
variable {p : Program} {l : Launch} {e : Env} {s : State} {m : MethodId} {args : Array Value} {below : List Frame} {meth : Method} {c : Code} {D : va_G} {cA : Nat → ClassId} {ws0 : va_W} {sz : Nat} {A : Nat → Prop} {Q : State → Prop}
def f_X8_found (x_finding : Int32) (x1 : Int32) : Option (Int32 × Int32) :=
  some (((-10 : Int32) - x1), x1)
set_option maxHeartbeats 4000000 in
set_option maxRecDepth 100000 in
theorem k_X8_found (C : Cx RX8 cX8_found 2 D cA p s m args c) (hr : meth.sig.returnType = (some .int)) (hlk : meth.locks = false) (hA : ∀ q, s.heap.size ≤ q → va_A ws0 sz q) (a : Nat → Nat) (x_stale : Int32) (x_finding : Int32) (x1 : Int32) (r : Int32 × Int32) (hf : f_X8_found x_finding x1 = some r) : At p l e rm_X8_found s m args below meth c D (va_A ws0 sz) 0 0 (MQ below (PostI D r.1 ws0 (wl_X8_found cA a x_stale (r.2)) sz) args s 0 0 (va_A ws0 sz)) 2 0 (wl_X8_found cA a x_stale x_finding) [(0, .ref (a 0)), (1, .int x1)] [] := by
  intro H locs ls hP hD hS hl
  have hx := C.1
  have hb := C.2.1
  have hown := C.2.2.2.1
  have hts := C.2.2.2.2.1
  unfold f_X8_found at hf
  refine lv_aload_n (pc := 0) hx hb dX8_found_0 rfl (lv_at hl 0 rfl) ?_
  refine lv_iload_n (pc := 1) hx hb dX8_found_1 rfl (lv_at hl 1 rfl) ?_
  refine g_put (pc := 2) C fg_X8_86 ft_X8_13 hP hD hS 0 rfl rfl rfl (Nat.le_of_ble_eq_true rfl) dX8_found_2 (fun H locs hP hD hS => ?_)
  have hP : va_P D classes (wl_X8_found cA a x_stale x1) H := hP
  have hD : va_D (va_A ws0 sz) (wl_X8_found cA a x_stale x1) := hD
  refine lv_bipush (pc := 5) (v := (-10)) hx hb dX8_found_5 bp_m10 ?_
  refine lv_iload_n (pc := 7) hx hb dX8_found_7 rfl (lv_at hl 1 rfl) ?_
  refine lv_isub (pc := 8) hx hb dX8_found_8 ?_
  have hf := Option.some.inj hf
  subst hf
  exact ret_i C hr hlk hP hS dX8_found_9
set_option maxRecDepth 100000 in
theorem c_X8_found (l : Launch) (D : va_G) (cA : Nat → ClassId) (a : Nat → Nat) (x_stale : Int32) (x_finding : Int32) (x1 : Int32) (r : Int32 × Int32) (hf : f_X8_found x_finding x1 = some r) (sz : Nat) : Met l yX8_found (Cond.code yX8_found cX8_found 2 (some .int) :: lw_good) rm_X8_found (PreX D cA [.ref (a 0), .int x1] sz (wl_X8_found cA a x_stale x_finding)) (PostI D r.1 (wl_X8_found cA a x_stale x_finding) (wl_X8_found cA a x_stale (r.2)) sz) 0 0 (va_A (wl_X8_found cA a x_stale x_finding) sz) :=
  met_of (by decide) (Nat.le_of_ble_eq_true rfl) (fun p e s m args below meth c C hr hlk hA => k_X8_found C hr hlk hA a x_stale x_finding x1 r hf)
end

abbrev wl_X8_read (cA : Nat → ClassId) (a : Nat → Nat) (x_stale : Int32) (x_finding : Int32) (bowls_number : Int32) (bowls_nights : Nat → Int32) (bowls_things : Nat → Int32) (bowls_realms : Nat → Int32) (sheet0_lost : Int32) (sheet0_form : Int32) (sheet0_size : Int32) (sheet0_items : Nat → Int32) (sheet1_lost : Int32) (sheet1_form : Int32) (sheet1_size : Int32) (sheet1_items : Nat → Int32) (sheet2_lost : Int32) (sheet2_form : Int32) (sheet2_size : Int32) (sheet2_items : Nat → Int32) (sheet3_lost : Int32) (sheet3_form : Int32) (sheet3_size : Int32) (sheet3_items : Nat → Int32) : va_W := [((a 0), .inr (8, [.ref (a 1), .ref (a 6), .ref (a 12), .ref (a 15), .ref (a 19), .ref (a 23), .ref (a 27), .ref (a 34), .ref (a 41), .ref (a 42), .ref (a 44), .ref (a 45), .int x_stale, .int x_finding])), ((a 15), .inr (4, [.ref (a 16), .ref (a 17), .ref (a 18), .int bowls_number])), ((a 16), .inl (cA 0, 8, .inl bowls_nights)), ((a 17), .inl (cA 0, 8, .inl bowls_things)), ((a 18), .inl (cA 0, 8, .inl bowls_realms)), ((a 45), .inl (cA 3, 4, .inr (.inr (.inr (.inr (fun k : Nat => if k = 0 then some (a 46) else if k = 1 then some (a 48) else if k = 2 then some (a 50) else some (a 52))))))), ((a 46), .inr (5, [.ref (a 47), .int sheet0_lost, .int sheet0_form, .int sheet0_size])), ((a 47), .inl (cA 0, 60, .inl sheet0_items)), ((a 48), .inr (5, [.ref (a 49), .int sheet1_lost, .int sheet1_form, .int sheet1_size])), ((a 49), .inl (cA 0, 60, .inl sheet1_items)), ((a 50), .inr (5, [.ref (a 51), .int sheet2_lost, .int sheet2_form, .int sheet2_size])), ((a 51), .inl (cA 0, 60, .inl sheet2_items)), ((a 52), .inr (5, [.ref (a 53), .int sheet3_lost, .int sheet3_form, .int sheet3_size])), ((a 53), .inl (cA 0, 60, .inl sheet3_items))]
abbrev rm_X8_read : Room := { frames := 3, cells := 0, slots := 0, locals := 64 }
section
variable {p : Program} {l : Launch} {e : Env} {s : State} {m : MethodId} {args : Array Value} {below : List Frame} {meth : Method} {c : Code} {D : va_G} {cA : Nat → ClassId} {ws0 : va_W} {sz : Nat} {A : Nat → Prop} {Q : State → Prop}
def f_X8_read_L41 (sheet0_items : Nat → Int32) (sheet1_items : Nat → Int32) (sheet2_items : Nat → Int32) (sheet3_items : Nat → Int32) (x3 : Int32) (x4 : Int32) (x_stale : Int32) (bowls_number : Int32) (bowls_nights : Nat → Int32) (bowls_things : Nat → Int32) (bowls_realms : Nat → Int32) : Option ((Int32 × Int32 × Int32 × (Nat → Int32) × (Nat → Int32) × (Nat → Int32)) ⊕ (Int32 × Int32 × Int32 × (Nat → Int32) × (Nat → Int32) × (Nat → Int32))) :=
  if x3 ≤ x4 then (some (.inr (x4, x_stale, bowls_number, bowls_nights, bowls_things, bowls_realms))) else (gd (inb ((2 : Int32) * x4) 60) (gd (inb (((2 : Int32) * x4) + (1 : Int32)) 60) (bind6 (f_X8_putMark x_stale bowls_number bowls_nights bowls_things bowls_realms (sheet0_items ((2 : Int32) * x4).toNatClampNeg) (sheet0_items (((2 : Int32) * x4) + (1 : Int32)).toNatClampNeg)) (fun r3 c4 c5 c6 c7 c8 => if r3 ≤ 0 then (some (.inr (x4, c4, c5, c6, c7, c8))) else (some (.inl ((x4 + 1), c4, c5, c6, c7, c8)))))))
set_option maxHeartbeats 4000000 in
set_option maxRecDepth 100000 in
theorem k_X8_read_L41 (C : Cx RX8 cX8_read 5 D cA p s m args c) (hA : ∀ q, s.heap.size ≤ q → A q) (a : Nat → Nat) (x_finding : Int32) (sheet0_lost : Int32) (sheet0_form : Int32) (sheet0_size : Int32) (sheet0_items : Nat → Int32) (sheet1_lost : Int32) (sheet1_form : Int32) (sheet1_size : Int32) (sheet1_items : Nat → Int32) (sheet2_lost : Int32) (sheet2_form : Int32) (sheet2_size : Int32) (sheet2_items : Nat → Int32) (sheet3_lost : Int32) (sheet3_form : Int32) (sheet3_size : Int32) (sheet3_items : Nat → Int32) (x3 : Int32) (x4 : Int32) (x_stale : Int32) (bowls_number : Int32) (bowls_nights : Nat → Int32) (bowls_things : Nat → Int32) (bowls_realms : Nat → Int32) (r : (Int32 × Int32 × Int32 × (Nat → Int32) × (Nat → Int32) × (Nat → Int32)) ⊕ (Int32 × Int32 × Int32 × (Nat → Int32) × (Nat → Int32) × (Nat → Int32))) (hf : f_X8_read_L41 sheet0_items sheet1_items sheet2_items sheet3_items x3 x4 x_stale bowls_number bowls_nights bowls_things bowls_realms = some r) (hK : Sum.elim (fun q : Int32 × Int32 × Int32 × (Nat → Int32) × (Nat → Int32) × (Nat → Int32) => At p l e rm_X8_read s m args below meth c D A 0 0 Q 5 41 (wl_X8_read cA a (q.2.1) x_finding (q.2.2.1) (q.2.2.2.1) (q.2.2.2.2.1) (q.2.2.2.2.2) sheet0_lost sheet0_form sheet0_size sheet0_items sheet1_lost sheet1_form sheet1_size sheet1_items sheet2_lost sheet2_form sheet2_size sheet2_items sheet3_lost sheet3_form sheet3_size sheet3_items) [(0, .ref (a 0)), (2, .ref (a 46)), (3, .int x3), (4, .int (q.1))] []) (fun q : Int32 × Int32 × Int32 × (Nat → Int32) × (Nat → Int32) × (Nat → Int32) => At p l e rm_X8_read s m args below meth c D A 0 0 Q 5 84 (wl_X8_read cA a (q.2.1) x_finding (q.2.2.1) (q.2.2.2.1) (q.2.2.2.2.1) (q.2.2.2.2.2) sheet0_lost sheet0_form sheet0_size sheet0_items sheet1_lost sheet1_form sheet1_size sheet1_items sheet2_lost sheet2_form sheet2_size sheet2_items sheet3_lost sheet3_form sheet3_size sheet3_items) [(4, .int (q.1))] []) r) : At p l e rm_X8_read s m args below meth c D A 0 0 Q 5 41 (wl_X8_read cA a x_stale x_finding bowls_number bowls_nights bowls_things bowls_realms sheet0_lost sheet0_form sheet0_size sheet0_items sheet1_lost sheet1_form sheet1_size sheet1_items sheet2_lost sheet2_form sheet2_size sheet2_items sheet3_lost sheet3_form sheet3_size sheet3_items) [(0, .ref (a 0)), (2, .ref (a 46)), (3, .int x3), (4, .int x4)] [] := by
  intro H locs ls hP hD hS hl
  have hx := C.1
  have hb := C.2.1
  have hown := C.2.2.2.1
  have hts := C.2.2.2.2.1
  unfold f_X8_read_L41 at hf
  refine lv_iload (pc := 41) hx hb dX8_read_41 (lv_at hl 3 rfl) ?_
  refine lv_iload_n (pc := 43) hx hb dX8_read_43 rfl (lv_at hl 2 rfl) ?_
  refine lv_icmp_ge (pc := 44) (tgt := 84) hx hb dX8_read_44 (by decide) (fun hc => ?_) (fun hc => ?_)
  · have hf := (if_pos hc).symm.trans hf
    have hf := Option.some.inj hf
    subst hf
    exact hK H locs ls hP hD hS (lv_sub hl [3] rfl)
  · have hf := (if_neg hc).symm.trans hf
    refine lv_aload_n (pc := 47) hx hb dX8_read_47 rfl (lv_at hl 0 rfl) ?_
    refine lv_aload_n (pc := 48) hx hb dX8_read_48 rfl (lv_at hl 0 rfl) ?_
    refine g_get (pc := 49) C fg_X8_35 hP 0 rfl rfl dX8_read_49 ?_
    refine lv_aload_n (pc := 52) hx hb dX8_read_52 rfl (lv_at hl 1 rfl) ?_
    refine g_get (pc := 53) C fg_X8_146 hP 6 rfl rfl dX8_read_53 ?_
    refine lv_iconst (pc := 56) (v := 2) hx hb dX8_read_56 ic_2 ?_
    refine lv_iload (pc := 57) hx hb dX8_read_57 (lv_at hl 3 rfl) ?_
    refine lv_imul (pc := 59) hx hb dX8_read_59 ?_
    obtain ⟨hg, hf⟩ := gd_some hf
    refine g_iald (pc := 60) C hP 7 rfl hg dX8_read_60 ?_
    refine lv_aload_n (pc := 61) hx hb dX8_read_61 rfl (lv_at hl 1 rfl) ?_
    refine g_get (pc := 62) C fg_X8_146 hP 6 rfl rfl dX8_read_62 ?_
    refine lv_iconst (pc := 65) (v := 2) hx hb dX8_read_65 ic_2 ?_
    refine lv_iload (pc := 66) hx hb dX8_read_66 (lv_at hl 3 rfl) ?_
    refine lv_imul (pc := 68) hx hb dX8_read_68 ?_
    refine lv_iconst (pc := 69) (v := 1) hx hb dX8_read_69 ic_1 ?_
    refine lv_iadd (pc := 70) hx hb dX8_read_70 ?_
    obtain ⟨hg, hf⟩ := gd_some hf
    refine g_iald (pc := 71) C hP 7 rfl hg dX8_read_71 ?_
    obtain ⟨r3, c4, c5, c6, c7, c8, hq, hf⟩ := bind6_some hf
    refine fin2_i (wl_X8_read cA a c4 x_finding c5 c6 c7 c8 sheet0_lost sheet0_form sheet0_size sheet0_items sheet1_lost sheet1_form sheet1_size sheet1_items sheet2_lost sheet2_form sheet2_size sheet2_items sheet3_lost sheet3_form sheet3_size sheet3_items) (run_V (rest := []) (pc := 72) (As := [.ref (a 15), .int (sheet0_items ((2 : Int32) * x4).toNatClampNeg), .int (sheet0_items (((2 : Int32) * x4) + (1 : Int32)).toNatClampNeg)]) C mf_X8_129 (c_X8_putMark l D cA a (a 15) (a 16) (a 17) (a 18) x_stale x_finding bowls_number bowls_nights bowls_things bowls_realms (sheet0_items ((2 : Int32) * x4).toNatClampNeg) (sheet0_items (((2 : Int32) * x4) + (1 : Int32)).toNatClampNeg) (r3, c4, c5, c6, c7, c8) hq H.size) rfl rfl ⟨(Nat.le_of_ble_eq_true rfl), (Nat.le_of_ble_eq_true rfl)⟩ (preV_of C hP hD [0, 1, 2, 3, 4] rfl (pl_nd pv_30) 0 rfl rfl rfl) rfl hl.1 rfl (Nat.le_of_ble_eq_true rfl) dX8_read_72 ⟨Nat.zero_le _, Nat.zero_le _⟩) hP hD hS hA [0, 1, 2, 3, 4] [5, 6, 7, 8, 9, 10, 11, 12, 13] rfl rfl rfl rfl pv_30 (fun H locs hP hS => ?_)
    have hD : va_D A (wl_X8_read cA a c4 x_finding c5 c6 c7 c8 sheet0_lost sheet0_form sheet0_size sheet0_items sheet1_lost sheet1_form sheet1_size sheet1_items sheet2_lost sheet2_form sheet2_size sheet2_items sheet3_lost sheet3_form sheet3_size sheet3_items) := vd_a hD rfl
    refine lv_if_le (pc := 75) (tgt := 84) hx hb dX8_read_75 (by decide) (fun hc => ?_) (fun hc => ?_)
    · have hf := (if_pos hc).symm.trans hf
      have hf := Option.some.inj hf
      subst hf
      exact hK H locs ls hP hD hS (lv_sub hl [3] rfl)
    · have hf := (if_neg hc).symm.trans hf
      refine lv_iinc (pc := 78) (v := (x4 + 1)) (lv' := [(4, .int (x4 + 1)), (0, .ref (a 0)), (2, .ref (a 46)), (3, .int x3)]) hx hb dX8_read_78 hl (k := 3) rfl rfl (Nat.le_of_ble_eq_true rfl) rfl (fun ls hl => ?_)
      refine lv_goto (pc := 81) (tgt := 41) hx hb dX8_read_81 (by decide) ?_
      have hf := Option.some.inj hf
      subst hf
      exact hK H locs ls hP hD hS (lv_sub hl [1, 2, 3, 0] rfl)
theorem kl_X8_read_L41 (C : Cx RX8 cX8_read 5 D cA p s m args c) (hA : ∀ q, s.heap.size ≤ q → A q) (a : Nat → Nat) (x_finding : Int32) (sheet0_lost : Int32) (sheet0_form : Int32) (sheet0_size : Int32) (sheet0_items : Nat → Int32) (sheet1_lost : Int32) (sheet1_form : Int32) (sheet1_size : Int32) (sheet1_items : Nat → Int32) (sheet2_lost : Int32) (sheet2_form : Int32) (sheet2_size : Int32) (sheet2_items : Nat → Int32) (sheet3_lost : Int32) (sheet3_form : Int32) (sheet3_size : Int32) (sheet3_items : Nat → Int32) (x3 : Int32) : ∀ (n : Nat) (q : Int32 × Int32 × Int32 × (Nat → Int32) × (Nat → Int32) × (Nat → Int32)) (z : (Int32 × Int32 × Int32 × (Nat → Int32) × (Nat → Int32) × (Nat → Int32))), loopF (fun q : Int32 × Int32 × Int32 × (Nat → Int32) × (Nat → Int32) × (Nat → Int32) => f_X8_read_L41 sheet0_items sheet1_items sheet2_items sheet3_items x3 q.1 q.2.1 q.2.2.1 q.2.2.2.1 q.2.2.2.2.1 q.2.2.2.2.2) n q = some z → (fun q : Int32 × Int32 × Int32 × (Nat → Int32) × (Nat → Int32) × (Nat → Int32) => At p l e rm_X8_read s m args below meth c D A 0 0 Q 5 84 (wl_X8_read cA a (q.2.1) x_finding (q.2.2.1) (q.2.2.2.1) (q.2.2.2.2.1) (q.2.2.2.2.2) sheet0_lost sheet0_form sheet0_size sheet0_items sheet1_lost sheet1_form sheet1_size sheet1_items sheet2_lost sheet2_form sheet2_size sheet2_items sheet3_lost sheet3_form sheet3_size sheet3_items) [(4, .int (q.1))] []) z → At p l e rm_X8_read s m args below meth c D A 0 0 Q 5 41 (wl_X8_read cA a (q.2.1) x_finding (q.2.2.1) (q.2.2.2.1) (q.2.2.2.2.1) (q.2.2.2.2.2) sheet0_lost sheet0_form sheet0_size sheet0_items sheet1_lost sheet1_form sheet1_size sheet1_items sheet2_lost sheet2_form sheet2_size sheet2_items sheet3_lost sheet3_form sheet3_size sheet3_items) [(0, .ref (a 0)), (2, .ref (a 46)), (3, .int x3), (4, .int (q.1))] [] :=
  loop_lem (WP := fun q : Int32 × Int32 × Int32 × (Nat → Int32) × (Nat → Int32) × (Nat → Int32) => At p l e rm_X8_read s m args below meth c D A 0 0 Q 5 41 (wl_X8_read cA a (q.2.1) x_finding (q.2.2.1) (q.2.2.2.1) (q.2.2.2.2.1) (q.2.2.2.2.2) sheet0_lost sheet0_form sheet0_size sheet0_items sheet1_lost sheet1_form sheet1_size sheet1_items sheet2_lost sheet2_form sheet2_size sheet2_items sheet3_lost sheet3_form sheet3_size sheet3_items) [(0, .ref (a 0)), (2, .ref (a 46)), (3, .int x3), (4, .int (q.1))] []) (WE := (fun q : Int32 × Int32 × Int32 × (Nat → Int32) × (Nat → Int32) × (Nat → Int32) => At p l e rm_X8_read s m args below meth c D A 0 0 Q 5 84 (wl_X8_read cA a (q.2.1) x_finding (q.2.2.1) (q.2.2.2.1) (q.2.2.2.2.1) (q.2.2.2.2.2) sheet0_lost sheet0_form sheet0_size sheet0_items sheet1_lost sheet1_form sheet1_size sheet1_items sheet2_lost sheet2_form sheet2_size sheet2_items sheet3_lost sheet3_form sheet3_size sheet3_items) [(4, .int (q.1))] [])) (fun q r hf hK => k_X8_read_L41 C hA a x_finding sheet0_lost sheet0_form sheet0_size sheet0_items sheet1_lost sheet1_form sheet1_size sheet1_items sheet2_lost sheet2_form sheet2_size sheet2_items sheet3_lost sheet3_form sheet3_size sheet3_items x3 q.1 q.2.1 q.2.2.1 q.2.2.2.1 q.2.2.2.2.1 q.2.2.2.2.2 r hf hK)
def f_X8_read_L41_v1 (sheet0_items : Nat → Int32) (sheet1_items : Nat → Int32) (sheet2_items : Nat → Int32) (sheet3_items : Nat → Int32) (x3 : Int32) (x4 : Int32) (x_stale : Int32) (bowls_number : Int32) (bowls_nights : Nat → Int32) (bowls_things : Nat → Int32) (bowls_realms : Nat → Int32) : Option ((Int32 × Int32 × Int32 × (Nat → Int32) × (Nat → Int32) × (Nat → Int32)) ⊕ (Int32 × Int32 × Int32 × (Nat → Int32) × (Nat → Int32) × (Nat → Int32))) :=
  if x3 ≤ x4 then (some (.inr (x4, x_stale, bowls_number, bowls_nights, bowls_things, bowls_realms))) else (gd (inb ((2 : Int32) * x4) 60) (gd (inb (((2 : Int32) * x4) + (1 : Int32)) 60) (bind6 (f_X8_putMark x_stale bowls_number bowls_nights bowls_things bowls_realms (sheet1_items ((2 : Int32) * x4).toNatClampNeg) (sheet1_items (((2 : Int32) * x4) + (1 : Int32)).toNatClampNeg)) (fun r18 c19 c20 c21 c22 c23 => if r18 ≤ 0 then (some (.inr (x4, c19, c20, c21, c22, c23))) else (some (.inl ((x4 + 1), c19, c20, c21, c22, c23)))))))
set_option maxHeartbeats 4000000 in
set_option maxRecDepth 100000 in
theorem k_X8_read_L41_v1 (C : Cx RX8 cX8_read 5 D cA p s m args c) (hA : ∀ q, s.heap.size ≤ q → A q) (a : Nat → Nat) (x_finding : Int32) (sheet0_lost : Int32) (sheet0_form : Int32) (sheet0_size : Int32) (sheet0_items : Nat → Int32) (sheet1_lost : Int32) (sheet1_form : Int32) (sheet1_size : Int32) (sheet1_items : Nat → Int32) (sheet2_lost : Int32) (sheet2_form : Int32) (sheet2_size : Int32) (sheet2_items : Nat → Int32) (sheet3_lost : Int32) (sheet3_form : Int32) (sheet3_size : Int32) (sheet3_items : Nat → Int32) (x3 : Int32) (x4 : Int32) (x_stale : Int32) (bowls_number : Int32) (bowls_nights : Nat → Int32) (bowls_things : Nat → Int32) (bowls_realms : Nat → Int32) (r : (Int32 × Int32 × Int32 × (Nat → Int32) × (Nat → Int32) × (Nat → Int32)) ⊕ (Int32 × Int32 × Int32 × (Nat → Int32) × (Nat → Int32) × (Nat → Int32))) (hf : f_X8_read_L41_v1 sheet0_items sheet1_items sheet2_items sheet3_items x3 x4 x_stale bowls_number bowls_nights bowls_things bowls_realms = some r) (hK : Sum.elim (fun q : Int32 × Int32 × Int32 × (Nat → Int32) × (Nat → Int32) × (Nat → Int32) => At p l e rm_X8_read s m args below meth c D A 0 0 Q 5 41 (wl_X8_read cA a (q.2.1) x_finding (q.2.2.1) (q.2.2.2.1) (q.2.2.2.2.1) (q.2.2.2.2.2) sheet0_lost sheet0_form sheet0_size sheet0_items sheet1_lost sheet1_form sheet1_size sheet1_items sheet2_lost sheet2_form sheet2_size sheet2_items sheet3_lost sheet3_form sheet3_size sheet3_items) [(0, .ref (a 0)), (2, .ref (a 48)), (3, .int x3), (4, .int (q.1))] []) (fun q : Int32 × Int32 × Int32 × (Nat → Int32) × (Nat → Int32) × (Nat → Int32) => At p l e rm_X8_read s m args below meth c D A 0 0 Q 5 84 (wl_X8_read cA a (q.2.1) x_finding (q.2.2.1) (q.2.2.2.1) (q.2.2.2.2.1) (q.2.2.2.2.2) sheet0_lost sheet0_form sheet0_size sheet0_items sheet1_lost sheet1_form sheet1_size sheet1_items sheet2_lost sheet2_form sheet2_size sheet2_items sheet3_lost sheet3_form sheet3_size sheet3_items) [(4, .int (q.1))] []) r) : At p l e rm_X8_read s m args below meth c D A 0 0 Q 5 41 (wl_X8_read cA a x_stale x_finding bowls_number bowls_nights bowls_things bowls_realms sheet0_lost sheet0_form sheet0_size sheet0_items sheet1_lost sheet1_form sheet1_size sheet1_items sheet2_lost sheet2_form sheet2_size sheet2_items sheet3_lost sheet3_form sheet3_size sheet3_items) [(0, .ref (a 0)), (2, .ref (a 48)), (3, .int x3), (4, .int x4)] [] := by
  intro H locs ls hP hD hS hl
  have hx := C.1
  have hb := C.2.1
  have hown := C.2.2.2.1
  have hts := C.2.2.2.2.1
  unfold f_X8_read_L41_v1 at hf
  refine lv_iload (pc := 41) hx hb dX8_read_41 (lv_at hl 3 rfl) ?_
  refine lv_iload_n (pc := 43) hx hb dX8_read_43 rfl (lv_at hl 2 rfl) ?_
  refine lv_icmp_ge (pc := 44) (tgt := 84) hx hb dX8_read_44 (by decide) (fun hc => ?_) (fun hc => ?_)
  · have hf := (if_pos hc).symm.trans hf
    have hf := Option.some.inj hf
    subst hf
    exact hK H locs ls hP hD hS (lv_sub hl [3] rfl)
  · have hf := (if_neg hc).symm.trans hf
    refine lv_aload_n (pc := 47) hx hb dX8_read_47 rfl (lv_at hl 0 rfl) ?_
    refine lv_aload_n (pc := 48) hx hb dX8_read_48 rfl (lv_at hl 0 rfl) ?_
    refine g_get (pc := 49) C fg_X8_35 hP 0 rfl rfl dX8_read_49 ?_
    refine lv_aload_n (pc := 52) hx hb dX8_read_52 rfl (lv_at hl 1 rfl) ?_
    refine g_get (pc := 53) C fg_X8_146 hP 8 rfl rfl dX8_read_53 ?_
    refine lv_iconst (pc := 56) (v := 2) hx hb dX8_read_56 ic_2 ?_
    refine lv_iload (pc := 57) hx hb dX8_read_57 (lv_at hl 3 rfl) ?_
    refine lv_imul (pc := 59) hx hb dX8_read_59 ?_
    obtain ⟨hg, hf⟩ := gd_some hf
    refine g_iald (pc := 60) C hP 9 rfl hg dX8_read_60 ?_
    refine lv_aload_n (pc := 61) hx hb dX8_read_61 rfl (lv_at hl 1 rfl) ?_
    refine g_get (pc := 62) C fg_X8_146 hP 8 rfl rfl dX8_read_62 ?_
    refine lv_iconst (pc := 65) (v := 2) hx hb dX8_read_65 ic_2 ?_
    refine lv_iload (pc := 66) hx hb dX8_read_66 (lv_at hl 3 rfl) ?_
    refine lv_imul (pc := 68) hx hb dX8_read_68 ?_
    refine lv_iconst (pc := 69) (v := 1) hx hb dX8_read_69 ic_1 ?_
    refine lv_iadd (pc := 70) hx hb dX8_read_70 ?_
    obtain ⟨hg, hf⟩ := gd_some hf
    refine g_iald (pc := 71) C hP 9 rfl hg dX8_read_71 ?_
    obtain ⟨r18, c19, c20, c21, c22, c23, hq, hf⟩ := bind6_some hf
    refine fin2_i (wl_X8_read cA a c19 x_finding c20 c21 c22 c23 sheet0_lost sheet0_form sheet0_size sheet0_items sheet1_lost sheet1_form sheet1_size sheet1_items sheet2_lost sheet2_form sheet2_size sheet2_items sheet3_lost sheet3_form sheet3_size sheet3_items) (run_V (rest := []) (pc := 72) (As := [.ref (a 15), .int (sheet1_items ((2 : Int32) * x4).toNatClampNeg), .int (sheet1_items (((2 : Int32) * x4) + (1 : Int32)).toNatClampNeg)]) C mf_X8_129 (c_X8_putMark l D cA a (a 15) (a 16) (a 17) (a 18) x_stale x_finding bowls_number bowls_nights bowls_things bowls_realms (sheet1_items ((2 : Int32) * x4).toNatClampNeg) (sheet1_items (((2 : Int32) * x4) + (1 : Int32)).toNatClampNeg) (r18, c19, c20, c21, c22, c23) hq H.size) rfl rfl ⟨(Nat.le_of_ble_eq_true rfl), (Nat.le_of_ble_eq_true rfl)⟩ (preV_of C hP hD [0, 1, 2, 3, 4] rfl (pl_nd pv_30) 0 rfl rfl rfl) rfl hl.1 rfl (Nat.le_of_ble_eq_true rfl) dX8_read_72 ⟨Nat.zero_le _, Nat.zero_le _⟩) hP hD hS hA [0, 1, 2, 3, 4] [5, 6, 7, 8, 9, 10, 11, 12, 13] rfl rfl rfl rfl pv_30 (fun H locs hP hS => ?_)
    have hD : va_D A (wl_X8_read cA a c19 x_finding c20 c21 c22 c23 sheet0_lost sheet0_form sheet0_size sheet0_items sheet1_lost sheet1_form sheet1_size sheet1_items sheet2_lost sheet2_form sheet2_size sheet2_items sheet3_lost sheet3_form sheet3_size sheet3_items) := vd_a hD rfl
    refine lv_if_le (pc := 75) (tgt := 84) hx hb dX8_read_75 (by decide) (fun hc => ?_) (fun hc => ?_)
    · have hf := (if_pos hc).symm.trans hf
      have hf := Option.some.inj hf
      subst hf
      exact hK H locs ls hP hD hS (lv_sub hl [3] rfl)
    · have hf := (if_neg hc).symm.trans hf
      refine lv_iinc (pc := 78) (v := (x4 + 1)) (lv' := [(4, .int (x4 + 1)), (0, .ref (a 0)), (2, .ref (a 48)), (3, .int x3)]) hx hb dX8_read_78 hl (k := 3) rfl rfl (Nat.le_of_ble_eq_true rfl) rfl (fun ls hl => ?_)
      refine lv_goto (pc := 81) (tgt := 41) hx hb dX8_read_81 (by decide) ?_
      have hf := Option.some.inj hf
      subst hf
      exact hK H locs ls hP hD hS (lv_sub hl [1, 2, 3, 0] rfl)
theorem kl_X8_read_L41_v1 (C : Cx RX8 cX8_read 5 D cA p s m args c) (hA : ∀ q, s.heap.size ≤ q → A q) (a : Nat → Nat) (x_finding : Int32) (sheet0_lost : Int32) (sheet0_form : Int32) (sheet0_size : Int32) (sheet0_items : Nat → Int32) (sheet1_lost : Int32) (sheet1_form : Int32) (sheet1_size : Int32) (sheet1_items : Nat → Int32) (sheet2_lost : Int32) (sheet2_form : Int32) (sheet2_size : Int32) (sheet2_items : Nat → Int32) (sheet3_lost : Int32) (sheet3_form : Int32) (sheet3_size : Int32) (sheet3_items : Nat → Int32) (x3 : Int32) : ∀ (n : Nat) (q : Int32 × Int32 × Int32 × (Nat → Int32) × (Nat → Int32) × (Nat → Int32)) (z : (Int32 × Int32 × Int32 × (Nat → Int32) × (Nat → Int32) × (Nat → Int32))), loopF (fun q : Int32 × Int32 × Int32 × (Nat → Int32) × (Nat → Int32) × (Nat → Int32) => f_X8_read_L41_v1 sheet0_items sheet1_items sheet2_items sheet3_items x3 q.1 q.2.1 q.2.2.1 q.2.2.2.1 q.2.2.2.2.1 q.2.2.2.2.2) n q = some z → (fun q : Int32 × Int32 × Int32 × (Nat → Int32) × (Nat → Int32) × (Nat → Int32) => At p l e rm_X8_read s m args below meth c D A 0 0 Q 5 84 (wl_X8_read cA a (q.2.1) x_finding (q.2.2.1) (q.2.2.2.1) (q.2.2.2.2.1) (q.2.2.2.2.2) sheet0_lost sheet0_form sheet0_size sheet0_items sheet1_lost sheet1_form sheet1_size sheet1_items sheet2_lost sheet2_form sheet2_size sheet2_items sheet3_lost sheet3_form sheet3_size sheet3_items) [(4, .int (q.1))] []) z → At p l e rm_X8_read s m args below meth c D A 0 0 Q 5 41 (wl_X8_read cA a (q.2.1) x_finding (q.2.2.1) (q.2.2.2.1) (q.2.2.2.2.1) (q.2.2.2.2.2) sheet0_lost sheet0_form sheet0_size sheet0_items sheet1_lost sheet1_form sheet1_size sheet1_items sheet2_lost sheet2_form sheet2_size sheet2_items sheet3_lost sheet3_form sheet3_size sheet3_items) [(0, .ref (a 0)), (2, .ref (a 48)), (3, .int x3), (4, .int (q.1))] [] :=
  loop_lem (WP := fun q : Int32 × Int32 × Int32 × (Nat → Int32) × (Nat → Int32) × (Nat → Int32) => At p l e rm_X8_read s m args below meth c D A 0 0 Q 5 41 (wl_X8_read cA a (q.2.1) x_finding (q.2.2.1) (q.2.2.2.1) (q.2.2.2.2.1) (q.2.2.2.2.2) sheet0_lost sheet0_form sheet0_size sheet0_items sheet1_lost sheet1_form sheet1_size sheet1_items sheet2_lost sheet2_form sheet2_size sheet2_items sheet3_lost sheet3_form sheet3_size sheet3_items) [(0, .ref (a 0)), (2, .ref (a 48)), (3, .int x3), (4, .int (q.1))] []) (WE := (fun q : Int32 × Int32 × Int32 × (Nat → Int32) × (Nat → Int32) × (Nat → Int32) => At p l e rm_X8_read s m args below meth c D A 0 0 Q 5 84 (wl_X8_read cA a (q.2.1) x_finding (q.2.2.1) (q.2.2.2.1) (q.2.2.2.2.1) (q.2.2.2.2.2) sheet0_lost sheet0_form sheet0_size sheet0_items sheet1_lost sheet1_form sheet1_size sheet1_items sheet2_lost sheet2_form sheet2_size sheet2_items sheet3_lost sheet3_form sheet3_size sheet3_items) [(4, .int (q.1))] [])) (fun q r hf hK => k_X8_read_L41_v1 C hA a x_finding sheet0_lost sheet0_form sheet0_size sheet0_items sheet1_lost sheet1_form sheet1_size sheet1_items sheet2_lost sheet2_form sheet2_size sheet2_items sheet3_lost sheet3_form sheet3_size sheet3_items x3 q.1 q.2.1 q.2.2.1 q.2.2.2.1 q.2.2.2.2.1 q.2.2.2.2.2 r hf hK)
def f_X8_read_L41_v2 (sheet0_items : Nat → Int32) (sheet1_items : Nat → Int32) (sheet2_items : Nat → Int32) (sheet3_items : Nat → Int32) (x3 : Int32) (x4 : Int32) (x_stale : Int32) (bowls_number : Int32) (bowls_nights : Nat → Int32) (bowls_things : Nat → Int32) (bowls_realms : Nat → Int32) : Option ((Int32 × Int32 × Int32 × (Nat → Int32) × (Nat → Int32) × (Nat → Int32)) ⊕ (Int32 × Int32 × Int32 × (Nat → Int32) × (Nat → Int32) × (Nat → Int32))) :=
  if x3 ≤ x4 then (some (.inr (x4, x_stale, bowls_number, bowls_nights, bowls_things, bowls_realms))) else (gd (inb ((2 : Int32) * x4) 60) (gd (inb (((2 : Int32) * x4) + (1 : Int32)) 60) (bind6 (f_X8_putMark x_stale bowls_number bowls_nights bowls_things bowls_realms (sheet2_items ((2 : Int32) * x4).toNatClampNeg) (sheet2_items (((2 : Int32) * x4) + (1 : Int32)).toNatClampNeg)) (fun r33 c34 c35 c36 c37 c38 => if r33 ≤ 0 then (some (.inr (x4, c34, c35, c36, c37, c38))) else (some (.inl ((x4 + 1), c34, c35, c36, c37, c38)))))))
set_option maxHeartbeats 4000000 in
set_option maxRecDepth 100000 in
theorem k_X8_read_L41_v2 (C : Cx RX8 cX8_read 5 D cA p s m args c) (hA : ∀ q, s.heap.size ≤ q → A q) (a : Nat → Nat) (x_finding : Int32) (sheet0_lost : Int32) (sheet0_form : Int32) (sheet0_size : Int32) (sheet0_items : Nat → Int32) (sheet1_lost : Int32) (sheet1_form : Int32) (sheet1_size : Int32) (sheet1_items : Nat → Int32) (sheet2_lost : Int32) (sheet2_form : Int32) (sheet2_size : Int32) (sheet2_items : Nat → Int32) (sheet3_lost : Int32) (sheet3_form : Int32) (sheet3_size : Int32) (sheet3_items : Nat → Int32) (x3 : Int32) (x4 : Int32) (x_stale : Int32) (bowls_number : Int32) (bowls_nights : Nat → Int32) (bowls_things : Nat → Int32) (bowls_realms : Nat → Int32) (r : (Int32 × Int32 × Int32 × (Nat → Int32) × (Nat → Int32) × (Nat → Int32)) ⊕ (Int32 × Int32 × Int32 × (Nat → Int32) × (Nat → Int32) × (Nat → Int32))) (hf : f_X8_read_L41_v2 sheet0_items sheet1_items sheet2_items sheet3_items x3 x4 x_stale bowls_number bowls_nights bowls_things bowls_realms = some r) (hK : Sum.elim (fun q : Int32 × Int32 × Int32 × (Nat → Int32) × (Nat → Int32) × (Nat → Int32) => At p l e rm_X8_read s m args below meth c D A 0 0 Q 5 41 (wl_X8_read cA a (q.2.1) x_finding (q.2.2.1) (q.2.2.2.1) (q.2.2.2.2.1) (q.2.2.2.2.2) sheet0_lost sheet0_form sheet0_size sheet0_items sheet1_lost sheet1_form sheet1_size sheet1_items sheet2_lost sheet2_form sheet2_size sheet2_items sheet3_lost sheet3_form sheet3_size sheet3_items) [(0, .ref (a 0)), (2, .ref (a 50)), (3, .int x3), (4, .int (q.1))] []) (fun q : Int32 × Int32 × Int32 × (Nat → Int32) × (Nat → Int32) × (Nat → Int32) => At p l e rm_X8_read s m args below meth c D A 0 0 Q 5 84 (wl_X8_read cA a (q.2.1) x_finding (q.2.2.1) (q.2.2.2.1) (q.2.2.2.2.1) (q.2.2.2.2.2) sheet0_lost sheet0_form sheet0_size sheet0_items sheet1_lost sheet1_form sheet1_size sheet1_items sheet2_lost sheet2_form sheet2_size sheet2_items sheet3_lost sheet3_form sheet3_size sheet3_items) [(4, .int (q.1))] []) r) : At p l e rm_X8_read s m args below meth c D A 0 0 Q 5 41 (wl_X8_read cA a x_stale x_finding bowls_number bowls_nights bowls_things bowls_realms sheet0_lost sheet0_form sheet0_size sheet0_items sheet1_lost sheet1_form sheet1_size sheet1_items sheet2_lost sheet2_form sheet2_size sheet2_items sheet3_lost sheet3_form sheet3_size sheet3_items) [(0, .ref (a 0)), (2, .ref (a 50)), (3, .int x3), (4, .int x4)] [] := by
  intro H locs ls hP hD hS hl
  have hx := C.1
  have hb := C.2.1
  have hown := C.2.2.2.1
  have hts := C.2.2.2.2.1
  unfold f_X8_read_L41_v2 at hf
  refine lv_iload (pc := 41) hx hb dX8_read_41 (lv_at hl 3 rfl) ?_
  refine lv_iload_n (pc := 43) hx hb dX8_read_43 rfl (lv_at hl 2 rfl) ?_
  refine lv_icmp_ge (pc := 44) (tgt := 84) hx hb dX8_read_44 (by decide) (fun hc => ?_) (fun hc => ?_)
  · have hf := (if_pos hc).symm.trans hf
    have hf := Option.some.inj hf
    subst hf
    exact hK H locs ls hP hD hS (lv_sub hl [3] rfl)
  · have hf := (if_neg hc).symm.trans hf
    refine lv_aload_n (pc := 47) hx hb dX8_read_47 rfl (lv_at hl 0 rfl) ?_
    refine lv_aload_n (pc := 48) hx hb dX8_read_48 rfl (lv_at hl 0 rfl) ?_
    refine g_get (pc := 49) C fg_X8_35 hP 0 rfl rfl dX8_read_49 ?_
    refine lv_aload_n (pc := 52) hx hb dX8_read_52 rfl (lv_at hl 1 rfl) ?_
    refine g_get (pc := 53) C fg_X8_146 hP 10 rfl rfl dX8_read_53 ?_
    refine lv_iconst (pc := 56) (v := 2) hx hb dX8_read_56 ic_2 ?_
    refine lv_iload (pc := 57) hx hb dX8_read_57 (lv_at hl 3 rfl) ?_
    refine lv_imul (pc := 59) hx hb dX8_read_59 ?_
    obtain ⟨hg, hf⟩ := gd_some hf
    refine g_iald (pc := 60) C hP 11 rfl hg dX8_read_60 ?_
    refine lv_aload_n (pc := 61) hx hb dX8_read_61 rfl (lv_at hl 1 rfl) ?_
    refine g_get (pc := 62) C fg_X8_146 hP 10 rfl rfl dX8_read_62 ?_
    refine lv_iconst (pc := 65) (v := 2) hx hb dX8_read_65 ic_2 ?_
    refine lv_iload (pc := 66) hx hb dX8_read_66 (lv_at hl 3 rfl) ?_
    refine lv_imul (pc := 68) hx hb dX8_read_68 ?_
    refine lv_iconst (pc := 69) (v := 1) hx hb dX8_read_69 ic_1 ?_
    refine lv_iadd (pc := 70) hx hb dX8_read_70 ?_
    obtain ⟨hg, hf⟩ := gd_some hf
    refine g_iald (pc := 71) C hP 11 rfl hg dX8_read_71 ?_
    obtain ⟨r33, c34, c35, c36, c37, c38, hq, hf⟩ := bind6_some hf
    refine fin2_i (wl_X8_read cA a c34 x_finding c35 c36 c37 c38 sheet0_lost sheet0_form sheet0_size sheet0_items sheet1_lost sheet1_form sheet1_size sheet1_items sheet2_lost sheet2_form sheet2_size sheet2_items sheet3_lost sheet3_form sheet3_size sheet3_items) (run_V (rest := []) (pc := 72) (As := [.ref (a 15), .int (sheet2_items ((2 : Int32) * x4).toNatClampNeg), .int (sheet2_items (((2 : Int32) * x4) + (1 : Int32)).toNatClampNeg)]) C mf_X8_129 (c_X8_putMark l D cA a (a 15) (a 16) (a 17) (a 18) x_stale x_finding bowls_number bowls_nights bowls_things bowls_realms (sheet2_items ((2 : Int32) * x4).toNatClampNeg) (sheet2_items (((2 : Int32) * x4) + (1 : Int32)).toNatClampNeg) (r33, c34, c35, c36, c37, c38) hq H.size) rfl rfl ⟨(Nat.le_of_ble_eq_true rfl), (Nat.le_of_ble_eq_true rfl)⟩ (preV_of C hP hD [0, 1, 2, 3, 4] rfl (pl_nd pv_30) 0 rfl rfl rfl) rfl hl.1 rfl (Nat.le_of_ble_eq_true rfl) dX8_read_72 ⟨Nat.zero_le _, Nat.zero_le _⟩) hP hD hS hA [0, 1, 2, 3, 4] [5, 6, 7, 8, 9, 10, 11, 12, 13] rfl rfl rfl rfl pv_30 (fun H locs hP hS => ?_)
    have hD : va_D A (wl_X8_read cA a c34 x_finding c35 c36 c37 c38 sheet0_lost sheet0_form sheet0_size sheet0_items sheet1_lost sheet1_form sheet1_size sheet1_items sheet2_lost sheet2_form sheet2_size sheet2_items sheet3_lost sheet3_form sheet3_size sheet3_items) := vd_a hD rfl
    refine lv_if_le (pc := 75) (tgt := 84) hx hb dX8_read_75 (by decide) (fun hc => ?_) (fun hc => ?_)
    · have hf := (if_pos hc).symm.trans hf
      have hf := Option.some.inj hf
      subst hf
      exact hK H locs ls hP hD hS (lv_sub hl [3] rfl)
    · have hf := (if_neg hc).symm.trans hf
      refine lv_iinc (pc := 78) (v := (x4 + 1)) (lv' := [(4, .int (x4 + 1)), (0, .ref (a 0)), (2, .ref (a 50)), (3, .int x3)]) hx hb dX8_read_78 hl (k := 3) rfl rfl (Nat.le_of_ble_eq_true rfl) rfl (fun ls hl => ?_)
      refine lv_goto (pc := 81) (tgt := 41) hx hb dX8_read_81 (by decide) ?_
      have hf := Option.some.inj hf
      subst hf
      exact hK H locs ls hP hD hS (lv_sub hl [1, 2, 3, 0] rfl)
theorem kl_X8_read_L41_v2 (C : Cx RX8 cX8_read 5 D cA p s m args c) (hA : ∀ q, s.heap.size ≤ q → A q) (a : Nat → Nat) (x_finding : Int32) (sheet0_lost : Int32) (sheet0_form : Int32) (sheet0_size : Int32) (sheet0_items : Nat → Int32) (sheet1_lost : Int32) (sheet1_form : Int32) (sheet1_size : Int32) (sheet1_items : Nat → Int32) (sheet2_lost : Int32) (sheet2_form : Int32) (sheet2_size : Int32) (sheet2_items : Nat → Int32) (sheet3_lost : Int32) (sheet3_form : Int32) (sheet3_size : Int32) (sheet3_items : Nat → Int32) (x3 : Int32) : ∀ (n : Nat) (q : Int32 × Int32 × Int32 × (Nat → Int32) × (Nat → Int32) × (Nat → Int32)) (z : (Int32 × Int32 × Int32 × (Nat → Int32) × (Nat → Int32) × (Nat → Int32))), loopF (fun q : Int32 × Int32 × Int32 × (Nat → Int32) × (Nat → Int32) × (Nat → Int32) => f_X8_read_L41_v2 sheet0_items sheet1_items sheet2_items sheet3_items x3 q.1 q.2.1 q.2.2.1 q.2.2.2.1 q.2.2.2.2.1 q.2.2.2.2.2) n q = some z → (fun q : Int32 × Int32 × Int32 × (Nat → Int32) × (Nat → Int32) × (Nat → Int32) => At p l e rm_X8_read s m args below meth c D A 0 0 Q 5 84 (wl_X8_read cA a (q.2.1) x_finding (q.2.2.1) (q.2.2.2.1) (q.2.2.2.2.1) (q.2.2.2.2.2) sheet0_lost sheet0_form sheet0_size sheet0_items sheet1_lost sheet1_form sheet1_size sheet1_items sheet2_lost sheet2_form sheet2_size sheet2_items sheet3_lost sheet3_form sheet3_size sheet3_items) [(4, .int (q.1))] []) z → At p l e rm_X8_read s m args below meth c D A 0 0 Q 5 41 (wl_X8_read cA a (q.2.1) x_finding (q.2.2.1) (q.2.2.2.1) (q.2.2.2.2.1) (q.2.2.2.2.2) sheet0_lost sheet0_form sheet0_size sheet0_items sheet1_lost sheet1_form sheet1_size sheet1_items sheet2_lost sheet2_form sheet2_size sheet2_items sheet3_lost sheet3_form sheet3_size sheet3_items) [(0, .ref (a 0)), (2, .ref (a 50)), (3, .int x3), (4, .int (q.1))] [] :=
  loop_lem (WP := fun q : Int32 × Int32 × Int32 × (Nat → Int32) × (Nat → Int32) × (Nat → Int32) => At p l e rm_X8_read s m args below meth c D A 0 0 Q 5 41 (wl_X8_read cA a (q.2.1) x_finding (q.2.2.1) (q.2.2.2.1) (q.2.2.2.2.1) (q.2.2.2.2.2) sheet0_lost sheet0_form sheet0_size sheet0_items sheet1_lost sheet1_form sheet1_size sheet1_items sheet2_lost sheet2_form sheet2_size sheet2_items sheet3_lost sheet3_form sheet3_size sheet3_items) [(0, .ref (a 0)), (2, .ref (a 50)), (3, .int x3), (4, .int (q.1))] []) (WE := (fun q : Int32 × Int32 × Int32 × (Nat → Int32) × (Nat → Int32) × (Nat → Int32) => At p l e rm_X8_read s m args below meth c D A 0 0 Q 5 84 (wl_X8_read cA a (q.2.1) x_finding (q.2.2.1) (q.2.2.2.1) (q.2.2.2.2.1) (q.2.2.2.2.2) sheet0_lost sheet0_form sheet0_size sheet0_items sheet1_lost sheet1_form sheet1_size sheet1_items sheet2_lost sheet2_form sheet2_size sheet2_items sheet3_lost sheet3_form sheet3_size sheet3_items) [(4, .int (q.1))] [])) (fun q r hf hK => k_X8_read_L41_v2 C hA a x_finding sheet0_lost sheet0_form sheet0_size sheet0_items sheet1_lost sheet1_form sheet1_size sheet1_items sheet2_lost sheet2_form sheet2_size sheet2_items sheet3_lost sheet3_form sheet3_size sheet3_items x3 q.1 q.2.1 q.2.2.1 q.2.2.2.1 q.2.2.2.2.1 q.2.2.2.2.2 r hf hK)
def f_X8_read_L41_v3 (sheet0_items : Nat → Int32) (sheet1_items : Nat → Int32) (sheet2_items : Nat → Int32) (sheet3_items : Nat → Int32) (x3 : Int32) (x4 : Int32) (x_stale : Int32) (bowls_number : Int32) (bowls_nights : Nat → Int32) (bowls_things : Nat → Int32) (bowls_realms : Nat → Int32) : Option ((Int32 × Int32 × Int32 × (Nat → Int32) × (Nat → Int32) × (Nat → Int32)) ⊕ (Int32 × Int32 × Int32 × (Nat → Int32) × (Nat → Int32) × (Nat → Int32))) :=
  if x3 ≤ x4 then (some (.inr (x4, x_stale, bowls_number, bowls_nights, bowls_things, bowls_realms))) else (gd (inb ((2 : Int32) * x4) 60) (gd (inb (((2 : Int32) * x4) + (1 : Int32)) 60) (bind6 (f_X8_putMark x_stale bowls_number bowls_nights bowls_things bowls_realms (sheet3_items ((2 : Int32) * x4).toNatClampNeg) (sheet3_items (((2 : Int32) * x4) + (1 : Int32)).toNatClampNeg)) (fun r48 c49 c50 c51 c52 c53 => if r48 ≤ 0 then (some (.inr (x4, c49, c50, c51, c52, c53))) else (some (.inl ((x4 + 1), c49, c50, c51, c52, c53)))))))
set_option maxHeartbeats 4000000 in
set_option maxRecDepth 100000 in
theorem k_X8_read_L41_v3 (C : Cx RX8 cX8_read 5 D cA p s m args c) (hA : ∀ q, s.heap.size ≤ q → A q) (a : Nat → Nat) (x_finding : Int32) (sheet0_lost : Int32) (sheet0_form : Int32) (sheet0_size : Int32) (sheet0_items : Nat → Int32) (sheet1_lost : Int32) (sheet1_form : Int32) (sheet1_size : Int32) (sheet1_items : Nat → Int32) (sheet2_lost : Int32) (sheet2_form : Int32) (sheet2_size : Int32) (sheet2_items : Nat → Int32) (sheet3_lost : Int32) (sheet3_form : Int32) (sheet3_size : Int32) (sheet3_items : Nat → Int32) (x3 : Int32) (x4 : Int32) (x_stale : Int32) (bowls_number : Int32) (bowls_nights : Nat → Int32) (bowls_things : Nat → Int32) (bowls_realms : Nat → Int32) (r : (Int32 × Int32 × Int32 × (Nat → Int32) × (Nat → Int32) × (Nat → Int32)) ⊕ (Int32 × Int32 × Int32 × (Nat → Int32) × (Nat → Int32) × (Nat → Int32))) (hf : f_X8_read_L41_v3 sheet0_items sheet1_items sheet2_items sheet3_items x3 x4 x_stale bowls_number bowls_nights bowls_things bowls_realms = some r) (hK : Sum.elim (fun q : Int32 × Int32 × Int32 × (Nat → Int32) × (Nat → Int32) × (Nat → Int32) => At p l e rm_X8_read s m args below meth c D A 0 0 Q 5 41 (wl_X8_read cA a (q.2.1) x_finding (q.2.2.1) (q.2.2.2.1) (q.2.2.2.2.1) (q.2.2.2.2.2) sheet0_lost sheet0_form sheet0_size sheet0_items sheet1_lost sheet1_form sheet1_size sheet1_items sheet2_lost sheet2_form sheet2_size sheet2_items sheet3_lost sheet3_form sheet3_size sheet3_items) [(0, .ref (a 0)), (2, .ref (a 52)), (3, .int x3), (4, .int (q.1))] []) (fun q : Int32 × Int32 × Int32 × (Nat → Int32) × (Nat → Int32) × (Nat → Int32) => At p l e rm_X8_read s m args below meth c D A 0 0 Q 5 84 (wl_X8_read cA a (q.2.1) x_finding (q.2.2.1) (q.2.2.2.1) (q.2.2.2.2.1) (q.2.2.2.2.2) sheet0_lost sheet0_form sheet0_size sheet0_items sheet1_lost sheet1_form sheet1_size sheet1_items sheet2_lost sheet2_form sheet2_size sheet2_items sheet3_lost sheet3_form sheet3_size sheet3_items) [(4, .int (q.1))] []) r) : At p l e rm_X8_read s m args below meth c D A 0 0 Q 5 41 (wl_X8_read cA a x_stale x_finding bowls_number bowls_nights bowls_things bowls_realms sheet0_lost sheet0_form sheet0_size sheet0_items sheet1_lost sheet1_form sheet1_size sheet1_items sheet2_lost sheet2_form sheet2_size sheet2_items sheet3_lost sheet3_form sheet3_size sheet3_items) [(0, .ref (a 0)), (2, .ref (a 52)), (3, .int x3), (4, .int x4)] [] := by
  intro H locs ls hP hD hS hl
  have hx := C.1
  have hb := C.2.1
  have hown := C.2.2.2.1
  have hts := C.2.2.2.2.1
  unfold f_X8_read_L41_v3 at hf
  refine lv_iload (pc := 41) hx hb dX8_read_41 (lv_at hl 3 rfl) ?_
  refine lv_iload_n (pc := 43) hx hb dX8_read_43 rfl (lv_at hl 2 rfl) ?_
  refine lv_icmp_ge (pc := 44) (tgt := 84) hx hb dX8_read_44 (by decide) (fun hc => ?_) (fun hc => ?_)
  · have hf := (if_pos hc).symm.trans hf
    have hf := Option.some.inj hf
    subst hf
    exact hK H locs ls hP hD hS (lv_sub hl [3] rfl)
  · have hf := (if_neg hc).symm.trans hf
    refine lv_aload_n (pc := 47) hx hb dX8_read_47 rfl (lv_at hl 0 rfl) ?_
    refine lv_aload_n (pc := 48) hx hb dX8_read_48 rfl (lv_at hl 0 rfl) ?_
    refine g_get (pc := 49) C fg_X8_35 hP 0 rfl rfl dX8_read_49 ?_
    refine lv_aload_n (pc := 52) hx hb dX8_read_52 rfl (lv_at hl 1 rfl) ?_
    refine g_get (pc := 53) C fg_X8_146 hP 12 rfl rfl dX8_read_53 ?_
    refine lv_iconst (pc := 56) (v := 2) hx hb dX8_read_56 ic_2 ?_
    refine lv_iload (pc := 57) hx hb dX8_read_57 (lv_at hl 3 rfl) ?_
    refine lv_imul (pc := 59) hx hb dX8_read_59 ?_
    obtain ⟨hg, hf⟩ := gd_some hf
    refine g_iald (pc := 60) C hP 13 rfl hg dX8_read_60 ?_
    refine lv_aload_n (pc := 61) hx hb dX8_read_61 rfl (lv_at hl 1 rfl) ?_
    refine g_get (pc := 62) C fg_X8_146 hP 12 rfl rfl dX8_read_62 ?_
    refine lv_iconst (pc := 65) (v := 2) hx hb dX8_read_65 ic_2 ?_
    refine lv_iload (pc := 66) hx hb dX8_read_66 (lv_at hl 3 rfl) ?_
    refine lv_imul (pc := 68) hx hb dX8_read_68 ?_
    refine lv_iconst (pc := 69) (v := 1) hx hb dX8_read_69 ic_1 ?_
    refine lv_iadd (pc := 70) hx hb dX8_read_70 ?_
    obtain ⟨hg, hf⟩ := gd_some hf
    refine g_iald (pc := 71) C hP 13 rfl hg dX8_read_71 ?_
    obtain ⟨r48, c49, c50, c51, c52, c53, hq, hf⟩ := bind6_some hf
    refine fin2_i (wl_X8_read cA a c49 x_finding c50 c51 c52 c53 sheet0_lost sheet0_form sheet0_size sheet0_items sheet1_lost sheet1_form sheet1_size sheet1_items sheet2_lost sheet2_form sheet2_size sheet2_items sheet3_lost sheet3_form sheet3_size sheet3_items) (run_V (rest := []) (pc := 72) (As := [.ref (a 15), .int (sheet3_items ((2 : Int32) * x4).toNatClampNeg), .int (sheet3_items (((2 : Int32) * x4) + (1 : Int32)).toNatClampNeg)]) C mf_X8_129 (c_X8_putMark l D cA a (a 15) (a 16) (a 17) (a 18) x_stale x_finding bowls_number bowls_nights bowls_things bowls_realms (sheet3_items ((2 : Int32) * x4).toNatClampNeg) (sheet3_items (((2 : Int32) * x4) + (1 : Int32)).toNatClampNeg) (r48, c49, c50, c51, c52, c53) hq H.size) rfl rfl ⟨(Nat.le_of_ble_eq_true rfl), (Nat.le_of_ble_eq_true rfl)⟩ (preV_of C hP hD [0, 1, 2, 3, 4] rfl (pl_nd pv_30) 0 rfl rfl rfl) rfl hl.1 rfl (Nat.le_of_ble_eq_true rfl) dX8_read_72 ⟨Nat.zero_le _, Nat.zero_le _⟩) hP hD hS hA [0, 1, 2, 3, 4] [5, 6, 7, 8, 9, 10, 11, 12, 13] rfl rfl rfl rfl pv_30 (fun H locs hP hS => ?_)
    have hD : va_D A (wl_X8_read cA a c49 x_finding c50 c51 c52 c53 sheet0_lost sheet0_form sheet0_size sheet0_items sheet1_lost sheet1_form sheet1_size sheet1_items sheet2_lost sheet2_form sheet2_size sheet2_items sheet3_lost sheet3_form sheet3_size sheet3_items) := vd_a hD rfl
    refine lv_if_le (pc := 75) (tgt := 84) hx hb dX8_read_75 (by decide) (fun hc => ?_) (fun hc => ?_)
    · have hf := (if_pos hc).symm.trans hf
      have hf := Option.some.inj hf
      subst hf
      exact hK H locs ls hP hD hS (lv_sub hl [3] rfl)
    · have hf := (if_neg hc).symm.trans hf
      refine lv_iinc (pc := 78) (v := (x4 + 1)) (lv' := [(4, .int (x4 + 1)), (0, .ref (a 0)), (2, .ref (a 52)), (3, .int x3)]) hx hb dX8_read_78 hl (k := 3) rfl rfl (Nat.le_of_ble_eq_true rfl) rfl (fun ls hl => ?_)
      refine lv_goto (pc := 81) (tgt := 41) hx hb dX8_read_81 (by decide) ?_
      have hf := Option.some.inj hf
      subst hf
      exact hK H locs ls hP hD hS (lv_sub hl [1, 2, 3, 0] rfl)
theorem kl_X8_read_L41_v3 (C : Cx RX8 cX8_read 5 D cA p s m args c) (hA : ∀ q, s.heap.size ≤ q → A q) (a : Nat → Nat) (x_finding : Int32) (sheet0_lost : Int32) (sheet0_form : Int32) (sheet0_size : Int32) (sheet0_items : Nat → Int32) (sheet1_lost : Int32) (sheet1_form : Int32) (sheet1_size : Int32) (sheet1_items : Nat → Int32) (sheet2_lost : Int32) (sheet2_form : Int32) (sheet2_size : Int32) (sheet2_items : Nat → Int32) (sheet3_lost : Int32) (sheet3_form : Int32) (sheet3_size : Int32) (sheet3_items : Nat → Int32) (x3 : Int32) : ∀ (n : Nat) (q : Int32 × Int32 × Int32 × (Nat → Int32) × (Nat → Int32) × (Nat → Int32)) (z : (Int32 × Int32 × Int32 × (Nat → Int32) × (Nat → Int32) × (Nat → Int32))), loopF (fun q : Int32 × Int32 × Int32 × (Nat → Int32) × (Nat → Int32) × (Nat → Int32) => f_X8_read_L41_v3 sheet0_items sheet1_items sheet2_items sheet3_items x3 q.1 q.2.1 q.2.2.1 q.2.2.2.1 q.2.2.2.2.1 q.2.2.2.2.2) n q = some z → (fun q : Int32 × Int32 × Int32 × (Nat → Int32) × (Nat → Int32) × (Nat → Int32) => At p l e rm_X8_read s m args below meth c D A 0 0 Q 5 84 (wl_X8_read cA a (q.2.1) x_finding (q.2.2.1) (q.2.2.2.1) (q.2.2.2.2.1) (q.2.2.2.2.2) sheet0_lost sheet0_form sheet0_size sheet0_items sheet1_lost sheet1_form sheet1_size sheet1_items sheet2_lost sheet2_form sheet2_size sheet2_items sheet3_lost sheet3_form sheet3_size sheet3_items) [(4, .int (q.1))] []) z → At p l e rm_X8_read s m args below meth c D A 0 0 Q 5 41 (wl_X8_read cA a (q.2.1) x_finding (q.2.2.1) (q.2.2.2.1) (q.2.2.2.2.1) (q.2.2.2.2.2) sheet0_lost sheet0_form sheet0_size sheet0_items sheet1_lost sheet1_form sheet1_size sheet1_items sheet2_lost sheet2_form sheet2_size sheet2_items sheet3_lost sheet3_form sheet3_size sheet3_items) [(0, .ref (a 0)), (2, .ref (a 52)), (3, .int x3), (4, .int (q.1))] [] :=
  loop_lem (WP := fun q : Int32 × Int32 × Int32 × (Nat → Int32) × (Nat → Int32) × (Nat → Int32) => At p l e rm_X8_read s m args below meth c D A 0 0 Q 5 41 (wl_X8_read cA a (q.2.1) x_finding (q.2.2.1) (q.2.2.2.1) (q.2.2.2.2.1) (q.2.2.2.2.2) sheet0_lost sheet0_form sheet0_size sheet0_items sheet1_lost sheet1_form sheet1_size sheet1_items sheet2_lost sheet2_form sheet2_size sheet2_items sheet3_lost sheet3_form sheet3_size sheet3_items) [(0, .ref (a 0)), (2, .ref (a 52)), (3, .int x3), (4, .int (q.1))] []) (WE := (fun q : Int32 × Int32 × Int32 × (Nat → Int32) × (Nat → Int32) × (Nat → Int32) => At p l e rm_X8_read s m args below meth c D A 0 0 Q 5 84 (wl_X8_read cA a (q.2.1) x_finding (q.2.2.1) (q.2.2.2.1) (q.2.2.2.2.1) (q.2.2.2.2.2) sheet0_lost sheet0_form sheet0_size sheet0_items sheet1_lost sheet1_form sheet1_size sheet1_items sheet2_lost sheet2_form sheet2_size sheet2_items sheet3_lost sheet3_form sheet3_size sheet3_items) [(4, .int (q.1))] [])) (fun q r hf hK => k_X8_read_L41_v3 C hA a x_finding sheet0_lost sheet0_form sheet0_size sheet0_items sheet1_lost sheet1_form sheet1_size sheet1_items sheet2_lost sheet2_form sheet2_size sheet2_items sheet3_lost sheet3_form sheet3_size sheet3_items x3 q.1 q.2.1 q.2.2.1 q.2.2.2.1 q.2.2.2.2.1 q.2.2.2.2.2 r hf hK)
def f_X8_read (x_stale : Int32) (x_finding : Int32) (bowls_number : Int32) (bowls_nights : Nat → Int32) (bowls_things : Nat → Int32) (bowls_realms : Nat → Int32) (sheet0_lost : Int32) (sheet0_size : Int32) (sheet0_items : Nat → Int32) (sheet1_lost : Int32) (sheet1_size : Int32) (sheet1_items : Nat → Int32) (sheet2_lost : Int32) (sheet2_size : Int32) (sheet2_items : Nat → Int32) (sheet3_lost : Int32) (sheet3_size : Int32) (sheet3_items : Nat → Int32) (x1 : Int32) : Option (Int32 × Int32 × Int32 × Int32 × (Nat → Int32) × (Nat → Int32) × (Nat → Int32)) :=
  bind1 (f_X8_isUpTo x1 (3 : Int32)) (fun r1 => if r1 = 0 then (some ((-2 : Int32), x_stale, x_finding, bowls_number, bowls_nights, bowls_things, bowls_realms)) else (if x1 = (0 : Int32) then (if sheet0_lost = 0 then (letv ((sheet0_size / (2 : Int32))) (fun v2 => bind6 (loopF (fun q : Int32 × Int32 × Int32 × (Nat → Int32) × (Nat → Int32) × (Nat → Int32) => f_X8_read_L41 sheet0_items sheet1_items sheet2_items sheet3_items v2 q.1 q.2.1 q.2.2.1 q.2.2.2.1 q.2.2.2.2.1 q.2.2.2.2.2) FU ((0 : Int32), x_stale, bowls_number, bowls_nights, bowls_things, bowls_realms)) (fun u9 u10 u11 u12 u13 u14 => some (u9, u10, x_finding, u11, u12, u13, u14)))) else (bind2 (f_X8_found x_finding (1 : Int32)) (fun r15 c16 => some (r15, x_stale, c16, bowls_number, bowls_nights, bowls_things, bowls_realms)))) else (if x1 = (1 : Int32) then (if sheet1_lost = 0 then (letv ((sheet1_size / (2 : Int32))) (fun v17 => bind6 (loopF (fun q : Int32 × Int32 × Int32 × (Nat → Int32) × (Nat → Int32) × (Nat → Int32) => f_X8_read_L41_v1 sheet0_items sheet1_items sheet2_items sheet3_items v17 q.1 q.2.1 q.2.2.1 q.2.2.2.1 q.2.2.2.2.1 q.2.2.2.2.2) FU ((0 : Int32), x_stale, bowls_number, bowls_nights, bowls_things, bowls_realms)) (fun u24 u25 u26 u27 u28 u29 => some (u24, u25, x_finding, u26, u27, u28, u29)))) else (bind2 (f_X8_found x_finding (1 : Int32)) (fun r30 c31 => some (r30, x_stale, c31, bowls_number, bowls_nights, bowls_things, bowls_realms)))) else (if x1 = (2 : Int32) then (if sheet2_lost = 0 then (letv ((sheet2_size / (2 : Int32))) (fun v32 => bind6 (loopF (fun q : Int32 × Int32 × Int32 × (Nat → Int32) × (Nat → Int32) × (Nat → Int32) => f_X8_read_L41_v2 sheet0_items sheet1_items sheet2_items sheet3_items v32 q.1 q.2.1 q.2.2.1 q.2.2.2.1 q.2.2.2.2.1 q.2.2.2.2.2) FU ((0 : Int32), x_stale, bowls_number, bowls_nights, bowls_things, bowls_realms)) (fun u39 u40 u41 u42 u43 u44 => some (u39, u40, x_finding, u41, u42, u43, u44)))) else (bind2 (f_X8_found x_finding (1 : Int32)) (fun r45 c46 => some (r45, x_stale, c46, bowls_number, bowls_nights, bowls_things, bowls_realms)))) else (if x1 = (3 : Int32) then (if sheet3_lost = 0 then (letv ((sheet3_size / (2 : Int32))) (fun v47 => bind6 (loopF (fun q : Int32 × Int32 × Int32 × (Nat → Int32) × (Nat → Int32) × (Nat → Int32) => f_X8_read_L41_v3 sheet0_items sheet1_items sheet2_items sheet3_items v47 q.1 q.2.1 q.2.2.1 q.2.2.2.1 q.2.2.2.2.1 q.2.2.2.2.2) FU ((0 : Int32), x_stale, bowls_number, bowls_nights, bowls_things, bowls_realms)) (fun u54 u55 u56 u57 u58 u59 => some (u54, u55, x_finding, u56, u57, u58, u59)))) else (bind2 (f_X8_found x_finding (1 : Int32)) (fun r60 c61 => some (r60, x_stale, c61, bowls_number, bowls_nights, bowls_things, bowls_realms)))) else (none))))))
set_option maxHeartbeats 4000000 in
set_option maxRecDepth 100000 in
theorem k_X8_read (C : Cx RX8 cX8_read 5 D cA p s m args c) (hr : meth.sig.returnType = (some .int)) (hlk : meth.locks = false) (hA : ∀ q, s.heap.size ≤ q → va_A ws0 sz q) (a : Nat → Nat) (x_stale : Int32) (x_finding : Int32) (bowls_number : Int32) (bowls_nights : Nat → Int32) (bowls_things : Nat → Int32) (bowls_realms : Nat → Int32) (sheet0_lost : Int32) (sheet0_form : Int32) (sheet0_size : Int32) (sheet0_items : Nat → Int32) (sheet1_lost : Int32) (sheet1_form : Int32) (sheet1_size : Int32) (sheet1_items : Nat → Int32) (sheet2_lost : Int32) (sheet2_form : Int32) (sheet2_size : Int32) (sheet2_items : Nat → Int32) (sheet3_lost : Int32) (sheet3_form : Int32) (sheet3_size : Int32) (sheet3_items : Nat → Int32) (x1 : Int32) (r : Int32 × Int32 × Int32 × Int32 × (Nat → Int32) × (Nat → Int32) × (Nat → Int32)) (hf : f_X8_read x_stale x_finding bowls_number bowls_nights bowls_things bowls_realms sheet0_lost sheet0_size sheet0_items sheet1_lost sheet1_size sheet1_items sheet2_lost sheet2_size sheet2_items sheet3_lost sheet3_size sheet3_items x1 = some r) : At p l e rm_X8_read s m args below meth c D (va_A ws0 sz) 0 0 (MQ below (PostI D r.1 ws0 (wl_X8_read cA a (r.2.1) (r.2.2.1) (r.2.2.2.1) (r.2.2.2.2.1) (r.2.2.2.2.2.1) (r.2.2.2.2.2.2) sheet0_lost sheet0_form sheet0_size sheet0_items sheet1_lost sheet1_form sheet1_size sheet1_items sheet2_lost sheet2_form sheet2_size sheet2_items sheet3_lost sheet3_form sheet3_size sheet3_items) sz) args s 0 0 (va_A ws0 sz)) 5 0 (wl_X8_read cA a x_stale x_finding bowls_number bowls_nights bowls_things bowls_realms sheet0_lost sheet0_form sheet0_size sheet0_items sheet1_lost sheet1_form sheet1_size sheet1_items sheet2_lost sheet2_form sheet2_size sheet2_items sheet3_lost sheet3_form sheet3_size sheet3_items) [(0, .ref (a 0)), (1, .int x1)] [] := by
  intro H locs ls hP hD hS hl
  have hx := C.1
  have hb := C.2.1
  have hown := C.2.2.2.1
  have hts := C.2.2.2.2.1
  unfold f_X8_read at hf
  refine lv_iload_n (pc := 0) hx hb dX8_read_0 rfl (lv_at hl 1 rfl) ?_
  refine lv_iconst (pc := 1) (v := 3) hx hb dX8_read_1 ic_3 ?_
  obtain ⟨r1, hq, hf⟩ := bind1_some hf
  refine fin2_i (wl_X8_read cA a x_stale x_finding bowls_number bowls_nights bowls_things bowls_realms sheet0_lost sheet0_form sheet0_size sheet0_items sheet1_lost sheet1_form sheet1_size sheet1_items sheet2_lost sheet2_form sheet2_size sheet2_items sheet3_lost sheet3_form sheet3_size sheet3_items) (run_S (rest := []) (pc := 2) (As := [.int x1, .int (3 : Int32)]) C mf_X8_90 (c_X8_isUpTo l D cA  x1 (3 : Int32) r1 hq H.size) rfl rfl ⟨(Nat.le_of_ble_eq_true rfl), (Nat.le_of_ble_eq_true rfl)⟩ (preS_of C hP hD [] rfl (pl_nd pv_29)) rfl hl.1 rfl (Nat.le_of_ble_eq_true rfl) dX8_read_2 ⟨Nat.zero_le _, Nat.zero_le _⟩) hP hD hS hA [] [0, 1, 2, 3, 4, 5, 6, 7, 8, 9, 10, 11, 12, 13] rfl rfl rfl rfl pv_29 (fun H locs hP hS => ?_)
  refine lv_if_ne (pc := 5) (tgt := 11) hx hb dX8_read_5 (by decide) (fun hc => ?_) (fun hc => ?_)
  · have hf := (if_neg hc).symm.trans hf
    refine lv_aload_n (pc := 11) hx hb dX8_read_11 rfl (lv_at hl 0 rfl) ?_
    refine g_get (pc := 12) C fg_X8_77 hP 0 rfl rfl dX8_read_12 ?_
    refine lv_iload_n (pc := 15) hx hb dX8_read_15 rfl (lv_at hl 1 rfl) ?_
    by_cases h_0 : x1 = (0 : Int32)
    · have hf := (if_pos h_0).symm.trans hf
      refine g_aald (pc := 16) (b := (a 46)) C hP 5 rfl (t0 := 3) rfl (by rw [h_0]; decide) (by rw [h_0, tn_0]; rfl) dX8_read_16 ?_
      refine lv_astore_n (pc := 17) (lv' := [(2, .ref (a 46)), (0, .ref (a 0)), (1, .int x1)]) hx hb dX8_read_17 rfl hl (Nat.le_of_ble_eq_true rfl) rfl (fun ls hl => ?_)
      refine lv_aload_n (pc := 18) hx hb dX8_read_18 rfl (lv_at hl 0 rfl) ?_
      refine g_get (pc := 19) C fg_X8_136 hP 6 rfl rfl dX8_read_19 ?_
      refine lv_if_eq (pc := 22) (tgt := 31) hx hb dX8_read_22 (by decide) (fun hc => ?_) (fun hc => ?_)
      · have hf := (if_pos hc).symm.trans hf
        refine lv_aload_n (pc := 31) hx hb dX8_read_31 rfl (lv_at hl 0 rfl) ?_
        refine g_get (pc := 32) C fg_X8_143 hP 6 rfl rfl dX8_read_32 ?_
        refine lv_iconst (pc := 35) (v := 2) hx hb dX8_read_35 ic_2 ?_
        refine lv_idiv (pc := 36) hx hb dX8_read_36 (by decide) ?_
        obtain ⟨v2, e_v2, hf⟩ := letv_some hf
        refine tp_i e_v2 ?_
        refine lv_istore_n (pc := 37) (lv' := [(3, .int v2), (2, .ref (a 46)), (0, .ref (a 0)), (1, .int x1)]) hx hb dX8_read_37 rfl hl (Nat.le_of_ble_eq_true rfl) rfl (fun ls hl => ?_)
        refine lv_iconst (pc := 38) (v := 0) hx hb dX8_read_38 ic_0 ?_
        refine lv_istore (pc := 39) (lv' := [(4, .int (0 : Int32)), (3, .int v2), (2, .ref (a 46)), (0, .ref (a 0)), (1, .int x1)]) hx hb dX8_read_39 hl (Nat.le_of_ble_eq_true rfl) rfl (fun ls hl => ?_)
        obtain ⟨u9, u10, u11, u12, u13, u14, hq, hf⟩ := bind6_some hf
        refine kl_X8_read_L41 C hA a x_finding sheet0_lost sheet0_form sheet0_size sheet0_items sheet1_lost sheet1_form sheet1_size sheet1_items sheet2_lost sheet2_form sheet2_size sheet2_items sheet3_lost sheet3_form sheet3_size sheet3_items v2 FU ((0 : Int32), x_stale, bowls_number, bowls_nights, bowls_things, bowls_realms) _ hq ?_ H locs ls hP hD hS (lv_sub hl [3, 2, 1, 0] rfl)
        intro H locs ls hP hD hS hl
        have hP : va_P D classes (wl_X8_read cA a u10 x_finding u11 u12 u13 u14 sheet0_lost sheet0_form sheet0_size sheet0_items sheet1_lost sheet1_form sheet1_size sheet1_items sheet2_lost sheet2_form sheet2_size sheet2_items sheet3_lost sheet3_form sheet3_size sheet3_items) H := hP
        have hD : va_D (va_A ws0 sz) (wl_X8_read cA a u10 x_finding u11 u12 u13 u14 sheet0_lost sheet0_form sheet0_size sheet0_items sheet1_lost sheet1_form sheet1_size sheet1_items sheet2_lost sheet2_form sheet2_size sheet2_items sheet3_lost sheet3_form sheet3_size sheet3_items) := hD
        have hl : lv_has ls 5 [(4, .int u9)] := hl
        refine lv_iload (pc := 84) hx hb dX8_read_84 (lv_at hl 0 rfl) ?_
        have hf := Option.some.inj hf
        subst hf
        exact ret_i C hr hlk hP hS dX8_read_86
      · have hf := (if_neg hc).symm.trans hf
        refine lv_aload_n (pc := 25) hx hb dX8_read_25 rfl (lv_at hl 1 rfl) ?_
        refine lv_iconst (pc := 26) (v := 1) hx hb dX8_read_26 ic_1 ?_
        obtain ⟨r15, c16, hq, hf⟩ := bind2_some hf
        refine fin2_i (wl_X8_read cA a x_stale c16 bowls_number bowls_nights bowls_things bowls_realms sheet0_lost sheet0_form sheet0_size sheet0_items sheet1_lost sheet1_form sheet1_size sheet1_items sheet2_lost sheet2_form sheet2_size sheet2_items sheet3_lost sheet3_form sheet3_size sheet3_items) (run_V (rest := []) (pc := 27) (As := [.int (1 : Int32)]) C mf_X8_139 (c_X8_found l D cA a x_stale x_finding (1 : Int32) (r15, c16) hq H.size) rfl rfl ⟨(Nat.le_of_ble_eq_true rfl), (Nat.le_of_ble_eq_true rfl)⟩ (preV_of C hP hD [0] rfl (pl_nd pv_31) 0 rfl rfl rfl) rfl hl.1 rfl (Nat.le_of_ble_eq_true rfl) dX8_read_27 ⟨Nat.zero_le _, Nat.zero_le _⟩) hP hD hS hA [0] [1, 2, 3, 4, 5, 6, 7, 8, 9, 10, 11, 12, 13] rfl rfl rfl rfl pv_31 (fun H locs hP hS => ?_)
        have hD : va_D (va_A ws0 sz) (wl_X8_read cA a x_stale c16 bowls_number bowls_nights bowls_things bowls_realms sheet0_lost sheet0_form sheet0_size sheet0_items sheet1_lost sheet1_form sheet1_size sheet1_items sheet2_lost sheet2_form sheet2_size sheet2_items sheet3_lost sheet3_form sheet3_size sheet3_items) := vd_a hD rfl
        have hf := Option.some.inj hf
        subst hf
        exact ret_i C hr hlk hP hS dX8_read_30
    have hf := (if_neg h_0).symm.trans hf
    by_cases h_1 : x1 = (1 : Int32)
    · have hf := (if_pos h_1).symm.trans hf
      refine g_aald (pc := 16) (b := (a 48)) C hP 5 rfl (t0 := 3) rfl (by rw [h_1]; decide) (by rw [h_1, tn_1]; rfl) dX8_read_16 ?_
      refine lv_astore_n (pc := 17) (lv' := [(2, .ref (a 48)), (0, .ref (a 0)), (1, .int x1)]) hx hb dX8_read_17 rfl hl (Nat.le_of_ble_eq_true rfl) rfl (fun ls hl => ?_)
      refine lv_aload_n (pc := 18) hx hb dX8_read_18 rfl (lv_at hl 0 rfl) ?_
      refine g_get (pc := 19) C fg_X8_136 hP 8 rfl rfl dX8_read_19 ?_
      refine lv_if_eq (pc := 22) (tgt := 31) hx hb dX8_read_22 (by decide) (fun hc => ?_) (fun hc => ?_)
      · have hf := (if_pos hc).symm.trans hf
        refine lv_aload_n (pc := 31) hx hb dX8_read_31 rfl (lv_at hl 0 rfl) ?_
        refine g_get (pc := 32) C fg_X8_143 hP 8 rfl rfl dX8_read_32 ?_
        refine lv_iconst (pc := 35) (v := 2) hx hb dX8_read_35 ic_2 ?_
        refine lv_idiv (pc := 36) hx hb dX8_read_36 (by decide) ?_
        obtain ⟨v17, e_v17, hf⟩ := letv_some hf
        refine tp_i e_v17 ?_
        refine lv_istore_n (pc := 37) (lv' := [(3, .int v17), (2, .ref (a 48)), (0, .ref (a 0)), (1, .int x1)]) hx hb dX8_read_37 rfl hl (Nat.le_of_ble_eq_true rfl) rfl (fun ls hl => ?_)
        refine lv_iconst (pc := 38) (v := 0) hx hb dX8_read_38 ic_0 ?_
        refine lv_istore (pc := 39) (lv' := [(4, .int (0 : Int32)), (3, .int v17), (2, .ref (a 48)), (0, .ref (a 0)), (1, .int x1)]) hx hb dX8_read_39 hl (Nat.le_of_ble_eq_true rfl) rfl (fun ls hl => ?_)
        obtain ⟨u24, u25, u26, u27, u28, u29, hq, hf⟩ := bind6_some hf
        refine kl_X8_read_L41_v1 C hA a x_finding sheet0_lost sheet0_form sheet0_size sheet0_items sheet1_lost sheet1_form sheet1_size sheet1_items sheet2_lost sheet2_form sheet2_size sheet2_items sheet3_lost sheet3_form sheet3_size sheet3_items v17 FU ((0 : Int32), x_stale, bowls_number, bowls_nights, bowls_things, bowls_realms) _ hq ?_ H locs ls hP hD hS (lv_sub hl [3, 2, 1, 0] rfl)
        intro H locs ls hP hD hS hl
        have hP : va_P D classes (wl_X8_read cA a u25 x_finding u26 u27 u28 u29 sheet0_lost sheet0_form sheet0_size sheet0_items sheet1_lost sheet1_form sheet1_size sheet1_items sheet2_lost sheet2_form sheet2_size sheet2_items sheet3_lost sheet3_form sheet3_size sheet3_items) H := hP
        have hD : va_D (va_A ws0 sz) (wl_X8_read cA a u25 x_finding u26 u27 u28 u29 sheet0_lost sheet0_form sheet0_size sheet0_items sheet1_lost sheet1_form sheet1_size sheet1_items sheet2_lost sheet2_form sheet2_size sheet2_items sheet3_lost sheet3_form sheet3_size sheet3_items) := hD
        have hl : lv_has ls 5 [(4, .int u24)] := hl
        refine lv_iload (pc := 84) hx hb dX8_read_84 (lv_at hl 0 rfl) ?_
        have hf := Option.some.inj hf
        subst hf
        exact ret_i C hr hlk hP hS dX8_read_86
      · have hf := (if_neg hc).symm.trans hf
        refine lv_aload_n (pc := 25) hx hb dX8_read_25 rfl (lv_at hl 1 rfl) ?_
        refine lv_iconst (pc := 26) (v := 1) hx hb dX8_read_26 ic_1 ?_
        obtain ⟨r30, c31, hq, hf⟩ := bind2_some hf
        refine fin2_i (wl_X8_read cA a x_stale c31 bowls_number bowls_nights bowls_things bowls_realms sheet0_lost sheet0_form sheet0_size sheet0_items sheet1_lost sheet1_form sheet1_size sheet1_items sheet2_lost sheet2_form sheet2_size sheet2_items sheet3_lost sheet3_form sheet3_size sheet3_items) (run_V (rest := []) (pc := 27) (As := [.int (1 : Int32)]) C mf_X8_139 (c_X8_found l D cA a x_stale x_finding (1 : Int32) (r30, c31) hq H.size) rfl rfl ⟨(Nat.le_of_ble_eq_true rfl), (Nat.le_of_ble_eq_true rfl)⟩ (preV_of C hP hD [0] rfl (pl_nd pv_31) 0 rfl rfl rfl) rfl hl.1 rfl (Nat.le_of_ble_eq_true rfl) dX8_read_27 ⟨Nat.zero_le _, Nat.zero_le _⟩) hP hD hS hA [0] [1, 2, 3, 4, 5, 6, 7, 8, 9, 10, 11, 12, 13] rfl rfl rfl rfl pv_31 (fun H locs hP hS => ?_)
        have hD : va_D (va_A ws0 sz) (wl_X8_read cA a x_stale c31 bowls_number bowls_nights bowls_things bowls_realms sheet0_lost sheet0_form sheet0_size sheet0_items sheet1_lost sheet1_form sheet1_size sheet1_items sheet2_lost sheet2_form sheet2_size sheet2_items sheet3_lost sheet3_form sheet3_size sheet3_items) := vd_a hD rfl
        have hf := Option.some.inj hf
        subst hf
        exact ret_i C hr hlk hP hS dX8_read_30
    have hf := (if_neg h_1).symm.trans hf
    by_cases h_2 : x1 = (2 : Int32)
    · have hf := (if_pos h_2).symm.trans hf
      refine g_aald (pc := 16) (b := (a 50)) C hP 5 rfl (t0 := 3) rfl (by rw [h_2]; decide) (by rw [h_2, tn_2]; rfl) dX8_read_16 ?_
      refine lv_astore_n (pc := 17) (lv' := [(2, .ref (a 50)), (0, .ref (a 0)), (1, .int x1)]) hx hb dX8_read_17 rfl hl (Nat.le_of_ble_eq_true rfl) rfl (fun ls hl => ?_)
      refine lv_aload_n (pc := 18) hx hb dX8_read_18 rfl (lv_at hl 0 rfl) ?_
      refine g_get (pc := 19) C fg_X8_136 hP 10 rfl rfl dX8_read_19 ?_
      refine lv_if_eq (pc := 22) (tgt := 31) hx hb dX8_read_22 (by decide) (fun hc => ?_) (fun hc => ?_)
      · have hf := (if_pos hc).symm.trans hf
        refine lv_aload_n (pc := 31) hx hb dX8_read_31 rfl (lv_at hl 0 rfl) ?_
        refine g_get (pc := 32) C fg_X8_143 hP 10 rfl rfl dX8_read_32 ?_
        refine lv_iconst (pc := 35) (v := 2) hx hb dX8_read_35 ic_2 ?_
        refine lv_idiv (pc := 36) hx hb dX8_read_36 (by decide) ?_
        obtain ⟨v32, e_v32, hf⟩ := letv_some hf
        refine tp_i e_v32 ?_
        refine lv_istore_n (pc := 37) (lv' := [(3, .int v32), (2, .ref (a 50)), (0, .ref (a 0)), (1, .int x1)]) hx hb dX8_read_37 rfl hl (Nat.le_of_ble_eq_true rfl) rfl (fun ls hl => ?_)
        refine lv_iconst (pc := 38) (v := 0) hx hb dX8_read_38 ic_0 ?_
        refine lv_istore (pc := 39) (lv' := [(4, .int (0 : Int32)), (3, .int v32), (2, .ref (a 50)), (0, .ref (a 0)), (1, .int x1)]) hx hb dX8_read_39 hl (Nat.le_of_ble_eq_true rfl) rfl (fun ls hl => ?_)
        obtain ⟨u39, u40, u41, u42, u43, u44, hq, hf⟩ := bind6_some hf
        refine kl_X8_read_L41_v2 C hA a x_finding sheet0_lost sheet0_form sheet0_size sheet0_items sheet1_lost sheet1_form sheet1_size sheet1_items sheet2_lost sheet2_form sheet2_size sheet2_items sheet3_lost sheet3_form sheet3_size sheet3_items v32 FU ((0 : Int32), x_stale, bowls_number, bowls_nights, bowls_things, bowls_realms) _ hq ?_ H locs ls hP hD hS (lv_sub hl [3, 2, 1, 0] rfl)
        intro H locs ls hP hD hS hl
        have hP : va_P D classes (wl_X8_read cA a u40 x_finding u41 u42 u43 u44 sheet0_lost sheet0_form sheet0_size sheet0_items sheet1_lost sheet1_form sheet1_size sheet1_items sheet2_lost sheet2_form sheet2_size sheet2_items sheet3_lost sheet3_form sheet3_size sheet3_items) H := hP
        have hD : va_D (va_A ws0 sz) (wl_X8_read cA a u40 x_finding u41 u42 u43 u44 sheet0_lost sheet0_form sheet0_size sheet0_items sheet1_lost sheet1_form sheet1_size sheet1_items sheet2_lost sheet2_form sheet2_size sheet2_items sheet3_lost sheet3_form sheet3_size sheet3_items) := hD
        have hl : lv_has ls 5 [(4, .int u39)] := hl
        refine lv_iload (pc := 84) hx hb dX8_read_84 (lv_at hl 0 rfl) ?_
        have hf := Option.some.inj hf
        subst hf
        exact ret_i C hr hlk hP hS dX8_read_86
      · have hf := (if_neg hc).symm.trans hf
        refine lv_aload_n (pc := 25) hx hb dX8_read_25 rfl (lv_at hl 1 rfl) ?_
        refine lv_iconst (pc := 26) (v := 1) hx hb dX8_read_26 ic_1 ?_
        obtain ⟨r45, c46, hq, hf⟩ := bind2_some hf
        refine fin2_i (wl_X8_read cA a x_stale c46 bowls_number bowls_nights bowls_things bowls_realms sheet0_lost sheet0_form sheet0_size sheet0_items sheet1_lost sheet1_form sheet1_size sheet1_items sheet2_lost sheet2_form sheet2_size sheet2_items sheet3_lost sheet3_form sheet3_size sheet3_items) (run_V (rest := []) (pc := 27) (As := [.int (1 : Int32)]) C mf_X8_139 (c_X8_found l D cA a x_stale x_finding (1 : Int32) (r45, c46) hq H.size) rfl rfl ⟨(Nat.le_of_ble_eq_true rfl), (Nat.le_of_ble_eq_true rfl)⟩ (preV_of C hP hD [0] rfl (pl_nd pv_31) 0 rfl rfl rfl) rfl hl.1 rfl (Nat.le_of_ble_eq_true rfl) dX8_read_27 ⟨Nat.zero_le _, Nat.zero_le _⟩) hP hD hS hA [0] [1, 2, 3, 4, 5, 6, 7, 8, 9, 10, 11, 12, 13] rfl rfl rfl rfl pv_31 (fun H locs hP hS => ?_)
        have hD : va_D (va_A ws0 sz) (wl_X8_read cA a x_stale c46 bowls_number bowls_nights bowls_things bowls_realms sheet0_lost sheet0_form sheet0_size sheet0_items sheet1_lost sheet1_form sheet1_size sheet1_items sheet2_lost sheet2_form sheet2_size sheet2_items sheet3_lost sheet3_form sheet3_size sheet3_items) := vd_a hD rfl
        have hf := Option.some.inj hf
        subst hf
        exact ret_i C hr hlk hP hS dX8_read_30
    have hf := (if_neg h_2).symm.trans hf
    by_cases h_3 : x1 = (3 : Int32)
    · have hf := (if_pos h_3).symm.trans hf
      refine g_aald (pc := 16) (b := (a 52)) C hP 5 rfl (t0 := 3) rfl (by rw [h_3]; decide) (by rw [h_3, tn_3]; rfl) dX8_read_16 ?_
      refine lv_astore_n (pc := 17) (lv' := [(2, .ref (a 52)), (0, .ref (a 0)), (1, .int x1)]) hx hb dX8_read_17 rfl hl (Nat.le_of_ble_eq_true rfl) rfl (fun ls hl => ?_)
      refine lv_aload_n (pc := 18) hx hb dX8_read_18 rfl (lv_at hl 0 rfl) ?_
      refine g_get (pc := 19) C fg_X8_136 hP 12 rfl rfl dX8_read_19 ?_
      refine lv_if_eq (pc := 22) (tgt := 31) hx hb dX8_read_22 (by decide) (fun hc => ?_) (fun hc => ?_)
      · have hf := (if_pos hc).symm.trans hf
        refine lv_aload_n (pc := 31) hx hb dX8_read_31 rfl (lv_at hl 0 rfl) ?_
        refine g_get (pc := 32) C fg_X8_143 hP 12 rfl rfl dX8_read_32 ?_
        refine lv_iconst (pc := 35) (v := 2) hx hb dX8_read_35 ic_2 ?_
        refine lv_idiv (pc := 36) hx hb dX8_read_36 (by decide) ?_
        obtain ⟨v47, e_v47, hf⟩ := letv_some hf
        refine tp_i e_v47 ?_
        refine lv_istore_n (pc := 37) (lv' := [(3, .int v47), (2, .ref (a 52)), (0, .ref (a 0)), (1, .int x1)]) hx hb dX8_read_37 rfl hl (Nat.le_of_ble_eq_true rfl) rfl (fun ls hl => ?_)
        refine lv_iconst (pc := 38) (v := 0) hx hb dX8_read_38 ic_0 ?_
        refine lv_istore (pc := 39) (lv' := [(4, .int (0 : Int32)), (3, .int v47), (2, .ref (a 52)), (0, .ref (a 0)), (1, .int x1)]) hx hb dX8_read_39 hl (Nat.le_of_ble_eq_true rfl) rfl (fun ls hl => ?_)
        obtain ⟨u54, u55, u56, u57, u58, u59, hq, hf⟩ := bind6_some hf
        refine kl_X8_read_L41_v3 C hA a x_finding sheet0_lost sheet0_form sheet0_size sheet0_items sheet1_lost sheet1_form sheet1_size sheet1_items sheet2_lost sheet2_form sheet2_size sheet2_items sheet3_lost sheet3_form sheet3_size sheet3_items v47 FU ((0 : Int32), x_stale, bowls_number, bowls_nights, bowls_things, bowls_realms) _ hq ?_ H locs ls hP hD hS (lv_sub hl [3, 2, 1, 0] rfl)
        intro H locs ls hP hD hS hl
        have hP : va_P D classes (wl_X8_read cA a u55 x_finding u56 u57 u58 u59 sheet0_lost sheet0_form sheet0_size sheet0_items sheet1_lost sheet1_form sheet1_size sheet1_items sheet2_lost sheet2_form sheet2_size sheet2_items sheet3_lost sheet3_form sheet3_size sheet3_items) H := hP
        have hD : va_D (va_A ws0 sz) (wl_X8_read cA a u55 x_finding u56 u57 u58 u59 sheet0_lost sheet0_form sheet0_size sheet0_items sheet1_lost sheet1_form sheet1_size sheet1_items sheet2_lost sheet2_form sheet2_size sheet2_items sheet3_lost sheet3_form sheet3_size sheet3_items) := hD
        have hl : lv_has ls 5 [(4, .int u54)] := hl
        refine lv_iload (pc := 84) hx hb dX8_read_84 (lv_at hl 0 rfl) ?_
        have hf := Option.some.inj hf
        subst hf
        exact ret_i C hr hlk hP hS dX8_read_86
      · have hf := (if_neg hc).symm.trans hf
        refine lv_aload_n (pc := 25) hx hb dX8_read_25 rfl (lv_at hl 1 rfl) ?_
        refine lv_iconst (pc := 26) (v := 1) hx hb dX8_read_26 ic_1 ?_
        obtain ⟨r60, c61, hq, hf⟩ := bind2_some hf
        refine fin2_i (wl_X8_read cA a x_stale c61 bowls_number bowls_nights bowls_things bowls_realms sheet0_lost sheet0_form sheet0_size sheet0_items sheet1_lost sheet1_form sheet1_size sheet1_items sheet2_lost sheet2_form sheet2_size sheet2_items sheet3_lost sheet3_form sheet3_size sheet3_items) (run_V (rest := []) (pc := 27) (As := [.int (1 : Int32)]) C mf_X8_139 (c_X8_found l D cA a x_stale x_finding (1 : Int32) (r60, c61) hq H.size) rfl rfl ⟨(Nat.le_of_ble_eq_true rfl), (Nat.le_of_ble_eq_true rfl)⟩ (preV_of C hP hD [0] rfl (pl_nd pv_31) 0 rfl rfl rfl) rfl hl.1 rfl (Nat.le_of_ble_eq_true rfl) dX8_read_27 ⟨Nat.zero_le _, Nat.zero_le _⟩) hP hD hS hA [0] [1, 2, 3, 4, 5, 6, 7, 8, 9, 10, 11, 12, 13] rfl rfl rfl rfl pv_31 (fun H locs hP hS => ?_)
        have hD : va_D (va_A ws0 sz) (wl_X8_read cA a x_stale c61 bowls_number bowls_nights bowls_things bowls_realms sheet0_lost sheet0_form sheet0_size sheet0_items sheet1_lost sheet1_form sheet1_size sheet1_items sheet2_lost sheet2_form sheet2_size sheet2_items sheet3_lost sheet3_form sheet3_size sheet3_items) := vd_a hD rfl
        have hf := Option.some.inj hf
        subst hf
        exact ret_i C hr hlk hP hS dX8_read_30
    have hf := (if_neg h_3).symm.trans hf
    cases hf
  · have hf := (if_pos hc).symm.trans hf
    refine lv_bipush (pc := 8) (v := (-2)) hx hb dX8_read_8 bp_m2 ?_
    have hf := Option.some.inj hf
    subst hf
    exact ret_i C hr hlk hP hS dX8_read_10
set_option maxRecDepth 100000 in
theorem c_X8_read (l : Launch) (D : va_G) (cA : Nat → ClassId) (a : Nat → Nat) (x_stale : Int32) (x_finding : Int32) (bowls_number : Int32) (bowls_nights : Nat → Int32) (bowls_things : Nat → Int32) (bowls_realms : Nat → Int32) (sheet0_lost : Int32) (sheet0_form : Int32) (sheet0_size : Int32) (sheet0_items : Nat → Int32) (sheet1_lost : Int32) (sheet1_form : Int32) (sheet1_size : Int32) (sheet1_items : Nat → Int32) (sheet2_lost : Int32) (sheet2_form : Int32) (sheet2_size : Int32) (sheet2_items : Nat → Int32) (sheet3_lost : Int32) (sheet3_form : Int32) (sheet3_size : Int32) (sheet3_items : Nat → Int32) (x1 : Int32) (r : Int32 × Int32 × Int32 × Int32 × (Nat → Int32) × (Nat → Int32) × (Nat → Int32)) (hf : f_X8_read x_stale x_finding bowls_number bowls_nights bowls_things bowls_realms sheet0_lost sheet0_size sheet0_items sheet1_lost sheet1_size sheet1_items sheet2_lost sheet2_size sheet2_items sheet3_lost sheet3_size sheet3_items x1 = some r) (sz : Nat) : Met l yX8_read (Cond.code yX8_read cX8_read 5 (some .int) :: lw_good) rm_X8_read (PreX D cA [.ref (a 0), .int x1] sz (wl_X8_read cA a x_stale x_finding bowls_number bowls_nights bowls_things bowls_realms sheet0_lost sheet0_form sheet0_size sheet0_items sheet1_lost sheet1_form sheet1_size sheet1_items sheet2_lost sheet2_form sheet2_size sheet2_items sheet3_lost sheet3_form sheet3_size sheet3_items)) (PostI D r.1 (wl_X8_read cA a x_stale x_finding bowls_number bowls_nights bowls_things bowls_realms sheet0_lost sheet0_form sheet0_size sheet0_items sheet1_lost sheet1_form sheet1_size sheet1_items sheet2_lost sheet2_form sheet2_size sheet2_items sheet3_lost sheet3_form sheet3_size sheet3_items) (wl_X8_read cA a (r.2.1) (r.2.2.1) (r.2.2.2.1) (r.2.2.2.2.1) (r.2.2.2.2.2.1) (r.2.2.2.2.2.2) sheet0_lost sheet0_form sheet0_size sheet0_items sheet1_lost sheet1_form sheet1_size sheet1_items sheet2_lost sheet2_form sheet2_size sheet2_items sheet3_lost sheet3_form sheet3_size sheet3_items) sz) 0 0 (va_A (wl_X8_read cA a x_stale x_finding bowls_number bowls_nights bowls_things bowls_realms sheet0_lost sheet0_form sheet0_size sheet0_items sheet1_lost sheet1_form sheet1_size sheet1_items sheet2_lost sheet2_form sheet2_size sheet2_items sheet3_lost sheet3_form sheet3_size sheet3_items) sz) :=
  met_of (by decide) (Nat.le_of_ble_eq_true rfl) (fun p e s m args below meth c C hr hlk hA => k_X8_read C hr hlk hA a x_stale x_finding bowls_number bowls_nights bowls_things bowls_realms sheet0_lost sheet0_form sheet0_size sheet0_items sheet1_lost sheet1_form sheet1_size sheet1_items sheet2_lost sheet2_form sheet2_size sheet2_items sheet3_lost sheet3_form sheet3_size sheet3_items x1 r hf)
end

abbrev wl_X8_told (cA : Nat → ClassId) (a : Nat → Nat) (x_stale : Int32) (x_finding : Int32) (land_flaw : Int32) (land_cells : Int32) (land_columns : Int32) (land_rows : Int32) (land_kinds : Nat → Int32) (land_rowAt : Nat → Int32) (land_columnAt : Nat → Int32) (land_ways : Nat → Int32) (land_beside : Nat → Int32) (bowls_number : Int32) (bowls_nights : Nat → Int32) (bowls_things : Nat → Int32) (dogs_number : Int32) (dogs_nights : Nat → Int32) (dogs_things : Nat → Int32) (walks_start : Int32) (walks_frost : Int32) (walks_present : Int32) (walks_raked : Int32) (walks_steady : Nat → Int32) (walks_fresh : Nat → Int32) (walks_track : Nat → Int32) (walks_gone : Nat → Int32) (walks_trodden : Nat → Int64) (walks_lines : Nat → Int32) : va_W := [((a 0), .inr (8, [.ref (a 1), .ref (a 6), .ref (a 12), .ref (a 15), .ref (a 19), .ref (a 23), .ref (a 27), .ref (a 34), .ref (a 41), .ref (a 42), .ref (a 44), .ref (a 45), .int x_stale, .int x_finding])), ((a 6), .inr (3, [.ref (a 7), .ref (a 8), .ref (a 9), .ref (a 10), .ref (a 11), .int land_flaw, .int land_cells, .int land_columns, .int land_rows])), ((a 7), .inl (cA 0, 36, .inl land_kinds)), ((a 8), .inl (cA 0, 36, .inl land_rowAt)), ((a 9), .inl (cA 0, 36, .inl land_columnAt)), ((a 10), .inl (cA 0, 36, .inl land_ways)), ((a 11), .inl (cA 0, 144, .inl land_beside)), ((a 15), .inr (4, [.ref (a 16), .ref (a 17), .ref (a 18), .int bowls_number])), ((a 16), .inl (cA 0, 8, .inl bowls_nights)), ((a 17), .inl (cA 0, 8, .inl bowls_things)), ((a 19), .inr (4, [.ref (a 20), .ref (a 21), .ref (a 22), .int dogs_number])), ((a 20), .inl (cA 0, 8, .inl dogs_nights)), ((a 21), .inl (cA 0, 8, .inl dogs_things)), ((a 27), .inr (7, [.ref (a 6), .ref (a 15), .ref (a 19), .ref (a 28), .ref (a 29), .ref (a 30), .ref (a 31), .ref (a 32), .ref (a 33), .int walks_start, .int walks_frost, .int walks_present, .int walks_raked])), ((a 28), .inl (cA 0, 36, .inl walks_steady)), ((a 29), .inl (cA 0, 36, .inl walks_fresh)), ((a 30), .inl (cA 0, 250, .inl walks_track)), ((a 31), .inl (cA 0, 10, .inl walks_gone)), ((a 32), .inl (cA 1, 10, .inr (.inl walks_trodden))), ((a 33), .inl (cA 0, 60, .inl walks_lines))]
abbrev rm_X8_told : Room := { frames := 3, cells := 0, slots := 0, locals := 78 }
section
variable {p : Program} {l : Launch} {e : Env} {s : State} {m : MethodId} {args : Array Value} {below : List Frame} {meth : Method} {c : Code} {D : va_G} {cA : Nat → ClassId} {ws0 : va_W} {sz : Nat} {A : Nat → Prop} {Q : State → Prop}
def f_X8_told_b21 (x_stale : Int32) (land_cells : Int32) (land_columns : Int32) (land_rows : Int32) (land_kinds : Nat → Int32) (land_rowAt : Nat → Int32) (land_columnAt : Nat → Int32) (land_ways : Nat → Int32) (land_beside : Nat → Int32) (bowls_number : Int32) (bowls_nights : Nat → Int32) (bowls_things : Nat → Int32) (dogs_number : Int32) (dogs_nights : Nat → Int32) (dogs_things : Nat → Int32) (walks_start : Int32) (walks_frost : Int32) (walks_present : Int32) (walks_raked : Int32) (walks_steady : Nat → Int32) (walks_fresh : Nat → Int32) (walks_track : Nat → Int32) (walks_gone : Nat → Int32) (walks_trodden : Nat → Int64) (walks_lines : Nat → Int32) : Option (Int32 × (Nat → Int32) × (Nat → Int32) × (Nat → Int32) × (Nat → Int32) × (Nat → Int64) × (Nat → Int32)) :=
  some (x_stale, walks_steady, walks_fresh, walks_track, walks_gone, walks_trodden, walks_lines)
set_option maxHeartbeats 4000000 in
set_option maxRecDepth 100000 in
theorem k_X8_told_b21 (C : Cx RX8 cX8_told 1 D cA p s m args c) (hr : meth.sig.returnType = (some (.object "HedgehogBorder$Walker"))) (hlk : meth.locks = false) (hA : ∀ q, s.heap.size ≤ q → va_A ws0 sz q) (a : Nat → Nat) (x_stale : Int32) (x_finding : Int32) (land_flaw : Int32) (land_cells : Int32) (land_columns : Int32) (land_rows : Int32) (land_kinds : Nat → Int32) (land_rowAt : Nat → Int32) (land_columnAt : Nat → Int32) (land_ways : Nat → Int32) (land_beside : Nat → Int32) (bowls_number : Int32) (bowls_nights : Nat → Int32) (bowls_things : Nat → Int32) (dogs_number : Int32) (dogs_nights : Nat → Int32) (dogs_things : Nat → Int32) (walks_start : Int32) (walks_frost : Int32) (walks_present : Int32) (walks_raked : Int32) (walks_steady : Nat → Int32) (walks_fresh : Nat → Int32) (walks_track : Nat → Int32) (walks_gone : Nat → Int32) (walks_trodden : Nat → Int64) (walks_lines : Nat → Int32) (r : Int32 × (Nat → Int32) × (Nat → Int32) × (Nat → Int32) × (Nat → Int32) × (Nat → Int64) × (Nat → Int32)) (hf : f_X8_told_b21 x_stale land_cells land_columns land_rows land_kinds land_rowAt land_columnAt land_ways land_beside bowls_number bowls_nights bowls_things dogs_number dogs_nights dogs_things walks_start walks_frost walks_present walks_raked walks_steady walks_fresh walks_track walks_gone walks_trodden walks_lines = some r) : At p l e rm_X8_told s m args below meth c D (va_A ws0 sz) 0 0 (MQ below (PostR D (a 27) ws0 (wl_X8_told cA a (r.1) x_finding land_flaw land_cells land_columns land_rows land_kinds land_rowAt land_columnAt land_ways land_beside bowls_number bowls_nights bowls_things dogs_number dogs_nights dogs_things walks_start walks_frost walks_present walks_raked (r.2.1) (r.2.2.1) (r.2.2.2.1) (r.2.2.2.2.1) (r.2.2.2.2.2.1) (r.2.2.2.2.2.2)) sz) args s 0 0 (va_A ws0 sz)) 1 21 (wl_X8_told cA a x_stale x_finding land_flaw land_cells land_columns land_rows land_kinds land_rowAt land_columnAt land_ways land_beside bowls_number bowls_nights bowls_things dogs_number dogs_nights dogs_things walks_start walks_frost walks_present walks_raked walks_steady walks_fresh walks_track walks_gone walks_trodden walks_lines) [(0, .ref (a 0))] [] := by
  intro H locs ls hP hD hS hl
  have hx := C.1
  have hb := C.2.1
  have hown := C.2.2.2.1
  have hts := C.2.2.2.2.1
  unfold f_X8_told_b21 at hf
  refine lv_aload_n (pc := 21) hx hb dX8_told_21 rfl (lv_at hl 0 rfl) ?_
  refine g_get (pc := 22) C fg_X8_50 hP 0 rfl rfl dX8_told_22 ?_
  have hf := Option.some.inj hf
  subst hf
  exact ret_r C hr hlk hP hS dX8_told_25
def f_X8_told (x_stale : Int32) (land_cells : Int32) (land_columns : Int32) (land_rows : Int32) (land_kinds : Nat → Int32) (land_rowAt : Nat → Int32) (land_columnAt : Nat → Int32) (land_ways : Nat → Int32) (land_beside : Nat → Int32) (bowls_number : Int32) (bowls_nights : Nat → Int32) (bowls_things : Nat → Int32) (dogs_number : Int32) (dogs_nights : Nat → Int32) (dogs_things : Nat → Int32) (walks_start : Int32) (walks_frost : Int32) (walks_present : Int32) (walks_raked : Int32) (walks_steady : Nat → Int32) (walks_fresh : Nat → Int32) (walks_track : Nat → Int32) (walks_gone : Nat → Int32) (walks_trodden : Nat → Int64) (walks_lines : Nat → Int32) : Option (Int32 × (Nat → Int32) × (Nat → Int32) × (Nat → Int32) × (Nat → Int32) × (Nat → Int64) × (Nat → Int32)) :=
  if x_stale = 0 then (f_X8_told_b21 x_stale land_cells land_columns land_rows land_kinds land_rowAt land_columnAt land_ways land_beside bowls_number bowls_nights bowls_things dogs_number dogs_nights dogs_things walks_start walks_frost walks_present walks_raked walks_steady walks_fresh walks_track walks_gone walks_trodden walks_lines) else (bind6 (f_X7_walkNights land_cells land_columns land_rows land_kinds land_rowAt land_columnAt land_ways land_beside bowls_number bowls_nights bowls_things dogs_number dogs_nights dogs_things walks_start walks_frost walks_present walks_raked walks_steady walks_fresh walks_track walks_gone walks_trodden walks_lines (9 : Int32)) (fun c1 c2 c3 c4 c5 c6 => f_X8_told_b21 (0 : Int32) land_cells land_columns land_rows land_kinds land_rowAt land_columnAt land_ways land_beside bowls_number bowls_nights bowls_things dogs_number dogs_nights dogs_things walks_start walks_frost walks_present walks_raked c1 c2 c3 c4 c5 c6))
set_option maxHeartbeats 4000000 in
set_option maxRecDepth 100000 in
theorem k_X8_told (C : Cx RX8 cX8_told 1 D cA p s m args c) (hr : meth.sig.returnType = (some (.object "HedgehogBorder$Walker"))) (hlk : meth.locks = false) (hA : ∀ q, s.heap.size ≤ q → va_A ws0 sz q) (a : Nat → Nat) (x_stale : Int32) (x_finding : Int32) (land_flaw : Int32) (land_cells : Int32) (land_columns : Int32) (land_rows : Int32) (land_kinds : Nat → Int32) (land_rowAt : Nat → Int32) (land_columnAt : Nat → Int32) (land_ways : Nat → Int32) (land_beside : Nat → Int32) (bowls_number : Int32) (bowls_nights : Nat → Int32) (bowls_things : Nat → Int32) (dogs_number : Int32) (dogs_nights : Nat → Int32) (dogs_things : Nat → Int32) (walks_start : Int32) (walks_frost : Int32) (walks_present : Int32) (walks_raked : Int32) (walks_steady : Nat → Int32) (walks_fresh : Nat → Int32) (walks_track : Nat → Int32) (walks_gone : Nat → Int32) (walks_trodden : Nat → Int64) (walks_lines : Nat → Int32) (r : Int32 × (Nat → Int32) × (Nat → Int32) × (Nat → Int32) × (Nat → Int32) × (Nat → Int64) × (Nat → Int32)) (hf : f_X8_told x_stale land_cells land_columns land_rows land_kinds land_rowAt land_columnAt land_ways land_beside bowls_number bowls_nights bowls_things dogs_number dogs_nights dogs_things walks_start walks_frost walks_present walks_raked walks_steady walks_fresh walks_track walks_gone walks_trodden walks_lines = some r) : At p l e rm_X8_told s m args below meth c D (va_A ws0 sz) 0 0 (MQ below (PostR D (a 27) ws0 (wl_X8_told cA a (r.1) x_finding land_flaw land_cells land_columns land_rows land_kinds land_rowAt land_columnAt land_ways land_beside bowls_number bowls_nights bowls_things dogs_number dogs_nights dogs_things walks_start walks_frost walks_present walks_raked (r.2.1) (r.2.2.1) (r.2.2.2.1) (r.2.2.2.2.1) (r.2.2.2.2.2.1) (r.2.2.2.2.2.2)) sz) args s 0 0 (va_A ws0 sz)) 1 0 (wl_X8_told cA a x_stale x_finding land_flaw land_cells land_columns land_rows land_kinds land_rowAt land_columnAt land_ways land_beside bowls_number bowls_nights bowls_things dogs_number dogs_nights dogs_things walks_start walks_frost walks_present walks_raked walks_steady walks_fresh walks_track walks_gone walks_trodden walks_lines) [(0, .ref (a 0))] [] := by
  intro H locs ls hP hD hS hl
  have hx := C.1
  have hb := C.2.1
  have hown := C.2.2.2.1
  have hts := C.2.2.2.2.1
  unfold f_X8_told at hf
  refine lv_aload_n (pc := 0) hx hb dX8_told_0 rfl (lv_at hl 0 rfl) ?_
  refine g_get (pc := 1) C fg_X8_82 hP 0 rfl rfl dX8_told_1 ?_
  refine lv_if_eq (pc := 4) (tgt := 21) hx hb dX8_told_4 (by decide) (fun hc => ?_) (fun hc => ?_)
  · have hf := (if_pos hc).symm.trans hf
    exact k_X8_told_b21 C hr hlk hA a x_stale x_finding land_flaw land_cells land_columns land_rows land_kinds land_rowAt land_columnAt land_ways land_beside bowls_number bowls_nights bowls_things dogs_number dogs_nights dogs_things walks_start walks_frost walks_present walks_raked walks_steady walks_fresh walks_track walks_gone walks_trodden walks_lines r hf H locs ls hP hD hS hl
  · have hf := (if_neg hc).symm.trans hf
    refine lv_aload_n (pc := 7) hx hb dX8_told_7 rfl (lv_at hl 0 rfl) ?_
    refine g_get (pc := 8) C fg_X8_50 hP 0 rfl rfl dX8_told_8 ?_
    refine lv_bipush (pc := 11) (v := 9) hx hb dX8_told_11 bp_9 ?_
    obtain ⟨c1, c2, c3, c4, c5, c6, hq, hf⟩ := bind6_some hf
    refine fin2_v (wl_X8_told cA a x_stale x_finding land_flaw land_cells land_columns land_rows land_kinds land_rowAt land_columnAt land_ways land_beside bowls_number bowls_nights bowls_things dogs_number dogs_nights dogs_things walks_start walks_frost walks_present walks_raked c1 c2 c3 c4 c5 c6) (run_V (rest := []) (pc := 13) (As := [.int (9 : Int32)]) C mf_X8_180 (c_X7_walkNights l D cA (a 6) (a 7) (a 8) (a 9) (a 10) (a 11) (a 15) (a 16) (a 17) (a 18) (a 19) (a 20) (a 21) (a 22) (a 27) (a 28) (a 29) (a 30) (a 31) (a 32) (a 33) land_flaw land_cells land_columns land_rows land_kinds land_rowAt land_columnAt land_ways land_beside bowls_number bowls_nights bowls_things dogs_number dogs_nights dogs_things walks_start walks_frost walks_present walks_raked walks_steady walks_fresh walks_track walks_gone walks_trodden walks_lines (9 : Int32) (c1, c2, c3, c4, c5, c6) hq H.size) rfl rfl ⟨(Nat.le_of_ble_eq_true rfl), (Nat.le_of_ble_eq_true rfl)⟩ (preV_of C hP hD [1, 2, 3, 4, 5, 6, 7, 8, 9, 10, 11, 12, 13, 14, 15, 16, 17, 18, 19] rfl (pl_nd pv_32) 12 rfl rfl rfl) rfl hl.1 rfl (Nat.le_of_ble_eq_true rfl) dX8_told_13 ⟨Nat.zero_le _, Nat.zero_le _⟩) hP hD hS hA [1, 2, 3, 4, 5, 6, 7, 8, 9, 10, 11, 12, 13, 14, 15, 16, 17, 18, 19] [0] rfl rfl rfl rfl pv_32 (fun H locs hP hS => ?_)
    have hD : va_D (va_A ws0 sz) (wl_X8_told cA a x_stale x_finding land_flaw land_cells land_columns land_rows land_kinds land_rowAt land_columnAt land_ways land_beside bowls_number bowls_nights bowls_things dogs_number dogs_nights dogs_things walks_start walks_frost walks_present walks_raked c1 c2 c3 c4 c5 c6) := vd_a hD rfl
    refine lv_aload_n (pc := 16) hx hb dX8_told_16 rfl (lv_at hl 0 rfl) ?_
    refine lv_iconst (pc := 17) (v := 0) hx hb dX8_told_17 ic_0 ?_
    refine g_put (pc := 18) C fg_X8_82 ft_X8_12 hP hD hS 0 rfl (by decide) rfl (Nat.le_of_ble_eq_true rfl) dX8_told_18 (fun H locs hP hD hS => ?_)
    have hP : va_P D classes (wl_X8_told cA a (0 : Int32) x_finding land_flaw land_cells land_columns land_rows land_kinds land_rowAt land_columnAt land_ways land_beside bowls_number bowls_nights bowls_things dogs_number dogs_nights dogs_things walks_start walks_frost walks_present walks_raked c1 c2 c3 c4 c5 c6) H := hP
    have hD : va_D (va_A ws0 sz) (wl_X8_told cA a (0 : Int32) x_finding land_flaw land_cells land_columns land_rows land_kinds land_rowAt land_columnAt land_ways land_beside bowls_number bowls_nights bowls_things dogs_number dogs_nights dogs_things walks_start walks_frost walks_present walks_raked c1 c2 c3 c4 c5 c6) := hD
    exact k_X8_told_b21 C hr hlk hA a (0 : Int32) x_finding land_flaw land_cells land_columns land_rows land_kinds land_rowAt land_columnAt land_ways land_beside bowls_number bowls_nights bowls_things dogs_number dogs_nights dogs_things walks_start walks_frost walks_present walks_raked c1 c2 c3 c4 c5 c6 r hf H locs ls hP hD hS hl
set_option maxRecDepth 100000 in
theorem c_X8_told (l : Launch) (D : va_G) (cA : Nat → ClassId) (a : Nat → Nat) (x_stale : Int32) (x_finding : Int32) (land_flaw : Int32) (land_cells : Int32) (land_columns : Int32) (land_rows : Int32) (land_kinds : Nat → Int32) (land_rowAt : Nat → Int32) (land_columnAt : Nat → Int32) (land_ways : Nat → Int32) (land_beside : Nat → Int32) (bowls_number : Int32) (bowls_nights : Nat → Int32) (bowls_things : Nat → Int32) (dogs_number : Int32) (dogs_nights : Nat → Int32) (dogs_things : Nat → Int32) (walks_start : Int32) (walks_frost : Int32) (walks_present : Int32) (walks_raked : Int32) (walks_steady : Nat → Int32) (walks_fresh : Nat → Int32) (walks_track : Nat → Int32) (walks_gone : Nat → Int32) (walks_trodden : Nat → Int64) (walks_lines : Nat → Int32) (r : Int32 × (Nat → Int32) × (Nat → Int32) × (Nat → Int32) × (Nat → Int32) × (Nat → Int64) × (Nat → Int32)) (hf : f_X8_told x_stale land_cells land_columns land_rows land_kinds land_rowAt land_columnAt land_ways land_beside bowls_number bowls_nights bowls_things dogs_number dogs_nights dogs_things walks_start walks_frost walks_present walks_raked walks_steady walks_fresh walks_track walks_gone walks_trodden walks_lines = some r) (sz : Nat) : Met l yX8_told (Cond.code yX8_told cX8_told 1 (some (.object "HedgehogBorder$Walker")) :: lw_good) rm_X8_told (PreX D cA [.ref (a 0)] sz (wl_X8_told cA a x_stale x_finding land_flaw land_cells land_columns land_rows land_kinds land_rowAt land_columnAt land_ways land_beside bowls_number bowls_nights bowls_things dogs_number dogs_nights dogs_things walks_start walks_frost walks_present walks_raked walks_steady walks_fresh walks_track walks_gone walks_trodden walks_lines)) (PostR D (a 27) (wl_X8_told cA a x_stale x_finding land_flaw land_cells land_columns land_rows land_kinds land_rowAt land_columnAt land_ways land_beside bowls_number bowls_nights bowls_things dogs_number dogs_nights dogs_things walks_start walks_frost walks_present walks_raked walks_steady walks_fresh walks_track walks_gone walks_trodden walks_lines) (wl_X8_told cA a (r.1) x_finding land_flaw land_cells land_columns land_rows land_kinds land_rowAt land_columnAt land_ways land_beside bowls_number bowls_nights bowls_things dogs_number dogs_nights dogs_things walks_start walks_frost walks_present walks_raked (r.2.1) (r.2.2.1) (r.2.2.2.1) (r.2.2.2.2.1) (r.2.2.2.2.2.1) (r.2.2.2.2.2.2)) sz) 0 0 (va_A (wl_X8_told cA a x_stale x_finding land_flaw land_cells land_columns land_rows land_kinds land_rowAt land_columnAt land_ways land_beside bowls_number bowls_nights bowls_things dogs_number dogs_nights dogs_things walks_start walks_frost walks_present walks_raked walks_steady walks_fresh walks_track walks_gone walks_trodden walks_lines) sz) :=
  met_of (by decide) (Nat.le_of_ble_eq_true rfl) (fun p e s m args below meth c C hr hlk hA => k_X8_told C hr hlk hA a x_stale x_finding land_flaw land_cells land_columns land_rows land_kinds land_rowAt land_columnAt land_ways land_beside bowls_number bowls_nights bowls_things dogs_number dogs_nights dogs_things walks_start walks_frost walks_present walks_raked walks_steady walks_fresh walks_track walks_gone walks_trodden walks_lines r hf)
end

abbrev wl_X8_at (cA : Nat → ClassId) (a : Nat → Nat) (x_stale : Int32) (x_finding : Int32) (land_flaw : Int32) (land_cells : Int32) (land_columns : Int32) (land_rows : Int32) (land_kinds : Nat → Int32) (land_rowAt : Nat → Int32) (land_columnAt : Nat → Int32) (land_ways : Nat → Int32) (land_beside : Nat → Int32) (bowls_number : Int32) (bowls_nights : Nat → Int32) (bowls_things : Nat → Int32) (dogs_number : Int32) (dogs_nights : Nat → Int32) (dogs_things : Nat → Int32) (walks_start : Int32) (walks_frost : Int32) (walks_present : Int32) (walks_raked : Int32) (walks_steady : Nat → Int32) (walks_fresh : Nat → Int32) (walks_track : Nat → Int32) (walks_gone : Nat → Int32) (walks_trodden : Nat → Int64) (walks_lines : Nat → Int32) : va_W := [((a 0), .inr (8, [.ref (a 1), .ref (a 6), .ref (a 12), .ref (a 15), .ref (a 19), .ref (a 23), .ref (a 27), .ref (a 34), .ref (a 41), .ref (a 42), .ref (a 44), .ref (a 45), .int x_stale, .int x_finding])), ((a 6), .inr (3, [.ref (a 7), .ref (a 8), .ref (a 9), .ref (a 10), .ref (a 11), .int land_flaw, .int land_cells, .int land_columns, .int land_rows])), ((a 7), .inl (cA 0, 36, .inl land_kinds)), ((a 8), .inl (cA 0, 36, .inl land_rowAt)), ((a 9), .inl (cA 0, 36, .inl land_columnAt)), ((a 10), .inl (cA 0, 36, .inl land_ways)), ((a 11), .inl (cA 0, 144, .inl land_beside)), ((a 15), .inr (4, [.ref (a 16), .ref (a 17), .ref (a 18), .int bowls_number])), ((a 16), .inl (cA 0, 8, .inl bowls_nights)), ((a 17), .inl (cA 0, 8, .inl bowls_things)), ((a 19), .inr (4, [.ref (a 20), .ref (a 21), .ref (a 22), .int dogs_number])), ((a 20), .inl (cA 0, 8, .inl dogs_nights)), ((a 21), .inl (cA 0, 8, .inl dogs_things)), ((a 27), .inr (7, [.ref (a 6), .ref (a 15), .ref (a 19), .ref (a 28), .ref (a 29), .ref (a 30), .ref (a 31), .ref (a 32), .ref (a 33), .int walks_start, .int walks_frost, .int walks_present, .int walks_raked])), ((a 28), .inl (cA 0, 36, .inl walks_steady)), ((a 29), .inl (cA 0, 36, .inl walks_fresh)), ((a 30), .inl (cA 0, 250, .inl walks_track)), ((a 31), .inl (cA 0, 10, .inl walks_gone)), ((a 32), .inl (cA 1, 10, .inr (.inl walks_trodden))), ((a 33), .inl (cA 0, 60, .inl walks_lines))]
abbrev rm_X8_at : Room := { frames := 4, cells := 0, slots := 0, locals := 98 }
section
variable {p : Program} {l : Launch} {e : Env} {s : State} {m : MethodId} {args : Array Value} {below : List Frame} {meth : Method} {c : Code} {D : va_G} {cA : Nat → ClassId} {ws0 : va_W} {sz : Nat} {A : Nat → Prop} {Q : State → Prop}
def f_X8_at (x_stale : Int32) (land_cells : Int32) (land_columns : Int32) (land_rows : Int32) (land_kinds : Nat → Int32) (land_rowAt : Nat → Int32) (land_columnAt : Nat → Int32) (land_ways : Nat → Int32) (land_beside : Nat → Int32) (bowls_number : Int32) (bowls_nights : Nat → Int32) (bowls_things : Nat → Int32) (dogs_number : Int32) (dogs_nights : Nat → Int32) (dogs_things : Nat → Int32) (walks_start : Int32) (walks_frost : Int32) (walks_present : Int32) (walks_raked : Int32) (walks_steady : Nat → Int32) (walks_fresh : Nat → Int32) (walks_track : Nat → Int32) (walks_gone : Nat → Int32) (walks_trodden : Nat → Int64) (walks_lines : Nat → Int32) (x1 : Int32) (x2 : Int32) : Option (Int32 × Int32 × (Nat → Int32) × (Nat → Int32) × (Nat → Int32) × (Nat → Int32) × (Nat → Int64) × (Nat → Int32)) :=
  bind1 (f_X8_isNight x1) (fun r1 => if r1 = 0 then (some ((-2 : Int32), x_stale, walks_steady, walks_fresh, walks_track, walks_gone, walks_trodden, walks_lines)) else (bind1 (f_X8_isUpTo x2 (24 : Int32)) (fun r2 => if r2 = 0 then (some ((-2 : Int32), x_stale, walks_steady, walks_fresh, walks_track, walks_gone, walks_trodden, walks_lines)) else (bind7 (f_X8_told x_stale land_cells land_columns land_rows land_kinds land_rowAt land_columnAt land_ways land_beside bowls_number bowls_nights bowls_things dogs_number dogs_nights dogs_things walks_start walks_frost walks_present walks_raked walks_steady walks_fresh walks_track walks_gone walks_trodden walks_lines) (fun c3 c4 c5 c6 c7 c8 c9 => bind1 (f_X7_trackAt c6 c7 x1 x2) (fun r10 => some (r10, c3, c4, c5, c6, c7, c8, c9)))))))
set_option maxHeartbeats 4000000 in
set_option maxRecDepth 100000 in
theorem k_X8_at (C : Cx RX8 cX8_at 3 D cA p s m args c) (hr : meth.sig.returnType = (some .int)) (hlk : meth.locks = false) (hA : ∀ q, s.heap.size ≤ q → va_A ws0 sz q) (a : Nat → Nat) (x_stale : Int32) (x_finding : Int32) (land_flaw : Int32) (land_cells : Int32) (land_columns : Int32) (land_rows : Int32) (land_kinds : Nat → Int32) (land_rowAt : Nat → Int32) (land_columnAt : Nat → Int32) (land_ways : Nat → Int32) (land_beside : Nat → Int32) (bowls_number : Int32) (bowls_nights : Nat → Int32) (bowls_things : Nat → Int32) (dogs_number : Int32) (dogs_nights : Nat → Int32) (dogs_things : Nat → Int32) (walks_start : Int32) (walks_frost : Int32) (walks_present : Int32) (walks_raked : Int32) (walks_steady : Nat → Int32) (walks_fresh : Nat → Int32) (walks_track : Nat → Int32) (walks_gone : Nat → Int32) (walks_trodden : Nat → Int64) (walks_lines : Nat → Int32) (x1 : Int32) (x2 : Int32) (r : Int32 × Int32 × (Nat → Int32) × (Nat → Int32) × (Nat → Int32) × (Nat → Int32) × (Nat → Int64) × (Nat → Int32)) (hf : f_X8_at x_stale land_cells land_columns land_rows land_kinds land_rowAt land_columnAt land_ways land_beside bowls_number bowls_nights bowls_things dogs_number dogs_nights dogs_things walks_start walks_frost walks_present walks_raked walks_steady walks_fresh walks_track walks_gone walks_trodden walks_lines x1 x2 = some r) : At p l e rm_X8_at s m args below meth c D (va_A ws0 sz) 0 0 (MQ below (PostI D r.1 ws0 (wl_X8_at cA a (r.2.1) x_finding land_flaw land_cells land_columns land_rows land_kinds land_rowAt land_columnAt land_ways land_beside bowls_number bowls_nights bowls_things dogs_number dogs_nights dogs_things walks_start walks_frost walks_present walks_raked (r.2.2.1) (r.2.2.2.1) (r.2.2.2.2.1) (r.2.2.2.2.2.1) (r.2.2.2.2.2.2.1) (r.2.2.2.2.2.2.2)) sz) args s 0 0 (va_A ws0 sz)) 3 0 (wl_X8_at cA a x_stale x_finding land_flaw land_cells land_columns land_rows land_kinds land_rowAt land_columnAt land_ways land_beside bowls_number bowls_nights bowls_things dogs_number dogs_nights dogs_things walks_start walks_frost walks_present walks_raked walks_steady walks_fresh walks_track walks_gone walks_trodden walks_lines) [(0, .ref (a 0)), (1, .int x1), (2, .int x2)] [] := by
  intro H locs ls hP hD hS hl
  have hx := C.1
  have hb := C.2.1
  have hown := C.2.2.2.1
  have hts := C.2.2.2.2.1
  unfold f_X8_at at hf
  refine lv_iload_n (pc := 0) hx hb dX8_at_0 rfl (lv_at hl 1 rfl) ?_
  obtain ⟨r1, hq, hf⟩ := bind1_some hf
  refine fin2_i (wl_X8_at cA a x_stale x_finding land_flaw land_cells land_columns land_rows land_kinds land_rowAt land_columnAt land_ways land_beside bowls_number bowls_nights bowls_things dogs_number dogs_nights dogs_things walks_start walks_frost walks_present walks_raked walks_steady walks_fresh walks_track walks_gone walks_trodden walks_lines) (run_S (rest := []) (pc := 1) (As := [.int x1]) C mf_X8_149 (c_X8_isNight l D cA  x1 r1 hq H.size) rfl rfl ⟨(Nat.le_of_ble_eq_true rfl), (Nat.le_of_ble_eq_true rfl)⟩ (preS_of C hP hD [] rfl (pl_nd pv_33)) rfl hl.1 rfl (Nat.le_of_ble_eq_true rfl) dX8_at_1 ⟨Nat.zero_le _, Nat.zero_le _⟩) hP hD hS hA [] [0, 1, 2, 3, 4, 5, 6, 7, 8, 9, 10, 11, 12, 13, 14, 15, 16, 17, 18, 19] rfl rfl rfl rfl pv_33 (fun H locs hP hS => ?_)
  refine lv_if_eq (pc := 4) (tgt := 16) hx hb dX8_at_4 (by decide) (fun hc => ?_) (fun hc => ?_)
  · have hf := (if_pos hc).symm.trans hf
    refine lv_bipush (pc := 16) (v := (-2)) hx hb dX8_at_16 bp_m2 ?_
    have hf := Option.some.inj hf
    subst hf
    exact ret_i C hr hlk hP hS dX8_at_18
  · have hf := (if_neg hc).symm.trans hf
    refine lv_iload_n (pc := 7) hx hb dX8_at_7 rfl (lv_at hl 2 rfl) ?_
    refine lv_bipush (pc := 8) (v := 24) hx hb dX8_at_8 bp_24 ?_
    obtain ⟨r2, hq, hf⟩ := bind1_some hf
    refine fin2_i (wl_X8_at cA a x_stale x_finding land_flaw land_cells land_columns land_rows land_kinds land_rowAt land_columnAt land_ways land_beside bowls_number bowls_nights bowls_things dogs_number dogs_nights dogs_things walks_start walks_frost walks_present walks_raked walks_steady walks_fresh walks_track walks_gone walks_trodden walks_lines) (run_S (rest := []) (pc := 10) (As := [.int x2, .int (24 : Int32)]) C mf_X8_90 (c_X8_isUpTo l D cA  x2 (24 : Int32) r2 hq H.size) rfl rfl ⟨(Nat.le_of_ble_eq_true rfl), (Nat.le_of_ble_eq_true rfl)⟩ (preS_of C hP hD [] rfl (pl_nd pv_33)) rfl hl.1 rfl (Nat.le_of_ble_eq_true rfl) dX8_at_10 ⟨Nat.zero_le _, Nat.zero_le _⟩) hP hD hS hA [] [0, 1, 2, 3, 4, 5, 6, 7, 8, 9, 10, 11, 12, 13, 14, 15, 16, 17, 18, 19] rfl rfl rfl rfl pv_33 (fun H locs hP hS => ?_)
    refine lv_if_ne (pc := 13) (tgt := 19) hx hb dX8_at_13 (by decide) (fun hc => ?_) (fun hc => ?_)
    · have hf := (if_neg hc).symm.trans hf
      refine lv_aload_n (pc := 19) hx hb dX8_at_19 rfl (lv_at hl 0 rfl) ?_
      obtain ⟨c3, c4, c5, c6, c7, c8, c9, hq, hf⟩ := bind7_some hf
      refine fin2_r (wl_X8_at cA a c3 x_finding land_flaw land_cells land_columns land_rows land_kinds land_rowAt land_columnAt land_ways land_beside bowls_number bowls_nights bowls_things dogs_number dogs_nights dogs_things walks_start walks_frost walks_present walks_raked c4 c5 c6 c7 c8 c9) (run_V (rest := []) (pc := 20) (As := []) C mf_X8_159 (c_X8_told l D cA a x_stale x_finding land_flaw land_cells land_columns land_rows land_kinds land_rowAt land_columnAt land_ways land_beside bowls_number bowls_nights bowls_things dogs_number dogs_nights dogs_things walks_start walks_frost walks_present walks_raked walks_steady walks_fresh walks_track walks_gone walks_trodden walks_lines (c3, c4, c5, c6, c7, c8, c9) hq H.size) rfl rfl ⟨(Nat.le_of_ble_eq_true rfl), (Nat.le_of_ble_eq_true rfl)⟩ (preV_of C hP hD [0, 1, 2, 3, 4, 5, 6, 7, 8, 9, 10, 11, 12, 13, 14, 15, 16, 17, 18, 19] rfl (pl_nd pv_34) 0 rfl rfl rfl) rfl hl.1 rfl (Nat.le_of_ble_eq_true rfl) dX8_at_20 ⟨Nat.zero_le _, Nat.zero_le _⟩) hP hD hS hA [0, 1, 2, 3, 4, 5, 6, 7, 8, 9, 10, 11, 12, 13, 14, 15, 16, 17, 18, 19] [] rfl rfl rfl rfl pv_34 (fun H locs hP hS => ?_)
      have hD : va_D (va_A ws0 sz) (wl_X8_at cA a c3 x_finding land_flaw land_cells land_columns land_rows land_kinds land_rowAt land_columnAt land_ways land_beside bowls_number bowls_nights bowls_things dogs_number dogs_nights dogs_things walks_start walks_frost walks_present walks_raked c4 c5 c6 c7 c8 c9) := vd_a hD rfl
      refine lv_iload_n (pc := 23) hx hb dX8_at_23 rfl (lv_at hl 1 rfl) ?_
      refine lv_iload_n (pc := 24) hx hb dX8_at_24 rfl (lv_at hl 2 rfl) ?_
      obtain ⟨r10, hq, hf⟩ := bind1_some hf
      refine fin2_i (wl_X8_at cA a c3 x_finding land_flaw land_cells land_columns land_rows land_kinds land_rowAt land_columnAt land_ways land_beside bowls_number bowls_nights bowls_things dogs_number dogs_nights dogs_things walks_start walks_frost walks_present walks_raked c4 c5 c6 c7 c8 c9) (run_V (rest := []) (pc := 25) (As := [.int x1, .int x2]) C mf_X8_163 (c_X7_trackAt l D cA (a 6) (a 15) (a 19) (a 27) (a 28) (a 29) (a 30) (a 31) (a 32) (a 33) walks_start walks_frost walks_present walks_raked c6 c7 x1 x2 r10 hq H.size) rfl rfl ⟨(Nat.le_of_ble_eq_true rfl), (Nat.le_of_ble_eq_true rfl)⟩ (preV_of C hP hD [13, 16, 17] rfl (pl_nd pv_35) 0 rfl rfl rfl) rfl hl.1 rfl (Nat.le_of_ble_eq_true rfl) dX8_at_25 ⟨Nat.zero_le _, Nat.zero_le _⟩) hP hD hS hA [13, 16, 17] [0, 1, 2, 3, 4, 5, 6, 7, 8, 9, 10, 11, 12, 14, 15, 18, 19] rfl rfl rfl rfl pv_35 (fun H locs hP hS => ?_)
      have hf := Option.some.inj hf
      subst hf
      exact ret_i C hr hlk hP hS dX8_at_28
    · have hf := (if_pos hc).symm.trans hf
      refine lv_bipush (pc := 16) (v := (-2)) hx hb dX8_at_16 bp_m2 ?_
      have hf := Option.some.inj hf
      subst hf
      exact ret_i C hr hlk hP hS dX8_at_18
set_option maxRecDepth 100000 in
theorem c_X8_at (l : Launch) (D : va_G) (cA : Nat → ClassId) (a : Nat → Nat) (x_stale : Int32) (x_finding : Int32) (land_flaw : Int32) (land_cells : Int32) (land_columns : Int32) (land_rows : Int32) (land_kinds : Nat → Int32) (land_rowAt : Nat → Int32) (land_columnAt : Nat → Int32) (land_ways : Nat → Int32) (land_beside : Nat → Int32) (bowls_number : Int32) (bowls_nights : Nat → Int32) (bowls_things : Nat → Int32) (dogs_number : Int32) (dogs_nights : Nat → Int32) (dogs_things : Nat → Int32) (walks_start : Int32) (walks_frost : Int32) (walks_present : Int32) (walks_raked : Int32) (walks_steady : Nat → Int32) (walks_fresh : Nat → Int32) (walks_track : Nat → Int32) (walks_gone : Nat → Int32) (walks_trodden : Nat → Int64) (walks_lines : Nat → Int32) (x1 : Int32) (x2 : Int32) (r : Int32 × Int32 × (Nat → Int32) × (Nat → Int32) × (Nat → Int32) × (Nat → Int32) × (Nat → Int64) × (Nat → Int32)) (hf : f_X8_at x_stale land_cells land_columns land_rows land_kinds land_rowAt land_columnAt land_ways land_beside bowls_number bowls_nights bowls_things dogs_number dogs_nights dogs_things walks_start walks_frost walks_present walks_raked walks_steady walks_fresh walks_track walks_gone walks_trodden walks_lines x1 x2 = some r) (sz : Nat) : Met l yX8_at (Cond.code yX8_at cX8_at 3 (some .int) :: lw_good) rm_X8_at (PreX D cA [.ref (a 0), .int x1, .int x2] sz (wl_X8_at cA a x_stale x_finding land_flaw land_cells land_columns land_rows land_kinds land_rowAt land_columnAt land_ways land_beside bowls_number bowls_nights bowls_things dogs_number dogs_nights dogs_things walks_start walks_frost walks_present walks_raked walks_steady walks_fresh walks_track walks_gone walks_trodden walks_lines)) (PostI D r.1 (wl_X8_at cA a x_stale x_finding land_flaw land_cells land_columns land_rows land_kinds land_rowAt land_columnAt land_ways land_beside bowls_number bowls_nights bowls_things dogs_number dogs_nights dogs_things walks_start walks_frost walks_present walks_raked walks_steady walks_fresh walks_track walks_gone walks_trodden walks_lines) (wl_X8_at cA a (r.2.1) x_finding land_flaw land_cells land_columns land_rows land_kinds land_rowAt land_columnAt land_ways land_beside bowls_number bowls_nights bowls_things dogs_number dogs_nights dogs_things walks_start walks_frost walks_present walks_raked (r.2.2.1) (r.2.2.2.1) (r.2.2.2.2.1) (r.2.2.2.2.2.1) (r.2.2.2.2.2.2.1) (r.2.2.2.2.2.2.2)) sz) 0 0 (va_A (wl_X8_at cA a x_stale x_finding land_flaw land_cells land_columns land_rows land_kinds land_rowAt land_columnAt land_ways land_beside bowls_number bowls_nights bowls_things dogs_number dogs_nights dogs_things walks_start walks_frost walks_present walks_raked walks_steady walks_fresh walks_track walks_gone walks_trodden walks_lines) sz) :=
  met_of (by decide) (Nat.le_of_ble_eq_true rfl) (fun p e s m args below meth c C hr hlk hA => k_X8_at C hr hlk hA a x_stale x_finding land_flaw land_cells land_columns land_rows land_kinds land_rowAt land_columnAt land_ways land_beside bowls_number bowls_nights bowls_things dogs_number dogs_nights dogs_things walks_start walks_frost walks_present walks_raked walks_steady walks_fresh walks_track walks_gone walks_trodden walks_lines x1 x2 r hf)
end
