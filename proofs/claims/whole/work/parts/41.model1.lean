abbrev wl_X9_cell (cA : Nat → ClassId) (b : Nat → Nat) (m_latest : Int32) (m_cells : Int32) (m_wide : Int32) (m_houses : Int32) (m_bowls : Int32) (m_dogs : Int32) (m_gone : Int32) (m_sights : Int32) (m_drawn : Int32) (m_bytes : Nat → Int32) (m_typed : Nat → Int32) (m_cell : Nat → Int32) : va_W := [((b 0), .inr (9, [.ref (b 1), .ref (b 2), .ref (b 3), .ref (b 4), .int m_latest, .ref (b 5), .ref (b 6), .int m_cells, .int m_wide, .ref (b 7), .int m_houses, .ref (b 8), .ref (b 9), .int m_bowls, .ref (b 10), .int m_dogs, .ref (b 11), .int m_gone, .ref (b 12), .ref (b 13), .ref (b 14), .int m_sights, .ref (b 15), .ref (b 16), .int m_drawn])), ((b 5), .inl (cA 0, 84, .inl m_bytes)), ((b 6), .inl (cA 0, 2, .inl m_typed)), ((b 7), .inl (cA 0, 36, .inl m_cell))]
abbrev rm_X9_cell : Room := { frames := 2, cells := 0, slots := 0, locals := 47 }
section
variable {p : Program} {l : Launch} {e : Env} {s : State} {m : MethodId} {args : Array Value} {below : List Frame} {meth : Method} {c : Code} {D : va_G} {cA : Nat → ClassId} {ws0 : va_W} {sz : Nat} {A : Nat → Prop} {Q : State → Prop}
def f_X9_cell (m_cells : Int32) (m_wide : Int32) (m_bytes : Nat → Int32) (m_typed : Nat → Int32) (m_cell : Nat → Int32) (x1 : Int32) : Option (Int32 × Int32 × Int32 × (Nat → Int32)) :=
  bind4 (f_X9_readsLand m_cells m_wide m_bytes m_typed m_cell) (fun r1 c2 c3 c4 => bind1 (f_X9_in (x1.toInt64) (0 : Int64) (35 : Int64)) (fun r5 => if r5 = 0 then (some ((-2 : Int32), c2, c3, c4)) else (if c2 ≤ x1 then (some ((-1 : Int32), c2, c3, c4)) else (gd (inb x1 36) (some ((c4 x1.toNatClampNeg), c2, c3, c4))))))
set_option maxHeartbeats 4000000 in
set_option maxRecDepth 100000 in
theorem k_X9_cell (C : Cx RX9 cX9_cell 2 D cA p s m args c) (hr : meth.sig.returnType = (some .int)) (hlk : meth.locks = false) (hA : ∀ q, s.heap.size ≤ q → va_A ws0 sz q) (b : Nat → Nat) (m_latest : Int32) (m_cells : Int32) (m_wide : Int32) (m_houses : Int32) (m_bowls : Int32) (m_dogs : Int32) (m_gone : Int32) (m_sights : Int32) (m_drawn : Int32) (m_bytes : Nat → Int32) (m_typed : Nat → Int32) (m_cell : Nat → Int32) (x1 : Int32) (r : Int32 × Int32 × Int32 × (Nat → Int32)) (hf : f_X9_cell m_cells m_wide m_bytes m_typed m_cell x1 = some r) : At p l e rm_X9_cell s m args below meth c D (va_A ws0 sz) 0 0 (MQ below (PostI D r.1 ws0 (wl_X9_cell cA b m_latest (r.2.1) (r.2.2.1) m_houses m_bowls m_dogs m_gone m_sights m_drawn m_bytes m_typed (r.2.2.2)) sz) args s 0 0 (va_A ws0 sz)) 2 0 (wl_X9_cell cA b m_latest m_cells m_wide m_houses m_bowls m_dogs m_gone m_sights m_drawn m_bytes m_typed m_cell) [(0, .ref (b 0)), (1, .int x1)] [] := by
  intro H locs ls hP hD hS hl
  have hx := C.1
  have hb := C.2.1
  have hown := C.2.2.2.1
  have hts := C.2.2.2.2.1
  unfold f_X9_cell at hf
  refine lv_aload_n (pc := 0) hx hb dX9_cell_0 rfl (lv_at hl 0 rfl) ?_
  obtain ⟨r1, c2, c3, c4, hq, hf⟩ := bind4_some hf
  refine fin2_i (wl_X9_cell cA b m_latest c2 c3 m_houses m_bowls m_dogs m_gone m_sights m_drawn m_bytes m_typed c4) (run_V (rest := []) (pc := 1) (As := []) C mf_X9_115 (c_X9_readsLand l D cA b m_latest m_cells m_wide m_houses m_bowls m_dogs m_gone m_sights m_drawn m_bytes m_typed m_cell (r1, c2, c3, c4) hq H.size) rfl rfl ⟨(Nat.le_of_ble_eq_true rfl), (Nat.le_of_ble_eq_true rfl)⟩ (preV_of C hP hD [0, 1, 2, 3] rfl (pl_nd pv_126) 0 rfl rfl rfl) rfl hl.1 rfl (Nat.le_of_ble_eq_true rfl) dX9_cell_1 ⟨Nat.zero_le _, Nat.zero_le _⟩) hP hD hS hA [0, 1, 2, 3] [] rfl rfl rfl rfl pv_126 (fun H locs hP hS => ?_)
  have hD : va_D (va_A ws0 sz) (wl_X9_cell cA b m_latest c2 c3 m_houses m_bowls m_dogs m_gone m_sights m_drawn m_bytes m_typed c4) := vd_a hD rfl
  refine lv_pop (pc := 4) hx hb dX9_cell_4 rfl ?_
  refine lv_iload_n (pc := 5) hx hb dX9_cell_5 rfl (lv_at hl 1 rfl) ?_
  refine lv_i2l (pc := 6) hx hb dX9_cell_6 rfl ?_
  refine lv_lconst (pc := 7) (v := 0) hx hb dX9_cell_7 rfl ?_
  refine lv_ldc2 (pc := 8) hx hb hown (hts _ (lg_in mw_504 rfl)) dX9_cell_8 ?_
  obtain ⟨r5, hq, hf⟩ := bind1_some hf
  refine fin2_i (wl_X9_cell cA b m_latest c2 c3 m_houses m_bowls m_dogs m_gone m_sights m_drawn m_bytes m_typed c4) (run_S (rest := []) (pc := 11) (As := [.long (x1.toInt64), .long (0 : Int64), .long (35 : Int64)]) C mf_X9_60 (c_X9_in l D cA  (x1.toInt64) (0 : Int64) (35 : Int64) r5 hq H.size) rfl rfl ⟨(Nat.le_of_ble_eq_true rfl), (Nat.le_of_ble_eq_true rfl)⟩ (preS_of C hP hD [] rfl (pl_nd pv_25)) rfl hl.1 rfl (Nat.le_of_ble_eq_true rfl) dX9_cell_11 ⟨Nat.zero_le _, Nat.zero_le _⟩) hP hD hS hA [] [0, 1, 2, 3] rfl rfl rfl rfl pv_25 (fun H locs hP hS => ?_)
  refine lv_if_ne (pc := 14) (tgt := 22) hx hb dX9_cell_14 (by decide) (fun hc => ?_) (fun hc => ?_)
  · have hf := (if_neg hc).symm.trans hf
    refine lv_iload_n (pc := 22) hx hb dX9_cell_22 rfl (lv_at hl 1 rfl) ?_
    refine lv_aload_n (pc := 23) hx hb dX9_cell_23 rfl (lv_at hl 0 rfl) ?_
    refine g_get (pc := 24) C fg_X9_94 hP 0 rfl rfl dX9_cell_24 ?_
    refine lv_icmp_ge (pc := 27) (tgt := 39) hx hb dX9_cell_27 (by decide) (fun hc => ?_) (fun hc => ?_)
    · have hf := (if_pos hc).symm.trans hf
      refine lv_iconst (pc := 39) (v := (-1)) hx hb dX9_cell_39 ic_m1 ?_
      have hf := Option.some.inj hf
      subst hf
      exact ret_i C hr hlk hP hS dX9_cell_40
    · have hf := (if_neg hc).symm.trans hf
      refine lv_aload_n (pc := 30) hx hb dX9_cell_30 rfl (lv_at hl 0 rfl) ?_
      refine g_get (pc := 31) C fg_X9_28 hP 0 rfl rfl dX9_cell_31 ?_
      refine lv_iload_n (pc := 34) hx hb dX9_cell_34 rfl (lv_at hl 1 rfl) ?_
      obtain ⟨hg, hf⟩ := gd_some hf
      refine g_iald (pc := 35) C hP 3 rfl hg dX9_cell_35 ?_
      refine lv_goto (pc := 36) (tgt := 40) hx hb dX9_cell_36 (by decide) ?_
      have hf := Option.some.inj hf
      subst hf
      exact ret_i C hr hlk hP hS dX9_cell_40
  · have hf := (if_pos hc).symm.trans hf
    refine lv_bipush (pc := 17) (v := (-2)) hx hb dX9_cell_17 bp_m2 ?_
    refine lv_goto (pc := 19) (tgt := 40) hx hb dX9_cell_19 (by decide) ?_
    have hf := Option.some.inj hf
    subst hf
    exact ret_i C hr hlk hP hS dX9_cell_40
set_option maxRecDepth 100000 in
theorem c_X9_cell (l : Launch) (D : va_G) (cA : Nat → ClassId) (b : Nat → Nat) (m_latest : Int32) (m_cells : Int32) (m_wide : Int32) (m_houses : Int32) (m_bowls : Int32) (m_dogs : Int32) (m_gone : Int32) (m_sights : Int32) (m_drawn : Int32) (m_bytes : Nat → Int32) (m_typed : Nat → Int32) (m_cell : Nat → Int32) (x1 : Int32) (r : Int32 × Int32 × Int32 × (Nat → Int32)) (hf : f_X9_cell m_cells m_wide m_bytes m_typed m_cell x1 = some r) (sz : Nat) : Met l yX9_cell (Cond.code yX9_cell cX9_cell 2 (some .int) :: lw_good) rm_X9_cell (PreX D cA [.ref (b 0), .int x1] sz (wl_X9_cell cA b m_latest m_cells m_wide m_houses m_bowls m_dogs m_gone m_sights m_drawn m_bytes m_typed m_cell)) (PostI D r.1 (wl_X9_cell cA b m_latest m_cells m_wide m_houses m_bowls m_dogs m_gone m_sights m_drawn m_bytes m_typed m_cell) (wl_X9_cell cA b m_latest (r.2.1) (r.2.2.1) m_houses m_bowls m_dogs m_gone m_sights m_drawn m_bytes m_typed (r.2.2.2)) sz) 0 0 (va_A (wl_X9_cell cA b m_latest m_cells m_wide m_houses m_bowls m_dogs m_gone m_sights m_drawn m_bytes m_typed m_cell) sz) :=
  met_of (by decide) (Nat.le_of_ble_eq_true rfl) (fun p e s m args below meth c C hr hlk hA => k_X9_cell C hr hlk hA b m_latest m_cells m_wide m_houses m_bowls m_dogs m_gone m_sights m_drawn m_bytes m_typed m_cell x1 r hf)
end

abbrev wl_X9_house (cA : Nat → ClassId) (b : Nat → Nat) (m_latest : Int32) (m_cells : Int32) (m_wide : Int32) (m_houses : Int32) (m_bowls : Int32) (m_dogs : Int32) (m_gone : Int32) (m_sights : Int32) (m_drawn : Int32) (m_bytes : Nat → Int32) (m_typed : Nat → Int32) (m_house : Nat → Int32) : va_W := [((b 0), .inr (9, [.ref (b 1), .ref (b 2), .ref (b 3), .ref (b 4), .int m_latest, .ref (b 5), .ref (b 6), .int m_cells, .int m_wide, .ref (b 7), .int m_houses, .ref (b 8), .ref (b 9), .int m_bowls, .ref (b 10), .int m_dogs, .ref (b 11), .int m_gone, .ref (b 12), .ref (b 13), .ref (b 14), .int m_sights, .ref (b 15), .ref (b 16), .int m_drawn])), ((b 5), .inl (cA 0, 84, .inl m_bytes)), ((b 6), .inl (cA 0, 2, .inl m_typed)), ((b 8), .inl (cA 0, 16, .inl m_house))]
abbrev rm_X9_house : Room := { frames := 2, cells := 0, slots := 0, locals := 51 }
section
variable {p : Program} {l : Launch} {e : Env} {s : State} {m : MethodId} {args : Array Value} {below : List Frame} {meth : Method} {c : Code} {D : va_G} {cA : Nat → ClassId} {ws0 : va_W} {sz : Nat} {A : Nat → Prop} {Q : State → Prop}
def f_X9_house (m_houses : Int32) (m_bytes : Nat → Int32) (m_typed : Nat → Int32) (m_house : Nat → Int32) (x1 : Int32) (x2 : Int32) : Option (Int32 × Int32 × (Nat → Int32)) :=
  bind3 (f_X9_readsHouses m_houses m_bytes m_typed m_house) (fun r1 c2 c3 => bind1 (f_X9_isHouse c2 x1) (fun r4 => if r4 = 0 then (some ((-2 : Int32), c2, c3)) else (bind1 (f_X9_isTwo x2) (fun r5 => if r5 = 0 then (some ((-2 : Int32), c2, c3)) else (gd (inb (((2 : Int32) * x1) + x2) 16) (some ((c3 (((2 : Int32) * x1) + x2).toNatClampNeg), c2, c3)))))))
set_option maxHeartbeats 4000000 in
set_option maxRecDepth 100000 in
theorem k_X9_house (C : Cx RX9 cX9_house 3 D cA p s m args c) (hr : meth.sig.returnType = (some .int)) (hlk : meth.locks = false) (hA : ∀ q, s.heap.size ≤ q → va_A ws0 sz q) (b : Nat → Nat) (m_latest : Int32) (m_cells : Int32) (m_wide : Int32) (m_houses : Int32) (m_bowls : Int32) (m_dogs : Int32) (m_gone : Int32) (m_sights : Int32) (m_drawn : Int32) (m_bytes : Nat → Int32) (m_typed : Nat → Int32) (m_house : Nat → Int32) (x1 : Int32) (x2 : Int32) (r : Int32 × Int32 × (Nat → Int32)) (hf : f_X9_house m_houses m_bytes m_typed m_house x1 x2 = some r) : At p l e rm_X9_house s m args below meth c D (va_A ws0 sz) 0 0 (MQ below (PostI D r.1 ws0 (wl_X9_house cA b m_latest m_cells m_wide (r.2.1) m_bowls m_dogs m_gone m_sights m_drawn m_bytes m_typed (r.2.2)) sz) args s 0 0 (va_A ws0 sz)) 3 0 (wl_X9_house cA b m_latest m_cells m_wide m_houses m_bowls m_dogs m_gone m_sights m_drawn m_bytes m_typed m_house) [(0, .ref (b 0)), (1, .int x1), (2, .int x2)] [] := by
  intro H locs ls hP hD hS hl
  have hx := C.1
  have hb := C.2.1
  have hown := C.2.2.2.1
  have hts := C.2.2.2.2.1
  unfold f_X9_house at hf
  refine lv_aload_n (pc := 0) hx hb dX9_house_0 rfl (lv_at hl 0 rfl) ?_
  obtain ⟨r1, c2, c3, hq, hf⟩ := bind3_some hf
  refine fin2_i (wl_X9_house cA b m_latest m_cells m_wide c2 m_bowls m_dogs m_gone m_sights m_drawn m_bytes m_typed c3) (run_V (rest := []) (pc := 1) (As := []) C mf_X9_119 (c_X9_readsHouses l D cA b m_latest m_cells m_wide m_houses m_bowls m_dogs m_gone m_sights m_drawn m_bytes m_typed m_house (r1, c2, c3) hq H.size) rfl rfl ⟨(Nat.le_of_ble_eq_true rfl), (Nat.le_of_ble_eq_true rfl)⟩ (preV_of C hP hD [0, 1, 2, 3] rfl (pl_nd pv_126) 0 rfl rfl rfl) rfl hl.1 rfl (Nat.le_of_ble_eq_true rfl) dX9_house_1 ⟨Nat.zero_le _, Nat.zero_le _⟩) hP hD hS hA [0, 1, 2, 3] [] rfl rfl rfl rfl pv_126 (fun H locs hP hS => ?_)
  have hD : va_D (va_A ws0 sz) (wl_X9_house cA b m_latest m_cells m_wide c2 m_bowls m_dogs m_gone m_sights m_drawn m_bytes m_typed c3) := vd_a hD rfl
  refine lv_pop (pc := 4) hx hb dX9_house_4 rfl ?_
  refine lv_aload_n (pc := 5) hx hb dX9_house_5 rfl (lv_at hl 0 rfl) ?_
  refine lv_iload_n (pc := 6) hx hb dX9_house_6 rfl (lv_at hl 1 rfl) ?_
  obtain ⟨r4, hq, hf⟩ := bind1_some hf
  refine fin2_i (wl_X9_house cA b m_latest m_cells m_wide c2 m_bowls m_dogs m_gone m_sights m_drawn m_bytes m_typed c3) (run_V (rest := []) (pc := 7) (As := [.int x1]) C mf_X9_126 (c_X9_isHouse l D cA b m_latest m_cells m_wide c2 m_bowls m_dogs m_gone m_sights m_drawn x1 r4 hq H.size) rfl rfl ⟨(Nat.le_of_ble_eq_true rfl), (Nat.le_of_ble_eq_true rfl)⟩ (preV_of C hP hD [0] rfl (pl_nd pv_119) 0 rfl rfl rfl) rfl hl.1 rfl (Nat.le_of_ble_eq_true rfl) dX9_house_7 ⟨Nat.zero_le _, Nat.zero_le _⟩) hP hD hS hA [0] [1, 2, 3] rfl rfl rfl rfl pv_119 (fun H locs hP hS => ?_)
  refine lv_if_eq (pc := 10) (tgt := 33) hx hb dX9_house_10 (by decide) (fun hc => ?_) (fun hc => ?_)
  · have hf := (if_pos hc).symm.trans hf
    refine lv_bipush (pc := 33) (v := (-2)) hx hb dX9_house_33 bp_m2 ?_
    have hf := Option.some.inj hf
    subst hf
    exact ret_i C hr hlk hP hS dX9_house_35
  · have hf := (if_neg hc).symm.trans hf
    refine lv_iload_n (pc := 13) hx hb dX9_house_13 rfl (lv_at hl 2 rfl) ?_
    obtain ⟨r5, hq, hf⟩ := bind1_some hf
    refine fin2_i (wl_X9_house cA b m_latest m_cells m_wide c2 m_bowls m_dogs m_gone m_sights m_drawn m_bytes m_typed c3) (run_S (rest := []) (pc := 14) (As := [.int x2]) C mf_X9_89 (c_X9_isTwo l D cA  x2 r5 hq H.size) rfl rfl ⟨(Nat.le_of_ble_eq_true rfl), (Nat.le_of_ble_eq_true rfl)⟩ (preS_of C hP hD [] rfl (pl_nd pv_25)) rfl hl.1 rfl (Nat.le_of_ble_eq_true rfl) dX9_house_14 ⟨Nat.zero_le _, Nat.zero_le _⟩) hP hD hS hA [] [0, 1, 2, 3] rfl rfl rfl rfl pv_25 (fun H locs hP hS => ?_)
    refine lv_if_eq (pc := 17) (tgt := 33) hx hb dX9_house_17 (by decide) (fun hc => ?_) (fun hc => ?_)
    · have hf := (if_pos hc).symm.trans hf
      refine lv_bipush (pc := 33) (v := (-2)) hx hb dX9_house_33 bp_m2 ?_
      have hf := Option.some.inj hf
      subst hf
      exact ret_i C hr hlk hP hS dX9_house_35
    · have hf := (if_neg hc).symm.trans hf
      refine lv_aload_n (pc := 20) hx hb dX9_house_20 rfl (lv_at hl 0 rfl) ?_
      refine g_get (pc := 21) C fg_X9_31 hP 0 rfl rfl dX9_house_21 ?_
      refine lv_iconst (pc := 24) (v := 2) hx hb dX9_house_24 ic_2 ?_
      refine lv_iload_n (pc := 25) hx hb dX9_house_25 rfl (lv_at hl 1 rfl) ?_
      refine lv_imul (pc := 26) hx hb dX9_house_26 ?_
      refine lv_iload_n (pc := 27) hx hb dX9_house_27 rfl (lv_at hl 2 rfl) ?_
      refine lv_iadd (pc := 28) hx hb dX9_house_28 ?_
      obtain ⟨hg, hf⟩ := gd_some hf
      refine g_iald (pc := 29) C hP 3 rfl hg dX9_house_29 ?_
      refine lv_goto (pc := 30) (tgt := 35) hx hb dX9_house_30 (by decide) ?_
      have hf := Option.some.inj hf
      subst hf
      exact ret_i C hr hlk hP hS dX9_house_35
set_option maxRecDepth 100000 in
theorem c_X9_house (l : Launch) (D : va_G) (cA : Nat → ClassId) (b : Nat → Nat) (m_latest : Int32) (m_cells : Int32) (m_wide : Int32) (m_houses : Int32) (m_bowls : Int32) (m_dogs : Int32) (m_gone : Int32) (m_sights : Int32) (m_drawn : Int32) (m_bytes : Nat → Int32) (m_typed : Nat → Int32) (m_house : Nat → Int32) (x1 : Int32) (x2 : Int32) (r : Int32 × Int32 × (Nat → Int32)) (hf : f_X9_house m_houses m_bytes m_typed m_house x1 x2 = some r) (sz : Nat) : Met l yX9_house (Cond.code yX9_house cX9_house 3 (some .int) :: lw_good) rm_X9_house (PreX D cA [.ref (b 0), .int x1, .int x2] sz (wl_X9_house cA b m_latest m_cells m_wide m_houses m_bowls m_dogs m_gone m_sights m_drawn m_bytes m_typed m_house)) (PostI D r.1 (wl_X9_house cA b m_latest m_cells m_wide m_houses m_bowls m_dogs m_gone m_sights m_drawn m_bytes m_typed m_house) (wl_X9_house cA b m_latest m_cells m_wide (r.2.1) m_bowls m_dogs m_gone m_sights m_drawn m_bytes m_typed (r.2.2)) sz) 0 0 (va_A (wl_X9_house cA b m_latest m_cells m_wide m_houses m_bowls m_dogs m_gone m_sights m_drawn m_bytes m_typed m_house) sz) :=
  met_of (by decide) (Nat.le_of_ble_eq_true rfl) (fun p e s m args below meth c C hr hlk hA => k_X9_house C hr hlk hA b m_latest m_cells m_wide m_houses m_bowls m_dogs m_gone m_sights m_drawn m_bytes m_typed m_house x1 x2 r hf)
end

abbrev wl_X9_set (cA : Nat → ClassId) (b : Nat → Nat) (m_latest : Int32) (m_cells : Int32) (m_wide : Int32) (m_houses : Int32) (m_bowls : Int32) (m_dogs : Int32) (m_gone : Int32) (m_sights : Int32) (m_drawn : Int32) (m_settings : Nat → Int32) : va_W := [((b 0), .inr (9, [.ref (b 1), .ref (b 2), .ref (b 3), .ref (b 4), .int m_latest, .ref (b 5), .ref (b 6), .int m_cells, .int m_wide, .ref (b 7), .int m_houses, .ref (b 8), .ref (b 9), .int m_bowls, .ref (b 10), .int m_dogs, .ref (b 11), .int m_gone, .ref (b 12), .ref (b 13), .ref (b 14), .int m_sights, .ref (b 15), .ref (b 16), .int m_drawn])), ((b 9), .inl (cA 0, 2, .inl m_settings))]
abbrev rm_X9_set : Room := { frames := 2, cells := 0, slots := 0, locals := 45 }
section
variable {p : Program} {l : Launch} {e : Env} {s : State} {m : MethodId} {args : Array Value} {below : List Frame} {meth : Method} {c : Code} {D : va_G} {cA : Nat → ClassId} {ws0 : va_W} {sz : Nat} {A : Nat → Prop} {Q : State → Prop}
def f_X9_set_b23 (m_settings : Nat → Int32) (x1 : Int32) (x2 : Int32) (s0 : Int64) (s1 : Int64) (s2 : Int64) : Option (Int32 × (Nat → Int32)) :=
  bind1 (f_X9_in s2 s1 s0) (fun r2 => if r2 = 0 then (some ((-2 : Int32), m_settings)) else (gd (inb x1 2) (letv ((m_settings x1.toNatClampNeg)) (fun v3 => gd (inb x1 2) (some (v3, (upd m_settings x1.toNatClampNeg x2)))))))
set_option maxHeartbeats 4000000 in
set_option maxRecDepth 100000 in
theorem k_X9_set_b23 (C : Cx RX9 cX9_set 4 D cA p s m args c) (hr : meth.sig.returnType = (some .int)) (hlk : meth.locks = false) (hA : ∀ q, s.heap.size ≤ q → va_A ws0 sz q) (b : Nat → Nat) (m_latest : Int32) (m_cells : Int32) (m_wide : Int32) (m_houses : Int32) (m_bowls : Int32) (m_dogs : Int32) (m_gone : Int32) (m_sights : Int32) (m_drawn : Int32) (m_settings : Nat → Int32) (x1 : Int32) (x2 : Int32) (s0 : Int64) (s1 : Int64) (s2 : Int64) (r : Int32 × (Nat → Int32)) (hf : f_X9_set_b23 m_settings x1 x2 s0 s1 s2 = some r) : At p l e rm_X9_set s m args below meth c D (va_A ws0 sz) 0 0 (MQ below (PostI D r.1 ws0 (wl_X9_set cA b m_latest m_cells m_wide m_houses m_bowls m_dogs m_gone m_sights m_drawn (r.2)) sz) args s 0 0 (va_A ws0 sz)) 4 23 (wl_X9_set cA b m_latest m_cells m_wide m_houses m_bowls m_dogs m_gone m_sights m_drawn m_settings) [(0, .ref (b 0)), (1, .int x1), (2, .int x2)] [.long s0, .long s1, .long s2] := by
  intro H locs ls hP hD hS hl
  have hx := C.1
  have hb := C.2.1
  have hown := C.2.2.2.1
  have hts := C.2.2.2.2.1
  unfold f_X9_set_b23 at hf
  obtain ⟨r2, hq, hf⟩ := bind1_some hf
  refine fin2_i (wl_X9_set cA b m_latest m_cells m_wide m_houses m_bowls m_dogs m_gone m_sights m_drawn m_settings) (run_S (rest := []) (pc := 23) (As := [.long s2, .long s1, .long s0]) C mf_X9_60 (c_X9_in l D cA  s2 s1 s0 r2 hq H.size) rfl rfl ⟨(Nat.le_of_ble_eq_true rfl), (Nat.le_of_ble_eq_true rfl)⟩ (preS_of C hP hD [] rfl (pl_nd pv_0)) rfl hl.1 rfl (Nat.le_of_ble_eq_true rfl) dX9_set_23 ⟨Nat.zero_le _, Nat.zero_le _⟩) hP hD hS hA [] [0, 1] rfl rfl rfl rfl pv_0 (fun H locs hP hS => ?_)
  refine lv_if_ne (pc := 26) (tgt := 32) hx hb dX9_set_26 (by decide) (fun hc => ?_) (fun hc => ?_)
  · have hf := (if_neg hc).symm.trans hf
    refine lv_aload_n (pc := 32) hx hb dX9_set_32 rfl (lv_at hl 0 rfl) ?_
    refine g_get (pc := 33) C fg_X9_34 hP 0 rfl rfl dX9_set_33 ?_
    refine lv_iload_n (pc := 36) hx hb dX9_set_36 rfl (lv_at hl 1 rfl) ?_
    obtain ⟨hg, hf⟩ := gd_some hf
    refine g_iald (pc := 37) C hP 1 rfl hg dX9_set_37 ?_
    obtain ⟨v3, e_v3, hf⟩ := letv_some hf
    refine tp_i e_v3 ?_
    refine lv_istore_n (pc := 38) (lv' := [(3, .int v3), (0, .ref (b 0)), (1, .int x1), (2, .int x2)]) hx hb dX9_set_38 rfl hl (Nat.le_of_ble_eq_true rfl) rfl (fun ls hl => ?_)
    refine lv_aload_n (pc := 39) hx hb dX9_set_39 rfl (lv_at hl 1 rfl) ?_
    refine g_get (pc := 40) C fg_X9_34 hP 0 rfl rfl dX9_set_40 ?_
    refine lv_iload_n (pc := 43) hx hb dX9_set_43 rfl (lv_at hl 2 rfl) ?_
    refine lv_iload_n (pc := 44) hx hb dX9_set_44 rfl (lv_at hl 3 rfl) ?_
    obtain ⟨hg, hf⟩ := gd_some hf
    refine g_iast (pc := 45) C hP hD hS 1 rfl hg dX9_set_45 (fun H locs hP hD hS => ?_)
    have hP : va_P D classes (wl_X9_set cA b m_latest m_cells m_wide m_houses m_bowls m_dogs m_gone m_sights m_drawn (upd m_settings x1.toNatClampNeg x2)) H := hP
    have hD : va_D (va_A ws0 sz) (wl_X9_set cA b m_latest m_cells m_wide m_houses m_bowls m_dogs m_gone m_sights m_drawn (upd m_settings x1.toNatClampNeg x2)) := hD
    refine lv_iload_n (pc := 46) hx hb dX9_set_46 rfl (lv_at hl 0 rfl) ?_
    have hf := Option.some.inj hf
    subst hf
    exact ret_i C hr hlk hP hS dX9_set_47
  · have hf := (if_pos hc).symm.trans hf
    refine lv_bipush (pc := 29) (v := (-2)) hx hb dX9_set_29 bp_m2 ?_
    have hf := Option.some.inj hf
    subst hf
    exact ret_i C hr hlk hP hS dX9_set_31
def f_X9_set (m_settings : Nat → Int32) (x1 : Int32) (x2 : Int32) : Option (Int32 × (Nat → Int32)) :=
  bind1 (f_X9_isTwo x1) (fun r1 => if r1 = 0 then (some ((-2 : Int32), m_settings)) else (if x1 = 0 then (f_X9_set_b23 m_settings x1 x2 (5 : Int64) (0 : Int64) (x2.toInt64)) else (f_X9_set_b23 m_settings x1 x2 (10 : Int64) (0 : Int64) (x2.toInt64))))
set_option maxHeartbeats 4000000 in
set_option maxRecDepth 100000 in
theorem k_X9_set (C : Cx RX9 cX9_set 4 D cA p s m args c) (hr : meth.sig.returnType = (some .int)) (hlk : meth.locks = false) (hA : ∀ q, s.heap.size ≤ q → va_A ws0 sz q) (b : Nat → Nat) (m_latest : Int32) (m_cells : Int32) (m_wide : Int32) (m_houses : Int32) (m_bowls : Int32) (m_dogs : Int32) (m_gone : Int32) (m_sights : Int32) (m_drawn : Int32) (m_settings : Nat → Int32) (x1 : Int32) (x2 : Int32) (r : Int32 × (Nat → Int32)) (hf : f_X9_set m_settings x1 x2 = some r) : At p l e rm_X9_set s m args below meth c D (va_A ws0 sz) 0 0 (MQ below (PostI D r.1 ws0 (wl_X9_set cA b m_latest m_cells m_wide m_houses m_bowls m_dogs m_gone m_sights m_drawn (r.2)) sz) args s 0 0 (va_A ws0 sz)) 4 0 (wl_X9_set cA b m_latest m_cells m_wide m_houses m_bowls m_dogs m_gone m_sights m_drawn m_settings) [(0, .ref (b 0)), (1, .int x1), (2, .int x2)] [] := by
  intro H locs ls hP hD hS hl
  have hx := C.1
  have hb := C.2.1
  have hown := C.2.2.2.1
  have hts := C.2.2.2.2.1
  unfold f_X9_set at hf
  refine lv_iload_n (pc := 0) hx hb dX9_set_0 rfl (lv_at hl 1 rfl) ?_
  obtain ⟨r1, hq, hf⟩ := bind1_some hf
  refine fin2_i (wl_X9_set cA b m_latest m_cells m_wide m_houses m_bowls m_dogs m_gone m_sights m_drawn m_settings) (run_S (rest := []) (pc := 1) (As := [.int x1]) C mf_X9_89 (c_X9_isTwo l D cA  x1 r1 hq H.size) rfl rfl ⟨(Nat.le_of_ble_eq_true rfl), (Nat.le_of_ble_eq_true rfl)⟩ (preS_of C hP hD [] rfl (pl_nd pv_0)) rfl hl.1 rfl (Nat.le_of_ble_eq_true rfl) dX9_set_1 ⟨Nat.zero_le _, Nat.zero_le _⟩) hP hD hS hA [] [0, 1] rfl rfl rfl rfl pv_0 (fun H locs hP hS => ?_)
  refine lv_if_eq (pc := 4) (tgt := 29) hx hb dX9_set_4 (by decide) (fun hc => ?_) (fun hc => ?_)
  · have hf := (if_pos hc).symm.trans hf
    refine lv_bipush (pc := 29) (v := (-2)) hx hb dX9_set_29 bp_m2 ?_
    have hf := Option.some.inj hf
    subst hf
    exact ret_i C hr hlk hP hS dX9_set_31
  · have hf := (if_neg hc).symm.trans hf
    refine lv_iload_n (pc := 7) hx hb dX9_set_7 rfl (lv_at hl 2 rfl) ?_
    refine lv_i2l (pc := 8) hx hb dX9_set_8 rfl ?_
    refine lv_lconst (pc := 9) (v := 0) hx hb dX9_set_9 rfl ?_
    refine lv_iload_n (pc := 10) hx hb dX9_set_10 rfl (lv_at hl 1 rfl) ?_
    refine lv_if_ne (pc := 11) (tgt := 20) hx hb dX9_set_11 (by decide) (fun hc => ?_) (fun hc => ?_)
    · have hf := (if_neg hc).symm.trans hf
      refine lv_ldc2 (pc := 20) hx hb hown (hts _ (lg_in mw_510 rfl)) dX9_set_20 ?_
      exact k_X9_set_b23 C hr hlk hA b m_latest m_cells m_wide m_houses m_bowls m_dogs m_gone m_sights m_drawn m_settings x1 x2 (10 : Int64) (0 : Int64) (x2.toInt64) r hf H locs ls hP hD hS hl
    · have hf := (if_pos hc).symm.trans hf
      refine lv_ldc2 (pc := 14) hx hb hown (hts _ (lg_in mw_509 rfl)) dX9_set_14 ?_
      refine lv_goto (pc := 17) (tgt := 23) hx hb dX9_set_17 (by decide) ?_
      exact k_X9_set_b23 C hr hlk hA b m_latest m_cells m_wide m_houses m_bowls m_dogs m_gone m_sights m_drawn m_settings x1 x2 (5 : Int64) (0 : Int64) (x2.toInt64) r hf H locs ls hP hD hS hl
set_option maxRecDepth 100000 in
theorem c_X9_set (l : Launch) (D : va_G) (cA : Nat → ClassId) (b : Nat → Nat) (m_latest : Int32) (m_cells : Int32) (m_wide : Int32) (m_houses : Int32) (m_bowls : Int32) (m_dogs : Int32) (m_gone : Int32) (m_sights : Int32) (m_drawn : Int32) (m_settings : Nat → Int32) (x1 : Int32) (x2 : Int32) (r : Int32 × (Nat → Int32)) (hf : f_X9_set m_settings x1 x2 = some r) (sz : Nat) : Met l yX9_set (Cond.code yX9_set cX9_set 4 (some .int) :: lw_good) rm_X9_set (PreX D cA [.ref (b 0), .int x1, .int x2] sz (wl_X9_set cA b m_latest m_cells m_wide m_houses m_bowls m_dogs m_gone m_sights m_drawn m_settings)) (PostI D r.1 (wl_X9_set cA b m_latest m_cells m_wide m_houses m_bowls m_dogs m_gone m_sights m_drawn m_settings) (wl_X9_set cA b m_latest m_cells m_wide m_houses m_bowls m_dogs m_gone m_sights m_drawn (r.2)) sz) 0 0 (va_A (wl_X9_set cA b m_latest m_cells m_wide m_houses m_bowls m_dogs m_gone m_sights m_drawn m_settings) sz) :=
  met_of (by decide) (Nat.le_of_ble_eq_true rfl) (fun p e s m args below meth c C hr hlk hA => k_X9_set C hr hlk hA b m_latest m_cells m_wide m_houses m_bowls m_dogs m_gone m_sights m_drawn m_settings x1 x2 r hf)
end

abbrev wl_X9_puts (cA : Nat → ClassId) (b : Nat → Nat) (m_latest : Int32) (m_cells : Int32) (m_wide : Int32) (m_houses : Int32) (m_bowls : Int32) (m_dogs : Int32) (m_gone : Int32) (m_sights : Int32) (m_drawn : Int32) (m_bowl : Nat → Int32) : va_W := [((b 0), .inr (9, [.ref (b 1), .ref (b 2), .ref (b 3), .ref (b 4), .int m_latest, .ref (b 5), .ref (b 6), .int m_cells, .int m_wide, .ref (b 7), .int m_houses, .ref (b 8), .ref (b 9), .int m_bowls, .ref (b 10), .int m_dogs, .ref (b 11), .int m_gone, .ref (b 12), .ref (b 13), .ref (b 14), .int m_sights, .ref (b 15), .ref (b 16), .int m_drawn])), ((b 10), .inl (cA 0, 20, .inl m_bowl))]
abbrev rm_X9_puts : Room := { frames := 0, cells := 0, slots := 0, locals := 0 }
section
variable {p : Program} {l : Launch} {e : Env} {s : State} {m : MethodId} {args : Array Value} {below : List Frame} {meth : Method} {c : Code} {D : va_G} {cA : Nat → ClassId} {ws0 : va_W} {sz : Nat} {A : Nat → Prop} {Q : State → Prop}
def f_X9_puts (m_bowls : Int32) (m_bowl : Nat → Int32) (x1 : Int32) (x2 : Int32) : Option (Int32 × (Nat → Int32)) :=
  gd (inb ((2 : Int32) * m_bowls) 20) (gd (inb (((2 : Int32) * m_bowls) + (1 : Int32)) 20) (letv ((m_bowls + (1 : Int32))) (fun v1 => some (v1, (upd (upd m_bowl ((2 : Int32) * m_bowls).toNatClampNeg x1) (((2 : Int32) * m_bowls) + (1 : Int32)).toNatClampNeg x2)))))
set_option maxHeartbeats 4000000 in
set_option maxRecDepth 100000 in
theorem k_X9_puts (C : Cx RX9 cX9_puts 3 D cA p s m args c) (hr : meth.sig.returnType = none) (hlk : meth.locks = false) (hA : ∀ q, s.heap.size ≤ q → va_A ws0 sz q) (b : Nat → Nat) (m_latest : Int32) (m_cells : Int32) (m_wide : Int32) (m_houses : Int32) (m_bowls : Int32) (m_dogs : Int32) (m_gone : Int32) (m_sights : Int32) (m_drawn : Int32) (m_bowl : Nat → Int32) (x1 : Int32) (x2 : Int32) (r : Int32 × (Nat → Int32)) (hf : f_X9_puts m_bowls m_bowl x1 x2 = some r) : At p l e rm_X9_puts s m args below meth c D (va_A ws0 sz) 0 0 (MQ below (PostV D ws0 (wl_X9_puts cA b m_latest m_cells m_wide m_houses (r.1) m_dogs m_gone m_sights m_drawn (r.2)) sz) args s 0 0 (va_A ws0 sz)) 3 0 (wl_X9_puts cA b m_latest m_cells m_wide m_houses m_bowls m_dogs m_gone m_sights m_drawn m_bowl) [(0, .ref (b 0)), (1, .int x1), (2, .int x2)] [] := by
  intro H locs ls hP hD hS hl
  have hx := C.1
  have hb := C.2.1
  have hown := C.2.2.2.1
  have hts := C.2.2.2.2.1
  unfold f_X9_puts at hf
  refine lv_aload_n (pc := 0) hx hb dX9_puts_0 rfl (lv_at hl 0 rfl) ?_
  refine g_get (pc := 1) C fg_X9_37 hP 0 rfl rfl dX9_puts_1 ?_
  refine lv_iconst (pc := 4) (v := 2) hx hb dX9_puts_4 ic_2 ?_
  refine lv_aload_n (pc := 5) hx hb dX9_puts_5 rfl (lv_at hl 0 rfl) ?_
  refine g_get (pc := 6) C fg_X9_133 hP 0 rfl rfl dX9_puts_6 ?_
  refine lv_imul (pc := 9) hx hb dX9_puts_9 ?_
  refine lv_iload_n (pc := 10) hx hb dX9_puts_10 rfl (lv_at hl 1 rfl) ?_
  obtain ⟨hg, hf⟩ := gd_some hf
  refine g_iast (pc := 11) C hP hD hS 1 rfl hg dX9_puts_11 (fun H locs hP hD hS => ?_)
  have hP : va_P D classes (wl_X9_puts cA b m_latest m_cells m_wide m_houses m_bowls m_dogs m_gone m_sights m_drawn (upd m_bowl ((2 : Int32) * m_bowls).toNatClampNeg x1)) H := hP
  have hD : va_D (va_A ws0 sz) (wl_X9_puts cA b m_latest m_cells m_wide m_houses m_bowls m_dogs m_gone m_sights m_drawn (upd m_bowl ((2 : Int32) * m_bowls).toNatClampNeg x1)) := hD
  refine lv_aload_n (pc := 12) hx hb dX9_puts_12 rfl (lv_at hl 0 rfl) ?_
  refine g_get (pc := 13) C fg_X9_37 hP 0 rfl rfl dX9_puts_13 ?_
  refine lv_iconst (pc := 16) (v := 2) hx hb dX9_puts_16 ic_2 ?_
  refine lv_aload_n (pc := 17) hx hb dX9_puts_17 rfl (lv_at hl 0 rfl) ?_
  refine g_get (pc := 18) C fg_X9_133 hP 0 rfl rfl dX9_puts_18 ?_
  refine lv_imul (pc := 21) hx hb dX9_puts_21 ?_
  refine lv_iconst (pc := 22) (v := 1) hx hb dX9_puts_22 ic_1 ?_
  refine lv_iadd (pc := 23) hx hb dX9_puts_23 ?_
  refine lv_iload_n (pc := 24) hx hb dX9_puts_24 rfl (lv_at hl 2 rfl) ?_
  obtain ⟨hg, hf⟩ := gd_some hf
  refine g_iast (pc := 25) C hP hD hS 1 rfl hg dX9_puts_25 (fun H locs hP hD hS => ?_)
  have hP : va_P D classes (wl_X9_puts cA b m_latest m_cells m_wide m_houses m_bowls m_dogs m_gone m_sights m_drawn (upd (upd m_bowl ((2 : Int32) * m_bowls).toNatClampNeg x1) (((2 : Int32) * m_bowls) + (1 : Int32)).toNatClampNeg x2)) H := hP
  have hD : va_D (va_A ws0 sz) (wl_X9_puts cA b m_latest m_cells m_wide m_houses m_bowls m_dogs m_gone m_sights m_drawn (upd (upd m_bowl ((2 : Int32) * m_bowls).toNatClampNeg x1) (((2 : Int32) * m_bowls) + (1 : Int32)).toNatClampNeg x2)) := hD
  refine lv_aload_n (pc := 26) hx hb dX9_puts_26 rfl (lv_at hl 0 rfl) ?_
  refine lv_dup (pc := 27) hx hb dX9_puts_27 rfl ?_
  refine g_get (pc := 28) C fg_X9_133 hP 0 rfl rfl dX9_puts_28 ?_
  refine lv_iconst (pc := 31) (v := 1) hx hb dX9_puts_31 ic_1 ?_
  refine lv_iadd (pc := 32) hx hb dX9_puts_32 ?_
  obtain ⟨v1, e_v1, hf⟩ := letv_some hf
  refine tp_i e_v1 ?_
  refine g_put (pc := 33) C fg_X9_133 ft_X9_13 hP hD hS 0 rfl rfl rfl (Nat.le_of_ble_eq_true rfl) dX9_puts_33 (fun H locs hP hD hS => ?_)
  have hP : va_P D classes (wl_X9_puts cA b m_latest m_cells m_wide m_houses v1 m_dogs m_gone m_sights m_drawn (upd (upd m_bowl ((2 : Int32) * m_bowls).toNatClampNeg x1) (((2 : Int32) * m_bowls) + (1 : Int32)).toNatClampNeg x2)) H := hP
  have hD : va_D (va_A ws0 sz) (wl_X9_puts cA b m_latest m_cells m_wide m_houses v1 m_dogs m_gone m_sights m_drawn (upd (upd m_bowl ((2 : Int32) * m_bowls).toNatClampNeg x1) (((2 : Int32) * m_bowls) + (1 : Int32)).toNatClampNeg x2)) := hD
  have hf := Option.some.inj hf
  subst hf
  exact ret_v C hr hlk hP hS dX9_puts_36
set_option maxRecDepth 100000 in
theorem c_X9_puts (l : Launch) (D : va_G) (cA : Nat → ClassId) (b : Nat → Nat) (m_latest : Int32) (m_cells : Int32) (m_wide : Int32) (m_houses : Int32) (m_bowls : Int32) (m_dogs : Int32) (m_gone : Int32) (m_sights : Int32) (m_drawn : Int32) (m_bowl : Nat → Int32) (x1 : Int32) (x2 : Int32) (r : Int32 × (Nat → Int32)) (hf : f_X9_puts m_bowls m_bowl x1 x2 = some r) (sz : Nat) : Met l yX9_puts (Cond.code yX9_puts cX9_puts 3 none :: lw_good) rm_X9_puts (PreX D cA [.ref (b 0), .int x1, .int x2] sz (wl_X9_puts cA b m_latest m_cells m_wide m_houses m_bowls m_dogs m_gone m_sights m_drawn m_bowl)) (PostV D (wl_X9_puts cA b m_latest m_cells m_wide m_houses m_bowls m_dogs m_gone m_sights m_drawn m_bowl) (wl_X9_puts cA b m_latest m_cells m_wide m_houses (r.1) m_dogs m_gone m_sights m_drawn (r.2)) sz) 0 0 (va_A (wl_X9_puts cA b m_latest m_cells m_wide m_houses m_bowls m_dogs m_gone m_sights m_drawn m_bowl) sz) :=
  met_of (by decide) (Nat.le_of_ble_eq_true rfl) (fun p e s m args below meth c C hr hlk hA => k_X9_puts C hr hlk hA b m_latest m_cells m_wide m_houses m_bowls m_dogs m_gone m_sights m_drawn m_bowl x1 x2 r hf)
end

abbrev wl_X9_bowl (cA : Nat → ClassId) (b : Nat → Nat) (m_latest : Int32) (m_cells : Int32) (m_wide : Int32) (m_houses : Int32) (m_bowls : Int32) (m_dogs : Int32) (m_gone : Int32) (m_sights : Int32) (m_drawn : Int32) (m_bowl : Nat → Int32) : va_W := [((b 0), .inr (9, [.ref (b 1), .ref (b 2), .ref (b 3), .ref (b 4), .int m_latest, .ref (b 5), .ref (b 6), .int m_cells, .int m_wide, .ref (b 7), .int m_houses, .ref (b 8), .ref (b 9), .int m_bowls, .ref (b 10), .int m_dogs, .ref (b 11), .int m_gone, .ref (b 12), .ref (b 13), .ref (b 14), .int m_sights, .ref (b 15), .ref (b 16), .int m_drawn])), ((b 10), .inl (cA 0, 20, .inl m_bowl))]
abbrev rm_X9_bowl : Room := { frames := 2, cells := 0, slots := 0, locals := 45 }
section
variable {p : Program} {l : Launch} {e : Env} {s : State} {m : MethodId} {args : Array Value} {below : List Frame} {meth : Method} {c : Code} {D : va_G} {cA : Nat → ClassId} {ws0 : va_W} {sz : Nat} {A : Nat → Prop} {Q : State → Prop}
def f_X9_bowl (m_bowls : Int32) (m_bowl : Nat → Int32) (x1 : Int32) (x2 : Int32) : Option (Int32 × Int32 × (Nat → Int32)) :=
  bind1 (f_X9_isNight x1) (fun r1 => if r1 = 0 then (some ((-2 : Int32), m_bowls, m_bowl)) else (bind1 (f_X9_in (x2.toInt64) (0 : Int64) (35 : Int64)) (fun r2 => if r2 = 0 then (some ((-2 : Int32), m_bowls, m_bowl)) else (if m_bowls = (8 : Int32) then (some ((-4 : Int32), m_bowls, m_bowl)) else (bind2 (f_X9_puts m_bowls m_bowl x1 x2) (fun c3 c4 => some (c3, c3, c4)))))))
set_option maxHeartbeats 4000000 in
set_option maxRecDepth 100000 in
theorem k_X9_bowl (C : Cx RX9 cX9_bowl 3 D cA p s m args c) (hr : meth.sig.returnType = (some .int)) (hlk : meth.locks = false) (hA : ∀ q, s.heap.size ≤ q → va_A ws0 sz q) (b : Nat → Nat) (m_latest : Int32) (m_cells : Int32) (m_wide : Int32) (m_houses : Int32) (m_bowls : Int32) (m_dogs : Int32) (m_gone : Int32) (m_sights : Int32) (m_drawn : Int32) (m_bowl : Nat → Int32) (x1 : Int32) (x2 : Int32) (r : Int32 × Int32 × (Nat → Int32)) (hf : f_X9_bowl m_bowls m_bowl x1 x2 = some r) : At p l e rm_X9_bowl s m args below meth c D (va_A ws0 sz) 0 0 (MQ below (PostI D r.1 ws0 (wl_X9_bowl cA b m_latest m_cells m_wide m_houses (r.2.1) m_dogs m_gone m_sights m_drawn (r.2.2)) sz) args s 0 0 (va_A ws0 sz)) 3 0 (wl_X9_bowl cA b m_latest m_cells m_wide m_houses m_bowls m_dogs m_gone m_sights m_drawn m_bowl) [(0, .ref (b 0)), (1, .int x1), (2, .int x2)] [] := by
  intro H locs ls hP hD hS hl
  have hx := C.1
  have hb := C.2.1
  have hown := C.2.2.2.1
  have hts := C.2.2.2.2.1
  unfold f_X9_bowl at hf
  refine lv_iload_n (pc := 0) hx hb dX9_bowl_0 rfl (lv_at hl 1 rfl) ?_
  obtain ⟨r1, hq, hf⟩ := bind1_some hf
  refine fin2_i (wl_X9_bowl cA b m_latest m_cells m_wide m_houses m_bowls m_dogs m_gone m_sights m_drawn m_bowl) (run_S (rest := []) (pc := 1) (As := [.int x1]) C mf_X9_136 (c_X9_isNight l D cA  x1 r1 hq H.size) rfl rfl ⟨(Nat.le_of_ble_eq_true rfl), (Nat.le_of_ble_eq_true rfl)⟩ (preS_of C hP hD [] rfl (pl_nd pv_0)) rfl hl.1 rfl (Nat.le_of_ble_eq_true rfl) dX9_bowl_1 ⟨Nat.zero_le _, Nat.zero_le _⟩) hP hD hS hA [] [0, 1] rfl rfl rfl rfl pv_0 (fun H locs hP hS => ?_)
  refine lv_if_eq (pc := 4) (tgt := 19) hx hb dX9_bowl_4 (by decide) (fun hc => ?_) (fun hc => ?_)
  · have hf := (if_pos hc).symm.trans hf
    refine lv_bipush (pc := 19) (v := (-2)) hx hb dX9_bowl_19 bp_m2 ?_
    have hf := Option.some.inj hf
    subst hf
    exact ret_i C hr hlk hP hS dX9_bowl_21
  · have hf := (if_neg hc).symm.trans hf
    refine lv_iload_n (pc := 7) hx hb dX9_bowl_7 rfl (lv_at hl 2 rfl) ?_
    refine lv_i2l (pc := 8) hx hb dX9_bowl_8 rfl ?_
    refine lv_lconst (pc := 9) (v := 0) hx hb dX9_bowl_9 rfl ?_
    refine lv_ldc2 (pc := 10) hx hb hown (hts _ (lg_in mw_504 rfl)) dX9_bowl_10 ?_
    obtain ⟨r2, hq, hf⟩ := bind1_some hf
    refine fin2_i (wl_X9_bowl cA b m_latest m_cells m_wide m_houses m_bowls m_dogs m_gone m_sights m_drawn m_bowl) (run_S (rest := []) (pc := 13) (As := [.long (x2.toInt64), .long (0 : Int64), .long (35 : Int64)]) C mf_X9_60 (c_X9_in l D cA  (x2.toInt64) (0 : Int64) (35 : Int64) r2 hq H.size) rfl rfl ⟨(Nat.le_of_ble_eq_true rfl), (Nat.le_of_ble_eq_true rfl)⟩ (preS_of C hP hD [] rfl (pl_nd pv_0)) rfl hl.1 rfl (Nat.le_of_ble_eq_true rfl) dX9_bowl_13 ⟨Nat.zero_le _, Nat.zero_le _⟩) hP hD hS hA [] [0, 1] rfl rfl rfl rfl pv_0 (fun H locs hP hS => ?_)
    refine lv_if_ne (pc := 16) (tgt := 22) hx hb dX9_bowl_16 (by decide) (fun hc => ?_) (fun hc => ?_)
    · have hf := (if_neg hc).symm.trans hf
      refine lv_aload_n (pc := 22) hx hb dX9_bowl_22 rfl (lv_at hl 0 rfl) ?_
      refine g_get (pc := 23) C fg_X9_133 hP 0 rfl rfl dX9_bowl_23 ?_
      refine lv_bipush (pc := 26) (v := 8) hx hb dX9_bowl_26 bp_8 ?_
      refine lv_icmp_ne (pc := 28) (tgt := 34) hx hb dX9_bowl_28 (by decide) (fun hc => ?_) (fun hc => ?_)
      · have hf := (if_neg hc).symm.trans hf
        refine lv_aload_n (pc := 34) hx hb dX9_bowl_34 rfl (lv_at hl 0 rfl) ?_
        refine lv_iload_n (pc := 35) hx hb dX9_bowl_35 rfl (lv_at hl 1 rfl) ?_
        refine lv_iload_n (pc := 36) hx hb dX9_bowl_36 rfl (lv_at hl 2 rfl) ?_
        obtain ⟨c3, c4, hq, hf⟩ := bind2_some hf
        refine fin2_v (wl_X9_bowl cA b m_latest m_cells m_wide m_houses c3 m_dogs m_gone m_sights m_drawn c4) (run_V (rest := []) (pc := 37) (As := [.int x1, .int x2]) C mf_X9_139 (c_X9_puts l D cA b m_latest m_cells m_wide m_houses m_bowls m_dogs m_gone m_sights m_drawn m_bowl x1 x2 (c3, c4) hq H.size) rfl rfl ⟨(Nat.le_of_ble_eq_true rfl), (Nat.le_of_ble_eq_true rfl)⟩ (preV_of C hP hD [0, 1] rfl (pl_nd pv_44) 0 rfl rfl rfl) rfl hl.1 rfl (Nat.le_of_ble_eq_true rfl) dX9_bowl_37 ⟨Nat.zero_le _, Nat.zero_le _⟩) hP hD hS hA [0, 1] [] rfl rfl rfl rfl pv_44 (fun H locs hP hS => ?_)
        have hD : va_D (va_A ws0 sz) (wl_X9_bowl cA b m_latest m_cells m_wide m_houses c3 m_dogs m_gone m_sights m_drawn c4) := vd_a hD rfl
        refine lv_aload_n (pc := 40) hx hb dX9_bowl_40 rfl (lv_at hl 0 rfl) ?_
        refine g_get (pc := 41) C fg_X9_133 hP 0 rfl rfl dX9_bowl_41 ?_
        have hf := Option.some.inj hf
        subst hf
        exact ret_i C hr hlk hP hS dX9_bowl_44
      · have hf := (if_pos hc).symm.trans hf
        refine lv_bipush (pc := 31) (v := (-4)) hx hb dX9_bowl_31 bp_m4 ?_
        have hf := Option.some.inj hf
        subst hf
        exact ret_i C hr hlk hP hS dX9_bowl_33
    · have hf := (if_pos hc).symm.trans hf
      refine lv_bipush (pc := 19) (v := (-2)) hx hb dX9_bowl_19 bp_m2 ?_
      have hf := Option.some.inj hf
      subst hf
      exact ret_i C hr hlk hP hS dX9_bowl_21
set_option maxRecDepth 100000 in
theorem c_X9_bowl (l : Launch) (D : va_G) (cA : Nat → ClassId) (b : Nat → Nat) (m_latest : Int32) (m_cells : Int32) (m_wide : Int32) (m_houses : Int32) (m_bowls : Int32) (m_dogs : Int32) (m_gone : Int32) (m_sights : Int32) (m_drawn : Int32) (m_bowl : Nat → Int32) (x1 : Int32) (x2 : Int32) (r : Int32 × Int32 × (Nat → Int32)) (hf : f_X9_bowl m_bowls m_bowl x1 x2 = some r) (sz : Nat) : Met l yX9_bowl (Cond.code yX9_bowl cX9_bowl 3 (some .int) :: lw_good) rm_X9_bowl (PreX D cA [.ref (b 0), .int x1, .int x2] sz (wl_X9_bowl cA b m_latest m_cells m_wide m_houses m_bowls m_dogs m_gone m_sights m_drawn m_bowl)) (PostI D r.1 (wl_X9_bowl cA b m_latest m_cells m_wide m_houses m_bowls m_dogs m_gone m_sights m_drawn m_bowl) (wl_X9_bowl cA b m_latest m_cells m_wide m_houses (r.2.1) m_dogs m_gone m_sights m_drawn (r.2.2)) sz) 0 0 (va_A (wl_X9_bowl cA b m_latest m_cells m_wide m_houses m_bowls m_dogs m_gone m_sights m_drawn m_bowl) sz) :=
  met_of (by decide) (Nat.le_of_ble_eq_true rfl) (fun p e s m args below meth c C hr hlk hA => k_X9_bowl C hr hlk hA b m_latest m_cells m_wide m_houses m_bowls m_dogs m_gone m_sights m_drawn m_bowl x1 x2 r hf)
end

abbrev wl_X9_dog (cA : Nat → ClassId) (b : Nat → Nat) (m_latest : Int32) (m_cells : Int32) (m_wide : Int32) (m_houses : Int32) (m_bowls : Int32) (m_dogs : Int32) (m_gone : Int32) (m_sights : Int32) (m_drawn : Int32) (m_dog : Nat → Int32) : va_W := [((b 0), .inr (9, [.ref (b 1), .ref (b 2), .ref (b 3), .ref (b 4), .int m_latest, .ref (b 5), .ref (b 6), .int m_cells, .int m_wide, .ref (b 7), .int m_houses, .ref (b 8), .ref (b 9), .int m_bowls, .ref (b 10), .int m_dogs, .ref (b 11), .int m_gone, .ref (b 12), .ref (b 13), .ref (b 14), .int m_sights, .ref (b 15), .ref (b 16), .int m_drawn])), ((b 11), .inl (cA 0, 16, .inl m_dog))]
abbrev rm_X9_dog : Room := { frames := 2, cells := 0, slots := 0, locals := 45 }
section
variable {p : Program} {l : Launch} {e : Env} {s : State} {m : MethodId} {args : Array Value} {below : List Frame} {meth : Method} {c : Code} {D : va_G} {cA : Nat → ClassId} {ws0 : va_W} {sz : Nat} {A : Nat → Prop} {Q : State → Prop}
def f_X9_dog (m_dogs : Int32) (m_dog : Nat → Int32) (x1 : Int32) (x2 : Int32) : Option (Int32 × Int32 × (Nat → Int32)) :=
  bind1 (f_X9_isNight x1) (fun r1 => if r1 = 0 then (some ((-2 : Int32), m_dogs, m_dog)) else (bind1 (f_X9_in (x2.toInt64) (0 : Int64) (35 : Int64)) (fun r2 => if r2 = 0 then (some ((-2 : Int32), m_dogs, m_dog)) else (if m_dogs = (8 : Int32) then (some ((-4 : Int32), m_dogs, m_dog)) else (gd (inb ((2 : Int32) * m_dogs) 16) (gd (inb (((2 : Int32) * m_dogs) + (1 : Int32)) 16) (letv ((m_dogs + (1 : Int32))) (fun v3 => some (v3, v3, (upd (upd m_dog ((2 : Int32) * m_dogs).toNatClampNeg x1) (((2 : Int32) * m_dogs) + (1 : Int32)).toNatClampNeg x2))))))))))
set_option maxHeartbeats 4000000 in
set_option maxRecDepth 100000 in
theorem k_X9_dog (C : Cx RX9 cX9_dog 3 D cA p s m args c) (hr : meth.sig.returnType = (some .int)) (hlk : meth.locks = false) (hA : ∀ q, s.heap.size ≤ q → va_A ws0 sz q) (b : Nat → Nat) (m_latest : Int32) (m_cells : Int32) (m_wide : Int32) (m_houses : Int32) (m_bowls : Int32) (m_dogs : Int32) (m_gone : Int32) (m_sights : Int32) (m_drawn : Int32) (m_dog : Nat → Int32) (x1 : Int32) (x2 : Int32) (r : Int32 × Int32 × (Nat → Int32)) (hf : f_X9_dog m_dogs m_dog x1 x2 = some r) : At p l e rm_X9_dog s m args below meth c D (va_A ws0 sz) 0 0 (MQ below (PostI D r.1 ws0 (wl_X9_dog cA b m_latest m_cells m_wide m_houses m_bowls (r.2.1) m_gone m_sights m_drawn (r.2.2)) sz) args s 0 0 (va_A ws0 sz)) 3 0 (wl_X9_dog cA b m_latest m_cells m_wide m_houses m_bowls m_dogs m_gone m_sights m_drawn m_dog) [(0, .ref (b 0)), (1, .int x1), (2, .int x2)] [] := by
  intro H locs ls hP hD hS hl
  have hx := C.1
  have hb := C.2.1
  have hown := C.2.2.2.1
  have hts := C.2.2.2.2.1
  unfold f_X9_dog at hf
  refine lv_iload_n (pc := 0) hx hb dX9_dog_0 rfl (lv_at hl 1 rfl) ?_
  obtain ⟨r1, hq, hf⟩ := bind1_some hf
  refine fin2_i (wl_X9_dog cA b m_latest m_cells m_wide m_houses m_bowls m_dogs m_gone m_sights m_drawn m_dog) (run_S (rest := []) (pc := 1) (As := [.int x1]) C mf_X9_136 (c_X9_isNight l D cA  x1 r1 hq H.size) rfl rfl ⟨(Nat.le_of_ble_eq_true rfl), (Nat.le_of_ble_eq_true rfl)⟩ (preS_of C hP hD [] rfl (pl_nd pv_0)) rfl hl.1 rfl (Nat.le_of_ble_eq_true rfl) dX9_dog_1 ⟨Nat.zero_le _, Nat.zero_le _⟩) hP hD hS hA [] [0, 1] rfl rfl rfl rfl pv_0 (fun H locs hP hS => ?_)
  refine lv_if_eq (pc := 4) (tgt := 19) hx hb dX9_dog_4 (by decide) (fun hc => ?_) (fun hc => ?_)
  · have hf := (if_pos hc).symm.trans hf
    refine lv_bipush (pc := 19) (v := (-2)) hx hb dX9_dog_19 bp_m2 ?_
    have hf := Option.some.inj hf
    subst hf
    exact ret_i C hr hlk hP hS dX9_dog_21
  · have hf := (if_neg hc).symm.trans hf
    refine lv_iload_n (pc := 7) hx hb dX9_dog_7 rfl (lv_at hl 2 rfl) ?_
    refine lv_i2l (pc := 8) hx hb dX9_dog_8 rfl ?_
    refine lv_lconst (pc := 9) (v := 0) hx hb dX9_dog_9 rfl ?_
    refine lv_ldc2 (pc := 10) hx hb hown (hts _ (lg_in mw_504 rfl)) dX9_dog_10 ?_
    obtain ⟨r2, hq, hf⟩ := bind1_some hf
    refine fin2_i (wl_X9_dog cA b m_latest m_cells m_wide m_houses m_bowls m_dogs m_gone m_sights m_drawn m_dog) (run_S (rest := []) (pc := 13) (As := [.long (x2.toInt64), .long (0 : Int64), .long (35 : Int64)]) C mf_X9_60 (c_X9_in l D cA  (x2.toInt64) (0 : Int64) (35 : Int64) r2 hq H.size) rfl rfl ⟨(Nat.le_of_ble_eq_true rfl), (Nat.le_of_ble_eq_true rfl)⟩ (preS_of C hP hD [] rfl (pl_nd pv_0)) rfl hl.1 rfl (Nat.le_of_ble_eq_true rfl) dX9_dog_13 ⟨Nat.zero_le _, Nat.zero_le _⟩) hP hD hS hA [] [0, 1] rfl rfl rfl rfl pv_0 (fun H locs hP hS => ?_)
    refine lv_if_ne (pc := 16) (tgt := 22) hx hb dX9_dog_16 (by decide) (fun hc => ?_) (fun hc => ?_)
    · have hf := (if_neg hc).symm.trans hf
      refine lv_aload_n (pc := 22) hx hb dX9_dog_22 rfl (lv_at hl 0 rfl) ?_
      refine g_get (pc := 23) C fg_X9_143 hP 0 rfl rfl dX9_dog_23 ?_
      refine lv_bipush (pc := 26) (v := 8) hx hb dX9_dog_26 bp_8 ?_
      refine lv_icmp_ne (pc := 28) (tgt := 34) hx hb dX9_dog_28 (by decide) (fun hc => ?_) (fun hc => ?_)
      · have hf := (if_neg hc).symm.trans hf
        refine lv_aload_n (pc := 34) hx hb dX9_dog_34 rfl (lv_at hl 0 rfl) ?_
        refine g_get (pc := 35) C fg_X9_40 hP 0 rfl rfl dX9_dog_35 ?_
        refine lv_iconst (pc := 38) (v := 2) hx hb dX9_dog_38 ic_2 ?_
        refine lv_aload_n (pc := 39) hx hb dX9_dog_39 rfl (lv_at hl 0 rfl) ?_
        refine g_get (pc := 40) C fg_X9_143 hP 0 rfl rfl dX9_dog_40 ?_
        refine lv_imul (pc := 43) hx hb dX9_dog_43 ?_
        refine lv_iload_n (pc := 44) hx hb dX9_dog_44 rfl (lv_at hl 1 rfl) ?_
        obtain ⟨hg, hf⟩ := gd_some hf
        refine g_iast (pc := 45) C hP hD hS 1 rfl hg dX9_dog_45 (fun H locs hP hD hS => ?_)
        have hP : va_P D classes (wl_X9_dog cA b m_latest m_cells m_wide m_houses m_bowls m_dogs m_gone m_sights m_drawn (upd m_dog ((2 : Int32) * m_dogs).toNatClampNeg x1)) H := hP
        have hD : va_D (va_A ws0 sz) (wl_X9_dog cA b m_latest m_cells m_wide m_houses m_bowls m_dogs m_gone m_sights m_drawn (upd m_dog ((2 : Int32) * m_dogs).toNatClampNeg x1)) := hD
        refine lv_aload_n (pc := 46) hx hb dX9_dog_46 rfl (lv_at hl 0 rfl) ?_
        refine g_get (pc := 47) C fg_X9_40 hP 0 rfl rfl dX9_dog_47 ?_
        refine lv_iconst (pc := 50) (v := 2) hx hb dX9_dog_50 ic_2 ?_
        refine lv_aload_n (pc := 51) hx hb dX9_dog_51 rfl (lv_at hl 0 rfl) ?_
        refine g_get (pc := 52) C fg_X9_143 hP 0 rfl rfl dX9_dog_52 ?_
        refine lv_imul (pc := 55) hx hb dX9_dog_55 ?_
        refine lv_iconst (pc := 56) (v := 1) hx hb dX9_dog_56 ic_1 ?_
        refine lv_iadd (pc := 57) hx hb dX9_dog_57 ?_
        refine lv_iload_n (pc := 58) hx hb dX9_dog_58 rfl (lv_at hl 2 rfl) ?_
        obtain ⟨hg, hf⟩ := gd_some hf
        refine g_iast (pc := 59) C hP hD hS 1 rfl hg dX9_dog_59 (fun H locs hP hD hS => ?_)
        have hP : va_P D classes (wl_X9_dog cA b m_latest m_cells m_wide m_houses m_bowls m_dogs m_gone m_sights m_drawn (upd (upd m_dog ((2 : Int32) * m_dogs).toNatClampNeg x1) (((2 : Int32) * m_dogs) + (1 : Int32)).toNatClampNeg x2)) H := hP
        have hD : va_D (va_A ws0 sz) (wl_X9_dog cA b m_latest m_cells m_wide m_houses m_bowls m_dogs m_gone m_sights m_drawn (upd (upd m_dog ((2 : Int32) * m_dogs).toNatClampNeg x1) (((2 : Int32) * m_dogs) + (1 : Int32)).toNatClampNeg x2)) := hD
        refine lv_aload_n (pc := 60) hx hb dX9_dog_60 rfl (lv_at hl 0 rfl) ?_
        refine lv_dup (pc := 61) hx hb dX9_dog_61 rfl ?_
        refine g_get (pc := 62) C fg_X9_143 hP 0 rfl rfl dX9_dog_62 ?_
        refine lv_iconst (pc := 65) (v := 1) hx hb dX9_dog_65 ic_1 ?_
        refine lv_iadd (pc := 66) hx hb dX9_dog_66 ?_
        obtain ⟨v3, e_v3, hf⟩ := letv_some hf
        refine tp_i e_v3 ?_
        refine g_put (pc := 67) C fg_X9_143 ft_X9_15 hP hD hS 0 rfl rfl rfl (Nat.le_of_ble_eq_true rfl) dX9_dog_67 (fun H locs hP hD hS => ?_)
        have hP : va_P D classes (wl_X9_dog cA b m_latest m_cells m_wide m_houses m_bowls v3 m_gone m_sights m_drawn (upd (upd m_dog ((2 : Int32) * m_dogs).toNatClampNeg x1) (((2 : Int32) * m_dogs) + (1 : Int32)).toNatClampNeg x2)) H := hP
        have hD : va_D (va_A ws0 sz) (wl_X9_dog cA b m_latest m_cells m_wide m_houses m_bowls v3 m_gone m_sights m_drawn (upd (upd m_dog ((2 : Int32) * m_dogs).toNatClampNeg x1) (((2 : Int32) * m_dogs) + (1 : Int32)).toNatClampNeg x2)) := hD
        refine lv_aload_n (pc := 70) hx hb dX9_dog_70 rfl (lv_at hl 0 rfl) ?_
        refine g_get (pc := 71) C fg_X9_143 hP 0 rfl rfl dX9_dog_71 ?_
        have hf := Option.some.inj hf
        subst hf
        exact ret_i C hr hlk hP hS dX9_dog_74
      · have hf := (if_pos hc).symm.trans hf
        refine lv_bipush (pc := 31) (v := (-4)) hx hb dX9_dog_31 bp_m4 ?_
        have hf := Option.some.inj hf
        subst hf
        exact ret_i C hr hlk hP hS dX9_dog_33
    · have hf := (if_pos hc).symm.trans hf
      refine lv_bipush (pc := 19) (v := (-2)) hx hb dX9_dog_19 bp_m2 ?_
      have hf := Option.some.inj hf
      subst hf
      exact ret_i C hr hlk hP hS dX9_dog_21
set_option maxRecDepth 100000 in
theorem c_X9_dog (l : Launch) (D : va_G) (cA : Nat → ClassId) (b : Nat → Nat) (m_latest : Int32) (m_cells : Int32) (m_wide : Int32) (m_houses : Int32) (m_bowls : Int32) (m_dogs : Int32) (m_gone : Int32) (m_sights : Int32) (m_drawn : Int32) (m_dog : Nat → Int32) (x1 : Int32) (x2 : Int32) (r : Int32 × Int32 × (Nat → Int32)) (hf : f_X9_dog m_dogs m_dog x1 x2 = some r) (sz : Nat) : Met l yX9_dog (Cond.code yX9_dog cX9_dog 3 (some .int) :: lw_good) rm_X9_dog (PreX D cA [.ref (b 0), .int x1, .int x2] sz (wl_X9_dog cA b m_latest m_cells m_wide m_houses m_bowls m_dogs m_gone m_sights m_drawn m_dog)) (PostI D r.1 (wl_X9_dog cA b m_latest m_cells m_wide m_houses m_bowls m_dogs m_gone m_sights m_drawn m_dog) (wl_X9_dog cA b m_latest m_cells m_wide m_houses m_bowls (r.2.1) m_gone m_sights m_drawn (r.2.2)) sz) 0 0 (va_A (wl_X9_dog cA b m_latest m_cells m_wide m_houses m_bowls m_dogs m_gone m_sights m_drawn m_dog) sz) :=
  met_of (by decide) (Nat.le_of_ble_eq_true rfl) (fun p e s m args below meth c C hr hlk hA => k_X9_dog C hr hlk hA b m_latest m_cells m_wide m_houses m_bowls m_dogs m_gone m_sights m_drawn m_dog x1 x2 r hf)
end

abbrev wl_X9_back (cA : Nat → ClassId) (b : Nat → Nat) (m_latest : Int32) (m_cells : Int32) (m_wide : Int32) (m_houses : Int32) (m_bowls : Int32) (m_dogs : Int32) (m_gone : Int32) (m_sights : Int32) (m_drawn : Int32) : va_W := [((b 0), .inr (9, [.ref (b 1), .ref (b 2), .ref (b 3), .ref (b 4), .int m_latest, .ref (b 5), .ref (b 6), .int m_cells, .int m_wide, .ref (b 7), .int m_houses, .ref (b 8), .ref (b 9), .int m_bowls, .ref (b 10), .int m_dogs, .ref (b 11), .int m_gone, .ref (b 12), .ref (b 13), .ref (b 14), .int m_sights, .ref (b 15), .ref (b 16), .int m_drawn]))]
abbrev rm_X9_back : Room := { frames := 2, cells := 0, slots := 0, locals := 45 }
section
variable {p : Program} {l : Launch} {e : Env} {s : State} {m : MethodId} {args : Array Value} {below : List Frame} {meth : Method} {c : Code} {D : va_G} {cA : Nat → ClassId} {ws0 : va_W} {sz : Nat} {A : Nat → Prop} {Q : State → Prop}
def f_X9_back_b47 (m_bowls : Int32) (m_dogs : Int32) (x1 : Int32) (x2 : Int32) (s0 : Int32) (s1 : Int32) : Option (Int32 × Int32 × Int32) :=
  letv ((s1 - s0)) (fun v2 => letv ((m_dogs - x1)) (fun v3 => some ((x2 - (1 : Int32)), v2, v3)))
set_option maxHeartbeats 4000000 in
set_option maxRecDepth 100000 in
theorem k_X9_back_b47 (C : Cx RX9 cX9_back 3 D cA p s m args c) (hr : meth.sig.returnType = (some .int)) (hlk : meth.locks = false) (hA : ∀ q, s.heap.size ≤ q → va_A ws0 sz q) (b : Nat → Nat) (m_latest : Int32) (m_cells : Int32) (m_wide : Int32) (m_houses : Int32) (m_bowls : Int32) (m_dogs : Int32) (m_gone : Int32) (m_sights : Int32) (m_drawn : Int32) (x1 : Int32) (x2 : Int32) (s0 : Int32) (s1 : Int32) (r : Int32 × Int32 × Int32) (hf : f_X9_back_b47 m_bowls m_dogs x1 x2 s0 s1 = some r) : At p l e rm_X9_back s m args below meth c D (va_A ws0 sz) 0 0 (MQ below (PostI D r.1 ws0 (wl_X9_back cA b m_latest m_cells m_wide m_houses (r.2.1) (r.2.2) m_gone m_sights m_drawn) sz) args s 0 0 (va_A ws0 sz)) 3 47 (wl_X9_back cA b m_latest m_cells m_wide m_houses m_bowls m_dogs m_gone m_sights m_drawn) [(0, .ref (b 0)), (1, .int x1), (2, .int x2)] [.int s0, .int s1, .ref (b 0)] := by
  intro H locs ls hP hD hS hl
  have hx := C.1
  have hb := C.2.1
  have hown := C.2.2.2.1
  have hts := C.2.2.2.2.1
  unfold f_X9_back_b47 at hf
  refine lv_isub (pc := 47) hx hb dX9_back_47 ?_
  obtain ⟨v2, e_v2, hf⟩ := letv_some hf
  refine tp_i e_v2 ?_
  refine g_put (pc := 48) C fg_X9_133 ft_X9_13 hP hD hS 0 rfl rfl rfl (Nat.le_of_ble_eq_true rfl) dX9_back_48 (fun H locs hP hD hS => ?_)
  have hP : va_P D classes (wl_X9_back cA b m_latest m_cells m_wide m_houses v2 m_dogs m_gone m_sights m_drawn) H := hP
  have hD : va_D (va_A ws0 sz) (wl_X9_back cA b m_latest m_cells m_wide m_houses v2 m_dogs m_gone m_sights m_drawn) := hD
  refine lv_aload_n (pc := 51) hx hb dX9_back_51 rfl (lv_at hl 0 rfl) ?_
  refine lv_dup (pc := 52) hx hb dX9_back_52 rfl ?_
  refine g_get (pc := 53) C fg_X9_143 hP 0 rfl rfl dX9_back_53 ?_
  refine lv_iload_n (pc := 56) hx hb dX9_back_56 rfl (lv_at hl 1 rfl) ?_
  refine lv_isub (pc := 57) hx hb dX9_back_57 ?_
  obtain ⟨v3, e_v3, hf⟩ := letv_some hf
  refine tp_i e_v3 ?_
  refine g_put (pc := 58) C fg_X9_143 ft_X9_15 hP hD hS 0 rfl rfl rfl (Nat.le_of_ble_eq_true rfl) dX9_back_58 (fun H locs hP hD hS => ?_)
  have hP : va_P D classes (wl_X9_back cA b m_latest m_cells m_wide m_houses v2 v3 m_gone m_sights m_drawn) H := hP
  have hD : va_D (va_A ws0 sz) (wl_X9_back cA b m_latest m_cells m_wide m_houses v2 v3 m_gone m_sights m_drawn) := hD
  refine lv_iload_n (pc := 61) hx hb dX9_back_61 rfl (lv_at hl 2 rfl) ?_
  refine lv_iconst (pc := 62) (v := 1) hx hb dX9_back_62 ic_1 ?_
  refine lv_isub (pc := 63) hx hb dX9_back_63 ?_
  have hf := Option.some.inj hf
  subst hf
  exact ret_i C hr hlk hP hS dX9_back_64
def f_X9_back_b25 (m_bowls : Int32) (m_dogs : Int32) (x1 : Int32) (s0 : Int32) : Option (Int32 × Int32 × Int32) :=
  if s0 = 0 then (some ((-3 : Int32), m_bowls, m_dogs)) else (if x1 = 0 then (f_X9_back_b47 m_bowls m_dogs x1 s0 (1 : Int32) m_bowls) else (f_X9_back_b47 m_bowls m_dogs x1 s0 (0 : Int32) m_bowls))
set_option maxHeartbeats 4000000 in
set_option maxRecDepth 100000 in
theorem k_X9_back_b25 (C : Cx RX9 cX9_back 3 D cA p s m args c) (hr : meth.sig.returnType = (some .int)) (hlk : meth.locks = false) (hA : ∀ q, s.heap.size ≤ q → va_A ws0 sz q) (b : Nat → Nat) (m_latest : Int32) (m_cells : Int32) (m_wide : Int32) (m_houses : Int32) (m_bowls : Int32) (m_dogs : Int32) (m_gone : Int32) (m_sights : Int32) (m_drawn : Int32) (x1 : Int32) (s0 : Int32) (r : Int32 × Int32 × Int32) (hf : f_X9_back_b25 m_bowls m_dogs x1 s0 = some r) : At p l e rm_X9_back s m args below meth c D (va_A ws0 sz) 0 0 (MQ below (PostI D r.1 ws0 (wl_X9_back cA b m_latest m_cells m_wide m_houses (r.2.1) (r.2.2) m_gone m_sights m_drawn) sz) args s 0 0 (va_A ws0 sz)) 3 25 (wl_X9_back cA b m_latest m_cells m_wide m_houses m_bowls m_dogs m_gone m_sights m_drawn) [(0, .ref (b 0)), (1, .int x1)] [.int s0] := by
  intro H locs ls hP hD hS hl
  have hx := C.1
  have hb := C.2.1
  have hown := C.2.2.2.1
  have hts := C.2.2.2.2.1
  unfold f_X9_back_b25 at hf
  refine lv_istore_n (pc := 25) (lv' := [(2, .int s0), (0, .ref (b 0)), (1, .int x1)]) hx hb dX9_back_25 rfl hl (Nat.le_of_ble_eq_true rfl) rfl (fun ls hl => ?_)
  refine lv_iload_n (pc := 26) hx hb dX9_back_26 rfl (lv_at hl 0 rfl) ?_
  refine lv_if_ne (pc := 27) (tgt := 33) hx hb dX9_back_27 (by decide) (fun hc => ?_) (fun hc => ?_)
  · have hf := (if_neg hc).symm.trans hf
    refine lv_aload_n (pc := 33) hx hb dX9_back_33 rfl (lv_at hl 1 rfl) ?_
    refine lv_dup (pc := 34) hx hb dX9_back_34 rfl ?_
    refine g_get (pc := 35) C fg_X9_133 hP 0 rfl rfl dX9_back_35 ?_
    refine lv_iload_n (pc := 38) hx hb dX9_back_38 rfl (lv_at hl 2 rfl) ?_
    refine lv_if_ne (pc := 39) (tgt := 46) hx hb dX9_back_39 (by decide) (fun hc => ?_) (fun hc => ?_)
    · have hf := (if_neg hc).symm.trans hf
      refine lv_iconst (pc := 46) (v := 0) hx hb dX9_back_46 ic_0 ?_
      exact k_X9_back_b47 C hr hlk hA b m_latest m_cells m_wide m_houses m_bowls m_dogs m_gone m_sights m_drawn x1 s0 (0 : Int32) m_bowls r hf H locs ls hP hD hS (lv_sub hl [1, 2, 0] rfl)
    · have hf := (if_pos hc).symm.trans hf
      refine lv_iconst (pc := 42) (v := 1) hx hb dX9_back_42 ic_1 ?_
      refine lv_goto (pc := 43) (tgt := 47) hx hb dX9_back_43 (by decide) ?_
      exact k_X9_back_b47 C hr hlk hA b m_latest m_cells m_wide m_houses m_bowls m_dogs m_gone m_sights m_drawn x1 s0 (1 : Int32) m_bowls r hf H locs ls hP hD hS (lv_sub hl [1, 2, 0] rfl)
  · have hf := (if_pos hc).symm.trans hf
    refine lv_bipush (pc := 30) (v := (-3)) hx hb dX9_back_30 bp_m3 ?_
    have hf := Option.some.inj hf
    subst hf
    exact ret_i C hr hlk hP hS dX9_back_32
def f_X9_back (m_bowls : Int32) (m_dogs : Int32) (x1 : Int32) : Option (Int32 × Int32 × Int32) :=
  bind1 (f_X9_isTwo x1) (fun r1 => if r1 = 0 then (some ((-2 : Int32), m_bowls, m_dogs)) else (if x1 = 0 then (f_X9_back_b25 m_bowls m_dogs x1 m_bowls) else (f_X9_back_b25 m_bowls m_dogs x1 m_dogs)))
set_option maxHeartbeats 4000000 in
set_option maxRecDepth 100000 in
theorem k_X9_back (C : Cx RX9 cX9_back 3 D cA p s m args c) (hr : meth.sig.returnType = (some .int)) (hlk : meth.locks = false) (hA : ∀ q, s.heap.size ≤ q → va_A ws0 sz q) (b : Nat → Nat) (m_latest : Int32) (m_cells : Int32) (m_wide : Int32) (m_houses : Int32) (m_bowls : Int32) (m_dogs : Int32) (m_gone : Int32) (m_sights : Int32) (m_drawn : Int32) (x1 : Int32) (r : Int32 × Int32 × Int32) (hf : f_X9_back m_bowls m_dogs x1 = some r) : At p l e rm_X9_back s m args below meth c D (va_A ws0 sz) 0 0 (MQ below (PostI D r.1 ws0 (wl_X9_back cA b m_latest m_cells m_wide m_houses (r.2.1) (r.2.2) m_gone m_sights m_drawn) sz) args s 0 0 (va_A ws0 sz)) 3 0 (wl_X9_back cA b m_latest m_cells m_wide m_houses m_bowls m_dogs m_gone m_sights m_drawn) [(0, .ref (b 0)), (1, .int x1)] [] := by
  intro H locs ls hP hD hS hl
  have hx := C.1
  have hb := C.2.1
  have hown := C.2.2.2.1
  have hts := C.2.2.2.2.1
  unfold f_X9_back at hf
  refine lv_iload_n (pc := 0) hx hb dX9_back_0 rfl (lv_at hl 1 rfl) ?_
  obtain ⟨r1, hq, hf⟩ := bind1_some hf
  refine fin2_i (wl_X9_back cA b m_latest m_cells m_wide m_houses m_bowls m_dogs m_gone m_sights m_drawn) (run_S (rest := []) (pc := 1) (As := [.int x1]) C mf_X9_89 (c_X9_isTwo l D cA  x1 r1 hq H.size) rfl rfl ⟨(Nat.le_of_ble_eq_true rfl), (Nat.le_of_ble_eq_true rfl)⟩ (preS_of C hP hD [] rfl (pl_nd pv_125)) rfl hl.1 rfl (Nat.le_of_ble_eq_true rfl) dX9_back_1 ⟨Nat.zero_le _, Nat.zero_le _⟩) hP hD hS hA [] [0] rfl rfl rfl rfl pv_125 (fun H locs hP hS => ?_)
  refine lv_if_ne (pc := 4) (tgt := 10) hx hb dX9_back_4 (by decide) (fun hc => ?_) (fun hc => ?_)
  · have hf := (if_neg hc).symm.trans hf
    refine lv_iload_n (pc := 10) hx hb dX9_back_10 rfl (lv_at hl 1 rfl) ?_
    refine lv_if_ne (pc := 11) (tgt := 21) hx hb dX9_back_11 (by decide) (fun hc => ?_) (fun hc => ?_)
    · have hf := (if_neg hc).symm.trans hf
      refine lv_aload_n (pc := 21) hx hb dX9_back_21 rfl (lv_at hl 0 rfl) ?_
      refine g_get (pc := 22) C fg_X9_143 hP 0 rfl rfl dX9_back_22 ?_
      exact k_X9_back_b25 C hr hlk hA b m_latest m_cells m_wide m_houses m_bowls m_dogs m_gone m_sights m_drawn x1 m_dogs r hf H locs ls hP hD hS hl
    · have hf := (if_pos hc).symm.trans hf
      refine lv_aload_n (pc := 14) hx hb dX9_back_14 rfl (lv_at hl 0 rfl) ?_
      refine g_get (pc := 15) C fg_X9_133 hP 0 rfl rfl dX9_back_15 ?_
      refine lv_goto (pc := 18) (tgt := 25) hx hb dX9_back_18 (by decide) ?_
      exact k_X9_back_b25 C hr hlk hA b m_latest m_cells m_wide m_houses m_bowls m_dogs m_gone m_sights m_drawn x1 m_bowls r hf H locs ls hP hD hS hl
  · have hf := (if_pos hc).symm.trans hf
    refine lv_bipush (pc := 7) (v := (-2)) hx hb dX9_back_7 bp_m2 ?_
    have hf := Option.some.inj hf
    subst hf
    exact ret_i C hr hlk hP hS dX9_back_9
set_option maxRecDepth 100000 in
theorem c_X9_back (l : Launch) (D : va_G) (cA : Nat → ClassId) (b : Nat → Nat) (m_latest : Int32) (m_cells : Int32) (m_wide : Int32) (m_houses : Int32) (m_bowls : Int32) (m_dogs : Int32) (m_gone : Int32) (m_sights : Int32) (m_drawn : Int32) (x1 : Int32) (r : Int32 × Int32 × Int32) (hf : f_X9_back m_bowls m_dogs x1 = some r) (sz : Nat) : Met l yX9_back (Cond.code yX9_back cX9_back 3 (some .int) :: lw_good) rm_X9_back (PreX D cA [.ref (b 0), .int x1] sz (wl_X9_back cA b m_latest m_cells m_wide m_houses m_bowls m_dogs m_gone m_sights m_drawn)) (PostI D r.1 (wl_X9_back cA b m_latest m_cells m_wide m_houses m_bowls m_dogs m_gone m_sights m_drawn) (wl_X9_back cA b m_latest m_cells m_wide m_houses (r.2.1) (r.2.2) m_gone m_sights m_drawn) sz) 0 0 (va_A (wl_X9_back cA b m_latest m_cells m_wide m_houses m_bowls m_dogs m_gone m_sights m_drawn) sz) :=
  met_of (by decide) (Nat.le_of_ble_eq_true rfl) (fun p e s m args below meth c C hr hlk hA => k_X9_back C hr hlk hA b m_latest m_cells m_wide m_houses m_bowls m_dogs m_gone m_sights m_drawn x1 r hf)
end

abbrev wl_X9_read (cA : Nat → ClassId) (b : Nat → Nat) (m_latest : Int32) (m_cells : Int32) (m_wide : Int32) (m_houses : Int32) (m_bowls : Int32) (m_dogs : Int32) (m_gone : Int32) (m_sights : Int32) (m_drawn : Int32) (m_forms : Nat → Int32) (m_sizes : Nat → Int32) (m_items : Nat → Int32) (m_bowl : Nat → Int32) : va_W := [((b 0), .inr (9, [.ref (b 1), .ref (b 2), .ref (b 3), .ref (b 4), .int m_latest, .ref (b 5), .ref (b 6), .int m_cells, .int m_wide, .ref (b 7), .int m_houses, .ref (b 8), .ref (b 9), .int m_bowls, .ref (b 10), .int m_dogs, .ref (b 11), .int m_gone, .ref (b 12), .ref (b 13), .ref (b 14), .int m_sights, .ref (b 15), .ref (b 16), .int m_drawn])), ((b 1), .inl (cA 0, 4, .inl m_forms)), ((b 2), .inl (cA 0, 4, .inl m_sizes)), ((b 3), .inl (cA 0, 240, .inl m_items)), ((b 10), .inl (cA 0, 20, .inl m_bowl))]
abbrev rm_X9_read : Room := { frames := 3, cells := 0, slots := 0, locals := 67 }
section
variable {p : Program} {l : Launch} {e : Env} {s : State} {m : MethodId} {args : Array Value} {below : List Frame} {meth : Method} {c : Code} {D : va_G} {cA : Nat → ClassId} {ws0 : va_W} {sz : Nat} {A : Nat → Prop} {Q : State → Prop}
def f_X9_read_b98L29 (m_bowls : Int32) (m_sizes : Nat → Int32) (m_items : Nat → Int32) (m_bowl : Nat → Int32) (x1 : Int32) (x3 : Int32) (s0 : Int32) (s1 : Int32) : Option ((Int32 × Int32 × Int32 × (Nat → Int32)) ⊕ (Int32 × Int32 × (Nat → Int32))) :=
  letv ((s1 + s0)) (fun v5 => some (.inl (v5, x3, m_bowls, m_bowl)))
set_option maxHeartbeats 4000000 in
set_option maxRecDepth 100000 in
theorem k_X9_read_b98L29 (C : Cx RX9 cX9_read 4 D cA p s m args c) (hA : ∀ q, s.heap.size ≤ q → A q) (b : Nat → Nat) (m_latest : Int32) (m_cells : Int32) (m_wide : Int32) (m_houses : Int32) (m_bowls : Int32) (m_dogs : Int32) (m_gone : Int32) (m_sights : Int32) (m_drawn : Int32) (m_forms : Nat → Int32) (m_sizes : Nat → Int32) (m_items : Nat → Int32) (m_bowl : Nat → Int32) (x1 : Int32) (x3 : Int32) (s0 : Int32) (s1 : Int32) (r : (Int32 × Int32 × Int32 × (Nat → Int32)) ⊕ (Int32 × Int32 × (Nat → Int32))) (hf : f_X9_read_b98L29 m_bowls m_sizes m_items m_bowl x1 x3 s0 s1 = some r) (hK : Sum.elim (fun q : Int32 × Int32 × Int32 × (Nat → Int32) => At p l e rm_X9_read s m args below meth c D A 0 0 Q 4 29 (wl_X9_read cA b m_latest m_cells m_wide m_houses (q.2.2.1) m_dogs m_gone m_sights m_drawn m_forms m_sizes m_items (q.2.2.2)) [(0, .ref (b 0)), (1, .int x1), (2, .int (q.1)), (3, .int (q.2.1))] []) (fun q : Int32 × Int32 × (Nat → Int32) => At p l e rm_X9_read s m args below meth c D A 0 0 Q 4 103 (wl_X9_read cA b m_latest m_cells m_wide m_houses (q.2.1) m_dogs m_gone m_sights m_drawn m_forms m_sizes m_items (q.2.2)) [(2, .int (q.1))] []) r) : At p l e rm_X9_read s m args below meth c D A 0 0 Q 4 98 (wl_X9_read cA b m_latest m_cells m_wide m_houses m_bowls m_dogs m_gone m_sights m_drawn m_forms m_sizes m_items m_bowl) [(0, .ref (b 0)), (1, .int x1), (3, .int x3)] [.int s0, .int s1] := by
  intro H locs ls hP hD hS hl
  have hx := C.1
  have hb := C.2.1
  have hown := C.2.2.2.1
  have hts := C.2.2.2.2.1
  unfold f_X9_read_b98L29 at hf
  refine lv_iadd (pc := 98) hx hb dX9_read_98 ?_
  obtain ⟨v5, e_v5, hf⟩ := letv_some hf
  refine tp_i e_v5 ?_
  refine lv_istore_n (pc := 99) (lv' := [(2, .int v5), (0, .ref (b 0)), (1, .int x1), (3, .int x3)]) hx hb dX9_read_99 rfl hl (Nat.le_of_ble_eq_true rfl) rfl (fun ls hl => ?_)
  refine lv_goto (pc := 100) (tgt := 29) hx hb dX9_read_100 (by decide) ?_
  have hf := Option.some.inj hf
  subst hf
  exact hK H locs ls hP hD hS (lv_sub hl [1, 2, 0, 3] rfl)
def f_X9_read_b87L29 (m_bowls : Int32) (m_sizes : Nat → Int32) (m_items : Nat → Int32) (m_bowl : Nat → Int32) (x1 : Int32) (x2 : Int32) (s0 : Int32) : Option ((Int32 × Int32 × Int32 × (Nat → Int32)) ⊕ (Int32 × Int32 × (Nat → Int32))) :=
  if s0 = 0 then (f_X9_read_b98L29 m_bowls m_sizes m_items m_bowl x1 s0 (0 : Int32) x2) else (f_X9_read_b98L29 m_bowls m_sizes m_items m_bowl x1 s0 (1 : Int32) x2)
set_option maxHeartbeats 4000000 in
set_option maxRecDepth 100000 in
theorem k_X9_read_b87L29 (C : Cx RX9 cX9_read 4 D cA p s m args c) (hA : ∀ q, s.heap.size ≤ q → A q) (b : Nat → Nat) (m_latest : Int32) (m_cells : Int32) (m_wide : Int32) (m_houses : Int32) (m_bowls : Int32) (m_dogs : Int32) (m_gone : Int32) (m_sights : Int32) (m_drawn : Int32) (m_forms : Nat → Int32) (m_sizes : Nat → Int32) (m_items : Nat → Int32) (m_bowl : Nat → Int32) (x1 : Int32) (x2 : Int32) (s0 : Int32) (r : (Int32 × Int32 × Int32 × (Nat → Int32)) ⊕ (Int32 × Int32 × (Nat → Int32))) (hf : f_X9_read_b87L29 m_bowls m_sizes m_items m_bowl x1 x2 s0 = some r) (hK : Sum.elim (fun q : Int32 × Int32 × Int32 × (Nat → Int32) => At p l e rm_X9_read s m args below meth c D A 0 0 Q 4 29 (wl_X9_read cA b m_latest m_cells m_wide m_houses (q.2.2.1) m_dogs m_gone m_sights m_drawn m_forms m_sizes m_items (q.2.2.2)) [(0, .ref (b 0)), (1, .int x1), (2, .int (q.1)), (3, .int (q.2.1))] []) (fun q : Int32 × Int32 × (Nat → Int32) => At p l e rm_X9_read s m args below meth c D A 0 0 Q 4 103 (wl_X9_read cA b m_latest m_cells m_wide m_houses (q.2.1) m_dogs m_gone m_sights m_drawn m_forms m_sizes m_items (q.2.2)) [(2, .int (q.1))] []) r) : At p l e rm_X9_read s m args below meth c D A 0 0 Q 4 87 (wl_X9_read cA b m_latest m_cells m_wide m_houses m_bowls m_dogs m_gone m_sights m_drawn m_forms m_sizes m_items m_bowl) [(0, .ref (b 0)), (1, .int x1), (2, .int x2)] [.int s0] := by
  intro H locs ls hP hD hS hl
  have hx := C.1
  have hb := C.2.1
  have hown := C.2.2.2.1
  have hts := C.2.2.2.2.1
  unfold f_X9_read_b87L29 at hf
  refine lv_istore_n (pc := 87) (lv' := [(3, .int s0), (0, .ref (b 0)), (1, .int x1), (2, .int x2)]) hx hb dX9_read_87 rfl hl (Nat.le_of_ble_eq_true rfl) rfl (fun ls hl => ?_)
  refine lv_iload_n (pc := 88) hx hb dX9_read_88 rfl (lv_at hl 3 rfl) ?_
  refine lv_iload_n (pc := 89) hx hb dX9_read_89 rfl (lv_at hl 0 rfl) ?_
  refine lv_if_eq (pc := 90) (tgt := 97) hx hb dX9_read_90 (by decide) (fun hc => ?_) (fun hc => ?_)
  · have hf := (if_pos hc).symm.trans hf
    refine lv_iconst (pc := 97) (v := 0) hx hb dX9_read_97 ic_0 ?_
    exact k_X9_read_b98L29 C hA b m_latest m_cells m_wide m_houses m_bowls m_dogs m_gone m_sights m_drawn m_forms m_sizes m_items m_bowl x1 s0 (0 : Int32) x2 r hf hK H locs ls hP hD hS (lv_sub hl [1, 2, 0] rfl)
  · have hf := (if_neg hc).symm.trans hf
    refine lv_iconst (pc := 93) (v := 1) hx hb dX9_read_93 ic_1 ?_
    refine lv_goto (pc := 94) (tgt := 98) hx hb dX9_read_94 (by decide) ?_
    exact k_X9_read_b98L29 C hA b m_latest m_cells m_wide m_houses m_bowls m_dogs m_gone m_sights m_drawn m_forms m_sizes m_items m_bowl x1 s0 (1 : Int32) x2 r hf hK H locs ls hP hD hS (lv_sub hl [1, 2, 0] rfl)
def f_X9_read_L29 (m_sizes : Nat → Int32) (m_items : Nat → Int32) (x1 : Int32) (x2 : Int32) (x3 : Int32) (m_bowls : Int32) (m_bowl : Nat → Int32) : Option ((Int32 × Int32 × Int32 × (Nat → Int32)) ⊕ (Int32 × Int32 × (Nat → Int32))) :=
  if x3 = 0 then (some (.inr (x2, m_bowls, m_bowl))) else (gd (inb x1 4) (if (m_sizes x1.toNatClampNeg) < (((2 : Int32) * x2) + (2 : Int32)) then (some (.inr (x2, m_bowls, m_bowl))) else (gd (inb (((60 : Int32) * x1) + ((2 : Int32) * x2)) 240) (gd (inb ((((60 : Int32) * x1) + ((2 : Int32) * x2)) + (1 : Int32)) 240) (bind3 (f_X9_bowl m_bowls m_bowl (m_items (((60 : Int32) * x1) + ((2 : Int32) * x2)).toNatClampNeg) (m_items ((((60 : Int32) * x1) + ((2 : Int32) * x2)) + (1 : Int32)).toNatClampNeg)) (fun r2 c3 c4 => if r2 < 0 then (f_X9_read_b87L29 c3 m_sizes m_items c4 x1 x2 (0 : Int32)) else (f_X9_read_b87L29 c3 m_sizes m_items c4 x1 x2 (1 : Int32))))))))
set_option maxHeartbeats 4000000 in
set_option maxRecDepth 100000 in
theorem k_X9_read_L29 (C : Cx RX9 cX9_read 4 D cA p s m args c) (hA : ∀ q, s.heap.size ≤ q → A q) (b : Nat → Nat) (m_latest : Int32) (m_cells : Int32) (m_wide : Int32) (m_houses : Int32) (m_dogs : Int32) (m_gone : Int32) (m_sights : Int32) (m_drawn : Int32) (m_forms : Nat → Int32) (m_sizes : Nat → Int32) (m_items : Nat → Int32) (x1 : Int32) (x2 : Int32) (x3 : Int32) (m_bowls : Int32) (m_bowl : Nat → Int32) (r : (Int32 × Int32 × Int32 × (Nat → Int32)) ⊕ (Int32 × Int32 × (Nat → Int32))) (hf : f_X9_read_L29 m_sizes m_items x1 x2 x3 m_bowls m_bowl = some r) (hK : Sum.elim (fun q : Int32 × Int32 × Int32 × (Nat → Int32) => At p l e rm_X9_read s m args below meth c D A 0 0 Q 4 29 (wl_X9_read cA b m_latest m_cells m_wide m_houses (q.2.2.1) m_dogs m_gone m_sights m_drawn m_forms m_sizes m_items (q.2.2.2)) [(0, .ref (b 0)), (1, .int x1), (2, .int (q.1)), (3, .int (q.2.1))] []) (fun q : Int32 × Int32 × (Nat → Int32) => At p l e rm_X9_read s m args below meth c D A 0 0 Q 4 103 (wl_X9_read cA b m_latest m_cells m_wide m_houses (q.2.1) m_dogs m_gone m_sights m_drawn m_forms m_sizes m_items (q.2.2)) [(2, .int (q.1))] []) r) : At p l e rm_X9_read s m args below meth c D A 0 0 Q 4 29 (wl_X9_read cA b m_latest m_cells m_wide m_houses m_bowls m_dogs m_gone m_sights m_drawn m_forms m_sizes m_items m_bowl) [(0, .ref (b 0)), (1, .int x1), (2, .int x2), (3, .int x3)] [] := by
  intro H locs ls hP hD hS hl
  have hx := C.1
  have hb := C.2.1
  have hown := C.2.2.2.1
  have hts := C.2.2.2.2.1
  unfold f_X9_read_L29 at hf
  refine lv_iload_n (pc := 29) hx hb dX9_read_29 rfl (lv_at hl 3 rfl) ?_
  refine lv_if_eq (pc := 30) (tgt := 103) hx hb dX9_read_30 (by decide) (fun hc => ?_) (fun hc => ?_)
  · have hf := (if_pos hc).symm.trans hf
    have hf := Option.some.inj hf
    subst hf
    exact hK H locs ls hP hD hS (lv_sub hl [2] rfl)
  · have hf := (if_neg hc).symm.trans hf
    refine lv_iconst (pc := 33) (v := 2) hx hb dX9_read_33 ic_2 ?_
    refine lv_iload_n (pc := 34) hx hb dX9_read_34 rfl (lv_at hl 2 rfl) ?_
    refine lv_imul (pc := 35) hx hb dX9_read_35 ?_
    refine lv_iconst (pc := 36) (v := 2) hx hb dX9_read_36 ic_2 ?_
    refine lv_iadd (pc := 37) hx hb dX9_read_37 ?_
    refine lv_aload_n (pc := 38) hx hb dX9_read_38 rfl (lv_at hl 0 rfl) ?_
    refine g_get (pc := 39) C fg_X9_13 hP 0 rfl rfl dX9_read_39 ?_
    refine lv_iload_n (pc := 42) hx hb dX9_read_42 rfl (lv_at hl 1 rfl) ?_
    obtain ⟨hg, hf⟩ := gd_some hf
    refine g_iald (pc := 43) C hP 2 rfl hg dX9_read_43 ?_
    refine lv_icmp_gt (pc := 44) (tgt := 103) hx hb dX9_read_44 (by decide) (fun hc => ?_) (fun hc => ?_)
    · have hf := (if_pos hc).symm.trans hf
      have hf := Option.some.inj hf
      subst hf
      exact hK H locs ls hP hD hS (lv_sub hl [2] rfl)
    · have hf := (if_neg hc).symm.trans hf
      refine lv_aload_n (pc := 47) hx hb dX9_read_47 rfl (lv_at hl 0 rfl) ?_
      refine lv_aload_n (pc := 48) hx hb dX9_read_48 rfl (lv_at hl 0 rfl) ?_
      refine g_get (pc := 49) C fg_X9_16 hP 0 rfl rfl dX9_read_49 ?_
      refine lv_bipush (pc := 52) (v := 60) hx hb dX9_read_52 bp_60 ?_
      refine lv_iload_n (pc := 54) hx hb dX9_read_54 rfl (lv_at hl 1 rfl) ?_
      refine lv_imul (pc := 55) hx hb dX9_read_55 ?_
      refine lv_iconst (pc := 56) (v := 2) hx hb dX9_read_56 ic_2 ?_
      refine lv_iload_n (pc := 57) hx hb dX9_read_57 rfl (lv_at hl 2 rfl) ?_
      refine lv_imul (pc := 58) hx hb dX9_read_58 ?_
      refine lv_iadd (pc := 59) hx hb dX9_read_59 ?_
      obtain ⟨hg, hf⟩ := gd_some hf
      refine g_iald (pc := 60) C hP 3 rfl hg dX9_read_60 ?_
      refine lv_aload_n (pc := 61) hx hb dX9_read_61 rfl (lv_at hl 0 rfl) ?_
      refine g_get (pc := 62) C fg_X9_16 hP 0 rfl rfl dX9_read_62 ?_
      refine lv_bipush (pc := 65) (v := 60) hx hb dX9_read_65 bp_60 ?_
      refine lv_iload_n (pc := 67) hx hb dX9_read_67 rfl (lv_at hl 1 rfl) ?_
      refine lv_imul (pc := 68) hx hb dX9_read_68 ?_
      refine lv_iconst (pc := 69) (v := 2) hx hb dX9_read_69 ic_2 ?_
      refine lv_iload_n (pc := 70) hx hb dX9_read_70 rfl (lv_at hl 2 rfl) ?_
      refine lv_imul (pc := 71) hx hb dX9_read_71 ?_
      refine lv_iadd (pc := 72) hx hb dX9_read_72 ?_
      refine lv_iconst (pc := 73) (v := 1) hx hb dX9_read_73 ic_1 ?_
      refine lv_iadd (pc := 74) hx hb dX9_read_74 ?_
      obtain ⟨hg, hf⟩ := gd_some hf
      refine g_iald (pc := 75) C hP 3 rfl hg dX9_read_75 ?_
      obtain ⟨r2, c3, c4, hq, hf⟩ := bind3_some hf
      refine fin2_i (wl_X9_read cA b m_latest m_cells m_wide m_houses c3 m_dogs m_gone m_sights m_drawn m_forms m_sizes m_items c4) (run_V (rest := []) (pc := 76) (As := [.int (m_items (((60 : Int32) * x1) + ((2 : Int32) * x2)).toNatClampNeg), .int (m_items ((((60 : Int32) * x1) + ((2 : Int32) * x2)) + (1 : Int32)).toNatClampNeg)]) C mf_X9_146 (c_X9_bowl l D cA b m_latest m_cells m_wide m_houses m_bowls m_dogs m_gone m_sights m_drawn m_bowl (m_items (((60 : Int32) * x1) + ((2 : Int32) * x2)).toNatClampNeg) (m_items ((((60 : Int32) * x1) + ((2 : Int32) * x2)) + (1 : Int32)).toNatClampNeg) (r2, c3, c4) hq H.size) rfl rfl ⟨(Nat.le_of_ble_eq_true rfl), (Nat.le_of_ble_eq_true rfl)⟩ (preV_of C hP hD [0, 4] rfl (pl_nd pv_127) 0 rfl rfl rfl) rfl hl.1 rfl (Nat.le_of_ble_eq_true rfl) dX9_read_76 ⟨Nat.zero_le _, Nat.zero_le _⟩) hP hD hS hA [0, 4] [1, 2, 3] rfl rfl rfl rfl pv_127 (fun H locs hP hS => ?_)
      have hD : va_D A (wl_X9_read cA b m_latest m_cells m_wide m_houses c3 m_dogs m_gone m_sights m_drawn m_forms m_sizes m_items c4) := vd_a hD rfl
      refine lv_if_lt (pc := 79) (tgt := 86) hx hb dX9_read_79 (by decide) (fun hc => ?_) (fun hc => ?_)
      · have hf := (if_pos hc).symm.trans hf
        refine lv_iconst (pc := 86) (v := 0) hx hb dX9_read_86 ic_0 ?_
        exact k_X9_read_b87L29 C hA b m_latest m_cells m_wide m_houses c3 m_dogs m_gone m_sights m_drawn m_forms m_sizes m_items c4 x1 x2 (0 : Int32) r hf hK H locs ls hP hD hS (lv_sub hl [0, 1, 2] rfl)
      · have hf := (if_neg hc).symm.trans hf
        refine lv_iconst (pc := 82) (v := 1) hx hb dX9_read_82 ic_1 ?_
        refine lv_goto (pc := 83) (tgt := 87) hx hb dX9_read_83 (by decide) ?_
        exact k_X9_read_b87L29 C hA b m_latest m_cells m_wide m_houses c3 m_dogs m_gone m_sights m_drawn m_forms m_sizes m_items c4 x1 x2 (1 : Int32) r hf hK H locs ls hP hD hS (lv_sub hl [0, 1, 2] rfl)
theorem kl_X9_read_L29 (C : Cx RX9 cX9_read 4 D cA p s m args c) (hA : ∀ q, s.heap.size ≤ q → A q) (b : Nat → Nat) (m_latest : Int32) (m_cells : Int32) (m_wide : Int32) (m_houses : Int32) (m_dogs : Int32) (m_gone : Int32) (m_sights : Int32) (m_drawn : Int32) (m_forms : Nat → Int32) (m_sizes : Nat → Int32) (m_items : Nat → Int32) (x1 : Int32) : ∀ (n : Nat) (q : Int32 × Int32 × Int32 × (Nat → Int32)) (z : (Int32 × Int32 × (Nat → Int32))), loopF (fun q : Int32 × Int32 × Int32 × (Nat → Int32) => f_X9_read_L29 m_sizes m_items x1 q.1 q.2.1 q.2.2.1 q.2.2.2) n q = some z → (fun q : Int32 × Int32 × (Nat → Int32) => At p l e rm_X9_read s m args below meth c D A 0 0 Q 4 103 (wl_X9_read cA b m_latest m_cells m_wide m_houses (q.2.1) m_dogs m_gone m_sights m_drawn m_forms m_sizes m_items (q.2.2)) [(2, .int (q.1))] []) z → At p l e rm_X9_read s m args below meth c D A 0 0 Q 4 29 (wl_X9_read cA b m_latest m_cells m_wide m_houses (q.2.2.1) m_dogs m_gone m_sights m_drawn m_forms m_sizes m_items (q.2.2.2)) [(0, .ref (b 0)), (1, .int x1), (2, .int (q.1)), (3, .int (q.2.1))] [] :=
  loop_lem (WP := fun q : Int32 × Int32 × Int32 × (Nat → Int32) => At p l e rm_X9_read s m args below meth c D A 0 0 Q 4 29 (wl_X9_read cA b m_latest m_cells m_wide m_houses (q.2.2.1) m_dogs m_gone m_sights m_drawn m_forms m_sizes m_items (q.2.2.2)) [(0, .ref (b 0)), (1, .int x1), (2, .int (q.1)), (3, .int (q.2.1))] []) (WE := (fun q : Int32 × Int32 × (Nat → Int32) => At p l e rm_X9_read s m args below meth c D A 0 0 Q 4 103 (wl_X9_read cA b m_latest m_cells m_wide m_houses (q.2.1) m_dogs m_gone m_sights m_drawn m_forms m_sizes m_items (q.2.2)) [(2, .int (q.1))] [])) (fun q r hf hK => k_X9_read_L29 C hA b m_latest m_cells m_wide m_houses m_dogs m_gone m_sights m_drawn m_forms m_sizes m_items x1 q.1 q.2.1 q.2.2.1 q.2.2.2 r hf hK)
def f_X9_read (m_latest : Int32) (m_bowls : Int32) (m_forms : Nat → Int32) (m_sizes : Nat → Int32) (m_items : Nat → Int32) (m_bowl : Nat → Int32) (x1 : Int32) : Option (Int32 × Int32 × Int32 × (Nat → Int32)) :=
  bind1 (f_X9_isSheet x1) (fun r1 => if r1 = 0 then (some ((-2 : Int32), m_latest, m_bowls, m_bowl)) else (gd (inb x1 4) (if 0 ≤ (m_forms x1.toNatClampNeg) then (bind3 (loopF (fun q : Int32 × Int32 × Int32 × (Nat → Int32) => f_X9_read_L29 m_sizes m_items x1 q.1 q.2.1 q.2.2.1 q.2.2.2) FU ((0 : Int32), (1 : Int32), m_bowls, m_bowl)) (fun u6 u7 u8 => some (u6, m_latest, u7, u8))) else (bind2 (f_X9_finds m_latest (1 : Int32)) (fun r9 c10 => some (r9, c10, m_bowls, m_bowl))))))
set_option maxHeartbeats 4000000 in
set_option maxRecDepth 100000 in
theorem k_X9_read (C : Cx RX9 cX9_read 4 D cA p s m args c) (hr : meth.sig.returnType = (some .int)) (hlk : meth.locks = false) (hA : ∀ q, s.heap.size ≤ q → va_A ws0 sz q) (b : Nat → Nat) (m_latest : Int32) (m_cells : Int32) (m_wide : Int32) (m_houses : Int32) (m_bowls : Int32) (m_dogs : Int32) (m_gone : Int32) (m_sights : Int32) (m_drawn : Int32) (m_forms : Nat → Int32) (m_sizes : Nat → Int32) (m_items : Nat → Int32) (m_bowl : Nat → Int32) (x1 : Int32) (r : Int32 × Int32 × Int32 × (Nat → Int32)) (hf : f_X9_read m_latest m_bowls m_forms m_sizes m_items m_bowl x1 = some r) : At p l e rm_X9_read s m args below meth c D (va_A ws0 sz) 0 0 (MQ below (PostI D r.1 ws0 (wl_X9_read cA b (r.2.1) m_cells m_wide m_houses (r.2.2.1) m_dogs m_gone m_sights m_drawn m_forms m_sizes m_items (r.2.2.2)) sz) args s 0 0 (va_A ws0 sz)) 4 0 (wl_X9_read cA b m_latest m_cells m_wide m_houses m_bowls m_dogs m_gone m_sights m_drawn m_forms m_sizes m_items m_bowl) [(0, .ref (b 0)), (1, .int x1)] [] := by
  intro H locs ls hP hD hS hl
  have hx := C.1
  have hb := C.2.1
  have hown := C.2.2.2.1
  have hts := C.2.2.2.2.1
  unfold f_X9_read at hf
  refine lv_iload_n (pc := 0) hx hb dX9_read_0 rfl (lv_at hl 1 rfl) ?_
  obtain ⟨r1, hq, hf⟩ := bind1_some hf
  refine fin2_i (wl_X9_read cA b m_latest m_cells m_wide m_houses m_bowls m_dogs m_gone m_sights m_drawn m_forms m_sizes m_items m_bowl) (run_S (rest := []) (pc := 1) (As := [.int x1]) C mf_X9_70 (c_X9_isSheet l D cA  x1 r1 hq H.size) rfl rfl ⟨(Nat.le_of_ble_eq_true rfl), (Nat.le_of_ble_eq_true rfl)⟩ (preS_of C hP hD [] rfl (pl_nd pv_27)) rfl hl.1 rfl (Nat.le_of_ble_eq_true rfl) dX9_read_1 ⟨Nat.zero_le _, Nat.zero_le _⟩) hP hD hS hA [] [0, 1, 2, 3, 4] rfl rfl rfl rfl pv_27 (fun H locs hP hS => ?_)
  refine lv_if_ne (pc := 4) (tgt := 10) hx hb dX9_read_4 (by decide) (fun hc => ?_) (fun hc => ?_)
  · have hf := (if_neg hc).symm.trans hf
    refine lv_aload_n (pc := 10) hx hb dX9_read_10 rfl (lv_at hl 0 rfl) ?_
    refine g_get (pc := 11) C fg_X9_7 hP 0 rfl rfl dX9_read_11 ?_
    refine lv_iload_n (pc := 14) hx hb dX9_read_14 rfl (lv_at hl 1 rfl) ?_
    obtain ⟨hg, hf⟩ := gd_some hf
    refine g_iald (pc := 15) C hP 1 rfl hg dX9_read_15 ?_
    refine lv_if_ge (pc := 16) (tgt := 25) hx hb dX9_read_16 (by decide) (fun hc => ?_) (fun hc => ?_)
    · have hf := (if_pos hc).symm.trans hf
      refine lv_iconst (pc := 25) (v := 0) hx hb dX9_read_25 ic_0 ?_
      refine lv_istore_n (pc := 26) (lv' := [(2, .int (0 : Int32)), (0, .ref (b 0)), (1, .int x1)]) hx hb dX9_read_26 rfl hl (Nat.le_of_ble_eq_true rfl) rfl (fun ls hl => ?_)
      refine lv_iconst (pc := 27) (v := 1) hx hb dX9_read_27 ic_1 ?_
      refine lv_istore_n (pc := 28) (lv' := [(3, .int (1 : Int32)), (2, .int (0 : Int32)), (0, .ref (b 0)), (1, .int x1)]) hx hb dX9_read_28 rfl hl (Nat.le_of_ble_eq_true rfl) rfl (fun ls hl => ?_)
      obtain ⟨u6, u7, u8, hq, hf⟩ := bind3_some hf
      refine kl_X9_read_L29 C hA b m_latest m_cells m_wide m_houses m_dogs m_gone m_sights m_drawn m_forms m_sizes m_items x1 FU ((0 : Int32), (1 : Int32), m_bowls, m_bowl) _ hq ?_ H locs ls hP hD hS (lv_sub hl [2, 3, 1, 0] rfl)
      intro H locs ls hP hD hS hl
      have hP : va_P D classes (wl_X9_read cA b m_latest m_cells m_wide m_houses u7 m_dogs m_gone m_sights m_drawn m_forms m_sizes m_items u8) H := hP
      have hD : va_D (va_A ws0 sz) (wl_X9_read cA b m_latest m_cells m_wide m_houses u7 m_dogs m_gone m_sights m_drawn m_forms m_sizes m_items u8) := hD
      have hl : lv_has ls 4 [(2, .int u6)] := hl
      refine lv_iload_n (pc := 103) hx hb dX9_read_103 rfl (lv_at hl 0 rfl) ?_
      have hf := Option.some.inj hf
      subst hf
      exact ret_i C hr hlk hP hS dX9_read_104
    · have hf := (if_neg hc).symm.trans hf
      refine lv_aload_n (pc := 19) hx hb dX9_read_19 rfl (lv_at hl 0 rfl) ?_
      refine lv_iconst (pc := 20) (v := 1) hx hb dX9_read_20 ic_1 ?_
      obtain ⟨r9, c10, hq, hf⟩ := bind2_some hf
      refine fin2_i (wl_X9_read cA b c10 m_cells m_wide m_houses m_bowls m_dogs m_gone m_sights m_drawn m_forms m_sizes m_items m_bowl) (run_V (rest := []) (pc := 21) (As := [.int (1 : Int32)]) C mf_X9_76 (c_X9_finds l D cA b m_latest m_cells m_wide m_houses m_bowls m_dogs m_gone m_sights m_drawn (1 : Int32) (r9, c10) hq H.size) rfl rfl ⟨(Nat.le_of_ble_eq_true rfl), (Nat.le_of_ble_eq_true rfl)⟩ (preV_of C hP hD [0] rfl (pl_nd pv_122) 0 rfl rfl rfl) rfl hl.1 rfl (Nat.le_of_ble_eq_true rfl) dX9_read_21 ⟨Nat.zero_le _, Nat.zero_le _⟩) hP hD hS hA [0] [1, 2, 3, 4] rfl rfl rfl rfl pv_122 (fun H locs hP hS => ?_)
      have hD : va_D (va_A ws0 sz) (wl_X9_read cA b c10 m_cells m_wide m_houses m_bowls m_dogs m_gone m_sights m_drawn m_forms m_sizes m_items m_bowl) := vd_a hD rfl
      have hf := Option.some.inj hf
      subst hf
      exact ret_i C hr hlk hP hS dX9_read_24
  · have hf := (if_pos hc).symm.trans hf
    refine lv_bipush (pc := 7) (v := (-2)) hx hb dX9_read_7 bp_m2 ?_
    have hf := Option.some.inj hf
    subst hf
    exact ret_i C hr hlk hP hS dX9_read_9
set_option maxRecDepth 100000 in
theorem c_X9_read (l : Launch) (D : va_G) (cA : Nat → ClassId) (b : Nat → Nat) (m_latest : Int32) (m_cells : Int32) (m_wide : Int32) (m_houses : Int32) (m_bowls : Int32) (m_dogs : Int32) (m_gone : Int32) (m_sights : Int32) (m_drawn : Int32) (m_forms : Nat → Int32) (m_sizes : Nat → Int32) (m_items : Nat → Int32) (m_bowl : Nat → Int32) (x1 : Int32) (r : Int32 × Int32 × Int32 × (Nat → Int32)) (hf : f_X9_read m_latest m_bowls m_forms m_sizes m_items m_bowl x1 = some r) (sz : Nat) : Met l yX9_read (Cond.code yX9_read cX9_read 4 (some .int) :: lw_good) rm_X9_read (PreX D cA [.ref (b 0), .int x1] sz (wl_X9_read cA b m_latest m_cells m_wide m_houses m_bowls m_dogs m_gone m_sights m_drawn m_forms m_sizes m_items m_bowl)) (PostI D r.1 (wl_X9_read cA b m_latest m_cells m_wide m_houses m_bowls m_dogs m_gone m_sights m_drawn m_forms m_sizes m_items m_bowl) (wl_X9_read cA b (r.2.1) m_cells m_wide m_houses (r.2.2.1) m_dogs m_gone m_sights m_drawn m_forms m_sizes m_items (r.2.2.2)) sz) 0 0 (va_A (wl_X9_read cA b m_latest m_cells m_wide m_houses m_bowls m_dogs m_gone m_sights m_drawn m_forms m_sizes m_items m_bowl) sz) :=
  met_of (by decide) (Nat.le_of_ble_eq_true rfl) (fun p e s m args below meth c C hr hlk hA => k_X9_read C hr hlk hA b m_latest m_cells m_wide m_houses m_bowls m_dogs m_gone m_sights m_drawn m_forms m_sizes m_items m_bowl x1 r hf)
end

abbrev wl_X9_beside (cA : Nat → ClassId) (b : Nat → Nat) (m_latest : Int32) (m_cells : Int32) (m_wide : Int32) (m_houses : Int32) (m_bowls : Int32) (m_dogs : Int32) (m_gone : Int32) (m_sights : Int32) (m_drawn : Int32) (m_cell : Nat → Int32) : va_W := [((b 0), .inr (9, [.ref (b 1), .ref (b 2), .ref (b 3), .ref (b 4), .int m_latest, .ref (b 5), .ref (b 6), .int m_cells, .int m_wide, .ref (b 7), .int m_houses, .ref (b 8), .ref (b 9), .int m_bowls, .ref (b 10), .int m_dogs, .ref (b 11), .int m_gone, .ref (b 12), .ref (b 13), .ref (b 14), .int m_sights, .ref (b 15), .ref (b 16), .int m_drawn])), ((b 7), .inl (cA 0, 36, .inl m_cell))]
abbrev rm_X9_beside : Room := { frames := 0, cells := 0, slots := 0, locals := 0 }
section
variable {p : Program} {l : Launch} {e : Env} {s : State} {m : MethodId} {args : Array Value} {below : List Frame} {meth : Method} {c : Code} {D : va_G} {cA : Nat → ClassId} {ws0 : va_W} {sz : Nat} {A : Nat → Prop} {Q : State → Prop}
def f_X9_beside_b104 (m_cells : Int32) (m_wide : Int32) (m_cell : Nat → Int32) (x3 : Int32) : Option (Int32) :=
  if x3 = (-1 : Int32) then (some x3) else (gd (inb x3 36) (if (m_cell x3.toNatClampNeg) = (1 : Int32) then (some (-1 : Int32)) else (some x3)))
set_option maxHeartbeats 4000000 in
set_option maxRecDepth 100000 in
theorem k_X9_beside_b104 (C : Cx RX9 cX9_beside 4 D cA p s m args c) (hr : meth.sig.returnType = (some .int)) (hlk : meth.locks = false) (hA : ∀ q, s.heap.size ≤ q → va_A ws0 sz q) (b : Nat → Nat) (m_latest : Int32) (m_cells : Int32) (m_wide : Int32) (m_houses : Int32) (m_bowls : Int32) (m_dogs : Int32) (m_gone : Int32) (m_sights : Int32) (m_drawn : Int32) (m_cell : Nat → Int32) (x3 : Int32) (r : Int32) (hf : f_X9_beside_b104 m_cells m_wide m_cell x3 = some r) : At p l e rm_X9_beside s m args below meth c D (va_A ws0 sz) 0 0 (MQ below (PostI D r ws0 (wl_X9_beside cA b m_latest m_cells m_wide m_houses m_bowls m_dogs m_gone m_sights m_drawn m_cell) sz) args s 0 0 (va_A ws0 sz)) 4 104 (wl_X9_beside cA b m_latest m_cells m_wide m_houses m_bowls m_dogs m_gone m_sights m_drawn m_cell) [(0, .ref (b 0)), (3, .int x3)] [] := by
  intro H locs ls hP hD hS hl
  have hx := C.1
  have hb := C.2.1
  have hown := C.2.2.2.1
  have hts := C.2.2.2.2.1
  unfold f_X9_beside_b104 at hf
  refine lv_iload_n (pc := 104) hx hb dX9_beside_104 rfl (lv_at hl 1 rfl) ?_
  refine lv_iconst (pc := 105) (v := (-1)) hx hb dX9_beside_105 ic_m1 ?_
  refine lv_icmp_eq (pc := 106) (tgt := 123) hx hb dX9_beside_106 (by decide) (fun hc => ?_) (fun hc => ?_)
  · have hf := (if_pos hc).symm.trans hf
    refine lv_iload_n (pc := 123) hx hb dX9_beside_123 rfl (lv_at hl 1 rfl) ?_
    have hf := Option.some.inj hf
    subst hf
    exact ret_i C hr hlk hP hS dX9_beside_124
  · have hf := (if_neg hc).symm.trans hf
    refine lv_aload_n (pc := 109) hx hb dX9_beside_109 rfl (lv_at hl 0 rfl) ?_
    refine g_get (pc := 110) C fg_X9_28 hP 0 rfl rfl dX9_beside_110 ?_
    refine lv_iload_n (pc := 113) hx hb dX9_beside_113 rfl (lv_at hl 1 rfl) ?_
    obtain ⟨hg, hf⟩ := gd_some hf
    refine g_iald (pc := 114) C hP 1 rfl hg dX9_beside_114 ?_
    refine lv_iconst (pc := 115) (v := 1) hx hb dX9_beside_115 ic_1 ?_
    refine lv_icmp_ne (pc := 116) (tgt := 123) hx hb dX9_beside_116 (by decide) (fun hc => ?_) (fun hc => ?_)
    · have hf := (if_neg hc).symm.trans hf
      refine lv_iload_n (pc := 123) hx hb dX9_beside_123 rfl (lv_at hl 1 rfl) ?_
      have hf := Option.some.inj hf
      subst hf
      exact ret_i C hr hlk hP hS dX9_beside_124
    · have hf := (if_pos hc).symm.trans hf
      refine lv_iconst (pc := 119) (v := (-1)) hx hb dX9_beside_119 ic_m1 ?_
      refine lv_goto (pc := 120) (tgt := 124) hx hb dX9_beside_120 (by decide) ?_
      have hf := Option.some.inj hf
      subst hf
      exact ret_i C hr hlk hP hS dX9_beside_124
def f_X9_beside_b103 (m_cells : Int32) (m_wide : Int32) (m_cell : Nat → Int32) (s0 : Int32) : Option (Int32) :=
  f_X9_beside_b104 m_cells m_wide m_cell s0
set_option maxHeartbeats 4000000 in
set_option maxRecDepth 100000 in
theorem k_X9_beside_b103 (C : Cx RX9 cX9_beside 4 D cA p s m args c) (hr : meth.sig.returnType = (some .int)) (hlk : meth.locks = false) (hA : ∀ q, s.heap.size ≤ q → va_A ws0 sz q) (b : Nat → Nat) (m_latest : Int32) (m_cells : Int32) (m_wide : Int32) (m_houses : Int32) (m_bowls : Int32) (m_dogs : Int32) (m_gone : Int32) (m_sights : Int32) (m_drawn : Int32) (m_cell : Nat → Int32) (s0 : Int32) (r : Int32) (hf : f_X9_beside_b103 m_cells m_wide m_cell s0 = some r) : At p l e rm_X9_beside s m args below meth c D (va_A ws0 sz) 0 0 (MQ below (PostI D r ws0 (wl_X9_beside cA b m_latest m_cells m_wide m_houses m_bowls m_dogs m_gone m_sights m_drawn m_cell) sz) args s 0 0 (va_A ws0 sz)) 4 103 (wl_X9_beside cA b m_latest m_cells m_wide m_houses m_bowls m_dogs m_gone m_sights m_drawn m_cell) [(0, .ref (b 0))] [.int s0] := by
  intro H locs ls hP hD hS hl
  have hx := C.1
  have hb := C.2.1
  have hown := C.2.2.2.1
  have hts := C.2.2.2.2.1
  unfold f_X9_beside_b103 at hf
  refine lv_istore_n (pc := 103) (lv' := [(3, .int s0), (0, .ref (b 0))]) hx hb dX9_beside_103 rfl hl (Nat.le_of_ble_eq_true rfl) rfl (fun ls hl => ?_)
  exact k_X9_beside_b104 C hr hlk hA b m_latest m_cells m_wide m_houses m_bowls m_dogs m_gone m_sights m_drawn m_cell s0 r hf H locs ls hP hD hS (lv_sub hl [1, 0] rfl)
def f_X9_beside_b83 (m_cells : Int32) (m_wide : Int32) (m_cell : Nat → Int32) (s0 : Int32) : Option (Int32) :=
  f_X9_beside_b104 m_cells m_wide m_cell s0
set_option maxHeartbeats 4000000 in
set_option maxRecDepth 100000 in
theorem k_X9_beside_b83 (C : Cx RX9 cX9_beside 4 D cA p s m args c) (hr : meth.sig.returnType = (some .int)) (hlk : meth.locks = false) (hA : ∀ q, s.heap.size ≤ q → va_A ws0 sz q) (b : Nat → Nat) (m_latest : Int32) (m_cells : Int32) (m_wide : Int32) (m_houses : Int32) (m_bowls : Int32) (m_dogs : Int32) (m_gone : Int32) (m_sights : Int32) (m_drawn : Int32) (m_cell : Nat → Int32) (s0 : Int32) (r : Int32) (hf : f_X9_beside_b83 m_cells m_wide m_cell s0 = some r) : At p l e rm_X9_beside s m args below meth c D (va_A ws0 sz) 0 0 (MQ below (PostI D r ws0 (wl_X9_beside cA b m_latest m_cells m_wide m_houses m_bowls m_dogs m_gone m_sights m_drawn m_cell) sz) args s 0 0 (va_A ws0 sz)) 4 83 (wl_X9_beside cA b m_latest m_cells m_wide m_houses m_bowls m_dogs m_gone m_sights m_drawn m_cell) [(0, .ref (b 0))] [.int s0] := by
  intro H locs ls hP hD hS hl
  have hx := C.1
  have hb := C.2.1
  have hown := C.2.2.2.1
  have hts := C.2.2.2.2.1
  unfold f_X9_beside_b83 at hf
  refine lv_istore_n (pc := 83) (lv' := [(3, .int s0), (0, .ref (b 0))]) hx hb dX9_beside_83 rfl hl (Nat.le_of_ble_eq_true rfl) rfl (fun ls hl => ?_)
  refine lv_goto (pc := 84) (tgt := 104) hx hb dX9_beside_84 (by decide) ?_
  exact k_X9_beside_b104 C hr hlk hA b m_latest m_cells m_wide m_houses m_bowls m_dogs m_gone m_sights m_drawn m_cell s0 r hf H locs ls hP hD hS (lv_sub hl [1, 0] rfl)
def f_X9_beside_b56 (m_cells : Int32) (m_wide : Int32) (m_cell : Nat → Int32) (s0 : Int32) : Option (Int32) :=
  f_X9_beside_b104 m_cells m_wide m_cell s0
set_option maxHeartbeats 4000000 in
set_option maxRecDepth 100000 in
theorem k_X9_beside_b56 (C : Cx RX9 cX9_beside 4 D cA p s m args c) (hr : meth.sig.returnType = (some .int)) (hlk : meth.locks = false) (hA : ∀ q, s.heap.size ≤ q → va_A ws0 sz q) (b : Nat → Nat) (m_latest : Int32) (m_cells : Int32) (m_wide : Int32) (m_houses : Int32) (m_bowls : Int32) (m_dogs : Int32) (m_gone : Int32) (m_sights : Int32) (m_drawn : Int32) (m_cell : Nat → Int32) (s0 : Int32) (r : Int32) (hf : f_X9_beside_b56 m_cells m_wide m_cell s0 = some r) : At p l e rm_X9_beside s m args below meth c D (va_A ws0 sz) 0 0 (MQ below (PostI D r ws0 (wl_X9_beside cA b m_latest m_cells m_wide m_houses m_bowls m_dogs m_gone m_sights m_drawn m_cell) sz) args s 0 0 (va_A ws0 sz)) 4 56 (wl_X9_beside cA b m_latest m_cells m_wide m_houses m_bowls m_dogs m_gone m_sights m_drawn m_cell) [(0, .ref (b 0))] [.int s0] := by
  intro H locs ls hP hD hS hl
  have hx := C.1
  have hb := C.2.1
  have hown := C.2.2.2.1
  have hts := C.2.2.2.2.1
  unfold f_X9_beside_b56 at hf
  refine lv_istore_n (pc := 56) (lv' := [(3, .int s0), (0, .ref (b 0))]) hx hb dX9_beside_56 rfl hl (Nat.le_of_ble_eq_true rfl) rfl (fun ls hl => ?_)
  refine lv_goto (pc := 57) (tgt := 104) hx hb dX9_beside_57 (by decide) ?_
  exact k_X9_beside_b104 C hr hlk hA b m_latest m_cells m_wide m_houses m_bowls m_dogs m_gone m_sights m_drawn m_cell s0 r hf H locs ls hP hD hS (lv_sub hl [1, 0] rfl)
def f_X9_beside_b24 (m_cells : Int32) (m_wide : Int32) (m_cell : Nat → Int32) (s0 : Int32) : Option (Int32) :=
  f_X9_beside_b104 m_cells m_wide m_cell s0
set_option maxHeartbeats 4000000 in
set_option maxRecDepth 100000 in
theorem k_X9_beside_b24 (C : Cx RX9 cX9_beside 4 D cA p s m args c) (hr : meth.sig.returnType = (some .int)) (hlk : meth.locks = false) (hA : ∀ q, s.heap.size ≤ q → va_A ws0 sz q) (b : Nat → Nat) (m_latest : Int32) (m_cells : Int32) (m_wide : Int32) (m_houses : Int32) (m_bowls : Int32) (m_dogs : Int32) (m_gone : Int32) (m_sights : Int32) (m_drawn : Int32) (m_cell : Nat → Int32) (s0 : Int32) (r : Int32) (hf : f_X9_beside_b24 m_cells m_wide m_cell s0 = some r) : At p l e rm_X9_beside s m args below meth c D (va_A ws0 sz) 0 0 (MQ below (PostI D r ws0 (wl_X9_beside cA b m_latest m_cells m_wide m_houses m_bowls m_dogs m_gone m_sights m_drawn m_cell) sz) args s 0 0 (va_A ws0 sz)) 4 24 (wl_X9_beside cA b m_latest m_cells m_wide m_houses m_bowls m_dogs m_gone m_sights m_drawn m_cell) [(0, .ref (b 0))] [.int s0] := by
  intro H locs ls hP hD hS hl
  have hx := C.1
  have hb := C.2.1
  have hown := C.2.2.2.1
  have hts := C.2.2.2.2.1
  unfold f_X9_beside_b24 at hf
  refine lv_istore_n (pc := 24) (lv' := [(3, .int s0), (0, .ref (b 0))]) hx hb dX9_beside_24 rfl hl (Nat.le_of_ble_eq_true rfl) rfl (fun ls hl => ?_)
  refine lv_goto (pc := 25) (tgt := 104) hx hb dX9_beside_25 (by decide) ?_
  exact k_X9_beside_b104 C hr hlk hA b m_latest m_cells m_wide m_houses m_bowls m_dogs m_gone m_sights m_drawn m_cell s0 r hf H locs ls hP hD hS (lv_sub hl [1, 0] rfl)
def f_X9_beside (m_cells : Int32) (m_wide : Int32) (m_cell : Nat → Int32) (x1 : Int32) (x2 : Int32) : Option (Int32) :=
  if x2 = 0 then (gd (nz m_wide) (if ((x1 + (1 : Int32)) - (x1 + (1 : Int32)) / m_wide * m_wide) ≤ 0 then (f_X9_beside_b24 m_cells m_wide m_cell (-1 : Int32)) else (f_X9_beside_b24 m_cells m_wide m_cell (x1 + (1 : Int32))))) else (if x2 = (1 : Int32) then (if m_cells ≤ (x1 + m_wide) then (f_X9_beside_b56 m_cells m_wide m_cell (-1 : Int32)) else (f_X9_beside_b56 m_cells m_wide m_cell (x1 + m_wide))) else (if x2 = (2 : Int32) then (if x1 < m_wide then (f_X9_beside_b83 m_cells m_wide m_cell (-1 : Int32)) else (f_X9_beside_b83 m_cells m_wide m_cell (x1 - m_wide))) else (gd (nz m_wide) (if (x1 - x1 / m_wide * m_wide) ≤ 0 then (f_X9_beside_b103 m_cells m_wide m_cell (-1 : Int32)) else (f_X9_beside_b103 m_cells m_wide m_cell (x1 - (1 : Int32)))))))
set_option maxHeartbeats 4000000 in
set_option maxRecDepth 100000 in
theorem k_X9_beside (C : Cx RX9 cX9_beside 4 D cA p s m args c) (hr : meth.sig.returnType = (some .int)) (hlk : meth.locks = false) (hA : ∀ q, s.heap.size ≤ q → va_A ws0 sz q) (b : Nat → Nat) (m_latest : Int32) (m_cells : Int32) (m_wide : Int32) (m_houses : Int32) (m_bowls : Int32) (m_dogs : Int32) (m_gone : Int32) (m_sights : Int32) (m_drawn : Int32) (m_cell : Nat → Int32) (x1 : Int32) (x2 : Int32) (r : Int32) (hf : f_X9_beside m_cells m_wide m_cell x1 x2 = some r) : At p l e rm_X9_beside s m args below meth c D (va_A ws0 sz) 0 0 (MQ below (PostI D r ws0 (wl_X9_beside cA b m_latest m_cells m_wide m_houses m_bowls m_dogs m_gone m_sights m_drawn m_cell) sz) args s 0 0 (va_A ws0 sz)) 4 0 (wl_X9_beside cA b m_latest m_cells m_wide m_houses m_bowls m_dogs m_gone m_sights m_drawn m_cell) [(0, .ref (b 0)), (1, .int x1), (2, .int x2)] [] := by
  intro H locs ls hP hD hS hl
  have hx := C.1
  have hb := C.2.1
  have hown := C.2.2.2.1
  have hts := C.2.2.2.2.1
  unfold f_X9_beside at hf
  refine lv_iconst (pc := 0) (v := (-1)) hx hb dX9_beside_0 ic_m1 ?_
  refine lv_istore_n (pc := 1) (lv' := [(3, .int (-1 : Int32)), (0, .ref (b 0)), (1, .int x1), (2, .int x2)]) hx hb dX9_beside_1 rfl hl (Nat.le_of_ble_eq_true rfl) rfl (fun ls hl => ?_)
  refine lv_iload_n (pc := 2) hx hb dX9_beside_2 rfl (lv_at hl 3 rfl) ?_
  refine lv_if_ne (pc := 3) (tgt := 28) hx hb dX9_beside_3 (by decide) (fun hc => ?_) (fun hc => ?_)
  · have hf := (if_neg hc).symm.trans hf
    refine lv_iload_n (pc := 28) hx hb dX9_beside_28 rfl (lv_at hl 3 rfl) ?_
    refine lv_iconst (pc := 29) (v := 1) hx hb dX9_beside_29 ic_1 ?_
    refine lv_icmp_ne (pc := 30) (tgt := 60) hx hb dX9_beside_30 (by decide) (fun hc => ?_) (fun hc => ?_)
    · have hf := (if_neg hc).symm.trans hf
      refine lv_iload_n (pc := 60) hx hb dX9_beside_60 rfl (lv_at hl 3 rfl) ?_
      refine lv_iconst (pc := 61) (v := 2) hx hb dX9_beside_61 ic_2 ?_
      refine lv_icmp_ne (pc := 62) (tgt := 87) hx hb dX9_beside_62 (by decide) (fun hc => ?_) (fun hc => ?_)
      · have hf := (if_neg hc).symm.trans hf
        refine lv_iload_n (pc := 87) hx hb dX9_beside_87 rfl (lv_at hl 2 rfl) ?_
        refine lv_aload_n (pc := 88) hx hb dX9_beside_88 rfl (lv_at hl 1 rfl) ?_
        refine g_get (pc := 89) C fg_X9_97 hP 0 rfl rfl dX9_beside_89 ?_
        obtain ⟨hg, hf⟩ := gd_some hf
        refine lv_irem (pc := 92) hx hb dX9_beside_92 (nz_of hg) ?_
        refine lv_if_le (pc := 93) (tgt := 102) hx hb dX9_beside_93 (by decide) (fun hc => ?_) (fun hc => ?_)
        · have hf := (if_pos hc).symm.trans hf
          refine lv_iconst (pc := 102) (v := (-1)) hx hb dX9_beside_102 ic_m1 ?_
          exact k_X9_beside_b103 C hr hlk hA b m_latest m_cells m_wide m_houses m_bowls m_dogs m_gone m_sights m_drawn m_cell (-1 : Int32) r hf H locs ls hP hD hS (lv_sub hl [1] rfl)
        · have hf := (if_neg hc).symm.trans hf
          refine lv_iload_n (pc := 96) hx hb dX9_beside_96 rfl (lv_at hl 2 rfl) ?_
          refine lv_iconst (pc := 97) (v := 1) hx hb dX9_beside_97 ic_1 ?_
          refine lv_isub (pc := 98) hx hb dX9_beside_98 ?_
          refine lv_goto (pc := 99) (tgt := 103) hx hb dX9_beside_99 (by decide) ?_
          exact k_X9_beside_b103 C hr hlk hA b m_latest m_cells m_wide m_houses m_bowls m_dogs m_gone m_sights m_drawn m_cell (x1 - (1 : Int32)) r hf H locs ls hP hD hS (lv_sub hl [1] rfl)
      · have hf := (if_pos hc).symm.trans hf
        refine lv_iload_n (pc := 65) hx hb dX9_beside_65 rfl (lv_at hl 2 rfl) ?_
        refine lv_aload_n (pc := 66) hx hb dX9_beside_66 rfl (lv_at hl 1 rfl) ?_
        refine g_get (pc := 67) C fg_X9_97 hP 0 rfl rfl dX9_beside_67 ?_
        refine lv_icmp_lt (pc := 70) (tgt := 82) hx hb dX9_beside_70 (by decide) (fun hc => ?_) (fun hc => ?_)
        · have hf := (if_pos hc).symm.trans hf
          refine lv_iconst (pc := 82) (v := (-1)) hx hb dX9_beside_82 ic_m1 ?_
          exact k_X9_beside_b83 C hr hlk hA b m_latest m_cells m_wide m_houses m_bowls m_dogs m_gone m_sights m_drawn m_cell (-1 : Int32) r hf H locs ls hP hD hS (lv_sub hl [1] rfl)
        · have hf := (if_neg hc).symm.trans hf
          refine lv_iload_n (pc := 73) hx hb dX9_beside_73 rfl (lv_at hl 2 rfl) ?_
          refine lv_aload_n (pc := 74) hx hb dX9_beside_74 rfl (lv_at hl 1 rfl) ?_
          refine g_get (pc := 75) C fg_X9_97 hP 0 rfl rfl dX9_beside_75 ?_
          refine lv_isub (pc := 78) hx hb dX9_beside_78 ?_
          refine lv_goto (pc := 79) (tgt := 83) hx hb dX9_beside_79 (by decide) ?_
          exact k_X9_beside_b83 C hr hlk hA b m_latest m_cells m_wide m_houses m_bowls m_dogs m_gone m_sights m_drawn m_cell (x1 - m_wide) r hf H locs ls hP hD hS (lv_sub hl [1] rfl)
    · have hf := (if_pos hc).symm.trans hf
      refine lv_iload_n (pc := 33) hx hb dX9_beside_33 rfl (lv_at hl 2 rfl) ?_
      refine lv_aload_n (pc := 34) hx hb dX9_beside_34 rfl (lv_at hl 1 rfl) ?_
      refine g_get (pc := 35) C fg_X9_97 hP 0 rfl rfl dX9_beside_35 ?_
      refine lv_iadd (pc := 38) hx hb dX9_beside_38 ?_
      refine lv_aload_n (pc := 39) hx hb dX9_beside_39 rfl (lv_at hl 1 rfl) ?_
      refine g_get (pc := 40) C fg_X9_94 hP 0 rfl rfl dX9_beside_40 ?_
      refine lv_icmp_ge (pc := 43) (tgt := 55) hx hb dX9_beside_43 (by decide) (fun hc => ?_) (fun hc => ?_)
      · have hf := (if_pos hc).symm.trans hf
        refine lv_iconst (pc := 55) (v := (-1)) hx hb dX9_beside_55 ic_m1 ?_
        exact k_X9_beside_b56 C hr hlk hA b m_latest m_cells m_wide m_houses m_bowls m_dogs m_gone m_sights m_drawn m_cell (-1 : Int32) r hf H locs ls hP hD hS (lv_sub hl [1] rfl)
      · have hf := (if_neg hc).symm.trans hf
        refine lv_iload_n (pc := 46) hx hb dX9_beside_46 rfl (lv_at hl 2 rfl) ?_
        refine lv_aload_n (pc := 47) hx hb dX9_beside_47 rfl (lv_at hl 1 rfl) ?_
        refine g_get (pc := 48) C fg_X9_97 hP 0 rfl rfl dX9_beside_48 ?_
        refine lv_iadd (pc := 51) hx hb dX9_beside_51 ?_
        refine lv_goto (pc := 52) (tgt := 56) hx hb dX9_beside_52 (by decide) ?_
        exact k_X9_beside_b56 C hr hlk hA b m_latest m_cells m_wide m_houses m_bowls m_dogs m_gone m_sights m_drawn m_cell (x1 + m_wide) r hf H locs ls hP hD hS (lv_sub hl [1] rfl)
  · have hf := (if_pos hc).symm.trans hf
    refine lv_iload_n (pc := 6) hx hb dX9_beside_6 rfl (lv_at hl 2 rfl) ?_
    refine lv_iconst (pc := 7) (v := 1) hx hb dX9_beside_7 ic_1 ?_
    refine lv_iadd (pc := 8) hx hb dX9_beside_8 ?_
    refine lv_aload_n (pc := 9) hx hb dX9_beside_9 rfl (lv_at hl 1 rfl) ?_
    refine g_get (pc := 10) C fg_X9_97 hP 0 rfl rfl dX9_beside_10 ?_
    obtain ⟨hg, hf⟩ := gd_some hf
    refine lv_irem (pc := 13) hx hb dX9_beside_13 (nz_of hg) ?_
    refine lv_if_le (pc := 14) (tgt := 23) hx hb dX9_beside_14 (by decide) (fun hc => ?_) (fun hc => ?_)
    · have hf := (if_pos hc).symm.trans hf
      refine lv_iconst (pc := 23) (v := (-1)) hx hb dX9_beside_23 ic_m1 ?_
      exact k_X9_beside_b24 C hr hlk hA b m_latest m_cells m_wide m_houses m_bowls m_dogs m_gone m_sights m_drawn m_cell (-1 : Int32) r hf H locs ls hP hD hS (lv_sub hl [1] rfl)
    · have hf := (if_neg hc).symm.trans hf
      refine lv_iload_n (pc := 17) hx hb dX9_beside_17 rfl (lv_at hl 2 rfl) ?_
      refine lv_iconst (pc := 18) (v := 1) hx hb dX9_beside_18 ic_1 ?_
      refine lv_iadd (pc := 19) hx hb dX9_beside_19 ?_
      refine lv_goto (pc := 20) (tgt := 24) hx hb dX9_beside_20 (by decide) ?_
      exact k_X9_beside_b24 C hr hlk hA b m_latest m_cells m_wide m_houses m_bowls m_dogs m_gone m_sights m_drawn m_cell (x1 + (1 : Int32)) r hf H locs ls hP hD hS (lv_sub hl [1] rfl)
set_option maxRecDepth 100000 in
theorem c_X9_beside (l : Launch) (D : va_G) (cA : Nat → ClassId) (b : Nat → Nat) (m_latest : Int32) (m_cells : Int32) (m_wide : Int32) (m_houses : Int32) (m_bowls : Int32) (m_dogs : Int32) (m_gone : Int32) (m_sights : Int32) (m_drawn : Int32) (m_cell : Nat → Int32) (x1 : Int32) (x2 : Int32) (r : Int32) (hf : f_X9_beside m_cells m_wide m_cell x1 x2 = some r) (sz : Nat) : Met l yX9_beside (Cond.code yX9_beside cX9_beside 4 (some .int) :: lw_good) rm_X9_beside (PreX D cA [.ref (b 0), .int x1, .int x2] sz (wl_X9_beside cA b m_latest m_cells m_wide m_houses m_bowls m_dogs m_gone m_sights m_drawn m_cell)) (PostI D r (wl_X9_beside cA b m_latest m_cells m_wide m_houses m_bowls m_dogs m_gone m_sights m_drawn m_cell) (wl_X9_beside cA b m_latest m_cells m_wide m_houses m_bowls m_dogs m_gone m_sights m_drawn m_cell) sz) 0 0 (va_A (wl_X9_beside cA b m_latest m_cells m_wide m_houses m_bowls m_dogs m_gone m_sights m_drawn m_cell) sz) :=
  met_of (by decide) (Nat.le_of_ble_eq_true rfl) (fun p e s m args below meth c C hr hlk hA => k_X9_beside C hr hlk hA b m_latest m_cells m_wide m_houses m_bowls m_dogs m_gone m_sights m_drawn m_cell x1 x2 r hf)
end

abbrev wl_X9_wasOn (cA : Nat → ClassId) (b : Nat → Nat) (m_latest : Int32) (m_cells : Int32) (m_wide : Int32) (m_houses : Int32) (m_bowls : Int32) (m_dogs : Int32) (m_gone : Int32) (m_sights : Int32) (m_drawn : Int32) (m_path : Nat → Int32) : va_W := [((b 0), .inr (9, [.ref (b 1), .ref (b 2), .ref (b 3), .ref (b 4), .int m_latest, .ref (b 5), .ref (b 6), .int m_cells, .int m_wide, .ref (b 7), .int m_houses, .ref (b 8), .ref (b 9), .int m_bowls, .ref (b 10), .int m_dogs, .ref (b 11), .int m_gone, .ref (b 12), .ref (b 13), .ref (b 14), .int m_sights, .ref (b 15), .ref (b 16), .int m_drawn])), ((b 12), .inl (cA 0, 250, .inl m_path))]
abbrev rm_X9_wasOn : Room := { frames := 0, cells := 0, slots := 0, locals := 0 }
section
variable {p : Program} {l : Launch} {e : Env} {s : State} {m : MethodId} {args : Array Value} {below : List Frame} {meth : Method} {c : Code} {D : va_G} {cA : Nat → ClassId} {ws0 : va_W} {sz : Nat} {A : Nat → Prop} {Q : State → Prop}
def f_X9_wasOn_b38L6 (m_path : Nat → Int32) (x1 : Int32) (x2 : Int32) (x3 : Int32) (x5 : Int32) (s0 : Int32) : Option ((Int32 × Int32) ⊕ (Int32)) :=
  some (.inl (s0, (x5 + 1)))
set_option maxHeartbeats 4000000 in
set_option maxRecDepth 100000 in
theorem k_X9_wasOn_b38L6 (C : Cx RX9 cX9_wasOn 6 D cA p s m args c) (hA : ∀ q, s.heap.size ≤ q → A q) (b : Nat → Nat) (m_latest : Int32) (m_cells : Int32) (m_wide : Int32) (m_houses : Int32) (m_bowls : Int32) (m_dogs : Int32) (m_gone : Int32) (m_sights : Int32) (m_drawn : Int32) (m_path : Nat → Int32) (x1 : Int32) (x2 : Int32) (x3 : Int32) (x5 : Int32) (s0 : Int32) (r : (Int32 × Int32) ⊕ (Int32)) (hf : f_X9_wasOn_b38L6 m_path x1 x2 x3 x5 s0 = some r) (hK : Sum.elim (fun q : Int32 × Int32 => At p l e rm_X9_wasOn s m args below meth c D A 0 0 Q 6 6 (wl_X9_wasOn cA b m_latest m_cells m_wide m_houses m_bowls m_dogs m_gone m_sights m_drawn m_path) [(0, .ref (b 0)), (1, .int x1), (2, .int x2), (3, .int x3), (4, .int (q.1)), (5, .int (q.2))] []) (fun q : Int32 => At p l e rm_X9_wasOn s m args below meth c D A 0 0 Q 6 46 (wl_X9_wasOn cA b m_latest m_cells m_wide m_houses m_bowls m_dogs m_gone m_sights m_drawn m_path) [(4, .int q)] []) r) : At p l e rm_X9_wasOn s m args below meth c D A 0 0 Q 6 38 (wl_X9_wasOn cA b m_latest m_cells m_wide m_houses m_bowls m_dogs m_gone m_sights m_drawn m_path) [(0, .ref (b 0)), (1, .int x1), (2, .int x2), (3, .int x3), (5, .int x5)] [.int s0] := by
  intro H locs ls hP hD hS hl
  have hx := C.1
  have hb := C.2.1
  have hown := C.2.2.2.1
  have hts := C.2.2.2.2.1
  unfold f_X9_wasOn_b38L6 at hf
  refine lv_istore (pc := 38) (lv' := [(4, .int s0), (0, .ref (b 0)), (1, .int x1), (2, .int x2), (3, .int x3), (5, .int x5)]) hx hb dX9_wasOn_38 hl (Nat.le_of_ble_eq_true rfl) rfl (fun ls hl => ?_)
  refine lv_iinc (pc := 40) (v := (x5 + 1)) (lv' := [(5, .int (x5 + 1)), (4, .int s0), (0, .ref (b 0)), (1, .int x1), (2, .int x2), (3, .int x3)]) hx hb dX9_wasOn_40 hl (k := 5) rfl rfl (Nat.le_of_ble_eq_true rfl) rfl (fun ls hl => ?_)
  refine lv_goto (pc := 43) (tgt := 6) hx hb dX9_wasOn_43 (by decide) ?_
  have hf := Option.some.inj hf
  subst hf
  exact hK H locs ls hP hD hS (lv_sub hl [2, 3, 4, 5, 1, 0] rfl)
def f_X9_wasOn_b33L6 (m_path : Nat → Int32) (x1 : Int32) (x2 : Int32) (x3 : Int32) (x5 : Int32) : Option ((Int32 × Int32) ⊕ (Int32)) :=
  f_X9_wasOn_b38L6 m_path x1 x2 x3 x5 (1 : Int32)
set_option maxHeartbeats 4000000 in
set_option maxRecDepth 100000 in
theorem k_X9_wasOn_b33L6 (C : Cx RX9 cX9_wasOn 6 D cA p s m args c) (hA : ∀ q, s.heap.size ≤ q → A q) (b : Nat → Nat) (m_latest : Int32) (m_cells : Int32) (m_wide : Int32) (m_houses : Int32) (m_bowls : Int32) (m_dogs : Int32) (m_gone : Int32) (m_sights : Int32) (m_drawn : Int32) (m_path : Nat → Int32) (x1 : Int32) (x2 : Int32) (x3 : Int32) (x5 : Int32) (r : (Int32 × Int32) ⊕ (Int32)) (hf : f_X9_wasOn_b33L6 m_path x1 x2 x3 x5 = some r) (hK : Sum.elim (fun q : Int32 × Int32 => At p l e rm_X9_wasOn s m args below meth c D A 0 0 Q 6 6 (wl_X9_wasOn cA b m_latest m_cells m_wide m_houses m_bowls m_dogs m_gone m_sights m_drawn m_path) [(0, .ref (b 0)), (1, .int x1), (2, .int x2), (3, .int x3), (4, .int (q.1)), (5, .int (q.2))] []) (fun q : Int32 => At p l e rm_X9_wasOn s m args below meth c D A 0 0 Q 6 46 (wl_X9_wasOn cA b m_latest m_cells m_wide m_houses m_bowls m_dogs m_gone m_sights m_drawn m_path) [(4, .int q)] []) r) : At p l e rm_X9_wasOn s m args below meth c D A 0 0 Q 6 33 (wl_X9_wasOn cA b m_latest m_cells m_wide m_houses m_bowls m_dogs m_gone m_sights m_drawn m_path) [(0, .ref (b 0)), (1, .int x1), (2, .int x2), (3, .int x3), (5, .int x5)] [] := by
  intro H locs ls hP hD hS hl
  have hx := C.1
  have hb := C.2.1
  have hown := C.2.2.2.1
  have hts := C.2.2.2.2.1
  unfold f_X9_wasOn_b33L6 at hf
  refine lv_iconst (pc := 33) (v := 1) hx hb dX9_wasOn_33 ic_1 ?_
  refine lv_goto (pc := 34) (tgt := 38) hx hb dX9_wasOn_34 (by decide) ?_
  exact k_X9_wasOn_b38L6 C hA b m_latest m_cells m_wide m_houses m_bowls m_dogs m_gone m_sights m_drawn m_path x1 x2 x3 x5 (1 : Int32) r hf hK H locs ls hP hD hS hl
def f_X9_wasOn_L6 (m_path : Nat → Int32) (x1 : Int32) (x2 : Int32) (x3 : Int32) (x4 : Int32) (x5 : Int32) : Option ((Int32 × Int32) ⊕ (Int32)) :=
  if x3 < x5 then (some (.inr x4)) else (if x4 = 0 then (gd (inb (((25 : Int32) * x1) + x5) 250) (if (m_path (((25 : Int32) * x1) + x5).toNatClampNeg) = x2 then (f_X9_wasOn_b33L6 m_path x1 x2 x3 x5) else (f_X9_wasOn_b38L6 m_path x1 x2 x3 x5 (0 : Int32)))) else (f_X9_wasOn_b33L6 m_path x1 x2 x3 x5))
set_option maxHeartbeats 4000000 in
set_option maxRecDepth 100000 in
theorem k_X9_wasOn_L6 (C : Cx RX9 cX9_wasOn 6 D cA p s m args c) (hA : ∀ q, s.heap.size ≤ q → A q) (b : Nat → Nat) (m_latest : Int32) (m_cells : Int32) (m_wide : Int32) (m_houses : Int32) (m_bowls : Int32) (m_dogs : Int32) (m_gone : Int32) (m_sights : Int32) (m_drawn : Int32) (m_path : Nat → Int32) (x1 : Int32) (x2 : Int32) (x3 : Int32) (x4 : Int32) (x5 : Int32) (r : (Int32 × Int32) ⊕ (Int32)) (hf : f_X9_wasOn_L6 m_path x1 x2 x3 x4 x5 = some r) (hK : Sum.elim (fun q : Int32 × Int32 => At p l e rm_X9_wasOn s m args below meth c D A 0 0 Q 6 6 (wl_X9_wasOn cA b m_latest m_cells m_wide m_houses m_bowls m_dogs m_gone m_sights m_drawn m_path) [(0, .ref (b 0)), (1, .int x1), (2, .int x2), (3, .int x3), (4, .int (q.1)), (5, .int (q.2))] []) (fun q : Int32 => At p l e rm_X9_wasOn s m args below meth c D A 0 0 Q 6 46 (wl_X9_wasOn cA b m_latest m_cells m_wide m_houses m_bowls m_dogs m_gone m_sights m_drawn m_path) [(4, .int q)] []) r) : At p l e rm_X9_wasOn s m args below meth c D A 0 0 Q 6 6 (wl_X9_wasOn cA b m_latest m_cells m_wide m_houses m_bowls m_dogs m_gone m_sights m_drawn m_path) [(0, .ref (b 0)), (1, .int x1), (2, .int x2), (3, .int x3), (4, .int x4), (5, .int x5)] [] := by
  intro H locs ls hP hD hS hl
  have hx := C.1
  have hb := C.2.1
  have hown := C.2.2.2.1
  have hts := C.2.2.2.2.1
  unfold f_X9_wasOn_L6 at hf
  refine lv_iload (pc := 6) hx hb dX9_wasOn_6 (lv_at hl 5 rfl) ?_
  refine lv_iload_n (pc := 8) hx hb dX9_wasOn_8 rfl (lv_at hl 3 rfl) ?_
  refine lv_icmp_gt (pc := 9) (tgt := 46) hx hb dX9_wasOn_9 (by decide) (fun hc => ?_) (fun hc => ?_)
  · have hf := (if_pos hc).symm.trans hf
    have hf := Option.some.inj hf
    subst hf
    exact hK H locs ls hP hD hS (lv_sub hl [4] rfl)
  · have hf := (if_neg hc).symm.trans hf
    refine lv_iload (pc := 12) hx hb dX9_wasOn_12 (lv_at hl 4 rfl) ?_
    refine lv_if_ne (pc := 14) (tgt := 33) hx hb dX9_wasOn_14 (by decide) (fun hc => ?_) (fun hc => ?_)
    · have hf := (if_neg hc).symm.trans hf
      exact k_X9_wasOn_b33L6 C hA b m_latest m_cells m_wide m_houses m_bowls m_dogs m_gone m_sights m_drawn m_path x1 x2 x3 x5 r hf hK H locs ls hP hD hS (lv_sub hl [0, 1, 2, 3, 5] rfl)
    · have hf := (if_pos hc).symm.trans hf
      refine lv_aload_n (pc := 17) hx hb dX9_wasOn_17 rfl (lv_at hl 0 rfl) ?_
      refine g_get (pc := 18) C fg_X9_43 hP 0 rfl rfl dX9_wasOn_18 ?_
      refine lv_bipush (pc := 21) (v := 25) hx hb dX9_wasOn_21 bp_25 ?_
      refine lv_iload_n (pc := 23) hx hb dX9_wasOn_23 rfl (lv_at hl 1 rfl) ?_
      refine lv_imul (pc := 24) hx hb dX9_wasOn_24 ?_
      refine lv_iload (pc := 25) hx hb dX9_wasOn_25 (lv_at hl 5 rfl) ?_
      refine lv_iadd (pc := 27) hx hb dX9_wasOn_27 ?_
      obtain ⟨hg, hf⟩ := gd_some hf
      refine g_iald (pc := 28) C hP 1 rfl hg dX9_wasOn_28 ?_
      refine lv_iload_n (pc := 29) hx hb dX9_wasOn_29 rfl (lv_at hl 2 rfl) ?_
      refine lv_icmp_ne (pc := 30) (tgt := 37) hx hb dX9_wasOn_30 (by decide) (fun hc => ?_) (fun hc => ?_)
      · have hf := (if_neg hc).symm.trans hf
        refine lv_iconst (pc := 37) (v := 0) hx hb dX9_wasOn_37 ic_0 ?_
        exact k_X9_wasOn_b38L6 C hA b m_latest m_cells m_wide m_houses m_bowls m_dogs m_gone m_sights m_drawn m_path x1 x2 x3 x5 (0 : Int32) r hf hK H locs ls hP hD hS (lv_sub hl [0, 1, 2, 3, 5] rfl)
      · have hf := (if_pos hc).symm.trans hf
        exact k_X9_wasOn_b33L6 C hA b m_latest m_cells m_wide m_houses m_bowls m_dogs m_gone m_sights m_drawn m_path x1 x2 x3 x5 r hf hK H locs ls hP hD hS (lv_sub hl [0, 1, 2, 3, 5] rfl)
theorem kl_X9_wasOn_L6 (C : Cx RX9 cX9_wasOn 6 D cA p s m args c) (hA : ∀ q, s.heap.size ≤ q → A q) (b : Nat → Nat) (m_latest : Int32) (m_cells : Int32) (m_wide : Int32) (m_houses : Int32) (m_bowls : Int32) (m_dogs : Int32) (m_gone : Int32) (m_sights : Int32) (m_drawn : Int32) (m_path : Nat → Int32) (x1 : Int32) (x2 : Int32) (x3 : Int32) : ∀ (n : Nat) (q : Int32 × Int32) (z : (Int32)), loopF (fun q : Int32 × Int32 => f_X9_wasOn_L6 m_path x1 x2 x3 q.1 q.2) n q = some z → (fun q : Int32 => At p l e rm_X9_wasOn s m args below meth c D A 0 0 Q 6 46 (wl_X9_wasOn cA b m_latest m_cells m_wide m_houses m_bowls m_dogs m_gone m_sights m_drawn m_path) [(4, .int q)] []) z → At p l e rm_X9_wasOn s m args below meth c D A 0 0 Q 6 6 (wl_X9_wasOn cA b m_latest m_cells m_wide m_houses m_bowls m_dogs m_gone m_sights m_drawn m_path) [(0, .ref (b 0)), (1, .int x1), (2, .int x2), (3, .int x3), (4, .int (q.1)), (5, .int (q.2))] [] :=
  loop_lem (WP := fun q : Int32 × Int32 => At p l e rm_X9_wasOn s m args below meth c D A 0 0 Q 6 6 (wl_X9_wasOn cA b m_latest m_cells m_wide m_houses m_bowls m_dogs m_gone m_sights m_drawn m_path) [(0, .ref (b 0)), (1, .int x1), (2, .int x2), (3, .int x3), (4, .int (q.1)), (5, .int (q.2))] []) (WE := (fun q : Int32 => At p l e rm_X9_wasOn s m args below meth c D A 0 0 Q 6 46 (wl_X9_wasOn cA b m_latest m_cells m_wide m_houses m_bowls m_dogs m_gone m_sights m_drawn m_path) [(4, .int q)] [])) (fun q r hf hK => k_X9_wasOn_L6 C hA b m_latest m_cells m_wide m_houses m_bowls m_dogs m_gone m_sights m_drawn m_path x1 x2 x3 q.1 q.2 r hf hK)
def f_X9_wasOn (m_path : Nat → Int32) (x1 : Int32) (x2 : Int32) (x3 : Int32) : Option (Int32) :=
  bind1 (loopF (fun q : Int32 × Int32 => f_X9_wasOn_L6 m_path x1 x2 x3 q.1 q.2) FU ((0 : Int32), (0 : Int32))) (fun u1 => gd (isz u1) (some u1))
set_option maxHeartbeats 4000000 in
set_option maxRecDepth 100000 in
theorem k_X9_wasOn (C : Cx RX9 cX9_wasOn 6 D cA p s m args c) (hr : meth.sig.returnType = (some .boolean)) (hlk : meth.locks = false) (hA : ∀ q, s.heap.size ≤ q → va_A ws0 sz q) (b : Nat → Nat) (m_latest : Int32) (m_cells : Int32) (m_wide : Int32) (m_houses : Int32) (m_bowls : Int32) (m_dogs : Int32) (m_gone : Int32) (m_sights : Int32) (m_drawn : Int32) (m_path : Nat → Int32) (x1 : Int32) (x2 : Int32) (x3 : Int32) (r : Int32) (hf : f_X9_wasOn m_path x1 x2 x3 = some r) : At p l e rm_X9_wasOn s m args below meth c D (va_A ws0 sz) 0 0 (MQ below (PostI D r ws0 (wl_X9_wasOn cA b m_latest m_cells m_wide m_houses m_bowls m_dogs m_gone m_sights m_drawn m_path) sz) args s 0 0 (va_A ws0 sz)) 6 0 (wl_X9_wasOn cA b m_latest m_cells m_wide m_houses m_bowls m_dogs m_gone m_sights m_drawn m_path) [(0, .ref (b 0)), (1, .int x1), (2, .int x2), (3, .int x3)] [] := by
  intro H locs ls hP hD hS hl
  have hx := C.1
  have hb := C.2.1
  have hown := C.2.2.2.1
  have hts := C.2.2.2.2.1
  unfold f_X9_wasOn at hf
  refine lv_iconst (pc := 0) (v := 0) hx hb dX9_wasOn_0 ic_0 ?_
  refine lv_istore (pc := 1) (lv' := [(4, .int (0 : Int32)), (0, .ref (b 0)), (1, .int x1), (2, .int x2), (3, .int x3)]) hx hb dX9_wasOn_1 hl (Nat.le_of_ble_eq_true rfl) rfl (fun ls hl => ?_)
  refine lv_iconst (pc := 3) (v := 0) hx hb dX9_wasOn_3 ic_0 ?_
  refine lv_istore (pc := 4) (lv' := [(5, .int (0 : Int32)), (4, .int (0 : Int32)), (0, .ref (b 0)), (1, .int x1), (2, .int x2), (3, .int x3)]) hx hb dX9_wasOn_4 hl (Nat.le_of_ble_eq_true rfl) rfl (fun ls hl => ?_)
  obtain ⟨u1, hq, hf⟩ := bind1_some hf
  refine kl_X9_wasOn_L6 C hA b m_latest m_cells m_wide m_houses m_bowls m_dogs m_gone m_sights m_drawn m_path x1 x2 x3 FU ((0 : Int32), (0 : Int32)) _ hq ?_ H locs ls hP hD hS (lv_sub hl [2, 3, 4, 5, 1, 0] rfl)
  intro H locs ls hP hD hS hl
  have hP : va_P D classes (wl_X9_wasOn cA b m_latest m_cells m_wide m_houses m_bowls m_dogs m_gone m_sights m_drawn m_path) H := hP
  have hD : va_D (va_A ws0 sz) (wl_X9_wasOn cA b m_latest m_cells m_wide m_houses m_bowls m_dogs m_gone m_sights m_drawn m_path) := hD
  have hl : lv_has ls 6 [(4, .int u1)] := hl
  refine lv_iload (pc := 46) hx hb dX9_wasOn_46 (lv_at hl 0 rfl) ?_
  obtain ⟨hg, hf⟩ := gd_some hf
  have hf := Option.some.inj hf
  subst hf
  exact ret_z C hr hlk hg hP hS dX9_wasOn_48
set_option maxRecDepth 100000 in
theorem c_X9_wasOn (l : Launch) (D : va_G) (cA : Nat → ClassId) (b : Nat → Nat) (m_latest : Int32) (m_cells : Int32) (m_wide : Int32) (m_houses : Int32) (m_bowls : Int32) (m_dogs : Int32) (m_gone : Int32) (m_sights : Int32) (m_drawn : Int32) (m_path : Nat → Int32) (x1 : Int32) (x2 : Int32) (x3 : Int32) (r : Int32) (hf : f_X9_wasOn m_path x1 x2 x3 = some r) (sz : Nat) : Met l yX9_wasOn (Cond.code yX9_wasOn cX9_wasOn 6 (some .boolean) :: lw_good) rm_X9_wasOn (PreX D cA [.ref (b 0), .int x1, .int x2, .int x3] sz (wl_X9_wasOn cA b m_latest m_cells m_wide m_houses m_bowls m_dogs m_gone m_sights m_drawn m_path)) (PostI D r (wl_X9_wasOn cA b m_latest m_cells m_wide m_houses m_bowls m_dogs m_gone m_sights m_drawn m_path) (wl_X9_wasOn cA b m_latest m_cells m_wide m_houses m_bowls m_dogs m_gone m_sights m_drawn m_path) sz) 0 0 (va_A (wl_X9_wasOn cA b m_latest m_cells m_wide m_houses m_bowls m_dogs m_gone m_sights m_drawn m_path) sz) :=
  met_of (by decide) (Nat.le_of_ble_eq_true rfl) (fun p e s m args below meth c C hr hlk hA => k_X9_wasOn C hr hlk hA b m_latest m_cells m_wide m_houses m_bowls m_dogs m_gone m_sights m_drawn m_path x1 x2 x3 r hf)
end

abbrev wl_X9_worth (cA : Nat → ClassId) (b : Nat → Nat) (m_latest : Int32) (m_cells : Int32) (m_wide : Int32) (m_houses : Int32) (m_bowls : Int32) (m_dogs : Int32) (m_gone : Int32) (m_sights : Int32) (m_drawn : Int32) (m_cell : Nat → Int32) (m_bowl : Nat → Int32) (m_dog : Nat → Int32) (m_path : Nat → Int32) (m_steps : Nat → Int32) : va_W := [((b 0), .inr (9, [.ref (b 1), .ref (b 2), .ref (b 3), .ref (b 4), .int m_latest, .ref (b 5), .ref (b 6), .int m_cells, .int m_wide, .ref (b 7), .int m_houses, .ref (b 8), .ref (b 9), .int m_bowls, .ref (b 10), .int m_dogs, .ref (b 11), .int m_gone, .ref (b 12), .ref (b 13), .ref (b 14), .int m_sights, .ref (b 15), .ref (b 16), .int m_drawn])), ((b 7), .inl (cA 0, 36, .inl m_cell)), ((b 10), .inl (cA 0, 20, .inl m_bowl)), ((b 11), .inl (cA 0, 16, .inl m_dog)), ((b 12), .inl (cA 0, 250, .inl m_path)), ((b 13), .inl (cA 0, 10, .inl m_steps))]
abbrev rm_X9_worth : Room := { frames := 1, cells := 0, slots := 0, locals := 25 }
section
variable {p : Program} {l : Launch} {e : Env} {s : State} {m : MethodId} {args : Array Value} {below : List Frame} {meth : Method} {c : Code} {D : va_G} {cA : Nat → ClassId} {ws0 : va_W} {sz : Nat} {A : Nat → Prop} {Q : State → Prop}
def f_X9_worth_b117L56 (m_bowls : Int32) (m_gone : Int32) (m_bowl : Nat → Int32) (x1 : Int32) (x2 : Int32) (x4 : Int32) (x6 : Int32) (s0 : Int32) (s1 : Int32) : Option ((Int32 × Int32) ⊕ (Int32)) :=
  letv ((s1 + s0)) (fun v2 => some (.inl (v2, (x6 + 1))))
set_option maxHeartbeats 4000000 in
set_option maxRecDepth 100000 in
theorem k_X9_worth_b117L56 (C : Cx RX9 cX9_worth 7 D cA p s m args c) (hA : ∀ q, s.heap.size ≤ q → A q) (b : Nat → Nat) (m_latest : Int32) (m_cells : Int32) (m_wide : Int32) (m_houses : Int32) (m_bowls : Int32) (m_dogs : Int32) (m_gone : Int32) (m_sights : Int32) (m_drawn : Int32) (m_cell : Nat → Int32) (m_bowl : Nat → Int32) (m_dog : Nat → Int32) (m_path : Nat → Int32) (m_steps : Nat → Int32) (x1 : Int32) (x2 : Int32) (x4 : Int32) (x6 : Int32) (s0 : Int32) (s1 : Int32) (r : (Int32 × Int32) ⊕ (Int32)) (hf : f_X9_worth_b117L56 m_bowls m_gone m_bowl x1 x2 x4 x6 s0 s1 = some r) (hK : Sum.elim (fun q : Int32 × Int32 => At p l e rm_X9_worth s m args below meth c D A 0 0 Q 7 56 (wl_X9_worth cA b m_latest m_cells m_wide m_houses m_bowls m_dogs m_gone m_sights m_drawn m_cell m_bowl m_dog m_path m_steps) [(0, .ref (b 0)), (1, .int x1), (2, .int x2), (4, .int x4), (5, .int (q.1)), (6, .int (q.2))] []) (fun q : Int32 => At p l e rm_X9_worth s m args below meth c D A 0 0 Q 7 126 (wl_X9_worth cA b m_latest m_cells m_wide m_houses m_bowls m_dogs m_gone m_sights m_drawn m_cell m_bowl m_dog m_path m_steps) [(0, .ref (b 0)), (1, .int x1), (2, .int x2), (5, .int q)] []) r) : At p l e rm_X9_worth s m args below meth c D A 0 0 Q 7 117 (wl_X9_worth cA b m_latest m_cells m_wide m_houses m_bowls m_dogs m_gone m_sights m_drawn m_cell m_bowl m_dog m_path m_steps) [(0, .ref (b 0)), (1, .int x1), (2, .int x2), (4, .int x4), (6, .int x6)] [.int s0, .int s1] := by
  intro H locs ls hP hD hS hl
  have hx := C.1
  have hb := C.2.1
  have hown := C.2.2.2.1
  have hts := C.2.2.2.2.1
  unfold f_X9_worth_b117L56 at hf
  refine lv_iadd (pc := 117) hx hb dX9_worth_117 ?_
  obtain ⟨v2, e_v2, hf⟩ := letv_some hf
  refine tp_i e_v2 ?_
  refine lv_istore (pc := 118) (lv' := [(5, .int v2), (0, .ref (b 0)), (1, .int x1), (2, .int x2), (4, .int x4), (6, .int x6)]) hx hb dX9_worth_118 hl (Nat.le_of_ble_eq_true rfl) rfl (fun ls hl => ?_)
  refine lv_iinc (pc := 120) (v := (x6 + 1)) (lv' := [(6, .int (x6 + 1)), (5, .int v2), (0, .ref (b 0)), (1, .int x1), (2, .int x2), (4, .int x4)]) hx hb dX9_worth_120 hl (k := 5) rfl rfl (Nat.le_of_ble_eq_true rfl) rfl (fun ls hl => ?_)
  refine lv_goto (pc := 123) (tgt := 56) hx hb dX9_worth_123 (by decide) ?_
  have hf := Option.some.inj hf
  subst hf
  exact hK H locs ls hP hD hS (lv_sub hl [2, 3, 4, 5, 1, 0] rfl)
def f_X9_worth_b116L56 (m_bowls : Int32) (m_gone : Int32) (m_bowl : Nat → Int32) (x1 : Int32) (x2 : Int32) (x4 : Int32) (x6 : Int32) (s0 : Int32) : Option ((Int32 × Int32) ⊕ (Int32)) :=
  f_X9_worth_b117L56 m_bowls m_gone m_bowl x1 x2 x4 x6 (0 : Int32) s0
set_option maxHeartbeats 4000000 in
set_option maxRecDepth 100000 in
theorem k_X9_worth_b116L56 (C : Cx RX9 cX9_worth 7 D cA p s m args c) (hA : ∀ q, s.heap.size ≤ q → A q) (b : Nat → Nat) (m_latest : Int32) (m_cells : Int32) (m_wide : Int32) (m_houses : Int32) (m_bowls : Int32) (m_dogs : Int32) (m_gone : Int32) (m_sights : Int32) (m_drawn : Int32) (m_cell : Nat → Int32) (m_bowl : Nat → Int32) (m_dog : Nat → Int32) (m_path : Nat → Int32) (m_steps : Nat → Int32) (x1 : Int32) (x2 : Int32) (x4 : Int32) (x6 : Int32) (s0 : Int32) (r : (Int32 × Int32) ⊕ (Int32)) (hf : f_X9_worth_b116L56 m_bowls m_gone m_bowl x1 x2 x4 x6 s0 = some r) (hK : Sum.elim (fun q : Int32 × Int32 => At p l e rm_X9_worth s m args below meth c D A 0 0 Q 7 56 (wl_X9_worth cA b m_latest m_cells m_wide m_houses m_bowls m_dogs m_gone m_sights m_drawn m_cell m_bowl m_dog m_path m_steps) [(0, .ref (b 0)), (1, .int x1), (2, .int x2), (4, .int x4), (5, .int (q.1)), (6, .int (q.2))] []) (fun q : Int32 => At p l e rm_X9_worth s m args below meth c D A 0 0 Q 7 126 (wl_X9_worth cA b m_latest m_cells m_wide m_houses m_bowls m_dogs m_gone m_sights m_drawn m_cell m_bowl m_dog m_path m_steps) [(0, .ref (b 0)), (1, .int x1), (2, .int x2), (5, .int q)] []) r) : At p l e rm_X9_worth s m args below meth c D A 0 0 Q 7 116 (wl_X9_worth cA b m_latest m_cells m_wide m_houses m_bowls m_dogs m_gone m_sights m_drawn m_cell m_bowl m_dog m_path m_steps) [(0, .ref (b 0)), (1, .int x1), (2, .int x2), (4, .int x4), (6, .int x6)] [.int s0] := by
  intro H locs ls hP hD hS hl
  have hx := C.1
  have hb := C.2.1
  have hown := C.2.2.2.1
  have hts := C.2.2.2.2.1
  unfold f_X9_worth_b116L56 at hf
  refine lv_iconst (pc := 116) (v := 0) hx hb dX9_worth_116 ic_0 ?_
  exact k_X9_worth_b117L56 C hA b m_latest m_cells m_wide m_houses m_bowls m_dogs m_gone m_sights m_drawn m_cell m_bowl m_dog m_path m_steps x1 x2 x4 x6 (0 : Int32) s0 r hf hK H locs ls hP hD hS hl
def f_X9_worth_L56 (m_bowls : Int32) (m_gone : Int32) (m_bowl : Nat → Int32) (x1 : Int32) (x2 : Int32) (x4 : Int32) (x5 : Int32) (x6 : Int32) : Option ((Int32 × Int32) ⊕ (Int32)) :=
  if m_bowls ≤ x6 then (some (.inr x5)) else (if x4 = 0 then (f_X9_worth_b116L56 m_bowls m_gone m_bowl x1 x2 x4 x6 x5) else (bind1 (f_X9_isIn m_gone x6) (fun r3 => if r3 = 0 then (gd (inb ((2 : Int32) * x6) 20) (if (m_bowl ((2 : Int32) * x6).toNatClampNeg) = x1 then (gd (inb (((2 : Int32) * x6) + (1 : Int32)) 20) (if (m_bowl (((2 : Int32) * x6) + (1 : Int32)).toNatClampNeg) = x2 then (f_X9_worth_b117L56 m_bowls m_gone m_bowl x1 x2 x4 x6 (4 : Int32) x5) else (f_X9_worth_b116L56 m_bowls m_gone m_bowl x1 x2 x4 x6 x5))) else (f_X9_worth_b116L56 m_bowls m_gone m_bowl x1 x2 x4 x6 x5))) else (f_X9_worth_b116L56 m_bowls m_gone m_bowl x1 x2 x4 x6 x5))))
set_option maxHeartbeats 4000000 in
set_option maxRecDepth 100000 in
theorem k_X9_worth_L56 (C : Cx RX9 cX9_worth 7 D cA p s m args c) (hA : ∀ q, s.heap.size ≤ q → A q) (b : Nat → Nat) (m_latest : Int32) (m_cells : Int32) (m_wide : Int32) (m_houses : Int32) (m_bowls : Int32) (m_dogs : Int32) (m_gone : Int32) (m_sights : Int32) (m_drawn : Int32) (m_cell : Nat → Int32) (m_bowl : Nat → Int32) (m_dog : Nat → Int32) (m_path : Nat → Int32) (m_steps : Nat → Int32) (x1 : Int32) (x2 : Int32) (x4 : Int32) (x5 : Int32) (x6 : Int32) (r : (Int32 × Int32) ⊕ (Int32)) (hf : f_X9_worth_L56 m_bowls m_gone m_bowl x1 x2 x4 x5 x6 = some r) (hK : Sum.elim (fun q : Int32 × Int32 => At p l e rm_X9_worth s m args below meth c D A 0 0 Q 7 56 (wl_X9_worth cA b m_latest m_cells m_wide m_houses m_bowls m_dogs m_gone m_sights m_drawn m_cell m_bowl m_dog m_path m_steps) [(0, .ref (b 0)), (1, .int x1), (2, .int x2), (4, .int x4), (5, .int (q.1)), (6, .int (q.2))] []) (fun q : Int32 => At p l e rm_X9_worth s m args below meth c D A 0 0 Q 7 126 (wl_X9_worth cA b m_latest m_cells m_wide m_houses m_bowls m_dogs m_gone m_sights m_drawn m_cell m_bowl m_dog m_path m_steps) [(0, .ref (b 0)), (1, .int x1), (2, .int x2), (5, .int q)] []) r) : At p l e rm_X9_worth s m args below meth c D A 0 0 Q 7 56 (wl_X9_worth cA b m_latest m_cells m_wide m_houses m_bowls m_dogs m_gone m_sights m_drawn m_cell m_bowl m_dog m_path m_steps) [(0, .ref (b 0)), (1, .int x1), (2, .int x2), (4, .int x4), (5, .int x5), (6, .int x6)] [] := by
  intro H locs ls hP hD hS hl
  have hx := C.1
  have hb := C.2.1
  have hown := C.2.2.2.1
  have hts := C.2.2.2.2.1
  unfold f_X9_worth_L56 at hf
  refine lv_iload (pc := 56) hx hb dX9_worth_56 (lv_at hl 5 rfl) ?_
  refine lv_aload_n (pc := 58) hx hb dX9_worth_58 rfl (lv_at hl 0 rfl) ?_
  refine g_get (pc := 59) C fg_X9_133 hP 0 rfl rfl dX9_worth_59 ?_
  refine lv_icmp_ge (pc := 62) (tgt := 126) hx hb dX9_worth_62 (by decide) (fun hc => ?_) (fun hc => ?_)
  · have hf := (if_pos hc).symm.trans hf
    have hf := Option.some.inj hf
    subst hf
    exact hK H locs ls hP hD hS (lv_sub hl [0, 1, 2, 4] rfl)
  · have hf := (if_neg hc).symm.trans hf
    refine lv_iload (pc := 65) hx hb dX9_worth_65 (lv_at hl 4 rfl) ?_
    refine lv_iload (pc := 67) hx hb dX9_worth_67 (lv_at hl 3 rfl) ?_
    refine lv_if_eq (pc := 69) (tgt := 116) hx hb dX9_worth_69 (by decide) (fun hc => ?_) (fun hc => ?_)
    · have hf := (if_pos hc).symm.trans hf
      exact k_X9_worth_b116L56 C hA b m_latest m_cells m_wide m_houses m_bowls m_dogs m_gone m_sights m_drawn m_cell m_bowl m_dog m_path m_steps x1 x2 x4 x6 x5 r hf hK H locs ls hP hD hS (lv_sub hl [0, 1, 2, 3, 5] rfl)
    · have hf := (if_neg hc).symm.trans hf
      refine lv_aload_n (pc := 72) hx hb dX9_worth_72 rfl (lv_at hl 0 rfl) ?_
      refine g_get (pc := 73) C fg_X9_152 hP 0 rfl rfl dX9_worth_73 ?_
      refine lv_iload (pc := 76) hx hb dX9_worth_76 (lv_at hl 5 rfl) ?_
      obtain ⟨r3, hq, hf⟩ := bind1_some hf
      refine fin2_i (wl_X9_worth cA b m_latest m_cells m_wide m_houses m_bowls m_dogs m_gone m_sights m_drawn m_cell m_bowl m_dog m_path m_steps) (run_S (rest := [.int x5]) (pc := 78) (As := [.int m_gone, .int x6]) C mf_X9_155 (c_X9_isIn l D cA  m_gone x6 r3 hq H.size) rfl rfl ⟨(Nat.le_of_ble_eq_true rfl), (Nat.le_of_ble_eq_true rfl)⟩ (preS_of C hP hD [] rfl (pl_nd pv_2)) rfl hl.1 rfl (Nat.le_of_ble_eq_true rfl) dX9_worth_78 ⟨Nat.zero_le _, Nat.zero_le _⟩) hP hD hS hA [] [0, 1, 2, 3, 4, 5] rfl rfl rfl rfl pv_2 (fun H locs hP hS => ?_)
      refine lv_if_ne (pc := 81) (tgt := 116) hx hb dX9_worth_81 (by decide) (fun hc => ?_) (fun hc => ?_)
      · have hf := (if_neg hc).symm.trans hf
        exact k_X9_worth_b116L56 C hA b m_latest m_cells m_wide m_houses m_bowls m_dogs m_gone m_sights m_drawn m_cell m_bowl m_dog m_path m_steps x1 x2 x4 x6 x5 r hf hK H locs ls hP hD hS (lv_sub hl [0, 1, 2, 3, 5] rfl)
      · have hf := (if_pos hc).symm.trans hf
        refine lv_aload_n (pc := 84) hx hb dX9_worth_84 rfl (lv_at hl 0 rfl) ?_
        refine g_get (pc := 85) C fg_X9_37 hP 0 rfl rfl dX9_worth_85 ?_
        refine lv_iconst (pc := 88) (v := 2) hx hb dX9_worth_88 ic_2 ?_
        refine lv_iload (pc := 89) hx hb dX9_worth_89 (lv_at hl 5 rfl) ?_
        refine lv_imul (pc := 91) hx hb dX9_worth_91 ?_
        obtain ⟨hg, hf⟩ := gd_some hf
        refine g_iald (pc := 92) C hP 2 rfl hg dX9_worth_92 ?_
        refine lv_iload_n (pc := 93) hx hb dX9_worth_93 rfl (lv_at hl 1 rfl) ?_
        refine lv_icmp_ne (pc := 94) (tgt := 116) hx hb dX9_worth_94 (by decide) (fun hc => ?_) (fun hc => ?_)
        · have hf := (if_neg hc).symm.trans hf
          exact k_X9_worth_b116L56 C hA b m_latest m_cells m_wide m_houses m_bowls m_dogs m_gone m_sights m_drawn m_cell m_bowl m_dog m_path m_steps x1 x2 x4 x6 x5 r hf hK H locs ls hP hD hS (lv_sub hl [0, 1, 2, 3, 5] rfl)
        · have hf := (if_pos hc).symm.trans hf
          refine lv_aload_n (pc := 97) hx hb dX9_worth_97 rfl (lv_at hl 0 rfl) ?_
          refine g_get (pc := 98) C fg_X9_37 hP 0 rfl rfl dX9_worth_98 ?_
          refine lv_iconst (pc := 101) (v := 2) hx hb dX9_worth_101 ic_2 ?_
          refine lv_iload (pc := 102) hx hb dX9_worth_102 (lv_at hl 5 rfl) ?_
          refine lv_imul (pc := 104) hx hb dX9_worth_104 ?_
          refine lv_iconst (pc := 105) (v := 1) hx hb dX9_worth_105 ic_1 ?_
          refine lv_iadd (pc := 106) hx hb dX9_worth_106 ?_
          obtain ⟨hg, hf⟩ := gd_some hf
          refine g_iald (pc := 107) C hP 2 rfl hg dX9_worth_107 ?_
          refine lv_iload_n (pc := 108) hx hb dX9_worth_108 rfl (lv_at hl 2 rfl) ?_
          refine lv_icmp_ne (pc := 109) (tgt := 116) hx hb dX9_worth_109 (by decide) (fun hc => ?_) (fun hc => ?_)
          · have hf := (if_neg hc).symm.trans hf
            exact k_X9_worth_b116L56 C hA b m_latest m_cells m_wide m_houses m_bowls m_dogs m_gone m_sights m_drawn m_cell m_bowl m_dog m_path m_steps x1 x2 x4 x6 x5 r hf hK H locs ls hP hD hS (lv_sub hl [0, 1, 2, 3, 5] rfl)
          · have hf := (if_pos hc).symm.trans hf
            refine lv_iconst (pc := 112) (v := 4) hx hb dX9_worth_112 ic_4 ?_
            refine lv_goto (pc := 113) (tgt := 117) hx hb dX9_worth_113 (by decide) ?_
            exact k_X9_worth_b117L56 C hA b m_latest m_cells m_wide m_houses m_bowls m_dogs m_gone m_sights m_drawn m_cell m_bowl m_dog m_path m_steps x1 x2 x4 x6 (4 : Int32) x5 r hf hK H locs ls hP hD hS (lv_sub hl [0, 1, 2, 3, 5] rfl)
theorem kl_X9_worth_L56 (C : Cx RX9 cX9_worth 7 D cA p s m args c) (hA : ∀ q, s.heap.size ≤ q → A q) (b : Nat → Nat) (m_latest : Int32) (m_cells : Int32) (m_wide : Int32) (m_houses : Int32) (m_bowls : Int32) (m_dogs : Int32) (m_gone : Int32) (m_sights : Int32) (m_drawn : Int32) (m_cell : Nat → Int32) (m_bowl : Nat → Int32) (m_dog : Nat → Int32) (m_path : Nat → Int32) (m_steps : Nat → Int32) (x1 : Int32) (x2 : Int32) (x4 : Int32) : ∀ (n : Nat) (q : Int32 × Int32) (z : (Int32)), loopF (fun q : Int32 × Int32 => f_X9_worth_L56 m_bowls m_gone m_bowl x1 x2 x4 q.1 q.2) n q = some z → (fun q : Int32 => At p l e rm_X9_worth s m args below meth c D A 0 0 Q 7 126 (wl_X9_worth cA b m_latest m_cells m_wide m_houses m_bowls m_dogs m_gone m_sights m_drawn m_cell m_bowl m_dog m_path m_steps) [(0, .ref (b 0)), (1, .int x1), (2, .int x2), (5, .int q)] []) z → At p l e rm_X9_worth s m args below meth c D A 0 0 Q 7 56 (wl_X9_worth cA b m_latest m_cells m_wide m_houses m_bowls m_dogs m_gone m_sights m_drawn m_cell m_bowl m_dog m_path m_steps) [(0, .ref (b 0)), (1, .int x1), (2, .int x2), (4, .int x4), (5, .int (q.1)), (6, .int (q.2))] [] :=
  loop_lem (WP := fun q : Int32 × Int32 => At p l e rm_X9_worth s m args below meth c D A 0 0 Q 7 56 (wl_X9_worth cA b m_latest m_cells m_wide m_houses m_bowls m_dogs m_gone m_sights m_drawn m_cell m_bowl m_dog m_path m_steps) [(0, .ref (b 0)), (1, .int x1), (2, .int x2), (4, .int x4), (5, .int (q.1)), (6, .int (q.2))] []) (WE := (fun q : Int32 => At p l e rm_X9_worth s m args below meth c D A 0 0 Q 7 126 (wl_X9_worth cA b m_latest m_cells m_wide m_houses m_bowls m_dogs m_gone m_sights m_drawn m_cell m_bowl m_dog m_path m_steps) [(0, .ref (b 0)), (1, .int x1), (2, .int x2), (5, .int q)] [])) (fun q r hf hK => k_X9_worth_L56 C hA b m_latest m_cells m_wide m_houses m_bowls m_dogs m_gone m_sights m_drawn m_cell m_bowl m_dog m_path m_steps x1 x2 x4 q.1 q.2 r hf hK)
def f_X9_worth_b173L129 (m_dogs : Int32) (m_dog : Nat → Int32) (x1 : Int32) (x2 : Int32) (x6 : Int32) (s0 : Int32) (s1 : Int32) : Option ((Int32 × Int32) ⊕ (Int32)) :=
  letv ((s1 - s0)) (fun v5 => some (.inl (v5, (x6 + 1))))
set_option maxHeartbeats 4000000 in
set_option maxRecDepth 100000 in
theorem k_X9_worth_b173L129 (C : Cx RX9 cX9_worth 7 D cA p s m args c) (hA : ∀ q, s.heap.size ≤ q → A q) (b : Nat → Nat) (m_latest : Int32) (m_cells : Int32) (m_wide : Int32) (m_houses : Int32) (m_bowls : Int32) (m_dogs : Int32) (m_gone : Int32) (m_sights : Int32) (m_drawn : Int32) (m_cell : Nat → Int32) (m_bowl : Nat → Int32) (m_dog : Nat → Int32) (m_path : Nat → Int32) (m_steps : Nat → Int32) (x1 : Int32) (x2 : Int32) (x6 : Int32) (s0 : Int32) (s1 : Int32) (r : (Int32 × Int32) ⊕ (Int32)) (hf : f_X9_worth_b173L129 m_dogs m_dog x1 x2 x6 s0 s1 = some r) (hK : Sum.elim (fun q : Int32 × Int32 => At p l e rm_X9_worth s m args below meth c D A 0 0 Q 7 129 (wl_X9_worth cA b m_latest m_cells m_wide m_houses m_bowls m_dogs m_gone m_sights m_drawn m_cell m_bowl m_dog m_path m_steps) [(0, .ref (b 0)), (1, .int x1), (2, .int x2), (5, .int (q.1)), (6, .int (q.2))] []) (fun q : Int32 => At p l e rm_X9_worth s m args below meth c D A 0 0 Q 7 182 (wl_X9_worth cA b m_latest m_cells m_wide m_houses m_bowls m_dogs m_gone m_sights m_drawn m_cell m_bowl m_dog m_path m_steps) [(0, .ref (b 0)), (1, .int x1), (2, .int x2), (5, .int q)] []) r) : At p l e rm_X9_worth s m args below meth c D A 0 0 Q 7 173 (wl_X9_worth cA b m_latest m_cells m_wide m_houses m_bowls m_dogs m_gone m_sights m_drawn m_cell m_bowl m_dog m_path m_steps) [(0, .ref (b 0)), (1, .int x1), (2, .int x2), (6, .int x6)] [.int s0, .int s1] := by
  intro H locs ls hP hD hS hl
  have hx := C.1
  have hb := C.2.1
  have hown := C.2.2.2.1
  have hts := C.2.2.2.2.1
  unfold f_X9_worth_b173L129 at hf
  refine lv_isub (pc := 173) hx hb dX9_worth_173 ?_
  obtain ⟨v5, e_v5, hf⟩ := letv_some hf
  refine tp_i e_v5 ?_
  refine lv_istore (pc := 174) (lv' := [(5, .int v5), (0, .ref (b 0)), (1, .int x1), (2, .int x2), (6, .int x6)]) hx hb dX9_worth_174 hl (Nat.le_of_ble_eq_true rfl) rfl (fun ls hl => ?_)
  refine lv_iinc (pc := 176) (v := (x6 + 1)) (lv' := [(6, .int (x6 + 1)), (5, .int v5), (0, .ref (b 0)), (1, .int x1), (2, .int x2)]) hx hb dX9_worth_176 hl (k := 4) rfl rfl (Nat.le_of_ble_eq_true rfl) rfl (fun ls hl => ?_)
  refine lv_goto (pc := 179) (tgt := 129) hx hb dX9_worth_179 (by decide) ?_
  have hf := Option.some.inj hf
  subst hf
  exact hK H locs ls hP hD hS (lv_sub hl [2, 3, 4, 1, 0] rfl)
def f_X9_worth_b172L129 (m_dogs : Int32) (m_dog : Nat → Int32) (x1 : Int32) (x2 : Int32) (x6 : Int32) (s0 : Int32) : Option ((Int32 × Int32) ⊕ (Int32)) :=
  f_X9_worth_b173L129 m_dogs m_dog x1 x2 x6 (0 : Int32) s0
set_option maxHeartbeats 4000000 in
set_option maxRecDepth 100000 in
theorem k_X9_worth_b172L129 (C : Cx RX9 cX9_worth 7 D cA p s m args c) (hA : ∀ q, s.heap.size ≤ q → A q) (b : Nat → Nat) (m_latest : Int32) (m_cells : Int32) (m_wide : Int32) (m_houses : Int32) (m_bowls : Int32) (m_dogs : Int32) (m_gone : Int32) (m_sights : Int32) (m_drawn : Int32) (m_cell : Nat → Int32) (m_bowl : Nat → Int32) (m_dog : Nat → Int32) (m_path : Nat → Int32) (m_steps : Nat → Int32) (x1 : Int32) (x2 : Int32) (x6 : Int32) (s0 : Int32) (r : (Int32 × Int32) ⊕ (Int32)) (hf : f_X9_worth_b172L129 m_dogs m_dog x1 x2 x6 s0 = some r) (hK : Sum.elim (fun q : Int32 × Int32 => At p l e rm_X9_worth s m args below meth c D A 0 0 Q 7 129 (wl_X9_worth cA b m_latest m_cells m_wide m_houses m_bowls m_dogs m_gone m_sights m_drawn m_cell m_bowl m_dog m_path m_steps) [(0, .ref (b 0)), (1, .int x1), (2, .int x2), (5, .int (q.1)), (6, .int (q.2))] []) (fun q : Int32 => At p l e rm_X9_worth s m args below meth c D A 0 0 Q 7 182 (wl_X9_worth cA b m_latest m_cells m_wide m_houses m_bowls m_dogs m_gone m_sights m_drawn m_cell m_bowl m_dog m_path m_steps) [(0, .ref (b 0)), (1, .int x1), (2, .int x2), (5, .int q)] []) r) : At p l e rm_X9_worth s m args below meth c D A 0 0 Q 7 172 (wl_X9_worth cA b m_latest m_cells m_wide m_houses m_bowls m_dogs m_gone m_sights m_drawn m_cell m_bowl m_dog m_path m_steps) [(0, .ref (b 0)), (1, .int x1), (2, .int x2), (6, .int x6)] [.int s0] := by
  intro H locs ls hP hD hS hl
  have hx := C.1
  have hb := C.2.1
  have hown := C.2.2.2.1
  have hts := C.2.2.2.2.1
  unfold f_X9_worth_b172L129 at hf
  refine lv_iconst (pc := 172) (v := 0) hx hb dX9_worth_172 ic_0 ?_
  exact k_X9_worth_b173L129 C hA b m_latest m_cells m_wide m_houses m_bowls m_dogs m_gone m_sights m_drawn m_cell m_bowl m_dog m_path m_steps x1 x2 x6 (0 : Int32) s0 r hf hK H locs ls hP hD hS hl
def f_X9_worth_L129 (m_dogs : Int32) (m_dog : Nat → Int32) (x1 : Int32) (x2 : Int32) (x5 : Int32) (x6 : Int32) : Option ((Int32 × Int32) ⊕ (Int32)) :=
  if m_dogs ≤ x6 then (some (.inr x5)) else (gd (inb ((2 : Int32) * x6) 16) (if (m_dog ((2 : Int32) * x6).toNatClampNeg) = x1 then (gd (inb (((2 : Int32) * x6) + (1 : Int32)) 16) (if (m_dog (((2 : Int32) * x6) + (1 : Int32)).toNatClampNeg) = x2 then (f_X9_worth_b173L129 m_dogs m_dog x1 x2 x6 (5 : Int32) x5) else (f_X9_worth_b172L129 m_dogs m_dog x1 x2 x6 x5))) else (f_X9_worth_b172L129 m_dogs m_dog x1 x2 x6 x5)))
set_option maxHeartbeats 4000000 in
set_option maxRecDepth 100000 in
theorem k_X9_worth_L129 (C : Cx RX9 cX9_worth 7 D cA p s m args c) (hA : ∀ q, s.heap.size ≤ q → A q) (b : Nat → Nat) (m_latest : Int32) (m_cells : Int32) (m_wide : Int32) (m_houses : Int32) (m_bowls : Int32) (m_dogs : Int32) (m_gone : Int32) (m_sights : Int32) (m_drawn : Int32) (m_cell : Nat → Int32) (m_bowl : Nat → Int32) (m_dog : Nat → Int32) (m_path : Nat → Int32) (m_steps : Nat → Int32) (x1 : Int32) (x2 : Int32) (x5 : Int32) (x6 : Int32) (r : (Int32 × Int32) ⊕ (Int32)) (hf : f_X9_worth_L129 m_dogs m_dog x1 x2 x5 x6 = some r) (hK : Sum.elim (fun q : Int32 × Int32 => At p l e rm_X9_worth s m args below meth c D A 0 0 Q 7 129 (wl_X9_worth cA b m_latest m_cells m_wide m_houses m_bowls m_dogs m_gone m_sights m_drawn m_cell m_bowl m_dog m_path m_steps) [(0, .ref (b 0)), (1, .int x1), (2, .int x2), (5, .int (q.1)), (6, .int (q.2))] []) (fun q : Int32 => At p l e rm_X9_worth s m args below meth c D A 0 0 Q 7 182 (wl_X9_worth cA b m_latest m_cells m_wide m_houses m_bowls m_dogs m_gone m_sights m_drawn m_cell m_bowl m_dog m_path m_steps) [(0, .ref (b 0)), (1, .int x1), (2, .int x2), (5, .int q)] []) r) : At p l e rm_X9_worth s m args below meth c D A 0 0 Q 7 129 (wl_X9_worth cA b m_latest m_cells m_wide m_houses m_bowls m_dogs m_gone m_sights m_drawn m_cell m_bowl m_dog m_path m_steps) [(0, .ref (b 0)), (1, .int x1), (2, .int x2), (5, .int x5), (6, .int x6)] [] := by
  intro H locs ls hP hD hS hl
  have hx := C.1
  have hb := C.2.1
  have hown := C.2.2.2.1
  have hts := C.2.2.2.2.1
  unfold f_X9_worth_L129 at hf
  refine lv_iload (pc := 129) hx hb dX9_worth_129 (lv_at hl 4 rfl) ?_
  refine lv_aload_n (pc := 131) hx hb dX9_worth_131 rfl (lv_at hl 0 rfl) ?_
  refine g_get (pc := 132) C fg_X9_143 hP 0 rfl rfl dX9_worth_132 ?_
  refine lv_icmp_ge (pc := 135) (tgt := 182) hx hb dX9_worth_135 (by decide) (fun hc => ?_) (fun hc => ?_)
  · have hf := (if_pos hc).symm.trans hf
    have hf := Option.some.inj hf
    subst hf
    exact hK H locs ls hP hD hS (lv_sub hl [0, 1, 2, 3] rfl)
  · have hf := (if_neg hc).symm.trans hf
    refine lv_iload (pc := 138) hx hb dX9_worth_138 (lv_at hl 3 rfl) ?_
    refine lv_aload_n (pc := 140) hx hb dX9_worth_140 rfl (lv_at hl 0 rfl) ?_
    refine g_get (pc := 141) C fg_X9_40 hP 0 rfl rfl dX9_worth_141 ?_
    refine lv_iconst (pc := 144) (v := 2) hx hb dX9_worth_144 ic_2 ?_
    refine lv_iload (pc := 145) hx hb dX9_worth_145 (lv_at hl 4 rfl) ?_
    refine lv_imul (pc := 147) hx hb dX9_worth_147 ?_
    obtain ⟨hg, hf⟩ := gd_some hf
    refine g_iald (pc := 148) C hP 3 rfl hg dX9_worth_148 ?_
    refine lv_iload_n (pc := 149) hx hb dX9_worth_149 rfl (lv_at hl 1 rfl) ?_
    refine lv_icmp_ne (pc := 150) (tgt := 172) hx hb dX9_worth_150 (by decide) (fun hc => ?_) (fun hc => ?_)
    · have hf := (if_neg hc).symm.trans hf
      exact k_X9_worth_b172L129 C hA b m_latest m_cells m_wide m_houses m_bowls m_dogs m_gone m_sights m_drawn m_cell m_bowl m_dog m_path m_steps x1 x2 x6 x5 r hf hK H locs ls hP hD hS (lv_sub hl [0, 1, 2, 4] rfl)
    · have hf := (if_pos hc).symm.trans hf
      refine lv_aload_n (pc := 153) hx hb dX9_worth_153 rfl (lv_at hl 0 rfl) ?_
      refine g_get (pc := 154) C fg_X9_40 hP 0 rfl rfl dX9_worth_154 ?_
      refine lv_iconst (pc := 157) (v := 2) hx hb dX9_worth_157 ic_2 ?_
      refine lv_iload (pc := 158) hx hb dX9_worth_158 (lv_at hl 4 rfl) ?_
      refine lv_imul (pc := 160) hx hb dX9_worth_160 ?_
      refine lv_iconst (pc := 161) (v := 1) hx hb dX9_worth_161 ic_1 ?_
      refine lv_iadd (pc := 162) hx hb dX9_worth_162 ?_
      obtain ⟨hg, hf⟩ := gd_some hf
      refine g_iald (pc := 163) C hP 3 rfl hg dX9_worth_163 ?_
      refine lv_iload_n (pc := 164) hx hb dX9_worth_164 rfl (lv_at hl 2 rfl) ?_
      refine lv_icmp_ne (pc := 165) (tgt := 172) hx hb dX9_worth_165 (by decide) (fun hc => ?_) (fun hc => ?_)
      · have hf := (if_neg hc).symm.trans hf
        exact k_X9_worth_b172L129 C hA b m_latest m_cells m_wide m_houses m_bowls m_dogs m_gone m_sights m_drawn m_cell m_bowl m_dog m_path m_steps x1 x2 x6 x5 r hf hK H locs ls hP hD hS (lv_sub hl [0, 1, 2, 4] rfl)
      · have hf := (if_pos hc).symm.trans hf
        refine lv_iconst (pc := 168) (v := 5) hx hb dX9_worth_168 ic_5 ?_
        refine lv_goto (pc := 169) (tgt := 173) hx hb dX9_worth_169 (by decide) ?_
        exact k_X9_worth_b173L129 C hA b m_latest m_cells m_wide m_houses m_bowls m_dogs m_gone m_sights m_drawn m_cell m_bowl m_dog m_path m_steps x1 x2 x6 (5 : Int32) x5 r hf hK H locs ls hP hD hS (lv_sub hl [0, 1, 2, 4] rfl)
theorem kl_X9_worth_L129 (C : Cx RX9 cX9_worth 7 D cA p s m args c) (hA : ∀ q, s.heap.size ≤ q → A q) (b : Nat → Nat) (m_latest : Int32) (m_cells : Int32) (m_wide : Int32) (m_houses : Int32) (m_bowls : Int32) (m_dogs : Int32) (m_gone : Int32) (m_sights : Int32) (m_drawn : Int32) (m_cell : Nat → Int32) (m_bowl : Nat → Int32) (m_dog : Nat → Int32) (m_path : Nat → Int32) (m_steps : Nat → Int32) (x1 : Int32) (x2 : Int32) : ∀ (n : Nat) (q : Int32 × Int32) (z : (Int32)), loopF (fun q : Int32 × Int32 => f_X9_worth_L129 m_dogs m_dog x1 x2 q.1 q.2) n q = some z → (fun q : Int32 => At p l e rm_X9_worth s m args below meth c D A 0 0 Q 7 182 (wl_X9_worth cA b m_latest m_cells m_wide m_houses m_bowls m_dogs m_gone m_sights m_drawn m_cell m_bowl m_dog m_path m_steps) [(0, .ref (b 0)), (1, .int x1), (2, .int x2), (5, .int q)] []) z → At p l e rm_X9_worth s m args below meth c D A 0 0 Q 7 129 (wl_X9_worth cA b m_latest m_cells m_wide m_houses m_bowls m_dogs m_gone m_sights m_drawn m_cell m_bowl m_dog m_path m_steps) [(0, .ref (b 0)), (1, .int x1), (2, .int x2), (5, .int (q.1)), (6, .int (q.2))] [] :=
  loop_lem (WP := fun q : Int32 × Int32 => At p l e rm_X9_worth s m args below meth c D A 0 0 Q 7 129 (wl_X9_worth cA b m_latest m_cells m_wide m_houses m_bowls m_dogs m_gone m_sights m_drawn m_cell m_bowl m_dog m_path m_steps) [(0, .ref (b 0)), (1, .int x1), (2, .int x2), (5, .int (q.1)), (6, .int (q.2))] []) (WE := (fun q : Int32 => At p l e rm_X9_worth s m args below meth c D A 0 0 Q 7 182 (wl_X9_worth cA b m_latest m_cells m_wide m_houses m_bowls m_dogs m_gone m_sights m_drawn m_cell m_bowl m_dog m_path m_steps) [(0, .ref (b 0)), (1, .int x1), (2, .int x2), (5, .int q)] [])) (fun q r hf hK => k_X9_worth_L129 C hA b m_latest m_cells m_wide m_houses m_bowls m_dogs m_gone m_sights m_drawn m_cell m_bowl m_dog m_path m_steps x1 x2 q.1 q.2 r hf hK)
def f_X9_worth_b212 (m_bowls : Int32) (m_dogs : Int32) (m_gone : Int32) (m_cell : Nat → Int32) (m_bowl : Nat → Int32) (m_dog : Nat → Int32) (m_path : Nat → Int32) (m_steps : Nat → Int32) (s0 : Int32) (s1 : Int32) : Option (Int32) :=
  some (s1 + s0)
set_option maxHeartbeats 4000000 in
set_option maxRecDepth 100000 in
theorem k_X9_worth_b212 (C : Cx RX9 cX9_worth 7 D cA p s m args c) (hr : meth.sig.returnType = (some .int)) (hlk : meth.locks = false) (hA : ∀ q, s.heap.size ≤ q → va_A ws0 sz q) (b : Nat → Nat) (m_latest : Int32) (m_cells : Int32) (m_wide : Int32) (m_houses : Int32) (m_bowls : Int32) (m_dogs : Int32) (m_gone : Int32) (m_sights : Int32) (m_drawn : Int32) (m_cell : Nat → Int32) (m_bowl : Nat → Int32) (m_dog : Nat → Int32) (m_path : Nat → Int32) (m_steps : Nat → Int32) (s0 : Int32) (s1 : Int32) (r : Int32) (hf : f_X9_worth_b212 m_bowls m_dogs m_gone m_cell m_bowl m_dog m_path m_steps s0 s1 = some r) : At p l e rm_X9_worth s m args below meth c D (va_A ws0 sz) 0 0 (MQ below (PostI D r ws0 (wl_X9_worth cA b m_latest m_cells m_wide m_houses m_bowls m_dogs m_gone m_sights m_drawn m_cell m_bowl m_dog m_path m_steps) sz) args s 0 0 (va_A ws0 sz)) 7 212 (wl_X9_worth cA b m_latest m_cells m_wide m_houses m_bowls m_dogs m_gone m_sights m_drawn m_cell m_bowl m_dog m_path m_steps) [] [.int s0, .int s1] := by
  intro H locs ls hP hD hS hl
  have hx := C.1
  have hb := C.2.1
  have hown := C.2.2.2.1
  have hts := C.2.2.2.2.1
  unfold f_X9_worth_b212 at hf
  refine lv_iadd (pc := 212) hx hb dX9_worth_212 ?_
  have hf := Option.some.inj hf
  subst hf
  exact ret_i C hr hlk hP hS dX9_worth_213
def f_X9_worth_b211 (m_bowls : Int32) (m_dogs : Int32) (m_gone : Int32) (m_cell : Nat → Int32) (m_bowl : Nat → Int32) (m_dog : Nat → Int32) (m_path : Nat → Int32) (m_steps : Nat → Int32) (s0 : Int32) : Option (Int32) :=
  f_X9_worth_b212 m_bowls m_dogs m_gone m_cell m_bowl m_dog m_path m_steps (0 : Int32) s0
set_option maxHeartbeats 4000000 in
set_option maxRecDepth 100000 in
theorem k_X9_worth_b211 (C : Cx RX9 cX9_worth 7 D cA p s m args c) (hr : meth.sig.returnType = (some .int)) (hlk : meth.locks = false) (hA : ∀ q, s.heap.size ≤ q → va_A ws0 sz q) (b : Nat → Nat) (m_latest : Int32) (m_cells : Int32) (m_wide : Int32) (m_houses : Int32) (m_bowls : Int32) (m_dogs : Int32) (m_gone : Int32) (m_sights : Int32) (m_drawn : Int32) (m_cell : Nat → Int32) (m_bowl : Nat → Int32) (m_dog : Nat → Int32) (m_path : Nat → Int32) (m_steps : Nat → Int32) (s0 : Int32) (r : Int32) (hf : f_X9_worth_b211 m_bowls m_dogs m_gone m_cell m_bowl m_dog m_path m_steps s0 = some r) : At p l e rm_X9_worth s m args below meth c D (va_A ws0 sz) 0 0 (MQ below (PostI D r ws0 (wl_X9_worth cA b m_latest m_cells m_wide m_houses m_bowls m_dogs m_gone m_sights m_drawn m_cell m_bowl m_dog m_path m_steps) sz) args s 0 0 (va_A ws0 sz)) 7 211 (wl_X9_worth cA b m_latest m_cells m_wide m_houses m_bowls m_dogs m_gone m_sights m_drawn m_cell m_bowl m_dog m_path m_steps) [] [.int s0] := by
  intro H locs ls hP hD hS hl
  have hx := C.1
  have hb := C.2.1
  have hown := C.2.2.2.1
  have hts := C.2.2.2.2.1
  unfold f_X9_worth_b211 at hf
  refine lv_iconst (pc := 211) (v := 0) hx hb dX9_worth_211 ic_0 ?_
  exact k_X9_worth_b212 C hr hlk hA b m_latest m_cells m_wide m_houses m_bowls m_dogs m_gone m_sights m_drawn m_cell m_bowl m_dog m_path m_steps (0 : Int32) s0 r hf H locs ls hP hD hS hl
def f_X9_worth_b51 (m_bowls : Int32) (m_dogs : Int32) (m_gone : Int32) (m_cell : Nat → Int32) (m_bowl : Nat → Int32) (m_dog : Nat → Int32) (m_path : Nat → Int32) (m_steps : Nat → Int32) (x1 : Int32) (x2 : Int32) (x4 : Int32) (s0 : Int32) : Option (Int32) :=
  bind1 (loopF (fun q : Int32 × Int32 => f_X9_worth_L56 m_bowls m_gone m_bowl x1 x2 x4 q.1 q.2) FU (s0, (0 : Int32))) (fun u4 => bind1 (loopF (fun q : Int32 × Int32 => f_X9_worth_L129 m_dogs m_dog x1 x2 q.1 q.2) FU (u4, (0 : Int32))) (fun u6 => if x1 ≤ 0 then (f_X9_worth_b211 m_bowls m_dogs m_gone m_cell m_bowl m_dog m_path m_steps u6) else (gd (inb (x1 - (1 : Int32)) 10) (bind1 (f_X9_wasOn m_path (x1 - (1 : Int32)) x2 (m_steps (x1 - (1 : Int32)).toNatClampNeg)) (fun r7 => if r7 = 0 then (f_X9_worth_b211 m_bowls m_dogs m_gone m_cell m_bowl m_dog m_path m_steps u6) else (f_X9_worth_b212 m_bowls m_dogs m_gone m_cell m_bowl m_dog m_path m_steps (1 : Int32) u6))))))
set_option maxHeartbeats 4000000 in
set_option maxRecDepth 100000 in
theorem k_X9_worth_b51 (C : Cx RX9 cX9_worth 7 D cA p s m args c) (hr : meth.sig.returnType = (some .int)) (hlk : meth.locks = false) (hA : ∀ q, s.heap.size ≤ q → va_A ws0 sz q) (b : Nat → Nat) (m_latest : Int32) (m_cells : Int32) (m_wide : Int32) (m_houses : Int32) (m_bowls : Int32) (m_dogs : Int32) (m_gone : Int32) (m_sights : Int32) (m_drawn : Int32) (m_cell : Nat → Int32) (m_bowl : Nat → Int32) (m_dog : Nat → Int32) (m_path : Nat → Int32) (m_steps : Nat → Int32) (x1 : Int32) (x2 : Int32) (x4 : Int32) (s0 : Int32) (r : Int32) (hf : f_X9_worth_b51 m_bowls m_dogs m_gone m_cell m_bowl m_dog m_path m_steps x1 x2 x4 s0 = some r) : At p l e rm_X9_worth s m args below meth c D (va_A ws0 sz) 0 0 (MQ below (PostI D r ws0 (wl_X9_worth cA b m_latest m_cells m_wide m_houses m_bowls m_dogs m_gone m_sights m_drawn m_cell m_bowl m_dog m_path m_steps) sz) args s 0 0 (va_A ws0 sz)) 7 51 (wl_X9_worth cA b m_latest m_cells m_wide m_houses m_bowls m_dogs m_gone m_sights m_drawn m_cell m_bowl m_dog m_path m_steps) [(0, .ref (b 0)), (1, .int x1), (2, .int x2), (4, .int x4)] [.int s0] := by
  intro H locs ls hP hD hS hl
  have hx := C.1
  have hb := C.2.1
  have hown := C.2.2.2.1
  have hts := C.2.2.2.2.1
  unfold f_X9_worth_b51 at hf
  refine lv_istore (pc := 51) (lv' := [(5, .int s0), (0, .ref (b 0)), (1, .int x1), (2, .int x2), (4, .int x4)]) hx hb dX9_worth_51 hl (Nat.le_of_ble_eq_true rfl) rfl (fun ls hl => ?_)
  refine lv_iconst (pc := 53) (v := 0) hx hb dX9_worth_53 ic_0 ?_
  refine lv_istore (pc := 54) (lv' := [(6, .int (0 : Int32)), (5, .int s0), (0, .ref (b 0)), (1, .int x1), (2, .int x2), (4, .int x4)]) hx hb dX9_worth_54 hl (Nat.le_of_ble_eq_true rfl) rfl (fun ls hl => ?_)
  obtain ⟨u4, hq, hf⟩ := bind1_some hf
  refine kl_X9_worth_L56 C hA b m_latest m_cells m_wide m_houses m_bowls m_dogs m_gone m_sights m_drawn m_cell m_bowl m_dog m_path m_steps x1 x2 x4 FU (s0, (0 : Int32)) _ hq ?_ H locs ls hP hD hS (lv_sub hl [2, 3, 4, 5, 1, 0] rfl)
  intro H locs ls hP hD hS hl
  have hP : va_P D classes (wl_X9_worth cA b m_latest m_cells m_wide m_houses m_bowls m_dogs m_gone m_sights m_drawn m_cell m_bowl m_dog m_path m_steps) H := hP
  have hD : va_D (va_A ws0 sz) (wl_X9_worth cA b m_latest m_cells m_wide m_houses m_bowls m_dogs m_gone m_sights m_drawn m_cell m_bowl m_dog m_path m_steps) := hD
  have hl : lv_has ls 7 [(0, .ref (b 0)), (1, .int x1), (2, .int x2), (5, .int u4)] := hl
  refine lv_iconst (pc := 126) (v := 0) hx hb dX9_worth_126 ic_0 ?_
  refine lv_istore (pc := 127) (lv' := [(6, .int (0 : Int32)), (0, .ref (b 0)), (1, .int x1), (2, .int x2), (5, .int u4)]) hx hb dX9_worth_127 hl (Nat.le_of_ble_eq_true rfl) rfl (fun ls hl => ?_)
  obtain ⟨u6, hq, hf⟩ := bind1_some hf
  refine kl_X9_worth_L129 C hA b m_latest m_cells m_wide m_houses m_bowls m_dogs m_gone m_sights m_drawn m_cell m_bowl m_dog m_path m_steps x1 x2 FU (u4, (0 : Int32)) _ hq ?_ H locs ls hP hD hS (lv_sub hl [1, 2, 3, 4, 0] rfl)
  intro H locs ls hP hD hS hl
  have hP : va_P D classes (wl_X9_worth cA b m_latest m_cells m_wide m_houses m_bowls m_dogs m_gone m_sights m_drawn m_cell m_bowl m_dog m_path m_steps) H := hP
  have hD : va_D (va_A ws0 sz) (wl_X9_worth cA b m_latest m_cells m_wide m_houses m_bowls m_dogs m_gone m_sights m_drawn m_cell m_bowl m_dog m_path m_steps) := hD
  have hl : lv_has ls 7 [(0, .ref (b 0)), (1, .int x1), (2, .int x2), (5, .int u6)] := hl
  refine lv_iload (pc := 182) hx hb dX9_worth_182 (lv_at hl 3 rfl) ?_
  refine lv_iload_n (pc := 184) hx hb dX9_worth_184 rfl (lv_at hl 1 rfl) ?_
  refine lv_if_le (pc := 185) (tgt := 211) hx hb dX9_worth_185 (by decide) (fun hc => ?_) (fun hc => ?_)
  · have hf := (if_pos hc).symm.trans hf
    exact k_X9_worth_b211 C hr hlk hA b m_latest m_cells m_wide m_houses m_bowls m_dogs m_gone m_sights m_drawn m_cell m_bowl m_dog m_path m_steps u6 r hf H locs ls hP hD hS (lv_sub hl [] rfl)
  · have hf := (if_neg hc).symm.trans hf
    refine lv_aload_n (pc := 188) hx hb dX9_worth_188 rfl (lv_at hl 0 rfl) ?_
    refine lv_iload_n (pc := 189) hx hb dX9_worth_189 rfl (lv_at hl 1 rfl) ?_
    refine lv_iconst (pc := 190) (v := 1) hx hb dX9_worth_190 ic_1 ?_
    refine lv_isub (pc := 191) hx hb dX9_worth_191 ?_
    refine lv_iload_n (pc := 192) hx hb dX9_worth_192 rfl (lv_at hl 2 rfl) ?_
    refine lv_aload_n (pc := 193) hx hb dX9_worth_193 rfl (lv_at hl 0 rfl) ?_
    refine g_get (pc := 194) C fg_X9_46 hP 0 rfl rfl dX9_worth_194 ?_
    refine lv_iload_n (pc := 197) hx hb dX9_worth_197 rfl (lv_at hl 1 rfl) ?_
    refine lv_iconst (pc := 198) (v := 1) hx hb dX9_worth_198 ic_1 ?_
    refine lv_isub (pc := 199) hx hb dX9_worth_199 ?_
    obtain ⟨hg, hf⟩ := gd_some hf
    refine g_iald (pc := 200) C hP 5 rfl hg dX9_worth_200 ?_
    obtain ⟨r7, hq, hf⟩ := bind1_some hf
    refine fin2_i (wl_X9_worth cA b m_latest m_cells m_wide m_houses m_bowls m_dogs m_gone m_sights m_drawn m_cell m_bowl m_dog m_path m_steps) (run_V (rest := [.int u6]) (pc := 201) (As := [.int (x1 - (1 : Int32)), .int x2, .int (m_steps (x1 - (1 : Int32)).toNatClampNeg)]) C mf_X9_148 (c_X9_wasOn l D cA b m_latest m_cells m_wide m_houses m_bowls m_dogs m_gone m_sights m_drawn m_path (x1 - (1 : Int32)) x2 (m_steps (x1 - (1 : Int32)).toNatClampNeg) r7 hq H.size) rfl rfl ⟨(Nat.le_of_ble_eq_true rfl), (Nat.le_of_ble_eq_true rfl)⟩ (preV_of C hP hD [0, 4] rfl (pl_nd pv_128) 0 rfl rfl rfl) rfl hl.1 rfl (Nat.le_of_ble_eq_true rfl) dX9_worth_201 ⟨Nat.zero_le _, Nat.zero_le _⟩) hP hD hS hA [0, 4] [1, 2, 3, 5] rfl rfl rfl rfl pv_128 (fun H locs hP hS => ?_)
    refine lv_if_eq (pc := 204) (tgt := 211) hx hb dX9_worth_204 (by decide) (fun hc => ?_) (fun hc => ?_)
    · have hf := (if_pos hc).symm.trans hf
      exact k_X9_worth_b211 C hr hlk hA b m_latest m_cells m_wide m_houses m_bowls m_dogs m_gone m_sights m_drawn m_cell m_bowl m_dog m_path m_steps u6 r hf H locs ls hP hD hS (lv_sub hl [] rfl)
    · have hf := (if_neg hc).symm.trans hf
      refine lv_iconst (pc := 207) (v := 1) hx hb dX9_worth_207 ic_1 ?_
      refine lv_goto (pc := 208) (tgt := 212) hx hb dX9_worth_208 (by decide) ?_
      exact k_X9_worth_b212 C hr hlk hA b m_latest m_cells m_wide m_houses m_bowls m_dogs m_gone m_sights m_drawn m_cell m_bowl m_dog m_path m_steps (1 : Int32) u6 r hf H locs ls hP hD hS (lv_sub hl [] rfl)
def f_X9_worth_b50 (m_bowls : Int32) (m_dogs : Int32) (m_gone : Int32) (m_cell : Nat → Int32) (m_bowl : Nat → Int32) (m_dog : Nat → Int32) (m_path : Nat → Int32) (m_steps : Nat → Int32) (x1 : Int32) (x2 : Int32) (x4 : Int32) : Option (Int32) :=
  f_X9_worth_b51 m_bowls m_dogs m_gone m_cell m_bowl m_dog m_path m_steps x1 x2 x4 (0 : Int32)
set_option maxHeartbeats 4000000 in
set_option maxRecDepth 100000 in
theorem k_X9_worth_b50 (C : Cx RX9 cX9_worth 7 D cA p s m args c) (hr : meth.sig.returnType = (some .int)) (hlk : meth.locks = false) (hA : ∀ q, s.heap.size ≤ q → va_A ws0 sz q) (b : Nat → Nat) (m_latest : Int32) (m_cells : Int32) (m_wide : Int32) (m_houses : Int32) (m_bowls : Int32) (m_dogs : Int32) (m_gone : Int32) (m_sights : Int32) (m_drawn : Int32) (m_cell : Nat → Int32) (m_bowl : Nat → Int32) (m_dog : Nat → Int32) (m_path : Nat → Int32) (m_steps : Nat → Int32) (x1 : Int32) (x2 : Int32) (x4 : Int32) (r : Int32) (hf : f_X9_worth_b50 m_bowls m_dogs m_gone m_cell m_bowl m_dog m_path m_steps x1 x2 x4 = some r) : At p l e rm_X9_worth s m args below meth c D (va_A ws0 sz) 0 0 (MQ below (PostI D r ws0 (wl_X9_worth cA b m_latest m_cells m_wide m_houses m_bowls m_dogs m_gone m_sights m_drawn m_cell m_bowl m_dog m_path m_steps) sz) args s 0 0 (va_A ws0 sz)) 7 50 (wl_X9_worth cA b m_latest m_cells m_wide m_houses m_bowls m_dogs m_gone m_sights m_drawn m_cell m_bowl m_dog m_path m_steps) [(0, .ref (b 0)), (1, .int x1), (2, .int x2), (4, .int x4)] [] := by
  intro H locs ls hP hD hS hl
  have hx := C.1
  have hb := C.2.1
  have hown := C.2.2.2.1
  have hts := C.2.2.2.2.1
  unfold f_X9_worth_b50 at hf
  refine lv_iconst (pc := 50) (v := 0) hx hb dX9_worth_50 ic_0 ?_
  exact k_X9_worth_b51 C hr hlk hA b m_latest m_cells m_wide m_houses m_bowls m_dogs m_gone m_sights m_drawn m_cell m_bowl m_dog m_path m_steps x1 x2 x4 (0 : Int32) r hf H locs ls hP hD hS hl
def f_X9_worth_b15 (m_bowls : Int32) (m_dogs : Int32) (m_gone : Int32) (m_cell : Nat → Int32) (m_bowl : Nat → Int32) (m_dog : Nat → Int32) (m_path : Nat → Int32) (m_steps : Nat → Int32) (x1 : Int32) (x2 : Int32) (s0 : Int32) : Option (Int32) :=
  gd (inb x2 36) (if (m_cell x2.toNatClampNeg) = (2 : Int32) then (f_X9_worth_b51 m_bowls m_dogs m_gone m_cell m_bowl m_dog m_path m_steps x1 x2 s0 (2 : Int32)) else (gd (inb x2 36) (if (m_cell x2.toNatClampNeg) = (3 : Int32) then (if s0 = 0 then (f_X9_worth_b50 m_bowls m_dogs m_gone m_cell m_bowl m_dog m_path m_steps x1 x2 s0) else (f_X9_worth_b51 m_bowls m_dogs m_gone m_cell m_bowl m_dog m_path m_steps x1 x2 s0 (3 : Int32))) else (f_X9_worth_b50 m_bowls m_dogs m_gone m_cell m_bowl m_dog m_path m_steps x1 x2 s0))))
set_option maxHeartbeats 4000000 in
set_option maxRecDepth 100000 in
theorem k_X9_worth_b15 (C : Cx RX9 cX9_worth 7 D cA p s m args c) (hr : meth.sig.returnType = (some .int)) (hlk : meth.locks = false) (hA : ∀ q, s.heap.size ≤ q → va_A ws0 sz q) (b : Nat → Nat) (m_latest : Int32) (m_cells : Int32) (m_wide : Int32) (m_houses : Int32) (m_bowls : Int32) (m_dogs : Int32) (m_gone : Int32) (m_sights : Int32) (m_drawn : Int32) (m_cell : Nat → Int32) (m_bowl : Nat → Int32) (m_dog : Nat → Int32) (m_path : Nat → Int32) (m_steps : Nat → Int32) (x1 : Int32) (x2 : Int32) (s0 : Int32) (r : Int32) (hf : f_X9_worth_b15 m_bowls m_dogs m_gone m_cell m_bowl m_dog m_path m_steps x1 x2 s0 = some r) : At p l e rm_X9_worth s m args below meth c D (va_A ws0 sz) 0 0 (MQ below (PostI D r ws0 (wl_X9_worth cA b m_latest m_cells m_wide m_houses m_bowls m_dogs m_gone m_sights m_drawn m_cell m_bowl m_dog m_path m_steps) sz) args s 0 0 (va_A ws0 sz)) 7 15 (wl_X9_worth cA b m_latest m_cells m_wide m_houses m_bowls m_dogs m_gone m_sights m_drawn m_cell m_bowl m_dog m_path m_steps) [(0, .ref (b 0)), (1, .int x1), (2, .int x2)] [.int s0] := by
  intro H locs ls hP hD hS hl
  have hx := C.1
  have hb := C.2.1
  have hown := C.2.2.2.1
  have hts := C.2.2.2.2.1
  unfold f_X9_worth_b15 at hf
  refine lv_istore (pc := 15) (lv' := [(4, .int s0), (0, .ref (b 0)), (1, .int x1), (2, .int x2)]) hx hb dX9_worth_15 hl (Nat.le_of_ble_eq_true rfl) rfl (fun ls hl => ?_)
  refine lv_aload_n (pc := 17) hx hb dX9_worth_17 rfl (lv_at hl 1 rfl) ?_
  refine g_get (pc := 18) C fg_X9_28 hP 0 rfl rfl dX9_worth_18 ?_
  refine lv_iload_n (pc := 21) hx hb dX9_worth_21 rfl (lv_at hl 3 rfl) ?_
  obtain ⟨hg, hf⟩ := gd_some hf
  refine g_iald (pc := 22) C hP 1 rfl hg dX9_worth_22 ?_
  refine lv_iconst (pc := 23) (v := 2) hx hb dX9_worth_23 ic_2 ?_
  refine lv_icmp_ne (pc := 24) (tgt := 31) hx hb dX9_worth_24 (by decide) (fun hc => ?_) (fun hc => ?_)
  · have hf := (if_neg hc).symm.trans hf
    refine lv_aload_n (pc := 31) hx hb dX9_worth_31 rfl (lv_at hl 1 rfl) ?_
    refine g_get (pc := 32) C fg_X9_28 hP 0 rfl rfl dX9_worth_32 ?_
    refine lv_iload_n (pc := 35) hx hb dX9_worth_35 rfl (lv_at hl 3 rfl) ?_
    obtain ⟨hg, hf⟩ := gd_some hf
    refine g_iald (pc := 36) C hP 1 rfl hg dX9_worth_36 ?_
    refine lv_iconst (pc := 37) (v := 3) hx hb dX9_worth_37 ic_3 ?_
    refine lv_icmp_ne (pc := 38) (tgt := 50) hx hb dX9_worth_38 (by decide) (fun hc => ?_) (fun hc => ?_)
    · have hf := (if_neg hc).symm.trans hf
      exact k_X9_worth_b50 C hr hlk hA b m_latest m_cells m_wide m_houses m_bowls m_dogs m_gone m_sights m_drawn m_cell m_bowl m_dog m_path m_steps x1 x2 s0 r hf H locs ls hP hD hS (lv_sub hl [1, 2, 3, 0] rfl)
    · have hf := (if_pos hc).symm.trans hf
      refine lv_iload (pc := 41) hx hb dX9_worth_41 (lv_at hl 0 rfl) ?_
      refine lv_if_eq (pc := 43) (tgt := 50) hx hb dX9_worth_43 (by decide) (fun hc => ?_) (fun hc => ?_)
      · have hf := (if_pos hc).symm.trans hf
        exact k_X9_worth_b50 C hr hlk hA b m_latest m_cells m_wide m_houses m_bowls m_dogs m_gone m_sights m_drawn m_cell m_bowl m_dog m_path m_steps x1 x2 s0 r hf H locs ls hP hD hS (lv_sub hl [1, 2, 3, 0] rfl)
      · have hf := (if_neg hc).symm.trans hf
        refine lv_iconst (pc := 46) (v := 3) hx hb dX9_worth_46 ic_3 ?_
        refine lv_goto (pc := 47) (tgt := 51) hx hb dX9_worth_47 (by decide) ?_
        exact k_X9_worth_b51 C hr hlk hA b m_latest m_cells m_wide m_houses m_bowls m_dogs m_gone m_sights m_drawn m_cell m_bowl m_dog m_path m_steps x1 x2 s0 (3 : Int32) r hf H locs ls hP hD hS (lv_sub hl [1, 2, 3, 0] rfl)
  · have hf := (if_pos hc).symm.trans hf
    refine lv_iconst (pc := 27) (v := 2) hx hb dX9_worth_27 ic_2 ?_
    refine lv_goto (pc := 28) (tgt := 51) hx hb dX9_worth_28 (by decide) ?_
    exact k_X9_worth_b51 C hr hlk hA b m_latest m_cells m_wide m_houses m_bowls m_dogs m_gone m_sights m_drawn m_cell m_bowl m_dog m_path m_steps x1 x2 s0 (2 : Int32) r hf H locs ls hP hD hS (lv_sub hl [1, 2, 3, 0] rfl)
def f_X9_worth (m_bowls : Int32) (m_dogs : Int32) (m_gone : Int32) (m_cell : Nat → Int32) (m_bowl : Nat → Int32) (m_dog : Nat → Int32) (m_path : Nat → Int32) (m_steps : Nat → Int32) (x1 : Int32) (x2 : Int32) (x3 : Int32) : Option (Int32) :=
  bind1 (f_X9_wasOn m_path x1 x2 x3) (fun r1 => if r1 = 0 then (f_X9_worth_b15 m_bowls m_dogs m_gone m_cell m_bowl m_dog m_path m_steps x1 x2 (1 : Int32)) else (f_X9_worth_b15 m_bowls m_dogs m_gone m_cell m_bowl m_dog m_path m_steps x1 x2 (0 : Int32)))
set_option maxHeartbeats 4000000 in
set_option maxRecDepth 100000 in
theorem k_X9_worth (C : Cx RX9 cX9_worth 7 D cA p s m args c) (hr : meth.sig.returnType = (some .int)) (hlk : meth.locks = false) (hA : ∀ q, s.heap.size ≤ q → va_A ws0 sz q) (b : Nat → Nat) (m_latest : Int32) (m_cells : Int32) (m_wide : Int32) (m_houses : Int32) (m_bowls : Int32) (m_dogs : Int32) (m_gone : Int32) (m_sights : Int32) (m_drawn : Int32) (m_cell : Nat → Int32) (m_bowl : Nat → Int32) (m_dog : Nat → Int32) (m_path : Nat → Int32) (m_steps : Nat → Int32) (x1 : Int32) (x2 : Int32) (x3 : Int32) (r : Int32) (hf : f_X9_worth m_bowls m_dogs m_gone m_cell m_bowl m_dog m_path m_steps x1 x2 x3 = some r) : At p l e rm_X9_worth s m args below meth c D (va_A ws0 sz) 0 0 (MQ below (PostI D r ws0 (wl_X9_worth cA b m_latest m_cells m_wide m_houses m_bowls m_dogs m_gone m_sights m_drawn m_cell m_bowl m_dog m_path m_steps) sz) args s 0 0 (va_A ws0 sz)) 7 0 (wl_X9_worth cA b m_latest m_cells m_wide m_houses m_bowls m_dogs m_gone m_sights m_drawn m_cell m_bowl m_dog m_path m_steps) [(0, .ref (b 0)), (1, .int x1), (2, .int x2), (3, .int x3)] [] := by
  intro H locs ls hP hD hS hl
  have hx := C.1
  have hb := C.2.1
  have hown := C.2.2.2.1
  have hts := C.2.2.2.2.1
  unfold f_X9_worth at hf
  refine lv_aload_n (pc := 0) hx hb dX9_worth_0 rfl (lv_at hl 0 rfl) ?_
  refine lv_iload_n (pc := 1) hx hb dX9_worth_1 rfl (lv_at hl 1 rfl) ?_
  refine lv_iload_n (pc := 2) hx hb dX9_worth_2 rfl (lv_at hl 2 rfl) ?_
  refine lv_iload_n (pc := 3) hx hb dX9_worth_3 rfl (lv_at hl 3 rfl) ?_
  obtain ⟨r1, hq, hf⟩ := bind1_some hf
  refine fin2_i (wl_X9_worth cA b m_latest m_cells m_wide m_houses m_bowls m_dogs m_gone m_sights m_drawn m_cell m_bowl m_dog m_path m_steps) (run_V (rest := []) (pc := 4) (As := [.int x1, .int x2, .int x3]) C mf_X9_148 (c_X9_wasOn l D cA b m_latest m_cells m_wide m_houses m_bowls m_dogs m_gone m_sights m_drawn m_path x1 x2 x3 r1 hq H.size) rfl rfl ⟨(Nat.le_of_ble_eq_true rfl), (Nat.le_of_ble_eq_true rfl)⟩ (preV_of C hP hD [0, 4] rfl (pl_nd pv_128) 0 rfl rfl rfl) rfl hl.1 rfl (Nat.le_of_ble_eq_true rfl) dX9_worth_4 ⟨Nat.zero_le _, Nat.zero_le _⟩) hP hD hS hA [0, 4] [1, 2, 3, 5] rfl rfl rfl rfl pv_128 (fun H locs hP hS => ?_)
  refine lv_if_ne (pc := 7) (tgt := 14) hx hb dX9_worth_7 (by decide) (fun hc => ?_) (fun hc => ?_)
  · have hf := (if_neg hc).symm.trans hf
    refine lv_iconst (pc := 14) (v := 0) hx hb dX9_worth_14 ic_0 ?_
    exact k_X9_worth_b15 C hr hlk hA b m_latest m_cells m_wide m_houses m_bowls m_dogs m_gone m_sights m_drawn m_cell m_bowl m_dog m_path m_steps x1 x2 (0 : Int32) r hf H locs ls hP hD hS (lv_sub hl [0, 1, 2] rfl)
  · have hf := (if_pos hc).symm.trans hf
    refine lv_iconst (pc := 10) (v := 1) hx hb dX9_worth_10 ic_1 ?_
    refine lv_goto (pc := 11) (tgt := 15) hx hb dX9_worth_11 (by decide) ?_
    exact k_X9_worth_b15 C hr hlk hA b m_latest m_cells m_wide m_houses m_bowls m_dogs m_gone m_sights m_drawn m_cell m_bowl m_dog m_path m_steps x1 x2 (1 : Int32) r hf H locs ls hP hD hS (lv_sub hl [0, 1, 2] rfl)
set_option maxRecDepth 100000 in
theorem c_X9_worth (l : Launch) (D : va_G) (cA : Nat → ClassId) (b : Nat → Nat) (m_latest : Int32) (m_cells : Int32) (m_wide : Int32) (m_houses : Int32) (m_bowls : Int32) (m_dogs : Int32) (m_gone : Int32) (m_sights : Int32) (m_drawn : Int32) (m_cell : Nat → Int32) (m_bowl : Nat → Int32) (m_dog : Nat → Int32) (m_path : Nat → Int32) (m_steps : Nat → Int32) (x1 : Int32) (x2 : Int32) (x3 : Int32) (r : Int32) (hf : f_X9_worth m_bowls m_dogs m_gone m_cell m_bowl m_dog m_path m_steps x1 x2 x3 = some r) (sz : Nat) : Met l yX9_worth (Cond.code yX9_worth cX9_worth 7 (some .int) :: lw_good) rm_X9_worth (PreX D cA [.ref (b 0), .int x1, .int x2, .int x3] sz (wl_X9_worth cA b m_latest m_cells m_wide m_houses m_bowls m_dogs m_gone m_sights m_drawn m_cell m_bowl m_dog m_path m_steps)) (PostI D r (wl_X9_worth cA b m_latest m_cells m_wide m_houses m_bowls m_dogs m_gone m_sights m_drawn m_cell m_bowl m_dog m_path m_steps) (wl_X9_worth cA b m_latest m_cells m_wide m_houses m_bowls m_dogs m_gone m_sights m_drawn m_cell m_bowl m_dog m_path m_steps) sz) 0 0 (va_A (wl_X9_worth cA b m_latest m_cells m_wide m_houses m_bowls m_dogs m_gone m_sights m_drawn m_cell m_bowl m_dog m_path m_steps) sz) :=
  met_of (by decide) (Nat.le_of_ble_eq_true rfl) (fun p e s m args below meth c C hr hlk hA => k_X9_worth C hr hlk hA b m_latest m_cells m_wide m_houses m_bowls m_dogs m_gone m_sights m_drawn m_cell m_bowl m_dog m_path m_steps x1 x2 x3 r hf)
end

abbrev wl_X9_next (cA : Nat → ClassId) (b : Nat → Nat) (m_latest : Int32) (m_cells : Int32) (m_wide : Int32) (m_houses : Int32) (m_bowls : Int32) (m_dogs : Int32) (m_gone : Int32) (m_sights : Int32) (m_drawn : Int32) (m_cell : Nat → Int32) (m_bowl : Nat → Int32) (m_dog : Nat → Int32) (m_path : Nat → Int32) (m_steps : Nat → Int32) : va_W := [((b 0), .inr (9, [.ref (b 1), .ref (b 2), .ref (b 3), .ref (b 4), .int m_latest, .ref (b 5), .ref (b 6), .int m_cells, .int m_wide, .ref (b 7), .int m_houses, .ref (b 8), .ref (b 9), .int m_bowls, .ref (b 10), .int m_dogs, .ref (b 11), .int m_gone, .ref (b 12), .ref (b 13), .ref (b 14), .int m_sights, .ref (b 15), .ref (b 16), .int m_drawn])), ((b 7), .inl (cA 0, 36, .inl m_cell)), ((b 10), .inl (cA 0, 20, .inl m_bowl)), ((b 11), .inl (cA 0, 16, .inl m_dog)), ((b 12), .inl (cA 0, 250, .inl m_path)), ((b 13), .inl (cA 0, 10, .inl m_steps))]
abbrev rm_X9_next : Room := { frames := 2, cells := 0, slots := 0, locals := 51 }
section
variable {p : Program} {l : Launch} {e : Env} {s : State} {m : MethodId} {args : Array Value} {below : List Frame} {meth : Method} {c : Code} {D : va_G} {cA : Nat → ClassId} {ws0 : va_W} {sz : Nat} {A : Nat → Prop} {Q : State → Prop}
def f_X9_next_b130L44 (m_cells : Int32) (m_wide : Int32) (m_bowls : Int32) (m_dogs : Int32) (m_gone : Int32) (m_cell : Nat → Int32) (m_bowl : Nat → Int32) (m_dog : Nat → Int32) (m_path : Nat → Int32) (m_steps : Nat → Int32) (x1 : Int32) (x2 : Int32) (x3 : Int32) (x4 : Int32) (x5 : Int32) (x6 : Int32) (x7 : Int32) : Option ((Int32 × Int32 × Int32) ⊕ (Int32)) :=
  some (.inl (x5, x6, (x7 + 1)))
set_option maxHeartbeats 4000000 in
set_option maxRecDepth 100000 in
theorem k_X9_next_b130L44 (C : Cx RX9 cX9_next 11 D cA p s m args c) (hA : ∀ q, s.heap.size ≤ q → A q) (b : Nat → Nat) (m_latest : Int32) (m_cells : Int32) (m_wide : Int32) (m_houses : Int32) (m_bowls : Int32) (m_dogs : Int32) (m_gone : Int32) (m_sights : Int32) (m_drawn : Int32) (m_cell : Nat → Int32) (m_bowl : Nat → Int32) (m_dog : Nat → Int32) (m_path : Nat → Int32) (m_steps : Nat → Int32) (x1 : Int32) (x2 : Int32) (x3 : Int32) (x4 : Int32) (x5 : Int32) (x6 : Int32) (x7 : Int32) (r : (Int32 × Int32 × Int32) ⊕ (Int32)) (hf : f_X9_next_b130L44 m_cells m_wide m_bowls m_dogs m_gone m_cell m_bowl m_dog m_path m_steps x1 x2 x3 x4 x5 x6 x7 = some r) (hK : Sum.elim (fun q : Int32 × Int32 × Int32 => At p l e rm_X9_next s m args below meth c D A 0 0 Q 11 44 (wl_X9_next cA b m_latest m_cells m_wide m_houses m_bowls m_dogs m_gone m_sights m_drawn m_cell m_bowl m_dog m_path m_steps) [(0, .ref (b 0)), (1, .int x1), (2, .int x2), (3, .int x3), (4, .int x4), (5, .int (q.1)), (6, .int (q.2.1)), (7, .int (q.2.2))] []) (fun q : Int32 => At p l e rm_X9_next s m args below meth c D A 0 0 Q 11 136 (wl_X9_next cA b m_latest m_cells m_wide m_houses m_bowls m_dogs m_gone m_sights m_drawn m_cell m_bowl m_dog m_path m_steps) [(4, .int x4), (5, .int q)] []) r) : At p l e rm_X9_next s m args below meth c D A 0 0 Q 11 130 (wl_X9_next cA b m_latest m_cells m_wide m_houses m_bowls m_dogs m_gone m_sights m_drawn m_cell m_bowl m_dog m_path m_steps) [(0, .ref (b 0)), (1, .int x1), (2, .int x2), (3, .int x3), (4, .int x4), (5, .int x5), (6, .int x6), (7, .int x7)] [] := by
  intro H locs ls hP hD hS hl
  have hx := C.1
  have hb := C.2.1
  have hown := C.2.2.2.1
  have hts := C.2.2.2.2.1
  unfold f_X9_next_b130L44 at hf
  refine lv_iinc (pc := 130) (v := (x7 + 1)) (lv' := [(7, .int (x7 + 1)), (0, .ref (b 0)), (1, .int x1), (2, .int x2), (3, .int x3), (4, .int x4), (5, .int x5), (6, .int x6)]) hx hb dX9_next_130 hl (k := 7) rfl rfl (Nat.le_of_ble_eq_true rfl) rfl (fun ls hl => ?_)
  refine lv_goto (pc := 133) (tgt := 44) hx hb dX9_next_133 (by decide) ?_
  have hf := Option.some.inj hf
  subst hf
  exact hK H locs ls hP hD hS (lv_sub hl [1, 2, 3, 4, 5, 6, 7, 0] rfl)
def f_X9_next_b128L44 (m_cells : Int32) (m_wide : Int32) (m_bowls : Int32) (m_dogs : Int32) (m_gone : Int32) (m_cell : Nat → Int32) (m_bowl : Nat → Int32) (m_dog : Nat → Int32) (m_path : Nat → Int32) (m_steps : Nat → Int32) (x1 : Int32) (x2 : Int32) (x3 : Int32) (x4 : Int32) (x5 : Int32) (x7 : Int32) (s0 : Int32) : Option ((Int32 × Int32 × Int32) ⊕ (Int32)) :=
  f_X9_next_b130L44 m_cells m_wide m_bowls m_dogs m_gone m_cell m_bowl m_dog m_path m_steps x1 x2 x3 x4 x5 s0 x7
set_option maxHeartbeats 4000000 in
set_option maxRecDepth 100000 in
theorem k_X9_next_b128L44 (C : Cx RX9 cX9_next 11 D cA p s m args c) (hA : ∀ q, s.heap.size ≤ q → A q) (b : Nat → Nat) (m_latest : Int32) (m_cells : Int32) (m_wide : Int32) (m_houses : Int32) (m_bowls : Int32) (m_dogs : Int32) (m_gone : Int32) (m_sights : Int32) (m_drawn : Int32) (m_cell : Nat → Int32) (m_bowl : Nat → Int32) (m_dog : Nat → Int32) (m_path : Nat → Int32) (m_steps : Nat → Int32) (x1 : Int32) (x2 : Int32) (x3 : Int32) (x4 : Int32) (x5 : Int32) (x7 : Int32) (s0 : Int32) (r : (Int32 × Int32 × Int32) ⊕ (Int32)) (hf : f_X9_next_b128L44 m_cells m_wide m_bowls m_dogs m_gone m_cell m_bowl m_dog m_path m_steps x1 x2 x3 x4 x5 x7 s0 = some r) (hK : Sum.elim (fun q : Int32 × Int32 × Int32 => At p l e rm_X9_next s m args below meth c D A 0 0 Q 11 44 (wl_X9_next cA b m_latest m_cells m_wide m_houses m_bowls m_dogs m_gone m_sights m_drawn m_cell m_bowl m_dog m_path m_steps) [(0, .ref (b 0)), (1, .int x1), (2, .int x2), (3, .int x3), (4, .int x4), (5, .int (q.1)), (6, .int (q.2.1)), (7, .int (q.2.2))] []) (fun q : Int32 => At p l e rm_X9_next s m args below meth c D A 0 0 Q 11 136 (wl_X9_next cA b m_latest m_cells m_wide m_houses m_bowls m_dogs m_gone m_sights m_drawn m_cell m_bowl m_dog m_path m_steps) [(4, .int x4), (5, .int q)] []) r) : At p l e rm_X9_next s m args below meth c D A 0 0 Q 11 128 (wl_X9_next cA b m_latest m_cells m_wide m_houses m_bowls m_dogs m_gone m_sights m_drawn m_cell m_bowl m_dog m_path m_steps) [(0, .ref (b 0)), (1, .int x1), (2, .int x2), (3, .int x3), (4, .int x4), (5, .int x5), (7, .int x7)] [.int s0] := by
  intro H locs ls hP hD hS hl
  have hx := C.1
  have hb := C.2.1
  have hown := C.2.2.2.1
  have hts := C.2.2.2.2.1
  unfold f_X9_next_b128L44 at hf
  refine lv_istore (pc := 128) (lv' := [(6, .int s0), (0, .ref (b 0)), (1, .int x1), (2, .int x2), (3, .int x3), (4, .int x4), (5, .int x5), (7, .int x7)]) hx hb dX9_next_128 hl (Nat.le_of_ble_eq_true rfl) rfl (fun ls hl => ?_)
  exact k_X9_next_b130L44 C hA b m_latest m_cells m_wide m_houses m_bowls m_dogs m_gone m_sights m_drawn m_cell m_bowl m_dog m_path m_steps x1 x2 x3 x4 x5 s0 x7 r hf hK H locs ls hP hD hS (lv_sub hl [1, 2, 3, 4, 5, 6, 0, 7] rfl)
def f_X9_next_b114L44 (m_cells : Int32) (m_wide : Int32) (m_bowls : Int32) (m_dogs : Int32) (m_gone : Int32) (m_cell : Nat → Int32) (m_bowl : Nat → Int32) (m_dog : Nat → Int32) (m_path : Nat → Int32) (m_steps : Nat → Int32) (x1 : Int32) (x2 : Int32) (x3 : Int32) (x4 : Int32) (x6 : Int32) (x7 : Int32) (x9 : Int32) (x10 : Int32) (s0 : Int32) : Option ((Int32 × Int32 × Int32) ⊕ (Int32)) :=
  if x10 = 0 then (f_X9_next_b128L44 m_cells m_wide m_bowls m_dogs m_gone m_cell m_bowl m_dog m_path m_steps x1 x2 x3 x4 s0 x7 x6) else (f_X9_next_b128L44 m_cells m_wide m_bowls m_dogs m_gone m_cell m_bowl m_dog m_path m_steps x1 x2 x3 x4 s0 x7 x9)
set_option maxHeartbeats 4000000 in
set_option maxRecDepth 100000 in
theorem k_X9_next_b114L44 (C : Cx RX9 cX9_next 11 D cA p s m args c) (hA : ∀ q, s.heap.size ≤ q → A q) (b : Nat → Nat) (m_latest : Int32) (m_cells : Int32) (m_wide : Int32) (m_houses : Int32) (m_bowls : Int32) (m_dogs : Int32) (m_gone : Int32) (m_sights : Int32) (m_drawn : Int32) (m_cell : Nat → Int32) (m_bowl : Nat → Int32) (m_dog : Nat → Int32) (m_path : Nat → Int32) (m_steps : Nat → Int32) (x1 : Int32) (x2 : Int32) (x3 : Int32) (x4 : Int32) (x6 : Int32) (x7 : Int32) (x9 : Int32) (x10 : Int32) (s0 : Int32) (r : (Int32 × Int32 × Int32) ⊕ (Int32)) (hf : f_X9_next_b114L44 m_cells m_wide m_bowls m_dogs m_gone m_cell m_bowl m_dog m_path m_steps x1 x2 x3 x4 x6 x7 x9 x10 s0 = some r) (hK : Sum.elim (fun q : Int32 × Int32 × Int32 => At p l e rm_X9_next s m args below meth c D A 0 0 Q 11 44 (wl_X9_next cA b m_latest m_cells m_wide m_houses m_bowls m_dogs m_gone m_sights m_drawn m_cell m_bowl m_dog m_path m_steps) [(0, .ref (b 0)), (1, .int x1), (2, .int x2), (3, .int x3), (4, .int x4), (5, .int (q.1)), (6, .int (q.2.1)), (7, .int (q.2.2))] []) (fun q : Int32 => At p l e rm_X9_next s m args below meth c D A 0 0 Q 11 136 (wl_X9_next cA b m_latest m_cells m_wide m_houses m_bowls m_dogs m_gone m_sights m_drawn m_cell m_bowl m_dog m_path m_steps) [(4, .int x4), (5, .int q)] []) r) : At p l e rm_X9_next s m args below meth c D A 0 0 Q 11 114 (wl_X9_next cA b m_latest m_cells m_wide m_houses m_bowls m_dogs m_gone m_sights m_drawn m_cell m_bowl m_dog m_path m_steps) [(0, .ref (b 0)), (1, .int x1), (2, .int x2), (3, .int x3), (4, .int x4), (6, .int x6), (7, .int x7), (9, .int x9), (10, .int x10)] [.int s0] := by
  intro H locs ls hP hD hS hl
  have hx := C.1
  have hb := C.2.1
  have hown := C.2.2.2.1
  have hts := C.2.2.2.2.1
  unfold f_X9_next_b114L44 at hf
  refine lv_istore (pc := 114) (lv' := [(5, .int s0), (0, .ref (b 0)), (1, .int x1), (2, .int x2), (3, .int x3), (4, .int x4), (6, .int x6), (7, .int x7), (9, .int x9), (10, .int x10)]) hx hb dX9_next_114 hl (Nat.le_of_ble_eq_true rfl) rfl (fun ls hl => ?_)
  refine lv_iload (pc := 116) hx hb dX9_next_116 (lv_at hl 9 rfl) ?_
  refine lv_if_eq (pc := 118) (tgt := 126) hx hb dX9_next_118 (by decide) (fun hc => ?_) (fun hc => ?_)
  · have hf := (if_pos hc).symm.trans hf
    refine lv_iload (pc := 126) hx hb dX9_next_126 (lv_at hl 6 rfl) ?_
    exact k_X9_next_b128L44 C hA b m_latest m_cells m_wide m_houses m_bowls m_dogs m_gone m_sights m_drawn m_cell m_bowl m_dog m_path m_steps x1 x2 x3 x4 s0 x7 x6 r hf hK H locs ls hP hD hS (lv_sub hl [1, 2, 3, 4, 5, 0, 7] rfl)
  · have hf := (if_neg hc).symm.trans hf
    refine lv_iload (pc := 121) hx hb dX9_next_121 (lv_at hl 8 rfl) ?_
    refine lv_goto (pc := 123) (tgt := 128) hx hb dX9_next_123 (by decide) ?_
    exact k_X9_next_b128L44 C hA b m_latest m_cells m_wide m_houses m_bowls m_dogs m_gone m_sights m_drawn m_cell m_bowl m_dog m_path m_steps x1 x2 x3 x4 s0 x7 x9 r hf hK H locs ls hP hD hS (lv_sub hl [1, 2, 3, 4, 5, 0, 7] rfl)
def f_X9_next_b100L44 (m_cells : Int32) (m_wide : Int32) (m_bowls : Int32) (m_dogs : Int32) (m_gone : Int32) (m_cell : Nat → Int32) (m_bowl : Nat → Int32) (m_dog : Nat → Int32) (m_path : Nat → Int32) (m_steps : Nat → Int32) (x1 : Int32) (x2 : Int32) (x3 : Int32) (x4 : Int32) (x5 : Int32) (x6 : Int32) (x7 : Int32) (x8 : Int32) (x9 : Int32) (s0 : Int32) : Option ((Int32 × Int32 × Int32) ⊕ (Int32)) :=
  if s0 = 0 then (f_X9_next_b114L44 m_cells m_wide m_bowls m_dogs m_gone m_cell m_bowl m_dog m_path m_steps x1 x2 x3 x4 x6 x7 x9 s0 x5) else (f_X9_next_b114L44 m_cells m_wide m_bowls m_dogs m_gone m_cell m_bowl m_dog m_path m_steps x1 x2 x3 x4 x6 x7 x9 s0 x8)
set_option maxHeartbeats 4000000 in
set_option maxRecDepth 100000 in
theorem k_X9_next_b100L44 (C : Cx RX9 cX9_next 11 D cA p s m args c) (hA : ∀ q, s.heap.size ≤ q → A q) (b : Nat → Nat) (m_latest : Int32) (m_cells : Int32) (m_wide : Int32) (m_houses : Int32) (m_bowls : Int32) (m_dogs : Int32) (m_gone : Int32) (m_sights : Int32) (m_drawn : Int32) (m_cell : Nat → Int32) (m_bowl : Nat → Int32) (m_dog : Nat → Int32) (m_path : Nat → Int32) (m_steps : Nat → Int32) (x1 : Int32) (x2 : Int32) (x3 : Int32) (x4 : Int32) (x5 : Int32) (x6 : Int32) (x7 : Int32) (x8 : Int32) (x9 : Int32) (s0 : Int32) (r : (Int32 × Int32 × Int32) ⊕ (Int32)) (hf : f_X9_next_b100L44 m_cells m_wide m_bowls m_dogs m_gone m_cell m_bowl m_dog m_path m_steps x1 x2 x3 x4 x5 x6 x7 x8 x9 s0 = some r) (hK : Sum.elim (fun q : Int32 × Int32 × Int32 => At p l e rm_X9_next s m args below meth c D A 0 0 Q 11 44 (wl_X9_next cA b m_latest m_cells m_wide m_houses m_bowls m_dogs m_gone m_sights m_drawn m_cell m_bowl m_dog m_path m_steps) [(0, .ref (b 0)), (1, .int x1), (2, .int x2), (3, .int x3), (4, .int x4), (5, .int (q.1)), (6, .int (q.2.1)), (7, .int (q.2.2))] []) (fun q : Int32 => At p l e rm_X9_next s m args below meth c D A 0 0 Q 11 136 (wl_X9_next cA b m_latest m_cells m_wide m_houses m_bowls m_dogs m_gone m_sights m_drawn m_cell m_bowl m_dog m_path m_steps) [(4, .int x4), (5, .int q)] []) r) : At p l e rm_X9_next s m args below meth c D A 0 0 Q 11 100 (wl_X9_next cA b m_latest m_cells m_wide m_houses m_bowls m_dogs m_gone m_sights m_drawn m_cell m_bowl m_dog m_path m_steps) [(0, .ref (b 0)), (1, .int x1), (2, .int x2), (3, .int x3), (4, .int x4), (5, .int x5), (6, .int x6), (7, .int x7), (8, .int x8), (9, .int x9)] [.int s0] := by
  intro H locs ls hP hD hS hl
  have hx := C.1
  have hb := C.2.1
  have hown := C.2.2.2.1
  have hts := C.2.2.2.2.1
  unfold f_X9_next_b100L44 at hf
  refine lv_istore (pc := 100) (lv' := [(10, .int s0), (0, .ref (b 0)), (1, .int x1), (2, .int x2), (3, .int x3), (4, .int x4), (5, .int x5), (6, .int x6), (7, .int x7), (8, .int x8), (9, .int x9)]) hx hb dX9_next_100 hl (Nat.le_of_ble_eq_true rfl) rfl (fun ls hl => ?_)
  refine lv_iload (pc := 102) hx hb dX9_next_102 (lv_at hl 0 rfl) ?_
  refine lv_if_eq (pc := 104) (tgt := 112) hx hb dX9_next_104 (by decide) (fun hc => ?_) (fun hc => ?_)
  · have hf := (if_pos hc).symm.trans hf
    refine lv_iload (pc := 112) hx hb dX9_next_112 (lv_at hl 6 rfl) ?_
    exact k_X9_next_b114L44 C hA b m_latest m_cells m_wide m_houses m_bowls m_dogs m_gone m_sights m_drawn m_cell m_bowl m_dog m_path m_steps x1 x2 x3 x4 x6 x7 x9 s0 x5 r hf hK H locs ls hP hD hS (lv_sub hl [1, 2, 3, 4, 5, 7, 8, 10, 0] rfl)
  · have hf := (if_neg hc).symm.trans hf
    refine lv_iload (pc := 107) hx hb dX9_next_107 (lv_at hl 9 rfl) ?_
    refine lv_goto (pc := 109) (tgt := 114) hx hb dX9_next_109 (by decide) ?_
    exact k_X9_next_b114L44 C hA b m_latest m_cells m_wide m_houses m_bowls m_dogs m_gone m_sights m_drawn m_cell m_bowl m_dog m_path m_steps x1 x2 x3 x4 x6 x7 x9 s0 x8 r hf hK H locs ls hP hD hS (lv_sub hl [1, 2, 3, 4, 5, 7, 8, 10, 0] rfl)
def f_X9_next_b95L44 (m_cells : Int32) (m_wide : Int32) (m_bowls : Int32) (m_dogs : Int32) (m_gone : Int32) (m_cell : Nat → Int32) (m_bowl : Nat → Int32) (m_dog : Nat → Int32) (m_path : Nat → Int32) (m_steps : Nat → Int32) (x1 : Int32) (x2 : Int32) (x3 : Int32) (x4 : Int32) (x5 : Int32) (x6 : Int32) (x7 : Int32) (x8 : Int32) (x9 : Int32) : Option ((Int32 × Int32 × Int32) ⊕ (Int32)) :=
  f_X9_next_b100L44 m_cells m_wide m_bowls m_dogs m_gone m_cell m_bowl m_dog m_path m_steps x1 x2 x3 x4 x5 x6 x7 x8 x9 (1 : Int32)
set_option maxHeartbeats 4000000 in
set_option maxRecDepth 100000 in
theorem k_X9_next_b95L44 (C : Cx RX9 cX9_next 11 D cA p s m args c) (hA : ∀ q, s.heap.size ≤ q → A q) (b : Nat → Nat) (m_latest : Int32) (m_cells : Int32) (m_wide : Int32) (m_houses : Int32) (m_bowls : Int32) (m_dogs : Int32) (m_gone : Int32) (m_sights : Int32) (m_drawn : Int32) (m_cell : Nat → Int32) (m_bowl : Nat → Int32) (m_dog : Nat → Int32) (m_path : Nat → Int32) (m_steps : Nat → Int32) (x1 : Int32) (x2 : Int32) (x3 : Int32) (x4 : Int32) (x5 : Int32) (x6 : Int32) (x7 : Int32) (x8 : Int32) (x9 : Int32) (r : (Int32 × Int32 × Int32) ⊕ (Int32)) (hf : f_X9_next_b95L44 m_cells m_wide m_bowls m_dogs m_gone m_cell m_bowl m_dog m_path m_steps x1 x2 x3 x4 x5 x6 x7 x8 x9 = some r) (hK : Sum.elim (fun q : Int32 × Int32 × Int32 => At p l e rm_X9_next s m args below meth c D A 0 0 Q 11 44 (wl_X9_next cA b m_latest m_cells m_wide m_houses m_bowls m_dogs m_gone m_sights m_drawn m_cell m_bowl m_dog m_path m_steps) [(0, .ref (b 0)), (1, .int x1), (2, .int x2), (3, .int x3), (4, .int x4), (5, .int (q.1)), (6, .int (q.2.1)), (7, .int (q.2.2))] []) (fun q : Int32 => At p l e rm_X9_next s m args below meth c D A 0 0 Q 11 136 (wl_X9_next cA b m_latest m_cells m_wide m_houses m_bowls m_dogs m_gone m_sights m_drawn m_cell m_bowl m_dog m_path m_steps) [(4, .int x4), (5, .int q)] []) r) : At p l e rm_X9_next s m args below meth c D A 0 0 Q 11 95 (wl_X9_next cA b m_latest m_cells m_wide m_houses m_bowls m_dogs m_gone m_sights m_drawn m_cell m_bowl m_dog m_path m_steps) [(0, .ref (b 0)), (1, .int x1), (2, .int x2), (3, .int x3), (4, .int x4), (5, .int x5), (6, .int x6), (7, .int x7), (8, .int x8), (9, .int x9)] [] := by
  intro H locs ls hP hD hS hl
  have hx := C.1
  have hb := C.2.1
  have hown := C.2.2.2.1
  have hts := C.2.2.2.2.1
  unfold f_X9_next_b95L44 at hf
  refine lv_iconst (pc := 95) (v := 1) hx hb dX9_next_95 ic_1 ?_
  refine lv_goto (pc := 96) (tgt := 100) hx hb dX9_next_96 (by decide) ?_
  exact k_X9_next_b100L44 C hA b m_latest m_cells m_wide m_houses m_bowls m_dogs m_gone m_sights m_drawn m_cell m_bowl m_dog m_path m_steps x1 x2 x3 x4 x5 x6 x7 x8 x9 (1 : Int32) r hf hK H locs ls hP hD hS hl
def f_X9_next_L44 (m_cells : Int32) (m_wide : Int32) (m_bowls : Int32) (m_dogs : Int32) (m_gone : Int32) (m_cell : Nat → Int32) (m_bowl : Nat → Int32) (m_dog : Nat → Int32) (m_path : Nat → Int32) (m_steps : Nat → Int32) (x1 : Int32) (x2 : Int32) (x3 : Int32) (x4 : Int32) (x5 : Int32) (x6 : Int32) (x7 : Int32) : Option ((Int32 × Int32 × Int32) ⊕ (Int32)) :=
  if (4 : Int32) ≤ x7 then (some (.inr x5)) else (bind1 (f_X9_beside m_cells m_wide m_cell x3 x7) (fun r2 => if r2 = (-1 : Int32) then (f_X9_next_b130L44 m_cells m_wide m_bowls m_dogs m_gone m_cell m_bowl m_dog m_path m_steps x1 x2 x3 x4 x5 x6 x7) else (if r2 = x4 then (f_X9_next_b130L44 m_cells m_wide m_bowls m_dogs m_gone m_cell m_bowl m_dog m_path m_steps x1 x2 x3 x4 x5 x6 x7) else (bind1 (f_X9_worth m_bowls m_dogs m_gone m_cell m_bowl m_dog m_path m_steps x1 r2 x2) (fun r3 => if x5 = (-1 : Int32) then (f_X9_next_b95L44 m_cells m_wide m_bowls m_dogs m_gone m_cell m_bowl m_dog m_path m_steps x1 x2 x3 x4 x5 x6 x7 r2 r3) else (if r3 ≤ x6 then (f_X9_next_b100L44 m_cells m_wide m_bowls m_dogs m_gone m_cell m_bowl m_dog m_path m_steps x1 x2 x3 x4 x5 x6 x7 r2 r3 (0 : Int32)) else (f_X9_next_b95L44 m_cells m_wide m_bowls m_dogs m_gone m_cell m_bowl m_dog m_path m_steps x1 x2 x3 x4 x5 x6 x7 r2 r3)))))))
set_option maxHeartbeats 4000000 in
set_option maxRecDepth 100000 in
theorem k_X9_next_L44 (C : Cx RX9 cX9_next 11 D cA p s m args c) (hA : ∀ q, s.heap.size ≤ q → A q) (b : Nat → Nat) (m_latest : Int32) (m_cells : Int32) (m_wide : Int32) (m_houses : Int32) (m_bowls : Int32) (m_dogs : Int32) (m_gone : Int32) (m_sights : Int32) (m_drawn : Int32) (m_cell : Nat → Int32) (m_bowl : Nat → Int32) (m_dog : Nat → Int32) (m_path : Nat → Int32) (m_steps : Nat → Int32) (x1 : Int32) (x2 : Int32) (x3 : Int32) (x4 : Int32) (x5 : Int32) (x6 : Int32) (x7 : Int32) (r : (Int32 × Int32 × Int32) ⊕ (Int32)) (hf : f_X9_next_L44 m_cells m_wide m_bowls m_dogs m_gone m_cell m_bowl m_dog m_path m_steps x1 x2 x3 x4 x5 x6 x7 = some r) (hK : Sum.elim (fun q : Int32 × Int32 × Int32 => At p l e rm_X9_next s m args below meth c D A 0 0 Q 11 44 (wl_X9_next cA b m_latest m_cells m_wide m_houses m_bowls m_dogs m_gone m_sights m_drawn m_cell m_bowl m_dog m_path m_steps) [(0, .ref (b 0)), (1, .int x1), (2, .int x2), (3, .int x3), (4, .int x4), (5, .int (q.1)), (6, .int (q.2.1)), (7, .int (q.2.2))] []) (fun q : Int32 => At p l e rm_X9_next s m args below meth c D A 0 0 Q 11 136 (wl_X9_next cA b m_latest m_cells m_wide m_houses m_bowls m_dogs m_gone m_sights m_drawn m_cell m_bowl m_dog m_path m_steps) [(4, .int x4), (5, .int q)] []) r) : At p l e rm_X9_next s m args below meth c D A 0 0 Q 11 44 (wl_X9_next cA b m_latest m_cells m_wide m_houses m_bowls m_dogs m_gone m_sights m_drawn m_cell m_bowl m_dog m_path m_steps) [(0, .ref (b 0)), (1, .int x1), (2, .int x2), (3, .int x3), (4, .int x4), (5, .int x5), (6, .int x6), (7, .int x7)] [] := by
  intro H locs ls hP hD hS hl
  have hx := C.1
  have hb := C.2.1
  have hown := C.2.2.2.1
  have hts := C.2.2.2.2.1
  unfold f_X9_next_L44 at hf
  refine lv_iload (pc := 44) hx hb dX9_next_44 (lv_at hl 7 rfl) ?_
  refine lv_iconst (pc := 46) (v := 4) hx hb dX9_next_46 ic_4 ?_
  refine lv_icmp_ge (pc := 47) (tgt := 136) hx hb dX9_next_47 (by decide) (fun hc => ?_) (fun hc => ?_)
  · have hf := (if_pos hc).symm.trans hf
    have hf := Option.some.inj hf
    subst hf
    exact hK H locs ls hP hD hS (lv_sub hl [4, 5] rfl)
  · have hf := (if_neg hc).symm.trans hf
    refine lv_aload_n (pc := 50) hx hb dX9_next_50 rfl (lv_at hl 0 rfl) ?_
    refine lv_iload_n (pc := 51) hx hb dX9_next_51 rfl (lv_at hl 3 rfl) ?_
    refine lv_iload (pc := 52) hx hb dX9_next_52 (lv_at hl 7 rfl) ?_
    obtain ⟨r2, hq, hf⟩ := bind1_some hf
    refine fin2_i (wl_X9_next cA b m_latest m_cells m_wide m_houses m_bowls m_dogs m_gone m_sights m_drawn m_cell m_bowl m_dog m_path m_steps) (run_V (rest := []) (pc := 54) (As := [.int x3, .int x7]) C mf_X9_159 (c_X9_beside l D cA b m_latest m_cells m_wide m_houses m_bowls m_dogs m_gone m_sights m_drawn m_cell x3 x7 r2 hq H.size) rfl rfl ⟨(Nat.le_of_ble_eq_true rfl), (Nat.le_of_ble_eq_true rfl)⟩ (preV_of C hP hD [0, 1] rfl (pl_nd pv_129) 0 rfl rfl rfl) rfl hl.1 rfl (Nat.le_of_ble_eq_true rfl) dX9_next_54 ⟨Nat.zero_le _, Nat.zero_le _⟩) hP hD hS hA [0, 1] [2, 3, 4, 5] rfl rfl rfl rfl pv_129 (fun H locs hP hS => ?_)
    refine lv_istore (pc := 57) (lv' := [(8, .int r2), (0, .ref (b 0)), (1, .int x1), (2, .int x2), (3, .int x3), (4, .int x4), (5, .int x5), (6, .int x6), (7, .int x7)]) hx hb dX9_next_57 hl (Nat.le_of_ble_eq_true rfl) rfl (fun ls hl => ?_)
    refine lv_iload (pc := 59) hx hb dX9_next_59 (lv_at hl 0 rfl) ?_
    refine lv_iconst (pc := 61) (v := (-1)) hx hb dX9_next_61 ic_m1 ?_
    refine lv_icmp_eq (pc := 62) (tgt := 130) hx hb dX9_next_62 (by decide) (fun hc => ?_) (fun hc => ?_)
    · have hf := (if_pos hc).symm.trans hf
      exact k_X9_next_b130L44 C hA b m_latest m_cells m_wide m_houses m_bowls m_dogs m_gone m_sights m_drawn m_cell m_bowl m_dog m_path m_steps x1 x2 x3 x4 x5 x6 x7 r hf hK H locs ls hP hD hS (lv_sub hl [1, 2, 3, 4, 5, 6, 7, 8] rfl)
    · have hf := (if_neg hc).symm.trans hf
      refine lv_iload (pc := 65) hx hb dX9_next_65 (lv_at hl 0 rfl) ?_
      refine lv_iload (pc := 67) hx hb dX9_next_67 (lv_at hl 5 rfl) ?_
      refine lv_icmp_eq (pc := 69) (tgt := 130) hx hb dX9_next_69 (by decide) (fun hc => ?_) (fun hc => ?_)
      · have hf := (if_pos hc).symm.trans hf
        exact k_X9_next_b130L44 C hA b m_latest m_cells m_wide m_houses m_bowls m_dogs m_gone m_sights m_drawn m_cell m_bowl m_dog m_path m_steps x1 x2 x3 x4 x5 x6 x7 r hf hK H locs ls hP hD hS (lv_sub hl [1, 2, 3, 4, 5, 6, 7, 8] rfl)
      · have hf := (if_neg hc).symm.trans hf
        refine lv_aload_n (pc := 72) hx hb dX9_next_72 rfl (lv_at hl 1 rfl) ?_
        refine lv_iload_n (pc := 73) hx hb dX9_next_73 rfl (lv_at hl 2 rfl) ?_
        refine lv_iload (pc := 74) hx hb dX9_next_74 (lv_at hl 0 rfl) ?_
        refine lv_iload_n (pc := 76) hx hb dX9_next_76 rfl (lv_at hl 3 rfl) ?_
        obtain ⟨r3, hq, hf⟩ := bind1_some hf
        refine fin2_i (wl_X9_next cA b m_latest m_cells m_wide m_houses m_bowls m_dogs m_gone m_sights m_drawn m_cell m_bowl m_dog m_path m_steps) (run_V (rest := []) (pc := 77) (As := [.int x1, .int r2, .int x2]) C mf_X9_162 (c_X9_worth l D cA b m_latest m_cells m_wide m_houses m_bowls m_dogs m_gone m_sights m_drawn m_cell m_bowl m_dog m_path m_steps x1 r2 x2 r3 hq H.size) rfl rfl ⟨(Nat.le_of_ble_eq_true rfl), (Nat.le_of_ble_eq_true rfl)⟩ (preV_of C hP hD [0, 1, 2, 3, 4, 5] rfl (pl_nd pv_130) 0 rfl rfl rfl) rfl hl.1 rfl (Nat.le_of_ble_eq_true rfl) dX9_next_77 ⟨Nat.zero_le _, Nat.zero_le _⟩) hP hD hS hA [0, 1, 2, 3, 4, 5] [] rfl rfl rfl rfl pv_130 (fun H locs hP hS => ?_)
        refine lv_istore (pc := 80) (lv' := [(9, .int r3), (8, .int r2), (0, .ref (b 0)), (1, .int x1), (2, .int x2), (3, .int x3), (4, .int x4), (5, .int x5), (6, .int x6), (7, .int x7)]) hx hb dX9_next_80 hl (Nat.le_of_ble_eq_true rfl) rfl (fun ls hl => ?_)
        refine lv_iload (pc := 82) hx hb dX9_next_82 (lv_at hl 7 rfl) ?_
        refine lv_iconst (pc := 84) (v := (-1)) hx hb dX9_next_84 ic_m1 ?_
        refine lv_icmp_eq (pc := 85) (tgt := 95) hx hb dX9_next_85 (by decide) (fun hc => ?_) (fun hc => ?_)
        · have hf := (if_pos hc).symm.trans hf
          exact k_X9_next_b95L44 C hA b m_latest m_cells m_wide m_houses m_bowls m_dogs m_gone m_sights m_drawn m_cell m_bowl m_dog m_path m_steps x1 x2 x3 x4 x5 x6 x7 r2 r3 r hf hK H locs ls hP hD hS (lv_sub hl [2, 3, 4, 5, 6, 7, 8, 9, 1, 0] rfl)
        · have hf := (if_neg hc).symm.trans hf
          refine lv_iload (pc := 88) hx hb dX9_next_88 (lv_at hl 0 rfl) ?_
          refine lv_iload (pc := 90) hx hb dX9_next_90 (lv_at hl 8 rfl) ?_
          refine lv_icmp_le (pc := 92) (tgt := 99) hx hb dX9_next_92 (by decide) (fun hc => ?_) (fun hc => ?_)
          · have hf := (if_pos hc).symm.trans hf
            refine lv_iconst (pc := 99) (v := 0) hx hb dX9_next_99 ic_0 ?_
            exact k_X9_next_b100L44 C hA b m_latest m_cells m_wide m_houses m_bowls m_dogs m_gone m_sights m_drawn m_cell m_bowl m_dog m_path m_steps x1 x2 x3 x4 x5 x6 x7 r2 r3 (0 : Int32) r hf hK H locs ls hP hD hS (lv_sub hl [2, 3, 4, 5, 6, 7, 8, 9, 1, 0] rfl)
          · have hf := (if_neg hc).symm.trans hf
            exact k_X9_next_b95L44 C hA b m_latest m_cells m_wide m_houses m_bowls m_dogs m_gone m_sights m_drawn m_cell m_bowl m_dog m_path m_steps x1 x2 x3 x4 x5 x6 x7 r2 r3 r hf hK H locs ls hP hD hS (lv_sub hl [2, 3, 4, 5, 6, 7, 8, 9, 1, 0] rfl)
theorem kl_X9_next_L44 (C : Cx RX9 cX9_next 11 D cA p s m args c) (hA : ∀ q, s.heap.size ≤ q → A q) (b : Nat → Nat) (m_latest : Int32) (m_cells : Int32) (m_wide : Int32) (m_houses : Int32) (m_bowls : Int32) (m_dogs : Int32) (m_gone : Int32) (m_sights : Int32) (m_drawn : Int32) (m_cell : Nat → Int32) (m_bowl : Nat → Int32) (m_dog : Nat → Int32) (m_path : Nat → Int32) (m_steps : Nat → Int32) (x1 : Int32) (x2 : Int32) (x3 : Int32) (x4 : Int32) : ∀ (n : Nat) (q : Int32 × Int32 × Int32) (z : (Int32)), loopF (fun q : Int32 × Int32 × Int32 => f_X9_next_L44 m_cells m_wide m_bowls m_dogs m_gone m_cell m_bowl m_dog m_path m_steps x1 x2 x3 x4 q.1 q.2.1 q.2.2) n q = some z → (fun q : Int32 => At p l e rm_X9_next s m args below meth c D A 0 0 Q 11 136 (wl_X9_next cA b m_latest m_cells m_wide m_houses m_bowls m_dogs m_gone m_sights m_drawn m_cell m_bowl m_dog m_path m_steps) [(4, .int x4), (5, .int q)] []) z → At p l e rm_X9_next s m args below meth c D A 0 0 Q 11 44 (wl_X9_next cA b m_latest m_cells m_wide m_houses m_bowls m_dogs m_gone m_sights m_drawn m_cell m_bowl m_dog m_path m_steps) [(0, .ref (b 0)), (1, .int x1), (2, .int x2), (3, .int x3), (4, .int x4), (5, .int (q.1)), (6, .int (q.2.1)), (7, .int (q.2.2))] [] :=
  loop_lem (WP := fun q : Int32 × Int32 × Int32 => At p l e rm_X9_next s m args below meth c D A 0 0 Q 11 44 (wl_X9_next cA b m_latest m_cells m_wide m_houses m_bowls m_dogs m_gone m_sights m_drawn m_cell m_bowl m_dog m_path m_steps) [(0, .ref (b 0)), (1, .int x1), (2, .int x2), (3, .int x3), (4, .int x4), (5, .int (q.1)), (6, .int (q.2.1)), (7, .int (q.2.2))] []) (WE := (fun q : Int32 => At p l e rm_X9_next s m args below meth c D A 0 0 Q 11 136 (wl_X9_next cA b m_latest m_cells m_wide m_houses m_bowls m_dogs m_gone m_sights m_drawn m_cell m_bowl m_dog m_path m_steps) [(4, .int x4), (5, .int q)] [])) (fun q r hf hK => k_X9_next_L44 C hA b m_latest m_cells m_wide m_houses m_bowls m_dogs m_gone m_sights m_drawn m_cell m_bowl m_dog m_path m_steps x1 x2 x3 x4 q.1 q.2.1 q.2.2 r hf hK)
def f_X9_next_b33 (m_cells : Int32) (m_wide : Int32) (m_bowls : Int32) (m_dogs : Int32) (m_gone : Int32) (m_cell : Nat → Int32) (m_bowl : Nat → Int32) (m_dog : Nat → Int32) (m_path : Nat → Int32) (m_steps : Nat → Int32) (x1 : Int32) (x2 : Int32) (x3 : Int32) (s0 : Int32) : Option (Int32) :=
  bind1 (loopF (fun q : Int32 × Int32 × Int32 => f_X9_next_L44 m_cells m_wide m_bowls m_dogs m_gone m_cell m_bowl m_dog m_path m_steps x1 x2 x3 s0 q.1 q.2.1 q.2.2) FU ((-1 : Int32), (0 : Int32), (0 : Int32))) (fun u4 => if u4 = (-1 : Int32) then (some s0) else (some u4))
set_option maxHeartbeats 4000000 in
set_option maxRecDepth 100000 in
theorem k_X9_next_b33 (C : Cx RX9 cX9_next 11 D cA p s m args c) (hr : meth.sig.returnType = (some .int)) (hlk : meth.locks = false) (hA : ∀ q, s.heap.size ≤ q → va_A ws0 sz q) (b : Nat → Nat) (m_latest : Int32) (m_cells : Int32) (m_wide : Int32) (m_houses : Int32) (m_bowls : Int32) (m_dogs : Int32) (m_gone : Int32) (m_sights : Int32) (m_drawn : Int32) (m_cell : Nat → Int32) (m_bowl : Nat → Int32) (m_dog : Nat → Int32) (m_path : Nat → Int32) (m_steps : Nat → Int32) (x1 : Int32) (x2 : Int32) (x3 : Int32) (s0 : Int32) (r : Int32) (hf : f_X9_next_b33 m_cells m_wide m_bowls m_dogs m_gone m_cell m_bowl m_dog m_path m_steps x1 x2 x3 s0 = some r) : At p l e rm_X9_next s m args below meth c D (va_A ws0 sz) 0 0 (MQ below (PostI D r ws0 (wl_X9_next cA b m_latest m_cells m_wide m_houses m_bowls m_dogs m_gone m_sights m_drawn m_cell m_bowl m_dog m_path m_steps) sz) args s 0 0 (va_A ws0 sz)) 11 33 (wl_X9_next cA b m_latest m_cells m_wide m_houses m_bowls m_dogs m_gone m_sights m_drawn m_cell m_bowl m_dog m_path m_steps) [(0, .ref (b 0)), (1, .int x1), (2, .int x2), (3, .int x3)] [.int s0] := by
  intro H locs ls hP hD hS hl
  have hx := C.1
  have hb := C.2.1
  have hown := C.2.2.2.1
  have hts := C.2.2.2.2.1
  unfold f_X9_next_b33 at hf
  refine lv_istore (pc := 33) (lv' := [(4, .int s0), (0, .ref (b 0)), (1, .int x1), (2, .int x2), (3, .int x3)]) hx hb dX9_next_33 hl (Nat.le_of_ble_eq_true rfl) rfl (fun ls hl => ?_)
  refine lv_iconst (pc := 35) (v := (-1)) hx hb dX9_next_35 ic_m1 ?_
  refine lv_istore (pc := 36) (lv' := [(5, .int (-1 : Int32)), (4, .int s0), (0, .ref (b 0)), (1, .int x1), (2, .int x2), (3, .int x3)]) hx hb dX9_next_36 hl (Nat.le_of_ble_eq_true rfl) rfl (fun ls hl => ?_)
  refine lv_iconst (pc := 38) (v := 0) hx hb dX9_next_38 ic_0 ?_
  refine lv_istore (pc := 39) (lv' := [(6, .int (0 : Int32)), (5, .int (-1 : Int32)), (4, .int s0), (0, .ref (b 0)), (1, .int x1), (2, .int x2), (3, .int x3)]) hx hb dX9_next_39 hl (Nat.le_of_ble_eq_true rfl) rfl (fun ls hl => ?_)
  refine lv_iconst (pc := 41) (v := 0) hx hb dX9_next_41 ic_0 ?_
  refine lv_istore (pc := 42) (lv' := [(7, .int (0 : Int32)), (6, .int (0 : Int32)), (5, .int (-1 : Int32)), (4, .int s0), (0, .ref (b 0)), (1, .int x1), (2, .int x2), (3, .int x3)]) hx hb dX9_next_42 hl (Nat.le_of_ble_eq_true rfl) rfl (fun ls hl => ?_)
  obtain ⟨u4, hq, hf⟩ := bind1_some hf
  refine kl_X9_next_L44 C hA b m_latest m_cells m_wide m_houses m_bowls m_dogs m_gone m_sights m_drawn m_cell m_bowl m_dog m_path m_steps x1 x2 x3 s0 FU ((-1 : Int32), (0 : Int32), (0 : Int32)) _ hq ?_ H locs ls hP hD hS (lv_sub hl [4, 5, 6, 7, 3, 2, 1, 0] rfl)
  intro H locs ls hP hD hS hl
  have hP : va_P D classes (wl_X9_next cA b m_latest m_cells m_wide m_houses m_bowls m_dogs m_gone m_sights m_drawn m_cell m_bowl m_dog m_path m_steps) H := hP
  have hD : va_D (va_A ws0 sz) (wl_X9_next cA b m_latest m_cells m_wide m_houses m_bowls m_dogs m_gone m_sights m_drawn m_cell m_bowl m_dog m_path m_steps) := hD
  have hl : lv_has ls 11 [(4, .int s0), (5, .int u4)] := hl
  refine lv_iload (pc := 136) hx hb dX9_next_136 (lv_at hl 1 rfl) ?_
  refine lv_iconst (pc := 138) (v := (-1)) hx hb dX9_next_138 ic_m1 ?_
  refine lv_icmp_ne (pc := 139) (tgt := 147) hx hb dX9_next_139 (by decide) (fun hc => ?_) (fun hc => ?_)
  · have hf := (if_neg hc).symm.trans hf
    refine lv_iload (pc := 147) hx hb dX9_next_147 (lv_at hl 1 rfl) ?_
    have hf := Option.some.inj hf
    subst hf
    exact ret_i C hr hlk hP hS dX9_next_149
  · have hf := (if_pos hc).symm.trans hf
    refine lv_iload (pc := 142) hx hb dX9_next_142 (lv_at hl 0 rfl) ?_
    refine lv_goto (pc := 144) (tgt := 149) hx hb dX9_next_144 (by decide) ?_
    have hf := Option.some.inj hf
    subst hf
    exact ret_i C hr hlk hP hS dX9_next_149
def f_X9_next (m_cells : Int32) (m_wide : Int32) (m_bowls : Int32) (m_dogs : Int32) (m_gone : Int32) (m_cell : Nat → Int32) (m_bowl : Nat → Int32) (m_dog : Nat → Int32) (m_path : Nat → Int32) (m_steps : Nat → Int32) (x1 : Int32) (x2 : Int32) : Option (Int32) :=
  gd (inb (((25 : Int32) * x1) + x2) 250) (letv ((m_path (((25 : Int32) * x1) + x2).toNatClampNeg)) (fun v1 => if x2 = 0 then (f_X9_next_b33 m_cells m_wide m_bowls m_dogs m_gone m_cell m_bowl m_dog m_path m_steps x1 x2 v1 (-1 : Int32)) else (gd (inb ((((25 : Int32) * x1) + x2) - (1 : Int32)) 250) (f_X9_next_b33 m_cells m_wide m_bowls m_dogs m_gone m_cell m_bowl m_dog m_path m_steps x1 x2 v1 (m_path ((((25 : Int32) * x1) + x2) - (1 : Int32)).toNatClampNeg)))))
set_option maxHeartbeats 4000000 in
set_option maxRecDepth 100000 in
theorem k_X9_next (C : Cx RX9 cX9_next 11 D cA p s m args c) (hr : meth.sig.returnType = (some .int)) (hlk : meth.locks = false) (hA : ∀ q, s.heap.size ≤ q → va_A ws0 sz q) (b : Nat → Nat) (m_latest : Int32) (m_cells : Int32) (m_wide : Int32) (m_houses : Int32) (m_bowls : Int32) (m_dogs : Int32) (m_gone : Int32) (m_sights : Int32) (m_drawn : Int32) (m_cell : Nat → Int32) (m_bowl : Nat → Int32) (m_dog : Nat → Int32) (m_path : Nat → Int32) (m_steps : Nat → Int32) (x1 : Int32) (x2 : Int32) (r : Int32) (hf : f_X9_next m_cells m_wide m_bowls m_dogs m_gone m_cell m_bowl m_dog m_path m_steps x1 x2 = some r) : At p l e rm_X9_next s m args below meth c D (va_A ws0 sz) 0 0 (MQ below (PostI D r ws0 (wl_X9_next cA b m_latest m_cells m_wide m_houses m_bowls m_dogs m_gone m_sights m_drawn m_cell m_bowl m_dog m_path m_steps) sz) args s 0 0 (va_A ws0 sz)) 11 0 (wl_X9_next cA b m_latest m_cells m_wide m_houses m_bowls m_dogs m_gone m_sights m_drawn m_cell m_bowl m_dog m_path m_steps) [(0, .ref (b 0)), (1, .int x1), (2, .int x2)] [] := by
  intro H locs ls hP hD hS hl
  have hx := C.1
  have hb := C.2.1
  have hown := C.2.2.2.1
  have hts := C.2.2.2.2.1
  unfold f_X9_next at hf
  refine lv_aload_n (pc := 0) hx hb dX9_next_0 rfl (lv_at hl 0 rfl) ?_
  refine g_get (pc := 1) C fg_X9_43 hP 0 rfl rfl dX9_next_1 ?_
  refine lv_bipush (pc := 4) (v := 25) hx hb dX9_next_4 bp_25 ?_
  refine lv_iload_n (pc := 6) hx hb dX9_next_6 rfl (lv_at hl 1 rfl) ?_
  refine lv_imul (pc := 7) hx hb dX9_next_7 ?_
  refine lv_iload_n (pc := 8) hx hb dX9_next_8 rfl (lv_at hl 2 rfl) ?_
  refine lv_iadd (pc := 9) hx hb dX9_next_9 ?_
  obtain ⟨hg, hf⟩ := gd_some hf
  refine g_iald (pc := 10) C hP 4 rfl hg dX9_next_10 ?_
  obtain ⟨v1, e_v1, hf⟩ := letv_some hf
  refine tp_i e_v1 ?_
  refine lv_istore_n (pc := 11) (lv' := [(3, .int v1), (0, .ref (b 0)), (1, .int x1), (2, .int x2)]) hx hb dX9_next_11 rfl hl (Nat.le_of_ble_eq_true rfl) rfl (fun ls hl => ?_)
  refine lv_iload_n (pc := 12) hx hb dX9_next_12 rfl (lv_at hl 3 rfl) ?_
  refine lv_if_ne (pc := 13) (tgt := 20) hx hb dX9_next_13 (by decide) (fun hc => ?_) (fun hc => ?_)
  · have hf := (if_neg hc).symm.trans hf
    refine lv_aload_n (pc := 20) hx hb dX9_next_20 rfl (lv_at hl 1 rfl) ?_
    refine g_get (pc := 21) C fg_X9_43 hP 0 rfl rfl dX9_next_21 ?_
    refine lv_bipush (pc := 24) (v := 25) hx hb dX9_next_24 bp_25 ?_
    refine lv_iload_n (pc := 26) hx hb dX9_next_26 rfl (lv_at hl 2 rfl) ?_
    refine lv_imul (pc := 27) hx hb dX9_next_27 ?_
    refine lv_iload_n (pc := 28) hx hb dX9_next_28 rfl (lv_at hl 3 rfl) ?_
    refine lv_iadd (pc := 29) hx hb dX9_next_29 ?_
    refine lv_iconst (pc := 30) (v := 1) hx hb dX9_next_30 ic_1 ?_
    refine lv_isub (pc := 31) hx hb dX9_next_31 ?_
    obtain ⟨hg, hf⟩ := gd_some hf
    refine g_iald (pc := 32) C hP 4 rfl hg dX9_next_32 ?_
    exact k_X9_next_b33 C hr hlk hA b m_latest m_cells m_wide m_houses m_bowls m_dogs m_gone m_sights m_drawn m_cell m_bowl m_dog m_path m_steps x1 x2 v1 (m_path ((((25 : Int32) * x1) + x2) - (1 : Int32)).toNatClampNeg) r hf H locs ls hP hD hS (lv_sub hl [1, 2, 3, 0] rfl)
  · have hf := (if_pos hc).symm.trans hf
    refine lv_iconst (pc := 16) (v := (-1)) hx hb dX9_next_16 ic_m1 ?_
    refine lv_goto (pc := 17) (tgt := 33) hx hb dX9_next_17 (by decide) ?_
    exact k_X9_next_b33 C hr hlk hA b m_latest m_cells m_wide m_houses m_bowls m_dogs m_gone m_sights m_drawn m_cell m_bowl m_dog m_path m_steps x1 x2 v1 (-1 : Int32) r hf H locs ls hP hD hS (lv_sub hl [1, 2, 3, 0] rfl)
set_option maxRecDepth 100000 in
theorem c_X9_next (l : Launch) (D : va_G) (cA : Nat → ClassId) (b : Nat → Nat) (m_latest : Int32) (m_cells : Int32) (m_wide : Int32) (m_houses : Int32) (m_bowls : Int32) (m_dogs : Int32) (m_gone : Int32) (m_sights : Int32) (m_drawn : Int32) (m_cell : Nat → Int32) (m_bowl : Nat → Int32) (m_dog : Nat → Int32) (m_path : Nat → Int32) (m_steps : Nat → Int32) (x1 : Int32) (x2 : Int32) (r : Int32) (hf : f_X9_next m_cells m_wide m_bowls m_dogs m_gone m_cell m_bowl m_dog m_path m_steps x1 x2 = some r) (sz : Nat) : Met l yX9_next (Cond.code yX9_next cX9_next 11 (some .int) :: lw_good) rm_X9_next (PreX D cA [.ref (b 0), .int x1, .int x2] sz (wl_X9_next cA b m_latest m_cells m_wide m_houses m_bowls m_dogs m_gone m_sights m_drawn m_cell m_bowl m_dog m_path m_steps)) (PostI D r (wl_X9_next cA b m_latest m_cells m_wide m_houses m_bowls m_dogs m_gone m_sights m_drawn m_cell m_bowl m_dog m_path m_steps) (wl_X9_next cA b m_latest m_cells m_wide m_houses m_bowls m_dogs m_gone m_sights m_drawn m_cell m_bowl m_dog m_path m_steps) sz) 0 0 (va_A (wl_X9_next cA b m_latest m_cells m_wide m_houses m_bowls m_dogs m_gone m_sights m_drawn m_cell m_bowl m_dog m_path m_steps) sz) :=
  met_of (by decide) (Nat.le_of_ble_eq_true rfl) (fun p e s m args below meth c C hr hlk hA => k_X9_next C hr hlk hA b m_latest m_cells m_wide m_houses m_bowls m_dogs m_gone m_sights m_drawn m_cell m_bowl m_dog m_path m_steps x1 x2 r hf)
end

abbrev wl_X9_walks (cA : Nat → ClassId) (b : Nat → Nat) (m_latest : Int32) (m_cells : Int32) (m_wide : Int32) (m_houses : Int32) (m_bowls : Int32) (m_dogs : Int32) (m_gone : Int32) (m_sights : Int32) (m_drawn : Int32) (m_cell : Nat → Int32) (m_settings : Nat → Int32) (m_bowl : Nat → Int32) (m_dog : Nat → Int32) (m_path : Nat → Int32) (m_steps : Nat → Int32) : va_W := [((b 0), .inr (9, [.ref (b 1), .ref (b 2), .ref (b 3), .ref (b 4), .int m_latest, .ref (b 5), .ref (b 6), .int m_cells, .int m_wide, .ref (b 7), .int m_houses, .ref (b 8), .ref (b 9), .int m_bowls, .ref (b 10), .int m_dogs, .ref (b 11), .int m_gone, .ref (b 12), .ref (b 13), .ref (b 14), .int m_sights, .ref (b 15), .ref (b 16), .int m_drawn])), ((b 7), .inl (cA 0, 36, .inl m_cell)), ((b 9), .inl (cA 0, 2, .inl m_settings)), ((b 10), .inl (cA 0, 20, .inl m_bowl)), ((b 11), .inl (cA 0, 16, .inl m_dog)), ((b 12), .inl (cA 0, 250, .inl m_path)), ((b 13), .inl (cA 0, 10, .inl m_steps))]
abbrev rm_X9_walks : Room := { frames := 3, cells := 0, slots := 0, locals := 81 }
section
variable {p : Program} {l : Launch} {e : Env} {s : State} {m : MethodId} {args : Array Value} {below : List Frame} {meth : Method} {c : Code} {D : va_G} {cA : Nat → ClassId} {ws0 : va_W} {sz : Nat} {A : Nat → Prop} {Q : State → Prop}
def f_X9_walks_b165L67 (m_cells : Int32) (m_wide : Int32) (m_bowls : Int32) (m_dogs : Int32) (m_gone : Int32) (m_cell : Nat → Int32) (m_bowl : Nat → Int32) (m_dog : Nat → Int32) (m_path : Nat → Int32) (m_steps : Nat → Int32) (x1 : Int32) (x3 : Int32) : Option ((Int32 × (Nat → Int32) × (Nat → Int32)) ⊕ ((Nat → Int32) × (Nat → Int32))) :=
  some (.inl (x3, m_path, m_steps))
set_option maxHeartbeats 4000000 in
set_option maxRecDepth 100000 in
theorem k_X9_walks_b165L67 (C : Cx RX9 cX9_walks 5 D cA p s m args c) (hA : ∀ q, s.heap.size ≤ q → A q) (b : Nat → Nat) (m_latest : Int32) (m_cells : Int32) (m_wide : Int32) (m_houses : Int32) (m_bowls : Int32) (m_dogs : Int32) (m_gone : Int32) (m_sights : Int32) (m_drawn : Int32) (m_cell : Nat → Int32) (m_settings : Nat → Int32) (m_bowl : Nat → Int32) (m_dog : Nat → Int32) (m_path : Nat → Int32) (m_steps : Nat → Int32) (x1 : Int32) (x3 : Int32) (r : (Int32 × (Nat → Int32) × (Nat → Int32)) ⊕ ((Nat → Int32) × (Nat → Int32))) (hf : f_X9_walks_b165L67 m_cells m_wide m_bowls m_dogs m_gone m_cell m_bowl m_dog m_path m_steps x1 x3 = some r) (hK : Sum.elim (fun q : Int32 × (Nat → Int32) × (Nat → Int32) => At p l e rm_X9_walks s m args below meth c D A 0 0 Q 5 67 (wl_X9_walks cA b m_latest m_cells m_wide m_houses m_bowls m_dogs m_gone m_sights m_drawn m_cell m_settings m_bowl m_dog (q.2.1) (q.2.2)) [(0, .ref (b 0)), (1, .int x1), (3, .int (q.1))] []) (fun q : (Nat → Int32) × (Nat → Int32) => At p l e rm_X9_walks s m args below meth c D A 0 0 Q 5 168 (wl_X9_walks cA b m_latest m_cells m_wide m_houses m_bowls m_dogs m_gone m_sights m_drawn m_cell m_settings m_bowl m_dog (q.1) (q.2)) [] []) r) : At p l e rm_X9_walks s m args below meth c D A 0 0 Q 5 165 (wl_X9_walks cA b m_latest m_cells m_wide m_houses m_bowls m_dogs m_gone m_sights m_drawn m_cell m_settings m_bowl m_dog m_path m_steps) [(0, .ref (b 0)), (1, .int x1), (3, .int x3)] [] := by
  intro H locs ls hP hD hS hl
  have hx := C.1
  have hb := C.2.1
  have hown := C.2.2.2.1
  have hts := C.2.2.2.2.1
  unfold f_X9_walks_b165L67 at hf
  refine lv_goto (pc := 165) (tgt := 67) hx hb dX9_walks_165 (by decide) ?_
  have hf := Option.some.inj hf
  subst hf
  exact hK H locs ls hP hD hS hl
def f_X9_walks_b132L67 (m_cells : Int32) (m_wide : Int32) (m_bowls : Int32) (m_dogs : Int32) (m_gone : Int32) (m_cell : Nat → Int32) (m_bowl : Nat → Int32) (m_dog : Nat → Int32) (m_path : Nat → Int32) (m_steps : Nat → Int32) (x1 : Int32) (x4 : Int32) (s0 : Int32) : Option ((Int32 × (Nat → Int32) × (Nat → Int32)) ⊕ ((Nat → Int32) × (Nat → Int32))) :=
  if s0 = 0 then (f_X9_walks_b165L67 m_cells m_wide m_bowls m_dogs m_gone m_cell m_bowl m_dog m_path m_steps x1 s0) else (gd (inb x1 10) (letv (((m_steps x1.toNatClampNeg) + (1 : Int32))) (fun v4 => gd (inb x1 10) (gd (inb x1 10) (gd (inb (((25 : Int32) * x1) + ((upd m_steps x1.toNatClampNeg v4) x1.toNatClampNeg)) 250) (f_X9_walks_b165L67 m_cells m_wide m_bowls m_dogs m_gone m_cell m_bowl m_dog (upd m_path (((25 : Int32) * x1) + ((upd m_steps x1.toNatClampNeg v4) x1.toNatClampNeg)).toNatClampNeg x4) (upd m_steps x1.toNatClampNeg v4) x1 s0))))))
set_option maxHeartbeats 4000000 in
set_option maxRecDepth 100000 in
theorem k_X9_walks_b132L67 (C : Cx RX9 cX9_walks 5 D cA p s m args c) (hA : ∀ q, s.heap.size ≤ q → A q) (b : Nat → Nat) (m_latest : Int32) (m_cells : Int32) (m_wide : Int32) (m_houses : Int32) (m_bowls : Int32) (m_dogs : Int32) (m_gone : Int32) (m_sights : Int32) (m_drawn : Int32) (m_cell : Nat → Int32) (m_settings : Nat → Int32) (m_bowl : Nat → Int32) (m_dog : Nat → Int32) (m_path : Nat → Int32) (m_steps : Nat → Int32) (x1 : Int32) (x4 : Int32) (s0 : Int32) (r : (Int32 × (Nat → Int32) × (Nat → Int32)) ⊕ ((Nat → Int32) × (Nat → Int32))) (hf : f_X9_walks_b132L67 m_cells m_wide m_bowls m_dogs m_gone m_cell m_bowl m_dog m_path m_steps x1 x4 s0 = some r) (hK : Sum.elim (fun q : Int32 × (Nat → Int32) × (Nat → Int32) => At p l e rm_X9_walks s m args below meth c D A 0 0 Q 5 67 (wl_X9_walks cA b m_latest m_cells m_wide m_houses m_bowls m_dogs m_gone m_sights m_drawn m_cell m_settings m_bowl m_dog (q.2.1) (q.2.2)) [(0, .ref (b 0)), (1, .int x1), (3, .int (q.1))] []) (fun q : (Nat → Int32) × (Nat → Int32) => At p l e rm_X9_walks s m args below meth c D A 0 0 Q 5 168 (wl_X9_walks cA b m_latest m_cells m_wide m_houses m_bowls m_dogs m_gone m_sights m_drawn m_cell m_settings m_bowl m_dog (q.1) (q.2)) [] []) r) : At p l e rm_X9_walks s m args below meth c D A 0 0 Q 5 132 (wl_X9_walks cA b m_latest m_cells m_wide m_houses m_bowls m_dogs m_gone m_sights m_drawn m_cell m_settings m_bowl m_dog m_path m_steps) [(0, .ref (b 0)), (1, .int x1), (4, .int x4)] [.int s0] := by
  intro H locs ls hP hD hS hl
  have hx := C.1
  have hb := C.2.1
  have hown := C.2.2.2.1
  have hts := C.2.2.2.2.1
  unfold f_X9_walks_b132L67 at hf
  refine lv_istore_n (pc := 132) (lv' := [(3, .int s0), (0, .ref (b 0)), (1, .int x1), (4, .int x4)]) hx hb dX9_walks_132 rfl hl (Nat.le_of_ble_eq_true rfl) rfl (fun ls hl => ?_)
  refine lv_iload_n (pc := 133) hx hb dX9_walks_133 rfl (lv_at hl 0 rfl) ?_
  refine lv_if_eq (pc := 134) (tgt := 165) hx hb dX9_walks_134 (by decide) (fun hc => ?_) (fun hc => ?_)
  · have hf := (if_pos hc).symm.trans hf
    exact k_X9_walks_b165L67 C hA b m_latest m_cells m_wide m_houses m_bowls m_dogs m_gone m_sights m_drawn m_cell m_settings m_bowl m_dog m_path m_steps x1 s0 r hf hK H locs ls hP hD hS (lv_sub hl [1, 2, 0] rfl)
  · have hf := (if_neg hc).symm.trans hf
    refine lv_aload_n (pc := 137) hx hb dX9_walks_137 rfl (lv_at hl 1 rfl) ?_
    refine g_get (pc := 138) C fg_X9_46 hP 0 rfl rfl dX9_walks_138 ?_
    refine lv_iload_n (pc := 141) hx hb dX9_walks_141 rfl (lv_at hl 2 rfl) ?_
    refine lv_dup2_11 (pc := 142) hx hb dX9_walks_142 rfl rfl ?_
    obtain ⟨hg, hf⟩ := gd_some hf
    refine g_iald (pc := 143) C hP 6 rfl hg dX9_walks_143 ?_
    refine lv_iconst (pc := 144) (v := 1) hx hb dX9_walks_144 ic_1 ?_
    refine lv_iadd (pc := 145) hx hb dX9_walks_145 ?_
    obtain ⟨v4, e_v4, hf⟩ := letv_some hf
    refine tp_i e_v4 ?_
    obtain ⟨hg, hf⟩ := gd_some hf
    refine g_iast (pc := 146) C hP hD hS 6 rfl hg dX9_walks_146 (fun H locs hP hD hS => ?_)
    have hP : va_P D classes (wl_X9_walks cA b m_latest m_cells m_wide m_houses m_bowls m_dogs m_gone m_sights m_drawn m_cell m_settings m_bowl m_dog m_path (upd m_steps x1.toNatClampNeg v4)) H := hP
    have hD : va_D A (wl_X9_walks cA b m_latest m_cells m_wide m_houses m_bowls m_dogs m_gone m_sights m_drawn m_cell m_settings m_bowl m_dog m_path (upd m_steps x1.toNatClampNeg v4)) := hD
    refine lv_aload_n (pc := 147) hx hb dX9_walks_147 rfl (lv_at hl 1 rfl) ?_
    refine g_get (pc := 148) C fg_X9_43 hP 0 rfl rfl dX9_walks_148 ?_
    refine lv_bipush (pc := 151) (v := 25) hx hb dX9_walks_151 bp_25 ?_
    refine lv_iload_n (pc := 153) hx hb dX9_walks_153 rfl (lv_at hl 2 rfl) ?_
    refine lv_imul (pc := 154) hx hb dX9_walks_154 ?_
    refine lv_aload_n (pc := 155) hx hb dX9_walks_155 rfl (lv_at hl 1 rfl) ?_
    refine g_get (pc := 156) C fg_X9_46 hP 0 rfl rfl dX9_walks_156 ?_
    refine lv_iload_n (pc := 159) hx hb dX9_walks_159 rfl (lv_at hl 2 rfl) ?_
    obtain ⟨hg, hf⟩ := gd_some hf
    refine g_iald (pc := 160) C hP 6 rfl hg dX9_walks_160 ?_
    refine lv_iadd (pc := 161) hx hb dX9_walks_161 ?_
    refine lv_iload (pc := 162) hx hb dX9_walks_162 (lv_at hl 3 rfl) ?_
    obtain ⟨hg, hf⟩ := gd_some hf
    refine g_iast (pc := 164) C hP hD hS 5 rfl hg dX9_walks_164 (fun H locs hP hD hS => ?_)
    have hP : va_P D classes (wl_X9_walks cA b m_latest m_cells m_wide m_houses m_bowls m_dogs m_gone m_sights m_drawn m_cell m_settings m_bowl m_dog (upd m_path (((25 : Int32) * x1) + ((upd m_steps x1.toNatClampNeg v4) x1.toNatClampNeg)).toNatClampNeg x4) (upd m_steps x1.toNatClampNeg v4)) H := hP
    have hD : va_D A (wl_X9_walks cA b m_latest m_cells m_wide m_houses m_bowls m_dogs m_gone m_sights m_drawn m_cell m_settings m_bowl m_dog (upd m_path (((25 : Int32) * x1) + ((upd m_steps x1.toNatClampNeg v4) x1.toNatClampNeg)).toNatClampNeg x4) (upd m_steps x1.toNatClampNeg v4)) := hD
    exact k_X9_walks_b165L67 C hA b m_latest m_cells m_wide m_houses m_bowls m_dogs m_gone m_sights m_drawn m_cell m_settings m_bowl m_dog (upd m_path (((25 : Int32) * x1) + ((upd m_steps x1.toNatClampNeg v4) x1.toNatClampNeg)).toNatClampNeg x4) (upd m_steps x1.toNatClampNeg v4) x1 s0 r hf hK H locs ls hP hD hS (lv_sub hl [1, 2, 0] rfl)
def f_X9_walks_L67 (m_cells : Int32) (m_wide : Int32) (m_bowls : Int32) (m_dogs : Int32) (m_gone : Int32) (m_cell : Nat → Int32) (m_bowl : Nat → Int32) (m_dog : Nat → Int32) (x1 : Int32) (x3 : Int32) (m_path : Nat → Int32) (m_steps : Nat → Int32) : Option ((Int32 × (Nat → Int32) × (Nat → Int32)) ⊕ ((Nat → Int32) × (Nat → Int32))) :=
  if x3 = 0 then (some (.inr (m_path, m_steps))) else (gd (inb x1 10) (if (24 : Int32) ≤ (m_steps x1.toNatClampNeg) then (some (.inr (m_path, m_steps))) else (gd (inb x1 10) (gd (inb (((25 : Int32) * x1) + (m_steps x1.toNatClampNeg)) 250) (gd (nz m_wide) (if (((m_path (((25 : Int32) * x1) + (m_steps x1.toNatClampNeg)).toNatClampNeg) + (1 : Int32)) - ((m_path (((25 : Int32) * x1) + (m_steps x1.toNatClampNeg)).toNatClampNeg) + (1 : Int32)) / m_wide * m_wide) ≤ 0 then (some (.inr (m_path, m_steps))) else (gd (inb x1 10) (bind1 (f_X9_next m_cells m_wide m_bowls m_dogs m_gone m_cell m_bowl m_dog m_path m_steps x1 (m_steps x1.toNatClampNeg)) (fun r3 => if r3 = (-1 : Int32) then (f_X9_walks_b132L67 m_cells m_wide m_bowls m_dogs m_gone m_cell m_bowl m_dog m_path m_steps x1 r3 (0 : Int32)) else (f_X9_walks_b132L67 m_cells m_wide m_bowls m_dogs m_gone m_cell m_bowl m_dog m_path m_steps x1 r3 (1 : Int32)))))))))))
set_option maxHeartbeats 4000000 in
set_option maxRecDepth 100000 in
theorem k_X9_walks_L67 (C : Cx RX9 cX9_walks 5 D cA p s m args c) (hA : ∀ q, s.heap.size ≤ q → A q) (b : Nat → Nat) (m_latest : Int32) (m_cells : Int32) (m_wide : Int32) (m_houses : Int32) (m_bowls : Int32) (m_dogs : Int32) (m_gone : Int32) (m_sights : Int32) (m_drawn : Int32) (m_cell : Nat → Int32) (m_settings : Nat → Int32) (m_bowl : Nat → Int32) (m_dog : Nat → Int32) (x1 : Int32) (x3 : Int32) (m_path : Nat → Int32) (m_steps : Nat → Int32) (r : (Int32 × (Nat → Int32) × (Nat → Int32)) ⊕ ((Nat → Int32) × (Nat → Int32))) (hf : f_X9_walks_L67 m_cells m_wide m_bowls m_dogs m_gone m_cell m_bowl m_dog x1 x3 m_path m_steps = some r) (hK : Sum.elim (fun q : Int32 × (Nat → Int32) × (Nat → Int32) => At p l e rm_X9_walks s m args below meth c D A 0 0 Q 5 67 (wl_X9_walks cA b m_latest m_cells m_wide m_houses m_bowls m_dogs m_gone m_sights m_drawn m_cell m_settings m_bowl m_dog (q.2.1) (q.2.2)) [(0, .ref (b 0)), (1, .int x1), (3, .int (q.1))] []) (fun q : (Nat → Int32) × (Nat → Int32) => At p l e rm_X9_walks s m args below meth c D A 0 0 Q 5 168 (wl_X9_walks cA b m_latest m_cells m_wide m_houses m_bowls m_dogs m_gone m_sights m_drawn m_cell m_settings m_bowl m_dog (q.1) (q.2)) [] []) r) : At p l e rm_X9_walks s m args below meth c D A 0 0 Q 5 67 (wl_X9_walks cA b m_latest m_cells m_wide m_houses m_bowls m_dogs m_gone m_sights m_drawn m_cell m_settings m_bowl m_dog m_path m_steps) [(0, .ref (b 0)), (1, .int x1), (3, .int x3)] [] := by
  intro H locs ls hP hD hS hl
  have hx := C.1
  have hb := C.2.1
  have hown := C.2.2.2.1
  have hts := C.2.2.2.2.1
  unfold f_X9_walks_L67 at hf
  refine lv_iload_n (pc := 67) hx hb dX9_walks_67 rfl (lv_at hl 2 rfl) ?_
  refine lv_if_eq (pc := 68) (tgt := 168) hx hb dX9_walks_68 (by decide) (fun hc => ?_) (fun hc => ?_)
  · have hf := (if_pos hc).symm.trans hf
    have hf := Option.some.inj hf
    subst hf
    exact hK H locs ls hP hD hS (lv_sub hl [] rfl)
  · have hf := (if_neg hc).symm.trans hf
    refine lv_aload_n (pc := 71) hx hb dX9_walks_71 rfl (lv_at hl 0 rfl) ?_
    refine g_get (pc := 72) C fg_X9_46 hP 0 rfl rfl dX9_walks_72 ?_
    refine lv_iload_n (pc := 75) hx hb dX9_walks_75 rfl (lv_at hl 1 rfl) ?_
    obtain ⟨hg, hf⟩ := gd_some hf
    refine g_iald (pc := 76) C hP 6 rfl hg dX9_walks_76 ?_
    refine lv_bipush (pc := 77) (v := 24) hx hb dX9_walks_77 bp_24 ?_
    refine lv_icmp_ge (pc := 79) (tgt := 168) hx hb dX9_walks_79 (by decide) (fun hc => ?_) (fun hc => ?_)
    · have hf := (if_pos hc).symm.trans hf
      have hf := Option.some.inj hf
      subst hf
      exact hK H locs ls hP hD hS (lv_sub hl [] rfl)
    · have hf := (if_neg hc).symm.trans hf
      refine lv_aload_n (pc := 82) hx hb dX9_walks_82 rfl (lv_at hl 0 rfl) ?_
      refine g_get (pc := 83) C fg_X9_43 hP 0 rfl rfl dX9_walks_83 ?_
      refine lv_bipush (pc := 86) (v := 25) hx hb dX9_walks_86 bp_25 ?_
      refine lv_iload_n (pc := 88) hx hb dX9_walks_88 rfl (lv_at hl 1 rfl) ?_
      refine lv_imul (pc := 89) hx hb dX9_walks_89 ?_
      refine lv_aload_n (pc := 90) hx hb dX9_walks_90 rfl (lv_at hl 0 rfl) ?_
      refine g_get (pc := 91) C fg_X9_46 hP 0 rfl rfl dX9_walks_91 ?_
      refine lv_iload_n (pc := 94) hx hb dX9_walks_94 rfl (lv_at hl 1 rfl) ?_
      obtain ⟨hg, hf⟩ := gd_some hf
      refine g_iald (pc := 95) C hP 6 rfl hg dX9_walks_95 ?_
      refine lv_iadd (pc := 96) hx hb dX9_walks_96 ?_
      obtain ⟨hg, hf⟩ := gd_some hf
      refine g_iald (pc := 97) C hP 5 rfl hg dX9_walks_97 ?_
      refine lv_iconst (pc := 98) (v := 1) hx hb dX9_walks_98 ic_1 ?_
      refine lv_iadd (pc := 99) hx hb dX9_walks_99 ?_
      refine lv_aload_n (pc := 100) hx hb dX9_walks_100 rfl (lv_at hl 0 rfl) ?_
      refine g_get (pc := 101) C fg_X9_97 hP 0 rfl rfl dX9_walks_101 ?_
      obtain ⟨hg, hf⟩ := gd_some hf
      refine lv_irem (pc := 104) hx hb dX9_walks_104 (nz_of hg) ?_
      refine lv_if_le (pc := 105) (tgt := 168) hx hb dX9_walks_105 (by decide) (fun hc => ?_) (fun hc => ?_)
      · have hf := (if_pos hc).symm.trans hf
        have hf := Option.some.inj hf
        subst hf
        exact hK H locs ls hP hD hS (lv_sub hl [] rfl)
      · have hf := (if_neg hc).symm.trans hf
        refine lv_aload_n (pc := 108) hx hb dX9_walks_108 rfl (lv_at hl 0 rfl) ?_
        refine lv_iload_n (pc := 109) hx hb dX9_walks_109 rfl (lv_at hl 1 rfl) ?_
        refine lv_aload_n (pc := 110) hx hb dX9_walks_110 rfl (lv_at hl 0 rfl) ?_
        refine g_get (pc := 111) C fg_X9_46 hP 0 rfl rfl dX9_walks_111 ?_
        refine lv_iload_n (pc := 114) hx hb dX9_walks_114 rfl (lv_at hl 1 rfl) ?_
        obtain ⟨hg, hf⟩ := gd_some hf
        refine g_iald (pc := 115) C hP 6 rfl hg dX9_walks_115 ?_
        obtain ⟨r3, hq, hf⟩ := bind1_some hf
        refine fin2_i (wl_X9_walks cA b m_latest m_cells m_wide m_houses m_bowls m_dogs m_gone m_sights m_drawn m_cell m_settings m_bowl m_dog m_path m_steps) (run_V (rest := []) (pc := 116) (As := [.int x1, .int (m_steps x1.toNatClampNeg)]) C mf_X9_168 (c_X9_next l D cA b m_latest m_cells m_wide m_houses m_bowls m_dogs m_gone m_sights m_drawn m_cell m_bowl m_dog m_path m_steps x1 (m_steps x1.toNatClampNeg) r3 hq H.size) rfl rfl ⟨(Nat.le_of_ble_eq_true rfl), (Nat.le_of_ble_eq_true rfl)⟩ (preV_of C hP hD [0, 1, 3, 4, 5, 6] rfl (pl_nd pv_132) 0 rfl rfl rfl) rfl hl.1 rfl (Nat.le_of_ble_eq_true rfl) dX9_walks_116 ⟨Nat.zero_le _, Nat.zero_le _⟩) hP hD hS hA [0, 1, 3, 4, 5, 6] [2] rfl rfl rfl rfl pv_132 (fun H locs hP hS => ?_)
        refine lv_istore (pc := 119) (lv' := [(4, .int r3), (0, .ref (b 0)), (1, .int x1), (3, .int x3)]) hx hb dX9_walks_119 hl (Nat.le_of_ble_eq_true rfl) rfl (fun ls hl => ?_)
        refine lv_iload (pc := 121) hx hb dX9_walks_121 (lv_at hl 0 rfl) ?_
        refine lv_iconst (pc := 123) (v := (-1)) hx hb dX9_walks_123 ic_m1 ?_
        refine lv_icmp_eq (pc := 124) (tgt := 131) hx hb dX9_walks_124 (by decide) (fun hc => ?_) (fun hc => ?_)
        · have hf := (if_pos hc).symm.trans hf
          refine lv_iconst (pc := 131) (v := 0) hx hb dX9_walks_131 ic_0 ?_
          exact k_X9_walks_b132L67 C hA b m_latest m_cells m_wide m_houses m_bowls m_dogs m_gone m_sights m_drawn m_cell m_settings m_bowl m_dog m_path m_steps x1 r3 (0 : Int32) r hf hK H locs ls hP hD hS (lv_sub hl [1, 2, 0] rfl)
        · have hf := (if_neg hc).symm.trans hf
          refine lv_iconst (pc := 127) (v := 1) hx hb dX9_walks_127 ic_1 ?_
          refine lv_goto (pc := 128) (tgt := 132) hx hb dX9_walks_128 (by decide) ?_
          exact k_X9_walks_b132L67 C hA b m_latest m_cells m_wide m_houses m_bowls m_dogs m_gone m_sights m_drawn m_cell m_settings m_bowl m_dog m_path m_steps x1 r3 (1 : Int32) r hf hK H locs ls hP hD hS (lv_sub hl [1, 2, 0] rfl)
theorem kl_X9_walks_L67 (C : Cx RX9 cX9_walks 5 D cA p s m args c) (hA : ∀ q, s.heap.size ≤ q → A q) (b : Nat → Nat) (m_latest : Int32) (m_cells : Int32) (m_wide : Int32) (m_houses : Int32) (m_bowls : Int32) (m_dogs : Int32) (m_gone : Int32) (m_sights : Int32) (m_drawn : Int32) (m_cell : Nat → Int32) (m_settings : Nat → Int32) (m_bowl : Nat → Int32) (m_dog : Nat → Int32) (x1 : Int32) : ∀ (n : Nat) (q : Int32 × (Nat → Int32) × (Nat → Int32)) (z : ((Nat → Int32) × (Nat → Int32))), loopF (fun q : Int32 × (Nat → Int32) × (Nat → Int32) => f_X9_walks_L67 m_cells m_wide m_bowls m_dogs m_gone m_cell m_bowl m_dog x1 q.1 q.2.1 q.2.2) n q = some z → (fun q : (Nat → Int32) × (Nat → Int32) => At p l e rm_X9_walks s m args below meth c D A 0 0 Q 5 168 (wl_X9_walks cA b m_latest m_cells m_wide m_houses m_bowls m_dogs m_gone m_sights m_drawn m_cell m_settings m_bowl m_dog (q.1) (q.2)) [] []) z → At p l e rm_X9_walks s m args below meth c D A 0 0 Q 5 67 (wl_X9_walks cA b m_latest m_cells m_wide m_houses m_bowls m_dogs m_gone m_sights m_drawn m_cell m_settings m_bowl m_dog (q.2.1) (q.2.2)) [(0, .ref (b 0)), (1, .int x1), (3, .int (q.1))] [] :=
  loop_lem (WP := fun q : Int32 × (Nat → Int32) × (Nat → Int32) => At p l e rm_X9_walks s m args below meth c D A 0 0 Q 5 67 (wl_X9_walks cA b m_latest m_cells m_wide m_houses m_bowls m_dogs m_gone m_sights m_drawn m_cell m_settings m_bowl m_dog (q.2.1) (q.2.2)) [(0, .ref (b 0)), (1, .int x1), (3, .int (q.1))] []) (WE := (fun q : (Nat → Int32) × (Nat → Int32) => At p l e rm_X9_walks s m args below meth c D A 0 0 Q 5 168 (wl_X9_walks cA b m_latest m_cells m_wide m_houses m_bowls m_dogs m_gone m_sights m_drawn m_cell m_settings m_bowl m_dog (q.1) (q.2)) [] [])) (fun q r hf hK => k_X9_walks_L67 C hA b m_latest m_cells m_wide m_houses m_bowls m_dogs m_gone m_sights m_drawn m_cell m_settings m_bowl m_dog x1 q.1 q.2.1 q.2.2 r hf hK)
def f_X9_walks (m_cells : Int32) (m_wide : Int32) (m_bowls : Int32) (m_dogs : Int32) (m_gone : Int32) (m_cell : Nat → Int32) (m_settings : Nat → Int32) (m_bowl : Nat → Int32) (m_dog : Nat → Int32) (m_path : Nat → Int32) (m_steps : Nat → Int32) (x1 : Int32) : Option ((Nat → Int32) × (Nat → Int32)) :=
  letv (((m_settings (0 : Int32).toNatClampNeg) * m_wide)) (fun v1 => gd (inb x1 10) (if (m_settings (1 : Int32).toNatClampNeg) ≤ x1 then (some (m_path, (upd m_steps x1.toNatClampNeg (-1 : Int32)))) else (bind1 (f_X9_isCell m_cells v1) (fun r2 => if r2 = 0 then (some (m_path, (upd m_steps x1.toNatClampNeg (-1 : Int32)))) else (gd (inb v1 36) (if (m_cell v1.toNatClampNeg) = (1 : Int32) then (some (m_path, (upd m_steps x1.toNatClampNeg (-1 : Int32)))) else (gd (inb x1 10) (gd (inb ((25 : Int32) * x1) 250) (bind2 (loopF (fun q : Int32 × (Nat → Int32) × (Nat → Int32) => f_X9_walks_L67 m_cells m_wide m_bowls m_dogs m_gone m_cell m_bowl m_dog x1 q.1 q.2.1 q.2.2) FU ((1 : Int32), (upd m_path ((25 : Int32) * x1).toNatClampNeg v1), (upd (upd m_steps x1.toNatClampNeg (-1 : Int32)) x1.toNatClampNeg (0 : Int32)))) (fun u5 u6 => some (u5, u6)))))))))))
set_option maxHeartbeats 4000000 in
set_option maxRecDepth 100000 in
theorem k_X9_walks (C : Cx RX9 cX9_walks 5 D cA p s m args c) (hr : meth.sig.returnType = none) (hlk : meth.locks = false) (hA : ∀ q, s.heap.size ≤ q → va_A ws0 sz q) (b : Nat → Nat) (m_latest : Int32) (m_cells : Int32) (m_wide : Int32) (m_houses : Int32) (m_bowls : Int32) (m_dogs : Int32) (m_gone : Int32) (m_sights : Int32) (m_drawn : Int32) (m_cell : Nat → Int32) (m_settings : Nat → Int32) (m_bowl : Nat → Int32) (m_dog : Nat → Int32) (m_path : Nat → Int32) (m_steps : Nat → Int32) (x1 : Int32) (r : (Nat → Int32) × (Nat → Int32)) (hf : f_X9_walks m_cells m_wide m_bowls m_dogs m_gone m_cell m_settings m_bowl m_dog m_path m_steps x1 = some r) : At p l e rm_X9_walks s m args below meth c D (va_A ws0 sz) 0 0 (MQ below (PostV D ws0 (wl_X9_walks cA b m_latest m_cells m_wide m_houses m_bowls m_dogs m_gone m_sights m_drawn m_cell m_settings m_bowl m_dog (r.1) (r.2)) sz) args s 0 0 (va_A ws0 sz)) 5 0 (wl_X9_walks cA b m_latest m_cells m_wide m_houses m_bowls m_dogs m_gone m_sights m_drawn m_cell m_settings m_bowl m_dog m_path m_steps) [(0, .ref (b 0)), (1, .int x1)] [] := by
  intro H locs ls hP hD hS hl
  have hx := C.1
  have hb := C.2.1
  have hown := C.2.2.2.1
  have hts := C.2.2.2.2.1
  unfold f_X9_walks at hf
  refine lv_aload_n (pc := 0) hx hb dX9_walks_0 rfl (lv_at hl 0 rfl) ?_
  refine g_get (pc := 1) C fg_X9_34 hP 0 rfl rfl dX9_walks_1 ?_
  refine lv_iconst (pc := 4) (v := 0) hx hb dX9_walks_4 ic_0 ?_
  refine g_iald (pc := 5) C hP 2 rfl (by decide) dX9_walks_5 ?_
  refine lv_aload_n (pc := 6) hx hb dX9_walks_6 rfl (lv_at hl 0 rfl) ?_
  refine g_get (pc := 7) C fg_X9_97 hP 0 rfl rfl dX9_walks_7 ?_
  refine lv_imul (pc := 10) hx hb dX9_walks_10 ?_
  obtain ⟨v1, e_v1, hf⟩ := letv_some hf
  refine tp_i e_v1 ?_
  refine lv_istore_n (pc := 11) (lv' := [(2, .int v1), (0, .ref (b 0)), (1, .int x1)]) hx hb dX9_walks_11 rfl hl (Nat.le_of_ble_eq_true rfl) rfl (fun ls hl => ?_)
  refine lv_aload_n (pc := 12) hx hb dX9_walks_12 rfl (lv_at hl 1 rfl) ?_
  refine g_get (pc := 13) C fg_X9_46 hP 0 rfl rfl dX9_walks_13 ?_
  refine lv_iload_n (pc := 16) hx hb dX9_walks_16 rfl (lv_at hl 2 rfl) ?_
  refine lv_iconst (pc := 17) (v := (-1)) hx hb dX9_walks_17 ic_m1 ?_
  obtain ⟨hg, hf⟩ := gd_some hf
  refine g_iast (pc := 18) C hP hD hS 6 rfl hg dX9_walks_18 (fun H locs hP hD hS => ?_)
  have hP : va_P D classes (wl_X9_walks cA b m_latest m_cells m_wide m_houses m_bowls m_dogs m_gone m_sights m_drawn m_cell m_settings m_bowl m_dog m_path (upd m_steps x1.toNatClampNeg (-1 : Int32))) H := hP
  have hD : va_D (va_A ws0 sz) (wl_X9_walks cA b m_latest m_cells m_wide m_houses m_bowls m_dogs m_gone m_sights m_drawn m_cell m_settings m_bowl m_dog m_path (upd m_steps x1.toNatClampNeg (-1 : Int32))) := hD
  refine lv_iload_n (pc := 19) hx hb dX9_walks_19 rfl (lv_at hl 2 rfl) ?_
  refine lv_aload_n (pc := 20) hx hb dX9_walks_20 rfl (lv_at hl 1 rfl) ?_
  refine g_get (pc := 21) C fg_X9_34 hP 0 rfl rfl dX9_walks_21 ?_
  refine lv_iconst (pc := 24) (v := 1) hx hb dX9_walks_24 ic_1 ?_
  refine g_iald (pc := 25) C hP 2 rfl (by decide) dX9_walks_25 ?_
  refine lv_icmp_ge (pc := 26) (tgt := 47) hx hb dX9_walks_26 (by decide) (fun hc => ?_) (fun hc => ?_)
  · have hf := (if_pos hc).symm.trans hf
    have hf := Option.some.inj hf
    subst hf
    exact ret_v C hr hlk hP hS dX9_walks_47
  · have hf := (if_neg hc).symm.trans hf
    refine lv_aload_n (pc := 29) hx hb dX9_walks_29 rfl (lv_at hl 1 rfl) ?_
    refine lv_iload_n (pc := 30) hx hb dX9_walks_30 rfl (lv_at hl 0 rfl) ?_
    obtain ⟨r2, hq, hf⟩ := bind1_some hf
    refine fin2_i (wl_X9_walks cA b m_latest m_cells m_wide m_houses m_bowls m_dogs m_gone m_sights m_drawn m_cell m_settings m_bowl m_dog m_path (upd m_steps x1.toNatClampNeg (-1 : Int32))) (run_V (rest := []) (pc := 31) (As := [.int v1]) C mf_X9_165 (c_X9_isCell l D cA b m_latest m_cells m_wide m_houses m_bowls m_dogs m_gone m_sights m_drawn v1 r2 hq H.size) rfl rfl ⟨(Nat.le_of_ble_eq_true rfl), (Nat.le_of_ble_eq_true rfl)⟩ (preV_of C hP hD [0] rfl (pl_nd pv_131) 0 rfl rfl rfl) rfl hl.1 rfl (Nat.le_of_ble_eq_true rfl) dX9_walks_31 ⟨Nat.zero_le _, Nat.zero_le _⟩) hP hD hS hA [0] [1, 2, 3, 4, 5, 6] rfl rfl rfl rfl pv_131 (fun H locs hP hS => ?_)
    refine lv_if_eq (pc := 34) (tgt := 47) hx hb dX9_walks_34 (by decide) (fun hc => ?_) (fun hc => ?_)
    · have hf := (if_pos hc).symm.trans hf
      have hf := Option.some.inj hf
      subst hf
      exact ret_v C hr hlk hP hS dX9_walks_47
    · have hf := (if_neg hc).symm.trans hf
      refine lv_aload_n (pc := 37) hx hb dX9_walks_37 rfl (lv_at hl 1 rfl) ?_
      refine g_get (pc := 38) C fg_X9_28 hP 0 rfl rfl dX9_walks_38 ?_
      refine lv_iload_n (pc := 41) hx hb dX9_walks_41 rfl (lv_at hl 0 rfl) ?_
      obtain ⟨hg, hf⟩ := gd_some hf
      refine g_iald (pc := 42) C hP 1 rfl hg dX9_walks_42 ?_
      refine lv_iconst (pc := 43) (v := 1) hx hb dX9_walks_43 ic_1 ?_
      refine lv_icmp_ne (pc := 44) (tgt := 48) hx hb dX9_walks_44 (by decide) (fun hc => ?_) (fun hc => ?_)
      · have hf := (if_neg hc).symm.trans hf
        refine lv_aload_n (pc := 48) hx hb dX9_walks_48 rfl (lv_at hl 1 rfl) ?_
        refine g_get (pc := 49) C fg_X9_46 hP 0 rfl rfl dX9_walks_49 ?_
        refine lv_iload_n (pc := 52) hx hb dX9_walks_52 rfl (lv_at hl 2 rfl) ?_
        refine lv_iconst (pc := 53) (v := 0) hx hb dX9_walks_53 ic_0 ?_
        obtain ⟨hg, hf⟩ := gd_some hf
        refine g_iast (pc := 54) C hP hD hS 6 rfl hg dX9_walks_54 (fun H locs hP hD hS => ?_)
        have hP : va_P D classes (wl_X9_walks cA b m_latest m_cells m_wide m_houses m_bowls m_dogs m_gone m_sights m_drawn m_cell m_settings m_bowl m_dog m_path (upd (upd m_steps x1.toNatClampNeg (-1 : Int32)) x1.toNatClampNeg (0 : Int32))) H := hP
        have hD : va_D (va_A ws0 sz) (wl_X9_walks cA b m_latest m_cells m_wide m_houses m_bowls m_dogs m_gone m_sights m_drawn m_cell m_settings m_bowl m_dog m_path (upd (upd m_steps x1.toNatClampNeg (-1 : Int32)) x1.toNatClampNeg (0 : Int32))) := hD
        refine lv_aload_n (pc := 55) hx hb dX9_walks_55 rfl (lv_at hl 1 rfl) ?_
        refine g_get (pc := 56) C fg_X9_43 hP 0 rfl rfl dX9_walks_56 ?_
        refine lv_bipush (pc := 59) (v := 25) hx hb dX9_walks_59 bp_25 ?_
        refine lv_iload_n (pc := 61) hx hb dX9_walks_61 rfl (lv_at hl 2 rfl) ?_
        refine lv_imul (pc := 62) hx hb dX9_walks_62 ?_
        refine lv_iload_n (pc := 63) hx hb dX9_walks_63 rfl (lv_at hl 0 rfl) ?_
        obtain ⟨hg, hf⟩ := gd_some hf
        refine g_iast (pc := 64) C hP hD hS 5 rfl hg dX9_walks_64 (fun H locs hP hD hS => ?_)
        have hP : va_P D classes (wl_X9_walks cA b m_latest m_cells m_wide m_houses m_bowls m_dogs m_gone m_sights m_drawn m_cell m_settings m_bowl m_dog (upd m_path ((25 : Int32) * x1).toNatClampNeg v1) (upd (upd m_steps x1.toNatClampNeg (-1 : Int32)) x1.toNatClampNeg (0 : Int32))) H := hP
        have hD : va_D (va_A ws0 sz) (wl_X9_walks cA b m_latest m_cells m_wide m_houses m_bowls m_dogs m_gone m_sights m_drawn m_cell m_settings m_bowl m_dog (upd m_path ((25 : Int32) * x1).toNatClampNeg v1) (upd (upd m_steps x1.toNatClampNeg (-1 : Int32)) x1.toNatClampNeg (0 : Int32))) := hD
        refine lv_iconst (pc := 65) (v := 1) hx hb dX9_walks_65 ic_1 ?_
        refine lv_istore_n (pc := 66) (lv' := [(3, .int (1 : Int32)), (2, .int v1), (0, .ref (b 0)), (1, .int x1)]) hx hb dX9_walks_66 rfl hl (Nat.le_of_ble_eq_true rfl) rfl (fun ls hl => ?_)
        obtain ⟨u5, u6, hq, hf⟩ := bind2_some hf
        refine kl_X9_walks_L67 C hA b m_latest m_cells m_wide m_houses m_bowls m_dogs m_gone m_sights m_drawn m_cell m_settings m_bowl m_dog x1 FU ((1 : Int32), (upd m_path ((25 : Int32) * x1).toNatClampNeg v1), (upd (upd m_steps x1.toNatClampNeg (-1 : Int32)) x1.toNatClampNeg (0 : Int32))) _ hq ?_ H locs ls hP hD hS (lv_sub hl [2, 3, 0] rfl)
        intro H locs ls hP hD hS hl
        have hP : va_P D classes (wl_X9_walks cA b m_latest m_cells m_wide m_houses m_bowls m_dogs m_gone m_sights m_drawn m_cell m_settings m_bowl m_dog u5 u6) H := hP
        have hD : va_D (va_A ws0 sz) (wl_X9_walks cA b m_latest m_cells m_wide m_houses m_bowls m_dogs m_gone m_sights m_drawn m_cell m_settings m_bowl m_dog u5 u6) := hD
        have hl : lv_has ls 5 [] := hl
        have hf := Option.some.inj hf
        subst hf
        exact ret_v C hr hlk hP hS dX9_walks_168
      · have hf := (if_pos hc).symm.trans hf
        have hf := Option.some.inj hf
        subst hf
        exact ret_v C hr hlk hP hS dX9_walks_47
set_option maxRecDepth 100000 in
theorem c_X9_walks (l : Launch) (D : va_G) (cA : Nat → ClassId) (b : Nat → Nat) (m_latest : Int32) (m_cells : Int32) (m_wide : Int32) (m_houses : Int32) (m_bowls : Int32) (m_dogs : Int32) (m_gone : Int32) (m_sights : Int32) (m_drawn : Int32) (m_cell : Nat → Int32) (m_settings : Nat → Int32) (m_bowl : Nat → Int32) (m_dog : Nat → Int32) (m_path : Nat → Int32) (m_steps : Nat → Int32) (x1 : Int32) (r : (Nat → Int32) × (Nat → Int32)) (hf : f_X9_walks m_cells m_wide m_bowls m_dogs m_gone m_cell m_settings m_bowl m_dog m_path m_steps x1 = some r) (sz : Nat) : Met l yX9_walks (Cond.code yX9_walks cX9_walks 5 none :: lw_good) rm_X9_walks (PreX D cA [.ref (b 0), .int x1] sz (wl_X9_walks cA b m_latest m_cells m_wide m_houses m_bowls m_dogs m_gone m_sights m_drawn m_cell m_settings m_bowl m_dog m_path m_steps)) (PostV D (wl_X9_walks cA b m_latest m_cells m_wide m_houses m_bowls m_dogs m_gone m_sights m_drawn m_cell m_settings m_bowl m_dog m_path m_steps) (wl_X9_walks cA b m_latest m_cells m_wide m_houses m_bowls m_dogs m_gone m_sights m_drawn m_cell m_settings m_bowl m_dog (r.1) (r.2)) sz) 0 0 (va_A (wl_X9_walks cA b m_latest m_cells m_wide m_houses m_bowls m_dogs m_gone m_sights m_drawn m_cell m_settings m_bowl m_dog m_path m_steps) sz) :=
  met_of (by decide) (Nat.le_of_ble_eq_true rfl) (fun p e s m args below meth c C hr hlk hA => k_X9_walks C hr hlk hA b m_latest m_cells m_wide m_houses m_bowls m_dogs m_gone m_sights m_drawn m_cell m_settings m_bowl m_dog m_path m_steps x1 r hf)
end

abbrev wl_X9_draws (cA : Nat → ClassId) (b : Nat → Nat) (m_latest : Int32) (m_cells : Int32) (m_wide : Int32) (m_houses : Int32) (m_bowls : Int32) (m_dogs : Int32) (m_gone : Int32) (m_sights : Int32) (m_drawn : Int32) (m_path : Nat → Int32) (m_steps : Nat → Int32) (m_line : Nat → Int32) : va_W := [((b 0), .inr (9, [.ref (b 1), .ref (b 2), .ref (b 3), .ref (b 4), .int m_latest, .ref (b 5), .ref (b 6), .int m_cells, .int m_wide, .ref (b 7), .int m_houses, .ref (b 8), .ref (b 9), .int m_bowls, .ref (b 10), .int m_dogs, .ref (b 11), .int m_gone, .ref (b 12), .ref (b 13), .ref (b 14), .int m_sights, .ref (b 15), .ref (b 16), .int m_drawn])), ((b 12), .inl (cA 0, 250, .inl m_path)), ((b 13), .inl (cA 0, 10, .inl m_steps)), ((b 14), .inl (cA 0, 60, .inl m_line))]
abbrev rm_X9_draws : Room := { frames := 0, cells := 0, slots := 0, locals := 0 }
section
variable {p : Program} {l : Launch} {e : Env} {s : State} {m : MethodId} {args : Array Value} {below : List Frame} {meth : Method} {c : Code} {D : va_G} {cA : Nat → ClassId} {ws0 : va_W} {sz : Nat} {A : Nat → Prop} {Q : State → Prop}
def f_X9_draws_b52L2 (m_cells : Int32) (m_wide : Int32) (m_line : Nat → Int32) (x1 : Int32) (x2 : Int32) (s0 : Int32) (s1 : Int32) : Option ((Int32 × (Nat → Int32)) ⊕ ((Nat → Int32))) :=
  gd (inb s1 60) (some (.inl ((x2 + 1), (upd m_line s1.toNatClampNeg s0))))
set_option maxHeartbeats 4000000 in
set_option maxRecDepth 100000 in
theorem k_X9_draws_b52L2 (C : Cx RX9 cX9_draws 4 D cA p s m args c) (hA : ∀ q, s.heap.size ≤ q → A q) (b : Nat → Nat) (m_latest : Int32) (m_cells : Int32) (m_wide : Int32) (m_houses : Int32) (m_bowls : Int32) (m_dogs : Int32) (m_gone : Int32) (m_sights : Int32) (m_drawn : Int32) (m_path : Nat → Int32) (m_steps : Nat → Int32) (m_line : Nat → Int32) (x1 : Int32) (x2 : Int32) (s0 : Int32) (s1 : Int32) (r : (Int32 × (Nat → Int32)) ⊕ ((Nat → Int32))) (hf : f_X9_draws_b52L2 m_cells m_wide m_line x1 x2 s0 s1 = some r) (hK : Sum.elim (fun q : Int32 × (Nat → Int32) => At p l e rm_X9_draws s m args below meth c D A 0 0 Q 4 2 (wl_X9_draws cA b m_latest m_cells m_wide m_houses m_bowls m_dogs m_gone m_sights m_drawn m_path m_steps (q.2)) [(0, .ref (b 0)), (1, .int x1), (2, .int (q.1))] []) (fun q : (Nat → Int32) => At p l e rm_X9_draws s m args below meth c D A 0 0 Q 4 59 (wl_X9_draws cA b m_latest m_cells m_wide m_houses m_bowls m_dogs m_gone m_sights m_drawn m_path m_steps q) [(0, .ref (b 0)), (1, .int x1)] []) r) : At p l e rm_X9_draws s m args below meth c D A 0 0 Q 4 52 (wl_X9_draws cA b m_latest m_cells m_wide m_houses m_bowls m_dogs m_gone m_sights m_drawn m_path m_steps m_line) [(0, .ref (b 0)), (1, .int x1), (2, .int x2)] [.int s0, .int s1, .ref (b 14)] := by
  intro H locs ls hP hD hS hl
  have hx := C.1
  have hb := C.2.1
  have hown := C.2.2.2.1
  have hts := C.2.2.2.2.1
  unfold f_X9_draws_b52L2 at hf
  obtain ⟨hg, hf⟩ := gd_some hf
  refine g_iast (pc := 52) C hP hD hS 3 rfl hg dX9_draws_52 (fun H locs hP hD hS => ?_)
  have hP : va_P D classes (wl_X9_draws cA b m_latest m_cells m_wide m_houses m_bowls m_dogs m_gone m_sights m_drawn m_path m_steps (upd m_line s1.toNatClampNeg s0)) H := hP
  have hD : va_D A (wl_X9_draws cA b m_latest m_cells m_wide m_houses m_bowls m_dogs m_gone m_sights m_drawn m_path m_steps (upd m_line s1.toNatClampNeg s0)) := hD
  refine lv_iinc (pc := 53) (v := (x2 + 1)) (lv' := [(2, .int (x2 + 1)), (0, .ref (b 0)), (1, .int x1)]) hx hb dX9_draws_53 hl (k := 2) rfl rfl (Nat.le_of_ble_eq_true rfl) rfl (fun ls hl => ?_)
  refine lv_goto (pc := 56) (tgt := 2) hx hb dX9_draws_56 (by decide) ?_
  have hf := Option.some.inj hf
  subst hf
  exact hK H locs ls hP hD hS (lv_sub hl [1, 2, 0] rfl)
def f_X9_draws_L2 (m_cells : Int32) (m_wide : Int32) (x1 : Int32) (x2 : Int32) (m_line : Nat → Int32) : Option ((Int32 × (Nat → Int32)) ⊕ ((Nat → Int32))) :=
  if m_wide ≤ x2 then (some (.inr m_line)) else (if x1 = 0 then (gd (nz m_wide) (f_X9_draws_b52L2 m_cells m_wide m_line x1 x2 ((m_cells / m_wide) / (2 : Int32)) (((6 : Int32) * x1) + x2))) else (gd (inb ((((6 : Int32) * x1) - (6 : Int32)) + x2) 60) (f_X9_draws_b52L2 m_cells m_wide m_line x1 x2 (m_line ((((6 : Int32) * x1) - (6 : Int32)) + x2).toNatClampNeg) (((6 : Int32) * x1) + x2))))
set_option maxHeartbeats 4000000 in
set_option maxRecDepth 100000 in
theorem k_X9_draws_L2 (C : Cx RX9 cX9_draws 4 D cA p s m args c) (hA : ∀ q, s.heap.size ≤ q → A q) (b : Nat → Nat) (m_latest : Int32) (m_cells : Int32) (m_wide : Int32) (m_houses : Int32) (m_bowls : Int32) (m_dogs : Int32) (m_gone : Int32) (m_sights : Int32) (m_drawn : Int32) (m_path : Nat → Int32) (m_steps : Nat → Int32) (x1 : Int32) (x2 : Int32) (m_line : Nat → Int32) (r : (Int32 × (Nat → Int32)) ⊕ ((Nat → Int32))) (hf : f_X9_draws_L2 m_cells m_wide x1 x2 m_line = some r) (hK : Sum.elim (fun q : Int32 × (Nat → Int32) => At p l e rm_X9_draws s m args below meth c D A 0 0 Q 4 2 (wl_X9_draws cA b m_latest m_cells m_wide m_houses m_bowls m_dogs m_gone m_sights m_drawn m_path m_steps (q.2)) [(0, .ref (b 0)), (1, .int x1), (2, .int (q.1))] []) (fun q : (Nat → Int32) => At p l e rm_X9_draws s m args below meth c D A 0 0 Q 4 59 (wl_X9_draws cA b m_latest m_cells m_wide m_houses m_bowls m_dogs m_gone m_sights m_drawn m_path m_steps q) [(0, .ref (b 0)), (1, .int x1)] []) r) : At p l e rm_X9_draws s m args below meth c D A 0 0 Q 4 2 (wl_X9_draws cA b m_latest m_cells m_wide m_houses m_bowls m_dogs m_gone m_sights m_drawn m_path m_steps m_line) [(0, .ref (b 0)), (1, .int x1), (2, .int x2)] [] := by
  intro H locs ls hP hD hS hl
  have hx := C.1
  have hb := C.2.1
  have hown := C.2.2.2.1
  have hts := C.2.2.2.2.1
  unfold f_X9_draws_L2 at hf
  refine lv_iload_n (pc := 2) hx hb dX9_draws_2 rfl (lv_at hl 2 rfl) ?_
  refine lv_aload_n (pc := 3) hx hb dX9_draws_3 rfl (lv_at hl 0 rfl) ?_
  refine g_get (pc := 4) C fg_X9_97 hP 0 rfl rfl dX9_draws_4 ?_
  refine lv_icmp_ge (pc := 7) (tgt := 59) hx hb dX9_draws_7 (by decide) (fun hc => ?_) (fun hc => ?_)
  · have hf := (if_pos hc).symm.trans hf
    have hf := Option.some.inj hf
    subst hf
    exact hK H locs ls hP hD hS (lv_sub hl [0, 1] rfl)
  · have hf := (if_neg hc).symm.trans hf
    refine lv_aload_n (pc := 10) hx hb dX9_draws_10 rfl (lv_at hl 0 rfl) ?_
    refine g_get (pc := 11) C fg_X9_49 hP 0 rfl rfl dX9_draws_11 ?_
    refine lv_bipush (pc := 14) (v := 6) hx hb dX9_draws_14 bp_6 ?_
    refine lv_iload_n (pc := 16) hx hb dX9_draws_16 rfl (lv_at hl 1 rfl) ?_
    refine lv_imul (pc := 17) hx hb dX9_draws_17 ?_
    refine lv_iload_n (pc := 18) hx hb dX9_draws_18 rfl (lv_at hl 2 rfl) ?_
    refine lv_iadd (pc := 19) hx hb dX9_draws_19 ?_
    refine lv_iload_n (pc := 20) hx hb dX9_draws_20 rfl (lv_at hl 1 rfl) ?_
    refine lv_if_ne (pc := 21) (tgt := 38) hx hb dX9_draws_21 (by decide) (fun hc => ?_) (fun hc => ?_)
    · have hf := (if_neg hc).symm.trans hf
      refine lv_aload_n (pc := 38) hx hb dX9_draws_38 rfl (lv_at hl 0 rfl) ?_
      refine g_get (pc := 39) C fg_X9_49 hP 0 rfl rfl dX9_draws_39 ?_
      refine lv_bipush (pc := 42) (v := 6) hx hb dX9_draws_42 bp_6 ?_
      refine lv_iload_n (pc := 44) hx hb dX9_draws_44 rfl (lv_at hl 1 rfl) ?_
      refine lv_imul (pc := 45) hx hb dX9_draws_45 ?_
      refine lv_bipush (pc := 46) (v := 6) hx hb dX9_draws_46 bp_6 ?_
      refine lv_isub (pc := 48) hx hb dX9_draws_48 ?_
      refine lv_iload_n (pc := 49) hx hb dX9_draws_49 rfl (lv_at hl 2 rfl) ?_
      refine lv_iadd (pc := 50) hx hb dX9_draws_50 ?_
      obtain ⟨hg, hf⟩ := gd_some hf
      refine g_iald (pc := 51) C hP 3 rfl hg dX9_draws_51 ?_
      exact k_X9_draws_b52L2 C hA b m_latest m_cells m_wide m_houses m_bowls m_dogs m_gone m_sights m_drawn m_path m_steps m_line x1 x2 (m_line ((((6 : Int32) * x1) - (6 : Int32)) + x2).toNatClampNeg) (((6 : Int32) * x1) + x2) r hf hK H locs ls hP hD hS hl
    · have hf := (if_pos hc).symm.trans hf
      refine lv_aload_n (pc := 24) hx hb dX9_draws_24 rfl (lv_at hl 0 rfl) ?_
      refine g_get (pc := 25) C fg_X9_94 hP 0 rfl rfl dX9_draws_25 ?_
      refine lv_aload_n (pc := 28) hx hb dX9_draws_28 rfl (lv_at hl 0 rfl) ?_
      refine g_get (pc := 29) C fg_X9_97 hP 0 rfl rfl dX9_draws_29 ?_
      obtain ⟨hg, hf⟩ := gd_some hf
      refine lv_idiv (pc := 32) hx hb dX9_draws_32 (nz_of hg) ?_
      refine lv_iconst (pc := 33) (v := 2) hx hb dX9_draws_33 ic_2 ?_
      refine lv_idiv (pc := 34) hx hb dX9_draws_34 (by decide) ?_
      refine lv_goto (pc := 35) (tgt := 52) hx hb dX9_draws_35 (by decide) ?_
      exact k_X9_draws_b52L2 C hA b m_latest m_cells m_wide m_houses m_bowls m_dogs m_gone m_sights m_drawn m_path m_steps m_line x1 x2 ((m_cells / m_wide) / (2 : Int32)) (((6 : Int32) * x1) + x2) r hf hK H locs ls hP hD hS hl
theorem kl_X9_draws_L2 (C : Cx RX9 cX9_draws 4 D cA p s m args c) (hA : ∀ q, s.heap.size ≤ q → A q) (b : Nat → Nat) (m_latest : Int32) (m_cells : Int32) (m_wide : Int32) (m_houses : Int32) (m_bowls : Int32) (m_dogs : Int32) (m_gone : Int32) (m_sights : Int32) (m_drawn : Int32) (m_path : Nat → Int32) (m_steps : Nat → Int32) (x1 : Int32) : ∀ (n : Nat) (q : Int32 × (Nat → Int32)) (z : ((Nat → Int32))), loopF (fun q : Int32 × (Nat → Int32) => f_X9_draws_L2 m_cells m_wide x1 q.1 q.2) n q = some z → (fun q : (Nat → Int32) => At p l e rm_X9_draws s m args below meth c D A 0 0 Q 4 59 (wl_X9_draws cA b m_latest m_cells m_wide m_houses m_bowls m_dogs m_gone m_sights m_drawn m_path m_steps q) [(0, .ref (b 0)), (1, .int x1)] []) z → At p l e rm_X9_draws s m args below meth c D A 0 0 Q 4 2 (wl_X9_draws cA b m_latest m_cells m_wide m_houses m_bowls m_dogs m_gone m_sights m_drawn m_path m_steps (q.2)) [(0, .ref (b 0)), (1, .int x1), (2, .int (q.1))] [] :=
  loop_lem (WP := fun q : Int32 × (Nat → Int32) => At p l e rm_X9_draws s m args below meth c D A 0 0 Q 4 2 (wl_X9_draws cA b m_latest m_cells m_wide m_houses m_bowls m_dogs m_gone m_sights m_drawn m_path m_steps (q.2)) [(0, .ref (b 0)), (1, .int x1), (2, .int (q.1))] []) (WE := (fun q : (Nat → Int32) => At p l e rm_X9_draws s m args below meth c D A 0 0 Q 4 59 (wl_X9_draws cA b m_latest m_cells m_wide m_houses m_bowls m_dogs m_gone m_sights m_drawn m_path m_steps q) [(0, .ref (b 0)), (1, .int x1)] [])) (fun q r hf hK => k_X9_draws_L2 C hA b m_latest m_cells m_wide m_houses m_bowls m_dogs m_gone m_sights m_drawn m_path m_steps x1 q.1 q.2 r hf hK)
def f_X9_draws_L61 (m_wide : Int32) (m_path : Nat → Int32) (m_steps : Nat → Int32) (x1 : Int32) (x2 : Int32) (m_line : Nat → Int32) : Option ((Int32 × (Nat → Int32)) ⊕ ((Nat → Int32))) :=
  gd (inb x1 10) (if (m_steps x1.toNatClampNeg) < x2 then (some (.inr m_line)) else (gd (inb (((25 : Int32) * x1) + x2) 250) (letv ((m_path (((25 : Int32) * x1) + x2).toNatClampNeg)) (fun v2 => gd (nz m_wide) (gd (nz m_wide) (letv ((v2 / m_wide)) (fun v3 => gd (inb (((6 : Int32) * x1) + (v2 - v2 / m_wide * m_wide)) 60) (some (.inl ((x2 + 1), (upd m_line (((6 : Int32) * x1) + (v2 - v2 / m_wide * m_wide)).toNatClampNeg v3)))))))))))
set_option maxHeartbeats 4000000 in
set_option maxRecDepth 100000 in
theorem k_X9_draws_L61 (C : Cx RX9 cX9_draws 4 D cA p s m args c) (hA : ∀ q, s.heap.size ≤ q → A q) (b : Nat → Nat) (m_latest : Int32) (m_cells : Int32) (m_wide : Int32) (m_houses : Int32) (m_bowls : Int32) (m_dogs : Int32) (m_gone : Int32) (m_sights : Int32) (m_drawn : Int32) (m_path : Nat → Int32) (m_steps : Nat → Int32) (x1 : Int32) (x2 : Int32) (m_line : Nat → Int32) (r : (Int32 × (Nat → Int32)) ⊕ ((Nat → Int32))) (hf : f_X9_draws_L61 m_wide m_path m_steps x1 x2 m_line = some r) (hK : Sum.elim (fun q : Int32 × (Nat → Int32) => At p l e rm_X9_draws s m args below meth c D A 0 0 Q 4 61 (wl_X9_draws cA b m_latest m_cells m_wide m_houses m_bowls m_dogs m_gone m_sights m_drawn m_path m_steps (q.2)) [(0, .ref (b 0)), (1, .int x1), (2, .int (q.1))] []) (fun q : (Nat → Int32) => At p l e rm_X9_draws s m args below meth c D A 0 0 Q 4 111 (wl_X9_draws cA b m_latest m_cells m_wide m_houses m_bowls m_dogs m_gone m_sights m_drawn m_path m_steps q) [] []) r) : At p l e rm_X9_draws s m args below meth c D A 0 0 Q 4 61 (wl_X9_draws cA b m_latest m_cells m_wide m_houses m_bowls m_dogs m_gone m_sights m_drawn m_path m_steps m_line) [(0, .ref (b 0)), (1, .int x1), (2, .int x2)] [] := by
  intro H locs ls hP hD hS hl
  have hx := C.1
  have hb := C.2.1
  have hown := C.2.2.2.1
  have hts := C.2.2.2.2.1
  unfold f_X9_draws_L61 at hf
  refine lv_iload_n (pc := 61) hx hb dX9_draws_61 rfl (lv_at hl 2 rfl) ?_
  refine lv_aload_n (pc := 62) hx hb dX9_draws_62 rfl (lv_at hl 0 rfl) ?_
  refine g_get (pc := 63) C fg_X9_46 hP 0 rfl rfl dX9_draws_63 ?_
  refine lv_iload_n (pc := 66) hx hb dX9_draws_66 rfl (lv_at hl 1 rfl) ?_
  obtain ⟨hg, hf⟩ := gd_some hf
  refine g_iald (pc := 67) C hP 2 rfl hg dX9_draws_67 ?_
  refine lv_icmp_gt (pc := 68) (tgt := 111) hx hb dX9_draws_68 (by decide) (fun hc => ?_) (fun hc => ?_)
  · have hf := (if_pos hc).symm.trans hf
    have hf := Option.some.inj hf
    subst hf
    exact hK H locs ls hP hD hS (lv_sub hl [] rfl)
  · have hf := (if_neg hc).symm.trans hf
    refine lv_aload_n (pc := 71) hx hb dX9_draws_71 rfl (lv_at hl 0 rfl) ?_
    refine g_get (pc := 72) C fg_X9_43 hP 0 rfl rfl dX9_draws_72 ?_
    refine lv_bipush (pc := 75) (v := 25) hx hb dX9_draws_75 bp_25 ?_
    refine lv_iload_n (pc := 77) hx hb dX9_draws_77 rfl (lv_at hl 1 rfl) ?_
    refine lv_imul (pc := 78) hx hb dX9_draws_78 ?_
    refine lv_iload_n (pc := 79) hx hb dX9_draws_79 rfl (lv_at hl 2 rfl) ?_
    refine lv_iadd (pc := 80) hx hb dX9_draws_80 ?_
    obtain ⟨hg, hf⟩ := gd_some hf
    refine g_iald (pc := 81) C hP 1 rfl hg dX9_draws_81 ?_
    obtain ⟨v2, e_v2, hf⟩ := letv_some hf
    refine tp_i e_v2 ?_
    refine lv_istore_n (pc := 82) (lv' := [(3, .int v2), (0, .ref (b 0)), (1, .int x1), (2, .int x2)]) hx hb dX9_draws_82 rfl hl (Nat.le_of_ble_eq_true rfl) rfl (fun ls hl => ?_)
    refine lv_aload_n (pc := 83) hx hb dX9_draws_83 rfl (lv_at hl 1 rfl) ?_
    refine g_get (pc := 84) C fg_X9_49 hP 0 rfl rfl dX9_draws_84 ?_
    refine lv_bipush (pc := 87) (v := 6) hx hb dX9_draws_87 bp_6 ?_
    refine lv_iload_n (pc := 89) hx hb dX9_draws_89 rfl (lv_at hl 2 rfl) ?_
    refine lv_imul (pc := 90) hx hb dX9_draws_90 ?_
    refine lv_iload_n (pc := 91) hx hb dX9_draws_91 rfl (lv_at hl 0 rfl) ?_
    refine lv_aload_n (pc := 92) hx hb dX9_draws_92 rfl (lv_at hl 1 rfl) ?_
    refine g_get (pc := 93) C fg_X9_97 hP 0 rfl rfl dX9_draws_93 ?_
    obtain ⟨hg, hf⟩ := gd_some hf
    refine lv_irem (pc := 96) hx hb dX9_draws_96 (nz_of hg) ?_
    refine lv_iadd (pc := 97) hx hb dX9_draws_97 ?_
    refine lv_iload_n (pc := 98) hx hb dX9_draws_98 rfl (lv_at hl 0 rfl) ?_
    refine lv_aload_n (pc := 99) hx hb dX9_draws_99 rfl (lv_at hl 1 rfl) ?_
    refine g_get (pc := 100) C fg_X9_97 hP 0 rfl rfl dX9_draws_100 ?_
    obtain ⟨hg, hf⟩ := gd_some hf
    refine lv_idiv (pc := 103) hx hb dX9_draws_103 (nz_of hg) ?_
    obtain ⟨v3, e_v3, hf⟩ := letv_some hf
    refine tp_i e_v3 ?_
    obtain ⟨hg, hf⟩ := gd_some hf
    refine g_iast (pc := 104) C hP hD hS 3 rfl hg dX9_draws_104 (fun H locs hP hD hS => ?_)
    have hP : va_P D classes (wl_X9_draws cA b m_latest m_cells m_wide m_houses m_bowls m_dogs m_gone m_sights m_drawn m_path m_steps (upd m_line (((6 : Int32) * x1) + (v2 - v2 / m_wide * m_wide)).toNatClampNeg v3)) H := hP
    have hD : va_D A (wl_X9_draws cA b m_latest m_cells m_wide m_houses m_bowls m_dogs m_gone m_sights m_drawn m_path m_steps (upd m_line (((6 : Int32) * x1) + (v2 - v2 / m_wide * m_wide)).toNatClampNeg v3)) := hD
    refine lv_iinc (pc := 105) (v := (x2 + 1)) (lv' := [(2, .int (x2 + 1)), (3, .int v2), (0, .ref (b 0)), (1, .int x1)]) hx hb dX9_draws_105 hl (k := 3) rfl rfl (Nat.le_of_ble_eq_true rfl) rfl (fun ls hl => ?_)
    refine lv_goto (pc := 108) (tgt := 61) hx hb dX9_draws_108 (by decide) ?_
    have hf := Option.some.inj hf
    subst hf
    exact hK H locs ls hP hD hS (lv_sub hl [2, 3, 0] rfl)
theorem kl_X9_draws_L61 (C : Cx RX9 cX9_draws 4 D cA p s m args c) (hA : ∀ q, s.heap.size ≤ q → A q) (b : Nat → Nat) (m_latest : Int32) (m_cells : Int32) (m_wide : Int32) (m_houses : Int32) (m_bowls : Int32) (m_dogs : Int32) (m_gone : Int32) (m_sights : Int32) (m_drawn : Int32) (m_path : Nat → Int32) (m_steps : Nat → Int32) (x1 : Int32) : ∀ (n : Nat) (q : Int32 × (Nat → Int32)) (z : ((Nat → Int32))), loopF (fun q : Int32 × (Nat → Int32) => f_X9_draws_L61 m_wide m_path m_steps x1 q.1 q.2) n q = some z → (fun q : (Nat → Int32) => At p l e rm_X9_draws s m args below meth c D A 0 0 Q 4 111 (wl_X9_draws cA b m_latest m_cells m_wide m_houses m_bowls m_dogs m_gone m_sights m_drawn m_path m_steps q) [] []) z → At p l e rm_X9_draws s m args below meth c D A 0 0 Q 4 61 (wl_X9_draws cA b m_latest m_cells m_wide m_houses m_bowls m_dogs m_gone m_sights m_drawn m_path m_steps (q.2)) [(0, .ref (b 0)), (1, .int x1), (2, .int (q.1))] [] :=
  loop_lem (WP := fun q : Int32 × (Nat → Int32) => At p l e rm_X9_draws s m args below meth c D A 0 0 Q 4 61 (wl_X9_draws cA b m_latest m_cells m_wide m_houses m_bowls m_dogs m_gone m_sights m_drawn m_path m_steps (q.2)) [(0, .ref (b 0)), (1, .int x1), (2, .int (q.1))] []) (WE := (fun q : (Nat → Int32) => At p l e rm_X9_draws s m args below meth c D A 0 0 Q 4 111 (wl_X9_draws cA b m_latest m_cells m_wide m_houses m_bowls m_dogs m_gone m_sights m_drawn m_path m_steps q) [] [])) (fun q r hf hK => k_X9_draws_L61 C hA b m_latest m_cells m_wide m_houses m_bowls m_dogs m_gone m_sights m_drawn m_path m_steps x1 q.1 q.2 r hf hK)
def f_X9_draws (m_cells : Int32) (m_wide : Int32) (m_path : Nat → Int32) (m_steps : Nat → Int32) (m_line : Nat → Int32) (x1 : Int32) : Option ((Nat → Int32)) :=
  bind1 (loopF (fun q : Int32 × (Nat → Int32) => f_X9_draws_L2 m_cells m_wide x1 q.1 q.2) FU ((0 : Int32), m_line)) (fun u1 => bind1 (loopF (fun q : Int32 × (Nat → Int32) => f_X9_draws_L61 m_wide m_path m_steps x1 q.1 q.2) FU ((0 : Int32), u1)) (fun u4 => some u4))
set_option maxHeartbeats 4000000 in
set_option maxRecDepth 100000 in
theorem k_X9_draws (C : Cx RX9 cX9_draws 4 D cA p s m args c) (hr : meth.sig.returnType = none) (hlk : meth.locks = false) (hA : ∀ q, s.heap.size ≤ q → va_A ws0 sz q) (b : Nat → Nat) (m_latest : Int32) (m_cells : Int32) (m_wide : Int32) (m_houses : Int32) (m_bowls : Int32) (m_dogs : Int32) (m_gone : Int32) (m_sights : Int32) (m_drawn : Int32) (m_path : Nat → Int32) (m_steps : Nat → Int32) (m_line : Nat → Int32) (x1 : Int32) (r : (Nat → Int32)) (hf : f_X9_draws m_cells m_wide m_path m_steps m_line x1 = some r) : At p l e rm_X9_draws s m args below meth c D (va_A ws0 sz) 0 0 (MQ below (PostV D ws0 (wl_X9_draws cA b m_latest m_cells m_wide m_houses m_bowls m_dogs m_gone m_sights m_drawn m_path m_steps r) sz) args s 0 0 (va_A ws0 sz)) 4 0 (wl_X9_draws cA b m_latest m_cells m_wide m_houses m_bowls m_dogs m_gone m_sights m_drawn m_path m_steps m_line) [(0, .ref (b 0)), (1, .int x1)] [] := by
  intro H locs ls hP hD hS hl
  have hx := C.1
  have hb := C.2.1
  have hown := C.2.2.2.1
  have hts := C.2.2.2.2.1
  unfold f_X9_draws at hf
  refine lv_iconst (pc := 0) (v := 0) hx hb dX9_draws_0 ic_0 ?_
  refine lv_istore_n (pc := 1) (lv' := [(2, .int (0 : Int32)), (0, .ref (b 0)), (1, .int x1)]) hx hb dX9_draws_1 rfl hl (Nat.le_of_ble_eq_true rfl) rfl (fun ls hl => ?_)
  obtain ⟨u1, hq, hf⟩ := bind1_some hf
  refine kl_X9_draws_L2 C hA b m_latest m_cells m_wide m_houses m_bowls m_dogs m_gone m_sights m_drawn m_path m_steps x1 FU ((0 : Int32), m_line) _ hq ?_ H locs ls hP hD hS (lv_sub hl [1, 2, 0] rfl)
  intro H locs ls hP hD hS hl
  have hP : va_P D classes (wl_X9_draws cA b m_latest m_cells m_wide m_houses m_bowls m_dogs m_gone m_sights m_drawn m_path m_steps u1) H := hP
  have hD : va_D (va_A ws0 sz) (wl_X9_draws cA b m_latest m_cells m_wide m_houses m_bowls m_dogs m_gone m_sights m_drawn m_path m_steps u1) := hD
  have hl : lv_has ls 4 [(0, .ref (b 0)), (1, .int x1)] := hl
  refine lv_iconst (pc := 59) (v := 0) hx hb dX9_draws_59 ic_0 ?_
  refine lv_istore_n (pc := 60) (lv' := [(2, .int (0 : Int32)), (0, .ref (b 0)), (1, .int x1)]) hx hb dX9_draws_60 rfl hl (Nat.le_of_ble_eq_true rfl) rfl (fun ls hl => ?_)
  obtain ⟨u4, hq, hf⟩ := bind1_some hf
  refine kl_X9_draws_L61 C hA b m_latest m_cells m_wide m_houses m_bowls m_dogs m_gone m_sights m_drawn m_path m_steps x1 FU ((0 : Int32), u1) _ hq ?_ H locs ls hP hD hS (lv_sub hl [1, 2, 0] rfl)
  intro H locs ls hP hD hS hl
  have hP : va_P D classes (wl_X9_draws cA b m_latest m_cells m_wide m_houses m_bowls m_dogs m_gone m_sights m_drawn m_path m_steps u4) H := hP
  have hD : va_D (va_A ws0 sz) (wl_X9_draws cA b m_latest m_cells m_wide m_houses m_bowls m_dogs m_gone m_sights m_drawn m_path m_steps u4) := hD
  have hl : lv_has ls 4 [] := hl
  have hf := Option.some.inj hf
  subst hf
  exact ret_v C hr hlk hP hS dX9_draws_111
set_option maxRecDepth 100000 in
theorem c_X9_draws (l : Launch) (D : va_G) (cA : Nat → ClassId) (b : Nat → Nat) (m_latest : Int32) (m_cells : Int32) (m_wide : Int32) (m_houses : Int32) (m_bowls : Int32) (m_dogs : Int32) (m_gone : Int32) (m_sights : Int32) (m_drawn : Int32) (m_path : Nat → Int32) (m_steps : Nat → Int32) (m_line : Nat → Int32) (x1 : Int32) (r : (Nat → Int32)) (hf : f_X9_draws m_cells m_wide m_path m_steps m_line x1 = some r) (sz : Nat) : Met l yX9_draws (Cond.code yX9_draws cX9_draws 4 none :: lw_good) rm_X9_draws (PreX D cA [.ref (b 0), .int x1] sz (wl_X9_draws cA b m_latest m_cells m_wide m_houses m_bowls m_dogs m_gone m_sights m_drawn m_path m_steps m_line)) (PostV D (wl_X9_draws cA b m_latest m_cells m_wide m_houses m_bowls m_dogs m_gone m_sights m_drawn m_path m_steps m_line) (wl_X9_draws cA b m_latest m_cells m_wide m_houses m_bowls m_dogs m_gone m_sights m_drawn m_path m_steps r) sz) 0 0 (va_A (wl_X9_draws cA b m_latest m_cells m_wide m_houses m_bowls m_dogs m_gone m_sights m_drawn m_path m_steps m_line) sz) :=
  met_of (by decide) (Nat.le_of_ble_eq_true rfl) (fun p e s m args below meth c C hr hlk hA => k_X9_draws C hr hlk hA b m_latest m_cells m_wide m_houses m_bowls m_dogs m_gone m_sights m_drawn m_path m_steps m_line x1 r hf)
end
