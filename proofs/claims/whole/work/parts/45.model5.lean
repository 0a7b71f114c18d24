abbrev wl_X9_tellsHouse (cA : Nat → ClassId) (b : Nat → Nat) (m_latest : Int32) (m_cells : Int32) (m_wide : Int32) (m_houses : Int32) (m_bowls : Int32) (m_dogs : Int32) (m_gone : Int32) (m_sights : Int32) (m_drawn : Int32) (m_cell : Nat → Int32) (m_house : Nat → Int32) (m_settings : Nat → Int32) (m_bowl : Nat → Int32) (m_dog : Nat → Int32) (m_path : Nat → Int32) (m_steps : Nat → Int32) (m_line : Nat → Int32) : va_W := [((b 0), .inr (9, [.ref (b 1), .ref (b 2), .ref (b 3), .ref (b 4), .int m_latest, .ref (b 5), .ref (b 6), .int m_cells, .int m_wide, .ref (b 7), .int m_houses, .ref (b 8), .ref (b 9), .int m_bowls, .ref (b 10), .int m_dogs, .ref (b 11), .int m_gone, .ref (b 12), .ref (b 13), .ref (b 14), .int m_sights, .ref (b 15), .ref (b 16), .int m_drawn])), ((b 7), .inl (cA 0, 36, .inl m_cell)), ((b 8), .inl (cA 0, 16, .inl m_house)), ((b 9), .inl (cA 0, 2, .inl m_settings)), ((b 10), .inl (cA 0, 20, .inl m_bowl)), ((b 11), .inl (cA 0, 16, .inl m_dog)), ((b 12), .inl (cA 0, 250, .inl m_path)), ((b 13), .inl (cA 0, 10, .inl m_steps)), ((b 14), .inl (cA 0, 60, .inl m_line))]
abbrev rm_X9_tellsHouse : Room := { frames := 7, cells := 0, slots := 0, locals := 181 }
section
variable {p : Program} {l : Launch} {e : Env} {s : State} {m : MethodId} {args : Array Value} {below : List Frame} {meth : Method} {c : Code} {D : va_G} {cA : Nat → ClassId} {ws0 : va_W} {sz : Nat} {A : Nat → Prop} {Q : State → Prop}
def f_X9_tellsHouse (m_cells : Int32) (m_wide : Int32) (m_bowls : Int32) (m_dogs : Int32) (m_gone : Int32) (m_cell : Nat → Int32) (m_house : Nat → Int32) (m_settings : Nat → Int32) (m_bowl : Nat → Int32) (m_dog : Nat → Int32) (m_path : Nat → Int32) (m_steps : Nat → Int32) (m_line : Nat → Int32) (x1 : Int64) (x3 : Int32) : Option (Int64 × Int32 × Int32 × (Nat → Int32) × (Nat → Int32) × (Nat → Int32) × (Nat → Int32) × (Nat → Int32)) :=
  bind3 (f_X9_lives m_cells m_wide m_bowls m_dogs m_gone m_cell m_settings m_bowl m_dog m_path m_steps m_line (9 : Int32)) (fun c1 c2 c3 => gd (inb ((2 : Int32) * x3) 16) (letv ((((31 : Int64) * x1) + ((m_house ((2 : Int32) * x3).toNatClampNeg).toInt64))) (fun v4 => gd (inb (((2 : Int32) * x3) + (1 : Int32)) 16) (letv ((((31 : Int64) * v4) + ((m_house (((2 : Int32) * x3) + (1 : Int32)).toNatClampNeg).toInt64))) (fun v5 => bind1 (f_X9_liesOf m_cells m_wide m_house c3 (0 : Int32) x3) (fun r6 => letv ((((31 : Int64) * v5) + (r6.toInt64))) (fun v7 => bind1 (f_X9_liesOf m_cells m_wide m_house c3 (9 : Int32) x3) (fun r8 => letv ((((31 : Int64) * v7) + (r8.toInt64))) (fun v9 => bind1 (f_X9_changesOf m_cells m_wide m_house c3 x3) (fun r10 => letv ((((31 : Int64) * v9) + (r10.toInt64))) (fun v11 => bind6 (f_X9_layOutOf m_cells m_wide m_bowls m_dogs m_gone m_cell m_house m_settings m_bowl m_dog c1 c2 c3 (3 : Int32) x3 (0 : Int32) (-1 : Int32)) (fun r12 c13 c14 c15 c16 c17 => letv ((((31 : Int64) * v11) + (r12.toInt64))) (fun v18 => bind6 (f_X9_layOutOf m_cells m_wide c13 m_dogs m_gone m_cell m_house m_settings c14 m_dog c15 c16 c17 (3 : Int32) x3 (0 : Int32) (0 : Int32)) (fun r19 c20 c21 c22 c23 c24 => letv ((((31 : Int64) * v18) + (r19.toInt64))) (fun v25 => bind5 (f_X9_rakeOf m_cells m_wide c20 m_dogs m_gone m_cell m_house m_settings c21 m_dog c22 c23 c24 (3 : Int32) x3 (1 : Int32)) (fun r26 c27 c28 c29 c30 => letv ((((31 : Int64) * v25) + (r26.toInt64))) (fun v31 => bind5 (f_X9_catOf m_cells m_wide c20 m_dogs m_gone c27 m_house m_settings c21 m_dog c28 c29 c30 (5 : Int32) (4 : Int32) x3 (0 : Int32) (0 : Int32)) (fun r32 c33 c34 c35 c36 => letv ((((31 : Int64) * v31) + r32)) (fun v37 => bind5 (f_X9_catOf m_cells m_wide c20 m_dogs c33 c27 m_house m_settings c21 m_dog c34 c35 c36 (5 : Int32) (4 : Int32) x3 (0 : Int32) (1 : Int32)) (fun r38 c39 c40 c41 c42 => some ((((31 : Int64) * v37) + r38), c20, c39, c27, c21, c40, c41, c42)))))))))))))))))))))
set_option maxHeartbeats 4000000 in
set_option maxRecDepth 100000 in
theorem k_X9_tellsHouse (C : Cx RX9 cX9_tellsHouse 6 D cA p s m args c) (hr : meth.sig.returnType = (some .long)) (hlk : meth.locks = false) (hA : ∀ q, s.heap.size ≤ q → va_A ws0 sz q) (b : Nat → Nat) (m_latest : Int32) (m_cells : Int32) (m_wide : Int32) (m_houses : Int32) (m_bowls : Int32) (m_dogs : Int32) (m_gone : Int32) (m_sights : Int32) (m_drawn : Int32) (m_cell : Nat → Int32) (m_house : Nat → Int32) (m_settings : Nat → Int32) (m_bowl : Nat → Int32) (m_dog : Nat → Int32) (m_path : Nat → Int32) (m_steps : Nat → Int32) (m_line : Nat → Int32) (x1 : Int64) (x3 : Int32) (r : Int64 × Int32 × Int32 × (Nat → Int32) × (Nat → Int32) × (Nat → Int32) × (Nat → Int32) × (Nat → Int32)) (hf : f_X9_tellsHouse m_cells m_wide m_bowls m_dogs m_gone m_cell m_house m_settings m_bowl m_dog m_path m_steps m_line x1 x3 = some r) : At p l e rm_X9_tellsHouse s m args below meth c D (va_A ws0 sz) 0 0 (MQ below (PostL D r.1 ws0 (wl_X9_tellsHouse cA b m_latest m_cells m_wide m_houses (r.2.1) m_dogs (r.2.2.1) m_sights m_drawn (r.2.2.2.1) m_house m_settings (r.2.2.2.2.1) m_dog (r.2.2.2.2.2.1) (r.2.2.2.2.2.2.1) (r.2.2.2.2.2.2.2)) sz) args s 0 0 (va_A ws0 sz)) 6 0 (wl_X9_tellsHouse cA b m_latest m_cells m_wide m_houses m_bowls m_dogs m_gone m_sights m_drawn m_cell m_house m_settings m_bowl m_dog m_path m_steps m_line) [(0, .ref (b 0)), (1, .long x1), (3, .int x3)] [] := by
  intro H locs ls hP hD hS hl
  have hx := C.1
  have hb := C.2.1
  have hown := C.2.2.2.1
  have hts := C.2.2.2.2.1
  unfold f_X9_tellsHouse at hf
  refine lv_aload_n (pc := 0) hx hb dX9_tellsHouse_0 rfl (lv_at hl 0 rfl) ?_
  refine lv_bipush (pc := 1) (v := 9) hx hb dX9_tellsHouse_1 bp_9 ?_
  obtain ⟨c1, c2, c3, hq, hf⟩ := bind3_some hf
  refine fin2_v (wl_X9_tellsHouse cA b m_latest m_cells m_wide m_houses m_bowls m_dogs m_gone m_sights m_drawn m_cell m_house m_settings m_bowl m_dog c1 c2 c3) (run_V (rest := []) (pc := 3) (As := [.int (9 : Int32)]) C mf_X9_178 (c_X9_lives l D cA b m_latest m_cells m_wide m_houses m_bowls m_dogs m_gone m_sights m_drawn m_cell m_settings m_bowl m_dog m_path m_steps m_line (9 : Int32) (c1, c2, c3) hq H.size) rfl rfl ⟨(Nat.le_of_ble_eq_true rfl), (Nat.le_of_ble_eq_true rfl)⟩ (preV_of C hP hD [0, 1, 3, 4, 5, 6, 7, 8] rfl (pl_nd pv_147) 0 rfl rfl rfl) rfl hl.1 rfl (Nat.le_of_ble_eq_true rfl) dX9_tellsHouse_3 ⟨Nat.zero_le _, Nat.zero_le _⟩) hP hD hS hA [0, 1, 3, 4, 5, 6, 7, 8] [2] rfl rfl rfl rfl pv_147 (fun H locs hP hS => ?_)
  have hD : va_D (va_A ws0 sz) (wl_X9_tellsHouse cA b m_latest m_cells m_wide m_houses m_bowls m_dogs m_gone m_sights m_drawn m_cell m_house m_settings m_bowl m_dog c1 c2 c3) := vd_a hD rfl
  refine lv_ldc2 (pc := 6) hx hb hown (hts _ (lg_in mw_661 rfl)) dX9_tellsHouse_6 ?_
  refine lv_lload_n (pc := 9) hx hb dX9_tellsHouse_9 rfl (lv_at hl 1 rfl) ?_
  refine lv_lmul (pc := 10) hx hb dX9_tellsHouse_10 ?_
  refine lv_aload_n (pc := 11) hx hb dX9_tellsHouse_11 rfl (lv_at hl 0 rfl) ?_
  refine g_get (pc := 12) C fg_X9_31 hP 0 rfl rfl dX9_tellsHouse_12 ?_
  refine lv_iconst (pc := 15) (v := 2) hx hb dX9_tellsHouse_15 ic_2 ?_
  refine lv_iload_n (pc := 16) hx hb dX9_tellsHouse_16 rfl (lv_at hl 2 rfl) ?_
  refine lv_imul (pc := 17) hx hb dX9_tellsHouse_17 ?_
  obtain ⟨hg, hf⟩ := gd_some hf
  refine g_iald (pc := 18) C hP 2 rfl hg dX9_tellsHouse_18 ?_
  refine lv_i2l (pc := 19) hx hb dX9_tellsHouse_19 rfl ?_
  refine lv_ladd (pc := 20) hx hb dX9_tellsHouse_20 ?_
  obtain ⟨v4, e_v4, hf⟩ := letv_some hf
  refine tp_l e_v4 ?_
  refine lv_lstore (pc := 21) (lv' := [(4, .long v4), (0, .ref (b 0)), (1, .long x1), (3, .int x3)]) hx hb dX9_tellsHouse_21 hl (Nat.le_of_ble_eq_true rfl) rfl (fun ls hl => ?_)
  refine lv_ldc2 (pc := 23) hx hb hown (hts _ (lg_in mw_661 rfl)) dX9_tellsHouse_23 ?_
  refine lv_lload (pc := 26) hx hb dX9_tellsHouse_26 (lv_at hl 0 rfl) ?_
  refine lv_lmul (pc := 28) hx hb dX9_tellsHouse_28 ?_
  refine lv_aload_n (pc := 29) hx hb dX9_tellsHouse_29 rfl (lv_at hl 1 rfl) ?_
  refine g_get (pc := 30) C fg_X9_31 hP 0 rfl rfl dX9_tellsHouse_30 ?_
  refine lv_iconst (pc := 33) (v := 2) hx hb dX9_tellsHouse_33 ic_2 ?_
  refine lv_iload_n (pc := 34) hx hb dX9_tellsHouse_34 rfl (lv_at hl 3 rfl) ?_
  refine lv_imul (pc := 35) hx hb dX9_tellsHouse_35 ?_
  refine lv_iconst (pc := 36) (v := 1) hx hb dX9_tellsHouse_36 ic_1 ?_
  refine lv_iadd (pc := 37) hx hb dX9_tellsHouse_37 ?_
  obtain ⟨hg, hf⟩ := gd_some hf
  refine g_iald (pc := 38) C hP 2 rfl hg dX9_tellsHouse_38 ?_
  refine lv_i2l (pc := 39) hx hb dX9_tellsHouse_39 rfl ?_
  refine lv_ladd (pc := 40) hx hb dX9_tellsHouse_40 ?_
  obtain ⟨v5, e_v5, hf⟩ := letv_some hf
  refine tp_l e_v5 ?_
  refine lv_lstore (pc := 41) (lv' := [(4, .long v5), (0, .ref (b 0)), (1, .long x1), (3, .int x3)]) hx hb dX9_tellsHouse_41 hl (Nat.le_of_ble_eq_true rfl) rfl (fun ls hl => ?_)
  refine lv_ldc2 (pc := 43) hx hb hown (hts _ (lg_in mw_661 rfl)) dX9_tellsHouse_43 ?_
  refine lv_lload (pc := 46) hx hb dX9_tellsHouse_46 (lv_at hl 0 rfl) ?_
  refine lv_lmul (pc := 48) hx hb dX9_tellsHouse_48 ?_
  refine lv_aload_n (pc := 49) hx hb dX9_tellsHouse_49 rfl (lv_at hl 1 rfl) ?_
  refine lv_iconst (pc := 50) (v := 0) hx hb dX9_tellsHouse_50 ic_0 ?_
  refine lv_iload_n (pc := 51) hx hb dX9_tellsHouse_51 rfl (lv_at hl 3 rfl) ?_
  obtain ⟨r6, hq, hf⟩ := bind1_some hf
  refine fin2_i (wl_X9_tellsHouse cA b m_latest m_cells m_wide m_houses m_bowls m_dogs m_gone m_sights m_drawn m_cell m_house m_settings m_bowl m_dog c1 c2 c3) (run_V (rest := [.long ((31 : Int64) * v5)]) (pc := 52) (As := [.int (0 : Int32), .int x3]) C mf_X9_198 (c_X9_liesOf l D cA b m_latest m_cells m_wide m_houses m_bowls m_dogs m_gone m_sights m_drawn m_house c3 (0 : Int32) x3 r6 hq H.size) rfl rfl ⟨(Nat.le_of_ble_eq_true rfl), (Nat.le_of_ble_eq_true rfl)⟩ (preV_of C hP hD [0, 2, 8] rfl (pl_nd pv_148) 0 rfl rfl rfl) rfl hl.1 rfl (Nat.le_of_ble_eq_true rfl) dX9_tellsHouse_52 ⟨Nat.zero_le _, Nat.zero_le _⟩) hP hD hS hA [0, 2, 8] [1, 3, 4, 5, 6, 7] rfl rfl rfl rfl pv_148 (fun H locs hP hS => ?_)
  refine lv_i2l (pc := 55) hx hb dX9_tellsHouse_55 rfl ?_
  refine lv_ladd (pc := 56) hx hb dX9_tellsHouse_56 ?_
  obtain ⟨v7, e_v7, hf⟩ := letv_some hf
  refine tp_l e_v7 ?_
  refine lv_lstore (pc := 57) (lv' := [(4, .long v7), (0, .ref (b 0)), (1, .long x1), (3, .int x3)]) hx hb dX9_tellsHouse_57 hl (Nat.le_of_ble_eq_true rfl) rfl (fun ls hl => ?_)
  refine lv_ldc2 (pc := 59) hx hb hown (hts _ (lg_in mw_661 rfl)) dX9_tellsHouse_59 ?_
  refine lv_lload (pc := 62) hx hb dX9_tellsHouse_62 (lv_at hl 0 rfl) ?_
  refine lv_lmul (pc := 64) hx hb dX9_tellsHouse_64 ?_
  refine lv_aload_n (pc := 65) hx hb dX9_tellsHouse_65 rfl (lv_at hl 1 rfl) ?_
  refine lv_bipush (pc := 66) (v := 9) hx hb dX9_tellsHouse_66 bp_9 ?_
  refine lv_iload_n (pc := 68) hx hb dX9_tellsHouse_68 rfl (lv_at hl 3 rfl) ?_
  obtain ⟨r8, hq, hf⟩ := bind1_some hf
  refine fin2_i (wl_X9_tellsHouse cA b m_latest m_cells m_wide m_houses m_bowls m_dogs m_gone m_sights m_drawn m_cell m_house m_settings m_bowl m_dog c1 c2 c3) (run_V (rest := [.long ((31 : Int64) * v7)]) (pc := 69) (As := [.int (9 : Int32), .int x3]) C mf_X9_198 (c_X9_liesOf l D cA b m_latest m_cells m_wide m_houses m_bowls m_dogs m_gone m_sights m_drawn m_house c3 (9 : Int32) x3 r8 hq H.size) rfl rfl ⟨(Nat.le_of_ble_eq_true rfl), (Nat.le_of_ble_eq_true rfl)⟩ (preV_of C hP hD [0, 2, 8] rfl (pl_nd pv_148) 0 rfl rfl rfl) rfl hl.1 rfl (Nat.le_of_ble_eq_true rfl) dX9_tellsHouse_69 ⟨Nat.zero_le _, Nat.zero_le _⟩) hP hD hS hA [0, 2, 8] [1, 3, 4, 5, 6, 7] rfl rfl rfl rfl pv_148 (fun H locs hP hS => ?_)
  refine lv_i2l (pc := 72) hx hb dX9_tellsHouse_72 rfl ?_
  refine lv_ladd (pc := 73) hx hb dX9_tellsHouse_73 ?_
  obtain ⟨v9, e_v9, hf⟩ := letv_some hf
  refine tp_l e_v9 ?_
  refine lv_lstore (pc := 74) (lv' := [(4, .long v9), (0, .ref (b 0)), (1, .long x1), (3, .int x3)]) hx hb dX9_tellsHouse_74 hl (Nat.le_of_ble_eq_true rfl) rfl (fun ls hl => ?_)
  refine lv_ldc2 (pc := 76) hx hb hown (hts _ (lg_in mw_661 rfl)) dX9_tellsHouse_76 ?_
  refine lv_lload (pc := 79) hx hb dX9_tellsHouse_79 (lv_at hl 0 rfl) ?_
  refine lv_lmul (pc := 81) hx hb dX9_tellsHouse_81 ?_
  refine lv_aload_n (pc := 82) hx hb dX9_tellsHouse_82 rfl (lv_at hl 1 rfl) ?_
  refine lv_iload_n (pc := 83) hx hb dX9_tellsHouse_83 rfl (lv_at hl 3 rfl) ?_
  obtain ⟨r10, hq, hf⟩ := bind1_some hf
  refine fin2_i (wl_X9_tellsHouse cA b m_latest m_cells m_wide m_houses m_bowls m_dogs m_gone m_sights m_drawn m_cell m_house m_settings m_bowl m_dog c1 c2 c3) (run_V (rest := [.long ((31 : Int64) * v9)]) (pc := 84) (As := [.int x3]) C mf_X9_201 (c_X9_changesOf l D cA b m_latest m_cells m_wide m_houses m_bowls m_dogs m_gone m_sights m_drawn m_house c3 x3 r10 hq H.size) rfl rfl ⟨(Nat.le_of_ble_eq_true rfl), (Nat.le_of_ble_eq_true rfl)⟩ (preV_of C hP hD [0, 2, 8] rfl (pl_nd pv_148) 0 rfl rfl rfl) rfl hl.1 rfl (Nat.le_of_ble_eq_true rfl) dX9_tellsHouse_84 ⟨Nat.zero_le _, Nat.zero_le _⟩) hP hD hS hA [0, 2, 8] [1, 3, 4, 5, 6, 7] rfl rfl rfl rfl pv_148 (fun H locs hP hS => ?_)
  refine lv_i2l (pc := 87) hx hb dX9_tellsHouse_87 rfl ?_
  refine lv_ladd (pc := 88) hx hb dX9_tellsHouse_88 ?_
  obtain ⟨v11, e_v11, hf⟩ := letv_some hf
  refine tp_l e_v11 ?_
  refine lv_lstore (pc := 89) (lv' := [(4, .long v11), (0, .ref (b 0)), (1, .long x1), (3, .int x3)]) hx hb dX9_tellsHouse_89 hl (Nat.le_of_ble_eq_true rfl) rfl (fun ls hl => ?_)
  refine lv_ldc2 (pc := 91) hx hb hown (hts _ (lg_in mw_661 rfl)) dX9_tellsHouse_91 ?_
  refine lv_lload (pc := 94) hx hb dX9_tellsHouse_94 (lv_at hl 0 rfl) ?_
  refine lv_lmul (pc := 96) hx hb dX9_tellsHouse_96 ?_
  refine lv_aload_n (pc := 97) hx hb dX9_tellsHouse_97 rfl (lv_at hl 1 rfl) ?_
  refine lv_iconst (pc := 98) (v := 3) hx hb dX9_tellsHouse_98 ic_3 ?_
  refine lv_iload_n (pc := 99) hx hb dX9_tellsHouse_99 rfl (lv_at hl 3 rfl) ?_
  refine lv_iconst (pc := 100) (v := 0) hx hb dX9_tellsHouse_100 ic_0 ?_
  refine lv_iconst (pc := 101) (v := (-1)) hx hb dX9_tellsHouse_101 ic_m1 ?_
  obtain ⟨r12, c13, c14, c15, c16, c17, hq, hf⟩ := bind6_some hf
  refine fin2_i (wl_X9_tellsHouse cA b m_latest m_cells m_wide m_houses c13 m_dogs m_gone m_sights m_drawn m_cell m_house m_settings c14 m_dog c15 c16 c17) (run_V (rest := [.long ((31 : Int64) * v11)]) (pc := 102) (As := [.int (3 : Int32), .int x3, .int (0 : Int32), .int (-1 : Int32)]) C mf_X9_215 (c_X9_layOutOf l D cA b m_latest m_cells m_wide m_houses m_bowls m_dogs m_gone m_sights m_drawn m_cell m_house m_settings m_bowl m_dog c1 c2 c3 (3 : Int32) x3 (0 : Int32) (-1 : Int32) (r12, c13, c14, c15, c16, c17) hq H.size) rfl rfl ⟨(Nat.le_of_ble_eq_true rfl), (Nat.le_of_ble_eq_true rfl)⟩ (preV_of C hP hD [0, 1, 2, 3, 4, 5, 6, 7, 8] rfl (pl_nd pv_149) 0 rfl rfl rfl) rfl hl.1 rfl (Nat.le_of_ble_eq_true rfl) dX9_tellsHouse_102 ⟨Nat.zero_le _, Nat.zero_le _⟩) hP hD hS hA [0, 1, 2, 3, 4, 5, 6, 7, 8] [] rfl rfl rfl rfl pv_149 (fun H locs hP hS => ?_)
  have hD : va_D (va_A ws0 sz) (wl_X9_tellsHouse cA b m_latest m_cells m_wide m_houses c13 m_dogs m_gone m_sights m_drawn m_cell m_house m_settings c14 m_dog c15 c16 c17) := vd_a hD rfl
  refine lv_i2l (pc := 105) hx hb dX9_tellsHouse_105 rfl ?_
  refine lv_ladd (pc := 106) hx hb dX9_tellsHouse_106 ?_
  obtain ⟨v18, e_v18, hf⟩ := letv_some hf
  refine tp_l e_v18 ?_
  refine lv_lstore (pc := 107) (lv' := [(4, .long v18), (0, .ref (b 0)), (1, .long x1), (3, .int x3)]) hx hb dX9_tellsHouse_107 hl (Nat.le_of_ble_eq_true rfl) rfl (fun ls hl => ?_)
  refine lv_ldc2 (pc := 109) hx hb hown (hts _ (lg_in mw_661 rfl)) dX9_tellsHouse_109 ?_
  refine lv_lload (pc := 112) hx hb dX9_tellsHouse_112 (lv_at hl 0 rfl) ?_
  refine lv_lmul (pc := 114) hx hb dX9_tellsHouse_114 ?_
  refine lv_aload_n (pc := 115) hx hb dX9_tellsHouse_115 rfl (lv_at hl 1 rfl) ?_
  refine lv_iconst (pc := 116) (v := 3) hx hb dX9_tellsHouse_116 ic_3 ?_
  refine lv_iload_n (pc := 117) hx hb dX9_tellsHouse_117 rfl (lv_at hl 3 rfl) ?_
  refine lv_iconst (pc := 118) (v := 0) hx hb dX9_tellsHouse_118 ic_0 ?_
  refine lv_iconst (pc := 119) (v := 0) hx hb dX9_tellsHouse_119 ic_0 ?_
  obtain ⟨r19, c20, c21, c22, c23, c24, hq, hf⟩ := bind6_some hf
  refine fin2_i (wl_X9_tellsHouse cA b m_latest m_cells m_wide m_houses c20 m_dogs m_gone m_sights m_drawn m_cell m_house m_settings c21 m_dog c22 c23 c24) (run_V (rest := [.long ((31 : Int64) * v18)]) (pc := 120) (As := [.int (3 : Int32), .int x3, .int (0 : Int32), .int (0 : Int32)]) C mf_X9_215 (c_X9_layOutOf l D cA b m_latest m_cells m_wide m_houses c13 m_dogs m_gone m_sights m_drawn m_cell m_house m_settings c14 m_dog c15 c16 c17 (3 : Int32) x3 (0 : Int32) (0 : Int32) (r19, c20, c21, c22, c23, c24) hq H.size) rfl rfl ⟨(Nat.le_of_ble_eq_true rfl), (Nat.le_of_ble_eq_true rfl)⟩ (preV_of C hP hD [0, 1, 2, 3, 4, 5, 6, 7, 8] rfl (pl_nd pv_149) 0 rfl rfl rfl) rfl hl.1 rfl (Nat.le_of_ble_eq_true rfl) dX9_tellsHouse_120 ⟨Nat.zero_le _, Nat.zero_le _⟩) hP hD hS hA [0, 1, 2, 3, 4, 5, 6, 7, 8] [] rfl rfl rfl rfl pv_149 (fun H locs hP hS => ?_)
  have hD : va_D (va_A ws0 sz) (wl_X9_tellsHouse cA b m_latest m_cells m_wide m_houses c20 m_dogs m_gone m_sights m_drawn m_cell m_house m_settings c21 m_dog c22 c23 c24) := vd_a hD rfl
  refine lv_i2l (pc := 123) hx hb dX9_tellsHouse_123 rfl ?_
  refine lv_ladd (pc := 124) hx hb dX9_tellsHouse_124 ?_
  obtain ⟨v25, e_v25, hf⟩ := letv_some hf
  refine tp_l e_v25 ?_
  refine lv_lstore (pc := 125) (lv' := [(4, .long v25), (0, .ref (b 0)), (1, .long x1), (3, .int x3)]) hx hb dX9_tellsHouse_125 hl (Nat.le_of_ble_eq_true rfl) rfl (fun ls hl => ?_)
  refine lv_ldc2 (pc := 127) hx hb hown (hts _ (lg_in mw_661 rfl)) dX9_tellsHouse_127 ?_
  refine lv_lload (pc := 130) hx hb dX9_tellsHouse_130 (lv_at hl 0 rfl) ?_
  refine lv_lmul (pc := 132) hx hb dX9_tellsHouse_132 ?_
  refine lv_aload_n (pc := 133) hx hb dX9_tellsHouse_133 rfl (lv_at hl 1 rfl) ?_
  refine lv_iconst (pc := 134) (v := 3) hx hb dX9_tellsHouse_134 ic_3 ?_
  refine lv_iload_n (pc := 135) hx hb dX9_tellsHouse_135 rfl (lv_at hl 3 rfl) ?_
  refine lv_iconst (pc := 136) (v := 1) hx hb dX9_tellsHouse_136 ic_1 ?_
  obtain ⟨r26, c27, c28, c29, c30, hq, hf⟩ := bind5_some hf
  refine fin2_i (wl_X9_tellsHouse cA b m_latest m_cells m_wide m_houses c20 m_dogs m_gone m_sights m_drawn c27 m_house m_settings c21 m_dog c28 c29 c30) (run_V (rest := [.long ((31 : Int64) * v25)]) (pc := 137) (As := [.int (3 : Int32), .int x3, .int (1 : Int32)]) C mf_X9_219 (c_X9_rakeOf l D cA b m_latest m_cells m_wide m_houses c20 m_dogs m_gone m_sights m_drawn m_cell m_house m_settings c21 m_dog c22 c23 c24 (3 : Int32) x3 (1 : Int32) (r26, c27, c28, c29, c30) hq H.size) rfl rfl ⟨(Nat.le_of_ble_eq_true rfl), (Nat.le_of_ble_eq_true rfl)⟩ (preV_of C hP hD [0, 1, 2, 3, 4, 5, 6, 7, 8] rfl (pl_nd pv_149) 0 rfl rfl rfl) rfl hl.1 rfl (Nat.le_of_ble_eq_true rfl) dX9_tellsHouse_137 ⟨Nat.zero_le _, Nat.zero_le _⟩) hP hD hS hA [0, 1, 2, 3, 4, 5, 6, 7, 8] [] rfl rfl rfl rfl pv_149 (fun H locs hP hS => ?_)
  have hD : va_D (va_A ws0 sz) (wl_X9_tellsHouse cA b m_latest m_cells m_wide m_houses c20 m_dogs m_gone m_sights m_drawn c27 m_house m_settings c21 m_dog c28 c29 c30) := vd_a hD rfl
  refine lv_i2l (pc := 140) hx hb dX9_tellsHouse_140 rfl ?_
  refine lv_ladd (pc := 141) hx hb dX9_tellsHouse_141 ?_
  obtain ⟨v31, e_v31, hf⟩ := letv_some hf
  refine tp_l e_v31 ?_
  refine lv_lstore (pc := 142) (lv' := [(4, .long v31), (0, .ref (b 0)), (1, .long x1), (3, .int x3)]) hx hb dX9_tellsHouse_142 hl (Nat.le_of_ble_eq_true rfl) rfl (fun ls hl => ?_)
  refine lv_ldc2 (pc := 144) hx hb hown (hts _ (lg_in mw_661 rfl)) dX9_tellsHouse_144 ?_
  refine lv_lload (pc := 147) hx hb dX9_tellsHouse_147 (lv_at hl 0 rfl) ?_
  refine lv_lmul (pc := 149) hx hb dX9_tellsHouse_149 ?_
  refine lv_aload_n (pc := 150) hx hb dX9_tellsHouse_150 rfl (lv_at hl 1 rfl) ?_
  refine lv_iconst (pc := 151) (v := 5) hx hb dX9_tellsHouse_151 ic_5 ?_
  refine lv_iconst (pc := 152) (v := 4) hx hb dX9_tellsHouse_152 ic_4 ?_
  refine lv_iload_n (pc := 153) hx hb dX9_tellsHouse_153 rfl (lv_at hl 3 rfl) ?_
  refine lv_iconst (pc := 154) (v := 0) hx hb dX9_tellsHouse_154 ic_0 ?_
  refine lv_iconst (pc := 155) (v := 0) hx hb dX9_tellsHouse_155 ic_0 ?_
  obtain ⟨r32, c33, c34, c35, c36, hq, hf⟩ := bind5_some hf
  refine fin2_l (wl_X9_tellsHouse cA b m_latest m_cells m_wide m_houses c20 m_dogs c33 m_sights m_drawn c27 m_house m_settings c21 m_dog c34 c35 c36) (run_V (rest := [.long ((31 : Int64) * v31)]) (pc := 156) (As := [.int (5 : Int32), .int (4 : Int32), .int x3, .int (0 : Int32), .int (0 : Int32)]) C mf_X9_252 (c_X9_catOf l D cA b m_latest m_cells m_wide m_houses c20 m_dogs m_gone m_sights m_drawn c27 m_house m_settings c21 m_dog c28 c29 c30 (5 : Int32) (4 : Int32) x3 (0 : Int32) (0 : Int32) (r32, c33, c34, c35, c36) hq H.size) rfl rfl ⟨(Nat.le_of_ble_eq_true rfl), (Nat.le_of_ble_eq_true rfl)⟩ (preV_of C hP hD [0, 1, 2, 3, 4, 5, 6, 7, 8] rfl (pl_nd pv_149) 0 rfl rfl rfl) rfl hl.1 rfl (Nat.le_of_ble_eq_true rfl) dX9_tellsHouse_156 ⟨Nat.zero_le _, Nat.zero_le _⟩) hP hD hS hA [0, 1, 2, 3, 4, 5, 6, 7, 8] [] rfl rfl rfl rfl pv_149 (fun H locs hP hS => ?_)
  have hD : va_D (va_A ws0 sz) (wl_X9_tellsHouse cA b m_latest m_cells m_wide m_houses c20 m_dogs c33 m_sights m_drawn c27 m_house m_settings c21 m_dog c34 c35 c36) := vd_a hD rfl
  refine lv_ladd (pc := 159) hx hb dX9_tellsHouse_159 ?_
  obtain ⟨v37, e_v37, hf⟩ := letv_some hf
  refine tp_l e_v37 ?_
  refine lv_lstore (pc := 160) (lv' := [(4, .long v37), (0, .ref (b 0)), (1, .long x1), (3, .int x3)]) hx hb dX9_tellsHouse_160 hl (Nat.le_of_ble_eq_true rfl) rfl (fun ls hl => ?_)
  refine lv_ldc2 (pc := 162) hx hb hown (hts _ (lg_in mw_661 rfl)) dX9_tellsHouse_162 ?_
  refine lv_lload (pc := 165) hx hb dX9_tellsHouse_165 (lv_at hl 0 rfl) ?_
  refine lv_lmul (pc := 167) hx hb dX9_tellsHouse_167 ?_
  refine lv_aload_n (pc := 168) hx hb dX9_tellsHouse_168 rfl (lv_at hl 1 rfl) ?_
  refine lv_iconst (pc := 169) (v := 5) hx hb dX9_tellsHouse_169 ic_5 ?_
  refine lv_iconst (pc := 170) (v := 4) hx hb dX9_tellsHouse_170 ic_4 ?_
  refine lv_iload_n (pc := 171) hx hb dX9_tellsHouse_171 rfl (lv_at hl 3 rfl) ?_
  refine lv_iconst (pc := 172) (v := 0) hx hb dX9_tellsHouse_172 ic_0 ?_
  refine lv_iconst (pc := 173) (v := 1) hx hb dX9_tellsHouse_173 ic_1 ?_
  obtain ⟨r38, c39, c40, c41, c42, hq, hf⟩ := bind5_some hf
  refine fin2_l (wl_X9_tellsHouse cA b m_latest m_cells m_wide m_houses c20 m_dogs c39 m_sights m_drawn c27 m_house m_settings c21 m_dog c40 c41 c42) (run_V (rest := [.long ((31 : Int64) * v37)]) (pc := 174) (As := [.int (5 : Int32), .int (4 : Int32), .int x3, .int (0 : Int32), .int (1 : Int32)]) C mf_X9_252 (c_X9_catOf l D cA b m_latest m_cells m_wide m_houses c20 m_dogs c33 m_sights m_drawn c27 m_house m_settings c21 m_dog c34 c35 c36 (5 : Int32) (4 : Int32) x3 (0 : Int32) (1 : Int32) (r38, c39, c40, c41, c42) hq H.size) rfl rfl ⟨(Nat.le_of_ble_eq_true rfl), (Nat.le_of_ble_eq_true rfl)⟩ (preV_of C hP hD [0, 1, 2, 3, 4, 5, 6, 7, 8] rfl (pl_nd pv_149) 0 rfl rfl rfl) rfl hl.1 rfl (Nat.le_of_ble_eq_true rfl) dX9_tellsHouse_174 ⟨Nat.zero_le _, Nat.zero_le _⟩) hP hD hS hA [0, 1, 2, 3, 4, 5, 6, 7, 8] [] rfl rfl rfl rfl pv_149 (fun H locs hP hS => ?_)
  have hD : va_D (va_A ws0 sz) (wl_X9_tellsHouse cA b m_latest m_cells m_wide m_houses c20 m_dogs c39 m_sights m_drawn c27 m_house m_settings c21 m_dog c40 c41 c42) := vd_a hD rfl
  refine lv_ladd (pc := 177) hx hb dX9_tellsHouse_177 ?_
  have hf := Option.some.inj hf
  subst hf
  exact ret_l C hr hlk hP hS dX9_tellsHouse_178
set_option maxRecDepth 100000 in
theorem c_X9_tellsHouse (l : Launch) (D : va_G) (cA : Nat → ClassId) (b : Nat → Nat) (m_latest : Int32) (m_cells : Int32) (m_wide : Int32) (m_houses : Int32) (m_bowls : Int32) (m_dogs : Int32) (m_gone : Int32) (m_sights : Int32) (m_drawn : Int32) (m_cell : Nat → Int32) (m_house : Nat → Int32) (m_settings : Nat → Int32) (m_bowl : Nat → Int32) (m_dog : Nat → Int32) (m_path : Nat → Int32) (m_steps : Nat → Int32) (m_line : Nat → Int32) (x1 : Int64) (x3 : Int32) (r : Int64 × Int32 × Int32 × (Nat → Int32) × (Nat → Int32) × (Nat → Int32) × (Nat → Int32) × (Nat → Int32)) (hf : f_X9_tellsHouse m_cells m_wide m_bowls m_dogs m_gone m_cell m_house m_settings m_bowl m_dog m_path m_steps m_line x1 x3 = some r) (sz : Nat) : Met l yX9_tellsHouse (Cond.code yX9_tellsHouse cX9_tellsHouse 6 (some .long) :: lw_good) rm_X9_tellsHouse (PreX D cA [.ref (b 0), .long x1, .int x3] sz (wl_X9_tellsHouse cA b m_latest m_cells m_wide m_houses m_bowls m_dogs m_gone m_sights m_drawn m_cell m_house m_settings m_bowl m_dog m_path m_steps m_line)) (PostL D r.1 (wl_X9_tellsHouse cA b m_latest m_cells m_wide m_houses m_bowls m_dogs m_gone m_sights m_drawn m_cell m_house m_settings m_bowl m_dog m_path m_steps m_line) (wl_X9_tellsHouse cA b m_latest m_cells m_wide m_houses (r.2.1) m_dogs (r.2.2.1) m_sights m_drawn (r.2.2.2.1) m_house m_settings (r.2.2.2.2.1) m_dog (r.2.2.2.2.2.1) (r.2.2.2.2.2.2.1) (r.2.2.2.2.2.2.2)) sz) 0 0 (va_A (wl_X9_tellsHouse cA b m_latest m_cells m_wide m_houses m_bowls m_dogs m_gone m_sights m_drawn m_cell m_house m_settings m_bowl m_dog m_path m_steps m_line) sz) :=
  met_of (by decide) (Nat.le_of_ble_eq_true rfl) (fun p e s m args below meth c C hr hlk hA => k_X9_tellsHouse C hr hlk hA b m_latest m_cells m_wide m_houses m_bowls m_dogs m_gone m_sights m_drawn m_cell m_house m_settings m_bowl m_dog m_path m_steps m_line x1 x3 r hf)
end

abbrev wl_X9_tellsNight (cA : Nat → ClassId) (b : Nat → Nat) (m_latest : Int32) (m_cells : Int32) (m_wide : Int32) (m_houses : Int32) (m_bowls : Int32) (m_dogs : Int32) (m_gone : Int32) (m_sights : Int32) (m_drawn : Int32) (m_cell : Nat → Int32) (m_house : Nat → Int32) (m_settings : Nat → Int32) (m_bowl : Nat → Int32) (m_dog : Nat → Int32) (m_path : Nat → Int32) (m_steps : Nat → Int32) (m_line : Nat → Int32) (m_sight : Nat → Int32) (m_alike : Nat → Int32) : va_W := [((b 0), .inr (9, [.ref (b 1), .ref (b 2), .ref (b 3), .ref (b 4), .int m_latest, .ref (b 5), .ref (b 6), .int m_cells, .int m_wide, .ref (b 7), .int m_houses, .ref (b 8), .ref (b 9), .int m_bowls, .ref (b 10), .int m_dogs, .ref (b 11), .int m_gone, .ref (b 12), .ref (b 13), .ref (b 14), .int m_sights, .ref (b 15), .ref (b 16), .int m_drawn])), ((b 7), .inl (cA 0, 36, .inl m_cell)), ((b 8), .inl (cA 0, 16, .inl m_house)), ((b 9), .inl (cA 0, 2, .inl m_settings)), ((b 10), .inl (cA 0, 20, .inl m_bowl)), ((b 11), .inl (cA 0, 16, .inl m_dog)), ((b 12), .inl (cA 0, 250, .inl m_path)), ((b 13), .inl (cA 0, 10, .inl m_steps)), ((b 14), .inl (cA 0, 60, .inl m_line)), ((b 15), .inl (cA 0, 24, .inl m_sight)), ((b 16), .inl (cA 0, 32, .inl m_alike))]
abbrev rm_X9_tellsNight : Room := { frames := 8, cells := 0, slots := 0, locals := 201 }
section
variable {p : Program} {l : Launch} {e : Env} {s : State} {m : MethodId} {args : Array Value} {below : List Frame} {meth : Method} {c : Code} {D : va_G} {cA : Nat → ClassId} {ws0 : va_W} {sz : Nat} {A : Nat → Prop} {Q : State → Prop}
def f_X9_tellsNight_L109 (m_wide : Int32) (m_line : Nat → Int32) (x3 : Int32) (x4 : Int64) (x6 : Int32) : Option ((Int64 × Int32) ⊕ (Int64)) :=
  if m_wide ≤ x6 then (some (.inr x4)) else (gd (inb (((6 : Int32) * x3) + x6) 60) (letv ((((31 : Int64) * x4) + ((m_line (((6 : Int32) * x3) + x6).toNatClampNeg).toInt64))) (fun v24 => some (.inl (v24, (x6 + 1))))))
set_option maxHeartbeats 4000000 in
set_option maxRecDepth 100000 in
theorem k_X9_tellsNight_L109 (C : Cx RX9 cX9_tellsNight 7 D cA p s m args c) (hA : ∀ q, s.heap.size ≤ q → A q) (b : Nat → Nat) (m_latest : Int32) (m_cells : Int32) (m_wide : Int32) (m_houses : Int32) (m_bowls : Int32) (m_dogs : Int32) (m_gone : Int32) (m_sights : Int32) (m_drawn : Int32) (m_cell : Nat → Int32) (m_house : Nat → Int32) (m_settings : Nat → Int32) (m_bowl : Nat → Int32) (m_dog : Nat → Int32) (m_path : Nat → Int32) (m_steps : Nat → Int32) (m_line : Nat → Int32) (m_sight : Nat → Int32) (m_alike : Nat → Int32) (x3 : Int32) (x4 : Int64) (x6 : Int32) (r : (Int64 × Int32) ⊕ (Int64)) (hf : f_X9_tellsNight_L109 m_wide m_line x3 x4 x6 = some r) (hK : Sum.elim (fun q : Int64 × Int32 => At p l e rm_X9_tellsNight s m args below meth c D A 0 0 Q 7 109 (wl_X9_tellsNight cA b m_latest m_cells m_wide m_houses m_bowls m_dogs m_gone m_sights m_drawn m_cell m_house m_settings m_bowl m_dog m_path m_steps m_line m_sight m_alike) [(0, .ref (b 0)), (3, .int x3), (4, .long (q.1)), (6, .int (q.2))] []) (fun q : Int64 => At p l e rm_X9_tellsNight s m args below meth c D A 0 0 Q 7 146 (wl_X9_tellsNight cA b m_latest m_cells m_wide m_houses m_bowls m_dogs m_gone m_sights m_drawn m_cell m_house m_settings m_bowl m_dog m_path m_steps m_line m_sight m_alike) [(4, .long q)] []) r) : At p l e rm_X9_tellsNight s m args below meth c D A 0 0 Q 7 109 (wl_X9_tellsNight cA b m_latest m_cells m_wide m_houses m_bowls m_dogs m_gone m_sights m_drawn m_cell m_house m_settings m_bowl m_dog m_path m_steps m_line m_sight m_alike) [(0, .ref (b 0)), (3, .int x3), (4, .long x4), (6, .int x6)] [] := by
  intro H locs ls hP hD hS hl
  have hx := C.1
  have hb := C.2.1
  have hown := C.2.2.2.1
  have hts := C.2.2.2.2.1
  unfold f_X9_tellsNight_L109 at hf
  refine lv_iload (pc := 109) hx hb dX9_tellsNight_109 (lv_at hl 3 rfl) ?_
  refine lv_aload_n (pc := 111) hx hb dX9_tellsNight_111 rfl (lv_at hl 0 rfl) ?_
  refine g_get (pc := 112) C fg_X9_97 hP 0 rfl rfl dX9_tellsNight_112 ?_
  refine lv_icmp_ge (pc := 115) (tgt := 146) hx hb dX9_tellsNight_115 (by decide) (fun hc => ?_) (fun hc => ?_)
  · have hf := (if_pos hc).symm.trans hf
    have hf := Option.some.inj hf
    subst hf
    exact hK H locs ls hP hD hS (lv_sub hl [2] rfl)
  · have hf := (if_neg hc).symm.trans hf
    refine lv_ldc2 (pc := 118) hx hb hown (hts _ (lg_in mw_661 rfl)) dX9_tellsNight_118 ?_
    refine lv_lload (pc := 121) hx hb dX9_tellsNight_121 (lv_at hl 2 rfl) ?_
    refine lv_lmul (pc := 123) hx hb dX9_tellsNight_123 ?_
    refine lv_aload_n (pc := 124) hx hb dX9_tellsNight_124 rfl (lv_at hl 0 rfl) ?_
    refine g_get (pc := 125) C fg_X9_49 hP 0 rfl rfl dX9_tellsNight_125 ?_
    refine lv_bipush (pc := 128) (v := 6) hx hb dX9_tellsNight_128 bp_6 ?_
    refine lv_iload_n (pc := 130) hx hb dX9_tellsNight_130 rfl (lv_at hl 1 rfl) ?_
    refine lv_imul (pc := 131) hx hb dX9_tellsNight_131 ?_
    refine lv_iload (pc := 132) hx hb dX9_tellsNight_132 (lv_at hl 3 rfl) ?_
    refine lv_iadd (pc := 134) hx hb dX9_tellsNight_134 ?_
    obtain ⟨hg, hf⟩ := gd_some hf
    refine g_iald (pc := 135) C hP 8 rfl hg dX9_tellsNight_135 ?_
    refine lv_i2l (pc := 136) hx hb dX9_tellsNight_136 rfl ?_
    refine lv_ladd (pc := 137) hx hb dX9_tellsNight_137 ?_
    obtain ⟨v24, e_v24, hf⟩ := letv_some hf
    refine tp_l e_v24 ?_
    refine lv_lstore (pc := 138) (lv' := [(4, .long v24), (0, .ref (b 0)), (3, .int x3), (6, .int x6)]) hx hb dX9_tellsNight_138 hl (Nat.le_of_ble_eq_true rfl) rfl (fun ls hl => ?_)
    refine lv_iinc (pc := 140) (v := (x6 + 1)) (lv' := [(6, .int (x6 + 1)), (4, .long v24), (0, .ref (b 0)), (3, .int x3)]) hx hb dX9_tellsNight_140 hl (k := 3) rfl rfl (Nat.le_of_ble_eq_true rfl) rfl (fun ls hl => ?_)
    refine lv_goto (pc := 143) (tgt := 109) hx hb dX9_tellsNight_143 (by decide) ?_
    have hf := Option.some.inj hf
    subst hf
    exact hK H locs ls hP hD hS (lv_sub hl [2, 3, 1, 0] rfl)
theorem kl_X9_tellsNight_L109 (C : Cx RX9 cX9_tellsNight 7 D cA p s m args c) (hA : ∀ q, s.heap.size ≤ q → A q) (b : Nat → Nat) (m_latest : Int32) (m_cells : Int32) (m_wide : Int32) (m_houses : Int32) (m_bowls : Int32) (m_dogs : Int32) (m_gone : Int32) (m_sights : Int32) (m_drawn : Int32) (m_cell : Nat → Int32) (m_house : Nat → Int32) (m_settings : Nat → Int32) (m_bowl : Nat → Int32) (m_dog : Nat → Int32) (m_path : Nat → Int32) (m_steps : Nat → Int32) (m_line : Nat → Int32) (m_sight : Nat → Int32) (m_alike : Nat → Int32) (x3 : Int32) : ∀ (n : Nat) (q : Int64 × Int32) (z : (Int64)), loopF (fun q : Int64 × Int32 => f_X9_tellsNight_L109 m_wide m_line x3 q.1 q.2) n q = some z → (fun q : Int64 => At p l e rm_X9_tellsNight s m args below meth c D A 0 0 Q 7 146 (wl_X9_tellsNight cA b m_latest m_cells m_wide m_houses m_bowls m_dogs m_gone m_sights m_drawn m_cell m_house m_settings m_bowl m_dog m_path m_steps m_line m_sight m_alike) [(4, .long q)] []) z → At p l e rm_X9_tellsNight s m args below meth c D A 0 0 Q 7 109 (wl_X9_tellsNight cA b m_latest m_cells m_wide m_houses m_bowls m_dogs m_gone m_sights m_drawn m_cell m_house m_settings m_bowl m_dog m_path m_steps m_line m_sight m_alike) [(0, .ref (b 0)), (3, .int x3), (4, .long (q.1)), (6, .int (q.2))] [] :=
  loop_lem (WP := fun q : Int64 × Int32 => At p l e rm_X9_tellsNight s m args below meth c D A 0 0 Q 7 109 (wl_X9_tellsNight cA b m_latest m_cells m_wide m_houses m_bowls m_dogs m_gone m_sights m_drawn m_cell m_house m_settings m_bowl m_dog m_path m_steps m_line m_sight m_alike) [(0, .ref (b 0)), (3, .int x3), (4, .long (q.1)), (6, .int (q.2))] []) (WE := (fun q : Int64 => At p l e rm_X9_tellsNight s m args below meth c D A 0 0 Q 7 146 (wl_X9_tellsNight cA b m_latest m_cells m_wide m_houses m_bowls m_dogs m_gone m_sights m_drawn m_cell m_house m_settings m_bowl m_dog m_path m_steps m_line m_sight m_alike) [(4, .long q)] [])) (fun q r hf hK => k_X9_tellsNight_L109 C hA b m_latest m_cells m_wide m_houses m_bowls m_dogs m_gone m_sights m_drawn m_cell m_house m_settings m_bowl m_dog m_path m_steps m_line m_sight m_alike x3 q.1 q.2 r hf hK)
def f_X9_tellsNight (m_cells : Int32) (m_wide : Int32) (m_houses : Int32) (m_bowls : Int32) (m_dogs : Int32) (m_gone : Int32) (m_sights : Int32) (m_cell : Nat → Int32) (m_house : Nat → Int32) (m_settings : Nat → Int32) (m_bowl : Nat → Int32) (m_dog : Nat → Int32) (m_path : Nat → Int32) (m_steps : Nat → Int32) (m_line : Nat → Int32) (m_sight : Nat → Int32) (m_alike : Nat → Int32) (x1 : Int64) (x3 : Int32) : Option (Int64 × (Nat → Int32) × (Nat → Int32) × (Nat → Int32) × (Nat → Int32) × (Nat → Int32)) :=
  bind3 (f_X9_lives m_cells m_wide m_bowls m_dogs m_gone m_cell m_settings m_bowl m_dog m_path m_steps m_line (9 : Int32)) (fun c1 c2 c3 => bind1 (f_X9_atOf c1 c2 x3 (3 : Int32)) (fun r4 => letv ((((31 : Int64) * x1) + (r4.toInt64))) (fun v5 => bind1 (f_X9_atOf c1 c2 x3 (24 : Int32)) (fun r6 => letv ((((31 : Int64) * v5) + (r6.toInt64))) (fun v7 => bind1 (f_X9_goesOf c2 x3) (fun r8 => letv ((((31 : Int64) * v7) + (r8.toInt64))) (fun v9 => bind6 (f_X9_askOf m_cells m_wide m_houses m_bowls m_dogs m_gone m_sights m_cell m_house m_settings m_bowl m_dog c1 c2 c3 m_sight m_alike x3) (fun r10 c11 c12 c13 c14 c15 => letv ((((31 : Int64) * v9) + (r10.toInt64))) (fun v16 => bind3 (f_X9_lives m_cells m_wide m_bowls m_dogs m_gone m_cell c11 m_bowl m_dog c12 c13 c14 (9 : Int32)) (fun c17 c18 c19 => bind1 (f_X9_taxesOf m_cells m_wide m_houses m_house c19 x3 (0 : Int32)) (fun r20 => letv ((((31 : Int64) * v16) + (r20.toInt64))) (fun v21 => bind1 (f_X9_taxesOf m_cells m_wide m_houses m_house c19 x3 (1 : Int32)) (fun r22 => letv ((((31 : Int64) * v21) + (r22.toInt64))) (fun v23 => bind1 (loopF (fun q : Int64 × Int32 => f_X9_tellsNight_L109 m_wide c19 x3 q.1 q.2) FU (v23, (0 : Int32))) (fun u25 => some (u25, c11, c17, c18, c19, c15))))))))))))))))
set_option maxHeartbeats 4000000 in
set_option maxRecDepth 100000 in
theorem k_X9_tellsNight (C : Cx RX9 cX9_tellsNight 7 D cA p s m args c) (hr : meth.sig.returnType = (some .long)) (hlk : meth.locks = false) (hA : ∀ q, s.heap.size ≤ q → va_A ws0 sz q) (b : Nat → Nat) (m_latest : Int32) (m_cells : Int32) (m_wide : Int32) (m_houses : Int32) (m_bowls : Int32) (m_dogs : Int32) (m_gone : Int32) (m_sights : Int32) (m_drawn : Int32) (m_cell : Nat → Int32) (m_house : Nat → Int32) (m_settings : Nat → Int32) (m_bowl : Nat → Int32) (m_dog : Nat → Int32) (m_path : Nat → Int32) (m_steps : Nat → Int32) (m_line : Nat → Int32) (m_sight : Nat → Int32) (m_alike : Nat → Int32) (x1 : Int64) (x3 : Int32) (r : Int64 × (Nat → Int32) × (Nat → Int32) × (Nat → Int32) × (Nat → Int32) × (Nat → Int32)) (hf : f_X9_tellsNight m_cells m_wide m_houses m_bowls m_dogs m_gone m_sights m_cell m_house m_settings m_bowl m_dog m_path m_steps m_line m_sight m_alike x1 x3 = some r) : At p l e rm_X9_tellsNight s m args below meth c D (va_A ws0 sz) 0 0 (MQ below (PostL D r.1 ws0 (wl_X9_tellsNight cA b m_latest m_cells m_wide m_houses m_bowls m_dogs m_gone m_sights m_drawn m_cell m_house (r.2.1) m_bowl m_dog (r.2.2.1) (r.2.2.2.1) (r.2.2.2.2.1) m_sight (r.2.2.2.2.2)) sz) args s 0 0 (va_A ws0 sz)) 7 0 (wl_X9_tellsNight cA b m_latest m_cells m_wide m_houses m_bowls m_dogs m_gone m_sights m_drawn m_cell m_house m_settings m_bowl m_dog m_path m_steps m_line m_sight m_alike) [(0, .ref (b 0)), (1, .long x1), (3, .int x3)] [] := by
  intro H locs ls hP hD hS hl
  have hx := C.1
  have hb := C.2.1
  have hown := C.2.2.2.1
  have hts := C.2.2.2.2.1
  unfold f_X9_tellsNight at hf
  refine lv_aload_n (pc := 0) hx hb dX9_tellsNight_0 rfl (lv_at hl 0 rfl) ?_
  refine lv_bipush (pc := 1) (v := 9) hx hb dX9_tellsNight_1 bp_9 ?_
  obtain ⟨c1, c2, c3, hq, hf⟩ := bind3_some hf
  refine fin2_v (wl_X9_tellsNight cA b m_latest m_cells m_wide m_houses m_bowls m_dogs m_gone m_sights m_drawn m_cell m_house m_settings m_bowl m_dog c1 c2 c3 m_sight m_alike) (run_V (rest := []) (pc := 3) (As := [.int (9 : Int32)]) C mf_X9_178 (c_X9_lives l D cA b m_latest m_cells m_wide m_houses m_bowls m_dogs m_gone m_sights m_drawn m_cell m_settings m_bowl m_dog m_path m_steps m_line (9 : Int32) (c1, c2, c3) hq H.size) rfl rfl ⟨(Nat.le_of_ble_eq_true rfl), (Nat.le_of_ble_eq_true rfl)⟩ (preV_of C hP hD [0, 1, 3, 4, 5, 6, 7, 8] rfl (pl_nd pv_160) 0 rfl rfl rfl) rfl hl.1 rfl (Nat.le_of_ble_eq_true rfl) dX9_tellsNight_3 ⟨Nat.zero_le _, Nat.zero_le _⟩) hP hD hS hA [0, 1, 3, 4, 5, 6, 7, 8] [2, 9, 10] rfl rfl rfl rfl pv_160 (fun H locs hP hS => ?_)
  have hD : va_D (va_A ws0 sz) (wl_X9_tellsNight cA b m_latest m_cells m_wide m_houses m_bowls m_dogs m_gone m_sights m_drawn m_cell m_house m_settings m_bowl m_dog c1 c2 c3 m_sight m_alike) := vd_a hD rfl
  refine lv_ldc2 (pc := 6) hx hb hown (hts _ (lg_in mw_661 rfl)) dX9_tellsNight_6 ?_
  refine lv_lload_n (pc := 9) hx hb dX9_tellsNight_9 rfl (lv_at hl 1 rfl) ?_
  refine lv_lmul (pc := 10) hx hb dX9_tellsNight_10 ?_
  refine lv_aload_n (pc := 11) hx hb dX9_tellsNight_11 rfl (lv_at hl 0 rfl) ?_
  refine lv_iload_n (pc := 12) hx hb dX9_tellsNight_12 rfl (lv_at hl 2 rfl) ?_
  refine lv_iconst (pc := 13) (v := 3) hx hb dX9_tellsNight_13 ic_3 ?_
  obtain ⟨r4, hq, hf⟩ := bind1_some hf
  refine fin2_i (wl_X9_tellsNight cA b m_latest m_cells m_wide m_houses m_bowls m_dogs m_gone m_sights m_drawn m_cell m_house m_settings m_bowl m_dog c1 c2 c3 m_sight m_alike) (run_V (rest := [.long ((31 : Int64) * x1)]) (pc := 14) (As := [.int x3, .int (3 : Int32)]) C mf_X9_189 (c_X9_atOf l D cA b m_latest m_cells m_wide m_houses m_bowls m_dogs m_gone m_sights m_drawn c1 c2 x3 (3 : Int32) r4 hq H.size) rfl rfl ⟨(Nat.le_of_ble_eq_true rfl), (Nat.le_of_ble_eq_true rfl)⟩ (preV_of C hP hD [0, 6, 7] rfl (pl_nd pv_170) 0 rfl rfl rfl) rfl hl.1 rfl (Nat.le_of_ble_eq_true rfl) dX9_tellsNight_14 ⟨Nat.zero_le _, Nat.zero_le _⟩) hP hD hS hA [0, 6, 7] [1, 2, 3, 4, 5, 8, 9, 10] rfl rfl rfl rfl pv_170 (fun H locs hP hS => ?_)
  refine lv_i2l (pc := 17) hx hb dX9_tellsNight_17 rfl ?_
  refine lv_ladd (pc := 18) hx hb dX9_tellsNight_18 ?_
  obtain ⟨v5, e_v5, hf⟩ := letv_some hf
  refine tp_l e_v5 ?_
  refine lv_lstore (pc := 19) (lv' := [(4, .long v5), (0, .ref (b 0)), (1, .long x1), (3, .int x3)]) hx hb dX9_tellsNight_19 hl (Nat.le_of_ble_eq_true rfl) rfl (fun ls hl => ?_)
  refine lv_ldc2 (pc := 21) hx hb hown (hts _ (lg_in mw_661 rfl)) dX9_tellsNight_21 ?_
  refine lv_lload (pc := 24) hx hb dX9_tellsNight_24 (lv_at hl 0 rfl) ?_
  refine lv_lmul (pc := 26) hx hb dX9_tellsNight_26 ?_
  refine lv_aload_n (pc := 27) hx hb dX9_tellsNight_27 rfl (lv_at hl 1 rfl) ?_
  refine lv_iload_n (pc := 28) hx hb dX9_tellsNight_28 rfl (lv_at hl 3 rfl) ?_
  refine lv_bipush (pc := 29) (v := 24) hx hb dX9_tellsNight_29 bp_24 ?_
  obtain ⟨r6, hq, hf⟩ := bind1_some hf
  refine fin2_i (wl_X9_tellsNight cA b m_latest m_cells m_wide m_houses m_bowls m_dogs m_gone m_sights m_drawn m_cell m_house m_settings m_bowl m_dog c1 c2 c3 m_sight m_alike) (run_V (rest := [.long ((31 : Int64) * v5)]) (pc := 31) (As := [.int x3, .int (24 : Int32)]) C mf_X9_189 (c_X9_atOf l D cA b m_latest m_cells m_wide m_houses m_bowls m_dogs m_gone m_sights m_drawn c1 c2 x3 (24 : Int32) r6 hq H.size) rfl rfl ⟨(Nat.le_of_ble_eq_true rfl), (Nat.le_of_ble_eq_true rfl)⟩ (preV_of C hP hD [0, 6, 7] rfl (pl_nd pv_170) 0 rfl rfl rfl) rfl hl.1 rfl (Nat.le_of_ble_eq_true rfl) dX9_tellsNight_31 ⟨Nat.zero_le _, Nat.zero_le _⟩) hP hD hS hA [0, 6, 7] [1, 2, 3, 4, 5, 8, 9, 10] rfl rfl rfl rfl pv_170 (fun H locs hP hS => ?_)
  refine lv_i2l (pc := 34) hx hb dX9_tellsNight_34 rfl ?_
  refine lv_ladd (pc := 35) hx hb dX9_tellsNight_35 ?_
  obtain ⟨v7, e_v7, hf⟩ := letv_some hf
  refine tp_l e_v7 ?_
  refine lv_lstore (pc := 36) (lv' := [(4, .long v7), (0, .ref (b 0)), (1, .long x1), (3, .int x3)]) hx hb dX9_tellsNight_36 hl (Nat.le_of_ble_eq_true rfl) rfl (fun ls hl => ?_)
  refine lv_ldc2 (pc := 38) hx hb hown (hts _ (lg_in mw_661 rfl)) dX9_tellsNight_38 ?_
  refine lv_lload (pc := 41) hx hb dX9_tellsNight_41 (lv_at hl 0 rfl) ?_
  refine lv_lmul (pc := 43) hx hb dX9_tellsNight_43 ?_
  refine lv_aload_n (pc := 44) hx hb dX9_tellsNight_44 rfl (lv_at hl 1 rfl) ?_
  refine lv_iload_n (pc := 45) hx hb dX9_tellsNight_45 rfl (lv_at hl 3 rfl) ?_
  obtain ⟨r8, hq, hf⟩ := bind1_some hf
  refine fin2_i (wl_X9_tellsNight cA b m_latest m_cells m_wide m_houses m_bowls m_dogs m_gone m_sights m_drawn m_cell m_house m_settings m_bowl m_dog c1 c2 c3 m_sight m_alike) (run_V (rest := [.long ((31 : Int64) * v7)]) (pc := 46) (As := [.int x3]) C mf_X9_192 (c_X9_goesOf l D cA b m_latest m_cells m_wide m_houses m_bowls m_dogs m_gone m_sights m_drawn c2 x3 r8 hq H.size) rfl rfl ⟨(Nat.le_of_ble_eq_true rfl), (Nat.le_of_ble_eq_true rfl)⟩ (preV_of C hP hD [0, 7] rfl (pl_nd pv_171) 0 rfl rfl rfl) rfl hl.1 rfl (Nat.le_of_ble_eq_true rfl) dX9_tellsNight_46 ⟨Nat.zero_le _, Nat.zero_le _⟩) hP hD hS hA [0, 7] [1, 2, 3, 4, 5, 6, 8, 9, 10] rfl rfl rfl rfl pv_171 (fun H locs hP hS => ?_)
  refine lv_i2l (pc := 49) hx hb dX9_tellsNight_49 rfl ?_
  refine lv_ladd (pc := 50) hx hb dX9_tellsNight_50 ?_
  obtain ⟨v9, e_v9, hf⟩ := letv_some hf
  refine tp_l e_v9 ?_
  refine lv_lstore (pc := 51) (lv' := [(4, .long v9), (0, .ref (b 0)), (1, .long x1), (3, .int x3)]) hx hb dX9_tellsNight_51 hl (Nat.le_of_ble_eq_true rfl) rfl (fun ls hl => ?_)
  refine lv_ldc2 (pc := 53) hx hb hown (hts _ (lg_in mw_661 rfl)) dX9_tellsNight_53 ?_
  refine lv_lload (pc := 56) hx hb dX9_tellsNight_56 (lv_at hl 0 rfl) ?_
  refine lv_lmul (pc := 58) hx hb dX9_tellsNight_58 ?_
  refine lv_aload_n (pc := 59) hx hb dX9_tellsNight_59 rfl (lv_at hl 1 rfl) ?_
  refine lv_iload_n (pc := 60) hx hb dX9_tellsNight_60 rfl (lv_at hl 3 rfl) ?_
  obtain ⟨r10, c11, c12, c13, c14, c15, hq, hf⟩ := bind6_some hf
  refine fin2_i (wl_X9_tellsNight cA b m_latest m_cells m_wide m_houses m_bowls m_dogs m_gone m_sights m_drawn m_cell m_house c11 m_bowl m_dog c12 c13 c14 m_sight c15) (run_V (rest := [.long ((31 : Int64) * v9)]) (pc := 61) (As := [.int x3]) C mf_X9_243 (c_X9_askOf l D cA b m_latest m_cells m_wide m_houses m_bowls m_dogs m_gone m_sights m_drawn m_cell m_house m_settings m_bowl m_dog c1 c2 c3 m_sight m_alike x3 (r10, c11, c12, c13, c14, c15) hq H.size) rfl rfl ⟨(Nat.le_of_ble_eq_true rfl), (Nat.le_of_ble_eq_true rfl)⟩ (preV_of C hP hD [0, 1, 2, 3, 4, 5, 6, 7, 8, 9, 10] rfl (pl_nd pv_138) 0 rfl rfl rfl) rfl hl.1 rfl (Nat.le_of_ble_eq_true rfl) dX9_tellsNight_61 ⟨Nat.zero_le _, Nat.zero_le _⟩) hP hD hS hA [0, 1, 2, 3, 4, 5, 6, 7, 8, 9, 10] [] rfl rfl rfl rfl pv_138 (fun H locs hP hS => ?_)
  have hD : va_D (va_A ws0 sz) (wl_X9_tellsNight cA b m_latest m_cells m_wide m_houses m_bowls m_dogs m_gone m_sights m_drawn m_cell m_house c11 m_bowl m_dog c12 c13 c14 m_sight c15) := vd_a hD rfl
  refine lv_i2l (pc := 64) hx hb dX9_tellsNight_64 rfl ?_
  refine lv_ladd (pc := 65) hx hb dX9_tellsNight_65 ?_
  obtain ⟨v16, e_v16, hf⟩ := letv_some hf
  refine tp_l e_v16 ?_
  refine lv_lstore (pc := 66) (lv' := [(4, .long v16), (0, .ref (b 0)), (1, .long x1), (3, .int x3)]) hx hb dX9_tellsNight_66 hl (Nat.le_of_ble_eq_true rfl) rfl (fun ls hl => ?_)
  refine lv_aload_n (pc := 68) hx hb dX9_tellsNight_68 rfl (lv_at hl 1 rfl) ?_
  refine lv_bipush (pc := 69) (v := 9) hx hb dX9_tellsNight_69 bp_9 ?_
  obtain ⟨c17, c18, c19, hq, hf⟩ := bind3_some hf
  refine fin2_v (wl_X9_tellsNight cA b m_latest m_cells m_wide m_houses m_bowls m_dogs m_gone m_sights m_drawn m_cell m_house c11 m_bowl m_dog c17 c18 c19 m_sight c15) (run_V (rest := []) (pc := 71) (As := [.int (9 : Int32)]) C mf_X9_178 (c_X9_lives l D cA b m_latest m_cells m_wide m_houses m_bowls m_dogs m_gone m_sights m_drawn m_cell c11 m_bowl m_dog c12 c13 c14 (9 : Int32) (c17, c18, c19) hq H.size) rfl rfl ⟨(Nat.le_of_ble_eq_true rfl), (Nat.le_of_ble_eq_true rfl)⟩ (preV_of C hP hD [0, 1, 3, 4, 5, 6, 7, 8] rfl (pl_nd pv_160) 0 rfl rfl rfl) rfl hl.1 rfl (Nat.le_of_ble_eq_true rfl) dX9_tellsNight_71 ⟨Nat.zero_le _, Nat.zero_le _⟩) hP hD hS hA [0, 1, 3, 4, 5, 6, 7, 8] [2, 9, 10] rfl rfl rfl rfl pv_160 (fun H locs hP hS => ?_)
  have hD : va_D (va_A ws0 sz) (wl_X9_tellsNight cA b m_latest m_cells m_wide m_houses m_bowls m_dogs m_gone m_sights m_drawn m_cell m_house c11 m_bowl m_dog c17 c18 c19 m_sight c15) := vd_a hD rfl
  refine lv_ldc2 (pc := 74) hx hb hown (hts _ (lg_in mw_661 rfl)) dX9_tellsNight_74 ?_
  refine lv_lload (pc := 77) hx hb dX9_tellsNight_77 (lv_at hl 0 rfl) ?_
  refine lv_lmul (pc := 79) hx hb dX9_tellsNight_79 ?_
  refine lv_aload_n (pc := 80) hx hb dX9_tellsNight_80 rfl (lv_at hl 1 rfl) ?_
  refine lv_iload_n (pc := 81) hx hb dX9_tellsNight_81 rfl (lv_at hl 3 rfl) ?_
  refine lv_iconst (pc := 82) (v := 0) hx hb dX9_tellsNight_82 ic_0 ?_
  obtain ⟨r20, hq, hf⟩ := bind1_some hf
  refine fin2_i (wl_X9_tellsNight cA b m_latest m_cells m_wide m_houses m_bowls m_dogs m_gone m_sights m_drawn m_cell m_house c11 m_bowl m_dog c17 c18 c19 m_sight c15) (run_V (rest := [.long ((31 : Int64) * v16)]) (pc := 83) (As := [.int x3, .int (0 : Int32)]) C mf_X9_204 (c_X9_taxesOf l D cA b m_latest m_cells m_wide m_houses m_bowls m_dogs m_gone m_sights m_drawn m_house c19 x3 (0 : Int32) r20 hq H.size) rfl rfl ⟨(Nat.le_of_ble_eq_true rfl), (Nat.le_of_ble_eq_true rfl)⟩ (preV_of C hP hD [0, 2, 8] rfl (pl_nd pv_161) 0 rfl rfl rfl) rfl hl.1 rfl (Nat.le_of_ble_eq_true rfl) dX9_tellsNight_83 ⟨Nat.zero_le _, Nat.zero_le _⟩) hP hD hS hA [0, 2, 8] [1, 3, 4, 5, 6, 7, 9, 10] rfl rfl rfl rfl pv_161 (fun H locs hP hS => ?_)
  refine lv_i2l (pc := 86) hx hb dX9_tellsNight_86 rfl ?_
  refine lv_ladd (pc := 87) hx hb dX9_tellsNight_87 ?_
  obtain ⟨v21, e_v21, hf⟩ := letv_some hf
  refine tp_l e_v21 ?_
  refine lv_lstore (pc := 88) (lv' := [(4, .long v21), (0, .ref (b 0)), (1, .long x1), (3, .int x3)]) hx hb dX9_tellsNight_88 hl (Nat.le_of_ble_eq_true rfl) rfl (fun ls hl => ?_)
  refine lv_ldc2 (pc := 90) hx hb hown (hts _ (lg_in mw_661 rfl)) dX9_tellsNight_90 ?_
  refine lv_lload (pc := 93) hx hb dX9_tellsNight_93 (lv_at hl 0 rfl) ?_
  refine lv_lmul (pc := 95) hx hb dX9_tellsNight_95 ?_
  refine lv_aload_n (pc := 96) hx hb dX9_tellsNight_96 rfl (lv_at hl 1 rfl) ?_
  refine lv_iload_n (pc := 97) hx hb dX9_tellsNight_97 rfl (lv_at hl 3 rfl) ?_
  refine lv_iconst (pc := 98) (v := 1) hx hb dX9_tellsNight_98 ic_1 ?_
  obtain ⟨r22, hq, hf⟩ := bind1_some hf
  refine fin2_i (wl_X9_tellsNight cA b m_latest m_cells m_wide m_houses m_bowls m_dogs m_gone m_sights m_drawn m_cell m_house c11 m_bowl m_dog c17 c18 c19 m_sight c15) (run_V (rest := [.long ((31 : Int64) * v21)]) (pc := 99) (As := [.int x3, .int (1 : Int32)]) C mf_X9_204 (c_X9_taxesOf l D cA b m_latest m_cells m_wide m_houses m_bowls m_dogs m_gone m_sights m_drawn m_house c19 x3 (1 : Int32) r22 hq H.size) rfl rfl ⟨(Nat.le_of_ble_eq_true rfl), (Nat.le_of_ble_eq_true rfl)⟩ (preV_of C hP hD [0, 2, 8] rfl (pl_nd pv_161) 0 rfl rfl rfl) rfl hl.1 rfl (Nat.le_of_ble_eq_true rfl) dX9_tellsNight_99 ⟨Nat.zero_le _, Nat.zero_le _⟩) hP hD hS hA [0, 2, 8] [1, 3, 4, 5, 6, 7, 9, 10] rfl rfl rfl rfl pv_161 (fun H locs hP hS => ?_)
  refine lv_i2l (pc := 102) hx hb dX9_tellsNight_102 rfl ?_
  refine lv_ladd (pc := 103) hx hb dX9_tellsNight_103 ?_
  obtain ⟨v23, e_v23, hf⟩ := letv_some hf
  refine tp_l e_v23 ?_
  refine lv_lstore (pc := 104) (lv' := [(4, .long v23), (0, .ref (b 0)), (1, .long x1), (3, .int x3)]) hx hb dX9_tellsNight_104 hl (Nat.le_of_ble_eq_true rfl) rfl (fun ls hl => ?_)
  refine lv_iconst (pc := 106) (v := 0) hx hb dX9_tellsNight_106 ic_0 ?_
  refine lv_istore (pc := 107) (lv' := [(6, .int (0 : Int32)), (4, .long v23), (0, .ref (b 0)), (1, .long x1), (3, .int x3)]) hx hb dX9_tellsNight_107 hl (Nat.le_of_ble_eq_true rfl) rfl (fun ls hl => ?_)
  obtain ⟨u25, hq, hf⟩ := bind1_some hf
  refine kl_X9_tellsNight_L109 C hA b m_latest m_cells m_wide m_houses m_bowls m_dogs m_gone m_sights m_drawn m_cell m_house c11 m_bowl m_dog c17 c18 c19 m_sight c15 x3 FU (v23, (0 : Int32)) _ hq ?_ H locs ls hP hD hS (lv_sub hl [2, 4, 1, 0] rfl)
  intro H locs ls hP hD hS hl
  have hP : va_P D classes (wl_X9_tellsNight cA b m_latest m_cells m_wide m_houses m_bowls m_dogs m_gone m_sights m_drawn m_cell m_house c11 m_bowl m_dog c17 c18 c19 m_sight c15) H := hP
  have hD : va_D (va_A ws0 sz) (wl_X9_tellsNight cA b m_latest m_cells m_wide m_houses m_bowls m_dogs m_gone m_sights m_drawn m_cell m_house c11 m_bowl m_dog c17 c18 c19 m_sight c15) := hD
  have hl : lv_has ls 7 [(4, .long u25)] := hl
  refine lv_lload (pc := 146) hx hb dX9_tellsNight_146 (lv_at hl 0 rfl) ?_
  have hf := Option.some.inj hf
  subst hf
  exact ret_l C hr hlk hP hS dX9_tellsNight_148
set_option maxRecDepth 100000 in
theorem c_X9_tellsNight (l : Launch) (D : va_G) (cA : Nat → ClassId) (b : Nat → Nat) (m_latest : Int32) (m_cells : Int32) (m_wide : Int32) (m_houses : Int32) (m_bowls : Int32) (m_dogs : Int32) (m_gone : Int32) (m_sights : Int32) (m_drawn : Int32) (m_cell : Nat → Int32) (m_house : Nat → Int32) (m_settings : Nat → Int32) (m_bowl : Nat → Int32) (m_dog : Nat → Int32) (m_path : Nat → Int32) (m_steps : Nat → Int32) (m_line : Nat → Int32) (m_sight : Nat → Int32) (m_alike : Nat → Int32) (x1 : Int64) (x3 : Int32) (r : Int64 × (Nat → Int32) × (Nat → Int32) × (Nat → Int32) × (Nat → Int32) × (Nat → Int32)) (hf : f_X9_tellsNight m_cells m_wide m_houses m_bowls m_dogs m_gone m_sights m_cell m_house m_settings m_bowl m_dog m_path m_steps m_line m_sight m_alike x1 x3 = some r) (sz : Nat) : Met l yX9_tellsNight (Cond.code yX9_tellsNight cX9_tellsNight 7 (some .long) :: lw_good) rm_X9_tellsNight (PreX D cA [.ref (b 0), .long x1, .int x3] sz (wl_X9_tellsNight cA b m_latest m_cells m_wide m_houses m_bowls m_dogs m_gone m_sights m_drawn m_cell m_house m_settings m_bowl m_dog m_path m_steps m_line m_sight m_alike)) (PostL D r.1 (wl_X9_tellsNight cA b m_latest m_cells m_wide m_houses m_bowls m_dogs m_gone m_sights m_drawn m_cell m_house m_settings m_bowl m_dog m_path m_steps m_line m_sight m_alike) (wl_X9_tellsNight cA b m_latest m_cells m_wide m_houses m_bowls m_dogs m_gone m_sights m_drawn m_cell m_house (r.2.1) m_bowl m_dog (r.2.2.1) (r.2.2.2.1) (r.2.2.2.2.1) m_sight (r.2.2.2.2.2)) sz) 0 0 (va_A (wl_X9_tellsNight cA b m_latest m_cells m_wide m_houses m_bowls m_dogs m_gone m_sights m_drawn m_cell m_house m_settings m_bowl m_dog m_path m_steps m_line m_sight m_alike) sz) :=
  met_of (by decide) (Nat.le_of_ble_eq_true rfl) (fun p e s m args below meth c C hr hlk hA => k_X9_tellsNight C hr hlk hA b m_latest m_cells m_wide m_houses m_bowls m_dogs m_gone m_sights m_drawn m_cell m_house m_settings m_bowl m_dog m_path m_steps m_line m_sight m_alike x1 x3 r hf)
end

abbrev wl_X9_digest (cA : Nat → ClassId) (b : Nat → Nat) (m_latest : Int32) (m_cells : Int32) (m_wide : Int32) (m_houses : Int32) (m_bowls : Int32) (m_dogs : Int32) (m_gone : Int32) (m_sights : Int32) (m_drawn : Int32) (m_bytes : Nat → Int32) (m_typed : Nat → Int32) (m_cell : Nat → Int32) (m_house : Nat → Int32) (m_settings : Nat → Int32) (m_bowl : Nat → Int32) (m_dog : Nat → Int32) (m_path : Nat → Int32) (m_steps : Nat → Int32) (m_line : Nat → Int32) (m_sight : Nat → Int32) (m_alike : Nat → Int32) : va_W := [((b 0), .inr (9, [.ref (b 1), .ref (b 2), .ref (b 3), .ref (b 4), .int m_latest, .ref (b 5), .ref (b 6), .int m_cells, .int m_wide, .ref (b 7), .int m_houses, .ref (b 8), .ref (b 9), .int m_bowls, .ref (b 10), .int m_dogs, .ref (b 11), .int m_gone, .ref (b 12), .ref (b 13), .ref (b 14), .int m_sights, .ref (b 15), .ref (b 16), .int m_drawn])), ((b 5), .inl (cA 0, 84, .inl m_bytes)), ((b 6), .inl (cA 0, 2, .inl m_typed)), ((b 7), .inl (cA 0, 36, .inl m_cell)), ((b 8), .inl (cA 0, 16, .inl m_house)), ((b 9), .inl (cA 0, 2, .inl m_settings)), ((b 10), .inl (cA 0, 20, .inl m_bowl)), ((b 11), .inl (cA 0, 16, .inl m_dog)), ((b 12), .inl (cA 0, 250, .inl m_path)), ((b 13), .inl (cA 0, 10, .inl m_steps)), ((b 14), .inl (cA 0, 60, .inl m_line)), ((b 15), .inl (cA 0, 24, .inl m_sight)), ((b 16), .inl (cA 0, 32, .inl m_alike))]
abbrev rm_X9_digest : Room := { frames := 9, cells := 0, slots := 0, locals := 227 }
section
variable {p : Program} {l : Launch} {e : Env} {s : State} {m : MethodId} {args : Array Value} {below : List Frame} {meth : Method} {c : Code} {D : va_G} {cA : Nat → ClassId} {ws0 : va_W} {sz : Nat} {A : Nat → Prop} {Q : State → Prop}
def f_X9_digest_L6 (m_latest : Int32) (m_bowls : Int32) (m_dogs : Int32) (m_gone : Int32) (m_sights : Int32) (m_bytes : Nat → Int32) (m_typed : Nat → Int32) (m_settings : Nat → Int32) (m_bowl : Nat → Int32) (m_dog : Nat → Int32) (x1 : Int64) (x3 : Int32) (m_cells : Int32) (m_wide : Int32) (m_houses : Int32) (m_cell : Nat → Int32) (m_house : Nat → Int32) (m_path : Nat → Int32) (m_steps : Nat → Int32) (m_line : Nat → Int32) : Option ((Int64 × Int32 × Int32 × Int32 × Int32 × (Nat → Int32) × (Nat → Int32) × (Nat → Int32) × (Nat → Int32) × (Nat → Int32)) ⊕ (Int64 × Int32 × Int32 × Int32 × (Nat → Int32) × (Nat → Int32) × (Nat → Int32) × (Nat → Int32) × (Nat → Int32))) :=
  if (8 : Int32) ≤ x3 then (some (.inr (x1, m_cells, m_wide, m_houses, m_cell, m_house, m_path, m_steps, m_line))) else (bind9 (f_X9_count m_latest m_cells m_wide m_houses m_bowls m_dogs m_gone m_sights m_bytes m_typed m_cell m_house m_settings m_bowl m_dog m_path m_steps m_line x3) (fun r1 c2 c3 c4 c5 c6 c7 c8 c9 => letv ((((31 : Int64) * x1) + (r1.toInt64))) (fun v10 => some (.inl (v10, (x3 + 1), c2, c3, c4, c5, c6, c7, c8, c9)))))
set_option maxHeartbeats 4000000 in
set_option maxRecDepth 100000 in
theorem k_X9_digest_L6 (C : Cx RX9 cX9_digest 4 D cA p s m args c) (hA : ∀ q, s.heap.size ≤ q → A q) (b : Nat → Nat) (m_latest : Int32) (m_bowls : Int32) (m_dogs : Int32) (m_gone : Int32) (m_sights : Int32) (m_drawn : Int32) (m_bytes : Nat → Int32) (m_typed : Nat → Int32) (m_settings : Nat → Int32) (m_bowl : Nat → Int32) (m_dog : Nat → Int32) (m_sight : Nat → Int32) (m_alike : Nat → Int32) (x1 : Int64) (x3 : Int32) (m_cells : Int32) (m_wide : Int32) (m_houses : Int32) (m_cell : Nat → Int32) (m_house : Nat → Int32) (m_path : Nat → Int32) (m_steps : Nat → Int32) (m_line : Nat → Int32) (r : (Int64 × Int32 × Int32 × Int32 × Int32 × (Nat → Int32) × (Nat → Int32) × (Nat → Int32) × (Nat → Int32) × (Nat → Int32)) ⊕ (Int64 × Int32 × Int32 × Int32 × (Nat → Int32) × (Nat → Int32) × (Nat → Int32) × (Nat → Int32) × (Nat → Int32))) (hf : f_X9_digest_L6 m_latest m_bowls m_dogs m_gone m_sights m_bytes m_typed m_settings m_bowl m_dog x1 x3 m_cells m_wide m_houses m_cell m_house m_path m_steps m_line = some r) (hK : Sum.elim (fun q : Int64 × Int32 × Int32 × Int32 × Int32 × (Nat → Int32) × (Nat → Int32) × (Nat → Int32) × (Nat → Int32) × (Nat → Int32) => At p l e rm_X9_digest s m args below meth c D A 0 0 Q 4 6 (wl_X9_digest cA b m_latest (q.2.2.1) (q.2.2.2.1) (q.2.2.2.2.1) m_bowls m_dogs m_gone m_sights m_drawn m_bytes m_typed (q.2.2.2.2.2.1) (q.2.2.2.2.2.2.1) m_settings m_bowl m_dog (q.2.2.2.2.2.2.2.1) (q.2.2.2.2.2.2.2.2.1) (q.2.2.2.2.2.2.2.2.2) m_sight m_alike) [(0, .ref (b 0)), (1, .long (q.1)), (3, .int (q.2.1))] []) (fun q : Int64 × Int32 × Int32 × Int32 × (Nat → Int32) × (Nat → Int32) × (Nat → Int32) × (Nat → Int32) × (Nat → Int32) => At p l e rm_X9_digest s m args below meth c D A 0 0 Q 4 31 (wl_X9_digest cA b m_latest (q.2.1) (q.2.2.1) (q.2.2.2.1) m_bowls m_dogs m_gone m_sights m_drawn m_bytes m_typed (q.2.2.2.2.1) (q.2.2.2.2.2.1) m_settings m_bowl m_dog (q.2.2.2.2.2.2.1) (q.2.2.2.2.2.2.2.1) (q.2.2.2.2.2.2.2.2) m_sight m_alike) [(0, .ref (b 0)), (1, .long (q.1))] []) r) : At p l e rm_X9_digest s m args below meth c D A 0 0 Q 4 6 (wl_X9_digest cA b m_latest m_cells m_wide m_houses m_bowls m_dogs m_gone m_sights m_drawn m_bytes m_typed m_cell m_house m_settings m_bowl m_dog m_path m_steps m_line m_sight m_alike) [(0, .ref (b 0)), (1, .long x1), (3, .int x3)] [] := by
  intro H locs ls hP hD hS hl
  have hx := C.1
  have hb := C.2.1
  have hown := C.2.2.2.1
  have hts := C.2.2.2.2.1
  unfold f_X9_digest_L6 at hf
  refine lv_iload_n (pc := 6) hx hb dX9_digest_6 rfl (lv_at hl 2 rfl) ?_
  refine lv_bipush (pc := 7) (v := 8) hx hb dX9_digest_7 bp_8 ?_
  refine lv_icmp_ge (pc := 9) (tgt := 31) hx hb dX9_digest_9 (by decide) (fun hc => ?_) (fun hc => ?_)
  · have hf := (if_pos hc).symm.trans hf
    have hf := Option.some.inj hf
    subst hf
    exact hK H locs ls hP hD hS (lv_sub hl [0, 1] rfl)
  · have hf := (if_neg hc).symm.trans hf
    refine lv_ldc2 (pc := 12) hx hb hown (hts _ (lg_in mw_661 rfl)) dX9_digest_12 ?_
    refine lv_lload_n (pc := 15) hx hb dX9_digest_15 rfl (lv_at hl 1 rfl) ?_
    refine lv_lmul (pc := 16) hx hb dX9_digest_16 ?_
    refine lv_aload_n (pc := 17) hx hb dX9_digest_17 rfl (lv_at hl 0 rfl) ?_
    refine lv_iload_n (pc := 18) hx hb dX9_digest_18 rfl (lv_at hl 2 rfl) ?_
    obtain ⟨r1, c2, c3, c4, c5, c6, c7, c8, c9, hq, hf⟩ := bind9_some hf
    refine fin2_i (wl_X9_digest cA b m_latest c2 c3 c4 m_bowls m_dogs m_gone m_sights m_drawn m_bytes m_typed c5 c6 m_settings m_bowl m_dog c7 c8 c9 m_sight m_alike) (run_V (rest := [.long ((31 : Int64) * x1)]) (pc := 19) (As := [.int x3]) C mf_X9_279 (c_X9_count l D cA b m_latest m_cells m_wide m_houses m_bowls m_dogs m_gone m_sights m_drawn m_bytes m_typed m_cell m_house m_settings m_bowl m_dog m_path m_steps m_line x3 (r1, c2, c3, c4, c5, c6, c7, c8, c9) hq H.size) rfl rfl ⟨(Nat.le_of_ble_eq_true rfl), (Nat.le_of_ble_eq_true rfl)⟩ (preV_of C hP hD [0, 1, 2, 3, 4, 5, 6, 7, 8, 9, 10] rfl (pl_nd pv_162) 0 rfl rfl rfl) rfl hl.1 rfl (Nat.le_of_ble_eq_true rfl) dX9_digest_19 ⟨Nat.zero_le _, Nat.zero_le _⟩) hP hD hS hA [0, 1, 2, 3, 4, 5, 6, 7, 8, 9, 10] [11, 12] rfl rfl rfl rfl pv_162 (fun H locs hP hS => ?_)
    have hD : va_D A (wl_X9_digest cA b m_latest c2 c3 c4 m_bowls m_dogs m_gone m_sights m_drawn m_bytes m_typed c5 c6 m_settings m_bowl m_dog c7 c8 c9 m_sight m_alike) := vd_a hD rfl
    refine lv_i2l (pc := 22) hx hb dX9_digest_22 rfl ?_
    refine lv_ladd (pc := 23) hx hb dX9_digest_23 ?_
    obtain ⟨v10, e_v10, hf⟩ := letv_some hf
    refine tp_l e_v10 ?_
    refine lv_lstore_n (pc := 24) (lv' := [(1, .long v10), (0, .ref (b 0)), (3, .int x3)]) hx hb dX9_digest_24 rfl hl (Nat.le_of_ble_eq_true rfl) rfl (fun ls hl => ?_)
    refine lv_iinc (pc := 25) (v := (x3 + 1)) (lv' := [(3, .int (x3 + 1)), (1, .long v10), (0, .ref (b 0))]) hx hb dX9_digest_25 hl (k := 2) rfl rfl (Nat.le_of_ble_eq_true rfl) rfl (fun ls hl => ?_)
    refine lv_goto (pc := 28) (tgt := 6) hx hb dX9_digest_28 (by decide) ?_
    have hf := Option.some.inj hf
    subst hf
    exact hK H locs ls hP hD hS (lv_sub hl [2, 1, 0] rfl)
theorem kl_X9_digest_L6 (C : Cx RX9 cX9_digest 4 D cA p s m args c) (hA : ∀ q, s.heap.size ≤ q → A q) (b : Nat → Nat) (m_latest : Int32) (m_bowls : Int32) (m_dogs : Int32) (m_gone : Int32) (m_sights : Int32) (m_drawn : Int32) (m_bytes : Nat → Int32) (m_typed : Nat → Int32) (m_settings : Nat → Int32) (m_bowl : Nat → Int32) (m_dog : Nat → Int32) (m_sight : Nat → Int32) (m_alike : Nat → Int32) : ∀ (n : Nat) (q : Int64 × Int32 × Int32 × Int32 × Int32 × (Nat → Int32) × (Nat → Int32) × (Nat → Int32) × (Nat → Int32) × (Nat → Int32)) (z : (Int64 × Int32 × Int32 × Int32 × (Nat → Int32) × (Nat → Int32) × (Nat → Int32) × (Nat → Int32) × (Nat → Int32))), loopF (fun q : Int64 × Int32 × Int32 × Int32 × Int32 × (Nat → Int32) × (Nat → Int32) × (Nat → Int32) × (Nat → Int32) × (Nat → Int32) => f_X9_digest_L6 m_latest m_bowls m_dogs m_gone m_sights m_bytes m_typed m_settings m_bowl m_dog q.1 q.2.1 q.2.2.1 q.2.2.2.1 q.2.2.2.2.1 q.2.2.2.2.2.1 q.2.2.2.2.2.2.1 q.2.2.2.2.2.2.2.1 q.2.2.2.2.2.2.2.2.1 q.2.2.2.2.2.2.2.2.2) n q = some z → (fun q : Int64 × Int32 × Int32 × Int32 × (Nat → Int32) × (Nat → Int32) × (Nat → Int32) × (Nat → Int32) × (Nat → Int32) => At p l e rm_X9_digest s m args below meth c D A 0 0 Q 4 31 (wl_X9_digest cA b m_latest (q.2.1) (q.2.2.1) (q.2.2.2.1) m_bowls m_dogs m_gone m_sights m_drawn m_bytes m_typed (q.2.2.2.2.1) (q.2.2.2.2.2.1) m_settings m_bowl m_dog (q.2.2.2.2.2.2.1) (q.2.2.2.2.2.2.2.1) (q.2.2.2.2.2.2.2.2) m_sight m_alike) [(0, .ref (b 0)), (1, .long (q.1))] []) z → At p l e rm_X9_digest s m args below meth c D A 0 0 Q 4 6 (wl_X9_digest cA b m_latest (q.2.2.1) (q.2.2.2.1) (q.2.2.2.2.1) m_bowls m_dogs m_gone m_sights m_drawn m_bytes m_typed (q.2.2.2.2.2.1) (q.2.2.2.2.2.2.1) m_settings m_bowl m_dog (q.2.2.2.2.2.2.2.1) (q.2.2.2.2.2.2.2.2.1) (q.2.2.2.2.2.2.2.2.2) m_sight m_alike) [(0, .ref (b 0)), (1, .long (q.1)), (3, .int (q.2.1))] [] :=
  loop_lem (WP := fun q : Int64 × Int32 × Int32 × Int32 × Int32 × (Nat → Int32) × (Nat → Int32) × (Nat → Int32) × (Nat → Int32) × (Nat → Int32) => At p l e rm_X9_digest s m args below meth c D A 0 0 Q 4 6 (wl_X9_digest cA b m_latest (q.2.2.1) (q.2.2.2.1) (q.2.2.2.2.1) m_bowls m_dogs m_gone m_sights m_drawn m_bytes m_typed (q.2.2.2.2.2.1) (q.2.2.2.2.2.2.1) m_settings m_bowl m_dog (q.2.2.2.2.2.2.2.1) (q.2.2.2.2.2.2.2.2.1) (q.2.2.2.2.2.2.2.2.2) m_sight m_alike) [(0, .ref (b 0)), (1, .long (q.1)), (3, .int (q.2.1))] []) (WE := (fun q : Int64 × Int32 × Int32 × Int32 × (Nat → Int32) × (Nat → Int32) × (Nat → Int32) × (Nat → Int32) × (Nat → Int32) => At p l e rm_X9_digest s m args below meth c D A 0 0 Q 4 31 (wl_X9_digest cA b m_latest (q.2.1) (q.2.2.1) (q.2.2.2.1) m_bowls m_dogs m_gone m_sights m_drawn m_bytes m_typed (q.2.2.2.2.1) (q.2.2.2.2.2.1) m_settings m_bowl m_dog (q.2.2.2.2.2.2.1) (q.2.2.2.2.2.2.2.1) (q.2.2.2.2.2.2.2.2) m_sight m_alike) [(0, .ref (b 0)), (1, .long (q.1))] [])) (fun q r hf hK => k_X9_digest_L6 C hA b m_latest m_bowls m_dogs m_gone m_sights m_drawn m_bytes m_typed m_settings m_bowl m_dog m_sight m_alike q.1 q.2.1 q.2.2.1 q.2.2.2.1 q.2.2.2.2.1 q.2.2.2.2.2.1 q.2.2.2.2.2.2.1 q.2.2.2.2.2.2.2.1 q.2.2.2.2.2.2.2.2.1 q.2.2.2.2.2.2.2.2.2 r hf hK)
def f_X9_digest_L57 (m_cells : Int32) (m_wide : Int32) (m_cell : Nat → Int32) (m_line : Nat → Int32) (x1 : Int64) (x3 : Int32) : Option ((Int64 × Int32) ⊕ (Int64)) :=
  if m_cells ≤ x3 then (some (.inr x1)) else (gd (inb x3 36) (letv ((((31 : Int64) * x1) + ((m_cell x3.toNatClampNeg).toInt64))) (fun v29 => bind1 (f_X9_realmOf m_wide m_line (0 : Int32) x3) (fun r30 => letv ((((31 : Int64) * v29) + (r30.toInt64))) (fun v31 => bind1 (f_X9_realmOf m_wide m_line (9 : Int32) x3) (fun r32 => letv ((((31 : Int64) * v31) + (r32.toInt64))) (fun v33 => some (.inl (v33, (x3 + 1))))))))))
set_option maxHeartbeats 4000000 in
set_option maxRecDepth 100000 in
theorem k_X9_digest_L57 (C : Cx RX9 cX9_digest 4 D cA p s m args c) (hA : ∀ q, s.heap.size ≤ q → A q) (b : Nat → Nat) (m_latest : Int32) (m_cells : Int32) (m_wide : Int32) (m_houses : Int32) (m_bowls : Int32) (m_dogs : Int32) (m_gone : Int32) (m_sights : Int32) (m_drawn : Int32) (m_bytes : Nat → Int32) (m_typed : Nat → Int32) (m_cell : Nat → Int32) (m_house : Nat → Int32) (m_settings : Nat → Int32) (m_bowl : Nat → Int32) (m_dog : Nat → Int32) (m_path : Nat → Int32) (m_steps : Nat → Int32) (m_line : Nat → Int32) (m_sight : Nat → Int32) (m_alike : Nat → Int32) (x1 : Int64) (x3 : Int32) (r : (Int64 × Int32) ⊕ (Int64)) (hf : f_X9_digest_L57 m_cells m_wide m_cell m_line x1 x3 = some r) (hK : Sum.elim (fun q : Int64 × Int32 => At p l e rm_X9_digest s m args below meth c D A 0 0 Q 4 57 (wl_X9_digest cA b m_latest m_cells m_wide m_houses m_bowls m_dogs m_gone m_sights m_drawn m_bytes m_typed m_cell m_house m_settings m_bowl m_dog m_path m_steps m_line m_sight m_alike) [(0, .ref (b 0)), (1, .long (q.1)), (3, .int (q.2))] []) (fun q : Int64 => At p l e rm_X9_digest s m args below meth c D A 0 0 Q 4 114 (wl_X9_digest cA b m_latest m_cells m_wide m_houses m_bowls m_dogs m_gone m_sights m_drawn m_bytes m_typed m_cell m_house m_settings m_bowl m_dog m_path m_steps m_line m_sight m_alike) [(0, .ref (b 0)), (1, .long q)] []) r) : At p l e rm_X9_digest s m args below meth c D A 0 0 Q 4 57 (wl_X9_digest cA b m_latest m_cells m_wide m_houses m_bowls m_dogs m_gone m_sights m_drawn m_bytes m_typed m_cell m_house m_settings m_bowl m_dog m_path m_steps m_line m_sight m_alike) [(0, .ref (b 0)), (1, .long x1), (3, .int x3)] [] := by
  intro H locs ls hP hD hS hl
  have hx := C.1
  have hb := C.2.1
  have hown := C.2.2.2.1
  have hts := C.2.2.2.2.1
  unfold f_X9_digest_L57 at hf
  refine lv_iload_n (pc := 57) hx hb dX9_digest_57 rfl (lv_at hl 2 rfl) ?_
  refine lv_aload_n (pc := 58) hx hb dX9_digest_58 rfl (lv_at hl 0 rfl) ?_
  refine g_get (pc := 59) C fg_X9_94 hP 0 rfl rfl dX9_digest_59 ?_
  refine lv_icmp_ge (pc := 62) (tgt := 114) hx hb dX9_digest_62 (by decide) (fun hc => ?_) (fun hc => ?_)
  · have hf := (if_pos hc).symm.trans hf
    have hf := Option.some.inj hf
    subst hf
    exact hK H locs ls hP hD hS (lv_sub hl [0, 1] rfl)
  · have hf := (if_neg hc).symm.trans hf
    refine lv_ldc2 (pc := 65) hx hb hown (hts _ (lg_in mw_661 rfl)) dX9_digest_65 ?_
    refine lv_lload_n (pc := 68) hx hb dX9_digest_68 rfl (lv_at hl 1 rfl) ?_
    refine lv_lmul (pc := 69) hx hb dX9_digest_69 ?_
    refine lv_aload_n (pc := 70) hx hb dX9_digest_70 rfl (lv_at hl 0 rfl) ?_
    refine g_get (pc := 71) C fg_X9_28 hP 0 rfl rfl dX9_digest_71 ?_
    refine lv_iload_n (pc := 74) hx hb dX9_digest_74 rfl (lv_at hl 2 rfl) ?_
    obtain ⟨hg, hf⟩ := gd_some hf
    refine g_iald (pc := 75) C hP 3 rfl hg dX9_digest_75 ?_
    refine lv_i2l (pc := 76) hx hb dX9_digest_76 rfl ?_
    refine lv_ladd (pc := 77) hx hb dX9_digest_77 ?_
    obtain ⟨v29, e_v29, hf⟩ := letv_some hf
    refine tp_l e_v29 ?_
    refine lv_lstore_n (pc := 78) (lv' := [(1, .long v29), (0, .ref (b 0)), (3, .int x3)]) hx hb dX9_digest_78 rfl hl (Nat.le_of_ble_eq_true rfl) rfl (fun ls hl => ?_)
    refine lv_ldc2 (pc := 79) hx hb hown (hts _ (lg_in mw_661 rfl)) dX9_digest_79 ?_
    refine lv_lload_n (pc := 82) hx hb dX9_digest_82 rfl (lv_at hl 0 rfl) ?_
    refine lv_lmul (pc := 83) hx hb dX9_digest_83 ?_
    refine lv_aload_n (pc := 84) hx hb dX9_digest_84 rfl (lv_at hl 1 rfl) ?_
    refine lv_iconst (pc := 85) (v := 0) hx hb dX9_digest_85 ic_0 ?_
    refine lv_iload_n (pc := 86) hx hb dX9_digest_86 rfl (lv_at hl 2 rfl) ?_
    obtain ⟨r30, hq, hf⟩ := bind1_some hf
    refine fin2_i (wl_X9_digest cA b m_latest m_cells m_wide m_houses m_bowls m_dogs m_gone m_sights m_drawn m_bytes m_typed m_cell m_house m_settings m_bowl m_dog m_path m_steps m_line m_sight m_alike) (run_V (rest := [.long ((31 : Int64) * v29)]) (pc := 87) (As := [.int (0 : Int32), .int x3]) C mf_X9_195 (c_X9_realmOf l D cA b m_latest m_cells m_wide m_houses m_bowls m_dogs m_gone m_sights m_drawn m_line (0 : Int32) x3 r30 hq H.size) rfl rfl ⟨(Nat.le_of_ble_eq_true rfl), (Nat.le_of_ble_eq_true rfl)⟩ (preV_of C hP hD [0, 10] rfl (pl_nd pv_174) 0 rfl rfl rfl) rfl hl.1 rfl (Nat.le_of_ble_eq_true rfl) dX9_digest_87 ⟨Nat.zero_le _, Nat.zero_le _⟩) hP hD hS hA [0, 10] [1, 2, 3, 4, 5, 6, 7, 8, 9, 11, 12] rfl rfl rfl rfl pv_174 (fun H locs hP hS => ?_)
    refine lv_i2l (pc := 90) hx hb dX9_digest_90 rfl ?_
    refine lv_ladd (pc := 91) hx hb dX9_digest_91 ?_
    obtain ⟨v31, e_v31, hf⟩ := letv_some hf
    refine tp_l e_v31 ?_
    refine lv_lstore_n (pc := 92) (lv' := [(1, .long v31), (0, .ref (b 0)), (3, .int x3)]) hx hb dX9_digest_92 rfl hl (Nat.le_of_ble_eq_true rfl) rfl (fun ls hl => ?_)
    refine lv_ldc2 (pc := 93) hx hb hown (hts _ (lg_in mw_661 rfl)) dX9_digest_93 ?_
    refine lv_lload_n (pc := 96) hx hb dX9_digest_96 rfl (lv_at hl 0 rfl) ?_
    refine lv_lmul (pc := 97) hx hb dX9_digest_97 ?_
    refine lv_aload_n (pc := 98) hx hb dX9_digest_98 rfl (lv_at hl 1 rfl) ?_
    refine lv_bipush (pc := 99) (v := 9) hx hb dX9_digest_99 bp_9 ?_
    refine lv_iload_n (pc := 101) hx hb dX9_digest_101 rfl (lv_at hl 2 rfl) ?_
    obtain ⟨r32, hq, hf⟩ := bind1_some hf
    refine fin2_i (wl_X9_digest cA b m_latest m_cells m_wide m_houses m_bowls m_dogs m_gone m_sights m_drawn m_bytes m_typed m_cell m_house m_settings m_bowl m_dog m_path m_steps m_line m_sight m_alike) (run_V (rest := [.long ((31 : Int64) * v31)]) (pc := 102) (As := [.int (9 : Int32), .int x3]) C mf_X9_195 (c_X9_realmOf l D cA b m_latest m_cells m_wide m_houses m_bowls m_dogs m_gone m_sights m_drawn m_line (9 : Int32) x3 r32 hq H.size) rfl rfl ⟨(Nat.le_of_ble_eq_true rfl), (Nat.le_of_ble_eq_true rfl)⟩ (preV_of C hP hD [0, 10] rfl (pl_nd pv_174) 0 rfl rfl rfl) rfl hl.1 rfl (Nat.le_of_ble_eq_true rfl) dX9_digest_102 ⟨Nat.zero_le _, Nat.zero_le _⟩) hP hD hS hA [0, 10] [1, 2, 3, 4, 5, 6, 7, 8, 9, 11, 12] rfl rfl rfl rfl pv_174 (fun H locs hP hS => ?_)
    refine lv_i2l (pc := 105) hx hb dX9_digest_105 rfl ?_
    refine lv_ladd (pc := 106) hx hb dX9_digest_106 ?_
    obtain ⟨v33, e_v33, hf⟩ := letv_some hf
    refine tp_l e_v33 ?_
    refine lv_lstore_n (pc := 107) (lv' := [(1, .long v33), (0, .ref (b 0)), (3, .int x3)]) hx hb dX9_digest_107 rfl hl (Nat.le_of_ble_eq_true rfl) rfl (fun ls hl => ?_)
    refine lv_iinc (pc := 108) (v := (x3 + 1)) (lv' := [(3, .int (x3 + 1)), (1, .long v33), (0, .ref (b 0))]) hx hb dX9_digest_108 hl (k := 2) rfl rfl (Nat.le_of_ble_eq_true rfl) rfl (fun ls hl => ?_)
    refine lv_goto (pc := 111) (tgt := 57) hx hb dX9_digest_111 (by decide) ?_
    have hf := Option.some.inj hf
    subst hf
    exact hK H locs ls hP hD hS (lv_sub hl [2, 1, 0] rfl)
theorem kl_X9_digest_L57 (C : Cx RX9 cX9_digest 4 D cA p s m args c) (hA : ∀ q, s.heap.size ≤ q → A q) (b : Nat → Nat) (m_latest : Int32) (m_cells : Int32) (m_wide : Int32) (m_houses : Int32) (m_bowls : Int32) (m_dogs : Int32) (m_gone : Int32) (m_sights : Int32) (m_drawn : Int32) (m_bytes : Nat → Int32) (m_typed : Nat → Int32) (m_cell : Nat → Int32) (m_house : Nat → Int32) (m_settings : Nat → Int32) (m_bowl : Nat → Int32) (m_dog : Nat → Int32) (m_path : Nat → Int32) (m_steps : Nat → Int32) (m_line : Nat → Int32) (m_sight : Nat → Int32) (m_alike : Nat → Int32) : ∀ (n : Nat) (q : Int64 × Int32) (z : (Int64)), loopF (fun q : Int64 × Int32 => f_X9_digest_L57 m_cells m_wide m_cell m_line q.1 q.2) n q = some z → (fun q : Int64 => At p l e rm_X9_digest s m args below meth c D A 0 0 Q 4 114 (wl_X9_digest cA b m_latest m_cells m_wide m_houses m_bowls m_dogs m_gone m_sights m_drawn m_bytes m_typed m_cell m_house m_settings m_bowl m_dog m_path m_steps m_line m_sight m_alike) [(0, .ref (b 0)), (1, .long q)] []) z → At p l e rm_X9_digest s m args below meth c D A 0 0 Q 4 57 (wl_X9_digest cA b m_latest m_cells m_wide m_houses m_bowls m_dogs m_gone m_sights m_drawn m_bytes m_typed m_cell m_house m_settings m_bowl m_dog m_path m_steps m_line m_sight m_alike) [(0, .ref (b 0)), (1, .long (q.1)), (3, .int (q.2))] [] :=
  loop_lem (WP := fun q : Int64 × Int32 => At p l e rm_X9_digest s m args below meth c D A 0 0 Q 4 57 (wl_X9_digest cA b m_latest m_cells m_wide m_houses m_bowls m_dogs m_gone m_sights m_drawn m_bytes m_typed m_cell m_house m_settings m_bowl m_dog m_path m_steps m_line m_sight m_alike) [(0, .ref (b 0)), (1, .long (q.1)), (3, .int (q.2))] []) (WE := (fun q : Int64 => At p l e rm_X9_digest s m args below meth c D A 0 0 Q 4 114 (wl_X9_digest cA b m_latest m_cells m_wide m_houses m_bowls m_dogs m_gone m_sights m_drawn m_bytes m_typed m_cell m_house m_settings m_bowl m_dog m_path m_steps m_line m_sight m_alike) [(0, .ref (b 0)), (1, .long q)] [])) (fun q r hf hK => k_X9_digest_L57 C hA b m_latest m_cells m_wide m_houses m_bowls m_dogs m_gone m_sights m_drawn m_bytes m_typed m_cell m_house m_settings m_bowl m_dog m_path m_steps m_line m_sight m_alike q.1 q.2 r hf hK)
def f_X9_digest_L116 (m_cells : Int32) (m_wide : Int32) (m_houses : Int32) (m_dogs : Int32) (m_house : Nat → Int32) (m_settings : Nat → Int32) (m_dog : Nat → Int32) (x1 : Int64) (x3 : Int32) (m_bowls : Int32) (m_gone : Int32) (m_cell : Nat → Int32) (m_bowl : Nat → Int32) (m_path : Nat → Int32) (m_steps : Nat → Int32) (m_line : Nat → Int32) : Option ((Int64 × Int32 × Int32 × Int32 × (Nat → Int32) × (Nat → Int32) × (Nat → Int32) × (Nat → Int32) × (Nat → Int32)) ⊕ (Int64 × Int32 × Int32 × (Nat → Int32) × (Nat → Int32) × (Nat → Int32) × (Nat → Int32) × (Nat → Int32))) :=
  if m_houses ≤ x3 then (some (.inr (x1, m_bowls, m_gone, m_cell, m_bowl, m_path, m_steps, m_line))) else (bind8 (f_X9_tellsHouse m_cells m_wide m_bowls m_dogs m_gone m_cell m_house m_settings m_bowl m_dog m_path m_steps m_line x1 x3) (fun r35 c36 c37 c38 c39 c40 c41 c42 => some (.inl (r35, (x3 + 1), c36, c37, c38, c39, c40, c41, c42))))
set_option maxHeartbeats 4000000 in
set_option maxRecDepth 100000 in
theorem k_X9_digest_L116 (C : Cx RX9 cX9_digest 4 D cA p s m args c) (hA : ∀ q, s.heap.size ≤ q → A q) (b : Nat → Nat) (m_latest : Int32) (m_cells : Int32) (m_wide : Int32) (m_houses : Int32) (m_dogs : Int32) (m_sights : Int32) (m_drawn : Int32) (m_bytes : Nat → Int32) (m_typed : Nat → Int32) (m_house : Nat → Int32) (m_settings : Nat → Int32) (m_dog : Nat → Int32) (m_sight : Nat → Int32) (m_alike : Nat → Int32) (x1 : Int64) (x3 : Int32) (m_bowls : Int32) (m_gone : Int32) (m_cell : Nat → Int32) (m_bowl : Nat → Int32) (m_path : Nat → Int32) (m_steps : Nat → Int32) (m_line : Nat → Int32) (r : (Int64 × Int32 × Int32 × Int32 × (Nat → Int32) × (Nat → Int32) × (Nat → Int32) × (Nat → Int32) × (Nat → Int32)) ⊕ (Int64 × Int32 × Int32 × (Nat → Int32) × (Nat → Int32) × (Nat → Int32) × (Nat → Int32) × (Nat → Int32))) (hf : f_X9_digest_L116 m_cells m_wide m_houses m_dogs m_house m_settings m_dog x1 x3 m_bowls m_gone m_cell m_bowl m_path m_steps m_line = some r) (hK : Sum.elim (fun q : Int64 × Int32 × Int32 × Int32 × (Nat → Int32) × (Nat → Int32) × (Nat → Int32) × (Nat → Int32) × (Nat → Int32) => At p l e rm_X9_digest s m args below meth c D A 0 0 Q 4 116 (wl_X9_digest cA b m_latest m_cells m_wide m_houses (q.2.2.1) m_dogs (q.2.2.2.1) m_sights m_drawn m_bytes m_typed (q.2.2.2.2.1) m_house m_settings (q.2.2.2.2.2.1) m_dog (q.2.2.2.2.2.2.1) (q.2.2.2.2.2.2.2.1) (q.2.2.2.2.2.2.2.2) m_sight m_alike) [(0, .ref (b 0)), (1, .long (q.1)), (3, .int (q.2.1))] []) (fun q : Int64 × Int32 × Int32 × (Nat → Int32) × (Nat → Int32) × (Nat → Int32) × (Nat → Int32) × (Nat → Int32) => At p l e rm_X9_digest s m args below meth c D A 0 0 Q 4 137 (wl_X9_digest cA b m_latest m_cells m_wide m_houses (q.2.1) m_dogs (q.2.2.1) m_sights m_drawn m_bytes m_typed (q.2.2.2.1) m_house m_settings (q.2.2.2.2.1) m_dog (q.2.2.2.2.2.1) (q.2.2.2.2.2.2.1) (q.2.2.2.2.2.2.2) m_sight m_alike) [(0, .ref (b 0)), (1, .long (q.1))] []) r) : At p l e rm_X9_digest s m args below meth c D A 0 0 Q 4 116 (wl_X9_digest cA b m_latest m_cells m_wide m_houses m_bowls m_dogs m_gone m_sights m_drawn m_bytes m_typed m_cell m_house m_settings m_bowl m_dog m_path m_steps m_line m_sight m_alike) [(0, .ref (b 0)), (1, .long x1), (3, .int x3)] [] := by
  intro H locs ls hP hD hS hl
  have hx := C.1
  have hb := C.2.1
  have hown := C.2.2.2.1
  have hts := C.2.2.2.2.1
  unfold f_X9_digest_L116 at hf
  refine lv_iload_n (pc := 116) hx hb dX9_digest_116 rfl (lv_at hl 2 rfl) ?_
  refine lv_aload_n (pc := 117) hx hb dX9_digest_117 rfl (lv_at hl 0 rfl) ?_
  refine g_get (pc := 118) C fg_X9_106 hP 0 rfl rfl dX9_digest_118 ?_
  refine lv_icmp_ge (pc := 121) (tgt := 137) hx hb dX9_digest_121 (by decide) (fun hc => ?_) (fun hc => ?_)
  · have hf := (if_pos hc).symm.trans hf
    have hf := Option.some.inj hf
    subst hf
    exact hK H locs ls hP hD hS (lv_sub hl [0, 1] rfl)
  · have hf := (if_neg hc).symm.trans hf
    refine lv_aload_n (pc := 124) hx hb dX9_digest_124 rfl (lv_at hl 0 rfl) ?_
    refine lv_lload_n (pc := 125) hx hb dX9_digest_125 rfl (lv_at hl 1 rfl) ?_
    refine lv_iload_n (pc := 126) hx hb dX9_digest_126 rfl (lv_at hl 2 rfl) ?_
    obtain ⟨r35, c36, c37, c38, c39, c40, c41, c42, hq, hf⟩ := bind8_some hf
    refine fin2_l (wl_X9_digest cA b m_latest m_cells m_wide m_houses c36 m_dogs c37 m_sights m_drawn m_bytes m_typed c38 m_house m_settings c39 m_dog c40 c41 c42 m_sight m_alike) (run_V (rest := []) (pc := 127) (As := [.long x1, .int x3]) C mf_X9_282 (c_X9_tellsHouse l D cA b m_latest m_cells m_wide m_houses m_bowls m_dogs m_gone m_sights m_drawn m_cell m_house m_settings m_bowl m_dog m_path m_steps m_line x1 x3 (r35, c36, c37, c38, c39, c40, c41, c42) hq H.size) rfl rfl ⟨(Nat.le_of_ble_eq_true rfl), (Nat.le_of_ble_eq_true rfl)⟩ (preV_of C hP hD [0, 3, 4, 5, 6, 7, 8, 9, 10] rfl (pl_nd pv_175) 0 rfl rfl rfl) rfl hl.1 rfl (Nat.le_of_ble_eq_true rfl) dX9_digest_127 ⟨Nat.zero_le _, Nat.zero_le _⟩) hP hD hS hA [0, 3, 4, 5, 6, 7, 8, 9, 10] [1, 2, 11, 12] rfl rfl rfl rfl pv_175 (fun H locs hP hS => ?_)
    have hD : va_D A (wl_X9_digest cA b m_latest m_cells m_wide m_houses c36 m_dogs c37 m_sights m_drawn m_bytes m_typed c38 m_house m_settings c39 m_dog c40 c41 c42 m_sight m_alike) := vd_a hD rfl
    refine lv_lstore_n (pc := 130) (lv' := [(1, .long r35), (0, .ref (b 0)), (3, .int x3)]) hx hb dX9_digest_130 rfl hl (Nat.le_of_ble_eq_true rfl) rfl (fun ls hl => ?_)
    refine lv_iinc (pc := 131) (v := (x3 + 1)) (lv' := [(3, .int (x3 + 1)), (1, .long r35), (0, .ref (b 0))]) hx hb dX9_digest_131 hl (k := 2) rfl rfl (Nat.le_of_ble_eq_true rfl) rfl (fun ls hl => ?_)
    refine lv_goto (pc := 134) (tgt := 116) hx hb dX9_digest_134 (by decide) ?_
    have hf := Option.some.inj hf
    subst hf
    exact hK H locs ls hP hD hS (lv_sub hl [2, 1, 0] rfl)
theorem kl_X9_digest_L116 (C : Cx RX9 cX9_digest 4 D cA p s m args c) (hA : ∀ q, s.heap.size ≤ q → A q) (b : Nat → Nat) (m_latest : Int32) (m_cells : Int32) (m_wide : Int32) (m_houses : Int32) (m_dogs : Int32) (m_sights : Int32) (m_drawn : Int32) (m_bytes : Nat → Int32) (m_typed : Nat → Int32) (m_house : Nat → Int32) (m_settings : Nat → Int32) (m_dog : Nat → Int32) (m_sight : Nat → Int32) (m_alike : Nat → Int32) : ∀ (n : Nat) (q : Int64 × Int32 × Int32 × Int32 × (Nat → Int32) × (Nat → Int32) × (Nat → Int32) × (Nat → Int32) × (Nat → Int32)) (z : (Int64 × Int32 × Int32 × (Nat → Int32) × (Nat → Int32) × (Nat → Int32) × (Nat → Int32) × (Nat → Int32))), loopF (fun q : Int64 × Int32 × Int32 × Int32 × (Nat → Int32) × (Nat → Int32) × (Nat → Int32) × (Nat → Int32) × (Nat → Int32) => f_X9_digest_L116 m_cells m_wide m_houses m_dogs m_house m_settings m_dog q.1 q.2.1 q.2.2.1 q.2.2.2.1 q.2.2.2.2.1 q.2.2.2.2.2.1 q.2.2.2.2.2.2.1 q.2.2.2.2.2.2.2.1 q.2.2.2.2.2.2.2.2) n q = some z → (fun q : Int64 × Int32 × Int32 × (Nat → Int32) × (Nat → Int32) × (Nat → Int32) × (Nat → Int32) × (Nat → Int32) => At p l e rm_X9_digest s m args below meth c D A 0 0 Q 4 137 (wl_X9_digest cA b m_latest m_cells m_wide m_houses (q.2.1) m_dogs (q.2.2.1) m_sights m_drawn m_bytes m_typed (q.2.2.2.1) m_house m_settings (q.2.2.2.2.1) m_dog (q.2.2.2.2.2.1) (q.2.2.2.2.2.2.1) (q.2.2.2.2.2.2.2) m_sight m_alike) [(0, .ref (b 0)), (1, .long (q.1))] []) z → At p l e rm_X9_digest s m args below meth c D A 0 0 Q 4 116 (wl_X9_digest cA b m_latest m_cells m_wide m_houses (q.2.2.1) m_dogs (q.2.2.2.1) m_sights m_drawn m_bytes m_typed (q.2.2.2.2.1) m_house m_settings (q.2.2.2.2.2.1) m_dog (q.2.2.2.2.2.2.1) (q.2.2.2.2.2.2.2.1) (q.2.2.2.2.2.2.2.2) m_sight m_alike) [(0, .ref (b 0)), (1, .long (q.1)), (3, .int (q.2.1))] [] :=
  loop_lem (WP := fun q : Int64 × Int32 × Int32 × Int32 × (Nat → Int32) × (Nat → Int32) × (Nat → Int32) × (Nat → Int32) × (Nat → Int32) => At p l e rm_X9_digest s m args below meth c D A 0 0 Q 4 116 (wl_X9_digest cA b m_latest m_cells m_wide m_houses (q.2.2.1) m_dogs (q.2.2.2.1) m_sights m_drawn m_bytes m_typed (q.2.2.2.2.1) m_house m_settings (q.2.2.2.2.2.1) m_dog (q.2.2.2.2.2.2.1) (q.2.2.2.2.2.2.2.1) (q.2.2.2.2.2.2.2.2) m_sight m_alike) [(0, .ref (b 0)), (1, .long (q.1)), (3, .int (q.2.1))] []) (WE := (fun q : Int64 × Int32 × Int32 × (Nat → Int32) × (Nat → Int32) × (Nat → Int32) × (Nat → Int32) × (Nat → Int32) => At p l e rm_X9_digest s m args below meth c D A 0 0 Q 4 137 (wl_X9_digest cA b m_latest m_cells m_wide m_houses (q.2.1) m_dogs (q.2.2.1) m_sights m_drawn m_bytes m_typed (q.2.2.2.1) m_house m_settings (q.2.2.2.2.1) m_dog (q.2.2.2.2.2.1) (q.2.2.2.2.2.2.1) (q.2.2.2.2.2.2.2) m_sight m_alike) [(0, .ref (b 0)), (1, .long (q.1))] [])) (fun q r hf hK => k_X9_digest_L116 C hA b m_latest m_cells m_wide m_houses m_dogs m_sights m_drawn m_bytes m_typed m_house m_settings m_dog m_sight m_alike q.1 q.2.1 q.2.2.1 q.2.2.2.1 q.2.2.2.2.1 q.2.2.2.2.2.1 q.2.2.2.2.2.2.1 q.2.2.2.2.2.2.2.1 q.2.2.2.2.2.2.2.2 r hf hK)
def f_X9_digest_L189 (m_cells : Int32) (m_wide : Int32) (m_houses : Int32) (m_bowls : Int32) (m_dogs : Int32) (m_gone : Int32) (m_cell : Nat → Int32) (m_house : Nat → Int32) (m_settings : Nat → Int32) (m_bowl : Nat → Int32) (m_dog : Nat → Int32) (x1 : Int64) (x3 : Int32) (m_path : Nat → Int32) (m_steps : Nat → Int32) (m_line : Nat → Int32) : Option ((Int64 × Int32 × (Nat → Int32) × (Nat → Int32) × (Nat → Int32)) ⊕ (Int64 × (Nat → Int32) × (Nat → Int32) × (Nat → Int32))) :=
  if (4 : Int32) ≤ x3 then (some (.inr (x1, m_path, m_steps, m_line))) else (bind4 (f_X9_liveOf m_cells m_wide m_houses m_bowls m_dogs m_gone m_cell m_house m_settings m_bowl m_dog m_path m_steps m_line (x3 / (2 : Int32)) (x3 - x3 / (2 : Int32) * (2 : Int32))) (fun r76 c77 c78 c79 => letv ((((31 : Int64) * x1) + (r76.toInt64))) (fun v80 => some (.inl (v80, (x3 + 1), c77, c78, c79)))))
set_option maxHeartbeats 4000000 in
set_option maxRecDepth 100000 in
theorem k_X9_digest_L189 (C : Cx RX9 cX9_digest 4 D cA p s m args c) (hA : ∀ q, s.heap.size ≤ q → A q) (b : Nat → Nat) (m_latest : Int32) (m_cells : Int32) (m_wide : Int32) (m_houses : Int32) (m_bowls : Int32) (m_dogs : Int32) (m_gone : Int32) (m_sights : Int32) (m_drawn : Int32) (m_bytes : Nat → Int32) (m_typed : Nat → Int32) (m_cell : Nat → Int32) (m_house : Nat → Int32) (m_settings : Nat → Int32) (m_bowl : Nat → Int32) (m_dog : Nat → Int32) (m_sight : Nat → Int32) (m_alike : Nat → Int32) (x1 : Int64) (x3 : Int32) (m_path : Nat → Int32) (m_steps : Nat → Int32) (m_line : Nat → Int32) (r : (Int64 × Int32 × (Nat → Int32) × (Nat → Int32) × (Nat → Int32)) ⊕ (Int64 × (Nat → Int32) × (Nat → Int32) × (Nat → Int32))) (hf : f_X9_digest_L189 m_cells m_wide m_houses m_bowls m_dogs m_gone m_cell m_house m_settings m_bowl m_dog x1 x3 m_path m_steps m_line = some r) (hK : Sum.elim (fun q : Int64 × Int32 × (Nat → Int32) × (Nat → Int32) × (Nat → Int32) => At p l e rm_X9_digest s m args below meth c D A 0 0 Q 4 189 (wl_X9_digest cA b m_latest m_cells m_wide m_houses m_bowls m_dogs m_gone m_sights m_drawn m_bytes m_typed m_cell m_house m_settings m_bowl m_dog (q.2.2.1) (q.2.2.2.1) (q.2.2.2.2) m_sight m_alike) [(0, .ref (b 0)), (1, .long (q.1)), (3, .int (q.2.1))] []) (fun q : Int64 × (Nat → Int32) × (Nat → Int32) × (Nat → Int32) => At p l e rm_X9_digest s m args below meth c D A 0 0 Q 4 218 (wl_X9_digest cA b m_latest m_cells m_wide m_houses m_bowls m_dogs m_gone m_sights m_drawn m_bytes m_typed m_cell m_house m_settings m_bowl m_dog (q.2.1) (q.2.2.1) (q.2.2.2) m_sight m_alike) [(0, .ref (b 0)), (1, .long (q.1))] []) r) : At p l e rm_X9_digest s m args below meth c D A 0 0 Q 4 189 (wl_X9_digest cA b m_latest m_cells m_wide m_houses m_bowls m_dogs m_gone m_sights m_drawn m_bytes m_typed m_cell m_house m_settings m_bowl m_dog m_path m_steps m_line m_sight m_alike) [(0, .ref (b 0)), (1, .long x1), (3, .int x3)] [] := by
  intro H locs ls hP hD hS hl
  have hx := C.1
  have hb := C.2.1
  have hown := C.2.2.2.1
  have hts := C.2.2.2.2.1
  unfold f_X9_digest_L189 at hf
  refine lv_iload_n (pc := 189) hx hb dX9_digest_189 rfl (lv_at hl 2 rfl) ?_
  refine lv_iconst (pc := 190) (v := 4) hx hb dX9_digest_190 ic_4 ?_
  refine lv_icmp_ge (pc := 191) (tgt := 218) hx hb dX9_digest_191 (by decide) (fun hc => ?_) (fun hc => ?_)
  · have hf := (if_pos hc).symm.trans hf
    have hf := Option.some.inj hf
    subst hf
    exact hK H locs ls hP hD hS (lv_sub hl [0, 1] rfl)
  · have hf := (if_neg hc).symm.trans hf
    refine lv_ldc2 (pc := 194) hx hb hown (hts _ (lg_in mw_661 rfl)) dX9_digest_194 ?_
    refine lv_lload_n (pc := 197) hx hb dX9_digest_197 rfl (lv_at hl 1 rfl) ?_
    refine lv_lmul (pc := 198) hx hb dX9_digest_198 ?_
    refine lv_aload_n (pc := 199) hx hb dX9_digest_199 rfl (lv_at hl 0 rfl) ?_
    refine lv_iload_n (pc := 200) hx hb dX9_digest_200 rfl (lv_at hl 2 rfl) ?_
    refine lv_iconst (pc := 201) (v := 2) hx hb dX9_digest_201 ic_2 ?_
    refine lv_idiv (pc := 202) hx hb dX9_digest_202 (by decide) ?_
    refine lv_iload_n (pc := 203) hx hb dX9_digest_203 rfl (lv_at hl 2 rfl) ?_
    refine lv_iconst (pc := 204) (v := 2) hx hb dX9_digest_204 ic_2 ?_
    refine lv_irem (pc := 205) hx hb dX9_digest_205 (by decide) ?_
    obtain ⟨r76, c77, c78, c79, hq, hf⟩ := bind4_some hf
    refine fin2_i (wl_X9_digest cA b m_latest m_cells m_wide m_houses m_bowls m_dogs m_gone m_sights m_drawn m_bytes m_typed m_cell m_house m_settings m_bowl m_dog c77 c78 c79 m_sight m_alike) (run_V (rest := [.long ((31 : Int64) * x1)]) (pc := 206) (As := [.int (x3 / (2 : Int32)), .int (x3 - x3 / (2 : Int32) * (2 : Int32))]) C mf_X9_225 (c_X9_liveOf l D cA b m_latest m_cells m_wide m_houses m_bowls m_dogs m_gone m_sights m_drawn m_cell m_house m_settings m_bowl m_dog m_path m_steps m_line (x3 / (2 : Int32)) (x3 - x3 / (2 : Int32) * (2 : Int32)) (r76, c77, c78, c79) hq H.size) rfl rfl ⟨(Nat.le_of_ble_eq_true rfl), (Nat.le_of_ble_eq_true rfl)⟩ (preV_of C hP hD [0, 3, 4, 5, 6, 7, 8, 9, 10] rfl (pl_nd pv_175) 0 rfl rfl rfl) rfl hl.1 rfl (Nat.le_of_ble_eq_true rfl) dX9_digest_206 ⟨Nat.zero_le _, Nat.zero_le _⟩) hP hD hS hA [0, 3, 4, 5, 6, 7, 8, 9, 10] [1, 2, 11, 12] rfl rfl rfl rfl pv_175 (fun H locs hP hS => ?_)
    have hD : va_D A (wl_X9_digest cA b m_latest m_cells m_wide m_houses m_bowls m_dogs m_gone m_sights m_drawn m_bytes m_typed m_cell m_house m_settings m_bowl m_dog c77 c78 c79 m_sight m_alike) := vd_a hD rfl
    refine lv_i2l (pc := 209) hx hb dX9_digest_209 rfl ?_
    refine lv_ladd (pc := 210) hx hb dX9_digest_210 ?_
    obtain ⟨v80, e_v80, hf⟩ := letv_some hf
    refine tp_l e_v80 ?_
    refine lv_lstore_n (pc := 211) (lv' := [(1, .long v80), (0, .ref (b 0)), (3, .int x3)]) hx hb dX9_digest_211 rfl hl (Nat.le_of_ble_eq_true rfl) rfl (fun ls hl => ?_)
    refine lv_iinc (pc := 212) (v := (x3 + 1)) (lv' := [(3, .int (x3 + 1)), (1, .long v80), (0, .ref (b 0))]) hx hb dX9_digest_212 hl (k := 2) rfl rfl (Nat.le_of_ble_eq_true rfl) rfl (fun ls hl => ?_)
    refine lv_goto (pc := 215) (tgt := 189) hx hb dX9_digest_215 (by decide) ?_
    have hf := Option.some.inj hf
    subst hf
    exact hK H locs ls hP hD hS (lv_sub hl [2, 1, 0] rfl)
theorem kl_X9_digest_L189 (C : Cx RX9 cX9_digest 4 D cA p s m args c) (hA : ∀ q, s.heap.size ≤ q → A q) (b : Nat → Nat) (m_latest : Int32) (m_cells : Int32) (m_wide : Int32) (m_houses : Int32) (m_bowls : Int32) (m_dogs : Int32) (m_gone : Int32) (m_sights : Int32) (m_drawn : Int32) (m_bytes : Nat → Int32) (m_typed : Nat → Int32) (m_cell : Nat → Int32) (m_house : Nat → Int32) (m_settings : Nat → Int32) (m_bowl : Nat → Int32) (m_dog : Nat → Int32) (m_sight : Nat → Int32) (m_alike : Nat → Int32) : ∀ (n : Nat) (q : Int64 × Int32 × (Nat → Int32) × (Nat → Int32) × (Nat → Int32)) (z : (Int64 × (Nat → Int32) × (Nat → Int32) × (Nat → Int32))), loopF (fun q : Int64 × Int32 × (Nat → Int32) × (Nat → Int32) × (Nat → Int32) => f_X9_digest_L189 m_cells m_wide m_houses m_bowls m_dogs m_gone m_cell m_house m_settings m_bowl m_dog q.1 q.2.1 q.2.2.1 q.2.2.2.1 q.2.2.2.2) n q = some z → (fun q : Int64 × (Nat → Int32) × (Nat → Int32) × (Nat → Int32) => At p l e rm_X9_digest s m args below meth c D A 0 0 Q 4 218 (wl_X9_digest cA b m_latest m_cells m_wide m_houses m_bowls m_dogs m_gone m_sights m_drawn m_bytes m_typed m_cell m_house m_settings m_bowl m_dog (q.2.1) (q.2.2.1) (q.2.2.2) m_sight m_alike) [(0, .ref (b 0)), (1, .long (q.1))] []) z → At p l e rm_X9_digest s m args below meth c D A 0 0 Q 4 189 (wl_X9_digest cA b m_latest m_cells m_wide m_houses m_bowls m_dogs m_gone m_sights m_drawn m_bytes m_typed m_cell m_house m_settings m_bowl m_dog (q.2.2.1) (q.2.2.2.1) (q.2.2.2.2) m_sight m_alike) [(0, .ref (b 0)), (1, .long (q.1)), (3, .int (q.2.1))] [] :=
  loop_lem (WP := fun q : Int64 × Int32 × (Nat → Int32) × (Nat → Int32) × (Nat → Int32) => At p l e rm_X9_digest s m args below meth c D A 0 0 Q 4 189 (wl_X9_digest cA b m_latest m_cells m_wide m_houses m_bowls m_dogs m_gone m_sights m_drawn m_bytes m_typed m_cell m_house m_settings m_bowl m_dog (q.2.2.1) (q.2.2.2.1) (q.2.2.2.2) m_sight m_alike) [(0, .ref (b 0)), (1, .long (q.1)), (3, .int (q.2.1))] []) (WE := (fun q : Int64 × (Nat → Int32) × (Nat → Int32) × (Nat → Int32) => At p l e rm_X9_digest s m args below meth c D A 0 0 Q 4 218 (wl_X9_digest cA b m_latest m_cells m_wide m_houses m_bowls m_dogs m_gone m_sights m_drawn m_bytes m_typed m_cell m_house m_settings m_bowl m_dog (q.2.1) (q.2.2.1) (q.2.2.2) m_sight m_alike) [(0, .ref (b 0)), (1, .long (q.1))] [])) (fun q r hf hK => k_X9_digest_L189 C hA b m_latest m_cells m_wide m_houses m_bowls m_dogs m_gone m_sights m_drawn m_bytes m_typed m_cell m_house m_settings m_bowl m_dog m_sight m_alike q.1 q.2.1 q.2.2.1 q.2.2.2.1 q.2.2.2.2 r hf hK)
def f_X9_digest (m_latest : Int32) (m_cells : Int32) (m_wide : Int32) (m_houses : Int32) (m_bowls : Int32) (m_dogs : Int32) (m_gone : Int32) (m_sights : Int32) (m_drawn : Int32) (m_bytes : Nat → Int32) (m_typed : Nat → Int32) (m_cell : Nat → Int32) (m_house : Nat → Int32) (m_settings : Nat → Int32) (m_bowl : Nat → Int32) (m_dog : Nat → Int32) (m_path : Nat → Int32) (m_steps : Nat → Int32) (m_line : Nat → Int32) (m_sight : Nat → Int32) (m_alike : Nat → Int32) : Option (Int64 × Int32 × Int32 × Int32 × Int32 × Int32 × Int32 × (Nat → Int32) × (Nat → Int32) × (Nat → Int32) × (Nat → Int32) × (Nat → Int32) × (Nat → Int32) × (Nat → Int32) × (Nat → Int32)) :=
  bind9 (loopF (fun q : Int64 × Int32 × Int32 × Int32 × Int32 × (Nat → Int32) × (Nat → Int32) × (Nat → Int32) × (Nat → Int32) × (Nat → Int32) => f_X9_digest_L6 m_latest m_bowls m_dogs m_gone m_sights m_bytes m_typed m_settings m_bowl m_dog q.1 q.2.1 q.2.2.1 q.2.2.2.1 q.2.2.2.2.1 q.2.2.2.2.2.1 q.2.2.2.2.2.2.1 q.2.2.2.2.2.2.2.1 q.2.2.2.2.2.2.2.2.1 q.2.2.2.2.2.2.2.2.2) FU ((17 : Int64), (0 : Int32), m_cells, m_wide, m_houses, m_cell, m_house, m_path, m_steps, m_line)) (fun u11 u12 u13 u14 u15 u16 u17 u18 u19 => bind4 (f_X9_readsLand u12 u13 m_bytes m_typed u15) (fun r20 c21 c22 c23 => letv ((((31 : Int64) * u11) + (r20.toInt64))) (fun v24 => bind3 (f_X9_readsHouses u14 m_bytes m_typed u16) (fun r25 c26 c27 => letv ((((31 : Int64) * v24) + (r25.toInt64))) (fun v28 => bind1 (loopF (fun q : Int64 × Int32 => f_X9_digest_L57 c21 c22 c23 u19 q.1 q.2) FU (v28, (0 : Int32))) (fun u34 => bind8 (loopF (fun q : Int64 × Int32 × Int32 × Int32 × (Nat → Int32) × (Nat → Int32) × (Nat → Int32) × (Nat → Int32) × (Nat → Int32) => f_X9_digest_L116 c21 c22 c26 m_dogs c27 m_settings m_dog q.1 q.2.1 q.2.2.1 q.2.2.2.1 q.2.2.2.2.1 q.2.2.2.2.2.1 q.2.2.2.2.2.2.1 q.2.2.2.2.2.2.2.1 q.2.2.2.2.2.2.2.2) FU (u34, (0 : Int32), m_bowls, m_gone, c23, m_bowl, u17, u18, u19)) (fun u43 u44 u45 u46 u47 u48 u49 u50 => bind6 (f_X9_tellsNight c21 c22 c26 u44 m_dogs u45 m_sights u46 c27 m_settings u47 m_dog u48 u49 u50 m_sight m_alike u43 (0 : Int32)) (fun r51 c52 c53 c54 c55 c56 => bind6 (f_X9_tellsNight c21 c22 c26 u44 m_dogs u45 m_sights u46 c27 c52 u47 m_dog c53 c54 c55 m_sight c56 r51 (3 : Int32)) (fun r57 c58 c59 c60 c61 c62 => bind6 (f_X9_tellsNight c21 c22 c26 u44 m_dogs u45 m_sights u46 c27 c58 u47 m_dog c59 c60 c61 m_sight c62 r57 (9 : Int32)) (fun r63 c64 c65 c66 c67 c68 => bind3 (f_X9_lives c21 c22 u44 m_dogs u45 u46 c64 u47 m_dog c65 c66 c67 (9 : Int32)) (fun c69 c70 c71 => bind1 (f_X9_firstOf c21 c22 c26 c27 c71 (0 : Int32)) (fun r72 => letv ((((31 : Int64) * r63) + (r72.toInt64))) (fun v73 => bind1 (f_X9_firstOf c21 c22 c26 c27 c71 (1 : Int32)) (fun r74 => letv ((((31 : Int64) * v73) + (r74.toInt64))) (fun v75 => bind4 (loopF (fun q : Int64 × Int32 × (Nat → Int32) × (Nat → Int32) × (Nat → Int32) => f_X9_digest_L189 c21 c22 c26 u44 m_dogs u45 u46 c27 c64 u47 m_dog q.1 q.2.1 q.2.2.1 q.2.2.2.1 q.2.2.2.2) FU (v75, (0 : Int32), c69, c70, c71)) (fun u81 u82 u83 u84 => bind5 (f_X9_neverNow c21 c22 c26 u44 m_dogs u45 m_sights u46 c27 c64 u47 m_dog u82 u83 u84 m_sight) (fun r85 c86 c87 c88 c89 => letv ((((31 : Int64) * u81) + (r85.toInt64))) (fun v90 => bind5 (f_X9_beganNow c21 c22 c26 u44 m_dogs c86 m_sights u46 c27 c64 u47 m_dog c87 c88 c89 m_sight) (fun r91 c92 c93 c94 c95 => letv ((((31 : Int64) * v90) + (r91.toInt64))) (fun v96 => bind2 (f_X9_roamOf c21 c22 m_drawn u46 c92 (7 : Int32) (20 : Int32) (0 : Int32)) (fun r97 c98 => letv ((((31 : Int64) * v96) + (r97.toInt64))) (fun v99 => bind2 (f_X9_roamOf c21 c22 c98 u46 c92 (7 : Int32) (20 : Int32) (1 : Int32)) (fun r100 c101 => some ((((31 : Int64) * v99) + (r100.toInt64)), c21, c22, c26, u44, c86, c101, u46, c27, c92, u47, c93, c94, c95, c68))))))))))))))))))))))))
set_option maxHeartbeats 4000000 in
set_option maxRecDepth 100000 in
theorem k_X9_digest (C : Cx RX9 cX9_digest 4 D cA p s m args c) (hr : meth.sig.returnType = (some .long)) (hlk : meth.locks = false) (hA : ∀ q, s.heap.size ≤ q → va_A ws0 sz q) (b : Nat → Nat) (m_latest : Int32) (m_cells : Int32) (m_wide : Int32) (m_houses : Int32) (m_bowls : Int32) (m_dogs : Int32) (m_gone : Int32) (m_sights : Int32) (m_drawn : Int32) (m_bytes : Nat → Int32) (m_typed : Nat → Int32) (m_cell : Nat → Int32) (m_house : Nat → Int32) (m_settings : Nat → Int32) (m_bowl : Nat → Int32) (m_dog : Nat → Int32) (m_path : Nat → Int32) (m_steps : Nat → Int32) (m_line : Nat → Int32) (m_sight : Nat → Int32) (m_alike : Nat → Int32) (r : Int64 × Int32 × Int32 × Int32 × Int32 × Int32 × Int32 × (Nat → Int32) × (Nat → Int32) × (Nat → Int32) × (Nat → Int32) × (Nat → Int32) × (Nat → Int32) × (Nat → Int32) × (Nat → Int32)) (hf : f_X9_digest m_latest m_cells m_wide m_houses m_bowls m_dogs m_gone m_sights m_drawn m_bytes m_typed m_cell m_house m_settings m_bowl m_dog m_path m_steps m_line m_sight m_alike = some r) : At p l e rm_X9_digest s m args below meth c D (va_A ws0 sz) 0 0 (MQ below (PostL D r.1 ws0 (wl_X9_digest cA b m_latest (r.2.1) (r.2.2.1) (r.2.2.2.1) (r.2.2.2.2.1) m_dogs (r.2.2.2.2.2.1) m_sights (r.2.2.2.2.2.2.1) m_bytes m_typed (r.2.2.2.2.2.2.2.1) (r.2.2.2.2.2.2.2.2.1) (r.2.2.2.2.2.2.2.2.2.1) (r.2.2.2.2.2.2.2.2.2.2.1) m_dog (r.2.2.2.2.2.2.2.2.2.2.2.1) (r.2.2.2.2.2.2.2.2.2.2.2.2.1) (r.2.2.2.2.2.2.2.2.2.2.2.2.2.1) m_sight (r.2.2.2.2.2.2.2.2.2.2.2.2.2.2)) sz) args s 0 0 (va_A ws0 sz)) 4 0 (wl_X9_digest cA b m_latest m_cells m_wide m_houses m_bowls m_dogs m_gone m_sights m_drawn m_bytes m_typed m_cell m_house m_settings m_bowl m_dog m_path m_steps m_line m_sight m_alike) [(0, .ref (b 0))] [] := by
  intro H locs ls hP hD hS hl
  have hx := C.1
  have hb := C.2.1
  have hown := C.2.2.2.1
  have hts := C.2.2.2.2.1
  unfold f_X9_digest at hf
  refine lv_ldc2 (pc := 0) hx hb hown (hts _ (lg_in mw_662 rfl)) dX9_digest_0 ?_
  refine lv_lstore_n (pc := 3) (lv' := [(1, .long (17 : Int64)), (0, .ref (b 0))]) hx hb dX9_digest_3 rfl hl (Nat.le_of_ble_eq_true rfl) rfl (fun ls hl => ?_)
  refine lv_iconst (pc := 4) (v := 0) hx hb dX9_digest_4 ic_0 ?_
  refine lv_istore_n (pc := 5) (lv' := [(3, .int (0 : Int32)), (1, .long (17 : Int64)), (0, .ref (b 0))]) hx hb dX9_digest_5 rfl hl (Nat.le_of_ble_eq_true rfl) rfl (fun ls hl => ?_)
  obtain ⟨u11, u12, u13, u14, u15, u16, u17, u18, u19, hq, hf⟩ := bind9_some hf
  refine kl_X9_digest_L6 C hA b m_latest m_bowls m_dogs m_gone m_sights m_drawn m_bytes m_typed m_settings m_bowl m_dog m_sight m_alike FU ((17 : Int64), (0 : Int32), m_cells, m_wide, m_houses, m_cell, m_house, m_path, m_steps, m_line) _ hq ?_ H locs ls hP hD hS (lv_sub hl [2, 1, 0] rfl)
  intro H locs ls hP hD hS hl
  have hP : va_P D classes (wl_X9_digest cA b m_latest u12 u13 u14 m_bowls m_dogs m_gone m_sights m_drawn m_bytes m_typed u15 u16 m_settings m_bowl m_dog u17 u18 u19 m_sight m_alike) H := hP
  have hD : va_D (va_A ws0 sz) (wl_X9_digest cA b m_latest u12 u13 u14 m_bowls m_dogs m_gone m_sights m_drawn m_bytes m_typed u15 u16 m_settings m_bowl m_dog u17 u18 u19 m_sight m_alike) := hD
  have hl : lv_has ls 4 [(0, .ref (b 0)), (1, .long u11)] := hl
  refine lv_ldc2 (pc := 31) hx hb hown (hts _ (lg_in mw_661 rfl)) dX9_digest_31 ?_
  refine lv_lload_n (pc := 34) hx hb dX9_digest_34 rfl (lv_at hl 1 rfl) ?_
  refine lv_lmul (pc := 35) hx hb dX9_digest_35 ?_
  refine lv_aload_n (pc := 36) hx hb dX9_digest_36 rfl (lv_at hl 0 rfl) ?_
  obtain ⟨r20, c21, c22, c23, hq, hf⟩ := bind4_some hf
  refine fin2_i (wl_X9_digest cA b m_latest c21 c22 u14 m_bowls m_dogs m_gone m_sights m_drawn m_bytes m_typed c23 u16 m_settings m_bowl m_dog u17 u18 u19 m_sight m_alike) (run_V (rest := [.long ((31 : Int64) * u11)]) (pc := 37) (As := []) C mf_X9_115 (c_X9_readsLand l D cA b m_latest u12 u13 u14 m_bowls m_dogs m_gone m_sights m_drawn m_bytes m_typed u15 (r20, c21, c22, c23) hq H.size) rfl rfl ⟨(Nat.le_of_ble_eq_true rfl), (Nat.le_of_ble_eq_true rfl)⟩ (preV_of C hP hD [0, 1, 2, 3] rfl (pl_nd pv_172) 0 rfl rfl rfl) rfl hl.1 rfl (Nat.le_of_ble_eq_true rfl) dX9_digest_37 ⟨Nat.zero_le _, Nat.zero_le _⟩) hP hD hS hA [0, 1, 2, 3] [4, 5, 6, 7, 8, 9, 10, 11, 12] rfl rfl rfl rfl pv_172 (fun H locs hP hS => ?_)
  have hD : va_D (va_A ws0 sz) (wl_X9_digest cA b m_latest c21 c22 u14 m_bowls m_dogs m_gone m_sights m_drawn m_bytes m_typed c23 u16 m_settings m_bowl m_dog u17 u18 u19 m_sight m_alike) := vd_a hD rfl
  refine lv_i2l (pc := 40) hx hb dX9_digest_40 rfl ?_
  refine lv_ladd (pc := 41) hx hb dX9_digest_41 ?_
  obtain ⟨v24, e_v24, hf⟩ := letv_some hf
  refine tp_l e_v24 ?_
  refine lv_lstore_n (pc := 42) (lv' := [(1, .long v24), (0, .ref (b 0))]) hx hb dX9_digest_42 rfl hl (Nat.le_of_ble_eq_true rfl) rfl (fun ls hl => ?_)
  refine lv_ldc2 (pc := 43) hx hb hown (hts _ (lg_in mw_661 rfl)) dX9_digest_43 ?_
  refine lv_lload_n (pc := 46) hx hb dX9_digest_46 rfl (lv_at hl 0 rfl) ?_
  refine lv_lmul (pc := 47) hx hb dX9_digest_47 ?_
  refine lv_aload_n (pc := 48) hx hb dX9_digest_48 rfl (lv_at hl 1 rfl) ?_
  obtain ⟨r25, c26, c27, hq, hf⟩ := bind3_some hf
  refine fin2_i (wl_X9_digest cA b m_latest c21 c22 c26 m_bowls m_dogs m_gone m_sights m_drawn m_bytes m_typed c23 c27 m_settings m_bowl m_dog u17 u18 u19 m_sight m_alike) (run_V (rest := [.long ((31 : Int64) * v24)]) (pc := 49) (As := []) C mf_X9_119 (c_X9_readsHouses l D cA b m_latest c21 c22 u14 m_bowls m_dogs m_gone m_sights m_drawn m_bytes m_typed u16 (r25, c26, c27) hq H.size) rfl rfl ⟨(Nat.le_of_ble_eq_true rfl), (Nat.le_of_ble_eq_true rfl)⟩ (preV_of C hP hD [0, 1, 2, 4] rfl (pl_nd pv_173) 0 rfl rfl rfl) rfl hl.1 rfl (Nat.le_of_ble_eq_true rfl) dX9_digest_49 ⟨Nat.zero_le _, Nat.zero_le _⟩) hP hD hS hA [0, 1, 2, 4] [3, 5, 6, 7, 8, 9, 10, 11, 12] rfl rfl rfl rfl pv_173 (fun H locs hP hS => ?_)
  have hD : va_D (va_A ws0 sz) (wl_X9_digest cA b m_latest c21 c22 c26 m_bowls m_dogs m_gone m_sights m_drawn m_bytes m_typed c23 c27 m_settings m_bowl m_dog u17 u18 u19 m_sight m_alike) := vd_a hD rfl
  refine lv_i2l (pc := 52) hx hb dX9_digest_52 rfl ?_
  refine lv_ladd (pc := 53) hx hb dX9_digest_53 ?_
  obtain ⟨v28, e_v28, hf⟩ := letv_some hf
  refine tp_l e_v28 ?_
  refine lv_lstore_n (pc := 54) (lv' := [(1, .long v28), (0, .ref (b 0))]) hx hb dX9_digest_54 rfl hl (Nat.le_of_ble_eq_true rfl) rfl (fun ls hl => ?_)
  refine lv_iconst (pc := 55) (v := 0) hx hb dX9_digest_55 ic_0 ?_
  refine lv_istore_n (pc := 56) (lv' := [(3, .int (0 : Int32)), (1, .long v28), (0, .ref (b 0))]) hx hb dX9_digest_56 rfl hl (Nat.le_of_ble_eq_true rfl) rfl (fun ls hl => ?_)
  obtain ⟨u34, hq, hf⟩ := bind1_some hf
  refine kl_X9_digest_L57 C hA b m_latest c21 c22 c26 m_bowls m_dogs m_gone m_sights m_drawn m_bytes m_typed c23 c27 m_settings m_bowl m_dog u17 u18 u19 m_sight m_alike FU (v28, (0 : Int32)) _ hq ?_ H locs ls hP hD hS (lv_sub hl [2, 1, 0] rfl)
  intro H locs ls hP hD hS hl
  have hP : va_P D classes (wl_X9_digest cA b m_latest c21 c22 c26 m_bowls m_dogs m_gone m_sights m_drawn m_bytes m_typed c23 c27 m_settings m_bowl m_dog u17 u18 u19 m_sight m_alike) H := hP
  have hD : va_D (va_A ws0 sz) (wl_X9_digest cA b m_latest c21 c22 c26 m_bowls m_dogs m_gone m_sights m_drawn m_bytes m_typed c23 c27 m_settings m_bowl m_dog u17 u18 u19 m_sight m_alike) := hD
  have hl : lv_has ls 4 [(0, .ref (b 0)), (1, .long u34)] := hl
  refine lv_iconst (pc := 114) (v := 0) hx hb dX9_digest_114 ic_0 ?_
  refine lv_istore_n (pc := 115) (lv' := [(3, .int (0 : Int32)), (0, .ref (b 0)), (1, .long u34)]) hx hb dX9_digest_115 rfl hl (Nat.le_of_ble_eq_true rfl) rfl (fun ls hl => ?_)
  obtain ⟨u43, u44, u45, u46, u47, u48, u49, u50, hq, hf⟩ := bind8_some hf
  refine kl_X9_digest_L116 C hA b m_latest c21 c22 c26 m_dogs m_sights m_drawn m_bytes m_typed c27 m_settings m_dog m_sight m_alike FU (u34, (0 : Int32), m_bowls, m_gone, c23, m_bowl, u17, u18, u19) _ hq ?_ H locs ls hP hD hS (lv_sub hl [1, 2, 0] rfl)
  intro H locs ls hP hD hS hl
  have hP : va_P D classes (wl_X9_digest cA b m_latest c21 c22 c26 u44 m_dogs u45 m_sights m_drawn m_bytes m_typed u46 c27 m_settings u47 m_dog u48 u49 u50 m_sight m_alike) H := hP
  have hD : va_D (va_A ws0 sz) (wl_X9_digest cA b m_latest c21 c22 c26 u44 m_dogs u45 m_sights m_drawn m_bytes m_typed u46 c27 m_settings u47 m_dog u48 u49 u50 m_sight m_alike) := hD
  have hl : lv_has ls 4 [(0, .ref (b 0)), (1, .long u43)] := hl
  refine lv_aload_n (pc := 137) hx hb dX9_digest_137 rfl (lv_at hl 0 rfl) ?_
  refine lv_aload_n (pc := 138) hx hb dX9_digest_138 rfl (lv_at hl 0 rfl) ?_
  refine lv_aload_n (pc := 139) hx hb dX9_digest_139 rfl (lv_at hl 0 rfl) ?_
  refine lv_lload_n (pc := 140) hx hb dX9_digest_140 rfl (lv_at hl 1 rfl) ?_
  refine lv_iconst (pc := 141) (v := 0) hx hb dX9_digest_141 ic_0 ?_
  obtain ⟨r51, c52, c53, c54, c55, c56, hq, hf⟩ := bind6_some hf
  refine fin2_l (wl_X9_digest cA b m_latest c21 c22 c26 u44 m_dogs u45 m_sights m_drawn m_bytes m_typed u46 c27 c52 u47 m_dog c53 c54 c55 m_sight c56) (run_V (rest := [.ref (b 0), .ref (b 0)]) (pc := 142) (As := [.long u43, .int (0 : Int32)]) C mf_X9_286 (c_X9_tellsNight l D cA b m_latest c21 c22 c26 u44 m_dogs u45 m_sights m_drawn u46 c27 m_settings u47 m_dog u48 u49 u50 m_sight m_alike u43 (0 : Int32) (r51, c52, c53, c54, c55, c56) hq H.size) rfl rfl ⟨(Nat.le_of_ble_eq_true rfl), (Nat.le_of_ble_eq_true rfl)⟩ (preV_of C hP hD [0, 3, 4, 5, 6, 7, 8, 9, 10, 11, 12] rfl (pl_nd pv_164) 0 rfl rfl rfl) rfl hl.1 rfl (Nat.le_of_ble_eq_true rfl) dX9_digest_142 ⟨Nat.zero_le _, Nat.zero_le _⟩) hP hD hS hA [0, 3, 4, 5, 6, 7, 8, 9, 10, 11, 12] [1, 2] rfl rfl rfl rfl pv_164 (fun H locs hP hS => ?_)
  have hD : va_D (va_A ws0 sz) (wl_X9_digest cA b m_latest c21 c22 c26 u44 m_dogs u45 m_sights m_drawn m_bytes m_typed u46 c27 c52 u47 m_dog c53 c54 c55 m_sight c56) := vd_a hD rfl
  refine lv_iconst (pc := 145) (v := 3) hx hb dX9_digest_145 ic_3 ?_
  obtain ⟨r57, c58, c59, c60, c61, c62, hq, hf⟩ := bind6_some hf
  refine fin2_l (wl_X9_digest cA b m_latest c21 c22 c26 u44 m_dogs u45 m_sights m_drawn m_bytes m_typed u46 c27 c58 u47 m_dog c59 c60 c61 m_sight c62) (run_V (rest := [.ref (b 0)]) (pc := 146) (As := [.long r51, .int (3 : Int32)]) C mf_X9_286 (c_X9_tellsNight l D cA b m_latest c21 c22 c26 u44 m_dogs u45 m_sights m_drawn u46 c27 c52 u47 m_dog c53 c54 c55 m_sight c56 r51 (3 : Int32) (r57, c58, c59, c60, c61, c62) hq H.size) rfl rfl ⟨(Nat.le_of_ble_eq_true rfl), (Nat.le_of_ble_eq_true rfl)⟩ (preV_of C hP hD [0, 3, 4, 5, 6, 7, 8, 9, 10, 11, 12] rfl (pl_nd pv_164) 0 rfl rfl rfl) rfl hl.1 rfl (Nat.le_of_ble_eq_true rfl) dX9_digest_146 ⟨Nat.zero_le _, Nat.zero_le _⟩) hP hD hS hA [0, 3, 4, 5, 6, 7, 8, 9, 10, 11, 12] [1, 2] rfl rfl rfl rfl pv_164 (fun H locs hP hS => ?_)
  have hD : va_D (va_A ws0 sz) (wl_X9_digest cA b m_latest c21 c22 c26 u44 m_dogs u45 m_sights m_drawn m_bytes m_typed u46 c27 c58 u47 m_dog c59 c60 c61 m_sight c62) := vd_a hD rfl
  refine lv_bipush (pc := 149) (v := 9) hx hb dX9_digest_149 bp_9 ?_
  obtain ⟨r63, c64, c65, c66, c67, c68, hq, hf⟩ := bind6_some hf
  refine fin2_l (wl_X9_digest cA b m_latest c21 c22 c26 u44 m_dogs u45 m_sights m_drawn m_bytes m_typed u46 c27 c64 u47 m_dog c65 c66 c67 m_sight c68) (run_V (rest := []) (pc := 151) (As := [.long r57, .int (9 : Int32)]) C mf_X9_286 (c_X9_tellsNight l D cA b m_latest c21 c22 c26 u44 m_dogs u45 m_sights m_drawn u46 c27 c58 u47 m_dog c59 c60 c61 m_sight c62 r57 (9 : Int32) (r63, c64, c65, c66, c67, c68) hq H.size) rfl rfl ⟨(Nat.le_of_ble_eq_true rfl), (Nat.le_of_ble_eq_true rfl)⟩ (preV_of C hP hD [0, 3, 4, 5, 6, 7, 8, 9, 10, 11, 12] rfl (pl_nd pv_164) 0 rfl rfl rfl) rfl hl.1 rfl (Nat.le_of_ble_eq_true rfl) dX9_digest_151 ⟨Nat.zero_le _, Nat.zero_le _⟩) hP hD hS hA [0, 3, 4, 5, 6, 7, 8, 9, 10, 11, 12] [1, 2] rfl rfl rfl rfl pv_164 (fun H locs hP hS => ?_)
  have hD : va_D (va_A ws0 sz) (wl_X9_digest cA b m_latest c21 c22 c26 u44 m_dogs u45 m_sights m_drawn m_bytes m_typed u46 c27 c64 u47 m_dog c65 c66 c67 m_sight c68) := vd_a hD rfl
  refine lv_lstore_n (pc := 154) (lv' := [(1, .long r63), (0, .ref (b 0))]) hx hb dX9_digest_154 rfl hl (Nat.le_of_ble_eq_true rfl) rfl (fun ls hl => ?_)
  refine lv_aload_n (pc := 155) hx hb dX9_digest_155 rfl (lv_at hl 1 rfl) ?_
  refine lv_bipush (pc := 156) (v := 9) hx hb dX9_digest_156 bp_9 ?_
  obtain ⟨c69, c70, c71, hq, hf⟩ := bind3_some hf
  refine fin2_v (wl_X9_digest cA b m_latest c21 c22 c26 u44 m_dogs u45 m_sights m_drawn m_bytes m_typed u46 c27 c64 u47 m_dog c69 c70 c71 m_sight c68) (run_V (rest := []) (pc := 158) (As := [.int (9 : Int32)]) C mf_X9_178 (c_X9_lives l D cA b m_latest c21 c22 c26 u44 m_dogs u45 m_sights m_drawn u46 c64 u47 m_dog c65 c66 c67 (9 : Int32) (c69, c70, c71) hq H.size) rfl rfl ⟨(Nat.le_of_ble_eq_true rfl), (Nat.le_of_ble_eq_true rfl)⟩ (preV_of C hP hD [0, 3, 5, 6, 7, 8, 9, 10] rfl (pl_nd pv_176) 0 rfl rfl rfl) rfl hl.1 rfl (Nat.le_of_ble_eq_true rfl) dX9_digest_158 ⟨Nat.zero_le _, Nat.zero_le _⟩) hP hD hS hA [0, 3, 5, 6, 7, 8, 9, 10] [1, 2, 4, 11, 12] rfl rfl rfl rfl pv_176 (fun H locs hP hS => ?_)
  have hD : va_D (va_A ws0 sz) (wl_X9_digest cA b m_latest c21 c22 c26 u44 m_dogs u45 m_sights m_drawn m_bytes m_typed u46 c27 c64 u47 m_dog c69 c70 c71 m_sight c68) := vd_a hD rfl
  refine lv_ldc2 (pc := 161) hx hb hown (hts _ (lg_in mw_661 rfl)) dX9_digest_161 ?_
  refine lv_lload_n (pc := 164) hx hb dX9_digest_164 rfl (lv_at hl 0 rfl) ?_
  refine lv_lmul (pc := 165) hx hb dX9_digest_165 ?_
  refine lv_aload_n (pc := 166) hx hb dX9_digest_166 rfl (lv_at hl 1 rfl) ?_
  refine lv_iconst (pc := 167) (v := 0) hx hb dX9_digest_167 ic_0 ?_
  obtain ⟨r72, hq, hf⟩ := bind1_some hf
  refine fin2_i (wl_X9_digest cA b m_latest c21 c22 c26 u44 m_dogs u45 m_sights m_drawn m_bytes m_typed u46 c27 c64 u47 m_dog c69 c70 c71 m_sight c68) (run_V (rest := [.long ((31 : Int64) * r63)]) (pc := 168) (As := [.int (0 : Int32)]) C mf_X9_207 (c_X9_firstOf l D cA b m_latest c21 c22 c26 u44 m_dogs u45 m_sights m_drawn c27 c71 (0 : Int32) r72 hq H.size) rfl rfl ⟨(Nat.le_of_ble_eq_true rfl), (Nat.le_of_ble_eq_true rfl)⟩ (preV_of C hP hD [0, 4, 10] rfl (pl_nd pv_177) 0 rfl rfl rfl) rfl hl.1 rfl (Nat.le_of_ble_eq_true rfl) dX9_digest_168 ⟨Nat.zero_le _, Nat.zero_le _⟩) hP hD hS hA [0, 4, 10] [1, 2, 3, 5, 6, 7, 8, 9, 11, 12] rfl rfl rfl rfl pv_177 (fun H locs hP hS => ?_)
  refine lv_i2l (pc := 171) hx hb dX9_digest_171 rfl ?_
  refine lv_ladd (pc := 172) hx hb dX9_digest_172 ?_
  obtain ⟨v73, e_v73, hf⟩ := letv_some hf
  refine tp_l e_v73 ?_
  refine lv_lstore_n (pc := 173) (lv' := [(1, .long v73), (0, .ref (b 0))]) hx hb dX9_digest_173 rfl hl (Nat.le_of_ble_eq_true rfl) rfl (fun ls hl => ?_)
  refine lv_ldc2 (pc := 174) hx hb hown (hts _ (lg_in mw_661 rfl)) dX9_digest_174 ?_
  refine lv_lload_n (pc := 177) hx hb dX9_digest_177 rfl (lv_at hl 0 rfl) ?_
  refine lv_lmul (pc := 178) hx hb dX9_digest_178 ?_
  refine lv_aload_n (pc := 179) hx hb dX9_digest_179 rfl (lv_at hl 1 rfl) ?_
  refine lv_iconst (pc := 180) (v := 1) hx hb dX9_digest_180 ic_1 ?_
  obtain ⟨r74, hq, hf⟩ := bind1_some hf
  refine fin2_i (wl_X9_digest cA b m_latest c21 c22 c26 u44 m_dogs u45 m_sights m_drawn m_bytes m_typed u46 c27 c64 u47 m_dog c69 c70 c71 m_sight c68) (run_V (rest := [.long ((31 : Int64) * v73)]) (pc := 181) (As := [.int (1 : Int32)]) C mf_X9_207 (c_X9_firstOf l D cA b m_latest c21 c22 c26 u44 m_dogs u45 m_sights m_drawn c27 c71 (1 : Int32) r74 hq H.size) rfl rfl ⟨(Nat.le_of_ble_eq_true rfl), (Nat.le_of_ble_eq_true rfl)⟩ (preV_of C hP hD [0, 4, 10] rfl (pl_nd pv_177) 0 rfl rfl rfl) rfl hl.1 rfl (Nat.le_of_ble_eq_true rfl) dX9_digest_181 ⟨Nat.zero_le _, Nat.zero_le _⟩) hP hD hS hA [0, 4, 10] [1, 2, 3, 5, 6, 7, 8, 9, 11, 12] rfl rfl rfl rfl pv_177 (fun H locs hP hS => ?_)
  refine lv_i2l (pc := 184) hx hb dX9_digest_184 rfl ?_
  refine lv_ladd (pc := 185) hx hb dX9_digest_185 ?_
  obtain ⟨v75, e_v75, hf⟩ := letv_some hf
  refine tp_l e_v75 ?_
  refine lv_lstore_n (pc := 186) (lv' := [(1, .long v75), (0, .ref (b 0))]) hx hb dX9_digest_186 rfl hl (Nat.le_of_ble_eq_true rfl) rfl (fun ls hl => ?_)
  refine lv_iconst (pc := 187) (v := 0) hx hb dX9_digest_187 ic_0 ?_
  refine lv_istore_n (pc := 188) (lv' := [(3, .int (0 : Int32)), (1, .long v75), (0, .ref (b 0))]) hx hb dX9_digest_188 rfl hl (Nat.le_of_ble_eq_true rfl) rfl (fun ls hl => ?_)
  obtain ⟨u81, u82, u83, u84, hq, hf⟩ := bind4_some hf
  refine kl_X9_digest_L189 C hA b m_latest c21 c22 c26 u44 m_dogs u45 m_sights m_drawn m_bytes m_typed u46 c27 c64 u47 m_dog m_sight c68 FU (v75, (0 : Int32), c69, c70, c71) _ hq ?_ H locs ls hP hD hS (lv_sub hl [2, 1, 0] rfl)
  intro H locs ls hP hD hS hl
  have hP : va_P D classes (wl_X9_digest cA b m_latest c21 c22 c26 u44 m_dogs u45 m_sights m_drawn m_bytes m_typed u46 c27 c64 u47 m_dog u82 u83 u84 m_sight c68) H := hP
  have hD : va_D (va_A ws0 sz) (wl_X9_digest cA b m_latest c21 c22 c26 u44 m_dogs u45 m_sights m_drawn m_bytes m_typed u46 c27 c64 u47 m_dog u82 u83 u84 m_sight c68) := hD
  have hl : lv_has ls 4 [(0, .ref (b 0)), (1, .long u81)] := hl
  refine lv_ldc2 (pc := 218) hx hb hown (hts _ (lg_in mw_661 rfl)) dX9_digest_218 ?_
  refine lv_lload_n (pc := 221) hx hb dX9_digest_221 rfl (lv_at hl 1 rfl) ?_
  refine lv_lmul (pc := 222) hx hb dX9_digest_222 ?_
  refine lv_aload_n (pc := 223) hx hb dX9_digest_223 rfl (lv_at hl 0 rfl) ?_
  obtain ⟨r85, c86, c87, c88, c89, hq, hf⟩ := bind5_some hf
  refine fin2_i (wl_X9_digest cA b m_latest c21 c22 c26 u44 m_dogs c86 m_sights m_drawn m_bytes m_typed u46 c27 c64 u47 m_dog c87 c88 c89 m_sight c68) (run_V (rest := [.long ((31 : Int64) * u81)]) (pc := 224) (As := []) C mf_X9_237 (c_X9_neverNow l D cA b m_latest c21 c22 c26 u44 m_dogs u45 m_sights m_drawn u46 c27 c64 u47 m_dog u82 u83 u84 m_sight (r85, c86, c87, c88, c89) hq H.size) rfl rfl ⟨(Nat.le_of_ble_eq_true rfl), (Nat.le_of_ble_eq_true rfl)⟩ (preV_of C hP hD [0, 3, 4, 5, 6, 7, 8, 9, 10, 11] rfl (pl_nd pv_178) 0 rfl rfl rfl) rfl hl.1 rfl (Nat.le_of_ble_eq_true rfl) dX9_digest_224 ⟨Nat.zero_le _, Nat.zero_le _⟩) hP hD hS hA [0, 3, 4, 5, 6, 7, 8, 9, 10, 11] [1, 2, 12] rfl rfl rfl rfl pv_178 (fun H locs hP hS => ?_)
  have hD : va_D (va_A ws0 sz) (wl_X9_digest cA b m_latest c21 c22 c26 u44 m_dogs c86 m_sights m_drawn m_bytes m_typed u46 c27 c64 u47 m_dog c87 c88 c89 m_sight c68) := vd_a hD rfl
  refine lv_i2l (pc := 227) hx hb dX9_digest_227 rfl ?_
  refine lv_ladd (pc := 228) hx hb dX9_digest_228 ?_
  obtain ⟨v90, e_v90, hf⟩ := letv_some hf
  refine tp_l e_v90 ?_
  refine lv_lstore_n (pc := 229) (lv' := [(1, .long v90), (0, .ref (b 0))]) hx hb dX9_digest_229 rfl hl (Nat.le_of_ble_eq_true rfl) rfl (fun ls hl => ?_)
  refine lv_ldc2 (pc := 230) hx hb hown (hts _ (lg_in mw_661 rfl)) dX9_digest_230 ?_
  refine lv_lload_n (pc := 233) hx hb dX9_digest_233 rfl (lv_at hl 0 rfl) ?_
  refine lv_lmul (pc := 234) hx hb dX9_digest_234 ?_
  refine lv_aload_n (pc := 235) hx hb dX9_digest_235 rfl (lv_at hl 1 rfl) ?_
  obtain ⟨r91, c92, c93, c94, c95, hq, hf⟩ := bind5_some hf
  refine fin2_i (wl_X9_digest cA b m_latest c21 c22 c26 u44 m_dogs c86 m_sights m_drawn m_bytes m_typed u46 c27 c92 u47 m_dog c93 c94 c95 m_sight c68) (run_V (rest := [.long ((31 : Int64) * v90)]) (pc := 236) (As := []) C mf_X9_240 (c_X9_beganNow l D cA b m_latest c21 c22 c26 u44 m_dogs c86 m_sights m_drawn u46 c27 c64 u47 m_dog c87 c88 c89 m_sight (r91, c92, c93, c94, c95) hq H.size) rfl rfl ⟨(Nat.le_of_ble_eq_true rfl), (Nat.le_of_ble_eq_true rfl)⟩ (preV_of C hP hD [0, 3, 4, 5, 6, 7, 8, 9, 10, 11] rfl (pl_nd pv_178) 0 rfl rfl rfl) rfl hl.1 rfl (Nat.le_of_ble_eq_true rfl) dX9_digest_236 ⟨Nat.zero_le _, Nat.zero_le _⟩) hP hD hS hA [0, 3, 4, 5, 6, 7, 8, 9, 10, 11] [1, 2, 12] rfl rfl rfl rfl pv_178 (fun H locs hP hS => ?_)
  have hD : va_D (va_A ws0 sz) (wl_X9_digest cA b m_latest c21 c22 c26 u44 m_dogs c86 m_sights m_drawn m_bytes m_typed u46 c27 c92 u47 m_dog c93 c94 c95 m_sight c68) := vd_a hD rfl
  refine lv_i2l (pc := 239) hx hb dX9_digest_239 rfl ?_
  refine lv_ladd (pc := 240) hx hb dX9_digest_240 ?_
  obtain ⟨v96, e_v96, hf⟩ := letv_some hf
  refine tp_l e_v96 ?_
  refine lv_lstore_n (pc := 241) (lv' := [(1, .long v96), (0, .ref (b 0))]) hx hb dX9_digest_241 rfl hl (Nat.le_of_ble_eq_true rfl) rfl (fun ls hl => ?_)
  refine lv_ldc2 (pc := 242) hx hb hown (hts _ (lg_in mw_661 rfl)) dX9_digest_242 ?_
  refine lv_lload_n (pc := 245) hx hb dX9_digest_245 rfl (lv_at hl 0 rfl) ?_
  refine lv_lmul (pc := 246) hx hb dX9_digest_246 ?_
  refine lv_aload_n (pc := 247) hx hb dX9_digest_247 rfl (lv_at hl 1 rfl) ?_
  refine lv_bipush (pc := 248) (v := 7) hx hb dX9_digest_248 bp_7 ?_
  refine lv_bipush (pc := 250) (v := 20) hx hb dX9_digest_250 bp_20 ?_
  refine lv_iconst (pc := 252) (v := 0) hx hb dX9_digest_252 ic_0 ?_
  obtain ⟨r97, c98, hq, hf⟩ := bind2_some hf
  refine fin2_i (wl_X9_digest cA b m_latest c21 c22 c26 u44 m_dogs c86 m_sights c98 m_bytes m_typed u46 c27 c92 u47 m_dog c93 c94 c95 m_sight c68) (run_V (rest := [.long ((31 : Int64) * v96)]) (pc := 253) (As := [.int (7 : Int32), .int (20 : Int32), .int (0 : Int32)]) C mf_X9_272 (c_X9_roamOf l D cA b m_latest c21 c22 c26 u44 m_dogs c86 m_sights m_drawn u46 c92 (7 : Int32) (20 : Int32) (0 : Int32) (r97, c98) hq H.size) rfl rfl ⟨(Nat.le_of_ble_eq_true rfl), (Nat.le_of_ble_eq_true rfl)⟩ (preV_of C hP hD [0, 3, 5] rfl (pl_nd pv_179) 0 rfl rfl rfl) rfl hl.1 rfl (Nat.le_of_ble_eq_true rfl) dX9_digest_253 ⟨Nat.zero_le _, Nat.zero_le _⟩) hP hD hS hA [0, 3, 5] [1, 2, 4, 6, 7, 8, 9, 10, 11, 12] rfl rfl rfl rfl pv_179 (fun H locs hP hS => ?_)
  have hD : va_D (va_A ws0 sz) (wl_X9_digest cA b m_latest c21 c22 c26 u44 m_dogs c86 m_sights c98 m_bytes m_typed u46 c27 c92 u47 m_dog c93 c94 c95 m_sight c68) := vd_a hD rfl
  refine lv_i2l (pc := 256) hx hb dX9_digest_256 rfl ?_
  refine lv_ladd (pc := 257) hx hb dX9_digest_257 ?_
  obtain ⟨v99, e_v99, hf⟩ := letv_some hf
  refine tp_l e_v99 ?_
  refine lv_lstore_n (pc := 258) (lv' := [(1, .long v99), (0, .ref (b 0))]) hx hb dX9_digest_258 rfl hl (Nat.le_of_ble_eq_true rfl) rfl (fun ls hl => ?_)
  refine lv_ldc2 (pc := 259) hx hb hown (hts _ (lg_in mw_661 rfl)) dX9_digest_259 ?_
  refine lv_lload_n (pc := 262) hx hb dX9_digest_262 rfl (lv_at hl 0 rfl) ?_
  refine lv_lmul (pc := 263) hx hb dX9_digest_263 ?_
  refine lv_aload_n (pc := 264) hx hb dX9_digest_264 rfl (lv_at hl 1 rfl) ?_
  refine lv_bipush (pc := 265) (v := 7) hx hb dX9_digest_265 bp_7 ?_
  refine lv_bipush (pc := 267) (v := 20) hx hb dX9_digest_267 bp_20 ?_
  refine lv_iconst (pc := 269) (v := 1) hx hb dX9_digest_269 ic_1 ?_
  obtain ⟨r100, c101, hq, hf⟩ := bind2_some hf
  refine fin2_i (wl_X9_digest cA b m_latest c21 c22 c26 u44 m_dogs c86 m_sights c101 m_bytes m_typed u46 c27 c92 u47 m_dog c93 c94 c95 m_sight c68) (run_V (rest := [.long ((31 : Int64) * v99)]) (pc := 270) (As := [.int (7 : Int32), .int (20 : Int32), .int (1 : Int32)]) C mf_X9_272 (c_X9_roamOf l D cA b m_latest c21 c22 c26 u44 m_dogs c86 m_sights c98 u46 c92 (7 : Int32) (20 : Int32) (1 : Int32) (r100, c101) hq H.size) rfl rfl ⟨(Nat.le_of_ble_eq_true rfl), (Nat.le_of_ble_eq_true rfl)⟩ (preV_of C hP hD [0, 3, 5] rfl (pl_nd pv_179) 0 rfl rfl rfl) rfl hl.1 rfl (Nat.le_of_ble_eq_true rfl) dX9_digest_270 ⟨Nat.zero_le _, Nat.zero_le _⟩) hP hD hS hA [0, 3, 5] [1, 2, 4, 6, 7, 8, 9, 10, 11, 12] rfl rfl rfl rfl pv_179 (fun H locs hP hS => ?_)
  have hD : va_D (va_A ws0 sz) (wl_X9_digest cA b m_latest c21 c22 c26 u44 m_dogs c86 m_sights c101 m_bytes m_typed u46 c27 c92 u47 m_dog c93 c94 c95 m_sight c68) := vd_a hD rfl
  refine lv_i2l (pc := 273) hx hb dX9_digest_273 rfl ?_
  refine lv_ladd (pc := 274) hx hb dX9_digest_274 ?_
  have hf := Option.some.inj hf
  subst hf
  exact ret_l C hr hlk hP hS dX9_digest_275
set_option maxRecDepth 100000 in
theorem c_X9_digest (l : Launch) (D : va_G) (cA : Nat → ClassId) (b : Nat → Nat) (m_latest : Int32) (m_cells : Int32) (m_wide : Int32) (m_houses : Int32) (m_bowls : Int32) (m_dogs : Int32) (m_gone : Int32) (m_sights : Int32) (m_drawn : Int32) (m_bytes : Nat → Int32) (m_typed : Nat → Int32) (m_cell : Nat → Int32) (m_house : Nat → Int32) (m_settings : Nat → Int32) (m_bowl : Nat → Int32) (m_dog : Nat → Int32) (m_path : Nat → Int32) (m_steps : Nat → Int32) (m_line : Nat → Int32) (m_sight : Nat → Int32) (m_alike : Nat → Int32) (r : Int64 × Int32 × Int32 × Int32 × Int32 × Int32 × Int32 × (Nat → Int32) × (Nat → Int32) × (Nat → Int32) × (Nat → Int32) × (Nat → Int32) × (Nat → Int32) × (Nat → Int32) × (Nat → Int32)) (hf : f_X9_digest m_latest m_cells m_wide m_houses m_bowls m_dogs m_gone m_sights m_drawn m_bytes m_typed m_cell m_house m_settings m_bowl m_dog m_path m_steps m_line m_sight m_alike = some r) (sz : Nat) : Met l yX9_digest (Cond.code yX9_digest cX9_digest 4 (some .long) :: lw_good) rm_X9_digest (PreX D cA [.ref (b 0)] sz (wl_X9_digest cA b m_latest m_cells m_wide m_houses m_bowls m_dogs m_gone m_sights m_drawn m_bytes m_typed m_cell m_house m_settings m_bowl m_dog m_path m_steps m_line m_sight m_alike)) (PostL D r.1 (wl_X9_digest cA b m_latest m_cells m_wide m_houses m_bowls m_dogs m_gone m_sights m_drawn m_bytes m_typed m_cell m_house m_settings m_bowl m_dog m_path m_steps m_line m_sight m_alike) (wl_X9_digest cA b m_latest (r.2.1) (r.2.2.1) (r.2.2.2.1) (r.2.2.2.2.1) m_dogs (r.2.2.2.2.2.1) m_sights (r.2.2.2.2.2.2.1) m_bytes m_typed (r.2.2.2.2.2.2.2.1) (r.2.2.2.2.2.2.2.2.1) (r.2.2.2.2.2.2.2.2.2.1) (r.2.2.2.2.2.2.2.2.2.2.1) m_dog (r.2.2.2.2.2.2.2.2.2.2.2.1) (r.2.2.2.2.2.2.2.2.2.2.2.2.1) (r.2.2.2.2.2.2.2.2.2.2.2.2.2.1) m_sight (r.2.2.2.2.2.2.2.2.2.2.2.2.2.2)) sz) 0 0 (va_A (wl_X9_digest cA b m_latest m_cells m_wide m_houses m_bowls m_dogs m_gone m_sights m_drawn m_bytes m_typed m_cell m_house m_settings m_bowl m_dog m_path m_steps m_line m_sight m_alike) sz) :=
  met_of (by decide) (Nat.le_of_ble_eq_true rfl) (fun p e s m args below meth c C hr hlk hA => k_X9_digest C hr hlk hA b m_latest m_cells m_wide m_houses m_bowls m_dogs m_gone m_sights m_drawn m_bytes m_typed m_cell m_house m_settings m_bowl m_dog m_path m_steps m_line m_sight m_alike r hf)
end
