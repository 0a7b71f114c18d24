abbrev wl_X9_askOf (cA : Nat → ClassId) (b : Nat → Nat) (m_latest : Int32) (m_cells : Int32) (m_wide : Int32) (m_houses : Int32) (m_bowls : Int32) (m_dogs : Int32) (m_gone : Int32) (m_sights : Int32) (m_drawn : Int32) (m_cell : Nat → Int32) (m_house : Nat → Int32) (m_settings : Nat → Int32) (m_bowl : Nat → Int32) (m_dog : Nat → Int32) (m_path : Nat → Int32) (m_steps : Nat → Int32) (m_line : Nat → Int32) (m_sight : Nat → Int32) (m_alike : Nat → Int32) : va_W := [((b 0), .inr (9, [.ref (b 1), .ref (b 2), .ref (b 3), .ref (b 4), .int m_latest, .ref (b 5), .ref (b 6), .int m_cells, .int m_wide, .ref (b 7), .int m_houses, .ref (b 8), .ref (b 9), .int m_bowls, .ref (b 10), .int m_dogs, .ref (b 11), .int m_gone, .ref (b 12), .ref (b 13), .ref (b 14), .int m_sights, .ref (b 15), .ref (b 16), .int m_drawn])), ((b 7), .inl (cA 0, 36, .inl m_cell)), ((b 8), .inl (cA 0, 16, .inl m_house)), ((b 9), .inl (cA 0, 2, .inl m_settings)), ((b 10), .inl (cA 0, 20, .inl m_bowl)), ((b 11), .inl (cA 0, 16, .inl m_dog)), ((b 12), .inl (cA 0, 250, .inl m_path)), ((b 13), .inl (cA 0, 10, .inl m_steps)), ((b 14), .inl (cA 0, 60, .inl m_line)), ((b 15), .inl (cA 0, 24, .inl m_sight)), ((b 16), .inl (cA 0, 32, .inl m_alike))]
abbrev rm_X9_askOf : Room := { frames := 7, cells := 0, slots := 0, locals := 173 }
section
variable {p : Program} {l : Launch} {e : Env} {s : State} {m : MethodId} {args : Array Value} {below : List Frame} {meth : Method} {c : Code} {D : va_G} {cA : Nat → ClassId} {ws0 : va_W} {sz : Nat} {A : Nat → Prop} {Q : State → Prop}
def f_X9_askOf_L15 (x4 : Int32) (m_alike : Nat → Int32) : Option ((Int32 × (Nat → Int32)) ⊕ ((Nat → Int32))) :=
  if (32 : Int32) ≤ x4 then (some (.inr m_alike)) else (gd (inb x4 32) (some (.inl ((x4 + 1), (upd m_alike x4.toNatClampNeg (0 : Int32))))))
set_option maxHeartbeats 4000000 in
set_option maxRecDepth 100000 in
theorem k_X9_askOf_L15 (C : Cx RX9 cX9_askOf 9 D cA p s m args c) (hA : ∀ q, s.heap.size ≤ q → A q) (b : Nat → Nat) (m_latest : Int32) (m_cells : Int32) (m_wide : Int32) (m_houses : Int32) (m_bowls : Int32) (m_dogs : Int32) (m_gone : Int32) (m_sights : Int32) (m_drawn : Int32) (m_cell : Nat → Int32) (m_house : Nat → Int32) (m_settings : Nat → Int32) (m_bowl : Nat → Int32) (m_dog : Nat → Int32) (m_path : Nat → Int32) (m_steps : Nat → Int32) (m_line : Nat → Int32) (m_sight : Nat → Int32) (x1 : Int32) (x2 : Int32) (x3 : Int32) (x4 : Int32) (m_alike : Nat → Int32) (r : (Int32 × (Nat → Int32)) ⊕ ((Nat → Int32))) (hf : f_X9_askOf_L15 x4 m_alike = some r) (hK : Sum.elim (fun q : Int32 × (Nat → Int32) => At p l e rm_X9_askOf s m args below meth c D A 0 0 Q 9 15 (wl_X9_askOf cA b m_latest m_cells m_wide m_houses m_bowls m_dogs m_gone m_sights m_drawn m_cell m_house m_settings m_bowl m_dog m_path m_steps m_line m_sight (q.2)) [(0, .ref (b 0)), (1, .int x1), (2, .int x2), (3, .int x3), (4, .int (q.1))] []) (fun q : (Nat → Int32) => At p l e rm_X9_askOf s m args below meth c D A 0 0 Q 9 36 (wl_X9_askOf cA b m_latest m_cells m_wide m_houses m_bowls m_dogs m_gone m_sights m_drawn m_cell m_house m_settings m_bowl m_dog m_path m_steps m_line m_sight q) [(0, .ref (b 0)), (1, .int x1), (2, .int x2), (3, .int x3)] []) r) : At p l e rm_X9_askOf s m args below meth c D A 0 0 Q 9 15 (wl_X9_askOf cA b m_latest m_cells m_wide m_houses m_bowls m_dogs m_gone m_sights m_drawn m_cell m_house m_settings m_bowl m_dog m_path m_steps m_line m_sight m_alike) [(0, .ref (b 0)), (1, .int x1), (2, .int x2), (3, .int x3), (4, .int x4)] [] := by
  intro H locs ls hP hD hS hl
  have hx := C.1
  have hb := C.2.1
  have hown := C.2.2.2.1
  have hts := C.2.2.2.2.1
  unfold f_X9_askOf_L15 at hf
  refine lv_iload (pc := 15) hx hb dX9_askOf_15 (lv_at hl 4 rfl) ?_
  refine lv_bipush (pc := 17) (v := 32) hx hb dX9_askOf_17 bp_32 ?_
  refine lv_icmp_ge (pc := 19) (tgt := 36) hx hb dX9_askOf_19 (by decide) (fun hc => ?_) (fun hc => ?_)
  · have hf := (if_pos hc).symm.trans hf
    have hf := Option.some.inj hf
    subst hf
    exact hK H locs ls hP hD hS (lv_sub hl [0, 1, 2, 3] rfl)
  · have hf := (if_neg hc).symm.trans hf
    refine lv_aload_n (pc := 22) hx hb dX9_askOf_22 rfl (lv_at hl 0 rfl) ?_
    refine g_get (pc := 23) C fg_X9_55 hP 0 rfl rfl dX9_askOf_23 ?_
    refine lv_iload (pc := 26) hx hb dX9_askOf_26 (lv_at hl 4 rfl) ?_
    refine lv_iconst (pc := 28) (v := 0) hx hb dX9_askOf_28 ic_0 ?_
    obtain ⟨hg, hf⟩ := gd_some hf
    refine g_iast (pc := 29) C hP hD hS 10 rfl hg dX9_askOf_29 (fun H locs hP hD hS => ?_)
    have hP : va_P D classes (wl_X9_askOf cA b m_latest m_cells m_wide m_houses m_bowls m_dogs m_gone m_sights m_drawn m_cell m_house m_settings m_bowl m_dog m_path m_steps m_line m_sight (upd m_alike x4.toNatClampNeg (0 : Int32))) H := hP
    have hD : va_D A (wl_X9_askOf cA b m_latest m_cells m_wide m_houses m_bowls m_dogs m_gone m_sights m_drawn m_cell m_house m_settings m_bowl m_dog m_path m_steps m_line m_sight (upd m_alike x4.toNatClampNeg (0 : Int32))) := hD
    refine lv_iinc (pc := 30) (v := (x4 + 1)) (lv' := [(4, .int (x4 + 1)), (0, .ref (b 0)), (1, .int x1), (2, .int x2), (3, .int x3)]) hx hb dX9_askOf_30 hl (k := 4) rfl rfl (Nat.le_of_ble_eq_true rfl) rfl (fun ls hl => ?_)
    refine lv_goto (pc := 33) (tgt := 15) hx hb dX9_askOf_33 (by decide) ?_
    have hf := Option.some.inj hf
    subst hf
    exact hK H locs ls hP hD hS (lv_sub hl [1, 2, 3, 4, 0] rfl)
theorem kl_X9_askOf_L15 (C : Cx RX9 cX9_askOf 9 D cA p s m args c) (hA : ∀ q, s.heap.size ≤ q → A q) (b : Nat → Nat) (m_latest : Int32) (m_cells : Int32) (m_wide : Int32) (m_houses : Int32) (m_bowls : Int32) (m_dogs : Int32) (m_gone : Int32) (m_sights : Int32) (m_drawn : Int32) (m_cell : Nat → Int32) (m_house : Nat → Int32) (m_settings : Nat → Int32) (m_bowl : Nat → Int32) (m_dog : Nat → Int32) (m_path : Nat → Int32) (m_steps : Nat → Int32) (m_line : Nat → Int32) (m_sight : Nat → Int32) (x1 : Int32) (x2 : Int32) (x3 : Int32) : ∀ (n : Nat) (q : Int32 × (Nat → Int32)) (z : ((Nat → Int32))), loopF (fun q : Int32 × (Nat → Int32) => f_X9_askOf_L15 q.1 q.2) n q = some z → (fun q : (Nat → Int32) => At p l e rm_X9_askOf s m args below meth c D A 0 0 Q 9 36 (wl_X9_askOf cA b m_latest m_cells m_wide m_houses m_bowls m_dogs m_gone m_sights m_drawn m_cell m_house m_settings m_bowl m_dog m_path m_steps m_line m_sight q) [(0, .ref (b 0)), (1, .int x1), (2, .int x2), (3, .int x3)] []) z → At p l e rm_X9_askOf s m args below meth c D A 0 0 Q 9 15 (wl_X9_askOf cA b m_latest m_cells m_wide m_houses m_bowls m_dogs m_gone m_sights m_drawn m_cell m_house m_settings m_bowl m_dog m_path m_steps m_line m_sight (q.2)) [(0, .ref (b 0)), (1, .int x1), (2, .int x2), (3, .int x3), (4, .int (q.1))] [] :=
  loop_lem (WP := fun q : Int32 × (Nat → Int32) => At p l e rm_X9_askOf s m args below meth c D A 0 0 Q 9 15 (wl_X9_askOf cA b m_latest m_cells m_wide m_houses m_bowls m_dogs m_gone m_sights m_drawn m_cell m_house m_settings m_bowl m_dog m_path m_steps m_line m_sight (q.2)) [(0, .ref (b 0)), (1, .int x1), (2, .int x2), (3, .int x3), (4, .int (q.1))] []) (WE := (fun q : (Nat → Int32) => At p l e rm_X9_askOf s m args below meth c D A 0 0 Q 9 36 (wl_X9_askOf cA b m_latest m_cells m_wide m_houses m_bowls m_dogs m_gone m_sights m_drawn m_cell m_house m_settings m_bowl m_dog m_path m_steps m_line m_sight q) [(0, .ref (b 0)), (1, .int x1), (2, .int x2), (3, .int x3)] [])) (fun q r hf hK => k_X9_askOf_L15 C hA b m_latest m_cells m_wide m_houses m_bowls m_dogs m_gone m_sights m_drawn m_cell m_house m_settings m_bowl m_dog m_path m_steps m_line m_sight x1 x2 x3 q.1 q.2 r hf hK)
def f_X9_askOf_b109L39 (m_cells : Int32) (m_wide : Int32) (m_houses : Int32) (m_bowls : Int32) (m_dogs : Int32) (m_gone : Int32) (m_cell : Nat → Int32) (m_house : Nat → Int32) (m_settings : Nat → Int32) (m_bowl : Nat → Int32) (m_dog : Nat → Int32) (m_path : Nat → Int32) (m_steps : Nat → Int32) (m_line : Nat → Int32) (m_alike : Nat → Int32) (x1 : Int32) (x2 : Int32) (x4 : Int32) : Option ((Int32 × (Nat → Int32) × (Nat → Int32) × (Nat → Int32) × (Nat → Int32) × (Nat → Int32)) ⊕ ((Nat → Int32) × (Nat → Int32) × (Nat → Int32) × (Nat → Int32) × (Nat → Int32))) :=
  some (.inl ((x4 + 1), m_settings, m_path, m_steps, m_line, m_alike))
set_option maxHeartbeats 4000000 in
set_option maxRecDepth 100000 in
theorem k_X9_askOf_b109L39 (C : Cx RX9 cX9_askOf 9 D cA p s m args c) (hA : ∀ q, s.heap.size ≤ q → A q) (b : Nat → Nat) (m_latest : Int32) (m_cells : Int32) (m_wide : Int32) (m_houses : Int32) (m_bowls : Int32) (m_dogs : Int32) (m_gone : Int32) (m_sights : Int32) (m_drawn : Int32) (m_cell : Nat → Int32) (m_house : Nat → Int32) (m_settings : Nat → Int32) (m_bowl : Nat → Int32) (m_dog : Nat → Int32) (m_path : Nat → Int32) (m_steps : Nat → Int32) (m_line : Nat → Int32) (m_sight : Nat → Int32) (m_alike : Nat → Int32) (x1 : Int32) (x2 : Int32) (x3 : Int32) (x4 : Int32) (r : (Int32 × (Nat → Int32) × (Nat → Int32) × (Nat → Int32) × (Nat → Int32) × (Nat → Int32)) ⊕ ((Nat → Int32) × (Nat → Int32) × (Nat → Int32) × (Nat → Int32) × (Nat → Int32))) (hf : f_X9_askOf_b109L39 m_cells m_wide m_houses m_bowls m_dogs m_gone m_cell m_house m_settings m_bowl m_dog m_path m_steps m_line m_alike x1 x2 x4 = some r) (hK : Sum.elim (fun q : Int32 × (Nat → Int32) × (Nat → Int32) × (Nat → Int32) × (Nat → Int32) × (Nat → Int32) => At p l e rm_X9_askOf s m args below meth c D A 0 0 Q 9 39 (wl_X9_askOf cA b m_latest m_cells m_wide m_houses m_bowls m_dogs m_gone m_sights m_drawn m_cell m_house (q.2.1) m_bowl m_dog (q.2.2.1) (q.2.2.2.1) (q.2.2.2.2.1) m_sight (q.2.2.2.2.2)) [(0, .ref (b 0)), (1, .int x1), (2, .int x2), (3, .int x3), (4, .int (q.1))] []) (fun q : (Nat → Int32) × (Nat → Int32) × (Nat → Int32) × (Nat → Int32) × (Nat → Int32) => At p l e rm_X9_askOf s m args below meth c D A 0 0 Q 9 115 (wl_X9_askOf cA b m_latest m_cells m_wide m_houses m_bowls m_dogs m_gone m_sights m_drawn m_cell m_house (q.1) m_bowl m_dog (q.2.1) (q.2.2.1) (q.2.2.2.1) m_sight (q.2.2.2.2)) [(0, .ref (b 0)), (3, .int x3)] []) r) : At p l e rm_X9_askOf s m args below meth c D A 0 0 Q 9 109 (wl_X9_askOf cA b m_latest m_cells m_wide m_houses m_bowls m_dogs m_gone m_sights m_drawn m_cell m_house m_settings m_bowl m_dog m_path m_steps m_line m_sight m_alike) [(0, .ref (b 0)), (1, .int x1), (2, .int x2), (3, .int x3), (4, .int x4)] [] := by
  intro H locs ls hP hD hS hl
  have hx := C.1
  have hb := C.2.1
  have hown := C.2.2.2.1
  have hts := C.2.2.2.2.1
  unfold f_X9_askOf_b109L39 at hf
  refine lv_iinc (pc := 109) (v := (x4 + 1)) (lv' := [(4, .int (x4 + 1)), (0, .ref (b 0)), (1, .int x1), (2, .int x2), (3, .int x3)]) hx hb dX9_askOf_109 hl (k := 4) rfl rfl (Nat.le_of_ble_eq_true rfl) rfl (fun ls hl => ?_)
  refine lv_goto (pc := 112) (tgt := 39) hx hb dX9_askOf_112 (by decide) ?_
  have hf := Option.some.inj hf
  subst hf
  exact hK H locs ls hP hD hS (lv_sub hl [1, 2, 3, 4, 0] rfl)
def f_X9_askOf_L71 (m_cells : Int32) (m_wide : Int32) (m_houses : Int32) (m_house : Nat → Int32) (m_line : Nat → Int32) (x1 : Int32) (x5 : Int32) (m_alike : Nat → Int32) : Option ((Int32 × (Nat → Int32)) ⊕ ((Nat → Int32))) :=
  if m_houses ≤ x5 then (some (.inr m_alike)) else (bind1 (f_X9_liesOf m_cells m_wide m_house m_line x1 x5) (fun r12 => gd (inb ((((4 : Int32) * x5) + r12) + (1 : Int32)) 32) (letv (((m_alike ((((4 : Int32) * x5) + r12) + (1 : Int32)).toNatClampNeg) + (1 : Int32))) (fun v13 => gd (inb ((((4 : Int32) * x5) + r12) + (1 : Int32)) 32) (some (.inl ((x5 + 1), (upd m_alike ((((4 : Int32) * x5) + r12) + (1 : Int32)).toNatClampNeg v13))))))))
set_option maxHeartbeats 4000000 in
set_option maxRecDepth 100000 in
theorem k_X9_askOf_L71 (C : Cx RX9 cX9_askOf 9 D cA p s m args c) (hA : ∀ q, s.heap.size ≤ q → A q) (b : Nat → Nat) (m_latest : Int32) (m_cells : Int32) (m_wide : Int32) (m_houses : Int32) (m_bowls : Int32) (m_dogs : Int32) (m_gone : Int32) (m_sights : Int32) (m_drawn : Int32) (m_cell : Nat → Int32) (m_house : Nat → Int32) (m_settings : Nat → Int32) (m_bowl : Nat → Int32) (m_dog : Nat → Int32) (m_path : Nat → Int32) (m_steps : Nat → Int32) (m_line : Nat → Int32) (m_sight : Nat → Int32) (x1 : Int32) (x2 : Int32) (x3 : Int32) (x4 : Int32) (x5 : Int32) (m_alike : Nat → Int32) (r : (Int32 × (Nat → Int32)) ⊕ ((Nat → Int32))) (hf : f_X9_askOf_L71 m_cells m_wide m_houses m_house m_line x1 x5 m_alike = some r) (hK : Sum.elim (fun q : Int32 × (Nat → Int32) => At p l e rm_X9_askOf s m args below meth c D A 0 0 Q 9 71 (wl_X9_askOf cA b m_latest m_cells m_wide m_houses m_bowls m_dogs m_gone m_sights m_drawn m_cell m_house m_settings m_bowl m_dog m_path m_steps m_line m_sight (q.2)) [(0, .ref (b 0)), (1, .int x1), (2, .int x2), (3, .int x3), (4, .int x4), (5, .int (q.1))] []) (fun q : (Nat → Int32) => At p l e rm_X9_askOf s m args below meth c D A 0 0 Q 9 109 (wl_X9_askOf cA b m_latest m_cells m_wide m_houses m_bowls m_dogs m_gone m_sights m_drawn m_cell m_house m_settings m_bowl m_dog m_path m_steps m_line m_sight q) [(0, .ref (b 0)), (1, .int x1), (2, .int x2), (3, .int x3), (4, .int x4)] []) r) : At p l e rm_X9_askOf s m args below meth c D A 0 0 Q 9 71 (wl_X9_askOf cA b m_latest m_cells m_wide m_houses m_bowls m_dogs m_gone m_sights m_drawn m_cell m_house m_settings m_bowl m_dog m_path m_steps m_line m_sight m_alike) [(0, .ref (b 0)), (1, .int x1), (2, .int x2), (3, .int x3), (4, .int x4), (5, .int x5)] [] := by
  intro H locs ls hP hD hS hl
  have hx := C.1
  have hb := C.2.1
  have hown := C.2.2.2.1
  have hts := C.2.2.2.2.1
  unfold f_X9_askOf_L71 at hf
  refine lv_iload (pc := 71) hx hb dX9_askOf_71 (lv_at hl 5 rfl) ?_
  refine lv_aload_n (pc := 73) hx hb dX9_askOf_73 rfl (lv_at hl 0 rfl) ?_
  refine g_get (pc := 74) C fg_X9_106 hP 0 rfl rfl dX9_askOf_74 ?_
  refine lv_icmp_ge (pc := 77) (tgt := 109) hx hb dX9_askOf_77 (by decide) (fun hc => ?_) (fun hc => ?_)
  · have hf := (if_pos hc).symm.trans hf
    have hf := Option.some.inj hf
    subst hf
    exact hK H locs ls hP hD hS (lv_sub hl [0, 1, 2, 3, 4] rfl)
  · have hf := (if_neg hc).symm.trans hf
    refine lv_aload_n (pc := 80) hx hb dX9_askOf_80 rfl (lv_at hl 0 rfl) ?_
    refine g_get (pc := 81) C fg_X9_55 hP 0 rfl rfl dX9_askOf_81 ?_
    refine lv_iconst (pc := 84) (v := 4) hx hb dX9_askOf_84 ic_4 ?_
    refine lv_iload (pc := 85) hx hb dX9_askOf_85 (lv_at hl 5 rfl) ?_
    refine lv_imul (pc := 87) hx hb dX9_askOf_87 ?_
    refine lv_aload_n (pc := 88) hx hb dX9_askOf_88 rfl (lv_at hl 0 rfl) ?_
    refine lv_iload_n (pc := 89) hx hb dX9_askOf_89 rfl (lv_at hl 1 rfl) ?_
    refine lv_iload (pc := 90) hx hb dX9_askOf_90 (lv_at hl 5 rfl) ?_
    obtain ⟨r12, hq, hf⟩ := bind1_some hf
    refine fin2_i (wl_X9_askOf cA b m_latest m_cells m_wide m_houses m_bowls m_dogs m_gone m_sights m_drawn m_cell m_house m_settings m_bowl m_dog m_path m_steps m_line m_sight m_alike) (run_V (rest := [.int ((4 : Int32) * x5), .ref (b 16)]) (pc := 92) (As := [.int x1, .int x5]) C mf_X9_198 (c_X9_liesOf l D cA b m_latest m_cells m_wide m_houses m_bowls m_dogs m_gone m_sights m_drawn m_house m_line x1 x5 r12 hq H.size) rfl rfl ⟨(Nat.le_of_ble_eq_true rfl), (Nat.le_of_ble_eq_true rfl)⟩ (preV_of C hP hD [0, 2, 8] rfl (pl_nd pv_161) 0 rfl rfl rfl) rfl hl.1 rfl (Nat.le_of_ble_eq_true rfl) dX9_askOf_92 ⟨Nat.zero_le _, Nat.zero_le _⟩) hP hD hS hA [0, 2, 8] [1, 3, 4, 5, 6, 7, 9, 10] rfl rfl rfl rfl pv_161 (fun H locs hP hS => ?_)
    refine lv_iadd (pc := 95) hx hb dX9_askOf_95 ?_
    refine lv_iconst (pc := 96) (v := 1) hx hb dX9_askOf_96 ic_1 ?_
    refine lv_iadd (pc := 97) hx hb dX9_askOf_97 ?_
    refine lv_dup2_11 (pc := 98) hx hb dX9_askOf_98 rfl rfl ?_
    obtain ⟨hg, hf⟩ := gd_some hf
    refine g_iald (pc := 99) C hP 10 rfl hg dX9_askOf_99 ?_
    refine lv_iconst (pc := 100) (v := 1) hx hb dX9_askOf_100 ic_1 ?_
    refine lv_iadd (pc := 101) hx hb dX9_askOf_101 ?_
    obtain ⟨v13, e_v13, hf⟩ := letv_some hf
    refine tp_i e_v13 ?_
    obtain ⟨hg, hf⟩ := gd_some hf
    refine g_iast (pc := 102) C hP hD hS 10 rfl hg dX9_askOf_102 (fun H locs hP hD hS => ?_)
    have hP : va_P D classes (wl_X9_askOf cA b m_latest m_cells m_wide m_houses m_bowls m_dogs m_gone m_sights m_drawn m_cell m_house m_settings m_bowl m_dog m_path m_steps m_line m_sight (upd m_alike ((((4 : Int32) * x5) + r12) + (1 : Int32)).toNatClampNeg v13)) H := hP
    have hD : va_D A (wl_X9_askOf cA b m_latest m_cells m_wide m_houses m_bowls m_dogs m_gone m_sights m_drawn m_cell m_house m_settings m_bowl m_dog m_path m_steps m_line m_sight (upd m_alike ((((4 : Int32) * x5) + r12) + (1 : Int32)).toNatClampNeg v13)) := hD
    refine lv_iinc (pc := 103) (v := (x5 + 1)) (lv' := [(5, .int (x5 + 1)), (0, .ref (b 0)), (1, .int x1), (2, .int x2), (3, .int x3), (4, .int x4)]) hx hb dX9_askOf_103 hl (k := 5) rfl rfl (Nat.le_of_ble_eq_true rfl) rfl (fun ls hl => ?_)
    refine lv_goto (pc := 106) (tgt := 71) hx hb dX9_askOf_106 (by decide) ?_
    have hf := Option.some.inj hf
    subst hf
    exact hK H locs ls hP hD hS (lv_sub hl [1, 2, 3, 4, 5, 0] rfl)
theorem kl_X9_askOf_L71 (C : Cx RX9 cX9_askOf 9 D cA p s m args c) (hA : ∀ q, s.heap.size ≤ q → A q) (b : Nat → Nat) (m_latest : Int32) (m_cells : Int32) (m_wide : Int32) (m_houses : Int32) (m_bowls : Int32) (m_dogs : Int32) (m_gone : Int32) (m_sights : Int32) (m_drawn : Int32) (m_cell : Nat → Int32) (m_house : Nat → Int32) (m_settings : Nat → Int32) (m_bowl : Nat → Int32) (m_dog : Nat → Int32) (m_path : Nat → Int32) (m_steps : Nat → Int32) (m_line : Nat → Int32) (m_sight : Nat → Int32) (x1 : Int32) (x2 : Int32) (x3 : Int32) (x4 : Int32) : ∀ (n : Nat) (q : Int32 × (Nat → Int32)) (z : ((Nat → Int32))), loopF (fun q : Int32 × (Nat → Int32) => f_X9_askOf_L71 m_cells m_wide m_houses m_house m_line x1 q.1 q.2) n q = some z → (fun q : (Nat → Int32) => At p l e rm_X9_askOf s m args below meth c D A 0 0 Q 9 109 (wl_X9_askOf cA b m_latest m_cells m_wide m_houses m_bowls m_dogs m_gone m_sights m_drawn m_cell m_house m_settings m_bowl m_dog m_path m_steps m_line m_sight q) [(0, .ref (b 0)), (1, .int x1), (2, .int x2), (3, .int x3), (4, .int x4)] []) z → At p l e rm_X9_askOf s m args below meth c D A 0 0 Q 9 71 (wl_X9_askOf cA b m_latest m_cells m_wide m_houses m_bowls m_dogs m_gone m_sights m_drawn m_cell m_house m_settings m_bowl m_dog m_path m_steps m_line m_sight (q.2)) [(0, .ref (b 0)), (1, .int x1), (2, .int x2), (3, .int x3), (4, .int x4), (5, .int (q.1))] [] :=
  loop_lem (WP := fun q : Int32 × (Nat → Int32) => At p l e rm_X9_askOf s m args below meth c D A 0 0 Q 9 71 (wl_X9_askOf cA b m_latest m_cells m_wide m_houses m_bowls m_dogs m_gone m_sights m_drawn m_cell m_house m_settings m_bowl m_dog m_path m_steps m_line m_sight (q.2)) [(0, .ref (b 0)), (1, .int x1), (2, .int x2), (3, .int x3), (4, .int x4), (5, .int (q.1))] []) (WE := (fun q : (Nat → Int32) => At p l e rm_X9_askOf s m args below meth c D A 0 0 Q 9 109 (wl_X9_askOf cA b m_latest m_cells m_wide m_houses m_bowls m_dogs m_gone m_sights m_drawn m_cell m_house m_settings m_bowl m_dog m_path m_steps m_line m_sight q) [(0, .ref (b 0)), (1, .int x1), (2, .int x2), (3, .int x3), (4, .int x4)] [])) (fun q r hf hK => k_X9_askOf_L71 C hA b m_latest m_cells m_wide m_houses m_bowls m_dogs m_gone m_sights m_drawn m_cell m_house m_settings m_bowl m_dog m_path m_steps m_line m_sight x1 x2 x3 x4 q.1 q.2 r hf hK)
def f_X9_askOf_L39 (m_cells : Int32) (m_wide : Int32) (m_houses : Int32) (m_bowls : Int32) (m_dogs : Int32) (m_gone : Int32) (m_cell : Nat → Int32) (m_house : Nat → Int32) (m_bowl : Nat → Int32) (m_dog : Nat → Int32) (x1 : Int32) (x2 : Int32) (x4 : Int32) (m_settings : Nat → Int32) (m_path : Nat → Int32) (m_steps : Nat → Int32) (m_line : Nat → Int32) (m_alike : Nat → Int32) : Option ((Int32 × (Nat → Int32) × (Nat → Int32) × (Nat → Int32) × (Nat → Int32) × (Nat → Int32)) ⊕ ((Nat → Int32) × (Nat → Int32) × (Nat → Int32) × (Nat → Int32) × (Nat → Int32))) :=
  if (6 : Int32) ≤ x4 then (some (.inr (m_settings, m_path, m_steps, m_line, m_alike))) else (bind1 (f_X9_isIn x2 x4) (fun r8 => if r8 = 0 then (f_X9_askOf_b109L39 m_cells m_wide m_houses m_bowls m_dogs m_gone m_cell m_house m_settings m_bowl m_dog m_path m_steps m_line m_alike x1 x2 x4) else (bind3 (f_X9_lives m_cells m_wide m_bowls m_dogs m_gone m_cell (upd m_settings (0 : Int32).toNatClampNeg x4) m_bowl m_dog m_path m_steps m_line x1) (fun c9 c10 c11 => bind1 (loopF (fun q : Int32 × (Nat → Int32) => f_X9_askOf_L71 m_cells m_wide m_houses m_house c11 x1 q.1 q.2) FU ((0 : Int32), m_alike)) (fun u14 => f_X9_askOf_b109L39 m_cells m_wide m_houses m_bowls m_dogs m_gone m_cell m_house (upd m_settings (0 : Int32).toNatClampNeg x4) m_bowl m_dog c9 c10 c11 u14 x1 x2 x4)))))
set_option maxHeartbeats 4000000 in
set_option maxRecDepth 100000 in
theorem k_X9_askOf_L39 (C : Cx RX9 cX9_askOf 9 D cA p s m args c) (hA : ∀ q, s.heap.size ≤ q → A q) (b : Nat → Nat) (m_latest : Int32) (m_cells : Int32) (m_wide : Int32) (m_houses : Int32) (m_bowls : Int32) (m_dogs : Int32) (m_gone : Int32) (m_sights : Int32) (m_drawn : Int32) (m_cell : Nat → Int32) (m_house : Nat → Int32) (m_bowl : Nat → Int32) (m_dog : Nat → Int32) (m_sight : Nat → Int32) (x1 : Int32) (x2 : Int32) (x3 : Int32) (x4 : Int32) (m_settings : Nat → Int32) (m_path : Nat → Int32) (m_steps : Nat → Int32) (m_line : Nat → Int32) (m_alike : Nat → Int32) (r : (Int32 × (Nat → Int32) × (Nat → Int32) × (Nat → Int32) × (Nat → Int32) × (Nat → Int32)) ⊕ ((Nat → Int32) × (Nat → Int32) × (Nat → Int32) × (Nat → Int32) × (Nat → Int32))) (hf : f_X9_askOf_L39 m_cells m_wide m_houses m_bowls m_dogs m_gone m_cell m_house m_bowl m_dog x1 x2 x4 m_settings m_path m_steps m_line m_alike = some r) (hK : Sum.elim (fun q : Int32 × (Nat → Int32) × (Nat → Int32) × (Nat → Int32) × (Nat → Int32) × (Nat → Int32) => At p l e rm_X9_askOf s m args below meth c D A 0 0 Q 9 39 (wl_X9_askOf cA b m_latest m_cells m_wide m_houses m_bowls m_dogs m_gone m_sights m_drawn m_cell m_house (q.2.1) m_bowl m_dog (q.2.2.1) (q.2.2.2.1) (q.2.2.2.2.1) m_sight (q.2.2.2.2.2)) [(0, .ref (b 0)), (1, .int x1), (2, .int x2), (3, .int x3), (4, .int (q.1))] []) (fun q : (Nat → Int32) × (Nat → Int32) × (Nat → Int32) × (Nat → Int32) × (Nat → Int32) => At p l e rm_X9_askOf s m args below meth c D A 0 0 Q 9 115 (wl_X9_askOf cA b m_latest m_cells m_wide m_houses m_bowls m_dogs m_gone m_sights m_drawn m_cell m_house (q.1) m_bowl m_dog (q.2.1) (q.2.2.1) (q.2.2.2.1) m_sight (q.2.2.2.2)) [(0, .ref (b 0)), (3, .int x3)] []) r) : At p l e rm_X9_askOf s m args below meth c D A 0 0 Q 9 39 (wl_X9_askOf cA b m_latest m_cells m_wide m_houses m_bowls m_dogs m_gone m_sights m_drawn m_cell m_house m_settings m_bowl m_dog m_path m_steps m_line m_sight m_alike) [(0, .ref (b 0)), (1, .int x1), (2, .int x2), (3, .int x3), (4, .int x4)] [] := by
  intro H locs ls hP hD hS hl
  have hx := C.1
  have hb := C.2.1
  have hown := C.2.2.2.1
  have hts := C.2.2.2.2.1
  unfold f_X9_askOf_L39 at hf
  refine lv_iload (pc := 39) hx hb dX9_askOf_39 (lv_at hl 4 rfl) ?_
  refine lv_bipush (pc := 41) (v := 6) hx hb dX9_askOf_41 bp_6 ?_
  refine lv_icmp_ge (pc := 43) (tgt := 115) hx hb dX9_askOf_43 (by decide) (fun hc => ?_) (fun hc => ?_)
  · have hf := (if_pos hc).symm.trans hf
    have hf := Option.some.inj hf
    subst hf
    exact hK H locs ls hP hD hS (lv_sub hl [0, 3] rfl)
  · have hf := (if_neg hc).symm.trans hf
    refine lv_iload_n (pc := 46) hx hb dX9_askOf_46 rfl (lv_at hl 2 rfl) ?_
    refine lv_iload (pc := 47) hx hb dX9_askOf_47 (lv_at hl 4 rfl) ?_
    obtain ⟨r8, hq, hf⟩ := bind1_some hf
    refine fin2_i (wl_X9_askOf cA b m_latest m_cells m_wide m_houses m_bowls m_dogs m_gone m_sights m_drawn m_cell m_house m_settings m_bowl m_dog m_path m_steps m_line m_sight m_alike) (run_S (rest := []) (pc := 49) (As := [.int x2, .int x4]) C mf_X9_155 (c_X9_isIn l D cA  x2 x4 r8 hq H.size) rfl rfl ⟨(Nat.le_of_ble_eq_true rfl), (Nat.le_of_ble_eq_true rfl)⟩ (preS_of C hP hD [] rfl (pl_nd pv_139)) rfl hl.1 rfl (Nat.le_of_ble_eq_true rfl) dX9_askOf_49 ⟨Nat.zero_le _, Nat.zero_le _⟩) hP hD hS hA [] [0, 1, 2, 3, 4, 5, 6, 7, 8, 9, 10] rfl rfl rfl rfl pv_139 (fun H locs hP hS => ?_)
    refine lv_if_eq (pc := 52) (tgt := 109) hx hb dX9_askOf_52 (by decide) (fun hc => ?_) (fun hc => ?_)
    · have hf := (if_pos hc).symm.trans hf
      exact k_X9_askOf_b109L39 C hA b m_latest m_cells m_wide m_houses m_bowls m_dogs m_gone m_sights m_drawn m_cell m_house m_settings m_bowl m_dog m_path m_steps m_line m_sight m_alike x1 x2 x3 x4 r hf hK H locs ls hP hD hS hl
    · have hf := (if_neg hc).symm.trans hf
      refine lv_aload_n (pc := 55) hx hb dX9_askOf_55 rfl (lv_at hl 0 rfl) ?_
      refine g_get (pc := 56) C fg_X9_34 hP 0 rfl rfl dX9_askOf_56 ?_
      refine lv_iconst (pc := 59) (v := 0) hx hb dX9_askOf_59 ic_0 ?_
      refine lv_iload (pc := 60) hx hb dX9_askOf_60 (lv_at hl 4 rfl) ?_
      refine g_iast (pc := 62) C hP hD hS 3 rfl (by decide) dX9_askOf_62 (fun H locs hP hD hS => ?_)
      have hP : va_P D classes (wl_X9_askOf cA b m_latest m_cells m_wide m_houses m_bowls m_dogs m_gone m_sights m_drawn m_cell m_house (upd m_settings (0 : Int32).toNatClampNeg x4) m_bowl m_dog m_path m_steps m_line m_sight m_alike) H := hP
      have hD : va_D A (wl_X9_askOf cA b m_latest m_cells m_wide m_houses m_bowls m_dogs m_gone m_sights m_drawn m_cell m_house (upd m_settings (0 : Int32).toNatClampNeg x4) m_bowl m_dog m_path m_steps m_line m_sight m_alike) := hD
      refine lv_aload_n (pc := 63) hx hb dX9_askOf_63 rfl (lv_at hl 0 rfl) ?_
      refine lv_iload_n (pc := 64) hx hb dX9_askOf_64 rfl (lv_at hl 1 rfl) ?_
      obtain ⟨c9, c10, c11, hq, hf⟩ := bind3_some hf
      refine fin2_v (wl_X9_askOf cA b m_latest m_cells m_wide m_houses m_bowls m_dogs m_gone m_sights m_drawn m_cell m_house (upd m_settings (0 : Int32).toNatClampNeg x4) m_bowl m_dog c9 c10 c11 m_sight m_alike) (run_V (rest := []) (pc := 65) (As := [.int x1]) C mf_X9_178 (c_X9_lives l D cA b m_latest m_cells m_wide m_houses m_bowls m_dogs m_gone m_sights m_drawn m_cell (upd m_settings (0 : Int32).toNatClampNeg x4) m_bowl m_dog m_path m_steps m_line x1 (c9, c10, c11) hq H.size) rfl rfl ⟨(Nat.le_of_ble_eq_true rfl), (Nat.le_of_ble_eq_true rfl)⟩ (preV_of C hP hD [0, 1, 3, 4, 5, 6, 7, 8] rfl (pl_nd pv_160) 0 rfl rfl rfl) rfl hl.1 rfl (Nat.le_of_ble_eq_true rfl) dX9_askOf_65 ⟨Nat.zero_le _, Nat.zero_le _⟩) hP hD hS hA [0, 1, 3, 4, 5, 6, 7, 8] [2, 9, 10] rfl rfl rfl rfl pv_160 (fun H locs hP hS => ?_)
      have hD : va_D A (wl_X9_askOf cA b m_latest m_cells m_wide m_houses m_bowls m_dogs m_gone m_sights m_drawn m_cell m_house (upd m_settings (0 : Int32).toNatClampNeg x4) m_bowl m_dog c9 c10 c11 m_sight m_alike) := vd_a hD rfl
      refine lv_iconst (pc := 68) (v := 0) hx hb dX9_askOf_68 ic_0 ?_
      refine lv_istore (pc := 69) (lv' := [(5, .int (0 : Int32)), (0, .ref (b 0)), (1, .int x1), (2, .int x2), (3, .int x3), (4, .int x4)]) hx hb dX9_askOf_69 hl (Nat.le_of_ble_eq_true rfl) rfl (fun ls hl => ?_)
      obtain ⟨u14, hq, hf⟩ := bind1_some hf
      refine kl_X9_askOf_L71 C hA b m_latest m_cells m_wide m_houses m_bowls m_dogs m_gone m_sights m_drawn m_cell m_house (upd m_settings (0 : Int32).toNatClampNeg x4) m_bowl m_dog c9 c10 c11 m_sight x1 x2 x3 x4 FU ((0 : Int32), m_alike) _ hq ?_ H locs ls hP hD hS (lv_sub hl [1, 2, 3, 4, 5, 0] rfl)
      intro H locs ls hP hD hS hl
      have hP : va_P D classes (wl_X9_askOf cA b m_latest m_cells m_wide m_houses m_bowls m_dogs m_gone m_sights m_drawn m_cell m_house (upd m_settings (0 : Int32).toNatClampNeg x4) m_bowl m_dog c9 c10 c11 m_sight u14) H := hP
      have hD : va_D A (wl_X9_askOf cA b m_latest m_cells m_wide m_houses m_bowls m_dogs m_gone m_sights m_drawn m_cell m_house (upd m_settings (0 : Int32).toNatClampNeg x4) m_bowl m_dog c9 c10 c11 m_sight u14) := hD
      have hl : lv_has ls 9 [(0, .ref (b 0)), (1, .int x1), (2, .int x2), (3, .int x3), (4, .int x4)] := hl
      exact k_X9_askOf_b109L39 C hA b m_latest m_cells m_wide m_houses m_bowls m_dogs m_gone m_sights m_drawn m_cell m_house (upd m_settings (0 : Int32).toNatClampNeg x4) m_bowl m_dog c9 c10 c11 m_sight u14 x1 x2 x3 x4 r hf hK H locs ls hP hD hS hl
theorem kl_X9_askOf_L39 (C : Cx RX9 cX9_askOf 9 D cA p s m args c) (hA : ∀ q, s.heap.size ≤ q → A q) (b : Nat → Nat) (m_latest : Int32) (m_cells : Int32) (m_wide : Int32) (m_houses : Int32) (m_bowls : Int32) (m_dogs : Int32) (m_gone : Int32) (m_sights : Int32) (m_drawn : Int32) (m_cell : Nat → Int32) (m_house : Nat → Int32) (m_bowl : Nat → Int32) (m_dog : Nat → Int32) (m_sight : Nat → Int32) (x1 : Int32) (x2 : Int32) (x3 : Int32) : ∀ (n : Nat) (q : Int32 × (Nat → Int32) × (Nat → Int32) × (Nat → Int32) × (Nat → Int32) × (Nat → Int32)) (z : ((Nat → Int32) × (Nat → Int32) × (Nat → Int32) × (Nat → Int32) × (Nat → Int32))), loopF (fun q : Int32 × (Nat → Int32) × (Nat → Int32) × (Nat → Int32) × (Nat → Int32) × (Nat → Int32) => f_X9_askOf_L39 m_cells m_wide m_houses m_bowls m_dogs m_gone m_cell m_house m_bowl m_dog x1 x2 q.1 q.2.1 q.2.2.1 q.2.2.2.1 q.2.2.2.2.1 q.2.2.2.2.2) n q = some z → (fun q : (Nat → Int32) × (Nat → Int32) × (Nat → Int32) × (Nat → Int32) × (Nat → Int32) => At p l e rm_X9_askOf s m args below meth c D A 0 0 Q 9 115 (wl_X9_askOf cA b m_latest m_cells m_wide m_houses m_bowls m_dogs m_gone m_sights m_drawn m_cell m_house (q.1) m_bowl m_dog (q.2.1) (q.2.2.1) (q.2.2.2.1) m_sight (q.2.2.2.2)) [(0, .ref (b 0)), (3, .int x3)] []) z → At p l e rm_X9_askOf s m args below meth c D A 0 0 Q 9 39 (wl_X9_askOf cA b m_latest m_cells m_wide m_houses m_bowls m_dogs m_gone m_sights m_drawn m_cell m_house (q.2.1) m_bowl m_dog (q.2.2.1) (q.2.2.2.1) (q.2.2.2.2.1) m_sight (q.2.2.2.2.2)) [(0, .ref (b 0)), (1, .int x1), (2, .int x2), (3, .int x3), (4, .int (q.1))] [] :=
  loop_lem (WP := fun q : Int32 × (Nat → Int32) × (Nat → Int32) × (Nat → Int32) × (Nat → Int32) × (Nat → Int32) => At p l e rm_X9_askOf s m args below meth c D A 0 0 Q 9 39 (wl_X9_askOf cA b m_latest m_cells m_wide m_houses m_bowls m_dogs m_gone m_sights m_drawn m_cell m_house (q.2.1) m_bowl m_dog (q.2.2.1) (q.2.2.2.1) (q.2.2.2.2.1) m_sight (q.2.2.2.2.2)) [(0, .ref (b 0)), (1, .int x1), (2, .int x2), (3, .int x3), (4, .int (q.1))] []) (WE := (fun q : (Nat → Int32) × (Nat → Int32) × (Nat → Int32) × (Nat → Int32) × (Nat → Int32) => At p l e rm_X9_askOf s m args below meth c D A 0 0 Q 9 115 (wl_X9_askOf cA b m_latest m_cells m_wide m_houses m_bowls m_dogs m_gone m_sights m_drawn m_cell m_house (q.1) m_bowl m_dog (q.2.1) (q.2.2.1) (q.2.2.2.1) m_sight (q.2.2.2.2)) [(0, .ref (b 0)), (3, .int x3)] [])) (fun q r hf hK => k_X9_askOf_L39 C hA b m_latest m_cells m_wide m_houses m_bowls m_dogs m_gone m_sights m_drawn m_cell m_house m_bowl m_dog m_sight x1 x2 x3 q.1 q.2.1 q.2.2.1 q.2.2.2.1 q.2.2.2.2.1 q.2.2.2.2.2 r hf hK)
def f_X9_askOf_b186L146 (m_alike : Nat → Int32) (x6 : Int32) (x8 : Int32) (s0 : Int32) : Option ((Int32 × Int32) ⊕ (Int32)) :=
  some (.inl (s0, (x8 + 1)))
set_option maxHeartbeats 4000000 in
set_option maxRecDepth 100000 in
theorem k_X9_askOf_b186L146 (C : Cx RX9 cX9_askOf 9 D cA p s m args c) (hA : ∀ q, s.heap.size ≤ q → A q) (b : Nat → Nat) (m_latest : Int32) (m_cells : Int32) (m_wide : Int32) (m_houses : Int32) (m_bowls : Int32) (m_dogs : Int32) (m_gone : Int32) (m_sights : Int32) (m_drawn : Int32) (m_cell : Nat → Int32) (m_house : Nat → Int32) (m_settings : Nat → Int32) (m_bowl : Nat → Int32) (m_dog : Nat → Int32) (m_path : Nat → Int32) (m_steps : Nat → Int32) (m_line : Nat → Int32) (m_sight : Nat → Int32) (m_alike : Nat → Int32) (x4 : Int32) (x5 : Int32) (x6 : Int32) (x8 : Int32) (s0 : Int32) (r : (Int32 × Int32) ⊕ (Int32)) (hf : f_X9_askOf_b186L146 m_alike x6 x8 s0 = some r) (hK : Sum.elim (fun q : Int32 × Int32 => At p l e rm_X9_askOf s m args below meth c D A 0 0 Q 9 146 (wl_X9_askOf cA b m_latest m_cells m_wide m_houses m_bowls m_dogs m_gone m_sights m_drawn m_cell m_house m_settings m_bowl m_dog m_path m_steps m_line m_sight m_alike) [(0, .ref (b 0)), (4, .int x4), (5, .int x5), (6, .int x6), (7, .int (q.1)), (8, .int (q.2))] []) (fun q : Int32 => At p l e rm_X9_askOf s m args below meth c D A 0 0 Q 9 194 (wl_X9_askOf cA b m_latest m_cells m_wide m_houses m_bowls m_dogs m_gone m_sights m_drawn m_cell m_house m_settings m_bowl m_dog m_path m_steps m_line m_sight m_alike) [(0, .ref (b 0)), (4, .int x4), (5, .int x5), (6, .int x6), (7, .int q)] []) r) : At p l e rm_X9_askOf s m args below meth c D A 0 0 Q 9 186 (wl_X9_askOf cA b m_latest m_cells m_wide m_houses m_bowls m_dogs m_gone m_sights m_drawn m_cell m_house m_settings m_bowl m_dog m_path m_steps m_line m_sight m_alike) [(0, .ref (b 0)), (4, .int x4), (5, .int x5), (6, .int x6), (8, .int x8)] [.int s0] := by
  intro H locs ls hP hD hS hl
  have hx := C.1
  have hb := C.2.1
  have hown := C.2.2.2.1
  have hts := C.2.2.2.2.1
  unfold f_X9_askOf_b186L146 at hf
  refine lv_istore (pc := 186) (lv' := [(7, .int s0), (0, .ref (b 0)), (4, .int x4), (5, .int x5), (6, .int x6), (8, .int x8)]) hx hb dX9_askOf_186 hl (Nat.le_of_ble_eq_true rfl) rfl (fun ls hl => ?_)
  refine lv_iinc (pc := 188) (v := (x8 + 1)) (lv' := [(8, .int (x8 + 1)), (7, .int s0), (0, .ref (b 0)), (4, .int x4), (5, .int x5), (6, .int x6)]) hx hb dX9_askOf_188 hl (k := 5) rfl rfl (Nat.le_of_ble_eq_true rfl) rfl (fun ls hl => ?_)
  refine lv_goto (pc := 191) (tgt := 146) hx hb dX9_askOf_191 (by decide) ?_
  have hf := Option.some.inj hf
  subst hf
  exact hK H locs ls hP hD hS (lv_sub hl [2, 3, 4, 5, 1, 0] rfl)
def f_X9_askOf_L146 (m_alike : Nat → Int32) (x6 : Int32) (x7 : Int32) (x8 : Int32) : Option ((Int32 × Int32) ⊕ (Int32)) :=
  if (4 : Int32) ≤ x8 then (some (.inr x7)) else (gd (inb (((4 : Int32) * x6) + x8) 32) (if (m_alike (((4 : Int32) * x6) + x8).toNatClampNeg) ≤ x7 then (f_X9_askOf_b186L146 m_alike x6 x8 x7) else (gd (inb (((4 : Int32) * x6) + x8) 32) (f_X9_askOf_b186L146 m_alike x6 x8 (m_alike (((4 : Int32) * x6) + x8).toNatClampNeg)))))
set_option maxHeartbeats 4000000 in
set_option maxRecDepth 100000 in
theorem k_X9_askOf_L146 (C : Cx RX9 cX9_askOf 9 D cA p s m args c) (hA : ∀ q, s.heap.size ≤ q → A q) (b : Nat → Nat) (m_latest : Int32) (m_cells : Int32) (m_wide : Int32) (m_houses : Int32) (m_bowls : Int32) (m_dogs : Int32) (m_gone : Int32) (m_sights : Int32) (m_drawn : Int32) (m_cell : Nat → Int32) (m_house : Nat → Int32) (m_settings : Nat → Int32) (m_bowl : Nat → Int32) (m_dog : Nat → Int32) (m_path : Nat → Int32) (m_steps : Nat → Int32) (m_line : Nat → Int32) (m_sight : Nat → Int32) (m_alike : Nat → Int32) (x4 : Int32) (x5 : Int32) (x6 : Int32) (x7 : Int32) (x8 : Int32) (r : (Int32 × Int32) ⊕ (Int32)) (hf : f_X9_askOf_L146 m_alike x6 x7 x8 = some r) (hK : Sum.elim (fun q : Int32 × Int32 => At p l e rm_X9_askOf s m args below meth c D A 0 0 Q 9 146 (wl_X9_askOf cA b m_latest m_cells m_wide m_houses m_bowls m_dogs m_gone m_sights m_drawn m_cell m_house m_settings m_bowl m_dog m_path m_steps m_line m_sight m_alike) [(0, .ref (b 0)), (4, .int x4), (5, .int x5), (6, .int x6), (7, .int (q.1)), (8, .int (q.2))] []) (fun q : Int32 => At p l e rm_X9_askOf s m args below meth c D A 0 0 Q 9 194 (wl_X9_askOf cA b m_latest m_cells m_wide m_houses m_bowls m_dogs m_gone m_sights m_drawn m_cell m_house m_settings m_bowl m_dog m_path m_steps m_line m_sight m_alike) [(0, .ref (b 0)), (4, .int x4), (5, .int x5), (6, .int x6), (7, .int q)] []) r) : At p l e rm_X9_askOf s m args below meth c D A 0 0 Q 9 146 (wl_X9_askOf cA b m_latest m_cells m_wide m_houses m_bowls m_dogs m_gone m_sights m_drawn m_cell m_house m_settings m_bowl m_dog m_path m_steps m_line m_sight m_alike) [(0, .ref (b 0)), (4, .int x4), (5, .int x5), (6, .int x6), (7, .int x7), (8, .int x8)] [] := by
  intro H locs ls hP hD hS hl
  have hx := C.1
  have hb := C.2.1
  have hown := C.2.2.2.1
  have hts := C.2.2.2.2.1
  unfold f_X9_askOf_L146 at hf
  refine lv_iload (pc := 146) hx hb dX9_askOf_146 (lv_at hl 5 rfl) ?_
  refine lv_iconst (pc := 148) (v := 4) hx hb dX9_askOf_148 ic_4 ?_
  refine lv_icmp_ge (pc := 149) (tgt := 194) hx hb dX9_askOf_149 (by decide) (fun hc => ?_) (fun hc => ?_)
  · have hf := (if_pos hc).symm.trans hf
    have hf := Option.some.inj hf
    subst hf
    exact hK H locs ls hP hD hS (lv_sub hl [0, 1, 2, 3, 4] rfl)
  · have hf := (if_neg hc).symm.trans hf
    refine lv_aload_n (pc := 152) hx hb dX9_askOf_152 rfl (lv_at hl 0 rfl) ?_
    refine g_get (pc := 153) C fg_X9_55 hP 0 rfl rfl dX9_askOf_153 ?_
    refine lv_iconst (pc := 156) (v := 4) hx hb dX9_askOf_156 ic_4 ?_
    refine lv_iload (pc := 157) hx hb dX9_askOf_157 (lv_at hl 3 rfl) ?_
    refine lv_imul (pc := 159) hx hb dX9_askOf_159 ?_
    refine lv_iload (pc := 160) hx hb dX9_askOf_160 (lv_at hl 5 rfl) ?_
    refine lv_iadd (pc := 162) hx hb dX9_askOf_162 ?_
    obtain ⟨hg, hf⟩ := gd_some hf
    refine g_iald (pc := 163) C hP 10 rfl hg dX9_askOf_163 ?_
    refine lv_iload (pc := 164) hx hb dX9_askOf_164 (lv_at hl 4 rfl) ?_
    refine lv_icmp_le (pc := 166) (tgt := 184) hx hb dX9_askOf_166 (by decide) (fun hc => ?_) (fun hc => ?_)
    · have hf := (if_pos hc).symm.trans hf
      refine lv_iload (pc := 184) hx hb dX9_askOf_184 (lv_at hl 4 rfl) ?_
      exact k_X9_askOf_b186L146 C hA b m_latest m_cells m_wide m_houses m_bowls m_dogs m_gone m_sights m_drawn m_cell m_house m_settings m_bowl m_dog m_path m_steps m_line m_sight m_alike x4 x5 x6 x8 x7 r hf hK H locs ls hP hD hS (lv_sub hl [0, 1, 2, 3, 5] rfl)
    · have hf := (if_neg hc).symm.trans hf
      refine lv_aload_n (pc := 169) hx hb dX9_askOf_169 rfl (lv_at hl 0 rfl) ?_
      refine g_get (pc := 170) C fg_X9_55 hP 0 rfl rfl dX9_askOf_170 ?_
      refine lv_iconst (pc := 173) (v := 4) hx hb dX9_askOf_173 ic_4 ?_
      refine lv_iload (pc := 174) hx hb dX9_askOf_174 (lv_at hl 3 rfl) ?_
      refine lv_imul (pc := 176) hx hb dX9_askOf_176 ?_
      refine lv_iload (pc := 177) hx hb dX9_askOf_177 (lv_at hl 5 rfl) ?_
      refine lv_iadd (pc := 179) hx hb dX9_askOf_179 ?_
      obtain ⟨hg, hf⟩ := gd_some hf
      refine g_iald (pc := 180) C hP 10 rfl hg dX9_askOf_180 ?_
      refine lv_goto (pc := 181) (tgt := 186) hx hb dX9_askOf_181 (by decide) ?_
      exact k_X9_askOf_b186L146 C hA b m_latest m_cells m_wide m_houses m_bowls m_dogs m_gone m_sights m_drawn m_cell m_house m_settings m_bowl m_dog m_path m_steps m_line m_sight m_alike x4 x5 x6 x8 (m_alike (((4 : Int32) * x6) + x8).toNatClampNeg) r hf hK H locs ls hP hD hS (lv_sub hl [0, 1, 2, 3, 5] rfl)
theorem kl_X9_askOf_L146 (C : Cx RX9 cX9_askOf 9 D cA p s m args c) (hA : ∀ q, s.heap.size ≤ q → A q) (b : Nat → Nat) (m_latest : Int32) (m_cells : Int32) (m_wide : Int32) (m_houses : Int32) (m_bowls : Int32) (m_dogs : Int32) (m_gone : Int32) (m_sights : Int32) (m_drawn : Int32) (m_cell : Nat → Int32) (m_house : Nat → Int32) (m_settings : Nat → Int32) (m_bowl : Nat → Int32) (m_dog : Nat → Int32) (m_path : Nat → Int32) (m_steps : Nat → Int32) (m_line : Nat → Int32) (m_sight : Nat → Int32) (m_alike : Nat → Int32) (x4 : Int32) (x5 : Int32) (x6 : Int32) : ∀ (n : Nat) (q : Int32 × Int32) (z : (Int32)), loopF (fun q : Int32 × Int32 => f_X9_askOf_L146 m_alike x6 q.1 q.2) n q = some z → (fun q : Int32 => At p l e rm_X9_askOf s m args below meth c D A 0 0 Q 9 194 (wl_X9_askOf cA b m_latest m_cells m_wide m_houses m_bowls m_dogs m_gone m_sights m_drawn m_cell m_house m_settings m_bowl m_dog m_path m_steps m_line m_sight m_alike) [(0, .ref (b 0)), (4, .int x4), (5, .int x5), (6, .int x6), (7, .int q)] []) z → At p l e rm_X9_askOf s m args below meth c D A 0 0 Q 9 146 (wl_X9_askOf cA b m_latest m_cells m_wide m_houses m_bowls m_dogs m_gone m_sights m_drawn m_cell m_house m_settings m_bowl m_dog m_path m_steps m_line m_sight m_alike) [(0, .ref (b 0)), (4, .int x4), (5, .int x5), (6, .int x6), (7, .int (q.1)), (8, .int (q.2))] [] :=
  loop_lem (WP := fun q : Int32 × Int32 => At p l e rm_X9_askOf s m args below meth c D A 0 0 Q 9 146 (wl_X9_askOf cA b m_latest m_cells m_wide m_houses m_bowls m_dogs m_gone m_sights m_drawn m_cell m_house m_settings m_bowl m_dog m_path m_steps m_line m_sight m_alike) [(0, .ref (b 0)), (4, .int x4), (5, .int x5), (6, .int x6), (7, .int (q.1)), (8, .int (q.2))] []) (WE := (fun q : Int32 => At p l e rm_X9_askOf s m args below meth c D A 0 0 Q 9 194 (wl_X9_askOf cA b m_latest m_cells m_wide m_houses m_bowls m_dogs m_gone m_sights m_drawn m_cell m_house m_settings m_bowl m_dog m_path m_steps m_line m_sight m_alike) [(0, .ref (b 0)), (4, .int x4), (5, .int x5), (6, .int x6), (7, .int q)] [])) (fun q r hf hK => k_X9_askOf_L146 C hA b m_latest m_cells m_wide m_houses m_bowls m_dogs m_gone m_sights m_drawn m_cell m_house m_settings m_bowl m_dog m_path m_steps m_line m_sight m_alike x4 x5 x6 q.1 q.2 r hf hK)
def f_X9_askOf_b240L131 (m_houses : Int32) (m_alike : Nat → Int32) (x4 : Int32) (x6 : Int32) (s0 : Int32) : Option ((Int32 × Int32 × Int32) ⊕ (Int32)) :=
  some (.inl (x4, s0, (x6 + 1)))
set_option maxHeartbeats 4000000 in
set_option maxRecDepth 100000 in
theorem k_X9_askOf_b240L131 (C : Cx RX9 cX9_askOf 9 D cA p s m args c) (hA : ∀ q, s.heap.size ≤ q → A q) (b : Nat → Nat) (m_latest : Int32) (m_cells : Int32) (m_wide : Int32) (m_houses : Int32) (m_bowls : Int32) (m_dogs : Int32) (m_gone : Int32) (m_sights : Int32) (m_drawn : Int32) (m_cell : Nat → Int32) (m_house : Nat → Int32) (m_settings : Nat → Int32) (m_bowl : Nat → Int32) (m_dog : Nat → Int32) (m_path : Nat → Int32) (m_steps : Nat → Int32) (m_line : Nat → Int32) (m_sight : Nat → Int32) (m_alike : Nat → Int32) (x4 : Int32) (x6 : Int32) (s0 : Int32) (r : (Int32 × Int32 × Int32) ⊕ (Int32)) (hf : f_X9_askOf_b240L131 m_houses m_alike x4 x6 s0 = some r) (hK : Sum.elim (fun q : Int32 × Int32 × Int32 => At p l e rm_X9_askOf s m args below meth c D A 0 0 Q 9 131 (wl_X9_askOf cA b m_latest m_cells m_wide m_houses m_bowls m_dogs m_gone m_sights m_drawn m_cell m_house m_settings m_bowl m_dog m_path m_steps m_line m_sight m_alike) [(0, .ref (b 0)), (4, .int (q.1)), (5, .int (q.2.1)), (6, .int (q.2.2))] []) (fun q : Int32 => At p l e rm_X9_askOf s m args below meth c D A 0 0 Q 9 248 (wl_X9_askOf cA b m_latest m_cells m_wide m_houses m_bowls m_dogs m_gone m_sights m_drawn m_cell m_house m_settings m_bowl m_dog m_path m_steps m_line m_sight m_alike) [(4, .int q)] []) r) : At p l e rm_X9_askOf s m args below meth c D A 0 0 Q 9 240 (wl_X9_askOf cA b m_latest m_cells m_wide m_houses m_bowls m_dogs m_gone m_sights m_drawn m_cell m_house m_settings m_bowl m_dog m_path m_steps m_line m_sight m_alike) [(0, .ref (b 0)), (4, .int x4), (6, .int x6)] [.int s0] := by
  intro H locs ls hP hD hS hl
  have hx := C.1
  have hb := C.2.1
  have hown := C.2.2.2.1
  have hts := C.2.2.2.2.1
  unfold f_X9_askOf_b240L131 at hf
  refine lv_istore (pc := 240) (lv' := [(5, .int s0), (0, .ref (b 0)), (4, .int x4), (6, .int x6)]) hx hb dX9_askOf_240 hl (Nat.le_of_ble_eq_true rfl) rfl (fun ls hl => ?_)
  refine lv_iinc (pc := 242) (v := (x6 + 1)) (lv' := [(6, .int (x6 + 1)), (5, .int s0), (0, .ref (b 0)), (4, .int x4)]) hx hb dX9_askOf_242 hl (k := 3) rfl rfl (Nat.le_of_ble_eq_true rfl) rfl (fun ls hl => ?_)
  refine lv_goto (pc := 245) (tgt := 131) hx hb dX9_askOf_245 (by decide) ?_
  have hf := Option.some.inj hf
  subst hf
  exact hK H locs ls hP hD hS (lv_sub hl [2, 3, 1, 0] rfl)
def f_X9_askOf_b226L131 (m_houses : Int32) (m_alike : Nat → Int32) (x5 : Int32) (x6 : Int32) (x7 : Int32) (x8 : Int32) (s0 : Int32) : Option ((Int32 × Int32 × Int32) ⊕ (Int32)) :=
  if x8 = 0 then (f_X9_askOf_b240L131 m_houses m_alike s0 x6 x5) else (f_X9_askOf_b240L131 m_houses m_alike s0 x6 x7)
set_option maxHeartbeats 4000000 in
set_option maxRecDepth 100000 in
theorem k_X9_askOf_b226L131 (C : Cx RX9 cX9_askOf 9 D cA p s m args c) (hA : ∀ q, s.heap.size ≤ q → A q) (b : Nat → Nat) (m_latest : Int32) (m_cells : Int32) (m_wide : Int32) (m_houses : Int32) (m_bowls : Int32) (m_dogs : Int32) (m_gone : Int32) (m_sights : Int32) (m_drawn : Int32) (m_cell : Nat → Int32) (m_house : Nat → Int32) (m_settings : Nat → Int32) (m_bowl : Nat → Int32) (m_dog : Nat → Int32) (m_path : Nat → Int32) (m_steps : Nat → Int32) (m_line : Nat → Int32) (m_sight : Nat → Int32) (m_alike : Nat → Int32) (x5 : Int32) (x6 : Int32) (x7 : Int32) (x8 : Int32) (s0 : Int32) (r : (Int32 × Int32 × Int32) ⊕ (Int32)) (hf : f_X9_askOf_b226L131 m_houses m_alike x5 x6 x7 x8 s0 = some r) (hK : Sum.elim (fun q : Int32 × Int32 × Int32 => At p l e rm_X9_askOf s m args below meth c D A 0 0 Q 9 131 (wl_X9_askOf cA b m_latest m_cells m_wide m_houses m_bowls m_dogs m_gone m_sights m_drawn m_cell m_house m_settings m_bowl m_dog m_path m_steps m_line m_sight m_alike) [(0, .ref (b 0)), (4, .int (q.1)), (5, .int (q.2.1)), (6, .int (q.2.2))] []) (fun q : Int32 => At p l e rm_X9_askOf s m args below meth c D A 0 0 Q 9 248 (wl_X9_askOf cA b m_latest m_cells m_wide m_houses m_bowls m_dogs m_gone m_sights m_drawn m_cell m_house m_settings m_bowl m_dog m_path m_steps m_line m_sight m_alike) [(4, .int q)] []) r) : At p l e rm_X9_askOf s m args below meth c D A 0 0 Q 9 226 (wl_X9_askOf cA b m_latest m_cells m_wide m_houses m_bowls m_dogs m_gone m_sights m_drawn m_cell m_house m_settings m_bowl m_dog m_path m_steps m_line m_sight m_alike) [(0, .ref (b 0)), (5, .int x5), (6, .int x6), (7, .int x7), (8, .int x8)] [.int s0] := by
  intro H locs ls hP hD hS hl
  have hx := C.1
  have hb := C.2.1
  have hown := C.2.2.2.1
  have hts := C.2.2.2.2.1
  unfold f_X9_askOf_b226L131 at hf
  refine lv_istore (pc := 226) (lv' := [(4, .int s0), (0, .ref (b 0)), (5, .int x5), (6, .int x6), (7, .int x7), (8, .int x8)]) hx hb dX9_askOf_226 hl (Nat.le_of_ble_eq_true rfl) rfl (fun ls hl => ?_)
  refine lv_iload (pc := 228) hx hb dX9_askOf_228 (lv_at hl 5 rfl) ?_
  refine lv_if_eq (pc := 230) (tgt := 238) hx hb dX9_askOf_230 (by decide) (fun hc => ?_) (fun hc => ?_)
  · have hf := (if_pos hc).symm.trans hf
    refine lv_iload (pc := 238) hx hb dX9_askOf_238 (lv_at hl 2 rfl) ?_
    exact k_X9_askOf_b240L131 C hA b m_latest m_cells m_wide m_houses m_bowls m_dogs m_gone m_sights m_drawn m_cell m_house m_settings m_bowl m_dog m_path m_steps m_line m_sight m_alike s0 x6 x5 r hf hK H locs ls hP hD hS (lv_sub hl [1, 0, 3] rfl)
  · have hf := (if_neg hc).symm.trans hf
    refine lv_iload (pc := 233) hx hb dX9_askOf_233 (lv_at hl 4 rfl) ?_
    refine lv_goto (pc := 235) (tgt := 240) hx hb dX9_askOf_235 (by decide) ?_
    exact k_X9_askOf_b240L131 C hA b m_latest m_cells m_wide m_houses m_bowls m_dogs m_gone m_sights m_drawn m_cell m_house m_settings m_bowl m_dog m_path m_steps m_line m_sight m_alike s0 x6 x7 r hf hK H locs ls hP hD hS (lv_sub hl [1, 0, 3] rfl)
def f_X9_askOf_b212L131 (m_houses : Int32) (m_alike : Nat → Int32) (x4 : Int32) (x5 : Int32) (x6 : Int32) (x7 : Int32) (s0 : Int32) : Option ((Int32 × Int32 × Int32) ⊕ (Int32)) :=
  if s0 = 0 then (f_X9_askOf_b226L131 m_houses m_alike x5 x6 x7 s0 x4) else (f_X9_askOf_b226L131 m_houses m_alike x5 x6 x7 s0 x6)
set_option maxHeartbeats 4000000 in
set_option maxRecDepth 100000 in
theorem k_X9_askOf_b212L131 (C : Cx RX9 cX9_askOf 9 D cA p s m args c) (hA : ∀ q, s.heap.size ≤ q → A q) (b : Nat → Nat) (m_latest : Int32) (m_cells : Int32) (m_wide : Int32) (m_houses : Int32) (m_bowls : Int32) (m_dogs : Int32) (m_gone : Int32) (m_sights : Int32) (m_drawn : Int32) (m_cell : Nat → Int32) (m_house : Nat → Int32) (m_settings : Nat → Int32) (m_bowl : Nat → Int32) (m_dog : Nat → Int32) (m_path : Nat → Int32) (m_steps : Nat → Int32) (m_line : Nat → Int32) (m_sight : Nat → Int32) (m_alike : Nat → Int32) (x4 : Int32) (x5 : Int32) (x6 : Int32) (x7 : Int32) (s0 : Int32) (r : (Int32 × Int32 × Int32) ⊕ (Int32)) (hf : f_X9_askOf_b212L131 m_houses m_alike x4 x5 x6 x7 s0 = some r) (hK : Sum.elim (fun q : Int32 × Int32 × Int32 => At p l e rm_X9_askOf s m args below meth c D A 0 0 Q 9 131 (wl_X9_askOf cA b m_latest m_cells m_wide m_houses m_bowls m_dogs m_gone m_sights m_drawn m_cell m_house m_settings m_bowl m_dog m_path m_steps m_line m_sight m_alike) [(0, .ref (b 0)), (4, .int (q.1)), (5, .int (q.2.1)), (6, .int (q.2.2))] []) (fun q : Int32 => At p l e rm_X9_askOf s m args below meth c D A 0 0 Q 9 248 (wl_X9_askOf cA b m_latest m_cells m_wide m_houses m_bowls m_dogs m_gone m_sights m_drawn m_cell m_house m_settings m_bowl m_dog m_path m_steps m_line m_sight m_alike) [(4, .int q)] []) r) : At p l e rm_X9_askOf s m args below meth c D A 0 0 Q 9 212 (wl_X9_askOf cA b m_latest m_cells m_wide m_houses m_bowls m_dogs m_gone m_sights m_drawn m_cell m_house m_settings m_bowl m_dog m_path m_steps m_line m_sight m_alike) [(0, .ref (b 0)), (4, .int x4), (5, .int x5), (6, .int x6), (7, .int x7)] [.int s0] := by
  intro H locs ls hP hD hS hl
  have hx := C.1
  have hb := C.2.1
  have hown := C.2.2.2.1
  have hts := C.2.2.2.2.1
  unfold f_X9_askOf_b212L131 at hf
  refine lv_istore (pc := 212) (lv' := [(8, .int s0), (0, .ref (b 0)), (4, .int x4), (5, .int x5), (6, .int x6), (7, .int x7)]) hx hb dX9_askOf_212 hl (Nat.le_of_ble_eq_true rfl) rfl (fun ls hl => ?_)
  refine lv_iload (pc := 214) hx hb dX9_askOf_214 (lv_at hl 0 rfl) ?_
  refine lv_if_eq (pc := 216) (tgt := 224) hx hb dX9_askOf_216 (by decide) (fun hc => ?_) (fun hc => ?_)
  · have hf := (if_pos hc).symm.trans hf
    refine lv_iload (pc := 224) hx hb dX9_askOf_224 (lv_at hl 2 rfl) ?_
    exact k_X9_askOf_b226L131 C hA b m_latest m_cells m_wide m_houses m_bowls m_dogs m_gone m_sights m_drawn m_cell m_house m_settings m_bowl m_dog m_path m_steps m_line m_sight m_alike x5 x6 x7 s0 x4 r hf hK H locs ls hP hD hS (lv_sub hl [1, 3, 4, 5, 0] rfl)
  · have hf := (if_neg hc).symm.trans hf
    refine lv_iload (pc := 219) hx hb dX9_askOf_219 (lv_at hl 4 rfl) ?_
    refine lv_goto (pc := 221) (tgt := 226) hx hb dX9_askOf_221 (by decide) ?_
    exact k_X9_askOf_b226L131 C hA b m_latest m_cells m_wide m_houses m_bowls m_dogs m_gone m_sights m_drawn m_cell m_house m_settings m_bowl m_dog m_path m_steps m_line m_sight m_alike x5 x6 x7 s0 x6 r hf hK H locs ls hP hD hS (lv_sub hl [1, 3, 4, 5, 0] rfl)
def f_X9_askOf_b207L131 (m_houses : Int32) (m_alike : Nat → Int32) (x4 : Int32) (x5 : Int32) (x6 : Int32) (x7 : Int32) : Option ((Int32 × Int32 × Int32) ⊕ (Int32)) :=
  f_X9_askOf_b212L131 m_houses m_alike x4 x5 x6 x7 (1 : Int32)
set_option maxHeartbeats 4000000 in
set_option maxRecDepth 100000 in
theorem k_X9_askOf_b207L131 (C : Cx RX9 cX9_askOf 9 D cA p s m args c) (hA : ∀ q, s.heap.size ≤ q → A q) (b : Nat → Nat) (m_latest : Int32) (m_cells : Int32) (m_wide : Int32) (m_houses : Int32) (m_bowls : Int32) (m_dogs : Int32) (m_gone : Int32) (m_sights : Int32) (m_drawn : Int32) (m_cell : Nat → Int32) (m_house : Nat → Int32) (m_settings : Nat → Int32) (m_bowl : Nat → Int32) (m_dog : Nat → Int32) (m_path : Nat → Int32) (m_steps : Nat → Int32) (m_line : Nat → Int32) (m_sight : Nat → Int32) (m_alike : Nat → Int32) (x4 : Int32) (x5 : Int32) (x6 : Int32) (x7 : Int32) (r : (Int32 × Int32 × Int32) ⊕ (Int32)) (hf : f_X9_askOf_b207L131 m_houses m_alike x4 x5 x6 x7 = some r) (hK : Sum.elim (fun q : Int32 × Int32 × Int32 => At p l e rm_X9_askOf s m args below meth c D A 0 0 Q 9 131 (wl_X9_askOf cA b m_latest m_cells m_wide m_houses m_bowls m_dogs m_gone m_sights m_drawn m_cell m_house m_settings m_bowl m_dog m_path m_steps m_line m_sight m_alike) [(0, .ref (b 0)), (4, .int (q.1)), (5, .int (q.2.1)), (6, .int (q.2.2))] []) (fun q : Int32 => At p l e rm_X9_askOf s m args below meth c D A 0 0 Q 9 248 (wl_X9_askOf cA b m_latest m_cells m_wide m_houses m_bowls m_dogs m_gone m_sights m_drawn m_cell m_house m_settings m_bowl m_dog m_path m_steps m_line m_sight m_alike) [(4, .int q)] []) r) : At p l e rm_X9_askOf s m args below meth c D A 0 0 Q 9 207 (wl_X9_askOf cA b m_latest m_cells m_wide m_houses m_bowls m_dogs m_gone m_sights m_drawn m_cell m_house m_settings m_bowl m_dog m_path m_steps m_line m_sight m_alike) [(0, .ref (b 0)), (4, .int x4), (5, .int x5), (6, .int x6), (7, .int x7)] [] := by
  intro H locs ls hP hD hS hl
  have hx := C.1
  have hb := C.2.1
  have hown := C.2.2.2.1
  have hts := C.2.2.2.2.1
  unfold f_X9_askOf_b207L131 at hf
  refine lv_iconst (pc := 207) (v := 1) hx hb dX9_askOf_207 ic_1 ?_
  refine lv_goto (pc := 208) (tgt := 212) hx hb dX9_askOf_208 (by decide) ?_
  exact k_X9_askOf_b212L131 C hA b m_latest m_cells m_wide m_houses m_bowls m_dogs m_gone m_sights m_drawn m_cell m_house m_settings m_bowl m_dog m_path m_steps m_line m_sight m_alike x4 x5 x6 x7 (1 : Int32) r hf hK H locs ls hP hD hS hl
def f_X9_askOf_L131 (m_houses : Int32) (m_alike : Nat → Int32) (x4 : Int32) (x5 : Int32) (x6 : Int32) : Option ((Int32 × Int32 × Int32) ⊕ (Int32)) :=
  if m_houses ≤ x6 then (some (.inr x4)) else (bind1 (loopF (fun q : Int32 × Int32 => f_X9_askOf_L146 m_alike x6 q.1 q.2) FU ((0 : Int32), (0 : Int32))) (fun u20 => if x4 = (-1 : Int32) then (f_X9_askOf_b207L131 m_houses m_alike x4 x5 x6 u20) else (if x5 ≤ u20 then (f_X9_askOf_b212L131 m_houses m_alike x4 x5 x6 u20 (0 : Int32)) else (f_X9_askOf_b207L131 m_houses m_alike x4 x5 x6 u20))))
set_option maxHeartbeats 4000000 in
set_option maxRecDepth 100000 in
theorem k_X9_askOf_L131 (C : Cx RX9 cX9_askOf 9 D cA p s m args c) (hA : ∀ q, s.heap.size ≤ q → A q) (b : Nat → Nat) (m_latest : Int32) (m_cells : Int32) (m_wide : Int32) (m_houses : Int32) (m_bowls : Int32) (m_dogs : Int32) (m_gone : Int32) (m_sights : Int32) (m_drawn : Int32) (m_cell : Nat → Int32) (m_house : Nat → Int32) (m_settings : Nat → Int32) (m_bowl : Nat → Int32) (m_dog : Nat → Int32) (m_path : Nat → Int32) (m_steps : Nat → Int32) (m_line : Nat → Int32) (m_sight : Nat → Int32) (m_alike : Nat → Int32) (x4 : Int32) (x5 : Int32) (x6 : Int32) (r : (Int32 × Int32 × Int32) ⊕ (Int32)) (hf : f_X9_askOf_L131 m_houses m_alike x4 x5 x6 = some r) (hK : Sum.elim (fun q : Int32 × Int32 × Int32 => At p l e rm_X9_askOf s m args below meth c D A 0 0 Q 9 131 (wl_X9_askOf cA b m_latest m_cells m_wide m_houses m_bowls m_dogs m_gone m_sights m_drawn m_cell m_house m_settings m_bowl m_dog m_path m_steps m_line m_sight m_alike) [(0, .ref (b 0)), (4, .int (q.1)), (5, .int (q.2.1)), (6, .int (q.2.2))] []) (fun q : Int32 => At p l e rm_X9_askOf s m args below meth c D A 0 0 Q 9 248 (wl_X9_askOf cA b m_latest m_cells m_wide m_houses m_bowls m_dogs m_gone m_sights m_drawn m_cell m_house m_settings m_bowl m_dog m_path m_steps m_line m_sight m_alike) [(4, .int q)] []) r) : At p l e rm_X9_askOf s m args below meth c D A 0 0 Q 9 131 (wl_X9_askOf cA b m_latest m_cells m_wide m_houses m_bowls m_dogs m_gone m_sights m_drawn m_cell m_house m_settings m_bowl m_dog m_path m_steps m_line m_sight m_alike) [(0, .ref (b 0)), (4, .int x4), (5, .int x5), (6, .int x6)] [] := by
  intro H locs ls hP hD hS hl
  have hx := C.1
  have hb := C.2.1
  have hown := C.2.2.2.1
  have hts := C.2.2.2.2.1
  unfold f_X9_askOf_L131 at hf
  refine lv_iload (pc := 131) hx hb dX9_askOf_131 (lv_at hl 3 rfl) ?_
  refine lv_aload_n (pc := 133) hx hb dX9_askOf_133 rfl (lv_at hl 0 rfl) ?_
  refine g_get (pc := 134) C fg_X9_106 hP 0 rfl rfl dX9_askOf_134 ?_
  refine lv_icmp_ge (pc := 137) (tgt := 248) hx hb dX9_askOf_137 (by decide) (fun hc => ?_) (fun hc => ?_)
  · have hf := (if_pos hc).symm.trans hf
    have hf := Option.some.inj hf
    subst hf
    exact hK H locs ls hP hD hS (lv_sub hl [1] rfl)
  · have hf := (if_neg hc).symm.trans hf
    refine lv_iconst (pc := 140) (v := 0) hx hb dX9_askOf_140 ic_0 ?_
    refine lv_istore (pc := 141) (lv' := [(7, .int (0 : Int32)), (0, .ref (b 0)), (4, .int x4), (5, .int x5), (6, .int x6)]) hx hb dX9_askOf_141 hl (Nat.le_of_ble_eq_true rfl) rfl (fun ls hl => ?_)
    refine lv_iconst (pc := 143) (v := 0) hx hb dX9_askOf_143 ic_0 ?_
    refine lv_istore (pc := 144) (lv' := [(8, .int (0 : Int32)), (7, .int (0 : Int32)), (0, .ref (b 0)), (4, .int x4), (5, .int x5), (6, .int x6)]) hx hb dX9_askOf_144 hl (Nat.le_of_ble_eq_true rfl) rfl (fun ls hl => ?_)
    obtain ⟨u20, hq, hf⟩ := bind1_some hf
    refine kl_X9_askOf_L146 C hA b m_latest m_cells m_wide m_houses m_bowls m_dogs m_gone m_sights m_drawn m_cell m_house m_settings m_bowl m_dog m_path m_steps m_line m_sight m_alike x4 x5 x6 FU ((0 : Int32), (0 : Int32)) _ hq ?_ H locs ls hP hD hS (lv_sub hl [2, 3, 4, 5, 1, 0] rfl)
    intro H locs ls hP hD hS hl
    have hP : va_P D classes (wl_X9_askOf cA b m_latest m_cells m_wide m_houses m_bowls m_dogs m_gone m_sights m_drawn m_cell m_house m_settings m_bowl m_dog m_path m_steps m_line m_sight m_alike) H := hP
    have hD : va_D A (wl_X9_askOf cA b m_latest m_cells m_wide m_houses m_bowls m_dogs m_gone m_sights m_drawn m_cell m_house m_settings m_bowl m_dog m_path m_steps m_line m_sight m_alike) := hD
    have hl : lv_has ls 9 [(0, .ref (b 0)), (4, .int x4), (5, .int x5), (6, .int x6), (7, .int u20)] := hl
    refine lv_iload (pc := 194) hx hb dX9_askOf_194 (lv_at hl 1 rfl) ?_
    refine lv_iconst (pc := 196) (v := (-1)) hx hb dX9_askOf_196 ic_m1 ?_
    refine lv_icmp_eq (pc := 197) (tgt := 207) hx hb dX9_askOf_197 (by decide) (fun hc => ?_) (fun hc => ?_)
    · have hf := (if_pos hc).symm.trans hf
      exact k_X9_askOf_b207L131 C hA b m_latest m_cells m_wide m_houses m_bowls m_dogs m_gone m_sights m_drawn m_cell m_house m_settings m_bowl m_dog m_path m_steps m_line m_sight m_alike x4 x5 x6 u20 r hf hK H locs ls hP hD hS hl
    · have hf := (if_neg hc).symm.trans hf
      refine lv_iload (pc := 200) hx hb dX9_askOf_200 (lv_at hl 4 rfl) ?_
      refine lv_iload (pc := 202) hx hb dX9_askOf_202 (lv_at hl 2 rfl) ?_
      refine lv_icmp_ge (pc := 204) (tgt := 211) hx hb dX9_askOf_204 (by decide) (fun hc => ?_) (fun hc => ?_)
      · have hf := (if_pos hc).symm.trans hf
        refine lv_iconst (pc := 211) (v := 0) hx hb dX9_askOf_211 ic_0 ?_
        exact k_X9_askOf_b212L131 C hA b m_latest m_cells m_wide m_houses m_bowls m_dogs m_gone m_sights m_drawn m_cell m_house m_settings m_bowl m_dog m_path m_steps m_line m_sight m_alike x4 x5 x6 u20 (0 : Int32) r hf hK H locs ls hP hD hS hl
      · have hf := (if_neg hc).symm.trans hf
        exact k_X9_askOf_b207L131 C hA b m_latest m_cells m_wide m_houses m_bowls m_dogs m_gone m_sights m_drawn m_cell m_house m_settings m_bowl m_dog m_path m_steps m_line m_sight m_alike x4 x5 x6 u20 r hf hK H locs ls hP hD hS hl
theorem kl_X9_askOf_L131 (C : Cx RX9 cX9_askOf 9 D cA p s m args c) (hA : ∀ q, s.heap.size ≤ q → A q) (b : Nat → Nat) (m_latest : Int32) (m_cells : Int32) (m_wide : Int32) (m_houses : Int32) (m_bowls : Int32) (m_dogs : Int32) (m_gone : Int32) (m_sights : Int32) (m_drawn : Int32) (m_cell : Nat → Int32) (m_house : Nat → Int32) (m_settings : Nat → Int32) (m_bowl : Nat → Int32) (m_dog : Nat → Int32) (m_path : Nat → Int32) (m_steps : Nat → Int32) (m_line : Nat → Int32) (m_sight : Nat → Int32) (m_alike : Nat → Int32) : ∀ (n : Nat) (q : Int32 × Int32 × Int32) (z : (Int32)), loopF (fun q : Int32 × Int32 × Int32 => f_X9_askOf_L131 m_houses m_alike q.1 q.2.1 q.2.2) n q = some z → (fun q : Int32 => At p l e rm_X9_askOf s m args below meth c D A 0 0 Q 9 248 (wl_X9_askOf cA b m_latest m_cells m_wide m_houses m_bowls m_dogs m_gone m_sights m_drawn m_cell m_house m_settings m_bowl m_dog m_path m_steps m_line m_sight m_alike) [(4, .int q)] []) z → At p l e rm_X9_askOf s m args below meth c D A 0 0 Q 9 131 (wl_X9_askOf cA b m_latest m_cells m_wide m_houses m_bowls m_dogs m_gone m_sights m_drawn m_cell m_house m_settings m_bowl m_dog m_path m_steps m_line m_sight m_alike) [(0, .ref (b 0)), (4, .int (q.1)), (5, .int (q.2.1)), (6, .int (q.2.2))] [] :=
  loop_lem (WP := fun q : Int32 × Int32 × Int32 => At p l e rm_X9_askOf s m args below meth c D A 0 0 Q 9 131 (wl_X9_askOf cA b m_latest m_cells m_wide m_houses m_bowls m_dogs m_gone m_sights m_drawn m_cell m_house m_settings m_bowl m_dog m_path m_steps m_line m_sight m_alike) [(0, .ref (b 0)), (4, .int (q.1)), (5, .int (q.2.1)), (6, .int (q.2.2))] []) (WE := (fun q : Int32 => At p l e rm_X9_askOf s m args below meth c D A 0 0 Q 9 248 (wl_X9_askOf cA b m_latest m_cells m_wide m_houses m_bowls m_dogs m_gone m_sights m_drawn m_cell m_house m_settings m_bowl m_dog m_path m_steps m_line m_sight m_alike) [(4, .int q)] [])) (fun q r hf hK => k_X9_askOf_L131 C hA b m_latest m_cells m_wide m_houses m_bowls m_dogs m_gone m_sights m_drawn m_cell m_house m_settings m_bowl m_dog m_path m_steps m_line m_sight m_alike q.1 q.2.1 q.2.2 r hf hK)
def f_X9_askOf (m_cells : Int32) (m_wide : Int32) (m_houses : Int32) (m_bowls : Int32) (m_dogs : Int32) (m_gone : Int32) (m_sights : Int32) (m_cell : Nat → Int32) (m_house : Nat → Int32) (m_settings : Nat → Int32) (m_bowl : Nat → Int32) (m_dog : Nat → Int32) (m_path : Nat → Int32) (m_steps : Nat → Int32) (m_line : Nat → Int32) (m_sight : Nat → Int32) (m_alike : Nat → Int32) (x1 : Int32) : Option (Int32 × (Nat → Int32) × (Nat → Int32) × (Nat → Int32) × (Nat → Int32) × (Nat → Int32)) :=
  bind5 (f_X9_beganNow m_cells m_wide m_houses m_bowls m_dogs m_gone m_sights m_cell m_house m_settings m_bowl m_dog m_path m_steps m_line m_sight) (fun r1 c2 c3 c4 c5 => letv ((c2 (0 : Int32).toNatClampNeg)) (fun v6 => bind1 (loopF (fun q : Int32 × (Nat → Int32) => f_X9_askOf_L15 q.1 q.2) FU ((0 : Int32), m_alike)) (fun u7 => bind5 (loopF (fun q : Int32 × (Nat → Int32) × (Nat → Int32) × (Nat → Int32) × (Nat → Int32) × (Nat → Int32) => f_X9_askOf_L39 m_cells m_wide m_houses m_bowls m_dogs m_gone m_cell m_house m_bowl m_dog x1 r1 q.1 q.2.1 q.2.2.1 q.2.2.2.1 q.2.2.2.2.1 q.2.2.2.2.2) FU ((0 : Int32), c2, c3, c4, c5, u7)) (fun u15 u16 u17 u18 u19 => bind1 (loopF (fun q : Int32 × Int32 × Int32 => f_X9_askOf_L131 m_houses u19 q.1 q.2.1 q.2.2) FU ((-1 : Int32), (0 : Int32), (0 : Int32))) (fun u21 => some (u21, (upd u15 (0 : Int32).toNatClampNeg v6), u16, u17, u18, u19))))))
set_option maxHeartbeats 4000000 in
set_option maxRecDepth 100000 in
theorem k_X9_askOf (C : Cx RX9 cX9_askOf 9 D cA p s m args c) (hr : meth.sig.returnType = (some .int)) (hlk : meth.locks = false) (hA : ∀ q, s.heap.size ≤ q → va_A ws0 sz q) (b : Nat → Nat) (m_latest : Int32) (m_cells : Int32) (m_wide : Int32) (m_houses : Int32) (m_bowls : Int32) (m_dogs : Int32) (m_gone : Int32) (m_sights : Int32) (m_drawn : Int32) (m_cell : Nat → Int32) (m_house : Nat → Int32) (m_settings : Nat → Int32) (m_bowl : Nat → Int32) (m_dog : Nat → Int32) (m_path : Nat → Int32) (m_steps : Nat → Int32) (m_line : Nat → Int32) (m_sight : Nat → Int32) (m_alike : Nat → Int32) (x1 : Int32) (r : Int32 × (Nat → Int32) × (Nat → Int32) × (Nat → Int32) × (Nat → Int32) × (Nat → Int32)) (hf : f_X9_askOf m_cells m_wide m_houses m_bowls m_dogs m_gone m_sights m_cell m_house m_settings m_bowl m_dog m_path m_steps m_line m_sight m_alike x1 = some r) : At p l e rm_X9_askOf s m args below meth c D (va_A ws0 sz) 0 0 (MQ below (PostI D r.1 ws0 (wl_X9_askOf cA b m_latest m_cells m_wide m_houses m_bowls m_dogs m_gone m_sights m_drawn m_cell m_house (r.2.1) m_bowl m_dog (r.2.2.1) (r.2.2.2.1) (r.2.2.2.2.1) m_sight (r.2.2.2.2.2)) sz) args s 0 0 (va_A ws0 sz)) 9 0 (wl_X9_askOf cA b m_latest m_cells m_wide m_houses m_bowls m_dogs m_gone m_sights m_drawn m_cell m_house m_settings m_bowl m_dog m_path m_steps m_line m_sight m_alike) [(0, .ref (b 0)), (1, .int x1)] [] := by
  intro H locs ls hP hD hS hl
  have hx := C.1
  have hb := C.2.1
  have hown := C.2.2.2.1
  have hts := C.2.2.2.2.1
  unfold f_X9_askOf at hf
  refine lv_aload_n (pc := 0) hx hb dX9_askOf_0 rfl (lv_at hl 0 rfl) ?_
  obtain ⟨r1, c2, c3, c4, c5, hq, hf⟩ := bind5_some hf
  refine fin2_i (wl_X9_askOf cA b m_latest m_cells m_wide m_houses m_bowls m_dogs m_gone m_sights m_drawn m_cell m_house c2 m_bowl m_dog c3 c4 c5 m_sight m_alike) (run_V (rest := []) (pc := 1) (As := []) C mf_X9_240 (c_X9_beganNow l D cA b m_latest m_cells m_wide m_houses m_bowls m_dogs m_gone m_sights m_drawn m_cell m_house m_settings m_bowl m_dog m_path m_steps m_line m_sight (r1, c2, c3, c4, c5) hq H.size) rfl rfl ⟨(Nat.le_of_ble_eq_true rfl), (Nat.le_of_ble_eq_true rfl)⟩ (preV_of C hP hD [0, 1, 2, 3, 4, 5, 6, 7, 8, 9] rfl (pl_nd pv_159) 0 rfl rfl rfl) rfl hl.1 rfl (Nat.le_of_ble_eq_true rfl) dX9_askOf_1 ⟨Nat.zero_le _, Nat.zero_le _⟩) hP hD hS hA [0, 1, 2, 3, 4, 5, 6, 7, 8, 9] [10] rfl rfl rfl rfl pv_159 (fun H locs hP hS => ?_)
  have hD : va_D (va_A ws0 sz) (wl_X9_askOf cA b m_latest m_cells m_wide m_houses m_bowls m_dogs m_gone m_sights m_drawn m_cell m_house c2 m_bowl m_dog c3 c4 c5 m_sight m_alike) := vd_a hD rfl
  refine lv_istore_n (pc := 4) (lv' := [(2, .int r1), (0, .ref (b 0)), (1, .int x1)]) hx hb dX9_askOf_4 rfl hl (Nat.le_of_ble_eq_true rfl) rfl (fun ls hl => ?_)
  refine lv_aload_n (pc := 5) hx hb dX9_askOf_5 rfl (lv_at hl 1 rfl) ?_
  refine g_get (pc := 6) C fg_X9_34 hP 0 rfl rfl dX9_askOf_6 ?_
  refine lv_iconst (pc := 9) (v := 0) hx hb dX9_askOf_9 ic_0 ?_
  refine g_iald (pc := 10) C hP 3 rfl (by decide) dX9_askOf_10 ?_
  obtain ⟨v6, e_v6, hf⟩ := letv_some hf
  refine tp_i e_v6 ?_
  refine lv_istore_n (pc := 11) (lv' := [(3, .int v6), (2, .int r1), (0, .ref (b 0)), (1, .int x1)]) hx hb dX9_askOf_11 rfl hl (Nat.le_of_ble_eq_true rfl) rfl (fun ls hl => ?_)
  refine lv_iconst (pc := 12) (v := 0) hx hb dX9_askOf_12 ic_0 ?_
  refine lv_istore (pc := 13) (lv' := [(4, .int (0 : Int32)), (3, .int v6), (2, .int r1), (0, .ref (b 0)), (1, .int x1)]) hx hb dX9_askOf_13 hl (Nat.le_of_ble_eq_true rfl) rfl (fun ls hl => ?_)
  obtain ⟨u7, hq, hf⟩ := bind1_some hf
  refine kl_X9_askOf_L15 C hA b m_latest m_cells m_wide m_houses m_bowls m_dogs m_gone m_sights m_drawn m_cell m_house c2 m_bowl m_dog c3 c4 c5 m_sight x1 r1 v6 FU ((0 : Int32), m_alike) _ hq ?_ H locs ls hP hD hS (lv_sub hl [3, 4, 2, 1, 0] rfl)
  intro H locs ls hP hD hS hl
  have hP : va_P D classes (wl_X9_askOf cA b m_latest m_cells m_wide m_houses m_bowls m_dogs m_gone m_sights m_drawn m_cell m_house c2 m_bowl m_dog c3 c4 c5 m_sight u7) H := hP
  have hD : va_D (va_A ws0 sz) (wl_X9_askOf cA b m_latest m_cells m_wide m_houses m_bowls m_dogs m_gone m_sights m_drawn m_cell m_house c2 m_bowl m_dog c3 c4 c5 m_sight u7) := hD
  have hl : lv_has ls 9 [(0, .ref (b 0)), (1, .int x1), (2, .int r1), (3, .int v6)] := hl
  refine lv_iconst (pc := 36) (v := 0) hx hb dX9_askOf_36 ic_0 ?_
  refine lv_istore (pc := 37) (lv' := [(4, .int (0 : Int32)), (0, .ref (b 0)), (1, .int x1), (2, .int r1), (3, .int v6)]) hx hb dX9_askOf_37 hl (Nat.le_of_ble_eq_true rfl) rfl (fun ls hl => ?_)
  obtain ⟨u15, u16, u17, u18, u19, hq, hf⟩ := bind5_some hf
  refine kl_X9_askOf_L39 C hA b m_latest m_cells m_wide m_houses m_bowls m_dogs m_gone m_sights m_drawn m_cell m_house m_bowl m_dog m_sight x1 r1 v6 FU ((0 : Int32), c2, c3, c4, c5, u7) _ hq ?_ H locs ls hP hD hS (lv_sub hl [1, 2, 3, 4, 0] rfl)
  intro H locs ls hP hD hS hl
  have hP : va_P D classes (wl_X9_askOf cA b m_latest m_cells m_wide m_houses m_bowls m_dogs m_gone m_sights m_drawn m_cell m_house u15 m_bowl m_dog u16 u17 u18 m_sight u19) H := hP
  have hD : va_D (va_A ws0 sz) (wl_X9_askOf cA b m_latest m_cells m_wide m_houses m_bowls m_dogs m_gone m_sights m_drawn m_cell m_house u15 m_bowl m_dog u16 u17 u18 m_sight u19) := hD
  have hl : lv_has ls 9 [(0, .ref (b 0)), (3, .int v6)] := hl
  refine lv_aload_n (pc := 115) hx hb dX9_askOf_115 rfl (lv_at hl 0 rfl) ?_
  refine g_get (pc := 116) C fg_X9_34 hP 0 rfl rfl dX9_askOf_116 ?_
  refine lv_iconst (pc := 119) (v := 0) hx hb dX9_askOf_119 ic_0 ?_
  refine lv_iload_n (pc := 120) hx hb dX9_askOf_120 rfl (lv_at hl 1 rfl) ?_
  refine g_iast (pc := 121) C hP hD hS 3 rfl (by decide) dX9_askOf_121 (fun H locs hP hD hS => ?_)
  have hP : va_P D classes (wl_X9_askOf cA b m_latest m_cells m_wide m_houses m_bowls m_dogs m_gone m_sights m_drawn m_cell m_house (upd u15 (0 : Int32).toNatClampNeg v6) m_bowl m_dog u16 u17 u18 m_sight u19) H := hP
  have hD : va_D (va_A ws0 sz) (wl_X9_askOf cA b m_latest m_cells m_wide m_houses m_bowls m_dogs m_gone m_sights m_drawn m_cell m_house (upd u15 (0 : Int32).toNatClampNeg v6) m_bowl m_dog u16 u17 u18 m_sight u19) := hD
  refine lv_iconst (pc := 122) (v := (-1)) hx hb dX9_askOf_122 ic_m1 ?_
  refine lv_istore (pc := 123) (lv' := [(4, .int (-1 : Int32)), (0, .ref (b 0)), (3, .int v6)]) hx hb dX9_askOf_123 hl (Nat.le_of_ble_eq_true rfl) rfl (fun ls hl => ?_)
  refine lv_iconst (pc := 125) (v := 0) hx hb dX9_askOf_125 ic_0 ?_
  refine lv_istore (pc := 126) (lv' := [(5, .int (0 : Int32)), (4, .int (-1 : Int32)), (0, .ref (b 0)), (3, .int v6)]) hx hb dX9_askOf_126 hl (Nat.le_of_ble_eq_true rfl) rfl (fun ls hl => ?_)
  refine lv_iconst (pc := 128) (v := 0) hx hb dX9_askOf_128 ic_0 ?_
  refine lv_istore (pc := 129) (lv' := [(6, .int (0 : Int32)), (5, .int (0 : Int32)), (4, .int (-1 : Int32)), (0, .ref (b 0)), (3, .int v6)]) hx hb dX9_askOf_129 hl (Nat.le_of_ble_eq_true rfl) rfl (fun ls hl => ?_)
  obtain ⟨u21, hq, hf⟩ := bind1_some hf
  refine kl_X9_askOf_L131 C hA b m_latest m_cells m_wide m_houses m_bowls m_dogs m_gone m_sights m_drawn m_cell m_house (upd u15 (0 : Int32).toNatClampNeg v6) m_bowl m_dog u16 u17 u18 m_sight u19 FU ((-1 : Int32), (0 : Int32), (0 : Int32)) _ hq ?_ H locs ls hP hD hS (lv_sub hl [3, 2, 1, 0] rfl)
  intro H locs ls hP hD hS hl
  have hP : va_P D classes (wl_X9_askOf cA b m_latest m_cells m_wide m_houses m_bowls m_dogs m_gone m_sights m_drawn m_cell m_house (upd u15 (0 : Int32).toNatClampNeg v6) m_bowl m_dog u16 u17 u18 m_sight u19) H := hP
  have hD : va_D (va_A ws0 sz) (wl_X9_askOf cA b m_latest m_cells m_wide m_houses m_bowls m_dogs m_gone m_sights m_drawn m_cell m_house (upd u15 (0 : Int32).toNatClampNeg v6) m_bowl m_dog u16 u17 u18 m_sight u19) := hD
  have hl : lv_has ls 9 [(4, .int u21)] := hl
  refine lv_iload (pc := 248) hx hb dX9_askOf_248 (lv_at hl 0 rfl) ?_
  have hf := Option.some.inj hf
  subst hf
  exact ret_i C hr hlk hP hS dX9_askOf_250
set_option maxRecDepth 100000 in
theorem c_X9_askOf (l : Launch) (D : va_G) (cA : Nat → ClassId) (b : Nat → Nat) (m_latest : Int32) (m_cells : Int32) (m_wide : Int32) (m_houses : Int32) (m_bowls : Int32) (m_dogs : Int32) (m_gone : Int32) (m_sights : Int32) (m_drawn : Int32) (m_cell : Nat → Int32) (m_house : Nat → Int32) (m_settings : Nat → Int32) (m_bowl : Nat → Int32) (m_dog : Nat → Int32) (m_path : Nat → Int32) (m_steps : Nat → Int32) (m_line : Nat → Int32) (m_sight : Nat → Int32) (m_alike : Nat → Int32) (x1 : Int32) (r : Int32 × (Nat → Int32) × (Nat → Int32) × (Nat → Int32) × (Nat → Int32) × (Nat → Int32)) (hf : f_X9_askOf m_cells m_wide m_houses m_bowls m_dogs m_gone m_sights m_cell m_house m_settings m_bowl m_dog m_path m_steps m_line m_sight m_alike x1 = some r) (sz : Nat) : Met l yX9_askOf (Cond.code yX9_askOf cX9_askOf 9 (some .int) :: lw_good) rm_X9_askOf (PreX D cA [.ref (b 0), .int x1] sz (wl_X9_askOf cA b m_latest m_cells m_wide m_houses m_bowls m_dogs m_gone m_sights m_drawn m_cell m_house m_settings m_bowl m_dog m_path m_steps m_line m_sight m_alike)) (PostI D r.1 (wl_X9_askOf cA b m_latest m_cells m_wide m_houses m_bowls m_dogs m_gone m_sights m_drawn m_cell m_house m_settings m_bowl m_dog m_path m_steps m_line m_sight m_alike) (wl_X9_askOf cA b m_latest m_cells m_wide m_houses m_bowls m_dogs m_gone m_sights m_drawn m_cell m_house (r.2.1) m_bowl m_dog (r.2.2.1) (r.2.2.2.1) (r.2.2.2.2.1) m_sight (r.2.2.2.2.2)) sz) 0 0 (va_A (wl_X9_askOf cA b m_latest m_cells m_wide m_houses m_bowls m_dogs m_gone m_sights m_drawn m_cell m_house m_settings m_bowl m_dog m_path m_steps m_line m_sight m_alike) sz) :=
  met_of (by decide) (Nat.le_of_ble_eq_true rfl) (fun p e s m args below meth c C hr hlk hA => k_X9_askOf C hr hlk hA b m_latest m_cells m_wide m_houses m_bowls m_dogs m_gone m_sights m_drawn m_cell m_house m_settings m_bowl m_dog m_path m_steps m_line m_sight m_alike x1 r hf)
end

abbrev wl_X9_ask (cA : Nat → ClassId) (b : Nat → Nat) (m_latest : Int32) (m_cells : Int32) (m_wide : Int32) (m_houses : Int32) (m_bowls : Int32) (m_dogs : Int32) (m_gone : Int32) (m_sights : Int32) (m_drawn : Int32) (m_bytes : Nat → Int32) (m_typed : Nat → Int32) (m_cell : Nat → Int32) (m_house : Nat → Int32) (m_settings : Nat → Int32) (m_bowl : Nat → Int32) (m_dog : Nat → Int32) (m_path : Nat → Int32) (m_steps : Nat → Int32) (m_line : Nat → Int32) (m_sight : Nat → Int32) (m_alike : Nat → Int32) : va_W := [((b 0), .inr (9, [.ref (b 1), .ref (b 2), .ref (b 3), .ref (b 4), .int m_latest, .ref (b 5), .ref (b 6), .int m_cells, .int m_wide, .ref (b 7), .int m_houses, .ref (b 8), .ref (b 9), .int m_bowls, .ref (b 10), .int m_dogs, .ref (b 11), .int m_gone, .ref (b 12), .ref (b 13), .ref (b 14), .int m_sights, .ref (b 15), .ref (b 16), .int m_drawn])), ((b 5), .inl (cA 0, 84, .inl m_bytes)), ((b 6), .inl (cA 0, 2, .inl m_typed)), ((b 7), .inl (cA 0, 36, .inl m_cell)), ((b 8), .inl (cA 0, 16, .inl m_house)), ((b 9), .inl (cA 0, 2, .inl m_settings)), ((b 10), .inl (cA 0, 20, .inl m_bowl)), ((b 11), .inl (cA 0, 16, .inl m_dog)), ((b 12), .inl (cA 0, 250, .inl m_path)), ((b 13), .inl (cA 0, 10, .inl m_steps)), ((b 14), .inl (cA 0, 60, .inl m_line)), ((b 15), .inl (cA 0, 24, .inl m_sight)), ((b 16), .inl (cA 0, 32, .inl m_alike))]
abbrev rm_X9_ask : Room := { frames := 8, cells := 0, slots := 0, locals := 201 }
section
variable {p : Program} {l : Launch} {e : Env} {s : State} {m : MethodId} {args : Array Value} {below : List Frame} {meth : Method} {c : Code} {D : va_G} {cA : Nat → ClassId} {ws0 : va_W} {sz : Nat} {A : Nat → Prop} {Q : State → Prop}
def f_X9_ask (m_cells : Int32) (m_wide : Int32) (m_houses : Int32) (m_bowls : Int32) (m_dogs : Int32) (m_gone : Int32) (m_sights : Int32) (m_bytes : Nat → Int32) (m_typed : Nat → Int32) (m_cell : Nat → Int32) (m_house : Nat → Int32) (m_settings : Nat → Int32) (m_bowl : Nat → Int32) (m_dog : Nat → Int32) (m_path : Nat → Int32) (m_steps : Nat → Int32) (m_line : Nat → Int32) (m_sight : Nat → Int32) (m_alike : Nat → Int32) (x1 : Int32) : Option (Int32 × Int32 × Int32 × Int32 × (Nat → Int32) × (Nat → Int32) × (Nat → Int32) × (Nat → Int32) × (Nat → Int32) × (Nat → Int32) × (Nat → Int32)) :=
  bind8 (f_X9_find m_cells m_wide m_houses m_bowls m_dogs m_gone m_bytes m_typed m_cell m_house m_settings m_bowl m_dog m_path m_steps m_line) (fun c1 c2 c3 c4 c5 c6 c7 c8 => bind1 (f_X9_isNight x1) (fun r9 => if r9 = 0 then (some ((-2 : Int32), c1, c2, c3, c4, c5, m_settings, c6, c7, c8, m_alike)) else (bind6 (f_X9_askOf c1 c2 c3 m_bowls m_dogs m_gone m_sights c4 c5 m_settings m_bowl m_dog c6 c7 c8 m_sight m_alike x1) (fun r10 c11 c12 c13 c14 c15 => some (r10, c1, c2, c3, c4, c5, c11, c12, c13, c14, c15)))))
set_option maxHeartbeats 4000000 in
set_option maxRecDepth 100000 in
theorem k_X9_ask (C : Cx RX9 cX9_ask 2 D cA p s m args c) (hr : meth.sig.returnType = (some .int)) (hlk : meth.locks = false) (hA : ∀ q, s.heap.size ≤ q → va_A ws0 sz q) (b : Nat → Nat) (m_latest : Int32) (m_cells : Int32) (m_wide : Int32) (m_houses : Int32) (m_bowls : Int32) (m_dogs : Int32) (m_gone : Int32) (m_sights : Int32) (m_drawn : Int32) (m_bytes : Nat → Int32) (m_typed : Nat → Int32) (m_cell : Nat → Int32) (m_house : Nat → Int32) (m_settings : Nat → Int32) (m_bowl : Nat → Int32) (m_dog : Nat → Int32) (m_path : Nat → Int32) (m_steps : Nat → Int32) (m_line : Nat → Int32) (m_sight : Nat → Int32) (m_alike : Nat → Int32) (x1 : Int32) (r : Int32 × Int32 × Int32 × Int32 × (Nat → Int32) × (Nat → Int32) × (Nat → Int32) × (Nat → Int32) × (Nat → Int32) × (Nat → Int32) × (Nat → Int32)) (hf : f_X9_ask m_cells m_wide m_houses m_bowls m_dogs m_gone m_sights m_bytes m_typed m_cell m_house m_settings m_bowl m_dog m_path m_steps m_line m_sight m_alike x1 = some r) : At p l e rm_X9_ask s m args below meth c D (va_A ws0 sz) 0 0 (MQ below (PostI D r.1 ws0 (wl_X9_ask cA b m_latest (r.2.1) (r.2.2.1) (r.2.2.2.1) m_bowls m_dogs m_gone m_sights m_drawn m_bytes m_typed (r.2.2.2.2.1) (r.2.2.2.2.2.1) (r.2.2.2.2.2.2.1) m_bowl m_dog (r.2.2.2.2.2.2.2.1) (r.2.2.2.2.2.2.2.2.1) (r.2.2.2.2.2.2.2.2.2.1) m_sight (r.2.2.2.2.2.2.2.2.2.2)) sz) args s 0 0 (va_A ws0 sz)) 2 0 (wl_X9_ask cA b m_latest m_cells m_wide m_houses m_bowls m_dogs m_gone m_sights m_drawn m_bytes m_typed m_cell m_house m_settings m_bowl m_dog m_path m_steps m_line m_sight m_alike) [(0, .ref (b 0)), (1, .int x1)] [] := by
  intro H locs ls hP hD hS hl
  have hx := C.1
  have hb := C.2.1
  have hown := C.2.2.2.1
  have hts := C.2.2.2.2.1
  unfold f_X9_ask at hf
  refine lv_aload_n (pc := 0) hx hb dX9_ask_0 rfl (lv_at hl 0 rfl) ?_
  obtain ⟨c1, c2, c3, c4, c5, c6, c7, c8, hq, hf⟩ := bind8_some hf
  refine fin2_v (wl_X9_ask cA b m_latest c1 c2 c3 m_bowls m_dogs m_gone m_sights m_drawn m_bytes m_typed c4 c5 m_settings m_bowl m_dog c6 c7 c8 m_sight m_alike) (run_V (rest := []) (pc := 1) (As := []) C mf_X9_184 (c_X9_find l D cA b m_latest m_cells m_wide m_houses m_bowls m_dogs m_gone m_sights m_drawn m_bytes m_typed m_cell m_house m_settings m_bowl m_dog m_path m_steps m_line (c1, c2, c3, c4, c5, c6, c7, c8) hq H.size) rfl rfl ⟨(Nat.le_of_ble_eq_true rfl), (Nat.le_of_ble_eq_true rfl)⟩ (preV_of C hP hD [0, 1, 2, 3, 4, 5, 6, 7, 8, 9, 10] rfl (pl_nd pv_162) 0 rfl rfl rfl) rfl hl.1 rfl (Nat.le_of_ble_eq_true rfl) dX9_ask_1 ⟨Nat.zero_le _, Nat.zero_le _⟩) hP hD hS hA [0, 1, 2, 3, 4, 5, 6, 7, 8, 9, 10] [11, 12] rfl rfl rfl rfl pv_162 (fun H locs hP hS => ?_)
  have hD : va_D (va_A ws0 sz) (wl_X9_ask cA b m_latest c1 c2 c3 m_bowls m_dogs m_gone m_sights m_drawn m_bytes m_typed c4 c5 m_settings m_bowl m_dog c6 c7 c8 m_sight m_alike) := vd_a hD rfl
  refine lv_iload_n (pc := 4) hx hb dX9_ask_4 rfl (lv_at hl 1 rfl) ?_
  obtain ⟨r9, hq, hf⟩ := bind1_some hf
  refine fin2_i (wl_X9_ask cA b m_latest c1 c2 c3 m_bowls m_dogs m_gone m_sights m_drawn m_bytes m_typed c4 c5 m_settings m_bowl m_dog c6 c7 c8 m_sight m_alike) (run_S (rest := []) (pc := 5) (As := [.int x1]) C mf_X9_136 (c_X9_isNight l D cA  x1 r9 hq H.size) rfl rfl ⟨(Nat.le_of_ble_eq_true rfl), (Nat.le_of_ble_eq_true rfl)⟩ (preS_of C hP hD [] rfl (pl_nd pv_163)) rfl hl.1 rfl (Nat.le_of_ble_eq_true rfl) dX9_ask_5 ⟨Nat.zero_le _, Nat.zero_le _⟩) hP hD hS hA [] [0, 1, 2, 3, 4, 5, 6, 7, 8, 9, 10, 11, 12] rfl rfl rfl rfl pv_163 (fun H locs hP hS => ?_)
  refine lv_if_eq (pc := 8) (tgt := 19) hx hb dX9_ask_8 (by decide) (fun hc => ?_) (fun hc => ?_)
  · have hf := (if_pos hc).symm.trans hf
    refine lv_bipush (pc := 19) (v := (-2)) hx hb dX9_ask_19 bp_m2 ?_
    have hf := Option.some.inj hf
    subst hf
    exact ret_i C hr hlk hP hS dX9_ask_21
  · have hf := (if_neg hc).symm.trans hf
    refine lv_aload_n (pc := 11) hx hb dX9_ask_11 rfl (lv_at hl 0 rfl) ?_
    refine lv_iload_n (pc := 12) hx hb dX9_ask_12 rfl (lv_at hl 1 rfl) ?_
    obtain ⟨r10, c11, c12, c13, c14, c15, hq, hf⟩ := bind6_some hf
    refine fin2_i (wl_X9_ask cA b m_latest c1 c2 c3 m_bowls m_dogs m_gone m_sights m_drawn m_bytes m_typed c4 c5 c11 m_bowl m_dog c12 c13 c14 m_sight c15) (run_V (rest := []) (pc := 13) (As := [.int x1]) C mf_X9_243 (c_X9_askOf l D cA b m_latest c1 c2 c3 m_bowls m_dogs m_gone m_sights m_drawn c4 c5 m_settings m_bowl m_dog c6 c7 c8 m_sight m_alike x1 (r10, c11, c12, c13, c14, c15) hq H.size) rfl rfl ⟨(Nat.le_of_ble_eq_true rfl), (Nat.le_of_ble_eq_true rfl)⟩ (preV_of C hP hD [0, 3, 4, 5, 6, 7, 8, 9, 10, 11, 12] rfl (pl_nd pv_164) 0 rfl rfl rfl) rfl hl.1 rfl (Nat.le_of_ble_eq_true rfl) dX9_ask_13 ⟨Nat.zero_le _, Nat.zero_le _⟩) hP hD hS hA [0, 3, 4, 5, 6, 7, 8, 9, 10, 11, 12] [1, 2] rfl rfl rfl rfl pv_164 (fun H locs hP hS => ?_)
    have hD : va_D (va_A ws0 sz) (wl_X9_ask cA b m_latest c1 c2 c3 m_bowls m_dogs m_gone m_sights m_drawn m_bytes m_typed c4 c5 c11 m_bowl m_dog c12 c13 c14 m_sight c15) := vd_a hD rfl
    refine lv_goto (pc := 16) (tgt := 21) hx hb dX9_ask_16 (by decide) ?_
    have hf := Option.some.inj hf
    subst hf
    exact ret_i C hr hlk hP hS dX9_ask_21
set_option maxRecDepth 100000 in
theorem c_X9_ask (l : Launch) (D : va_G) (cA : Nat → ClassId) (b : Nat → Nat) (m_latest : Int32) (m_cells : Int32) (m_wide : Int32) (m_houses : Int32) (m_bowls : Int32) (m_dogs : Int32) (m_gone : Int32) (m_sights : Int32) (m_drawn : Int32) (m_bytes : Nat → Int32) (m_typed : Nat → Int32) (m_cell : Nat → Int32) (m_house : Nat → Int32) (m_settings : Nat → Int32) (m_bowl : Nat → Int32) (m_dog : Nat → Int32) (m_path : Nat → Int32) (m_steps : Nat → Int32) (m_line : Nat → Int32) (m_sight : Nat → Int32) (m_alike : Nat → Int32) (x1 : Int32) (r : Int32 × Int32 × Int32 × Int32 × (Nat → Int32) × (Nat → Int32) × (Nat → Int32) × (Nat → Int32) × (Nat → Int32) × (Nat → Int32) × (Nat → Int32)) (hf : f_X9_ask m_cells m_wide m_houses m_bowls m_dogs m_gone m_sights m_bytes m_typed m_cell m_house m_settings m_bowl m_dog m_path m_steps m_line m_sight m_alike x1 = some r) (sz : Nat) : Met l yX9_ask (Cond.code yX9_ask cX9_ask 2 (some .int) :: lw_good) rm_X9_ask (PreX D cA [.ref (b 0), .int x1] sz (wl_X9_ask cA b m_latest m_cells m_wide m_houses m_bowls m_dogs m_gone m_sights m_drawn m_bytes m_typed m_cell m_house m_settings m_bowl m_dog m_path m_steps m_line m_sight m_alike)) (PostI D r.1 (wl_X9_ask cA b m_latest m_cells m_wide m_houses m_bowls m_dogs m_gone m_sights m_drawn m_bytes m_typed m_cell m_house m_settings m_bowl m_dog m_path m_steps m_line m_sight m_alike) (wl_X9_ask cA b m_latest (r.2.1) (r.2.2.1) (r.2.2.2.1) m_bowls m_dogs m_gone m_sights m_drawn m_bytes m_typed (r.2.2.2.2.1) (r.2.2.2.2.2.1) (r.2.2.2.2.2.2.1) m_bowl m_dog (r.2.2.2.2.2.2.2.1) (r.2.2.2.2.2.2.2.2.1) (r.2.2.2.2.2.2.2.2.2.1) m_sight (r.2.2.2.2.2.2.2.2.2.2)) sz) 0 0 (va_A (wl_X9_ask cA b m_latest m_cells m_wide m_houses m_bowls m_dogs m_gone m_sights m_drawn m_bytes m_typed m_cell m_house m_settings m_bowl m_dog m_path m_steps m_line m_sight m_alike) sz) :=
  met_of (by decide) (Nat.le_of_ble_eq_true rfl) (fun p e s m args below meth c C hr hlk hA => k_X9_ask C hr hlk hA b m_latest m_cells m_wide m_houses m_bowls m_dogs m_gone m_sights m_drawn m_bytes m_typed m_cell m_house m_settings m_bowl m_dog m_path m_steps m_line m_sight m_alike x1 r hf)
end

abbrev wl_X9_catOf (cA : Nat → ClassId) (b : Nat → Nat) (m_latest : Int32) (m_cells : Int32) (m_wide : Int32) (m_houses : Int32) (m_bowls : Int32) (m_dogs : Int32) (m_gone : Int32) (m_sights : Int32) (m_drawn : Int32) (m_cell : Nat → Int32) (m_house : Nat → Int32) (m_settings : Nat → Int32) (m_bowl : Nat → Int32) (m_dog : Nat → Int32) (m_path : Nat → Int32) (m_steps : Nat → Int32) (m_line : Nat → Int32) : va_W := [((b 0), .inr (9, [.ref (b 1), .ref (b 2), .ref (b 3), .ref (b 4), .int m_latest, .ref (b 5), .ref (b 6), .int m_cells, .int m_wide, .ref (b 7), .int m_houses, .ref (b 8), .ref (b 9), .int m_bowls, .ref (b 10), .int m_dogs, .ref (b 11), .int m_gone, .ref (b 12), .ref (b 13), .ref (b 14), .int m_sights, .ref (b 15), .ref (b 16), .int m_drawn])), ((b 7), .inl (cA 0, 36, .inl m_cell)), ((b 8), .inl (cA 0, 16, .inl m_house)), ((b 9), .inl (cA 0, 2, .inl m_settings)), ((b 10), .inl (cA 0, 20, .inl m_bowl)), ((b 11), .inl (cA 0, 16, .inl m_dog)), ((b 12), .inl (cA 0, 250, .inl m_path)), ((b 13), .inl (cA 0, 10, .inl m_steps)), ((b 14), .inl (cA 0, 60, .inl m_line))]
abbrev rm_X9_catOf : Room := { frames := 6, cells := 0, slots := 0, locals := 150 }
section
variable {p : Program} {l : Launch} {e : Env} {s : State} {m : MethodId} {args : Array Value} {below : List Frame} {meth : Method} {c : Code} {D : va_G} {cA : Nat → ClassId} {ws0 : va_W} {sz : Nat} {A : Nat → Prop} {Q : State → Prop}
def f_X9_catOf_b87L6 (m_cells : Int32) (m_wide : Int32) (m_bowls : Int32) (m_dogs : Int32) (m_gone : Int32) (m_cell : Nat → Int32) (m_house : Nat → Int32) (m_settings : Nat → Int32) (m_bowl : Nat → Int32) (m_dog : Nat → Int32) (m_path : Nat → Int32) (m_steps : Nat → Int32) (m_line : Nat → Int32) (x1 : Int32) (x2 : Int32) (x3 : Int32) (x4 : Int32) (x6 : Int64) (x8 : Int32) : Option ((Int64 × Int32 × Int32 × (Nat → Int32) × (Nat → Int32) × (Nat → Int32)) ⊕ (Int64 × Int32 × (Nat → Int32) × (Nat → Int32) × (Nat → Int32))) :=
  some (.inl (x6, (x8 + 1), m_gone, m_path, m_steps, m_line))
set_option maxHeartbeats 4000000 in
set_option maxRecDepth 100000 in
theorem k_X9_catOf_b87L6 (C : Cx RX9 cX9_catOf 12 D cA p s m args c) (hA : ∀ q, s.heap.size ≤ q → A q) (b : Nat → Nat) (m_latest : Int32) (m_cells : Int32) (m_wide : Int32) (m_houses : Int32) (m_bowls : Int32) (m_dogs : Int32) (m_gone : Int32) (m_sights : Int32) (m_drawn : Int32) (m_cell : Nat → Int32) (m_house : Nat → Int32) (m_settings : Nat → Int32) (m_bowl : Nat → Int32) (m_dog : Nat → Int32) (m_path : Nat → Int32) (m_steps : Nat → Int32) (m_line : Nat → Int32) (x1 : Int32) (x2 : Int32) (x3 : Int32) (x4 : Int32) (x5 : Int32) (x6 : Int64) (x8 : Int32) (r : (Int64 × Int32 × Int32 × (Nat → Int32) × (Nat → Int32) × (Nat → Int32)) ⊕ (Int64 × Int32 × (Nat → Int32) × (Nat → Int32) × (Nat → Int32))) (hf : f_X9_catOf_b87L6 m_cells m_wide m_bowls m_dogs m_gone m_cell m_house m_settings m_bowl m_dog m_path m_steps m_line x1 x2 x3 x4 x6 x8 = some r) (hK : Sum.elim (fun q : Int64 × Int32 × Int32 × (Nat → Int32) × (Nat → Int32) × (Nat → Int32) => At p l e rm_X9_catOf s m args below meth c D A 0 0 Q 12 6 (wl_X9_catOf cA b m_latest m_cells m_wide m_houses m_bowls m_dogs (q.2.2.1) m_sights m_drawn m_cell m_house m_settings m_bowl m_dog (q.2.2.2.1) (q.2.2.2.2.1) (q.2.2.2.2.2)) [(0, .ref (b 0)), (1, .int x1), (2, .int x2), (3, .int x3), (4, .int x4), (5, .int x5), (6, .long (q.1)), (8, .int (q.2.1))] []) (fun q : Int64 × Int32 × (Nat → Int32) × (Nat → Int32) × (Nat → Int32) => At p l e rm_X9_catOf s m args below meth c D A 0 0 Q 12 93 (wl_X9_catOf cA b m_latest m_cells m_wide m_houses m_bowls m_dogs (q.2.1) m_sights m_drawn m_cell m_house m_settings m_bowl m_dog (q.2.2.1) (q.2.2.2.1) (q.2.2.2.2)) [(0, .ref (b 0)), (5, .int x5), (6, .long (q.1))] []) r) : At p l e rm_X9_catOf s m args below meth c D A 0 0 Q 12 87 (wl_X9_catOf cA b m_latest m_cells m_wide m_houses m_bowls m_dogs m_gone m_sights m_drawn m_cell m_house m_settings m_bowl m_dog m_path m_steps m_line) [(0, .ref (b 0)), (1, .int x1), (2, .int x2), (3, .int x3), (4, .int x4), (5, .int x5), (6, .long x6), (8, .int x8)] [] := by
  intro H locs ls hP hD hS hl
  have hx := C.1
  have hb := C.2.1
  have hown := C.2.2.2.1
  have hts := C.2.2.2.2.1
  unfold f_X9_catOf_b87L6 at hf
  refine lv_iinc (pc := 87) (v := (x8 + 1)) (lv' := [(8, .int (x8 + 1)), (0, .ref (b 0)), (1, .int x1), (2, .int x2), (3, .int x3), (4, .int x4), (5, .int x5), (6, .long x6)]) hx hb dX9_catOf_87 hl (k := 7) rfl rfl (Nat.le_of_ble_eq_true rfl) rfl (fun ls hl => ?_)
  refine lv_goto (pc := 90) (tgt := 6) hx hb dX9_catOf_90 (by decide) ?_
  have hf := Option.some.inj hf
  subst hf
  exact hK H locs ls hP hD hS (lv_sub hl [1, 2, 3, 4, 5, 6, 7, 0] rfl)
def f_X9_catOf_b71L40 (m_bowls : Int32) (x1 : Int32) (x8 : Int32) (x11 : Int32) (s0 : Int64) (s1 : Int64) : Option ((Int64 × Int32) ⊕ (Int64)) :=
  letv ((s1 * s0)) (fun v6 => some (.inl (v6, (x11 + 1))))
set_option maxHeartbeats 4000000 in
set_option maxRecDepth 100000 in
theorem k_X9_catOf_b71L40 (C : Cx RX9 cX9_catOf 12 D cA p s m args c) (hA : ∀ q, s.heap.size ≤ q → A q) (b : Nat → Nat) (m_latest : Int32) (m_cells : Int32) (m_wide : Int32) (m_houses : Int32) (m_bowls : Int32) (m_dogs : Int32) (m_gone : Int32) (m_sights : Int32) (m_drawn : Int32) (m_cell : Nat → Int32) (m_house : Nat → Int32) (m_settings : Nat → Int32) (m_bowl : Nat → Int32) (m_dog : Nat → Int32) (m_path : Nat → Int32) (m_steps : Nat → Int32) (m_line : Nat → Int32) (x1 : Int32) (x2 : Int32) (x3 : Int32) (x4 : Int32) (x5 : Int32) (x6 : Int64) (x8 : Int32) (x11 : Int32) (s0 : Int64) (s1 : Int64) (r : (Int64 × Int32) ⊕ (Int64)) (hf : f_X9_catOf_b71L40 m_bowls x1 x8 x11 s0 s1 = some r) (hK : Sum.elim (fun q : Int64 × Int32 => At p l e rm_X9_catOf s m args below meth c D A 0 0 Q 12 40 (wl_X9_catOf cA b m_latest m_cells m_wide m_houses m_bowls m_dogs m_gone m_sights m_drawn m_cell m_house m_settings m_bowl m_dog m_path m_steps m_line) [(0, .ref (b 0)), (1, .int x1), (2, .int x2), (3, .int x3), (4, .int x4), (5, .int x5), (6, .long x6), (8, .int x8), (9, .long (q.1)), (11, .int (q.2))] []) (fun q : Int64 => At p l e rm_X9_catOf s m args below meth c D A 0 0 Q 12 80 (wl_X9_catOf cA b m_latest m_cells m_wide m_houses m_bowls m_dogs m_gone m_sights m_drawn m_cell m_house m_settings m_bowl m_dog m_path m_steps m_line) [(0, .ref (b 0)), (1, .int x1), (2, .int x2), (3, .int x3), (4, .int x4), (5, .int x5), (6, .long x6), (8, .int x8), (9, .long q)] []) r) : At p l e rm_X9_catOf s m args below meth c D A 0 0 Q 12 71 (wl_X9_catOf cA b m_latest m_cells m_wide m_houses m_bowls m_dogs m_gone m_sights m_drawn m_cell m_house m_settings m_bowl m_dog m_path m_steps m_line) [(0, .ref (b 0)), (1, .int x1), (2, .int x2), (3, .int x3), (4, .int x4), (5, .int x5), (6, .long x6), (8, .int x8), (11, .int x11)] [.long s0, .long s1] := by
  intro H locs ls hP hD hS hl
  have hx := C.1
  have hb := C.2.1
  have hown := C.2.2.2.1
  have hts := C.2.2.2.2.1
  unfold f_X9_catOf_b71L40 at hf
  refine lv_lmul (pc := 71) hx hb dX9_catOf_71 ?_
  obtain ⟨v6, e_v6, hf⟩ := letv_some hf
  refine tp_l e_v6 ?_
  refine lv_lstore (pc := 72) (lv' := [(9, .long v6), (0, .ref (b 0)), (1, .int x1), (2, .int x2), (3, .int x3), (4, .int x4), (5, .int x5), (6, .long x6), (8, .int x8), (11, .int x11)]) hx hb dX9_catOf_72 hl (Nat.le_of_ble_eq_true rfl) rfl (fun ls hl => ?_)
  refine lv_iinc (pc := 74) (v := (x11 + 1)) (lv' := [(11, .int (x11 + 1)), (9, .long v6), (0, .ref (b 0)), (1, .int x1), (2, .int x2), (3, .int x3), (4, .int x4), (5, .int x5), (6, .long x6), (8, .int x8)]) hx hb dX9_catOf_74 hl (k := 9) rfl rfl (Nat.le_of_ble_eq_true rfl) rfl (fun ls hl => ?_)
  refine lv_goto (pc := 77) (tgt := 40) hx hb dX9_catOf_77 (by decide) ?_
  have hf := Option.some.inj hf
  subst hf
  exact hK H locs ls hP hD hS (lv_sub hl [2, 3, 4, 5, 6, 7, 8, 9, 1, 0] rfl)
def f_X9_catOf_L40 (m_bowls : Int32) (x1 : Int32) (x8 : Int32) (x9 : Int64) (x11 : Int32) : Option ((Int64 × Int32) ⊕ (Int64)) :=
  if m_bowls ≤ x11 then (some (.inr x9)) else (bind1 (f_X9_isIn x8 x11) (fun r5 => if r5 = 0 then (f_X9_catOf_b71L40 m_bowls x1 x8 x11 (x1.toInt64) x9) else (f_X9_catOf_b71L40 m_bowls x1 x8 x11 (((16 : Int32) - x1).toInt64) x9)))
set_option maxHeartbeats 4000000 in
set_option maxRecDepth 100000 in
theorem k_X9_catOf_L40 (C : Cx RX9 cX9_catOf 12 D cA p s m args c) (hA : ∀ q, s.heap.size ≤ q → A q) (b : Nat → Nat) (m_latest : Int32) (m_cells : Int32) (m_wide : Int32) (m_houses : Int32) (m_bowls : Int32) (m_dogs : Int32) (m_gone : Int32) (m_sights : Int32) (m_drawn : Int32) (m_cell : Nat → Int32) (m_house : Nat → Int32) (m_settings : Nat → Int32) (m_bowl : Nat → Int32) (m_dog : Nat → Int32) (m_path : Nat → Int32) (m_steps : Nat → Int32) (m_line : Nat → Int32) (x1 : Int32) (x2 : Int32) (x3 : Int32) (x4 : Int32) (x5 : Int32) (x6 : Int64) (x8 : Int32) (x9 : Int64) (x11 : Int32) (r : (Int64 × Int32) ⊕ (Int64)) (hf : f_X9_catOf_L40 m_bowls x1 x8 x9 x11 = some r) (hK : Sum.elim (fun q : Int64 × Int32 => At p l e rm_X9_catOf s m args below meth c D A 0 0 Q 12 40 (wl_X9_catOf cA b m_latest m_cells m_wide m_houses m_bowls m_dogs m_gone m_sights m_drawn m_cell m_house m_settings m_bowl m_dog m_path m_steps m_line) [(0, .ref (b 0)), (1, .int x1), (2, .int x2), (3, .int x3), (4, .int x4), (5, .int x5), (6, .long x6), (8, .int x8), (9, .long (q.1)), (11, .int (q.2))] []) (fun q : Int64 => At p l e rm_X9_catOf s m args below meth c D A 0 0 Q 12 80 (wl_X9_catOf cA b m_latest m_cells m_wide m_houses m_bowls m_dogs m_gone m_sights m_drawn m_cell m_house m_settings m_bowl m_dog m_path m_steps m_line) [(0, .ref (b 0)), (1, .int x1), (2, .int x2), (3, .int x3), (4, .int x4), (5, .int x5), (6, .long x6), (8, .int x8), (9, .long q)] []) r) : At p l e rm_X9_catOf s m args below meth c D A 0 0 Q 12 40 (wl_X9_catOf cA b m_latest m_cells m_wide m_houses m_bowls m_dogs m_gone m_sights m_drawn m_cell m_house m_settings m_bowl m_dog m_path m_steps m_line) [(0, .ref (b 0)), (1, .int x1), (2, .int x2), (3, .int x3), (4, .int x4), (5, .int x5), (6, .long x6), (8, .int x8), (9, .long x9), (11, .int x11)] [] := by
  intro H locs ls hP hD hS hl
  have hx := C.1
  have hb := C.2.1
  have hown := C.2.2.2.1
  have hts := C.2.2.2.2.1
  unfold f_X9_catOf_L40 at hf
  refine lv_iload (pc := 40) hx hb dX9_catOf_40 (lv_at hl 9 rfl) ?_
  refine lv_aload_n (pc := 42) hx hb dX9_catOf_42 rfl (lv_at hl 0 rfl) ?_
  refine g_get (pc := 43) C fg_X9_133 hP 0 rfl rfl dX9_catOf_43 ?_
  refine lv_icmp_ge (pc := 46) (tgt := 80) hx hb dX9_catOf_46 (by decide) (fun hc => ?_) (fun hc => ?_)
  · have hf := (if_pos hc).symm.trans hf
    have hf := Option.some.inj hf
    subst hf
    exact hK H locs ls hP hD hS (lv_sub hl [0, 1, 2, 3, 4, 5, 6, 7, 8] rfl)
  · have hf := (if_neg hc).symm.trans hf
    refine lv_lload (pc := 49) hx hb dX9_catOf_49 (lv_at hl 8 rfl) ?_
    refine lv_iload (pc := 51) hx hb dX9_catOf_51 (lv_at hl 7 rfl) ?_
    refine lv_iload (pc := 53) hx hb dX9_catOf_53 (lv_at hl 9 rfl) ?_
    obtain ⟨r5, hq, hf⟩ := bind1_some hf
    refine fin2_i (wl_X9_catOf cA b m_latest m_cells m_wide m_houses m_bowls m_dogs m_gone m_sights m_drawn m_cell m_house m_settings m_bowl m_dog m_path m_steps m_line) (run_S (rest := [.long x9]) (pc := 55) (As := [.int x8, .int x11]) C mf_X9_155 (c_X9_isIn l D cA  x8 x11 r5 hq H.size) rfl rfl ⟨(Nat.le_of_ble_eq_true rfl), (Nat.le_of_ble_eq_true rfl)⟩ (preS_of C hP hD [] rfl (pl_nd pv_165)) rfl hl.1 rfl (Nat.le_of_ble_eq_true rfl) dX9_catOf_55 ⟨Nat.zero_le _, Nat.zero_le _⟩) hP hD hS hA [] [0, 1, 2, 3, 4, 5, 6, 7, 8] rfl rfl rfl rfl pv_165 (fun H locs hP hS => ?_)
    refine lv_if_eq (pc := 58) (tgt := 69) hx hb dX9_catOf_58 (by decide) (fun hc => ?_) (fun hc => ?_)
    · have hf := (if_pos hc).symm.trans hf
      refine lv_iload_n (pc := 69) hx hb dX9_catOf_69 rfl (lv_at hl 1 rfl) ?_
      refine lv_i2l (pc := 70) hx hb dX9_catOf_70 rfl ?_
      exact k_X9_catOf_b71L40 C hA b m_latest m_cells m_wide m_houses m_bowls m_dogs m_gone m_sights m_drawn m_cell m_house m_settings m_bowl m_dog m_path m_steps m_line x1 x2 x3 x4 x5 x6 x8 x11 (x1.toInt64) x9 r hf hK H locs ls hP hD hS (lv_sub hl [0, 1, 2, 3, 4, 5, 6, 7, 9] rfl)
    · have hf := (if_neg hc).symm.trans hf
      refine lv_bipush (pc := 61) (v := 16) hx hb dX9_catOf_61 bp_16 ?_
      refine lv_iload_n (pc := 63) hx hb dX9_catOf_63 rfl (lv_at hl 1 rfl) ?_
      refine lv_isub (pc := 64) hx hb dX9_catOf_64 ?_
      refine lv_i2l (pc := 65) hx hb dX9_catOf_65 rfl ?_
      refine lv_goto (pc := 66) (tgt := 71) hx hb dX9_catOf_66 (by decide) ?_
      exact k_X9_catOf_b71L40 C hA b m_latest m_cells m_wide m_houses m_bowls m_dogs m_gone m_sights m_drawn m_cell m_house m_settings m_bowl m_dog m_path m_steps m_line x1 x2 x3 x4 x5 x6 x8 x11 (((16 : Int32) - x1).toInt64) x9 r hf hK H locs ls hP hD hS (lv_sub hl [0, 1, 2, 3, 4, 5, 6, 7, 9] rfl)
theorem kl_X9_catOf_L40 (C : Cx RX9 cX9_catOf 12 D cA p s m args c) (hA : ∀ q, s.heap.size ≤ q → A q) (b : Nat → Nat) (m_latest : Int32) (m_cells : Int32) (m_wide : Int32) (m_houses : Int32) (m_bowls : Int32) (m_dogs : Int32) (m_gone : Int32) (m_sights : Int32) (m_drawn : Int32) (m_cell : Nat → Int32) (m_house : Nat → Int32) (m_settings : Nat → Int32) (m_bowl : Nat → Int32) (m_dog : Nat → Int32) (m_path : Nat → Int32) (m_steps : Nat → Int32) (m_line : Nat → Int32) (x1 : Int32) (x2 : Int32) (x3 : Int32) (x4 : Int32) (x5 : Int32) (x6 : Int64) (x8 : Int32) : ∀ (n : Nat) (q : Int64 × Int32) (z : (Int64)), loopF (fun q : Int64 × Int32 => f_X9_catOf_L40 m_bowls x1 x8 q.1 q.2) n q = some z → (fun q : Int64 => At p l e rm_X9_catOf s m args below meth c D A 0 0 Q 12 80 (wl_X9_catOf cA b m_latest m_cells m_wide m_houses m_bowls m_dogs m_gone m_sights m_drawn m_cell m_house m_settings m_bowl m_dog m_path m_steps m_line) [(0, .ref (b 0)), (1, .int x1), (2, .int x2), (3, .int x3), (4, .int x4), (5, .int x5), (6, .long x6), (8, .int x8), (9, .long q)] []) z → At p l e rm_X9_catOf s m args below meth c D A 0 0 Q 12 40 (wl_X9_catOf cA b m_latest m_cells m_wide m_houses m_bowls m_dogs m_gone m_sights m_drawn m_cell m_house m_settings m_bowl m_dog m_path m_steps m_line) [(0, .ref (b 0)), (1, .int x1), (2, .int x2), (3, .int x3), (4, .int x4), (5, .int x5), (6, .long x6), (8, .int x8), (9, .long (q.1)), (11, .int (q.2))] [] :=
  loop_lem (WP := fun q : Int64 × Int32 => At p l e rm_X9_catOf s m args below meth c D A 0 0 Q 12 40 (wl_X9_catOf cA b m_latest m_cells m_wide m_houses m_bowls m_dogs m_gone m_sights m_drawn m_cell m_house m_settings m_bowl m_dog m_path m_steps m_line) [(0, .ref (b 0)), (1, .int x1), (2, .int x2), (3, .int x3), (4, .int x4), (5, .int x5), (6, .long x6), (8, .int x8), (9, .long (q.1)), (11, .int (q.2))] []) (WE := (fun q : Int64 => At p l e rm_X9_catOf s m args below meth c D A 0 0 Q 12 80 (wl_X9_catOf cA b m_latest m_cells m_wide m_houses m_bowls m_dogs m_gone m_sights m_drawn m_cell m_house m_settings m_bowl m_dog m_path m_steps m_line) [(0, .ref (b 0)), (1, .int x1), (2, .int x2), (3, .int x3), (4, .int x4), (5, .int x5), (6, .long x6), (8, .int x8), (9, .long q)] [])) (fun q r hf hK => k_X9_catOf_L40 C hA b m_latest m_cells m_wide m_houses m_bowls m_dogs m_gone m_sights m_drawn m_cell m_house m_settings m_bowl m_dog m_path m_steps m_line x1 x2 x3 x4 x5 x6 x8 q.1 q.2 r hf hK)
def f_X9_catOf_L6 (m_cells : Int32) (m_wide : Int32) (m_bowls : Int32) (m_dogs : Int32) (m_cell : Nat → Int32) (m_house : Nat → Int32) (m_settings : Nat → Int32) (m_bowl : Nat → Int32) (m_dog : Nat → Int32) (x1 : Int32) (x2 : Int32) (x3 : Int32) (x4 : Int32) (x6 : Int64) (x8 : Int32) (m_gone : Int32) (m_path : Nat → Int32) (m_steps : Nat → Int32) (m_line : Nat → Int32) : Option ((Int64 × Int32 × Int32 × (Nat → Int32) × (Nat → Int32) × (Nat → Int32)) ⊕ (Int64 × Int32 × (Nat → Int32) × (Nat → Int32) × (Nat → Int32))) :=
  if ((1 : Int32) <<< (m_bowls &&& 31)) ≤ x8 then (some (.inr (x6, m_gone, m_path, m_steps, m_line))) else (bind4 (f_X9_isSo m_cells m_wide m_bowls m_dogs x8 m_cell m_house m_settings m_bowl m_dog m_path m_steps m_line x2 x3 x4) (fun r1 c2 c3 c4 => if r1 = 0 then (f_X9_catOf_b87L6 m_cells m_wide m_bowls m_dogs x8 m_cell m_house m_settings m_bowl m_dog c2 c3 c4 x1 x2 x3 x4 x6 x8) else (bind1 (loopF (fun q : Int64 × Int32 => f_X9_catOf_L40 m_bowls x1 x8 q.1 q.2) FU ((1 : Int64), (0 : Int32))) (fun u7 => letv ((x6 + u7)) (fun v8 => f_X9_catOf_b87L6 m_cells m_wide m_bowls m_dogs x8 m_cell m_house m_settings m_bowl m_dog c2 c3 c4 x1 x2 x3 x4 v8 x8)))))
set_option maxHeartbeats 4000000 in
set_option maxRecDepth 100000 in
theorem k_X9_catOf_L6 (C : Cx RX9 cX9_catOf 12 D cA p s m args c) (hA : ∀ q, s.heap.size ≤ q → A q) (b : Nat → Nat) (m_latest : Int32) (m_cells : Int32) (m_wide : Int32) (m_houses : Int32) (m_bowls : Int32) (m_dogs : Int32) (m_sights : Int32) (m_drawn : Int32) (m_cell : Nat → Int32) (m_house : Nat → Int32) (m_settings : Nat → Int32) (m_bowl : Nat → Int32) (m_dog : Nat → Int32) (x1 : Int32) (x2 : Int32) (x3 : Int32) (x4 : Int32) (x5 : Int32) (x6 : Int64) (x8 : Int32) (m_gone : Int32) (m_path : Nat → Int32) (m_steps : Nat → Int32) (m_line : Nat → Int32) (r : (Int64 × Int32 × Int32 × (Nat → Int32) × (Nat → Int32) × (Nat → Int32)) ⊕ (Int64 × Int32 × (Nat → Int32) × (Nat → Int32) × (Nat → Int32))) (hf : f_X9_catOf_L6 m_cells m_wide m_bowls m_dogs m_cell m_house m_settings m_bowl m_dog x1 x2 x3 x4 x6 x8 m_gone m_path m_steps m_line = some r) (hK : Sum.elim (fun q : Int64 × Int32 × Int32 × (Nat → Int32) × (Nat → Int32) × (Nat → Int32) => At p l e rm_X9_catOf s m args below meth c D A 0 0 Q 12 6 (wl_X9_catOf cA b m_latest m_cells m_wide m_houses m_bowls m_dogs (q.2.2.1) m_sights m_drawn m_cell m_house m_settings m_bowl m_dog (q.2.2.2.1) (q.2.2.2.2.1) (q.2.2.2.2.2)) [(0, .ref (b 0)), (1, .int x1), (2, .int x2), (3, .int x3), (4, .int x4), (5, .int x5), (6, .long (q.1)), (8, .int (q.2.1))] []) (fun q : Int64 × Int32 × (Nat → Int32) × (Nat → Int32) × (Nat → Int32) => At p l e rm_X9_catOf s m args below meth c D A 0 0 Q 12 93 (wl_X9_catOf cA b m_latest m_cells m_wide m_houses m_bowls m_dogs (q.2.1) m_sights m_drawn m_cell m_house m_settings m_bowl m_dog (q.2.2.1) (q.2.2.2.1) (q.2.2.2.2)) [(0, .ref (b 0)), (5, .int x5), (6, .long (q.1))] []) r) : At p l e rm_X9_catOf s m args below meth c D A 0 0 Q 12 6 (wl_X9_catOf cA b m_latest m_cells m_wide m_houses m_bowls m_dogs m_gone m_sights m_drawn m_cell m_house m_settings m_bowl m_dog m_path m_steps m_line) [(0, .ref (b 0)), (1, .int x1), (2, .int x2), (3, .int x3), (4, .int x4), (5, .int x5), (6, .long x6), (8, .int x8)] [] := by
  intro H locs ls hP hD hS hl
  have hx := C.1
  have hb := C.2.1
  have hown := C.2.2.2.1
  have hts := C.2.2.2.2.1
  unfold f_X9_catOf_L6 at hf
  refine lv_iload (pc := 6) hx hb dX9_catOf_6 (lv_at hl 7 rfl) ?_
  refine lv_iconst (pc := 8) (v := 1) hx hb dX9_catOf_8 ic_1 ?_
  refine lv_aload_n (pc := 9) hx hb dX9_catOf_9 rfl (lv_at hl 0 rfl) ?_
  refine g_get (pc := 10) C fg_X9_133 hP 0 rfl rfl dX9_catOf_10 ?_
  refine lv_ishl (pc := 13) hx hb dX9_catOf_13 ?_
  refine lv_icmp_ge (pc := 14) (tgt := 93) hx hb dX9_catOf_14 (by decide) (fun hc => ?_) (fun hc => ?_)
  · have hf := (if_pos hc).symm.trans hf
    have hf := Option.some.inj hf
    subst hf
    exact hK H locs ls hP hD hS (lv_sub hl [0, 5, 6] rfl)
  · have hf := (if_neg hc).symm.trans hf
    refine lv_aload_n (pc := 17) hx hb dX9_catOf_17 rfl (lv_at hl 0 rfl) ?_
    refine lv_iload (pc := 18) hx hb dX9_catOf_18 (lv_at hl 7 rfl) ?_
    refine g_put (pc := 20) C fg_X9_152 ft_X9_17 hP hD hS 0 rfl rfl rfl (Nat.le_of_ble_eq_true rfl) dX9_catOf_20 (fun H locs hP hD hS => ?_)
    have hP : va_P D classes (wl_X9_catOf cA b m_latest m_cells m_wide m_houses m_bowls m_dogs x8 m_sights m_drawn m_cell m_house m_settings m_bowl m_dog m_path m_steps m_line) H := hP
    have hD : va_D A (wl_X9_catOf cA b m_latest m_cells m_wide m_houses m_bowls m_dogs x8 m_sights m_drawn m_cell m_house m_settings m_bowl m_dog m_path m_steps m_line) := hD
    refine lv_aload_n (pc := 23) hx hb dX9_catOf_23 rfl (lv_at hl 0 rfl) ?_
    refine lv_iload_n (pc := 24) hx hb dX9_catOf_24 rfl (lv_at hl 2 rfl) ?_
    refine lv_iload_n (pc := 25) hx hb dX9_catOf_25 rfl (lv_at hl 3 rfl) ?_
    refine lv_iload (pc := 26) hx hb dX9_catOf_26 (lv_at hl 4 rfl) ?_
    obtain ⟨r1, c2, c3, c4, hq, hf⟩ := bind4_some hf
    refine fin2_i (wl_X9_catOf cA b m_latest m_cells m_wide m_houses m_bowls m_dogs x8 m_sights m_drawn m_cell m_house m_settings m_bowl m_dog c2 c3 c4) (run_V (rest := []) (pc := 28) (As := [.int x2, .int x3, .int x4]) C mf_X9_210 (c_X9_isSo l D cA b m_latest m_cells m_wide m_houses m_bowls m_dogs x8 m_sights m_drawn m_cell m_house m_settings m_bowl m_dog m_path m_steps m_line x2 x3 x4 (r1, c2, c3, c4) hq H.size) rfl rfl ⟨(Nat.le_of_ble_eq_true rfl), (Nat.le_of_ble_eq_true rfl)⟩ (preV_of C hP hD [0, 1, 2, 3, 4, 5, 6, 7, 8] rfl (pl_nd pv_149) 0 rfl rfl rfl) rfl hl.1 rfl (Nat.le_of_ble_eq_true rfl) dX9_catOf_28 ⟨Nat.zero_le _, Nat.zero_le _⟩) hP hD hS hA [0, 1, 2, 3, 4, 5, 6, 7, 8] [] rfl rfl rfl rfl pv_149 (fun H locs hP hS => ?_)
    have hD : va_D A (wl_X9_catOf cA b m_latest m_cells m_wide m_houses m_bowls m_dogs x8 m_sights m_drawn m_cell m_house m_settings m_bowl m_dog c2 c3 c4) := vd_a hD rfl
    refine lv_if_eq (pc := 31) (tgt := 87) hx hb dX9_catOf_31 (by decide) (fun hc => ?_) (fun hc => ?_)
    · have hf := (if_pos hc).symm.trans hf
      exact k_X9_catOf_b87L6 C hA b m_latest m_cells m_wide m_houses m_bowls m_dogs x8 m_sights m_drawn m_cell m_house m_settings m_bowl m_dog c2 c3 c4 x1 x2 x3 x4 x5 x6 x8 r hf hK H locs ls hP hD hS hl
    · have hf := (if_neg hc).symm.trans hf
      refine lv_lconst (pc := 34) (v := 1) hx hb dX9_catOf_34 rfl ?_
      refine lv_lstore (pc := 35) (lv' := [(9, .long (1 : Int64)), (0, .ref (b 0)), (1, .int x1), (2, .int x2), (3, .int x3), (4, .int x4), (5, .int x5), (6, .long x6), (8, .int x8)]) hx hb dX9_catOf_35 hl (Nat.le_of_ble_eq_true rfl) rfl (fun ls hl => ?_)
      refine lv_iconst (pc := 37) (v := 0) hx hb dX9_catOf_37 ic_0 ?_
      refine lv_istore (pc := 38) (lv' := [(11, .int (0 : Int32)), (9, .long (1 : Int64)), (0, .ref (b 0)), (1, .int x1), (2, .int x2), (3, .int x3), (4, .int x4), (5, .int x5), (6, .long x6), (8, .int x8)]) hx hb dX9_catOf_38 hl (Nat.le_of_ble_eq_true rfl) rfl (fun ls hl => ?_)
      obtain ⟨u7, hq, hf⟩ := bind1_some hf
      refine kl_X9_catOf_L40 C hA b m_latest m_cells m_wide m_houses m_bowls m_dogs x8 m_sights m_drawn m_cell m_house m_settings m_bowl m_dog c2 c3 c4 x1 x2 x3 x4 x5 x6 x8 FU ((1 : Int64), (0 : Int32)) _ hq ?_ H locs ls hP hD hS (lv_sub hl [2, 3, 4, 5, 6, 7, 8, 9, 1, 0] rfl)
      intro H locs ls hP hD hS hl
      have hP : va_P D classes (wl_X9_catOf cA b m_latest m_cells m_wide m_houses m_bowls m_dogs x8 m_sights m_drawn m_cell m_house m_settings m_bowl m_dog c2 c3 c4) H := hP
      have hD : va_D A (wl_X9_catOf cA b m_latest m_cells m_wide m_houses m_bowls m_dogs x8 m_sights m_drawn m_cell m_house m_settings m_bowl m_dog c2 c3 c4) := hD
      have hl : lv_has ls 12 [(0, .ref (b 0)), (1, .int x1), (2, .int x2), (3, .int x3), (4, .int x4), (5, .int x5), (6, .long x6), (8, .int x8), (9, .long u7)] := hl
      refine lv_lload (pc := 80) hx hb dX9_catOf_80 (lv_at hl 6 rfl) ?_
      refine lv_lload (pc := 82) hx hb dX9_catOf_82 (lv_at hl 8 rfl) ?_
      refine lv_ladd (pc := 84) hx hb dX9_catOf_84 ?_
      obtain ⟨v8, e_v8, hf⟩ := letv_some hf
      refine tp_l e_v8 ?_
      refine lv_lstore (pc := 85) (lv' := [(6, .long v8), (0, .ref (b 0)), (1, .int x1), (2, .int x2), (3, .int x3), (4, .int x4), (5, .int x5), (8, .int x8), (9, .long u7)]) hx hb dX9_catOf_85 hl (Nat.le_of_ble_eq_true rfl) rfl (fun ls hl => ?_)
      exact k_X9_catOf_b87L6 C hA b m_latest m_cells m_wide m_houses m_bowls m_dogs x8 m_sights m_drawn m_cell m_house m_settings m_bowl m_dog c2 c3 c4 x1 x2 x3 x4 x5 v8 x8 r hf hK H locs ls hP hD hS (lv_sub hl [1, 2, 3, 4, 5, 6, 0, 7] rfl)
theorem kl_X9_catOf_L6 (C : Cx RX9 cX9_catOf 12 D cA p s m args c) (hA : ∀ q, s.heap.size ≤ q → A q) (b : Nat → Nat) (m_latest : Int32) (m_cells : Int32) (m_wide : Int32) (m_houses : Int32) (m_bowls : Int32) (m_dogs : Int32) (m_sights : Int32) (m_drawn : Int32) (m_cell : Nat → Int32) (m_house : Nat → Int32) (m_settings : Nat → Int32) (m_bowl : Nat → Int32) (m_dog : Nat → Int32) (x1 : Int32) (x2 : Int32) (x3 : Int32) (x4 : Int32) (x5 : Int32) : ∀ (n : Nat) (q : Int64 × Int32 × Int32 × (Nat → Int32) × (Nat → Int32) × (Nat → Int32)) (z : (Int64 × Int32 × (Nat → Int32) × (Nat → Int32) × (Nat → Int32))), loopF (fun q : Int64 × Int32 × Int32 × (Nat → Int32) × (Nat → Int32) × (Nat → Int32) => f_X9_catOf_L6 m_cells m_wide m_bowls m_dogs m_cell m_house m_settings m_bowl m_dog x1 x2 x3 x4 q.1 q.2.1 q.2.2.1 q.2.2.2.1 q.2.2.2.2.1 q.2.2.2.2.2) n q = some z → (fun q : Int64 × Int32 × (Nat → Int32) × (Nat → Int32) × (Nat → Int32) => At p l e rm_X9_catOf s m args below meth c D A 0 0 Q 12 93 (wl_X9_catOf cA b m_latest m_cells m_wide m_houses m_bowls m_dogs (q.2.1) m_sights m_drawn m_cell m_house m_settings m_bowl m_dog (q.2.2.1) (q.2.2.2.1) (q.2.2.2.2)) [(0, .ref (b 0)), (5, .int x5), (6, .long (q.1))] []) z → At p l e rm_X9_catOf s m args below meth c D A 0 0 Q 12 6 (wl_X9_catOf cA b m_latest m_cells m_wide m_houses m_bowls m_dogs (q.2.2.1) m_sights m_drawn m_cell m_house m_settings m_bowl m_dog (q.2.2.2.1) (q.2.2.2.2.1) (q.2.2.2.2.2)) [(0, .ref (b 0)), (1, .int x1), (2, .int x2), (3, .int x3), (4, .int x4), (5, .int x5), (6, .long (q.1)), (8, .int (q.2.1))] [] :=
  loop_lem (WP := fun q : Int64 × Int32 × Int32 × (Nat → Int32) × (Nat → Int32) × (Nat → Int32) => At p l e rm_X9_catOf s m args below meth c D A 0 0 Q 12 6 (wl_X9_catOf cA b m_latest m_cells m_wide m_houses m_bowls m_dogs (q.2.2.1) m_sights m_drawn m_cell m_house m_settings m_bowl m_dog (q.2.2.2.1) (q.2.2.2.2.1) (q.2.2.2.2.2)) [(0, .ref (b 0)), (1, .int x1), (2, .int x2), (3, .int x3), (4, .int x4), (5, .int x5), (6, .long (q.1)), (8, .int (q.2.1))] []) (WE := (fun q : Int64 × Int32 × (Nat → Int32) × (Nat → Int32) × (Nat → Int32) => At p l e rm_X9_catOf s m args below meth c D A 0 0 Q 12 93 (wl_X9_catOf cA b m_latest m_cells m_wide m_houses m_bowls m_dogs (q.2.1) m_sights m_drawn m_cell m_house m_settings m_bowl m_dog (q.2.2.1) (q.2.2.2.1) (q.2.2.2.2)) [(0, .ref (b 0)), (5, .int x5), (6, .long (q.1))] [])) (fun q r hf hK => k_X9_catOf_L6 C hA b m_latest m_cells m_wide m_houses m_bowls m_dogs m_sights m_drawn m_cell m_house m_settings m_bowl m_dog x1 x2 x3 x4 x5 q.1 q.2.1 q.2.2.1 q.2.2.2.1 q.2.2.2.2.1 q.2.2.2.2.2 r hf hK)
def f_X9_catOf (m_cells : Int32) (m_wide : Int32) (m_bowls : Int32) (m_dogs : Int32) (m_gone : Int32) (m_cell : Nat → Int32) (m_house : Nat → Int32) (m_settings : Nat → Int32) (m_bowl : Nat → Int32) (m_dog : Nat → Int32) (m_path : Nat → Int32) (m_steps : Nat → Int32) (m_line : Nat → Int32) (x1 : Int32) (x2 : Int32) (x3 : Int32) (x4 : Int32) (x5 : Int32) : Option (Int64 × Int32 × (Nat → Int32) × (Nat → Int32) × (Nat → Int32)) :=
  bind5 (loopF (fun q : Int64 × Int32 × Int32 × (Nat → Int32) × (Nat → Int32) × (Nat → Int32) => f_X9_catOf_L6 m_cells m_wide m_bowls m_dogs m_cell m_house m_settings m_bowl m_dog x1 x2 x3 x4 q.1 q.2.1 q.2.2.1 q.2.2.2.1 q.2.2.2.2.1 q.2.2.2.2.2) FU ((0 : Int64), (0 : Int32), m_gone, m_path, m_steps, m_line)) (fun u9 u10 u11 u12 u13 => bind1 (f_X9_part u9 ((1 : Int64) <<< (((4 : Int32) * m_bowls).toInt64 &&& 63)) x5) (fun r14 => some (r14, (0 : Int32), u11, u12, u13)))
set_option maxHeartbeats 4000000 in
set_option maxRecDepth 100000 in
theorem k_X9_catOf (C : Cx RX9 cX9_catOf 12 D cA p s m args c) (hr : meth.sig.returnType = (some .long)) (hlk : meth.locks = false) (hA : ∀ q, s.heap.size ≤ q → va_A ws0 sz q) (b : Nat → Nat) (m_latest : Int32) (m_cells : Int32) (m_wide : Int32) (m_houses : Int32) (m_bowls : Int32) (m_dogs : Int32) (m_gone : Int32) (m_sights : Int32) (m_drawn : Int32) (m_cell : Nat → Int32) (m_house : Nat → Int32) (m_settings : Nat → Int32) (m_bowl : Nat → Int32) (m_dog : Nat → Int32) (m_path : Nat → Int32) (m_steps : Nat → Int32) (m_line : Nat → Int32) (x1 : Int32) (x2 : Int32) (x3 : Int32) (x4 : Int32) (x5 : Int32) (r : Int64 × Int32 × (Nat → Int32) × (Nat → Int32) × (Nat → Int32)) (hf : f_X9_catOf m_cells m_wide m_bowls m_dogs m_gone m_cell m_house m_settings m_bowl m_dog m_path m_steps m_line x1 x2 x3 x4 x5 = some r) : At p l e rm_X9_catOf s m args below meth c D (va_A ws0 sz) 0 0 (MQ below (PostL D r.1 ws0 (wl_X9_catOf cA b m_latest m_cells m_wide m_houses m_bowls m_dogs (r.2.1) m_sights m_drawn m_cell m_house m_settings m_bowl m_dog (r.2.2.1) (r.2.2.2.1) (r.2.2.2.2)) sz) args s 0 0 (va_A ws0 sz)) 12 0 (wl_X9_catOf cA b m_latest m_cells m_wide m_houses m_bowls m_dogs m_gone m_sights m_drawn m_cell m_house m_settings m_bowl m_dog m_path m_steps m_line) [(0, .ref (b 0)), (1, .int x1), (2, .int x2), (3, .int x3), (4, .int x4), (5, .int x5)] [] := by
  intro H locs ls hP hD hS hl
  have hx := C.1
  have hb := C.2.1
  have hown := C.2.2.2.1
  have hts := C.2.2.2.2.1
  unfold f_X9_catOf at hf
  refine lv_lconst (pc := 0) (v := 0) hx hb dX9_catOf_0 rfl ?_
  refine lv_lstore (pc := 1) (lv' := [(6, .long (0 : Int64)), (0, .ref (b 0)), (1, .int x1), (2, .int x2), (3, .int x3), (4, .int x4), (5, .int x5)]) hx hb dX9_catOf_1 hl (Nat.le_of_ble_eq_true rfl) rfl (fun ls hl => ?_)
  refine lv_iconst (pc := 3) (v := 0) hx hb dX9_catOf_3 ic_0 ?_
  refine lv_istore (pc := 4) (lv' := [(8, .int (0 : Int32)), (6, .long (0 : Int64)), (0, .ref (b 0)), (1, .int x1), (2, .int x2), (3, .int x3), (4, .int x4), (5, .int x5)]) hx hb dX9_catOf_4 hl (Nat.le_of_ble_eq_true rfl) rfl (fun ls hl => ?_)
  obtain ⟨u9, u10, u11, u12, u13, hq, hf⟩ := bind5_some hf
  refine kl_X9_catOf_L6 C hA b m_latest m_cells m_wide m_houses m_bowls m_dogs m_sights m_drawn m_cell m_house m_settings m_bowl m_dog x1 x2 x3 x4 x5 FU ((0 : Int64), (0 : Int32), m_gone, m_path, m_steps, m_line) _ hq ?_ H locs ls hP hD hS (lv_sub hl [2, 3, 4, 5, 6, 7, 1, 0] rfl)
  intro H locs ls hP hD hS hl
  have hP : va_P D classes (wl_X9_catOf cA b m_latest m_cells m_wide m_houses m_bowls m_dogs u10 m_sights m_drawn m_cell m_house m_settings m_bowl m_dog u11 u12 u13) H := hP
  have hD : va_D (va_A ws0 sz) (wl_X9_catOf cA b m_latest m_cells m_wide m_houses m_bowls m_dogs u10 m_sights m_drawn m_cell m_house m_settings m_bowl m_dog u11 u12 u13) := hD
  have hl : lv_has ls 12 [(0, .ref (b 0)), (5, .int x5), (6, .long u9)] := hl
  refine lv_aload_n (pc := 93) hx hb dX9_catOf_93 rfl (lv_at hl 0 rfl) ?_
  refine lv_iconst (pc := 94) (v := 0) hx hb dX9_catOf_94 ic_0 ?_
  refine g_put (pc := 95) C fg_X9_152 ft_X9_17 hP hD hS 0 rfl rfl rfl (Nat.le_of_ble_eq_true rfl) dX9_catOf_95 (fun H locs hP hD hS => ?_)
  have hP : va_P D classes (wl_X9_catOf cA b m_latest m_cells m_wide m_houses m_bowls m_dogs (0 : Int32) m_sights m_drawn m_cell m_house m_settings m_bowl m_dog u11 u12 u13) H := hP
  have hD : va_D (va_A ws0 sz) (wl_X9_catOf cA b m_latest m_cells m_wide m_houses m_bowls m_dogs (0 : Int32) m_sights m_drawn m_cell m_house m_settings m_bowl m_dog u11 u12 u13) := hD
  refine lv_lload (pc := 98) hx hb dX9_catOf_98 (lv_at hl 2 rfl) ?_
  refine lv_lconst (pc := 100) (v := 1) hx hb dX9_catOf_100 rfl ?_
  refine lv_iconst (pc := 101) (v := 4) hx hb dX9_catOf_101 ic_4 ?_
  refine lv_aload_n (pc := 102) hx hb dX9_catOf_102 rfl (lv_at hl 0 rfl) ?_
  refine g_get (pc := 103) C fg_X9_133 hP 0 rfl rfl dX9_catOf_103 ?_
  refine lv_imul (pc := 106) hx hb dX9_catOf_106 ?_
  refine lv_lshl (pc := 107) hx hb dX9_catOf_107 rfl ?_
  refine lv_iload (pc := 108) hx hb dX9_catOf_108 (lv_at hl 1 rfl) ?_
  obtain ⟨r14, hq, hf⟩ := bind1_some hf
  refine fin2_l (wl_X9_catOf cA b m_latest m_cells m_wide m_houses m_bowls m_dogs (0 : Int32) m_sights m_drawn m_cell m_house m_settings m_bowl m_dog u11 u12 u13) (run_S (rest := []) (pc := 110) (As := [.long u9, .long ((1 : Int64) <<< (((4 : Int32) * m_bowls).toInt64 &&& 63)), .int x5]) C mf_X9_246 (c_X9_part l D cA  u9 ((1 : Int64) <<< (((4 : Int32) * m_bowls).toInt64 &&& 63)) x5 r14 hq H.size) rfl rfl ⟨(Nat.le_of_ble_eq_true rfl), (Nat.le_of_ble_eq_true rfl)⟩ (preS_of C hP hD [] rfl (pl_nd pv_165)) rfl hl.1 rfl (Nat.le_of_ble_eq_true rfl) dX9_catOf_110 ⟨Nat.zero_le _, Nat.zero_le _⟩) hP hD hS hA [] [0, 1, 2, 3, 4, 5, 6, 7, 8] rfl rfl rfl rfl pv_165 (fun H locs hP hS => ?_)
  have hf := Option.some.inj hf
  subst hf
  exact ret_l C hr hlk hP hS dX9_catOf_113
set_option maxRecDepth 100000 in
theorem c_X9_catOf (l : Launch) (D : va_G) (cA : Nat → ClassId) (b : Nat → Nat) (m_latest : Int32) (m_cells : Int32) (m_wide : Int32) (m_houses : Int32) (m_bowls : Int32) (m_dogs : Int32) (m_gone : Int32) (m_sights : Int32) (m_drawn : Int32) (m_cell : Nat → Int32) (m_house : Nat → Int32) (m_settings : Nat → Int32) (m_bowl : Nat → Int32) (m_dog : Nat → Int32) (m_path : Nat → Int32) (m_steps : Nat → Int32) (m_line : Nat → Int32) (x1 : Int32) (x2 : Int32) (x3 : Int32) (x4 : Int32) (x5 : Int32) (r : Int64 × Int32 × (Nat → Int32) × (Nat → Int32) × (Nat → Int32)) (hf : f_X9_catOf m_cells m_wide m_bowls m_dogs m_gone m_cell m_house m_settings m_bowl m_dog m_path m_steps m_line x1 x2 x3 x4 x5 = some r) (sz : Nat) : Met l yX9_catOf (Cond.code yX9_catOf cX9_catOf 12 (some .long) :: lw_good) rm_X9_catOf (PreX D cA [.ref (b 0), .int x1, .int x2, .int x3, .int x4, .int x5] sz (wl_X9_catOf cA b m_latest m_cells m_wide m_houses m_bowls m_dogs m_gone m_sights m_drawn m_cell m_house m_settings m_bowl m_dog m_path m_steps m_line)) (PostL D r.1 (wl_X9_catOf cA b m_latest m_cells m_wide m_houses m_bowls m_dogs m_gone m_sights m_drawn m_cell m_house m_settings m_bowl m_dog m_path m_steps m_line) (wl_X9_catOf cA b m_latest m_cells m_wide m_houses m_bowls m_dogs (r.2.1) m_sights m_drawn m_cell m_house m_settings m_bowl m_dog (r.2.2.1) (r.2.2.2.1) (r.2.2.2.2)) sz) 0 0 (va_A (wl_X9_catOf cA b m_latest m_cells m_wide m_houses m_bowls m_dogs m_gone m_sights m_drawn m_cell m_house m_settings m_bowl m_dog m_path m_steps m_line) sz) :=
  met_of (by decide) (Nat.le_of_ble_eq_true rfl) (fun p e s m args below meth c C hr hlk hA => k_X9_catOf C hr hlk hA b m_latest m_cells m_wide m_houses m_bowls m_dogs m_gone m_sights m_drawn m_cell m_house m_settings m_bowl m_dog m_path m_steps m_line x1 x2 x3 x4 x5 r hf)
end

abbrev wl_X9_cat (cA : Nat → ClassId) (b : Nat → Nat) (m_latest : Int32) (m_cells : Int32) (m_wide : Int32) (m_houses : Int32) (m_bowls : Int32) (m_dogs : Int32) (m_gone : Int32) (m_sights : Int32) (m_drawn : Int32) (m_bytes : Nat → Int32) (m_typed : Nat → Int32) (m_cell : Nat → Int32) (m_house : Nat → Int32) (m_settings : Nat → Int32) (m_bowl : Nat → Int32) (m_dog : Nat → Int32) (m_path : Nat → Int32) (m_steps : Nat → Int32) (m_line : Nat → Int32) : va_W := [((b 0), .inr (9, [.ref (b 1), .ref (b 2), .ref (b 3), .ref (b 4), .int m_latest, .ref (b 5), .ref (b 6), .int m_cells, .int m_wide, .ref (b 7), .int m_houses, .ref (b 8), .ref (b 9), .int m_bowls, .ref (b 10), .int m_dogs, .ref (b 11), .int m_gone, .ref (b 12), .ref (b 13), .ref (b 14), .int m_sights, .ref (b 15), .ref (b 16), .int m_drawn])), ((b 5), .inl (cA 0, 84, .inl m_bytes)), ((b 6), .inl (cA 0, 2, .inl m_typed)), ((b 7), .inl (cA 0, 36, .inl m_cell)), ((b 8), .inl (cA 0, 16, .inl m_house)), ((b 9), .inl (cA 0, 2, .inl m_settings)), ((b 10), .inl (cA 0, 20, .inl m_bowl)), ((b 11), .inl (cA 0, 16, .inl m_dog)), ((b 12), .inl (cA 0, 250, .inl m_path)), ((b 13), .inl (cA 0, 10, .inl m_steps)), ((b 14), .inl (cA 0, 60, .inl m_line))]
abbrev rm_X9_cat : Room := { frames := 7, cells := 0, slots := 0, locals := 181 }
section
variable {p : Program} {l : Launch} {e : Env} {s : State} {m : MethodId} {args : Array Value} {below : List Frame} {meth : Method} {c : Code} {D : va_G} {cA : Nat → ClassId} {ws0 : va_W} {sz : Nat} {A : Nat → Prop} {Q : State → Prop}
def f_X9_cat_b66 (m_cells : Int32) (m_wide : Int32) (m_houses : Int32) (m_bowls : Int32) (m_dogs : Int32) (m_gone : Int32) (m_bytes : Nat → Int32) (m_typed : Nat → Int32) (m_cell : Nat → Int32) (m_house : Nat → Int32) (m_settings : Nat → Int32) (m_bowl : Nat → Int32) (m_dog : Nat → Int32) (m_path : Nat → Int32) (m_steps : Nat → Int32) (m_line : Nat → Int32) : Option (Int64 × Int32 × Int32 × Int32 × Int32 × (Nat → Int32) × (Nat → Int32) × (Nat → Int32) × (Nat → Int32) × (Nat → Int32)) :=
  bind1 (f_X9_no (-2 : Int32)) (fun r10 => some (r10, m_cells, m_wide, m_houses, m_gone, m_cell, m_house, m_path, m_steps, m_line))
set_option maxHeartbeats 4000000 in
set_option maxRecDepth 100000 in
theorem k_X9_cat_b66 (C : Cx RX9 cX9_cat 6 D cA p s m args c) (hr : meth.sig.returnType = (some .long)) (hlk : meth.locks = false) (hA : ∀ q, s.heap.size ≤ q → va_A ws0 sz q) (b : Nat → Nat) (m_latest : Int32) (m_cells : Int32) (m_wide : Int32) (m_houses : Int32) (m_bowls : Int32) (m_dogs : Int32) (m_gone : Int32) (m_sights : Int32) (m_drawn : Int32) (m_bytes : Nat → Int32) (m_typed : Nat → Int32) (m_cell : Nat → Int32) (m_house : Nat → Int32) (m_settings : Nat → Int32) (m_bowl : Nat → Int32) (m_dog : Nat → Int32) (m_path : Nat → Int32) (m_steps : Nat → Int32) (m_line : Nat → Int32) (r : Int64 × Int32 × Int32 × Int32 × Int32 × (Nat → Int32) × (Nat → Int32) × (Nat → Int32) × (Nat → Int32) × (Nat → Int32)) (hf : f_X9_cat_b66 m_cells m_wide m_houses m_bowls m_dogs m_gone m_bytes m_typed m_cell m_house m_settings m_bowl m_dog m_path m_steps m_line = some r) : At p l e rm_X9_cat s m args below meth c D (va_A ws0 sz) 0 0 (MQ below (PostL D r.1 ws0 (wl_X9_cat cA b m_latest (r.2.1) (r.2.2.1) (r.2.2.2.1) m_bowls m_dogs (r.2.2.2.2.1) m_sights m_drawn m_bytes m_typed (r.2.2.2.2.2.1) (r.2.2.2.2.2.2.1) m_settings m_bowl m_dog (r.2.2.2.2.2.2.2.1) (r.2.2.2.2.2.2.2.2.1) (r.2.2.2.2.2.2.2.2.2)) sz) args s 0 0 (va_A ws0 sz)) 6 66 (wl_X9_cat cA b m_latest m_cells m_wide m_houses m_bowls m_dogs m_gone m_sights m_drawn m_bytes m_typed m_cell m_house m_settings m_bowl m_dog m_path m_steps m_line) [] [] := by
  intro H locs ls hP hD hS hl
  have hx := C.1
  have hb := C.2.1
  have hown := C.2.2.2.1
  have hts := C.2.2.2.2.1
  unfold f_X9_cat_b66 at hf
  refine lv_bipush (pc := 66) (v := (-2)) hx hb dX9_cat_66 bp_m2 ?_
  obtain ⟨r10, hq, hf⟩ := bind1_some hf
  refine fin2_l (wl_X9_cat cA b m_latest m_cells m_wide m_houses m_bowls m_dogs m_gone m_sights m_drawn m_bytes m_typed m_cell m_house m_settings m_bowl m_dog m_path m_steps m_line) (run_S (rest := []) (pc := 68) (As := [.int (-2 : Int32)]) C mf_X9_256 (c_X9_no l D cA  (-2 : Int32) r10 hq H.size) rfl rfl ⟨(Nat.le_of_ble_eq_true rfl), (Nat.le_of_ble_eq_true rfl)⟩ (preS_of C hP hD [] rfl (pl_nd pv_139)) rfl hl.1 rfl (Nat.le_of_ble_eq_true rfl) dX9_cat_68 ⟨Nat.zero_le _, Nat.zero_le _⟩) hP hD hS hA [] [0, 1, 2, 3, 4, 5, 6, 7, 8, 9, 10] rfl rfl rfl rfl pv_139 (fun H locs hP hS => ?_)
  have hf := Option.some.inj hf
  subst hf
  exact ret_l C hr hlk hP hS dX9_cat_71
def f_X9_cat (m_cells : Int32) (m_wide : Int32) (m_houses : Int32) (m_bowls : Int32) (m_dogs : Int32) (m_gone : Int32) (m_bytes : Nat → Int32) (m_typed : Nat → Int32) (m_cell : Nat → Int32) (m_house : Nat → Int32) (m_settings : Nat → Int32) (m_bowl : Nat → Int32) (m_dog : Nat → Int32) (m_path : Nat → Int32) (m_steps : Nat → Int32) (m_line : Nat → Int32) (x1 : Int32) (x2 : Int32) (x3 : Int32) (x4 : Int32) (x5 : Int32) : Option (Int64 × Int32 × Int32 × Int32 × Int32 × (Nat → Int32) × (Nat → Int32) × (Nat → Int32) × (Nat → Int32) × (Nat → Int32)) :=
  bind8 (f_X9_find m_cells m_wide m_houses m_bowls m_dogs m_gone m_bytes m_typed m_cell m_house m_settings m_bowl m_dog m_path m_steps m_line) (fun c1 c2 c3 c4 c5 c6 c7 c8 => bind1 (f_X9_in (x1.toInt64) (0 : Int64) (16 : Int64)) (fun r9 => if r9 = 0 then (f_X9_cat_b66 c1 c2 c3 m_bowls m_dogs m_gone m_bytes m_typed c4 c5 m_settings m_bowl m_dog c6 c7 c8) else (bind1 (f_X9_isNight x2) (fun r11 => if r11 = 0 then (f_X9_cat_b66 c1 c2 c3 m_bowls m_dogs m_gone m_bytes m_typed c4 c5 m_settings m_bowl m_dog c6 c7 c8) else (bind1 (f_X9_isHouse c3 x3) (fun r12 => if r12 = 0 then (f_X9_cat_b66 c1 c2 c3 m_bowls m_dogs m_gone m_bytes m_typed c4 c5 m_settings m_bowl m_dog c6 c7 c8) else (bind1 (f_X9_in (x4.toInt64) (0 : Int64) (2 : Int64)) (fun r13 => if r13 = 0 then (f_X9_cat_b66 c1 c2 c3 m_bowls m_dogs m_gone m_bytes m_typed c4 c5 m_settings m_bowl m_dog c6 c7 c8) else (bind1 (f_X9_isTwo x5) (fun r14 => if r14 = 0 then (f_X9_cat_b66 c1 c2 c3 m_bowls m_dogs m_gone m_bytes m_typed c4 c5 m_settings m_bowl m_dog c6 c7 c8) else (bind5 (f_X9_catOf c1 c2 m_bowls m_dogs m_gone c4 c5 m_settings m_bowl m_dog c6 c7 c8 x1 x2 x3 x4 x5) (fun r15 c16 c17 c18 c19 => some (r15, c1, c2, c3, c16, c4, c5, c17, c18, c19)))))))))))))
set_option maxHeartbeats 4000000 in
set_option maxRecDepth 100000 in
theorem k_X9_cat (C : Cx RX9 cX9_cat 6 D cA p s m args c) (hr : meth.sig.returnType = (some .long)) (hlk : meth.locks = false) (hA : ∀ q, s.heap.size ≤ q → va_A ws0 sz q) (b : Nat → Nat) (m_latest : Int32) (m_cells : Int32) (m_wide : Int32) (m_houses : Int32) (m_bowls : Int32) (m_dogs : Int32) (m_gone : Int32) (m_sights : Int32) (m_drawn : Int32) (m_bytes : Nat → Int32) (m_typed : Nat → Int32) (m_cell : Nat → Int32) (m_house : Nat → Int32) (m_settings : Nat → Int32) (m_bowl : Nat → Int32) (m_dog : Nat → Int32) (m_path : Nat → Int32) (m_steps : Nat → Int32) (m_line : Nat → Int32) (x1 : Int32) (x2 : Int32) (x3 : Int32) (x4 : Int32) (x5 : Int32) (r : Int64 × Int32 × Int32 × Int32 × Int32 × (Nat → Int32) × (Nat → Int32) × (Nat → Int32) × (Nat → Int32) × (Nat → Int32)) (hf : f_X9_cat m_cells m_wide m_houses m_bowls m_dogs m_gone m_bytes m_typed m_cell m_house m_settings m_bowl m_dog m_path m_steps m_line x1 x2 x3 x4 x5 = some r) : At p l e rm_X9_cat s m args below meth c D (va_A ws0 sz) 0 0 (MQ below (PostL D r.1 ws0 (wl_X9_cat cA b m_latest (r.2.1) (r.2.2.1) (r.2.2.2.1) m_bowls m_dogs (r.2.2.2.2.1) m_sights m_drawn m_bytes m_typed (r.2.2.2.2.2.1) (r.2.2.2.2.2.2.1) m_settings m_bowl m_dog (r.2.2.2.2.2.2.2.1) (r.2.2.2.2.2.2.2.2.1) (r.2.2.2.2.2.2.2.2.2)) sz) args s 0 0 (va_A ws0 sz)) 6 0 (wl_X9_cat cA b m_latest m_cells m_wide m_houses m_bowls m_dogs m_gone m_sights m_drawn m_bytes m_typed m_cell m_house m_settings m_bowl m_dog m_path m_steps m_line) [(0, .ref (b 0)), (1, .int x1), (2, .int x2), (3, .int x3), (4, .int x4), (5, .int x5)] [] := by
  intro H locs ls hP hD hS hl
  have hx := C.1
  have hb := C.2.1
  have hown := C.2.2.2.1
  have hts := C.2.2.2.2.1
  unfold f_X9_cat at hf
  refine lv_aload_n (pc := 0) hx hb dX9_cat_0 rfl (lv_at hl 0 rfl) ?_
  obtain ⟨c1, c2, c3, c4, c5, c6, c7, c8, hq, hf⟩ := bind8_some hf
  refine fin2_v (wl_X9_cat cA b m_latest c1 c2 c3 m_bowls m_dogs m_gone m_sights m_drawn m_bytes m_typed c4 c5 m_settings m_bowl m_dog c6 c7 c8) (run_V (rest := []) (pc := 1) (As := []) C mf_X9_184 (c_X9_find l D cA b m_latest m_cells m_wide m_houses m_bowls m_dogs m_gone m_sights m_drawn m_bytes m_typed m_cell m_house m_settings m_bowl m_dog m_path m_steps m_line (c1, c2, c3, c4, c5, c6, c7, c8) hq H.size) rfl rfl ⟨(Nat.le_of_ble_eq_true rfl), (Nat.le_of_ble_eq_true rfl)⟩ (preV_of C hP hD [0, 1, 2, 3, 4, 5, 6, 7, 8, 9, 10] rfl (pl_nd pv_138) 0 rfl rfl rfl) rfl hl.1 rfl (Nat.le_of_ble_eq_true rfl) dX9_cat_1 ⟨Nat.zero_le _, Nat.zero_le _⟩) hP hD hS hA [0, 1, 2, 3, 4, 5, 6, 7, 8, 9, 10] [] rfl rfl rfl rfl pv_138 (fun H locs hP hS => ?_)
  have hD : va_D (va_A ws0 sz) (wl_X9_cat cA b m_latest c1 c2 c3 m_bowls m_dogs m_gone m_sights m_drawn m_bytes m_typed c4 c5 m_settings m_bowl m_dog c6 c7 c8) := vd_a hD rfl
  refine lv_iload_n (pc := 4) hx hb dX9_cat_4 rfl (lv_at hl 1 rfl) ?_
  refine lv_i2l (pc := 5) hx hb dX9_cat_5 rfl ?_
  refine lv_lconst (pc := 6) (v := 0) hx hb dX9_cat_6 rfl ?_
  refine lv_ldc2 (pc := 7) hx hb hown (hts _ (lg_in mw_638 rfl)) dX9_cat_7 ?_
  obtain ⟨r9, hq, hf⟩ := bind1_some hf
  refine fin2_i (wl_X9_cat cA b m_latest c1 c2 c3 m_bowls m_dogs m_gone m_sights m_drawn m_bytes m_typed c4 c5 m_settings m_bowl m_dog c6 c7 c8) (run_S (rest := []) (pc := 10) (As := [.long (x1.toInt64), .long (0 : Int64), .long (16 : Int64)]) C mf_X9_60 (c_X9_in l D cA  (x1.toInt64) (0 : Int64) (16 : Int64) r9 hq H.size) rfl rfl ⟨(Nat.le_of_ble_eq_true rfl), (Nat.le_of_ble_eq_true rfl)⟩ (preS_of C hP hD [] rfl (pl_nd pv_139)) rfl hl.1 rfl (Nat.le_of_ble_eq_true rfl) dX9_cat_10 ⟨Nat.zero_le _, Nat.zero_le _⟩) hP hD hS hA [] [0, 1, 2, 3, 4, 5, 6, 7, 8, 9, 10] rfl rfl rfl rfl pv_139 (fun H locs hP hS => ?_)
  refine lv_if_eq (pc := 13) (tgt := 66) hx hb dX9_cat_13 (by decide) (fun hc => ?_) (fun hc => ?_)
  · have hf := (if_pos hc).symm.trans hf
    exact k_X9_cat_b66 C hr hlk hA b m_latest c1 c2 c3 m_bowls m_dogs m_gone m_sights m_drawn m_bytes m_typed c4 c5 m_settings m_bowl m_dog c6 c7 c8 r hf H locs ls hP hD hS (lv_sub hl [] rfl)
  · have hf := (if_neg hc).symm.trans hf
    refine lv_iload_n (pc := 16) hx hb dX9_cat_16 rfl (lv_at hl 2 rfl) ?_
    obtain ⟨r11, hq, hf⟩ := bind1_some hf
    refine fin2_i (wl_X9_cat cA b m_latest c1 c2 c3 m_bowls m_dogs m_gone m_sights m_drawn m_bytes m_typed c4 c5 m_settings m_bowl m_dog c6 c7 c8) (run_S (rest := []) (pc := 17) (As := [.int x2]) C mf_X9_136 (c_X9_isNight l D cA  x2 r11 hq H.size) rfl rfl ⟨(Nat.le_of_ble_eq_true rfl), (Nat.le_of_ble_eq_true rfl)⟩ (preS_of C hP hD [] rfl (pl_nd pv_139)) rfl hl.1 rfl (Nat.le_of_ble_eq_true rfl) dX9_cat_17 ⟨Nat.zero_le _, Nat.zero_le _⟩) hP hD hS hA [] [0, 1, 2, 3, 4, 5, 6, 7, 8, 9, 10] rfl rfl rfl rfl pv_139 (fun H locs hP hS => ?_)
    refine lv_if_eq (pc := 20) (tgt := 66) hx hb dX9_cat_20 (by decide) (fun hc => ?_) (fun hc => ?_)
    · have hf := (if_pos hc).symm.trans hf
      exact k_X9_cat_b66 C hr hlk hA b m_latest c1 c2 c3 m_bowls m_dogs m_gone m_sights m_drawn m_bytes m_typed c4 c5 m_settings m_bowl m_dog c6 c7 c8 r hf H locs ls hP hD hS (lv_sub hl [] rfl)
    · have hf := (if_neg hc).symm.trans hf
      refine lv_aload_n (pc := 23) hx hb dX9_cat_23 rfl (lv_at hl 0 rfl) ?_
      refine lv_iload_n (pc := 24) hx hb dX9_cat_24 rfl (lv_at hl 3 rfl) ?_
      obtain ⟨r12, hq, hf⟩ := bind1_some hf
      refine fin2_i (wl_X9_cat cA b m_latest c1 c2 c3 m_bowls m_dogs m_gone m_sights m_drawn m_bytes m_typed c4 c5 m_settings m_bowl m_dog c6 c7 c8) (run_V (rest := []) (pc := 25) (As := [.int x3]) C mf_X9_126 (c_X9_isHouse l D cA b m_latest c1 c2 c3 m_bowls m_dogs m_gone m_sights m_drawn x3 r12 hq H.size) rfl rfl ⟨(Nat.le_of_ble_eq_true rfl), (Nat.le_of_ble_eq_true rfl)⟩ (preV_of C hP hD [0] rfl (pl_nd pv_142) 0 rfl rfl rfl) rfl hl.1 rfl (Nat.le_of_ble_eq_true rfl) dX9_cat_25 ⟨Nat.zero_le _, Nat.zero_le _⟩) hP hD hS hA [0] [1, 2, 3, 4, 5, 6, 7, 8, 9, 10] rfl rfl rfl rfl pv_142 (fun H locs hP hS => ?_)
      refine lv_if_eq (pc := 28) (tgt := 66) hx hb dX9_cat_28 (by decide) (fun hc => ?_) (fun hc => ?_)
      · have hf := (if_pos hc).symm.trans hf
        exact k_X9_cat_b66 C hr hlk hA b m_latest c1 c2 c3 m_bowls m_dogs m_gone m_sights m_drawn m_bytes m_typed c4 c5 m_settings m_bowl m_dog c6 c7 c8 r hf H locs ls hP hD hS (lv_sub hl [] rfl)
      · have hf := (if_neg hc).symm.trans hf
        refine lv_iload (pc := 31) hx hb dX9_cat_31 (lv_at hl 4 rfl) ?_
        refine lv_i2l (pc := 33) hx hb dX9_cat_33 rfl ?_
        refine lv_lconst (pc := 34) (v := 0) hx hb dX9_cat_34 rfl ?_
        refine lv_ldc2 (pc := 35) hx hb hown (hts _ (lg_in mw_465 rfl)) dX9_cat_35 ?_
        obtain ⟨r13, hq, hf⟩ := bind1_some hf
        refine fin2_i (wl_X9_cat cA b m_latest c1 c2 c3 m_bowls m_dogs m_gone m_sights m_drawn m_bytes m_typed c4 c5 m_settings m_bowl m_dog c6 c7 c8) (run_S (rest := []) (pc := 38) (As := [.long (x4.toInt64), .long (0 : Int64), .long (2 : Int64)]) C mf_X9_60 (c_X9_in l D cA  (x4.toInt64) (0 : Int64) (2 : Int64) r13 hq H.size) rfl rfl ⟨(Nat.le_of_ble_eq_true rfl), (Nat.le_of_ble_eq_true rfl)⟩ (preS_of C hP hD [] rfl (pl_nd pv_139)) rfl hl.1 rfl (Nat.le_of_ble_eq_true rfl) dX9_cat_38 ⟨Nat.zero_le _, Nat.zero_le _⟩) hP hD hS hA [] [0, 1, 2, 3, 4, 5, 6, 7, 8, 9, 10] rfl rfl rfl rfl pv_139 (fun H locs hP hS => ?_)
        refine lv_if_eq (pc := 41) (tgt := 66) hx hb dX9_cat_41 (by decide) (fun hc => ?_) (fun hc => ?_)
        · have hf := (if_pos hc).symm.trans hf
          exact k_X9_cat_b66 C hr hlk hA b m_latest c1 c2 c3 m_bowls m_dogs m_gone m_sights m_drawn m_bytes m_typed c4 c5 m_settings m_bowl m_dog c6 c7 c8 r hf H locs ls hP hD hS (lv_sub hl [] rfl)
        · have hf := (if_neg hc).symm.trans hf
          refine lv_iload (pc := 44) hx hb dX9_cat_44 (lv_at hl 5 rfl) ?_
          obtain ⟨r14, hq, hf⟩ := bind1_some hf
          refine fin2_i (wl_X9_cat cA b m_latest c1 c2 c3 m_bowls m_dogs m_gone m_sights m_drawn m_bytes m_typed c4 c5 m_settings m_bowl m_dog c6 c7 c8) (run_S (rest := []) (pc := 46) (As := [.int x5]) C mf_X9_89 (c_X9_isTwo l D cA  x5 r14 hq H.size) rfl rfl ⟨(Nat.le_of_ble_eq_true rfl), (Nat.le_of_ble_eq_true rfl)⟩ (preS_of C hP hD [] rfl (pl_nd pv_139)) rfl hl.1 rfl (Nat.le_of_ble_eq_true rfl) dX9_cat_46 ⟨Nat.zero_le _, Nat.zero_le _⟩) hP hD hS hA [] [0, 1, 2, 3, 4, 5, 6, 7, 8, 9, 10] rfl rfl rfl rfl pv_139 (fun H locs hP hS => ?_)
          refine lv_if_eq (pc := 49) (tgt := 66) hx hb dX9_cat_49 (by decide) (fun hc => ?_) (fun hc => ?_)
          · have hf := (if_pos hc).symm.trans hf
            exact k_X9_cat_b66 C hr hlk hA b m_latest c1 c2 c3 m_bowls m_dogs m_gone m_sights m_drawn m_bytes m_typed c4 c5 m_settings m_bowl m_dog c6 c7 c8 r hf H locs ls hP hD hS (lv_sub hl [] rfl)
          · have hf := (if_neg hc).symm.trans hf
            refine lv_aload_n (pc := 52) hx hb dX9_cat_52 rfl (lv_at hl 0 rfl) ?_
            refine lv_iload_n (pc := 53) hx hb dX9_cat_53 rfl (lv_at hl 1 rfl) ?_
            refine lv_iload_n (pc := 54) hx hb dX9_cat_54 rfl (lv_at hl 2 rfl) ?_
            refine lv_iload_n (pc := 55) hx hb dX9_cat_55 rfl (lv_at hl 3 rfl) ?_
            refine lv_iload (pc := 56) hx hb dX9_cat_56 (lv_at hl 4 rfl) ?_
            refine lv_iload (pc := 58) hx hb dX9_cat_58 (lv_at hl 5 rfl) ?_
            obtain ⟨r15, c16, c17, c18, c19, hq, hf⟩ := bind5_some hf
            refine fin2_l (wl_X9_cat cA b m_latest c1 c2 c3 m_bowls m_dogs c16 m_sights m_drawn m_bytes m_typed c4 c5 m_settings m_bowl m_dog c17 c18 c19) (run_V (rest := []) (pc := 60) (As := [.int x1, .int x2, .int x3, .int x4, .int x5]) C mf_X9_252 (c_X9_catOf l D cA b m_latest c1 c2 c3 m_bowls m_dogs m_gone m_sights m_drawn c4 c5 m_settings m_bowl m_dog c6 c7 c8 x1 x2 x3 x4 x5 (r15, c16, c17, c18, c19) hq H.size) rfl rfl ⟨(Nat.le_of_ble_eq_true rfl), (Nat.le_of_ble_eq_true rfl)⟩ (preV_of C hP hD [0, 3, 4, 5, 6, 7, 8, 9, 10] rfl (pl_nd pv_151) 0 rfl rfl rfl) rfl hl.1 rfl (Nat.le_of_ble_eq_true rfl) dX9_cat_60 ⟨Nat.zero_le _, Nat.zero_le _⟩) hP hD hS hA [0, 3, 4, 5, 6, 7, 8, 9, 10] [1, 2] rfl rfl rfl rfl pv_151 (fun H locs hP hS => ?_)
            have hD : va_D (va_A ws0 sz) (wl_X9_cat cA b m_latest c1 c2 c3 m_bowls m_dogs c16 m_sights m_drawn m_bytes m_typed c4 c5 m_settings m_bowl m_dog c17 c18 c19) := vd_a hD rfl
            refine lv_goto (pc := 63) (tgt := 71) hx hb dX9_cat_63 (by decide) ?_
            have hf := Option.some.inj hf
            subst hf
            exact ret_l C hr hlk hP hS dX9_cat_71
set_option maxRecDepth 100000 in
theorem c_X9_cat (l : Launch) (D : va_G) (cA : Nat → ClassId) (b : Nat → Nat) (m_latest : Int32) (m_cells : Int32) (m_wide : Int32) (m_houses : Int32) (m_bowls : Int32) (m_dogs : Int32) (m_gone : Int32) (m_sights : Int32) (m_drawn : Int32) (m_bytes : Nat → Int32) (m_typed : Nat → Int32) (m_cell : Nat → Int32) (m_house : Nat → Int32) (m_settings : Nat → Int32) (m_bowl : Nat → Int32) (m_dog : Nat → Int32) (m_path : Nat → Int32) (m_steps : Nat → Int32) (m_line : Nat → Int32) (x1 : Int32) (x2 : Int32) (x3 : Int32) (x4 : Int32) (x5 : Int32) (r : Int64 × Int32 × Int32 × Int32 × Int32 × (Nat → Int32) × (Nat → Int32) × (Nat → Int32) × (Nat → Int32) × (Nat → Int32)) (hf : f_X9_cat m_cells m_wide m_houses m_bowls m_dogs m_gone m_bytes m_typed m_cell m_house m_settings m_bowl m_dog m_path m_steps m_line x1 x2 x3 x4 x5 = some r) (sz : Nat) : Met l yX9_cat (Cond.code yX9_cat cX9_cat 6 (some .long) :: lw_good) rm_X9_cat (PreX D cA [.ref (b 0), .int x1, .int x2, .int x3, .int x4, .int x5] sz (wl_X9_cat cA b m_latest m_cells m_wide m_houses m_bowls m_dogs m_gone m_sights m_drawn m_bytes m_typed m_cell m_house m_settings m_bowl m_dog m_path m_steps m_line)) (PostL D r.1 (wl_X9_cat cA b m_latest m_cells m_wide m_houses m_bowls m_dogs m_gone m_sights m_drawn m_bytes m_typed m_cell m_house m_settings m_bowl m_dog m_path m_steps m_line) (wl_X9_cat cA b m_latest (r.2.1) (r.2.2.1) (r.2.2.2.1) m_bowls m_dogs (r.2.2.2.2.1) m_sights m_drawn m_bytes m_typed (r.2.2.2.2.2.1) (r.2.2.2.2.2.2.1) m_settings m_bowl m_dog (r.2.2.2.2.2.2.2.1) (r.2.2.2.2.2.2.2.2.1) (r.2.2.2.2.2.2.2.2.2)) sz) 0 0 (va_A (wl_X9_cat cA b m_latest m_cells m_wide m_houses m_bowls m_dogs m_gone m_sights m_drawn m_bytes m_typed m_cell m_house m_settings m_bowl m_dog m_path m_steps m_line) sz) :=
  met_of (by decide) (Nat.le_of_ble_eq_true rfl) (fun p e s m args below meth c C hr hlk hA => k_X9_cat C hr hlk hA b m_latest m_cells m_wide m_houses m_bowls m_dogs m_gone m_sights m_drawn m_bytes m_typed m_cell m_house m_settings m_bowl m_dog m_path m_steps m_line x1 x2 x3 x4 x5 r hf)
end

abbrev wl_X9_lot (cA : Nat → ClassId) (b : Nat → Nat) (m_latest : Int32) (m_cells : Int32) (m_wide : Int32) (m_houses : Int32) (m_bowls : Int32) (m_dogs : Int32) (m_gone : Int32) (m_sights : Int32) (m_drawn : Int32) : va_W := [((b 0), .inr (9, [.ref (b 1), .ref (b 2), .ref (b 3), .ref (b 4), .int m_latest, .ref (b 5), .ref (b 6), .int m_cells, .int m_wide, .ref (b 7), .int m_houses, .ref (b 8), .ref (b 9), .int m_bowls, .ref (b 10), .int m_dogs, .ref (b 11), .int m_gone, .ref (b 12), .ref (b 13), .ref (b 14), .int m_sights, .ref (b 15), .ref (b 16), .int m_drawn]))]
abbrev rm_X9_lot : Room := { frames := 0, cells := 0, slots := 0, locals := 0 }
section
variable {p : Program} {l : Launch} {e : Env} {s : State} {m : MethodId} {args : Array Value} {below : List Frame} {meth : Method} {c : Code} {D : va_G} {cA : Nat → ClassId} {ws0 : va_W} {sz : Nat} {A : Nat → Prop} {Q : State → Prop}
def f_X9_lot (m_drawn : Int32) (x1 : Int32) : Option (Int32 × Int32) :=
  letv ((((1103515245 : Int32) * m_drawn) + (12345 : Int32))) (fun v1 => gd (nz x1) (some ((((v1.toUInt32 >>> ((16 : Int32).toUInt32 &&& Int32.toUInt32 31)).toInt32) - ((v1.toUInt32 >>> ((16 : Int32).toUInt32 &&& Int32.toUInt32 31)).toInt32) / x1 * x1), v1)))
set_option maxHeartbeats 4000000 in
set_option maxRecDepth 100000 in
theorem k_X9_lot (C : Cx RX9 cX9_lot 2 D cA p s m args c) (hr : meth.sig.returnType = (some .int)) (hlk : meth.locks = false) (hA : ∀ q, s.heap.size ≤ q → va_A ws0 sz q) (b : Nat → Nat) (m_latest : Int32) (m_cells : Int32) (m_wide : Int32) (m_houses : Int32) (m_bowls : Int32) (m_dogs : Int32) (m_gone : Int32) (m_sights : Int32) (m_drawn : Int32) (x1 : Int32) (r : Int32 × Int32) (hf : f_X9_lot m_drawn x1 = some r) : At p l e rm_X9_lot s m args below meth c D (va_A ws0 sz) 0 0 (MQ below (PostI D r.1 ws0 (wl_X9_lot cA b m_latest m_cells m_wide m_houses m_bowls m_dogs m_gone m_sights (r.2)) sz) args s 0 0 (va_A ws0 sz)) 2 0 (wl_X9_lot cA b m_latest m_cells m_wide m_houses m_bowls m_dogs m_gone m_sights m_drawn) [(0, .ref (b 0)), (1, .int x1)] [] := by
  intro H locs ls hP hD hS hl
  have hx := C.1
  have hb := C.2.1
  have hown := C.2.2.2.1
  have hts := C.2.2.2.2.1
  unfold f_X9_lot at hf
  refine lv_aload_n (pc := 0) hx hb dX9_lot_0 rfl (lv_at hl 0 rfl) ?_
  refine lv_ldcw (pc := 1) hx hb hown (hts _ (lg_in mw_646 rfl)) dX9_lot_1 ?_
  refine lv_aload_n (pc := 4) hx hb dX9_lot_4 rfl (lv_at hl 0 rfl) ?_
  refine g_get (pc := 5) C fg_X9_261 hP 0 rfl rfl dX9_lot_5 ?_
  refine lv_imul (pc := 8) hx hb dX9_lot_8 ?_
  refine lv_sipush (pc := 9) (v := 12345) hx hb dX9_lot_9 sp_12345 ?_
  refine lv_iadd (pc := 12) hx hb dX9_lot_12 ?_
  obtain ⟨v1, e_v1, hf⟩ := letv_some hf
  refine tp_i e_v1 ?_
  refine g_put (pc := 13) C fg_X9_261 ft_X9_24 hP hD hS 0 rfl rfl rfl (Nat.le_of_ble_eq_true rfl) dX9_lot_13 (fun H locs hP hD hS => ?_)
  have hP : va_P D classes (wl_X9_lot cA b m_latest m_cells m_wide m_houses m_bowls m_dogs m_gone m_sights v1) H := hP
  have hD : va_D (va_A ws0 sz) (wl_X9_lot cA b m_latest m_cells m_wide m_houses m_bowls m_dogs m_gone m_sights v1) := hD
  refine lv_aload_n (pc := 16) hx hb dX9_lot_16 rfl (lv_at hl 0 rfl) ?_
  refine g_get (pc := 17) C fg_X9_261 hP 0 rfl rfl dX9_lot_17 ?_
  refine lv_bipush (pc := 20) (v := 16) hx hb dX9_lot_20 bp_16 ?_
  refine lv_iushr (pc := 22) hx hb dX9_lot_22 rfl ?_
  refine lv_iload_n (pc := 23) hx hb dX9_lot_23 rfl (lv_at hl 1 rfl) ?_
  obtain ⟨hg, hf⟩ := gd_some hf
  refine lv_irem (pc := 24) hx hb dX9_lot_24 (nz_of hg) ?_
  have hf := Option.some.inj hf
  subst hf
  exact ret_i C hr hlk hP hS dX9_lot_25
set_option maxRecDepth 100000 in
theorem c_X9_lot (l : Launch) (D : va_G) (cA : Nat → ClassId) (b : Nat → Nat) (m_latest : Int32) (m_cells : Int32) (m_wide : Int32) (m_houses : Int32) (m_bowls : Int32) (m_dogs : Int32) (m_gone : Int32) (m_sights : Int32) (m_drawn : Int32) (x1 : Int32) (r : Int32 × Int32) (hf : f_X9_lot m_drawn x1 = some r) (sz : Nat) : Met l yX9_lot (Cond.code yX9_lot cX9_lot 2 (some .int) :: lw_good) rm_X9_lot (PreX D cA [.ref (b 0), .int x1] sz (wl_X9_lot cA b m_latest m_cells m_wide m_houses m_bowls m_dogs m_gone m_sights m_drawn)) (PostI D r.1 (wl_X9_lot cA b m_latest m_cells m_wide m_houses m_bowls m_dogs m_gone m_sights m_drawn) (wl_X9_lot cA b m_latest m_cells m_wide m_houses m_bowls m_dogs m_gone m_sights (r.2)) sz) 0 0 (va_A (wl_X9_lot cA b m_latest m_cells m_wide m_houses m_bowls m_dogs m_gone m_sights m_drawn) sz) :=
  met_of (by decide) (Nat.le_of_ble_eq_true rfl) (fun p e s m args below meth c C hr hlk hA => k_X9_lot C hr hlk hA b m_latest m_cells m_wide m_houses m_bowls m_dogs m_gone m_sights m_drawn x1 r hf)
end

abbrev wl_X9_besides (cA : Nat → ClassId) (b : Nat → Nat) (m_latest : Int32) (m_cells : Int32) (m_wide : Int32) (m_houses : Int32) (m_bowls : Int32) (m_dogs : Int32) (m_gone : Int32) (m_sights : Int32) (m_drawn : Int32) (m_cell : Nat → Int32) : va_W := [((b 0), .inr (9, [.ref (b 1), .ref (b 2), .ref (b 3), .ref (b 4), .int m_latest, .ref (b 5), .ref (b 6), .int m_cells, .int m_wide, .ref (b 7), .int m_houses, .ref (b 8), .ref (b 9), .int m_bowls, .ref (b 10), .int m_dogs, .ref (b 11), .int m_gone, .ref (b 12), .ref (b 13), .ref (b 14), .int m_sights, .ref (b 15), .ref (b 16), .int m_drawn])), ((b 7), .inl (cA 0, 36, .inl m_cell))]
abbrev rm_X9_besides : Room := { frames := 1, cells := 0, slots := 0, locals := 23 }
section
variable {p : Program} {l : Launch} {e : Env} {s : State} {m : MethodId} {args : Array Value} {below : List Frame} {meth : Method} {c : Code} {D : va_G} {cA : Nat → ClassId} {ws0 : va_W} {sz : Nat} {A : Nat → Prop} {Q : State → Prop}
def f_X9_besides_b55L8 (m_cells : Int32) (m_wide : Int32) (m_cell : Nat → Int32) (x1 : Int32) (x2 : Int32) (x4 : Int32) (x5 : Int32) (s0 : Int32) (s1 : Int32) : Option ((Int32 × Int32 × Int32) ⊕ (Int32 × Int32)) :=
  letv ((s1 + s0)) (fun v2 => some (.inl (v2, x4, (x5 + 1))))
set_option maxHeartbeats 4000000 in
set_option maxRecDepth 100000 in
theorem k_X9_besides_b55L8 (C : Cx RX9 cX9_besides 7 D cA p s m args c) (hA : ∀ q, s.heap.size ≤ q → A q) (b : Nat → Nat) (m_latest : Int32) (m_cells : Int32) (m_wide : Int32) (m_houses : Int32) (m_bowls : Int32) (m_dogs : Int32) (m_gone : Int32) (m_sights : Int32) (m_drawn : Int32) (m_cell : Nat → Int32) (x1 : Int32) (x2 : Int32) (x4 : Int32) (x5 : Int32) (s0 : Int32) (s1 : Int32) (r : (Int32 × Int32 × Int32) ⊕ (Int32 × Int32)) (hf : f_X9_besides_b55L8 m_cells m_wide m_cell x1 x2 x4 x5 s0 s1 = some r) (hK : Sum.elim (fun q : Int32 × Int32 × Int32 => At p l e rm_X9_besides s m args below meth c D A 0 0 Q 7 8 (wl_X9_besides cA b m_latest m_cells m_wide m_houses m_bowls m_dogs m_gone m_sights m_drawn m_cell) [(0, .ref (b 0)), (1, .int x1), (2, .int x2), (3, .int (q.1)), (4, .int (q.2.1)), (5, .int (q.2.2))] []) (fun q : Int32 × Int32 => At p l e rm_X9_besides s m args below meth c D A 0 0 Q 7 63 (wl_X9_besides cA b m_latest m_cells m_wide m_houses m_bowls m_dogs m_gone m_sights m_drawn m_cell) [(2, .int x2), (3, .int (q.1)), (4, .int (q.2))] []) r) : At p l e rm_X9_besides s m args below meth c D A 0 0 Q 7 55 (wl_X9_besides cA b m_latest m_cells m_wide m_houses m_bowls m_dogs m_gone m_sights m_drawn m_cell) [(0, .ref (b 0)), (1, .int x1), (2, .int x2), (4, .int x4), (5, .int x5)] [.int s0, .int s1] := by
  intro H locs ls hP hD hS hl
  have hx := C.1
  have hb := C.2.1
  have hown := C.2.2.2.1
  have hts := C.2.2.2.2.1
  unfold f_X9_besides_b55L8 at hf
  refine lv_iadd (pc := 55) hx hb dX9_besides_55 ?_
  obtain ⟨v2, e_v2, hf⟩ := letv_some hf
  refine tp_i e_v2 ?_
  refine lv_istore_n (pc := 56) (lv' := [(3, .int v2), (0, .ref (b 0)), (1, .int x1), (2, .int x2), (4, .int x4), (5, .int x5)]) hx hb dX9_besides_56 rfl hl (Nat.le_of_ble_eq_true rfl) rfl (fun ls hl => ?_)
  refine lv_iinc (pc := 57) (v := (x5 + 1)) (lv' := [(5, .int (x5 + 1)), (3, .int v2), (0, .ref (b 0)), (1, .int x1), (2, .int x2), (4, .int x4)]) hx hb dX9_besides_57 hl (k := 5) rfl rfl (Nat.le_of_ble_eq_true rfl) rfl (fun ls hl => ?_)
  refine lv_goto (pc := 60) (tgt := 8) hx hb dX9_besides_60 (by decide) ?_
  have hf := Option.some.inj hf
  subst hf
  exact hK H locs ls hP hD hS (lv_sub hl [2, 3, 4, 1, 5, 0] rfl)
def f_X9_besides_b41L8 (m_cells : Int32) (m_wide : Int32) (m_cell : Nat → Int32) (x1 : Int32) (x2 : Int32) (x3 : Int32) (x5 : Int32) (x6 : Int32) (s0 : Int32) : Option ((Int32 × Int32 × Int32) ⊕ (Int32 × Int32)) :=
  if x6 = (-1 : Int32) then (f_X9_besides_b55L8 m_cells m_wide m_cell x1 x2 s0 x5 (0 : Int32) x3) else (f_X9_besides_b55L8 m_cells m_wide m_cell x1 x2 s0 x5 (1 : Int32) x3)
set_option maxHeartbeats 4000000 in
set_option maxRecDepth 100000 in
theorem k_X9_besides_b41L8 (C : Cx RX9 cX9_besides 7 D cA p s m args c) (hA : ∀ q, s.heap.size ≤ q → A q) (b : Nat → Nat) (m_latest : Int32) (m_cells : Int32) (m_wide : Int32) (m_houses : Int32) (m_bowls : Int32) (m_dogs : Int32) (m_gone : Int32) (m_sights : Int32) (m_drawn : Int32) (m_cell : Nat → Int32) (x1 : Int32) (x2 : Int32) (x3 : Int32) (x5 : Int32) (x6 : Int32) (s0 : Int32) (r : (Int32 × Int32 × Int32) ⊕ (Int32 × Int32)) (hf : f_X9_besides_b41L8 m_cells m_wide m_cell x1 x2 x3 x5 x6 s0 = some r) (hK : Sum.elim (fun q : Int32 × Int32 × Int32 => At p l e rm_X9_besides s m args below meth c D A 0 0 Q 7 8 (wl_X9_besides cA b m_latest m_cells m_wide m_houses m_bowls m_dogs m_gone m_sights m_drawn m_cell) [(0, .ref (b 0)), (1, .int x1), (2, .int x2), (3, .int (q.1)), (4, .int (q.2.1)), (5, .int (q.2.2))] []) (fun q : Int32 × Int32 => At p l e rm_X9_besides s m args below meth c D A 0 0 Q 7 63 (wl_X9_besides cA b m_latest m_cells m_wide m_houses m_bowls m_dogs m_gone m_sights m_drawn m_cell) [(2, .int x2), (3, .int (q.1)), (4, .int (q.2))] []) r) : At p l e rm_X9_besides s m args below meth c D A 0 0 Q 7 41 (wl_X9_besides cA b m_latest m_cells m_wide m_houses m_bowls m_dogs m_gone m_sights m_drawn m_cell) [(0, .ref (b 0)), (1, .int x1), (2, .int x2), (3, .int x3), (5, .int x5), (6, .int x6)] [.int s0] := by
  intro H locs ls hP hD hS hl
  have hx := C.1
  have hb := C.2.1
  have hown := C.2.2.2.1
  have hts := C.2.2.2.2.1
  unfold f_X9_besides_b41L8 at hf
  refine lv_istore (pc := 41) (lv' := [(4, .int s0), (0, .ref (b 0)), (1, .int x1), (2, .int x2), (3, .int x3), (5, .int x5), (6, .int x6)]) hx hb dX9_besides_41 hl (Nat.le_of_ble_eq_true rfl) rfl (fun ls hl => ?_)
  refine lv_iload_n (pc := 43) hx hb dX9_besides_43 rfl (lv_at hl 4 rfl) ?_
  refine lv_iload (pc := 44) hx hb dX9_besides_44 (lv_at hl 6 rfl) ?_
  refine lv_iconst (pc := 46) (v := (-1)) hx hb dX9_besides_46 ic_m1 ?_
  refine lv_icmp_ne (pc := 47) (tgt := 54) hx hb dX9_besides_47 (by decide) (fun hc => ?_) (fun hc => ?_)
  · have hf := (if_neg hc).symm.trans hf
    refine lv_iconst (pc := 54) (v := 1) hx hb dX9_besides_54 ic_1 ?_
    exact k_X9_besides_b55L8 C hA b m_latest m_cells m_wide m_houses m_bowls m_dogs m_gone m_sights m_drawn m_cell x1 x2 s0 x5 (1 : Int32) x3 r hf hK H locs ls hP hD hS (lv_sub hl [1, 2, 3, 0, 5] rfl)
  · have hf := (if_pos hc).symm.trans hf
    refine lv_iconst (pc := 50) (v := 0) hx hb dX9_besides_50 ic_0 ?_
    refine lv_goto (pc := 51) (tgt := 55) hx hb dX9_besides_51 (by decide) ?_
    exact k_X9_besides_b55L8 C hA b m_latest m_cells m_wide m_houses m_bowls m_dogs m_gone m_sights m_drawn m_cell x1 x2 s0 x5 (0 : Int32) x3 r hf hK H locs ls hP hD hS (lv_sub hl [1, 2, 3, 0, 5] rfl)
def f_X9_besides_b39L8 (m_cells : Int32) (m_wide : Int32) (m_cell : Nat → Int32) (x1 : Int32) (x2 : Int32) (x3 : Int32) (x4 : Int32) (x5 : Int32) (x6 : Int32) : Option ((Int32 × Int32 × Int32) ⊕ (Int32 × Int32)) :=
  f_X9_besides_b41L8 m_cells m_wide m_cell x1 x2 x3 x5 x6 x4
set_option maxHeartbeats 4000000 in
set_option maxRecDepth 100000 in
theorem k_X9_besides_b39L8 (C : Cx RX9 cX9_besides 7 D cA p s m args c) (hA : ∀ q, s.heap.size ≤ q → A q) (b : Nat → Nat) (m_latest : Int32) (m_cells : Int32) (m_wide : Int32) (m_houses : Int32) (m_bowls : Int32) (m_dogs : Int32) (m_gone : Int32) (m_sights : Int32) (m_drawn : Int32) (m_cell : Nat → Int32) (x1 : Int32) (x2 : Int32) (x3 : Int32) (x4 : Int32) (x5 : Int32) (x6 : Int32) (r : (Int32 × Int32 × Int32) ⊕ (Int32 × Int32)) (hf : f_X9_besides_b39L8 m_cells m_wide m_cell x1 x2 x3 x4 x5 x6 = some r) (hK : Sum.elim (fun q : Int32 × Int32 × Int32 => At p l e rm_X9_besides s m args below meth c D A 0 0 Q 7 8 (wl_X9_besides cA b m_latest m_cells m_wide m_houses m_bowls m_dogs m_gone m_sights m_drawn m_cell) [(0, .ref (b 0)), (1, .int x1), (2, .int x2), (3, .int (q.1)), (4, .int (q.2.1)), (5, .int (q.2.2))] []) (fun q : Int32 × Int32 => At p l e rm_X9_besides s m args below meth c D A 0 0 Q 7 63 (wl_X9_besides cA b m_latest m_cells m_wide m_houses m_bowls m_dogs m_gone m_sights m_drawn m_cell) [(2, .int x2), (3, .int (q.1)), (4, .int (q.2))] []) r) : At p l e rm_X9_besides s m args below meth c D A 0 0 Q 7 39 (wl_X9_besides cA b m_latest m_cells m_wide m_houses m_bowls m_dogs m_gone m_sights m_drawn m_cell) [(0, .ref (b 0)), (1, .int x1), (2, .int x2), (3, .int x3), (4, .int x4), (5, .int x5), (6, .int x6)] [] := by
  intro H locs ls hP hD hS hl
  have hx := C.1
  have hb := C.2.1
  have hown := C.2.2.2.1
  have hts := C.2.2.2.2.1
  unfold f_X9_besides_b39L8 at hf
  refine lv_iload (pc := 39) hx hb dX9_besides_39 (lv_at hl 4 rfl) ?_
  exact k_X9_besides_b41L8 C hA b m_latest m_cells m_wide m_houses m_bowls m_dogs m_gone m_sights m_drawn m_cell x1 x2 x3 x5 x6 x4 r hf hK H locs ls hP hD hS (lv_sub hl [0, 1, 2, 3, 5, 6] rfl)
def f_X9_besides_L8 (m_cells : Int32) (m_wide : Int32) (m_cell : Nat → Int32) (x1 : Int32) (x2 : Int32) (x3 : Int32) (x4 : Int32) (x5 : Int32) : Option ((Int32 × Int32 × Int32) ⊕ (Int32 × Int32)) :=
  if (4 : Int32) ≤ x5 then (some (.inr (x3, x4))) else (bind1 (f_X9_beside m_cells m_wide m_cell x1 x5) (fun r1 => if r1 = (-1 : Int32) then (f_X9_besides_b39L8 m_cells m_wide m_cell x1 x2 x3 x4 x5 r1) else (if x3 = x2 then (f_X9_besides_b41L8 m_cells m_wide m_cell x1 x2 x3 x5 r1 r1) else (f_X9_besides_b39L8 m_cells m_wide m_cell x1 x2 x3 x4 x5 r1))))
set_option maxHeartbeats 4000000 in
set_option maxRecDepth 100000 in
theorem k_X9_besides_L8 (C : Cx RX9 cX9_besides 7 D cA p s m args c) (hA : ∀ q, s.heap.size ≤ q → A q) (b : Nat → Nat) (m_latest : Int32) (m_cells : Int32) (m_wide : Int32) (m_houses : Int32) (m_bowls : Int32) (m_dogs : Int32) (m_gone : Int32) (m_sights : Int32) (m_drawn : Int32) (m_cell : Nat → Int32) (x1 : Int32) (x2 : Int32) (x3 : Int32) (x4 : Int32) (x5 : Int32) (r : (Int32 × Int32 × Int32) ⊕ (Int32 × Int32)) (hf : f_X9_besides_L8 m_cells m_wide m_cell x1 x2 x3 x4 x5 = some r) (hK : Sum.elim (fun q : Int32 × Int32 × Int32 => At p l e rm_X9_besides s m args below meth c D A 0 0 Q 7 8 (wl_X9_besides cA b m_latest m_cells m_wide m_houses m_bowls m_dogs m_gone m_sights m_drawn m_cell) [(0, .ref (b 0)), (1, .int x1), (2, .int x2), (3, .int (q.1)), (4, .int (q.2.1)), (5, .int (q.2.2))] []) (fun q : Int32 × Int32 => At p l e rm_X9_besides s m args below meth c D A 0 0 Q 7 63 (wl_X9_besides cA b m_latest m_cells m_wide m_houses m_bowls m_dogs m_gone m_sights m_drawn m_cell) [(2, .int x2), (3, .int (q.1)), (4, .int (q.2))] []) r) : At p l e rm_X9_besides s m args below meth c D A 0 0 Q 7 8 (wl_X9_besides cA b m_latest m_cells m_wide m_houses m_bowls m_dogs m_gone m_sights m_drawn m_cell) [(0, .ref (b 0)), (1, .int x1), (2, .int x2), (3, .int x3), (4, .int x4), (5, .int x5)] [] := by
  intro H locs ls hP hD hS hl
  have hx := C.1
  have hb := C.2.1
  have hown := C.2.2.2.1
  have hts := C.2.2.2.2.1
  unfold f_X9_besides_L8 at hf
  refine lv_iload (pc := 8) hx hb dX9_besides_8 (lv_at hl 5 rfl) ?_
  refine lv_iconst (pc := 10) (v := 4) hx hb dX9_besides_10 ic_4 ?_
  refine lv_icmp_ge (pc := 11) (tgt := 63) hx hb dX9_besides_11 (by decide) (fun hc => ?_) (fun hc => ?_)
  · have hf := (if_pos hc).symm.trans hf
    have hf := Option.some.inj hf
    subst hf
    exact hK H locs ls hP hD hS (lv_sub hl [2, 3, 4] rfl)
  · have hf := (if_neg hc).symm.trans hf
    refine lv_aload_n (pc := 14) hx hb dX9_besides_14 rfl (lv_at hl 0 rfl) ?_
    refine lv_iload_n (pc := 15) hx hb dX9_besides_15 rfl (lv_at hl 1 rfl) ?_
    refine lv_iload (pc := 16) hx hb dX9_besides_16 (lv_at hl 5 rfl) ?_
    obtain ⟨r1, hq, hf⟩ := bind1_some hf
    refine fin2_i (wl_X9_besides cA b m_latest m_cells m_wide m_houses m_bowls m_dogs m_gone m_sights m_drawn m_cell) (run_V (rest := []) (pc := 18) (As := [.int x1, .int x5]) C mf_X9_159 (c_X9_beside l D cA b m_latest m_cells m_wide m_houses m_bowls m_dogs m_gone m_sights m_drawn m_cell x1 x5 r1 hq H.size) rfl rfl ⟨(Nat.le_of_ble_eq_true rfl), (Nat.le_of_ble_eq_true rfl)⟩ (preV_of C hP hD [0, 1] rfl (pl_nd pv_44) 0 rfl rfl rfl) rfl hl.1 rfl (Nat.le_of_ble_eq_true rfl) dX9_besides_18 ⟨Nat.zero_le _, Nat.zero_le _⟩) hP hD hS hA [0, 1] [] rfl rfl rfl rfl pv_44 (fun H locs hP hS => ?_)
    refine lv_istore (pc := 21) (lv' := [(6, .int r1), (0, .ref (b 0)), (1, .int x1), (2, .int x2), (3, .int x3), (4, .int x4), (5, .int x5)]) hx hb dX9_besides_21 hl (Nat.le_of_ble_eq_true rfl) rfl (fun ls hl => ?_)
    refine lv_iload (pc := 23) hx hb dX9_besides_23 (lv_at hl 0 rfl) ?_
    refine lv_iconst (pc := 25) (v := (-1)) hx hb dX9_besides_25 ic_m1 ?_
    refine lv_icmp_eq (pc := 26) (tgt := 39) hx hb dX9_besides_26 (by decide) (fun hc => ?_) (fun hc => ?_)
    · have hf := (if_pos hc).symm.trans hf
      exact k_X9_besides_b39L8 C hA b m_latest m_cells m_wide m_houses m_bowls m_dogs m_gone m_sights m_drawn m_cell x1 x2 x3 x4 x5 r1 r hf hK H locs ls hP hD hS (lv_sub hl [1, 2, 3, 4, 5, 6, 0] rfl)
    · have hf := (if_neg hc).symm.trans hf
      refine lv_iload_n (pc := 29) hx hb dX9_besides_29 rfl (lv_at hl 4 rfl) ?_
      refine lv_iload_n (pc := 30) hx hb dX9_besides_30 rfl (lv_at hl 3 rfl) ?_
      refine lv_icmp_ne (pc := 31) (tgt := 39) hx hb dX9_besides_31 (by decide) (fun hc => ?_) (fun hc => ?_)
      · have hf := (if_neg hc).symm.trans hf
        exact k_X9_besides_b39L8 C hA b m_latest m_cells m_wide m_houses m_bowls m_dogs m_gone m_sights m_drawn m_cell x1 x2 x3 x4 x5 r1 r hf hK H locs ls hP hD hS (lv_sub hl [1, 2, 3, 4, 5, 6, 0] rfl)
      · have hf := (if_pos hc).symm.trans hf
        refine lv_iload (pc := 34) hx hb dX9_besides_34 (lv_at hl 0 rfl) ?_
        refine lv_goto (pc := 36) (tgt := 41) hx hb dX9_besides_36 (by decide) ?_
        exact k_X9_besides_b41L8 C hA b m_latest m_cells m_wide m_houses m_bowls m_dogs m_gone m_sights m_drawn m_cell x1 x2 x3 x5 r1 r1 r hf hK H locs ls hP hD hS (lv_sub hl [1, 2, 3, 4, 6, 0] rfl)
theorem kl_X9_besides_L8 (C : Cx RX9 cX9_besides 7 D cA p s m args c) (hA : ∀ q, s.heap.size ≤ q → A q) (b : Nat → Nat) (m_latest : Int32) (m_cells : Int32) (m_wide : Int32) (m_houses : Int32) (m_bowls : Int32) (m_dogs : Int32) (m_gone : Int32) (m_sights : Int32) (m_drawn : Int32) (m_cell : Nat → Int32) (x1 : Int32) (x2 : Int32) : ∀ (n : Nat) (q : Int32 × Int32 × Int32) (z : (Int32 × Int32)), loopF (fun q : Int32 × Int32 × Int32 => f_X9_besides_L8 m_cells m_wide m_cell x1 x2 q.1 q.2.1 q.2.2) n q = some z → (fun q : Int32 × Int32 => At p l e rm_X9_besides s m args below meth c D A 0 0 Q 7 63 (wl_X9_besides cA b m_latest m_cells m_wide m_houses m_bowls m_dogs m_gone m_sights m_drawn m_cell) [(2, .int x2), (3, .int (q.1)), (4, .int (q.2))] []) z → At p l e rm_X9_besides s m args below meth c D A 0 0 Q 7 8 (wl_X9_besides cA b m_latest m_cells m_wide m_houses m_bowls m_dogs m_gone m_sights m_drawn m_cell) [(0, .ref (b 0)), (1, .int x1), (2, .int x2), (3, .int (q.1)), (4, .int (q.2.1)), (5, .int (q.2.2))] [] :=
  loop_lem (WP := fun q : Int32 × Int32 × Int32 => At p l e rm_X9_besides s m args below meth c D A 0 0 Q 7 8 (wl_X9_besides cA b m_latest m_cells m_wide m_houses m_bowls m_dogs m_gone m_sights m_drawn m_cell) [(0, .ref (b 0)), (1, .int x1), (2, .int x2), (3, .int (q.1)), (4, .int (q.2.1)), (5, .int (q.2.2))] []) (WE := (fun q : Int32 × Int32 => At p l e rm_X9_besides s m args below meth c D A 0 0 Q 7 63 (wl_X9_besides cA b m_latest m_cells m_wide m_houses m_bowls m_dogs m_gone m_sights m_drawn m_cell) [(2, .int x2), (3, .int (q.1)), (4, .int (q.2))] [])) (fun q r hf hK => k_X9_besides_L8 C hA b m_latest m_cells m_wide m_houses m_bowls m_dogs m_gone m_sights m_drawn m_cell x1 x2 q.1 q.2.1 q.2.2 r hf hK)
def f_X9_besides (m_cells : Int32) (m_wide : Int32) (m_cell : Nat → Int32) (x1 : Int32) (x2 : Int32) : Option (Int32) :=
  bind2 (loopF (fun q : Int32 × Int32 × Int32 => f_X9_besides_L8 m_cells m_wide m_cell x1 x2 q.1 q.2.1 q.2.2) FU ((0 : Int32), (-1 : Int32), (0 : Int32))) (fun u3 u4 => if x2 = (-1 : Int32) then (some u3) else (some u4))
set_option maxHeartbeats 4000000 in
set_option maxRecDepth 100000 in
theorem k_X9_besides (C : Cx RX9 cX9_besides 7 D cA p s m args c) (hr : meth.sig.returnType = (some .int)) (hlk : meth.locks = false) (hA : ∀ q, s.heap.size ≤ q → va_A ws0 sz q) (b : Nat → Nat) (m_latest : Int32) (m_cells : Int32) (m_wide : Int32) (m_houses : Int32) (m_bowls : Int32) (m_dogs : Int32) (m_gone : Int32) (m_sights : Int32) (m_drawn : Int32) (m_cell : Nat → Int32) (x1 : Int32) (x2 : Int32) (r : Int32) (hf : f_X9_besides m_cells m_wide m_cell x1 x2 = some r) : At p l e rm_X9_besides s m args below meth c D (va_A ws0 sz) 0 0 (MQ below (PostI D r ws0 (wl_X9_besides cA b m_latest m_cells m_wide m_houses m_bowls m_dogs m_gone m_sights m_drawn m_cell) sz) args s 0 0 (va_A ws0 sz)) 7 0 (wl_X9_besides cA b m_latest m_cells m_wide m_houses m_bowls m_dogs m_gone m_sights m_drawn m_cell) [(0, .ref (b 0)), (1, .int x1), (2, .int x2)] [] := by
  intro H locs ls hP hD hS hl
  have hx := C.1
  have hb := C.2.1
  have hown := C.2.2.2.1
  have hts := C.2.2.2.2.1
  unfold f_X9_besides at hf
  refine lv_iconst (pc := 0) (v := 0) hx hb dX9_besides_0 ic_0 ?_
  refine lv_istore_n (pc := 1) (lv' := [(3, .int (0 : Int32)), (0, .ref (b 0)), (1, .int x1), (2, .int x2)]) hx hb dX9_besides_1 rfl hl (Nat.le_of_ble_eq_true rfl) rfl (fun ls hl => ?_)
  refine lv_iconst (pc := 2) (v := (-1)) hx hb dX9_besides_2 ic_m1 ?_
  refine lv_istore (pc := 3) (lv' := [(4, .int (-1 : Int32)), (3, .int (0 : Int32)), (0, .ref (b 0)), (1, .int x1), (2, .int x2)]) hx hb dX9_besides_3 hl (Nat.le_of_ble_eq_true rfl) rfl (fun ls hl => ?_)
  refine lv_iconst (pc := 5) (v := 0) hx hb dX9_besides_5 ic_0 ?_
  refine lv_istore (pc := 6) (lv' := [(5, .int (0 : Int32)), (4, .int (-1 : Int32)), (3, .int (0 : Int32)), (0, .ref (b 0)), (1, .int x1), (2, .int x2)]) hx hb dX9_besides_6 hl (Nat.le_of_ble_eq_true rfl) rfl (fun ls hl => ?_)
  obtain ⟨u3, u4, hq, hf⟩ := bind2_some hf
  refine kl_X9_besides_L8 C hA b m_latest m_cells m_wide m_houses m_bowls m_dogs m_gone m_sights m_drawn m_cell x1 x2 FU ((0 : Int32), (-1 : Int32), (0 : Int32)) _ hq ?_ H locs ls hP hD hS (lv_sub hl [3, 4, 5, 2, 1, 0] rfl)
  intro H locs ls hP hD hS hl
  have hP : va_P D classes (wl_X9_besides cA b m_latest m_cells m_wide m_houses m_bowls m_dogs m_gone m_sights m_drawn m_cell) H := hP
  have hD : va_D (va_A ws0 sz) (wl_X9_besides cA b m_latest m_cells m_wide m_houses m_bowls m_dogs m_gone m_sights m_drawn m_cell) := hD
  have hl : lv_has ls 7 [(2, .int x2), (3, .int u3), (4, .int u4)] := hl
  refine lv_iload_n (pc := 63) hx hb dX9_besides_63 rfl (lv_at hl 0 rfl) ?_
  refine lv_iconst (pc := 64) (v := (-1)) hx hb dX9_besides_64 ic_m1 ?_
  refine lv_icmp_ne (pc := 65) (tgt := 72) hx hb dX9_besides_65 (by decide) (fun hc => ?_) (fun hc => ?_)
  · have hf := (if_neg hc).symm.trans hf
    refine lv_iload (pc := 72) hx hb dX9_besides_72 (lv_at hl 2 rfl) ?_
    have hf := Option.some.inj hf
    subst hf
    exact ret_i C hr hlk hP hS dX9_besides_74
  · have hf := (if_pos hc).symm.trans hf
    refine lv_iload_n (pc := 68) hx hb dX9_besides_68 rfl (lv_at hl 1 rfl) ?_
    refine lv_goto (pc := 69) (tgt := 74) hx hb dX9_besides_69 (by decide) ?_
    have hf := Option.some.inj hf
    subst hf
    exact ret_i C hr hlk hP hS dX9_besides_74
set_option maxRecDepth 100000 in
theorem c_X9_besides (l : Launch) (D : va_G) (cA : Nat → ClassId) (b : Nat → Nat) (m_latest : Int32) (m_cells : Int32) (m_wide : Int32) (m_houses : Int32) (m_bowls : Int32) (m_dogs : Int32) (m_gone : Int32) (m_sights : Int32) (m_drawn : Int32) (m_cell : Nat → Int32) (x1 : Int32) (x2 : Int32) (r : Int32) (hf : f_X9_besides m_cells m_wide m_cell x1 x2 = some r) (sz : Nat) : Met l yX9_besides (Cond.code yX9_besides cX9_besides 7 (some .int) :: lw_good) rm_X9_besides (PreX D cA [.ref (b 0), .int x1, .int x2] sz (wl_X9_besides cA b m_latest m_cells m_wide m_houses m_bowls m_dogs m_gone m_sights m_drawn m_cell)) (PostI D r (wl_X9_besides cA b m_latest m_cells m_wide m_houses m_bowls m_dogs m_gone m_sights m_drawn m_cell) (wl_X9_besides cA b m_latest m_cells m_wide m_houses m_bowls m_dogs m_gone m_sights m_drawn m_cell) sz) 0 0 (va_A (wl_X9_besides cA b m_latest m_cells m_wide m_houses m_bowls m_dogs m_gone m_sights m_drawn m_cell) sz) :=
  met_of (by decide) (Nat.le_of_ble_eq_true rfl) (fun p e s m args below meth c C hr hlk hA => k_X9_besides C hr hlk hA b m_latest m_cells m_wide m_houses m_bowls m_dogs m_gone m_sights m_drawn m_cell x1 x2 r hf)
end

abbrev wl_X9_roamOf (cA : Nat → ClassId) (b : Nat → Nat) (m_latest : Int32) (m_cells : Int32) (m_wide : Int32) (m_houses : Int32) (m_bowls : Int32) (m_dogs : Int32) (m_gone : Int32) (m_sights : Int32) (m_drawn : Int32) (m_cell : Nat → Int32) (m_settings : Nat → Int32) : va_W := [((b 0), .inr (9, [.ref (b 1), .ref (b 2), .ref (b 3), .ref (b 4), .int m_latest, .ref (b 5), .ref (b 6), .int m_cells, .int m_wide, .ref (b 7), .int m_houses, .ref (b 8), .ref (b 9), .int m_bowls, .ref (b 10), .int m_dogs, .ref (b 11), .int m_gone, .ref (b 12), .ref (b 13), .ref (b 14), .int m_sights, .ref (b 15), .ref (b 16), .int m_drawn])), ((b 7), .inl (cA 0, 36, .inl m_cell)), ((b 9), .inl (cA 0, 2, .inl m_settings))]
abbrev rm_X9_roamOf : Room := { frames := 2, cells := 0, slots := 0, locals := 49 }
section
variable {p : Program} {l : Launch} {e : Env} {s : State} {m : MethodId} {args : Array Value} {below : List Frame} {meth : Method} {c : Code} {D : va_G} {cA : Nat → ClassId} {ws0 : va_W} {sz : Nat} {A : Nat → Prop} {Q : State → Prop}
def f_X9_roamOf_b33 (m_cells : Int32) (m_wide : Int32) (m_drawn : Int32) (m_cell : Nat → Int32) (m_settings : Nat → Int32) (x3 : Int32) : Option (Int32 × Int32) :=
  if x3 = 0 then (some ((-1 : Int32), m_drawn)) else (some ((0 : Int32), m_drawn))
set_option maxHeartbeats 4000000 in
set_option maxRecDepth 100000 in
theorem k_X9_roamOf_b33 (C : Cx RX9 cX9_roamOf 10 D cA p s m args c) (hr : meth.sig.returnType = (some .int)) (hlk : meth.locks = false) (hA : ∀ q, s.heap.size ≤ q → va_A ws0 sz q) (b : Nat → Nat) (m_latest : Int32) (m_cells : Int32) (m_wide : Int32) (m_houses : Int32) (m_bowls : Int32) (m_dogs : Int32) (m_gone : Int32) (m_sights : Int32) (m_drawn : Int32) (m_cell : Nat → Int32) (m_settings : Nat → Int32) (x3 : Int32) (r : Int32 × Int32) (hf : f_X9_roamOf_b33 m_cells m_wide m_drawn m_cell m_settings x3 = some r) : At p l e rm_X9_roamOf s m args below meth c D (va_A ws0 sz) 0 0 (MQ below (PostI D r.1 ws0 (wl_X9_roamOf cA b m_latest m_cells m_wide m_houses m_bowls m_dogs m_gone m_sights (r.2) m_cell m_settings) sz) args s 0 0 (va_A ws0 sz)) 10 33 (wl_X9_roamOf cA b m_latest m_cells m_wide m_houses m_bowls m_dogs m_gone m_sights m_drawn m_cell m_settings) [(3, .int x3)] [] := by
  intro H locs ls hP hD hS hl
  have hx := C.1
  have hb := C.2.1
  have hown := C.2.2.2.1
  have hts := C.2.2.2.2.1
  unfold f_X9_roamOf_b33 at hf
  refine lv_iload_n (pc := 33) hx hb dX9_roamOf_33 rfl (lv_at hl 0 rfl) ?_
  refine lv_if_ne (pc := 34) (tgt := 41) hx hb dX9_roamOf_34 (by decide) (fun hc => ?_) (fun hc => ?_)
  · have hf := (if_neg hc).symm.trans hf
    refine lv_iconst (pc := 41) (v := 0) hx hb dX9_roamOf_41 ic_0 ?_
    have hf := Option.some.inj hf
    subst hf
    exact ret_i C hr hlk hP hS dX9_roamOf_42
  · have hf := (if_pos hc).symm.trans hf
    refine lv_iconst (pc := 37) (v := (-1)) hx hb dX9_roamOf_37 ic_m1 ?_
    refine lv_goto (pc := 38) (tgt := 42) hx hb dX9_roamOf_38 (by decide) ?_
    have hf := Option.some.inj hf
    subst hf
    exact ret_i C hr hlk hP hS dX9_roamOf_42
def f_X9_roamOf_b94L57 (m_cells : Int32) (m_wide : Int32) (m_drawn : Int32) (m_cell : Nat → Int32) (x2 : Int32) (x5 : Int64) (x7 : Int32) (s0 : Int32) : Option ((Int32 × Int64 × Int32 × Int32) ⊕ (Int32 × Int64 × Int32)) :=
  letv ((x5 ||| ((1 : Int64) <<< (s0.toInt64 &&& 63)))) (fun v8 => some (.inl (s0, v8, (x7 + 1), m_drawn)))
set_option maxHeartbeats 4000000 in
set_option maxRecDepth 100000 in
theorem k_X9_roamOf_b94L57 (C : Cx RX9 cX9_roamOf 10 D cA p s m args c) (hA : ∀ q, s.heap.size ≤ q → A q) (b : Nat → Nat) (m_latest : Int32) (m_cells : Int32) (m_wide : Int32) (m_houses : Int32) (m_bowls : Int32) (m_dogs : Int32) (m_gone : Int32) (m_sights : Int32) (m_drawn : Int32) (m_cell : Nat → Int32) (m_settings : Nat → Int32) (x2 : Int32) (x3 : Int32) (x5 : Int64) (x7 : Int32) (s0 : Int32) (r : (Int32 × Int64 × Int32 × Int32) ⊕ (Int32 × Int64 × Int32)) (hf : f_X9_roamOf_b94L57 m_cells m_wide m_drawn m_cell x2 x5 x7 s0 = some r) (hK : Sum.elim (fun q : Int32 × Int64 × Int32 × Int32 => At p l e rm_X9_roamOf s m args below meth c D A 0 0 Q 10 57 (wl_X9_roamOf cA b m_latest m_cells m_wide m_houses m_bowls m_dogs m_gone m_sights (q.2.2.2) m_cell m_settings) [(0, .ref (b 0)), (2, .int x2), (3, .int x3), (4, .int (q.1)), (5, .long (q.2.1)), (7, .int (q.2.2.1))] []) (fun q : Int32 × Int64 × Int32 => At p l e rm_X9_roamOf s m args below meth c D A 0 0 Q 10 111 (wl_X9_roamOf cA b m_latest m_cells m_wide m_houses m_bowls m_dogs m_gone m_sights (q.2.2) m_cell m_settings) [(3, .int x3), (4, .int (q.1)), (5, .long (q.2.1))] []) r) : At p l e rm_X9_roamOf s m args below meth c D A 0 0 Q 10 94 (wl_X9_roamOf cA b m_latest m_cells m_wide m_houses m_bowls m_dogs m_gone m_sights m_drawn m_cell m_settings) [(0, .ref (b 0)), (2, .int x2), (3, .int x3), (5, .long x5), (7, .int x7)] [.int s0] := by
  intro H locs ls hP hD hS hl
  have hx := C.1
  have hb := C.2.1
  have hown := C.2.2.2.1
  have hts := C.2.2.2.2.1
  unfold f_X9_roamOf_b94L57 at hf
  refine lv_istore (pc := 94) (lv' := [(4, .int s0), (0, .ref (b 0)), (2, .int x2), (3, .int x3), (5, .long x5), (7, .int x7)]) hx hb dX9_roamOf_94 hl (Nat.le_of_ble_eq_true rfl) rfl (fun ls hl => ?_)
  refine lv_lload (pc := 96) hx hb dX9_roamOf_96 (lv_at hl 4 rfl) ?_
  refine lv_lconst (pc := 98) (v := 1) hx hb dX9_roamOf_98 rfl ?_
  refine lv_iload (pc := 99) hx hb dX9_roamOf_99 (lv_at hl 0 rfl) ?_
  refine lv_lshl (pc := 101) hx hb dX9_roamOf_101 rfl ?_
  refine lv_lor (pc := 102) hx hb dX9_roamOf_102 ?_
  obtain ⟨v8, e_v8, hf⟩ := letv_some hf
  refine tp_l e_v8 ?_
  refine lv_lstore (pc := 103) (lv' := [(5, .long v8), (4, .int s0), (0, .ref (b 0)), (2, .int x2), (3, .int x3), (7, .int x7)]) hx hb dX9_roamOf_103 hl (Nat.le_of_ble_eq_true rfl) rfl (fun ls hl => ?_)
  refine lv_iinc (pc := 105) (v := (x7 + 1)) (lv' := [(7, .int (x7 + 1)), (5, .long v8), (4, .int s0), (0, .ref (b 0)), (2, .int x2), (3, .int x3)]) hx hb dX9_roamOf_105 hl (k := 5) rfl rfl (Nat.le_of_ble_eq_true rfl) rfl (fun ls hl => ?_)
  refine lv_goto (pc := 108) (tgt := 57) hx hb dX9_roamOf_108 (by decide) ?_
  have hf := Option.some.inj hf
  subst hf
  exact hK H locs ls hP hD hS (lv_sub hl [3, 4, 5, 2, 1, 0] rfl)
def f_X9_roamOf_L57 (m_cells : Int32) (m_wide : Int32) (m_cell : Nat → Int32) (x2 : Int32) (x4 : Int32) (x5 : Int64) (x7 : Int32) (m_drawn : Int32) : Option ((Int32 × Int64 × Int32 × Int32) ⊕ (Int32 × Int64 × Int32)) :=
  if x2 ≤ x7 then (some (.inr (x4, x5, m_drawn))) else (bind1 (f_X9_besides m_cells m_wide m_cell x4 (-1 : Int32)) (fun r4 => if r4 = 0 then (f_X9_roamOf_b94L57 m_cells m_wide m_drawn m_cell x2 x5 x7 x4) else (bind2 (f_X9_lot m_drawn r4) (fun r5 c6 => bind1 (f_X9_besides m_cells m_wide m_cell x4 r5) (fun r7 => f_X9_roamOf_b94L57 m_cells m_wide c6 m_cell x2 x5 x7 r7)))))
set_option maxHeartbeats 4000000 in
set_option maxRecDepth 100000 in
theorem k_X9_roamOf_L57 (C : Cx RX9 cX9_roamOf 10 D cA p s m args c) (hA : ∀ q, s.heap.size ≤ q → A q) (b : Nat → Nat) (m_latest : Int32) (m_cells : Int32) (m_wide : Int32) (m_houses : Int32) (m_bowls : Int32) (m_dogs : Int32) (m_gone : Int32) (m_sights : Int32) (m_cell : Nat → Int32) (m_settings : Nat → Int32) (x2 : Int32) (x3 : Int32) (x4 : Int32) (x5 : Int64) (x7 : Int32) (m_drawn : Int32) (r : (Int32 × Int64 × Int32 × Int32) ⊕ (Int32 × Int64 × Int32)) (hf : f_X9_roamOf_L57 m_cells m_wide m_cell x2 x4 x5 x7 m_drawn = some r) (hK : Sum.elim (fun q : Int32 × Int64 × Int32 × Int32 => At p l e rm_X9_roamOf s m args below meth c D A 0 0 Q 10 57 (wl_X9_roamOf cA b m_latest m_cells m_wide m_houses m_bowls m_dogs m_gone m_sights (q.2.2.2) m_cell m_settings) [(0, .ref (b 0)), (2, .int x2), (3, .int x3), (4, .int (q.1)), (5, .long (q.2.1)), (7, .int (q.2.2.1))] []) (fun q : Int32 × Int64 × Int32 => At p l e rm_X9_roamOf s m args below meth c D A 0 0 Q 10 111 (wl_X9_roamOf cA b m_latest m_cells m_wide m_houses m_bowls m_dogs m_gone m_sights (q.2.2) m_cell m_settings) [(3, .int x3), (4, .int (q.1)), (5, .long (q.2.1))] []) r) : At p l e rm_X9_roamOf s m args below meth c D A 0 0 Q 10 57 (wl_X9_roamOf cA b m_latest m_cells m_wide m_houses m_bowls m_dogs m_gone m_sights m_drawn m_cell m_settings) [(0, .ref (b 0)), (2, .int x2), (3, .int x3), (4, .int x4), (5, .long x5), (7, .int x7)] [] := by
  intro H locs ls hP hD hS hl
  have hx := C.1
  have hb := C.2.1
  have hown := C.2.2.2.1
  have hts := C.2.2.2.2.1
  unfold f_X9_roamOf_L57 at hf
  refine lv_iload (pc := 57) hx hb dX9_roamOf_57 (lv_at hl 5 rfl) ?_
  refine lv_iload_n (pc := 59) hx hb dX9_roamOf_59 rfl (lv_at hl 1 rfl) ?_
  refine lv_icmp_ge (pc := 60) (tgt := 111) hx hb dX9_roamOf_60 (by decide) (fun hc => ?_) (fun hc => ?_)
  · have hf := (if_pos hc).symm.trans hf
    have hf := Option.some.inj hf
    subst hf
    exact hK H locs ls hP hD hS (lv_sub hl [2, 3, 4] rfl)
  · have hf := (if_neg hc).symm.trans hf
    refine lv_aload_n (pc := 63) hx hb dX9_roamOf_63 rfl (lv_at hl 0 rfl) ?_
    refine lv_iload (pc := 64) hx hb dX9_roamOf_64 (lv_at hl 3 rfl) ?_
    refine lv_iconst (pc := 66) (v := (-1)) hx hb dX9_roamOf_66 ic_m1 ?_
    obtain ⟨r4, hq, hf⟩ := bind1_some hf
    refine fin2_i (wl_X9_roamOf cA b m_latest m_cells m_wide m_houses m_bowls m_dogs m_gone m_sights m_drawn m_cell m_settings) (run_V (rest := []) (pc := 67) (As := [.int x4, .int (-1 : Int32)]) C mf_X9_264 (c_X9_besides l D cA b m_latest m_cells m_wide m_houses m_bowls m_dogs m_gone m_sights m_drawn m_cell x4 (-1 : Int32) r4 hq H.size) rfl rfl ⟨(Nat.le_of_ble_eq_true rfl), (Nat.le_of_ble_eq_true rfl)⟩ (preV_of C hP hD [0, 1] rfl (pl_nd pv_166) 0 rfl rfl rfl) rfl hl.1 rfl (Nat.le_of_ble_eq_true rfl) dX9_roamOf_67 ⟨Nat.zero_le _, Nat.zero_le _⟩) hP hD hS hA [0, 1] [2] rfl rfl rfl rfl pv_166 (fun H locs hP hS => ?_)
    refine lv_istore (pc := 70) (lv' := [(8, .int r4), (0, .ref (b 0)), (2, .int x2), (3, .int x3), (4, .int x4), (5, .long x5), (7, .int x7)]) hx hb dX9_roamOf_70 hl (Nat.le_of_ble_eq_true rfl) rfl (fun ls hl => ?_)
    refine lv_iload (pc := 72) hx hb dX9_roamOf_72 (lv_at hl 0 rfl) ?_
    refine lv_if_ne (pc := 74) (tgt := 82) hx hb dX9_roamOf_74 (by decide) (fun hc => ?_) (fun hc => ?_)
    · have hf := (if_neg hc).symm.trans hf
      refine lv_aload_n (pc := 82) hx hb dX9_roamOf_82 rfl (lv_at hl 1 rfl) ?_
      refine lv_iload (pc := 83) hx hb dX9_roamOf_83 (lv_at hl 4 rfl) ?_
      refine lv_aload_n (pc := 85) hx hb dX9_roamOf_85 rfl (lv_at hl 1 rfl) ?_
      refine lv_iload (pc := 86) hx hb dX9_roamOf_86 (lv_at hl 0 rfl) ?_
      obtain ⟨r5, c6, hq, hf⟩ := bind2_some hf
      refine fin2_i (wl_X9_roamOf cA b m_latest m_cells m_wide m_houses m_bowls m_dogs m_gone m_sights c6 m_cell m_settings) (run_V (rest := [.int x4, .ref (b 0)]) (pc := 88) (As := [.int r4]) C mf_X9_267 (c_X9_lot l D cA b m_latest m_cells m_wide m_houses m_bowls m_dogs m_gone m_sights m_drawn r4 (r5, c6) hq H.size) rfl rfl ⟨(Nat.le_of_ble_eq_true rfl), (Nat.le_of_ble_eq_true rfl)⟩ (preV_of C hP hD [0] rfl (pl_nd pv_120) 0 rfl rfl rfl) rfl hl.1 rfl (Nat.le_of_ble_eq_true rfl) dX9_roamOf_88 ⟨Nat.zero_le _, Nat.zero_le _⟩) hP hD hS hA [0] [1, 2] rfl rfl rfl rfl pv_120 (fun H locs hP hS => ?_)
      have hD : va_D A (wl_X9_roamOf cA b m_latest m_cells m_wide m_houses m_bowls m_dogs m_gone m_sights c6 m_cell m_settings) := vd_a hD rfl
      obtain ⟨r7, hq, hf⟩ := bind1_some hf
      refine fin2_i (wl_X9_roamOf cA b m_latest m_cells m_wide m_houses m_bowls m_dogs m_gone m_sights c6 m_cell m_settings) (run_V (rest := []) (pc := 91) (As := [.int x4, .int r5]) C mf_X9_264 (c_X9_besides l D cA b m_latest m_cells m_wide m_houses m_bowls m_dogs m_gone m_sights c6 m_cell x4 r5 r7 hq H.size) rfl rfl ⟨(Nat.le_of_ble_eq_true rfl), (Nat.le_of_ble_eq_true rfl)⟩ (preV_of C hP hD [0, 1] rfl (pl_nd pv_166) 0 rfl rfl rfl) rfl hl.1 rfl (Nat.le_of_ble_eq_true rfl) dX9_roamOf_91 ⟨Nat.zero_le _, Nat.zero_le _⟩) hP hD hS hA [0, 1] [2] rfl rfl rfl rfl pv_166 (fun H locs hP hS => ?_)
      exact k_X9_roamOf_b94L57 C hA b m_latest m_cells m_wide m_houses m_bowls m_dogs m_gone m_sights c6 m_cell m_settings x2 x3 x5 x7 r7 r hf hK H locs ls hP hD hS (lv_sub hl [1, 2, 3, 5, 6] rfl)
    · have hf := (if_pos hc).symm.trans hf
      refine lv_iload (pc := 77) hx hb dX9_roamOf_77 (lv_at hl 4 rfl) ?_
      refine lv_goto (pc := 79) (tgt := 94) hx hb dX9_roamOf_79 (by decide) ?_
      exact k_X9_roamOf_b94L57 C hA b m_latest m_cells m_wide m_houses m_bowls m_dogs m_gone m_sights m_drawn m_cell m_settings x2 x3 x5 x7 x4 r hf hK H locs ls hP hD hS (lv_sub hl [1, 2, 3, 5, 6] rfl)
theorem kl_X9_roamOf_L57 (C : Cx RX9 cX9_roamOf 10 D cA p s m args c) (hA : ∀ q, s.heap.size ≤ q → A q) (b : Nat → Nat) (m_latest : Int32) (m_cells : Int32) (m_wide : Int32) (m_houses : Int32) (m_bowls : Int32) (m_dogs : Int32) (m_gone : Int32) (m_sights : Int32) (m_cell : Nat → Int32) (m_settings : Nat → Int32) (x2 : Int32) (x3 : Int32) : ∀ (n : Nat) (q : Int32 × Int64 × Int32 × Int32) (z : (Int32 × Int64 × Int32)), loopF (fun q : Int32 × Int64 × Int32 × Int32 => f_X9_roamOf_L57 m_cells m_wide m_cell x2 q.1 q.2.1 q.2.2.1 q.2.2.2) n q = some z → (fun q : Int32 × Int64 × Int32 => At p l e rm_X9_roamOf s m args below meth c D A 0 0 Q 10 111 (wl_X9_roamOf cA b m_latest m_cells m_wide m_houses m_bowls m_dogs m_gone m_sights (q.2.2) m_cell m_settings) [(3, .int x3), (4, .int (q.1)), (5, .long (q.2.1))] []) z → At p l e rm_X9_roamOf s m args below meth c D A 0 0 Q 10 57 (wl_X9_roamOf cA b m_latest m_cells m_wide m_houses m_bowls m_dogs m_gone m_sights (q.2.2.2) m_cell m_settings) [(0, .ref (b 0)), (2, .int x2), (3, .int x3), (4, .int (q.1)), (5, .long (q.2.1)), (7, .int (q.2.2.1))] [] :=
  loop_lem (WP := fun q : Int32 × Int64 × Int32 × Int32 => At p l e rm_X9_roamOf s m args below meth c D A 0 0 Q 10 57 (wl_X9_roamOf cA b m_latest m_cells m_wide m_houses m_bowls m_dogs m_gone m_sights (q.2.2.2) m_cell m_settings) [(0, .ref (b 0)), (2, .int x2), (3, .int x3), (4, .int (q.1)), (5, .long (q.2.1)), (7, .int (q.2.2.1))] []) (WE := (fun q : Int32 × Int64 × Int32 => At p l e rm_X9_roamOf s m args below meth c D A 0 0 Q 10 111 (wl_X9_roamOf cA b m_latest m_cells m_wide m_houses m_bowls m_dogs m_gone m_sights (q.2.2) m_cell m_settings) [(3, .int x3), (4, .int (q.1)), (5, .long (q.2.1))] [])) (fun q r hf hK => k_X9_roamOf_L57 C hA b m_latest m_cells m_wide m_houses m_bowls m_dogs m_gone m_sights m_cell m_settings x2 x3 q.1 q.2.1 q.2.2.1 q.2.2.2 r hf hK)
def f_X9_roamOf_L118 (x7 : Int32) (x8 : Int64) : Option ((Int32 × Int64) ⊕ (Int32)) :=
  if (lg_cmp x8 (0 : Int64)) = 0 then (some (.inr x7)) else (letv ((x8 &&& (x8 - (1 : Int64)))) (fun v12 => some (.inl ((x7 + 1), v12))))
set_option maxHeartbeats 4000000 in
set_option maxRecDepth 100000 in
theorem k_X9_roamOf_L118 (C : Cx RX9 cX9_roamOf 10 D cA p s m args c) (hA : ∀ q, s.heap.size ≤ q → A q) (b : Nat → Nat) (m_latest : Int32) (m_cells : Int32) (m_wide : Int32) (m_houses : Int32) (m_bowls : Int32) (m_dogs : Int32) (m_gone : Int32) (m_sights : Int32) (m_drawn : Int32) (m_cell : Nat → Int32) (m_settings : Nat → Int32) (x3 : Int32) (x4 : Int32) (x7 : Int32) (x8 : Int64) (r : (Int32 × Int64) ⊕ (Int32)) (hf : f_X9_roamOf_L118 x7 x8 = some r) (hK : Sum.elim (fun q : Int32 × Int64 => At p l e rm_X9_roamOf s m args below meth c D A 0 0 Q 10 118 (wl_X9_roamOf cA b m_latest m_cells m_wide m_houses m_bowls m_dogs m_gone m_sights m_drawn m_cell m_settings) [(3, .int x3), (4, .int x4), (7, .int (q.1)), (8, .long (q.2))] []) (fun q : Int32 => At p l e rm_X9_roamOf s m args below meth c D A 0 0 Q 10 140 (wl_X9_roamOf cA b m_latest m_cells m_wide m_houses m_bowls m_dogs m_gone m_sights m_drawn m_cell m_settings) [(3, .int x3), (4, .int x4), (7, .int q)] []) r) : At p l e rm_X9_roamOf s m args below meth c D A 0 0 Q 10 118 (wl_X9_roamOf cA b m_latest m_cells m_wide m_houses m_bowls m_dogs m_gone m_sights m_drawn m_cell m_settings) [(3, .int x3), (4, .int x4), (7, .int x7), (8, .long x8)] [] := by
  intro H locs ls hP hD hS hl
  have hx := C.1
  have hb := C.2.1
  have hown := C.2.2.2.1
  have hts := C.2.2.2.2.1
  unfold f_X9_roamOf_L118 at hf
  refine lv_lload (pc := 118) hx hb dX9_roamOf_118 (lv_at hl 3 rfl) ?_
  refine lv_lconst (pc := 120) (v := 0) hx hb dX9_roamOf_120 rfl ?_
  refine W.lcmp (pc := 121) hx hb dX9_roamOf_121 ?_
  refine lv_if_eq (pc := 122) (tgt := 140) hx hb dX9_roamOf_122 (by decide) (fun hc => ?_) (fun hc => ?_)
  · have hf := (if_pos hc).symm.trans hf
    have hf := Option.some.inj hf
    subst hf
    exact hK H locs ls hP hD hS (lv_sub hl [0, 1, 2] rfl)
  · have hf := (if_neg hc).symm.trans hf
    refine lv_iinc (pc := 125) (v := (x7 + 1)) (lv' := [(7, .int (x7 + 1)), (3, .int x3), (4, .int x4), (8, .long x8)]) hx hb dX9_roamOf_125 hl (k := 2) rfl rfl (Nat.le_of_ble_eq_true rfl) rfl (fun ls hl => ?_)
    refine lv_lload (pc := 128) hx hb dX9_roamOf_128 (lv_at hl 3 rfl) ?_
    refine lv_lload (pc := 130) hx hb dX9_roamOf_130 (lv_at hl 3 rfl) ?_
    refine lv_lconst (pc := 132) (v := 1) hx hb dX9_roamOf_132 rfl ?_
    refine lv_lsub (pc := 133) hx hb dX9_roamOf_133 ?_
    refine lv_land (pc := 134) hx hb dX9_roamOf_134 ?_
    obtain ⟨v12, e_v12, hf⟩ := letv_some hf
    refine tp_l e_v12 ?_
    refine lv_lstore (pc := 135) (lv' := [(8, .long v12), (7, .int (x7 + 1)), (3, .int x3), (4, .int x4)]) hx hb dX9_roamOf_135 hl (Nat.le_of_ble_eq_true rfl) rfl (fun ls hl => ?_)
    refine lv_goto (pc := 137) (tgt := 118) hx hb dX9_roamOf_137 (by decide) ?_
    have hf := Option.some.inj hf
    subst hf
    exact hK H locs ls hP hD hS (lv_sub hl [2, 3, 1, 0] rfl)
theorem kl_X9_roamOf_L118 (C : Cx RX9 cX9_roamOf 10 D cA p s m args c) (hA : ∀ q, s.heap.size ≤ q → A q) (b : Nat → Nat) (m_latest : Int32) (m_cells : Int32) (m_wide : Int32) (m_houses : Int32) (m_bowls : Int32) (m_dogs : Int32) (m_gone : Int32) (m_sights : Int32) (m_drawn : Int32) (m_cell : Nat → Int32) (m_settings : Nat → Int32) (x3 : Int32) (x4 : Int32) : ∀ (n : Nat) (q : Int32 × Int64) (z : (Int32)), loopF (fun q : Int32 × Int64 => f_X9_roamOf_L118 q.1 q.2) n q = some z → (fun q : Int32 => At p l e rm_X9_roamOf s m args below meth c D A 0 0 Q 10 140 (wl_X9_roamOf cA b m_latest m_cells m_wide m_houses m_bowls m_dogs m_gone m_sights m_drawn m_cell m_settings) [(3, .int x3), (4, .int x4), (7, .int q)] []) z → At p l e rm_X9_roamOf s m args below meth c D A 0 0 Q 10 118 (wl_X9_roamOf cA b m_latest m_cells m_wide m_houses m_bowls m_dogs m_gone m_sights m_drawn m_cell m_settings) [(3, .int x3), (4, .int x4), (7, .int (q.1)), (8, .long (q.2))] [] :=
  loop_lem (WP := fun q : Int32 × Int64 => At p l e rm_X9_roamOf s m args below meth c D A 0 0 Q 10 118 (wl_X9_roamOf cA b m_latest m_cells m_wide m_houses m_bowls m_dogs m_gone m_sights m_drawn m_cell m_settings) [(3, .int x3), (4, .int x4), (7, .int (q.1)), (8, .long (q.2))] []) (WE := (fun q : Int32 => At p l e rm_X9_roamOf s m args below meth c D A 0 0 Q 10 140 (wl_X9_roamOf cA b m_latest m_cells m_wide m_houses m_bowls m_dogs m_gone m_sights m_drawn m_cell m_settings) [(3, .int x3), (4, .int x4), (7, .int q)] [])) (fun q r hf hK => k_X9_roamOf_L118 C hA b m_latest m_cells m_wide m_houses m_bowls m_dogs m_gone m_sights m_drawn m_cell m_settings x3 x4 q.1 q.2 r hf hK)
def f_X9_roamOf (m_cells : Int32) (m_wide : Int32) (m_drawn : Int32) (m_cell : Nat → Int32) (m_settings : Nat → Int32) (x1 : Int32) (x2 : Int32) (x3 : Int32) : Option (Int32 × Int32) :=
  letv (((m_settings (0 : Int32).toNatClampNeg) * m_wide)) (fun v1 => bind1 (f_X9_isCell m_cells v1) (fun r2 => if r2 = 0 then (f_X9_roamOf_b33 m_cells m_wide m_drawn m_cell m_settings x3) else (gd (inb v1 36) (if (m_cell v1.toNatClampNeg) = (1 : Int32) then (f_X9_roamOf_b33 m_cells m_wide m_drawn m_cell m_settings x3) else (letv (((1 : Int64) <<< (v1.toInt64 &&& 63))) (fun v3 => bind3 (loopF (fun q : Int32 × Int64 × Int32 × Int32 => f_X9_roamOf_L57 m_cells m_wide m_cell x2 q.1 q.2.1 q.2.2.1 q.2.2.2) FU (v1, v3, (0 : Int32), x1)) (fun u9 u10 u11 => bind1 (loopF (fun q : Int32 × Int64 => f_X9_roamOf_L118 q.1 q.2) FU ((0 : Int32), u10)) (fun u13 => if x3 = 0 then (some (u9, u11)) else (some (u13, u11))))))))))
set_option maxHeartbeats 4000000 in
set_option maxRecDepth 100000 in
theorem k_X9_roamOf (C : Cx RX9 cX9_roamOf 10 D cA p s m args c) (hr : meth.sig.returnType = (some .int)) (hlk : meth.locks = false) (hA : ∀ q, s.heap.size ≤ q → va_A ws0 sz q) (b : Nat → Nat) (m_latest : Int32) (m_cells : Int32) (m_wide : Int32) (m_houses : Int32) (m_bowls : Int32) (m_dogs : Int32) (m_gone : Int32) (m_sights : Int32) (m_drawn : Int32) (m_cell : Nat → Int32) (m_settings : Nat → Int32) (x1 : Int32) (x2 : Int32) (x3 : Int32) (r : Int32 × Int32) (hf : f_X9_roamOf m_cells m_wide m_drawn m_cell m_settings x1 x2 x3 = some r) : At p l e rm_X9_roamOf s m args below meth c D (va_A ws0 sz) 0 0 (MQ below (PostI D r.1 ws0 (wl_X9_roamOf cA b m_latest m_cells m_wide m_houses m_bowls m_dogs m_gone m_sights (r.2) m_cell m_settings) sz) args s 0 0 (va_A ws0 sz)) 10 0 (wl_X9_roamOf cA b m_latest m_cells m_wide m_houses m_bowls m_dogs m_gone m_sights m_drawn m_cell m_settings) [(0, .ref (b 0)), (1, .int x1), (2, .int x2), (3, .int x3)] [] := by
  intro H locs ls hP hD hS hl
  have hx := C.1
  have hb := C.2.1
  have hown := C.2.2.2.1
  have hts := C.2.2.2.2.1
  unfold f_X9_roamOf at hf
  refine lv_aload_n (pc := 0) hx hb dX9_roamOf_0 rfl (lv_at hl 0 rfl) ?_
  refine g_get (pc := 1) C fg_X9_34 hP 0 rfl rfl dX9_roamOf_1 ?_
  refine lv_iconst (pc := 4) (v := 0) hx hb dX9_roamOf_4 ic_0 ?_
  refine g_iald (pc := 5) C hP 2 rfl (by decide) dX9_roamOf_5 ?_
  refine lv_aload_n (pc := 6) hx hb dX9_roamOf_6 rfl (lv_at hl 0 rfl) ?_
  refine g_get (pc := 7) C fg_X9_97 hP 0 rfl rfl dX9_roamOf_7 ?_
  refine lv_imul (pc := 10) hx hb dX9_roamOf_10 ?_
  obtain ⟨v1, e_v1, hf⟩ := letv_some hf
  refine tp_i e_v1 ?_
  refine lv_istore (pc := 11) (lv' := [(4, .int v1), (0, .ref (b 0)), (1, .int x1), (2, .int x2), (3, .int x3)]) hx hb dX9_roamOf_11 hl (Nat.le_of_ble_eq_true rfl) rfl (fun ls hl => ?_)
  refine lv_aload_n (pc := 13) hx hb dX9_roamOf_13 rfl (lv_at hl 1 rfl) ?_
  refine lv_iload (pc := 14) hx hb dX9_roamOf_14 (lv_at hl 0 rfl) ?_
  obtain ⟨r2, hq, hf⟩ := bind1_some hf
  refine fin2_i (wl_X9_roamOf cA b m_latest m_cells m_wide m_houses m_bowls m_dogs m_gone m_sights m_drawn m_cell m_settings) (run_V (rest := []) (pc := 16) (As := [.int v1]) C mf_X9_165 (c_X9_isCell l D cA b m_latest m_cells m_wide m_houses m_bowls m_dogs m_gone m_sights m_drawn v1 r2 hq H.size) rfl rfl ⟨(Nat.le_of_ble_eq_true rfl), (Nat.le_of_ble_eq_true rfl)⟩ (preV_of C hP hD [0] rfl (pl_nd pv_120) 0 rfl rfl rfl) rfl hl.1 rfl (Nat.le_of_ble_eq_true rfl) dX9_roamOf_16 ⟨Nat.zero_le _, Nat.zero_le _⟩) hP hD hS hA [0] [1, 2] rfl rfl rfl rfl pv_120 (fun H locs hP hS => ?_)
  refine lv_if_eq (pc := 19) (tgt := 33) hx hb dX9_roamOf_19 (by decide) (fun hc => ?_) (fun hc => ?_)
  · have hf := (if_pos hc).symm.trans hf
    exact k_X9_roamOf_b33 C hr hlk hA b m_latest m_cells m_wide m_houses m_bowls m_dogs m_gone m_sights m_drawn m_cell m_settings x3 r hf H locs ls hP hD hS (lv_sub hl [4] rfl)
  · have hf := (if_neg hc).symm.trans hf
    refine lv_aload_n (pc := 22) hx hb dX9_roamOf_22 rfl (lv_at hl 1 rfl) ?_
    refine g_get (pc := 23) C fg_X9_28 hP 0 rfl rfl dX9_roamOf_23 ?_
    refine lv_iload (pc := 26) hx hb dX9_roamOf_26 (lv_at hl 0 rfl) ?_
    obtain ⟨hg, hf⟩ := gd_some hf
    refine g_iald (pc := 28) C hP 1 rfl hg dX9_roamOf_28 ?_
    refine lv_iconst (pc := 29) (v := 1) hx hb dX9_roamOf_29 ic_1 ?_
    refine lv_icmp_ne (pc := 30) (tgt := 43) hx hb dX9_roamOf_30 (by decide) (fun hc => ?_) (fun hc => ?_)
    · have hf := (if_neg hc).symm.trans hf
      refine lv_aload_n (pc := 43) hx hb dX9_roamOf_43 rfl (lv_at hl 1 rfl) ?_
      refine lv_iload_n (pc := 44) hx hb dX9_roamOf_44 rfl (lv_at hl 2 rfl) ?_
      refine g_put (pc := 45) C fg_X9_261 ft_X9_24 hP hD hS 0 rfl rfl rfl (Nat.le_of_ble_eq_true rfl) dX9_roamOf_45 (fun H locs hP hD hS => ?_)
      have hP : va_P D classes (wl_X9_roamOf cA b m_latest m_cells m_wide m_houses m_bowls m_dogs m_gone m_sights x1 m_cell m_settings) H := hP
      have hD : va_D (va_A ws0 sz) (wl_X9_roamOf cA b m_latest m_cells m_wide m_houses m_bowls m_dogs m_gone m_sights x1 m_cell m_settings) := hD
      refine lv_lconst (pc := 48) (v := 1) hx hb dX9_roamOf_48 rfl ?_
      refine lv_iload (pc := 49) hx hb dX9_roamOf_49 (lv_at hl 0 rfl) ?_
      refine lv_lshl (pc := 51) hx hb dX9_roamOf_51 rfl ?_
      obtain ⟨v3, e_v3, hf⟩ := letv_some hf
      refine tp_l e_v3 ?_
      refine lv_lstore (pc := 52) (lv' := [(5, .long v3), (4, .int v1), (0, .ref (b 0)), (1, .int x1), (2, .int x2), (3, .int x3)]) hx hb dX9_roamOf_52 hl (Nat.le_of_ble_eq_true rfl) rfl (fun ls hl => ?_)
      refine lv_iconst (pc := 54) (v := 0) hx hb dX9_roamOf_54 ic_0 ?_
      refine lv_istore (pc := 55) (lv' := [(7, .int (0 : Int32)), (5, .long v3), (4, .int v1), (0, .ref (b 0)), (1, .int x1), (2, .int x2), (3, .int x3)]) hx hb dX9_roamOf_55 hl (Nat.le_of_ble_eq_true rfl) rfl (fun ls hl => ?_)
      obtain ⟨u9, u10, u11, hq, hf⟩ := bind3_some hf
      refine kl_X9_roamOf_L57 C hA b m_latest m_cells m_wide m_houses m_bowls m_dogs m_gone m_sights m_cell m_settings x2 x3 FU (v1, v3, (0 : Int32), x1) _ hq ?_ H locs ls hP hD hS (lv_sub hl [3, 5, 6, 2, 1, 0] rfl)
      intro H locs ls hP hD hS hl
      have hP : va_P D classes (wl_X9_roamOf cA b m_latest m_cells m_wide m_houses m_bowls m_dogs m_gone m_sights u11 m_cell m_settings) H := hP
      have hD : va_D (va_A ws0 sz) (wl_X9_roamOf cA b m_latest m_cells m_wide m_houses m_bowls m_dogs m_gone m_sights u11 m_cell m_settings) := hD
      have hl : lv_has ls 10 [(3, .int x3), (4, .int u9), (5, .long u10)] := hl
      refine lv_iconst (pc := 111) (v := 0) hx hb dX9_roamOf_111 ic_0 ?_
      refine lv_istore (pc := 112) (lv' := [(7, .int (0 : Int32)), (3, .int x3), (4, .int u9), (5, .long u10)]) hx hb dX9_roamOf_112 hl (Nat.le_of_ble_eq_true rfl) rfl (fun ls hl => ?_)
      refine lv_lload (pc := 114) hx hb dX9_roamOf_114 (lv_at hl 3 rfl) ?_
      refine lv_lstore (pc := 116) (lv' := [(8, .long u10), (7, .int (0 : Int32)), (3, .int x3), (4, .int u9), (5, .long u10)]) hx hb dX9_roamOf_116 hl (Nat.le_of_ble_eq_true rfl) rfl (fun ls hl => ?_)
      obtain ⟨u13, hq, hf⟩ := bind1_some hf
      refine kl_X9_roamOf_L118 C hA b m_latest m_cells m_wide m_houses m_bowls m_dogs m_gone m_sights u11 m_cell m_settings x3 u9 FU ((0 : Int32), u10) _ hq ?_ H locs ls hP hD hS (lv_sub hl [2, 3, 1, 0] rfl)
      intro H locs ls hP hD hS hl
      have hP : va_P D classes (wl_X9_roamOf cA b m_latest m_cells m_wide m_houses m_bowls m_dogs m_gone m_sights u11 m_cell m_settings) H := hP
      have hD : va_D (va_A ws0 sz) (wl_X9_roamOf cA b m_latest m_cells m_wide m_houses m_bowls m_dogs m_gone m_sights u11 m_cell m_settings) := hD
      have hl : lv_has ls 10 [(3, .int x3), (4, .int u9), (7, .int u13)] := hl
      refine lv_iload_n (pc := 140) hx hb dX9_roamOf_140 rfl (lv_at hl 0 rfl) ?_
      refine lv_if_ne (pc := 141) (tgt := 149) hx hb dX9_roamOf_141 (by decide) (fun hc => ?_) (fun hc => ?_)
      · have hf := (if_neg hc).symm.trans hf
        refine lv_iload (pc := 149) hx hb dX9_roamOf_149 (lv_at hl 2 rfl) ?_
        have hf := Option.some.inj hf
        subst hf
        exact ret_i C hr hlk hP hS dX9_roamOf_151
      · have hf := (if_pos hc).symm.trans hf
        refine lv_iload (pc := 144) hx hb dX9_roamOf_144 (lv_at hl 1 rfl) ?_
        refine lv_goto (pc := 146) (tgt := 151) hx hb dX9_roamOf_146 (by decide) ?_
        have hf := Option.some.inj hf
        subst hf
        exact ret_i C hr hlk hP hS dX9_roamOf_151
    · have hf := (if_pos hc).symm.trans hf
      exact k_X9_roamOf_b33 C hr hlk hA b m_latest m_cells m_wide m_houses m_bowls m_dogs m_gone m_sights m_drawn m_cell m_settings x3 r hf H locs ls hP hD hS (lv_sub hl [4] rfl)
set_option maxRecDepth 100000 in
theorem c_X9_roamOf (l : Launch) (D : va_G) (cA : Nat → ClassId) (b : Nat → Nat) (m_latest : Int32) (m_cells : Int32) (m_wide : Int32) (m_houses : Int32) (m_bowls : Int32) (m_dogs : Int32) (m_gone : Int32) (m_sights : Int32) (m_drawn : Int32) (m_cell : Nat → Int32) (m_settings : Nat → Int32) (x1 : Int32) (x2 : Int32) (x3 : Int32) (r : Int32 × Int32) (hf : f_X9_roamOf m_cells m_wide m_drawn m_cell m_settings x1 x2 x3 = some r) (sz : Nat) : Met l yX9_roamOf (Cond.code yX9_roamOf cX9_roamOf 10 (some .int) :: lw_good) rm_X9_roamOf (PreX D cA [.ref (b 0), .int x1, .int x2, .int x3] sz (wl_X9_roamOf cA b m_latest m_cells m_wide m_houses m_bowls m_dogs m_gone m_sights m_drawn m_cell m_settings)) (PostI D r.1 (wl_X9_roamOf cA b m_latest m_cells m_wide m_houses m_bowls m_dogs m_gone m_sights m_drawn m_cell m_settings) (wl_X9_roamOf cA b m_latest m_cells m_wide m_houses m_bowls m_dogs m_gone m_sights (r.2) m_cell m_settings) sz) 0 0 (va_A (wl_X9_roamOf cA b m_latest m_cells m_wide m_houses m_bowls m_dogs m_gone m_sights m_drawn m_cell m_settings) sz) :=
  met_of (by decide) (Nat.le_of_ble_eq_true rfl) (fun p e s m args below meth c C hr hlk hA => k_X9_roamOf C hr hlk hA b m_latest m_cells m_wide m_houses m_bowls m_dogs m_gone m_sights m_drawn m_cell m_settings x1 x2 x3 r hf)
end

abbrev wl_X9_roam (cA : Nat → ClassId) (b : Nat → Nat) (m_latest : Int32) (m_cells : Int32) (m_wide : Int32) (m_houses : Int32) (m_bowls : Int32) (m_dogs : Int32) (m_gone : Int32) (m_sights : Int32) (m_drawn : Int32) (m_bytes : Nat → Int32) (m_typed : Nat → Int32) (m_cell : Nat → Int32) (m_house : Nat → Int32) (m_settings : Nat → Int32) (m_bowl : Nat → Int32) (m_dog : Nat → Int32) (m_path : Nat → Int32) (m_steps : Nat → Int32) (m_line : Nat → Int32) : va_W := [((b 0), .inr (9, [.ref (b 1), .ref (b 2), .ref (b 3), .ref (b 4), .int m_latest, .ref (b 5), .ref (b 6), .int m_cells, .int m_wide, .ref (b 7), .int m_houses, .ref (b 8), .ref (b 9), .int m_bowls, .ref (b 10), .int m_dogs, .ref (b 11), .int m_gone, .ref (b 12), .ref (b 13), .ref (b 14), .int m_sights, .ref (b 15), .ref (b 16), .int m_drawn])), ((b 5), .inl (cA 0, 84, .inl m_bytes)), ((b 6), .inl (cA 0, 2, .inl m_typed)), ((b 7), .inl (cA 0, 36, .inl m_cell)), ((b 8), .inl (cA 0, 16, .inl m_house)), ((b 9), .inl (cA 0, 2, .inl m_settings)), ((b 10), .inl (cA 0, 20, .inl m_bowl)), ((b 11), .inl (cA 0, 16, .inl m_dog)), ((b 12), .inl (cA 0, 250, .inl m_path)), ((b 13), .inl (cA 0, 10, .inl m_steps)), ((b 14), .inl (cA 0, 60, .inl m_line))]
abbrev rm_X9_roam : Room := { frames := 6, cells := 0, slots := 0, locals := 147 }
section
variable {p : Program} {l : Launch} {e : Env} {s : State} {m : MethodId} {args : Array Value} {below : List Frame} {meth : Method} {c : Code} {D : va_G} {cA : Nat → ClassId} {ws0 : va_W} {sz : Nat} {A : Nat → Prop} {Q : State → Prop}
def f_X9_roam (m_cells : Int32) (m_wide : Int32) (m_houses : Int32) (m_bowls : Int32) (m_dogs : Int32) (m_gone : Int32) (m_drawn : Int32) (m_bytes : Nat → Int32) (m_typed : Nat → Int32) (m_cell : Nat → Int32) (m_house : Nat → Int32) (m_settings : Nat → Int32) (m_bowl : Nat → Int32) (m_dog : Nat → Int32) (m_path : Nat → Int32) (m_steps : Nat → Int32) (m_line : Nat → Int32) (x1 : Int32) (x2 : Int32) (x3 : Int32) : Option (Int32 × Int32 × Int32 × Int32 × Int32 × (Nat → Int32) × (Nat → Int32) × (Nat → Int32) × (Nat → Int32) × (Nat → Int32)) :=
  bind8 (f_X9_find m_cells m_wide m_houses m_bowls m_dogs m_gone m_bytes m_typed m_cell m_house m_settings m_bowl m_dog m_path m_steps m_line) (fun c1 c2 c3 c4 c5 c6 c7 c8 => bind1 (f_X9_in (x2.toInt64) (0 : Int64) (60 : Int64)) (fun r9 => if r9 = 0 then (some ((-2 : Int32), c1, c2, c3, m_drawn, c4, c5, c6, c7, c8)) else (bind1 (f_X9_isTwo x3) (fun r10 => if r10 = 0 then (some ((-2 : Int32), c1, c2, c3, m_drawn, c4, c5, c6, c7, c8)) else (bind2 (f_X9_roamOf c1 c2 m_drawn c4 m_settings x1 x2 x3) (fun r11 c12 => some (r11, c1, c2, c3, c12, c4, c5, c6, c7, c8)))))))
set_option maxHeartbeats 4000000 in
set_option maxRecDepth 100000 in
theorem k_X9_roam (C : Cx RX9 cX9_roam 4 D cA p s m args c) (hr : meth.sig.returnType = (some .int)) (hlk : meth.locks = false) (hA : ∀ q, s.heap.size ≤ q → va_A ws0 sz q) (b : Nat → Nat) (m_latest : Int32) (m_cells : Int32) (m_wide : Int32) (m_houses : Int32) (m_bowls : Int32) (m_dogs : Int32) (m_gone : Int32) (m_sights : Int32) (m_drawn : Int32) (m_bytes : Nat → Int32) (m_typed : Nat → Int32) (m_cell : Nat → Int32) (m_house : Nat → Int32) (m_settings : Nat → Int32) (m_bowl : Nat → Int32) (m_dog : Nat → Int32) (m_path : Nat → Int32) (m_steps : Nat → Int32) (m_line : Nat → Int32) (x1 : Int32) (x2 : Int32) (x3 : Int32) (r : Int32 × Int32 × Int32 × Int32 × Int32 × (Nat → Int32) × (Nat → Int32) × (Nat → Int32) × (Nat → Int32) × (Nat → Int32)) (hf : f_X9_roam m_cells m_wide m_houses m_bowls m_dogs m_gone m_drawn m_bytes m_typed m_cell m_house m_settings m_bowl m_dog m_path m_steps m_line x1 x2 x3 = some r) : At p l e rm_X9_roam s m args below meth c D (va_A ws0 sz) 0 0 (MQ below (PostI D r.1 ws0 (wl_X9_roam cA b m_latest (r.2.1) (r.2.2.1) (r.2.2.2.1) m_bowls m_dogs m_gone m_sights (r.2.2.2.2.1) m_bytes m_typed (r.2.2.2.2.2.1) (r.2.2.2.2.2.2.1) m_settings m_bowl m_dog (r.2.2.2.2.2.2.2.1) (r.2.2.2.2.2.2.2.2.1) (r.2.2.2.2.2.2.2.2.2)) sz) args s 0 0 (va_A ws0 sz)) 4 0 (wl_X9_roam cA b m_latest m_cells m_wide m_houses m_bowls m_dogs m_gone m_sights m_drawn m_bytes m_typed m_cell m_house m_settings m_bowl m_dog m_path m_steps m_line) [(0, .ref (b 0)), (1, .int x1), (2, .int x2), (3, .int x3)] [] := by
  intro H locs ls hP hD hS hl
  have hx := C.1
  have hb := C.2.1
  have hown := C.2.2.2.1
  have hts := C.2.2.2.2.1
  unfold f_X9_roam at hf
  refine lv_aload_n (pc := 0) hx hb dX9_roam_0 rfl (lv_at hl 0 rfl) ?_
  obtain ⟨c1, c2, c3, c4, c5, c6, c7, c8, hq, hf⟩ := bind8_some hf
  refine fin2_v (wl_X9_roam cA b m_latest c1 c2 c3 m_bowls m_dogs m_gone m_sights m_drawn m_bytes m_typed c4 c5 m_settings m_bowl m_dog c6 c7 c8) (run_V (rest := []) (pc := 1) (As := []) C mf_X9_184 (c_X9_find l D cA b m_latest m_cells m_wide m_houses m_bowls m_dogs m_gone m_sights m_drawn m_bytes m_typed m_cell m_house m_settings m_bowl m_dog m_path m_steps m_line (c1, c2, c3, c4, c5, c6, c7, c8) hq H.size) rfl rfl ⟨(Nat.le_of_ble_eq_true rfl), (Nat.le_of_ble_eq_true rfl)⟩ (preV_of C hP hD [0, 1, 2, 3, 4, 5, 6, 7, 8, 9, 10] rfl (pl_nd pv_138) 0 rfl rfl rfl) rfl hl.1 rfl (Nat.le_of_ble_eq_true rfl) dX9_roam_1 ⟨Nat.zero_le _, Nat.zero_le _⟩) hP hD hS hA [0, 1, 2, 3, 4, 5, 6, 7, 8, 9, 10] [] rfl rfl rfl rfl pv_138 (fun H locs hP hS => ?_)
  have hD : va_D (va_A ws0 sz) (wl_X9_roam cA b m_latest c1 c2 c3 m_bowls m_dogs m_gone m_sights m_drawn m_bytes m_typed c4 c5 m_settings m_bowl m_dog c6 c7 c8) := vd_a hD rfl
  refine lv_iload_n (pc := 4) hx hb dX9_roam_4 rfl (lv_at hl 2 rfl) ?_
  refine lv_i2l (pc := 5) hx hb dX9_roam_5 rfl ?_
  refine lv_lconst (pc := 6) (v := 0) hx hb dX9_roam_6 rfl ?_
  refine lv_ldc2 (pc := 7) hx hb hown (hts _ (lg_in mw_656 rfl)) dX9_roam_7 ?_
  obtain ⟨r9, hq, hf⟩ := bind1_some hf
  refine fin2_i (wl_X9_roam cA b m_latest c1 c2 c3 m_bowls m_dogs m_gone m_sights m_drawn m_bytes m_typed c4 c5 m_settings m_bowl m_dog c6 c7 c8) (run_S (rest := []) (pc := 10) (As := [.long (x2.toInt64), .long (0 : Int64), .long (60 : Int64)]) C mf_X9_60 (c_X9_in l D cA  (x2.toInt64) (0 : Int64) (60 : Int64) r9 hq H.size) rfl rfl ⟨(Nat.le_of_ble_eq_true rfl), (Nat.le_of_ble_eq_true rfl)⟩ (preS_of C hP hD [] rfl (pl_nd pv_139)) rfl hl.1 rfl (Nat.le_of_ble_eq_true rfl) dX9_roam_10 ⟨Nat.zero_le _, Nat.zero_le _⟩) hP hD hS hA [] [0, 1, 2, 3, 4, 5, 6, 7, 8, 9, 10] rfl rfl rfl rfl pv_139 (fun H locs hP hS => ?_)
  refine lv_if_eq (pc := 13) (tgt := 33) hx hb dX9_roam_13 (by decide) (fun hc => ?_) (fun hc => ?_)
  · have hf := (if_pos hc).symm.trans hf
    refine lv_bipush (pc := 33) (v := (-2)) hx hb dX9_roam_33 bp_m2 ?_
    have hf := Option.some.inj hf
    subst hf
    exact ret_i C hr hlk hP hS dX9_roam_35
  · have hf := (if_neg hc).symm.trans hf
    refine lv_iload_n (pc := 16) hx hb dX9_roam_16 rfl (lv_at hl 3 rfl) ?_
    obtain ⟨r10, hq, hf⟩ := bind1_some hf
    refine fin2_i (wl_X9_roam cA b m_latest c1 c2 c3 m_bowls m_dogs m_gone m_sights m_drawn m_bytes m_typed c4 c5 m_settings m_bowl m_dog c6 c7 c8) (run_S (rest := []) (pc := 17) (As := [.int x3]) C mf_X9_89 (c_X9_isTwo l D cA  x3 r10 hq H.size) rfl rfl ⟨(Nat.le_of_ble_eq_true rfl), (Nat.le_of_ble_eq_true rfl)⟩ (preS_of C hP hD [] rfl (pl_nd pv_139)) rfl hl.1 rfl (Nat.le_of_ble_eq_true rfl) dX9_roam_17 ⟨Nat.zero_le _, Nat.zero_le _⟩) hP hD hS hA [] [0, 1, 2, 3, 4, 5, 6, 7, 8, 9, 10] rfl rfl rfl rfl pv_139 (fun H locs hP hS => ?_)
    refine lv_if_eq (pc := 20) (tgt := 33) hx hb dX9_roam_20 (by decide) (fun hc => ?_) (fun hc => ?_)
    · have hf := (if_pos hc).symm.trans hf
      refine lv_bipush (pc := 33) (v := (-2)) hx hb dX9_roam_33 bp_m2 ?_
      have hf := Option.some.inj hf
      subst hf
      exact ret_i C hr hlk hP hS dX9_roam_35
    · have hf := (if_neg hc).symm.trans hf
      refine lv_aload_n (pc := 23) hx hb dX9_roam_23 rfl (lv_at hl 0 rfl) ?_
      refine lv_iload_n (pc := 24) hx hb dX9_roam_24 rfl (lv_at hl 1 rfl) ?_
      refine lv_iload_n (pc := 25) hx hb dX9_roam_25 rfl (lv_at hl 2 rfl) ?_
      refine lv_iload_n (pc := 26) hx hb dX9_roam_26 rfl (lv_at hl 3 rfl) ?_
      obtain ⟨r11, c12, hq, hf⟩ := bind2_some hf
      refine fin2_i (wl_X9_roam cA b m_latest c1 c2 c3 m_bowls m_dogs m_gone m_sights c12 m_bytes m_typed c4 c5 m_settings m_bowl m_dog c6 c7 c8) (run_V (rest := []) (pc := 27) (As := [.int x1, .int x2, .int x3]) C mf_X9_272 (c_X9_roamOf l D cA b m_latest c1 c2 c3 m_bowls m_dogs m_gone m_sights m_drawn c4 m_settings x1 x2 x3 (r11, c12) hq H.size) rfl rfl ⟨(Nat.le_of_ble_eq_true rfl), (Nat.le_of_ble_eq_true rfl)⟩ (preV_of C hP hD [0, 3, 5] rfl (pl_nd pv_167) 0 rfl rfl rfl) rfl hl.1 rfl (Nat.le_of_ble_eq_true rfl) dX9_roam_27 ⟨Nat.zero_le _, Nat.zero_le _⟩) hP hD hS hA [0, 3, 5] [1, 2, 4, 6, 7, 8, 9, 10] rfl rfl rfl rfl pv_167 (fun H locs hP hS => ?_)
      have hD : va_D (va_A ws0 sz) (wl_X9_roam cA b m_latest c1 c2 c3 m_bowls m_dogs m_gone m_sights c12 m_bytes m_typed c4 c5 m_settings m_bowl m_dog c6 c7 c8) := vd_a hD rfl
      refine lv_goto (pc := 30) (tgt := 35) hx hb dX9_roam_30 (by decide) ?_
      have hf := Option.some.inj hf
      subst hf
      exact ret_i C hr hlk hP hS dX9_roam_35
set_option maxRecDepth 100000 in
theorem c_X9_roam (l : Launch) (D : va_G) (cA : Nat → ClassId) (b : Nat → Nat) (m_latest : Int32) (m_cells : Int32) (m_wide : Int32) (m_houses : Int32) (m_bowls : Int32) (m_dogs : Int32) (m_gone : Int32) (m_sights : Int32) (m_drawn : Int32) (m_bytes : Nat → Int32) (m_typed : Nat → Int32) (m_cell : Nat → Int32) (m_house : Nat → Int32) (m_settings : Nat → Int32) (m_bowl : Nat → Int32) (m_dog : Nat → Int32) (m_path : Nat → Int32) (m_steps : Nat → Int32) (m_line : Nat → Int32) (x1 : Int32) (x2 : Int32) (x3 : Int32) (r : Int32 × Int32 × Int32 × Int32 × Int32 × (Nat → Int32) × (Nat → Int32) × (Nat → Int32) × (Nat → Int32) × (Nat → Int32)) (hf : f_X9_roam m_cells m_wide m_houses m_bowls m_dogs m_gone m_drawn m_bytes m_typed m_cell m_house m_settings m_bowl m_dog m_path m_steps m_line x1 x2 x3 = some r) (sz : Nat) : Met l yX9_roam (Cond.code yX9_roam cX9_roam 4 (some .int) :: lw_good) rm_X9_roam (PreX D cA [.ref (b 0), .int x1, .int x2, .int x3] sz (wl_X9_roam cA b m_latest m_cells m_wide m_houses m_bowls m_dogs m_gone m_sights m_drawn m_bytes m_typed m_cell m_house m_settings m_bowl m_dog m_path m_steps m_line)) (PostI D r.1 (wl_X9_roam cA b m_latest m_cells m_wide m_houses m_bowls m_dogs m_gone m_sights m_drawn m_bytes m_typed m_cell m_house m_settings m_bowl m_dog m_path m_steps m_line) (wl_X9_roam cA b m_latest (r.2.1) (r.2.2.1) (r.2.2.2.1) m_bowls m_dogs m_gone m_sights (r.2.2.2.2.1) m_bytes m_typed (r.2.2.2.2.2.1) (r.2.2.2.2.2.2.1) m_settings m_bowl m_dog (r.2.2.2.2.2.2.2.1) (r.2.2.2.2.2.2.2.2.1) (r.2.2.2.2.2.2.2.2.2)) sz) 0 0 (va_A (wl_X9_roam cA b m_latest m_cells m_wide m_houses m_bowls m_dogs m_gone m_sights m_drawn m_bytes m_typed m_cell m_house m_settings m_bowl m_dog m_path m_steps m_line) sz) :=
  met_of (by decide) (Nat.le_of_ble_eq_true rfl) (fun p e s m args below meth c C hr hlk hA => k_X9_roam C hr hlk hA b m_latest m_cells m_wide m_houses m_bowls m_dogs m_gone m_sights m_drawn m_bytes m_typed m_cell m_house m_settings m_bowl m_dog m_path m_steps m_line x1 x2 x3 r hf)
end

abbrev wl_X9_write (cA : Nat → ClassId) (b : Nat → Nat) (m_latest : Int32) (m_cells : Int32) (m_wide : Int32) (m_houses : Int32) (m_bowls : Int32) (m_dogs : Int32) (m_gone : Int32) (m_sights : Int32) (m_drawn : Int32) (m_forms : Nat → Int32) (m_sizes : Nat → Int32) (m_items : Nat → Int32) (m_bytes : Nat → Int32) (m_typed : Nat → Int32) (m_cell : Nat → Int32) (m_house : Nat → Int32) (m_settings : Nat → Int32) (m_bowl : Nat → Int32) (m_dog : Nat → Int32) (m_path : Nat → Int32) (m_steps : Nat → Int32) (m_line : Nat → Int32) : va_W := [((b 0), .inr (9, [.ref (b 1), .ref (b 2), .ref (b 3), .ref (b 4), .int m_latest, .ref (b 5), .ref (b 6), .int m_cells, .int m_wide, .ref (b 7), .int m_houses, .ref (b 8), .ref (b 9), .int m_bowls, .ref (b 10), .int m_dogs, .ref (b 11), .int m_gone, .ref (b 12), .ref (b 13), .ref (b 14), .int m_sights, .ref (b 15), .ref (b 16), .int m_drawn])), ((b 1), .inl (cA 0, 4, .inl m_forms)), ((b 2), .inl (cA 0, 4, .inl m_sizes)), ((b 3), .inl (cA 0, 240, .inl m_items)), ((b 5), .inl (cA 0, 84, .inl m_bytes)), ((b 6), .inl (cA 0, 2, .inl m_typed)), ((b 7), .inl (cA 0, 36, .inl m_cell)), ((b 8), .inl (cA 0, 16, .inl m_house)), ((b 9), .inl (cA 0, 2, .inl m_settings)), ((b 10), .inl (cA 0, 20, .inl m_bowl)), ((b 11), .inl (cA 0, 16, .inl m_dog)), ((b 12), .inl (cA 0, 250, .inl m_path)), ((b 13), .inl (cA 0, 10, .inl m_steps)), ((b 14), .inl (cA 0, 60, .inl m_line))]
abbrev rm_X9_write : Room := { frames := 6, cells := 0, slots := 0, locals := 147 }
section
variable {p : Program} {l : Launch} {e : Env} {s : State} {m : MethodId} {args : Array Value} {below : List Frame} {meth : Method} {c : Code} {D : va_G} {cA : Nat → ClassId} {ws0 : va_W} {sz : Nat} {A : Nat → Prop} {Q : State → Prop}
def f_X9_write_L51 (m_forms : Nat → Int32) (m_path : Nat → Int32) (m_steps : Nat → Int32) (x1 : Int32) (x2 : Int32) (x3 : Int32) (x4 : Int32) (m_items : Nat → Int32) : Option ((Int32 × (Nat → Int32)) ⊕ ((Nat → Int32))) :=
  if x3 ≤ x4 then (some (.inr m_items)) else (gd (inb x2 4) (bind1 (f_X9_atOf m_path m_steps x1 x4) (fun r12 => bind1 (f_X9_cut (m_forms x2.toNatClampNeg) r12) (fun r13 => gd (inb (((60 : Int32) * x2) + x4) 240) (some (.inl ((x4 + 1), (upd m_items (((60 : Int32) * x2) + x4).toNatClampNeg r13))))))))
set_option maxHeartbeats 4000000 in
set_option maxRecDepth 100000 in
theorem k_X9_write_L51 (C : Cx RX9 cX9_write 5 D cA p s m args c) (hA : ∀ q, s.heap.size ≤ q → A q) (b : Nat → Nat) (m_latest : Int32) (m_cells : Int32) (m_wide : Int32) (m_houses : Int32) (m_bowls : Int32) (m_dogs : Int32) (m_gone : Int32) (m_sights : Int32) (m_drawn : Int32) (m_forms : Nat → Int32) (m_sizes : Nat → Int32) (m_bytes : Nat → Int32) (m_typed : Nat → Int32) (m_cell : Nat → Int32) (m_house : Nat → Int32) (m_settings : Nat → Int32) (m_bowl : Nat → Int32) (m_dog : Nat → Int32) (m_path : Nat → Int32) (m_steps : Nat → Int32) (m_line : Nat → Int32) (x1 : Int32) (x2 : Int32) (x3 : Int32) (x4 : Int32) (m_items : Nat → Int32) (r : (Int32 × (Nat → Int32)) ⊕ ((Nat → Int32))) (hf : f_X9_write_L51 m_forms m_path m_steps x1 x2 x3 x4 m_items = some r) (hK : Sum.elim (fun q : Int32 × (Nat → Int32) => At p l e rm_X9_write s m args below meth c D A 0 0 Q 5 51 (wl_X9_write cA b m_latest m_cells m_wide m_houses m_bowls m_dogs m_gone m_sights m_drawn m_forms m_sizes (q.2) m_bytes m_typed m_cell m_house m_settings m_bowl m_dog m_path m_steps m_line) [(0, .ref (b 0)), (1, .int x1), (2, .int x2), (3, .int x3), (4, .int (q.1))] []) (fun q : (Nat → Int32) => At p l e rm_X9_write s m args below meth c D A 0 0 Q 5 91 (wl_X9_write cA b m_latest m_cells m_wide m_houses m_bowls m_dogs m_gone m_sights m_drawn m_forms m_sizes q m_bytes m_typed m_cell m_house m_settings m_bowl m_dog m_path m_steps m_line) [(3, .int x3)] []) r) : At p l e rm_X9_write s m args below meth c D A 0 0 Q 5 51 (wl_X9_write cA b m_latest m_cells m_wide m_houses m_bowls m_dogs m_gone m_sights m_drawn m_forms m_sizes m_items m_bytes m_typed m_cell m_house m_settings m_bowl m_dog m_path m_steps m_line) [(0, .ref (b 0)), (1, .int x1), (2, .int x2), (3, .int x3), (4, .int x4)] [] := by
  intro H locs ls hP hD hS hl
  have hx := C.1
  have hb := C.2.1
  have hown := C.2.2.2.1
  have hts := C.2.2.2.2.1
  unfold f_X9_write_L51 at hf
  refine lv_iload (pc := 51) hx hb dX9_write_51 (lv_at hl 4 rfl) ?_
  refine lv_iload_n (pc := 53) hx hb dX9_write_53 rfl (lv_at hl 3 rfl) ?_
  refine lv_icmp_ge (pc := 54) (tgt := 91) hx hb dX9_write_54 (by decide) (fun hc => ?_) (fun hc => ?_)
  · have hf := (if_pos hc).symm.trans hf
    have hf := Option.some.inj hf
    subst hf
    exact hK H locs ls hP hD hS (lv_sub hl [3] rfl)
  · have hf := (if_neg hc).symm.trans hf
    refine lv_aload_n (pc := 57) hx hb dX9_write_57 rfl (lv_at hl 0 rfl) ?_
    refine g_get (pc := 58) C fg_X9_16 hP 0 rfl rfl dX9_write_58 ?_
    refine lv_bipush (pc := 61) (v := 60) hx hb dX9_write_61 bp_60 ?_
    refine lv_iload_n (pc := 63) hx hb dX9_write_63 rfl (lv_at hl 2 rfl) ?_
    refine lv_imul (pc := 64) hx hb dX9_write_64 ?_
    refine lv_iload (pc := 65) hx hb dX9_write_65 (lv_at hl 4 rfl) ?_
    refine lv_iadd (pc := 67) hx hb dX9_write_67 ?_
    refine lv_aload_n (pc := 68) hx hb dX9_write_68 rfl (lv_at hl 0 rfl) ?_
    refine g_get (pc := 69) C fg_X9_7 hP 0 rfl rfl dX9_write_69 ?_
    refine lv_iload_n (pc := 72) hx hb dX9_write_72 rfl (lv_at hl 2 rfl) ?_
    obtain ⟨hg, hf⟩ := gd_some hf
    refine g_iald (pc := 73) C hP 1 rfl hg dX9_write_73 ?_
    refine lv_aload_n (pc := 74) hx hb dX9_write_74 rfl (lv_at hl 0 rfl) ?_
    refine lv_iload_n (pc := 75) hx hb dX9_write_75 rfl (lv_at hl 1 rfl) ?_
    refine lv_iload (pc := 76) hx hb dX9_write_76 (lv_at hl 4 rfl) ?_
    obtain ⟨r12, hq, hf⟩ := bind1_some hf
    refine fin2_i (wl_X9_write cA b m_latest m_cells m_wide m_houses m_bowls m_dogs m_gone m_sights m_drawn m_forms m_sizes m_items m_bytes m_typed m_cell m_house m_settings m_bowl m_dog m_path m_steps m_line) (run_V (rest := [.int (m_forms x2.toNatClampNeg), .int (((60 : Int32) * x2) + x4), .ref (b 3)]) (pc := 78) (As := [.int x1, .int x4]) C mf_X9_189 (c_X9_atOf l D cA b m_latest m_cells m_wide m_houses m_bowls m_dogs m_gone m_sights m_drawn m_path m_steps x1 x4 r12 hq H.size) rfl rfl ⟨(Nat.le_of_ble_eq_true rfl), (Nat.le_of_ble_eq_true rfl)⟩ (preV_of C hP hD [0, 11, 12] rfl (pl_nd pv_169) 0 rfl rfl rfl) rfl hl.1 rfl (Nat.le_of_ble_eq_true rfl) dX9_write_78 ⟨Nat.zero_le _, Nat.zero_le _⟩) hP hD hS hA [0, 11, 12] [1, 2, 3, 4, 5, 6, 7, 8, 9, 10, 13] rfl rfl rfl rfl pv_169 (fun H locs hP hS => ?_)
    obtain ⟨r13, hq, hf⟩ := bind1_some hf
    refine fin2_i (wl_X9_write cA b m_latest m_cells m_wide m_houses m_bowls m_dogs m_gone m_sights m_drawn m_forms m_sizes m_items m_bytes m_typed m_cell m_house m_settings m_bowl m_dog m_path m_steps m_line) (run_S (rest := [.int (((60 : Int32) * x2) + x4), .ref (b 3)]) (pc := 81) (As := [.int (m_forms x2.toNatClampNeg), .int r12]) C mf_X9_84 (c_X9_cut l D cA  (m_forms x2.toNatClampNeg) r12 r13 hq H.size) rfl rfl ⟨(Nat.le_of_ble_eq_true rfl), (Nat.le_of_ble_eq_true rfl)⟩ (preS_of C hP hD [] rfl (pl_nd pv_29)) rfl hl.1 rfl (Nat.le_of_ble_eq_true rfl) dX9_write_81 ⟨Nat.zero_le _, Nat.zero_le _⟩) hP hD hS hA [] [0, 1, 2, 3, 4, 5, 6, 7, 8, 9, 10, 11, 12, 13] rfl rfl rfl rfl pv_29 (fun H locs hP hS => ?_)
    obtain ⟨hg, hf⟩ := gd_some hf
    refine g_iast (pc := 84) C hP hD hS 3 rfl hg dX9_write_84 (fun H locs hP hD hS => ?_)
    have hP : va_P D classes (wl_X9_write cA b m_latest m_cells m_wide m_houses m_bowls m_dogs m_gone m_sights m_drawn m_forms m_sizes (upd m_items (((60 : Int32) * x2) + x4).toNatClampNeg r13) m_bytes m_typed m_cell m_house m_settings m_bowl m_dog m_path m_steps m_line) H := hP
    have hD : va_D A (wl_X9_write cA b m_latest m_cells m_wide m_houses m_bowls m_dogs m_gone m_sights m_drawn m_forms m_sizes (upd m_items (((60 : Int32) * x2) + x4).toNatClampNeg r13) m_bytes m_typed m_cell m_house m_settings m_bowl m_dog m_path m_steps m_line) := hD
    refine lv_iinc (pc := 85) (v := (x4 + 1)) (lv' := [(4, .int (x4 + 1)), (0, .ref (b 0)), (1, .int x1), (2, .int x2), (3, .int x3)]) hx hb dX9_write_85 hl (k := 4) rfl rfl (Nat.le_of_ble_eq_true rfl) rfl (fun ls hl => ?_)
    refine lv_goto (pc := 88) (tgt := 51) hx hb dX9_write_88 (by decide) ?_
    have hf := Option.some.inj hf
    subst hf
    exact hK H locs ls hP hD hS (lv_sub hl [1, 2, 3, 4, 0] rfl)
theorem kl_X9_write_L51 (C : Cx RX9 cX9_write 5 D cA p s m args c) (hA : ∀ q, s.heap.size ≤ q → A q) (b : Nat → Nat) (m_latest : Int32) (m_cells : Int32) (m_wide : Int32) (m_houses : Int32) (m_bowls : Int32) (m_dogs : Int32) (m_gone : Int32) (m_sights : Int32) (m_drawn : Int32) (m_forms : Nat → Int32) (m_sizes : Nat → Int32) (m_bytes : Nat → Int32) (m_typed : Nat → Int32) (m_cell : Nat → Int32) (m_house : Nat → Int32) (m_settings : Nat → Int32) (m_bowl : Nat → Int32) (m_dog : Nat → Int32) (m_path : Nat → Int32) (m_steps : Nat → Int32) (m_line : Nat → Int32) (x1 : Int32) (x2 : Int32) (x3 : Int32) : ∀ (n : Nat) (q : Int32 × (Nat → Int32)) (z : ((Nat → Int32))), loopF (fun q : Int32 × (Nat → Int32) => f_X9_write_L51 m_forms m_path m_steps x1 x2 x3 q.1 q.2) n q = some z → (fun q : (Nat → Int32) => At p l e rm_X9_write s m args below meth c D A 0 0 Q 5 91 (wl_X9_write cA b m_latest m_cells m_wide m_houses m_bowls m_dogs m_gone m_sights m_drawn m_forms m_sizes q m_bytes m_typed m_cell m_house m_settings m_bowl m_dog m_path m_steps m_line) [(3, .int x3)] []) z → At p l e rm_X9_write s m args below meth c D A 0 0 Q 5 51 (wl_X9_write cA b m_latest m_cells m_wide m_houses m_bowls m_dogs m_gone m_sights m_drawn m_forms m_sizes (q.2) m_bytes m_typed m_cell m_house m_settings m_bowl m_dog m_path m_steps m_line) [(0, .ref (b 0)), (1, .int x1), (2, .int x2), (3, .int x3), (4, .int (q.1))] [] :=
  loop_lem (WP := fun q : Int32 × (Nat → Int32) => At p l e rm_X9_write s m args below meth c D A 0 0 Q 5 51 (wl_X9_write cA b m_latest m_cells m_wide m_houses m_bowls m_dogs m_gone m_sights m_drawn m_forms m_sizes (q.2) m_bytes m_typed m_cell m_house m_settings m_bowl m_dog m_path m_steps m_line) [(0, .ref (b 0)), (1, .int x1), (2, .int x2), (3, .int x3), (4, .int (q.1))] []) (WE := (fun q : (Nat → Int32) => At p l e rm_X9_write s m args below meth c D A 0 0 Q 5 91 (wl_X9_write cA b m_latest m_cells m_wide m_houses m_bowls m_dogs m_gone m_sights m_drawn m_forms m_sizes q m_bytes m_typed m_cell m_house m_settings m_bowl m_dog m_path m_steps m_line) [(3, .int x3)] [])) (fun q r hf hK => k_X9_write_L51 C hA b m_latest m_cells m_wide m_houses m_bowls m_dogs m_gone m_sights m_drawn m_forms m_sizes m_bytes m_typed m_cell m_house m_settings m_bowl m_dog m_path m_steps m_line x1 x2 x3 q.1 q.2 r hf hK)
def f_X9_write (m_latest : Int32) (m_cells : Int32) (m_wide : Int32) (m_houses : Int32) (m_bowls : Int32) (m_dogs : Int32) (m_gone : Int32) (m_forms : Nat → Int32) (m_sizes : Nat → Int32) (m_items : Nat → Int32) (m_bytes : Nat → Int32) (m_typed : Nat → Int32) (m_cell : Nat → Int32) (m_house : Nat → Int32) (m_settings : Nat → Int32) (m_bowl : Nat → Int32) (m_dog : Nat → Int32) (m_path : Nat → Int32) (m_steps : Nat → Int32) (m_line : Nat → Int32) (x1 : Int32) (x2 : Int32) : Option (Int32 × Int32 × Int32 × Int32 × Int32 × (Nat → Int32) × (Nat → Int32) × (Nat → Int32) × (Nat → Int32) × (Nat → Int32) × (Nat → Int32)) :=
  bind1 (f_X9_isNight x1) (fun r1 => if r1 = 0 then (some ((-2 : Int32), m_latest, m_cells, m_wide, m_houses, m_items, m_cell, m_house, m_path, m_steps, m_line)) else (bind1 (f_X9_isSheet x2) (fun r2 => if r2 = 0 then (some ((-2 : Int32), m_latest, m_cells, m_wide, m_houses, m_items, m_cell, m_house, m_path, m_steps, m_line)) else (gd (inb x2 4) (if 0 ≤ (m_forms x2.toNatClampNeg) then (bind8 (f_X9_find m_cells m_wide m_houses m_bowls m_dogs m_gone m_bytes m_typed m_cell m_house m_settings m_bowl m_dog m_path m_steps m_line) (fun c3 c4 c5 c6 c7 c8 c9 c10 => gd (inb x2 4) (bind1 (f_X9_lesser (m_sizes x2.toNatClampNeg) (25 : Int32)) (fun r11 => bind1 (loopF (fun q : Int32 × (Nat → Int32) => f_X9_write_L51 m_forms c8 c9 x1 x2 r11 q.1 q.2) FU ((0 : Int32), m_items)) (fun u14 => some (r11, m_latest, c3, c4, c5, u14, c6, c7, c8, c9, c10)))))) else (bind2 (f_X9_finds m_latest (1 : Int32)) (fun r15 c16 => some (r15, c16, m_cells, m_wide, m_houses, m_items, m_cell, m_house, m_path, m_steps, m_line))))))))
set_option maxHeartbeats 4000000 in
set_option maxRecDepth 100000 in
theorem k_X9_write (C : Cx RX9 cX9_write 5 D cA p s m args c) (hr : meth.sig.returnType = (some .int)) (hlk : meth.locks = false) (hA : ∀ q, s.heap.size ≤ q → va_A ws0 sz q) (b : Nat → Nat) (m_latest : Int32) (m_cells : Int32) (m_wide : Int32) (m_houses : Int32) (m_bowls : Int32) (m_dogs : Int32) (m_gone : Int32) (m_sights : Int32) (m_drawn : Int32) (m_forms : Nat → Int32) (m_sizes : Nat → Int32) (m_items : Nat → Int32) (m_bytes : Nat → Int32) (m_typed : Nat → Int32) (m_cell : Nat → Int32) (m_house : Nat → Int32) (m_settings : Nat → Int32) (m_bowl : Nat → Int32) (m_dog : Nat → Int32) (m_path : Nat → Int32) (m_steps : Nat → Int32) (m_line : Nat → Int32) (x1 : Int32) (x2 : Int32) (r : Int32 × Int32 × Int32 × Int32 × Int32 × (Nat → Int32) × (Nat → Int32) × (Nat → Int32) × (Nat → Int32) × (Nat → Int32) × (Nat → Int32)) (hf : f_X9_write m_latest m_cells m_wide m_houses m_bowls m_dogs m_gone m_forms m_sizes m_items m_bytes m_typed m_cell m_house m_settings m_bowl m_dog m_path m_steps m_line x1 x2 = some r) : At p l e rm_X9_write s m args below meth c D (va_A ws0 sz) 0 0 (MQ below (PostI D r.1 ws0 (wl_X9_write cA b (r.2.1) (r.2.2.1) (r.2.2.2.1) (r.2.2.2.2.1) m_bowls m_dogs m_gone m_sights m_drawn m_forms m_sizes (r.2.2.2.2.2.1) m_bytes m_typed (r.2.2.2.2.2.2.1) (r.2.2.2.2.2.2.2.1) m_settings m_bowl m_dog (r.2.2.2.2.2.2.2.2.1) (r.2.2.2.2.2.2.2.2.2.1) (r.2.2.2.2.2.2.2.2.2.2)) sz) args s 0 0 (va_A ws0 sz)) 5 0 (wl_X9_write cA b m_latest m_cells m_wide m_houses m_bowls m_dogs m_gone m_sights m_drawn m_forms m_sizes m_items m_bytes m_typed m_cell m_house m_settings m_bowl m_dog m_path m_steps m_line) [(0, .ref (b 0)), (1, .int x1), (2, .int x2)] [] := by
  intro H locs ls hP hD hS hl
  have hx := C.1
  have hb := C.2.1
  have hown := C.2.2.2.1
  have hts := C.2.2.2.2.1
  unfold f_X9_write at hf
  refine lv_iload_n (pc := 0) hx hb dX9_write_0 rfl (lv_at hl 1 rfl) ?_
  obtain ⟨r1, hq, hf⟩ := bind1_some hf
  refine fin2_i (wl_X9_write cA b m_latest m_cells m_wide m_houses m_bowls m_dogs m_gone m_sights m_drawn m_forms m_sizes m_items m_bytes m_typed m_cell m_house m_settings m_bowl m_dog m_path m_steps m_line) (run_S (rest := []) (pc := 1) (As := [.int x1]) C mf_X9_136 (c_X9_isNight l D cA  x1 r1 hq H.size) rfl rfl ⟨(Nat.le_of_ble_eq_true rfl), (Nat.le_of_ble_eq_true rfl)⟩ (preS_of C hP hD [] rfl (pl_nd pv_29)) rfl hl.1 rfl (Nat.le_of_ble_eq_true rfl) dX9_write_1 ⟨Nat.zero_le _, Nat.zero_le _⟩) hP hD hS hA [] [0, 1, 2, 3, 4, 5, 6, 7, 8, 9, 10, 11, 12, 13] rfl rfl rfl rfl pv_29 (fun H locs hP hS => ?_)
  refine lv_if_eq (pc := 4) (tgt := 14) hx hb dX9_write_4 (by decide) (fun hc => ?_) (fun hc => ?_)
  · have hf := (if_pos hc).symm.trans hf
    refine lv_bipush (pc := 14) (v := (-2)) hx hb dX9_write_14 bp_m2 ?_
    have hf := Option.some.inj hf
    subst hf
    exact ret_i C hr hlk hP hS dX9_write_16
  · have hf := (if_neg hc).symm.trans hf
    refine lv_iload_n (pc := 7) hx hb dX9_write_7 rfl (lv_at hl 2 rfl) ?_
    obtain ⟨r2, hq, hf⟩ := bind1_some hf
    refine fin2_i (wl_X9_write cA b m_latest m_cells m_wide m_houses m_bowls m_dogs m_gone m_sights m_drawn m_forms m_sizes m_items m_bytes m_typed m_cell m_house m_settings m_bowl m_dog m_path m_steps m_line) (run_S (rest := []) (pc := 8) (As := [.int x2]) C mf_X9_70 (c_X9_isSheet l D cA  x2 r2 hq H.size) rfl rfl ⟨(Nat.le_of_ble_eq_true rfl), (Nat.le_of_ble_eq_true rfl)⟩ (preS_of C hP hD [] rfl (pl_nd pv_29)) rfl hl.1 rfl (Nat.le_of_ble_eq_true rfl) dX9_write_8 ⟨Nat.zero_le _, Nat.zero_le _⟩) hP hD hS hA [] [0, 1, 2, 3, 4, 5, 6, 7, 8, 9, 10, 11, 12, 13] rfl rfl rfl rfl pv_29 (fun H locs hP hS => ?_)
    refine lv_if_ne (pc := 11) (tgt := 17) hx hb dX9_write_11 (by decide) (fun hc => ?_) (fun hc => ?_)
    · have hf := (if_neg hc).symm.trans hf
      refine lv_aload_n (pc := 17) hx hb dX9_write_17 rfl (lv_at hl 0 rfl) ?_
      refine g_get (pc := 18) C fg_X9_7 hP 0 rfl rfl dX9_write_18 ?_
      refine lv_iload_n (pc := 21) hx hb dX9_write_21 rfl (lv_at hl 2 rfl) ?_
      obtain ⟨hg, hf⟩ := gd_some hf
      refine g_iald (pc := 22) C hP 1 rfl hg dX9_write_22 ?_
      refine lv_if_ge (pc := 23) (tgt := 32) hx hb dX9_write_23 (by decide) (fun hc => ?_) (fun hc => ?_)
      · have hf := (if_pos hc).symm.trans hf
        refine lv_aload_n (pc := 32) hx hb dX9_write_32 rfl (lv_at hl 0 rfl) ?_
        obtain ⟨c3, c4, c5, c6, c7, c8, c9, c10, hq, hf⟩ := bind8_some hf
        refine fin2_v (wl_X9_write cA b m_latest c3 c4 c5 m_bowls m_dogs m_gone m_sights m_drawn m_forms m_sizes m_items m_bytes m_typed c6 c7 m_settings m_bowl m_dog c8 c9 c10) (run_V (rest := []) (pc := 33) (As := []) C mf_X9_184 (c_X9_find l D cA b m_latest m_cells m_wide m_houses m_bowls m_dogs m_gone m_sights m_drawn m_bytes m_typed m_cell m_house m_settings m_bowl m_dog m_path m_steps m_line (c3, c4, c5, c6, c7, c8, c9, c10) hq H.size) rfl rfl ⟨(Nat.le_of_ble_eq_true rfl), (Nat.le_of_ble_eq_true rfl)⟩ (preV_of C hP hD [0, 4, 5, 6, 7, 8, 9, 10, 11, 12, 13] rfl (pl_nd pv_168) 0 rfl rfl rfl) rfl hl.1 rfl (Nat.le_of_ble_eq_true rfl) dX9_write_33 ⟨Nat.zero_le _, Nat.zero_le _⟩) hP hD hS hA [0, 4, 5, 6, 7, 8, 9, 10, 11, 12, 13] [1, 2, 3] rfl rfl rfl rfl pv_168 (fun H locs hP hS => ?_)
        have hD : va_D (va_A ws0 sz) (wl_X9_write cA b m_latest c3 c4 c5 m_bowls m_dogs m_gone m_sights m_drawn m_forms m_sizes m_items m_bytes m_typed c6 c7 m_settings m_bowl m_dog c8 c9 c10) := vd_a hD rfl
        refine lv_aload_n (pc := 36) hx hb dX9_write_36 rfl (lv_at hl 0 rfl) ?_
        refine g_get (pc := 37) C fg_X9_13 hP 0 rfl rfl dX9_write_37 ?_
        refine lv_iload_n (pc := 40) hx hb dX9_write_40 rfl (lv_at hl 2 rfl) ?_
        obtain ⟨hg, hf⟩ := gd_some hf
        refine g_iald (pc := 41) C hP 2 rfl hg dX9_write_41 ?_
        refine lv_bipush (pc := 42) (v := 25) hx hb dX9_write_42 bp_25 ?_
        obtain ⟨r11, hq, hf⟩ := bind1_some hf
        refine fin2_i (wl_X9_write cA b m_latest c3 c4 c5 m_bowls m_dogs m_gone m_sights m_drawn m_forms m_sizes m_items m_bytes m_typed c6 c7 m_settings m_bowl m_dog c8 c9 c10) (run_S (rest := []) (pc := 44) (As := [.int (m_sizes x2.toNatClampNeg), .int (25 : Int32)]) C mf_X9_181 (c_X9_lesser l D cA  (m_sizes x2.toNatClampNeg) (25 : Int32) r11 hq H.size) rfl rfl ⟨(Nat.le_of_ble_eq_true rfl), (Nat.le_of_ble_eq_true rfl)⟩ (preS_of C hP hD [] rfl (pl_nd pv_29)) rfl hl.1 rfl (Nat.le_of_ble_eq_true rfl) dX9_write_44 ⟨Nat.zero_le _, Nat.zero_le _⟩) hP hD hS hA [] [0, 1, 2, 3, 4, 5, 6, 7, 8, 9, 10, 11, 12, 13] rfl rfl rfl rfl pv_29 (fun H locs hP hS => ?_)
        refine lv_istore_n (pc := 47) (lv' := [(3, .int r11), (0, .ref (b 0)), (1, .int x1), (2, .int x2)]) hx hb dX9_write_47 rfl hl (Nat.le_of_ble_eq_true rfl) rfl (fun ls hl => ?_)
        refine lv_iconst (pc := 48) (v := 0) hx hb dX9_write_48 ic_0 ?_
        refine lv_istore (pc := 49) (lv' := [(4, .int (0 : Int32)), (3, .int r11), (0, .ref (b 0)), (1, .int x1), (2, .int x2)]) hx hb dX9_write_49 hl (Nat.le_of_ble_eq_true rfl) rfl (fun ls hl => ?_)
        obtain ⟨u14, hq, hf⟩ := bind1_some hf
        refine kl_X9_write_L51 C hA b m_latest c3 c4 c5 m_bowls m_dogs m_gone m_sights m_drawn m_forms m_sizes m_bytes m_typed c6 c7 m_settings m_bowl m_dog c8 c9 c10 x1 x2 r11 FU ((0 : Int32), m_items) _ hq ?_ H locs ls hP hD hS (lv_sub hl [2, 3, 4, 1, 0] rfl)
        intro H locs ls hP hD hS hl
        have hP : va_P D classes (wl_X9_write cA b m_latest c3 c4 c5 m_bowls m_dogs m_gone m_sights m_drawn m_forms m_sizes u14 m_bytes m_typed c6 c7 m_settings m_bowl m_dog c8 c9 c10) H := hP
        have hD : va_D (va_A ws0 sz) (wl_X9_write cA b m_latest c3 c4 c5 m_bowls m_dogs m_gone m_sights m_drawn m_forms m_sizes u14 m_bytes m_typed c6 c7 m_settings m_bowl m_dog c8 c9 c10) := hD
        have hl : lv_has ls 5 [(3, .int r11)] := hl
        refine lv_iload_n (pc := 91) hx hb dX9_write_91 rfl (lv_at hl 0 rfl) ?_
        have hf := Option.some.inj hf
        subst hf
        exact ret_i C hr hlk hP hS dX9_write_92
      · have hf := (if_neg hc).symm.trans hf
        refine lv_aload_n (pc := 26) hx hb dX9_write_26 rfl (lv_at hl 0 rfl) ?_
        refine lv_iconst (pc := 27) (v := 1) hx hb dX9_write_27 ic_1 ?_
        obtain ⟨r15, c16, hq, hf⟩ := bind2_some hf
        refine fin2_i (wl_X9_write cA b c16 m_cells m_wide m_houses m_bowls m_dogs m_gone m_sights m_drawn m_forms m_sizes m_items m_bytes m_typed m_cell m_house m_settings m_bowl m_dog m_path m_steps m_line) (run_V (rest := []) (pc := 28) (As := [.int (1 : Int32)]) C mf_X9_76 (c_X9_finds l D cA b m_latest m_cells m_wide m_houses m_bowls m_dogs m_gone m_sights m_drawn (1 : Int32) (r15, c16) hq H.size) rfl rfl ⟨(Nat.le_of_ble_eq_true rfl), (Nat.le_of_ble_eq_true rfl)⟩ (preV_of C hP hD [0] rfl (pl_nd pv_31) 0 rfl rfl rfl) rfl hl.1 rfl (Nat.le_of_ble_eq_true rfl) dX9_write_28 ⟨Nat.zero_le _, Nat.zero_le _⟩) hP hD hS hA [0] [1, 2, 3, 4, 5, 6, 7, 8, 9, 10, 11, 12, 13] rfl rfl rfl rfl pv_31 (fun H locs hP hS => ?_)
        have hD : va_D (va_A ws0 sz) (wl_X9_write cA b c16 m_cells m_wide m_houses m_bowls m_dogs m_gone m_sights m_drawn m_forms m_sizes m_items m_bytes m_typed m_cell m_house m_settings m_bowl m_dog m_path m_steps m_line) := vd_a hD rfl
        have hf := Option.some.inj hf
        subst hf
        exact ret_i C hr hlk hP hS dX9_write_31
    · have hf := (if_pos hc).symm.trans hf
      refine lv_bipush (pc := 14) (v := (-2)) hx hb dX9_write_14 bp_m2 ?_
      have hf := Option.some.inj hf
      subst hf
      exact ret_i C hr hlk hP hS dX9_write_16
set_option maxRecDepth 100000 in
theorem c_X9_write (l : Launch) (D : va_G) (cA : Nat → ClassId) (b : Nat → Nat) (m_latest : Int32) (m_cells : Int32) (m_wide : Int32) (m_houses : Int32) (m_bowls : Int32) (m_dogs : Int32) (m_gone : Int32) (m_sights : Int32) (m_drawn : Int32) (m_forms : Nat → Int32) (m_sizes : Nat → Int32) (m_items : Nat → Int32) (m_bytes : Nat → Int32) (m_typed : Nat → Int32) (m_cell : Nat → Int32) (m_house : Nat → Int32) (m_settings : Nat → Int32) (m_bowl : Nat → Int32) (m_dog : Nat → Int32) (m_path : Nat → Int32) (m_steps : Nat → Int32) (m_line : Nat → Int32) (x1 : Int32) (x2 : Int32) (r : Int32 × Int32 × Int32 × Int32 × Int32 × (Nat → Int32) × (Nat → Int32) × (Nat → Int32) × (Nat → Int32) × (Nat → Int32) × (Nat → Int32)) (hf : f_X9_write m_latest m_cells m_wide m_houses m_bowls m_dogs m_gone m_forms m_sizes m_items m_bytes m_typed m_cell m_house m_settings m_bowl m_dog m_path m_steps m_line x1 x2 = some r) (sz : Nat) : Met l yX9_write (Cond.code yX9_write cX9_write 5 (some .int) :: lw_good) rm_X9_write (PreX D cA [.ref (b 0), .int x1, .int x2] sz (wl_X9_write cA b m_latest m_cells m_wide m_houses m_bowls m_dogs m_gone m_sights m_drawn m_forms m_sizes m_items m_bytes m_typed m_cell m_house m_settings m_bowl m_dog m_path m_steps m_line)) (PostI D r.1 (wl_X9_write cA b m_latest m_cells m_wide m_houses m_bowls m_dogs m_gone m_sights m_drawn m_forms m_sizes m_items m_bytes m_typed m_cell m_house m_settings m_bowl m_dog m_path m_steps m_line) (wl_X9_write cA b (r.2.1) (r.2.2.1) (r.2.2.2.1) (r.2.2.2.2.1) m_bowls m_dogs m_gone m_sights m_drawn m_forms m_sizes (r.2.2.2.2.2.1) m_bytes m_typed (r.2.2.2.2.2.2.1) (r.2.2.2.2.2.2.2.1) m_settings m_bowl m_dog (r.2.2.2.2.2.2.2.2.1) (r.2.2.2.2.2.2.2.2.2.1) (r.2.2.2.2.2.2.2.2.2.2)) sz) 0 0 (va_A (wl_X9_write cA b m_latest m_cells m_wide m_houses m_bowls m_dogs m_gone m_sights m_drawn m_forms m_sizes m_items m_bytes m_typed m_cell m_house m_settings m_bowl m_dog m_path m_steps m_line) sz) :=
  met_of (by decide) (Nat.le_of_ble_eq_true rfl) (fun p e s m args below meth c C hr hlk hA => k_X9_write C hr hlk hA b m_latest m_cells m_wide m_houses m_bowls m_dogs m_gone m_sights m_drawn m_forms m_sizes m_items m_bytes m_typed m_cell m_house m_settings m_bowl m_dog m_path m_steps m_line x1 x2 r hf)
end

abbrev wl_X9_count (cA : Nat → ClassId) (b : Nat → Nat) (m_latest : Int32) (m_cells : Int32) (m_wide : Int32) (m_houses : Int32) (m_bowls : Int32) (m_dogs : Int32) (m_gone : Int32) (m_sights : Int32) (m_drawn : Int32) (m_bytes : Nat → Int32) (m_typed : Nat → Int32) (m_cell : Nat → Int32) (m_house : Nat → Int32) (m_settings : Nat → Int32) (m_bowl : Nat → Int32) (m_dog : Nat → Int32) (m_path : Nat → Int32) (m_steps : Nat → Int32) (m_line : Nat → Int32) : va_W := [((b 0), .inr (9, [.ref (b 1), .ref (b 2), .ref (b 3), .ref (b 4), .int m_latest, .ref (b 5), .ref (b 6), .int m_cells, .int m_wide, .ref (b 7), .int m_houses, .ref (b 8), .ref (b 9), .int m_bowls, .ref (b 10), .int m_dogs, .ref (b 11), .int m_gone, .ref (b 12), .ref (b 13), .ref (b 14), .int m_sights, .ref (b 15), .ref (b 16), .int m_drawn])), ((b 5), .inl (cA 0, 84, .inl m_bytes)), ((b 6), .inl (cA 0, 2, .inl m_typed)), ((b 7), .inl (cA 0, 36, .inl m_cell)), ((b 8), .inl (cA 0, 16, .inl m_house)), ((b 9), .inl (cA 0, 2, .inl m_settings)), ((b 10), .inl (cA 0, 20, .inl m_bowl)), ((b 11), .inl (cA 0, 16, .inl m_dog)), ((b 12), .inl (cA 0, 250, .inl m_path)), ((b 13), .inl (cA 0, 10, .inl m_steps)), ((b 14), .inl (cA 0, 60, .inl m_line))]
abbrev rm_X9_count : Room := { frames := 6, cells := 0, slots := 0, locals := 147 }
section
variable {p : Program} {l : Launch} {e : Env} {s : State} {m : MethodId} {args : Array Value} {below : List Frame} {meth : Method} {c : Code} {D : va_G} {cA : Nat → ClassId} {ws0 : va_W} {sz : Nat} {A : Nat → Prop} {Q : State → Prop}
def f_X9_count_b66 (m_latest : Int32) (m_cells : Int32) (m_wide : Int32) (m_houses : Int32) (m_bowls : Int32) (m_dogs : Int32) (m_gone : Int32) (m_sights : Int32) (m_bytes : Nat → Int32) (m_typed : Nat → Int32) (m_cell : Nat → Int32) (m_house : Nat → Int32) (m_settings : Nat → Int32) (m_bowl : Nat → Int32) (m_dog : Nat → Int32) (m_path : Nat → Int32) (m_steps : Nat → Int32) (m_line : Nat → Int32) (x1 : Int32) : Option (Int32 × Int32 × Int32 × Int32 × (Nat → Int32) × (Nat → Int32) × (Nat → Int32) × (Nat → Int32) × (Nat → Int32)) :=
  gd (inb (x1 - (2 : Int32)) 2) (some ((m_typed (x1 - (2 : Int32)).toNatClampNeg), m_cells, m_wide, m_houses, m_cell, m_house, m_path, m_steps, m_line))
set_option maxHeartbeats 4000000 in
set_option maxRecDepth 100000 in
theorem k_X9_count_b66 (C : Cx RX9 cX9_count 2 D cA p s m args c) (hr : meth.sig.returnType = (some .int)) (hlk : meth.locks = false) (hA : ∀ q, s.heap.size ≤ q → va_A ws0 sz q) (b : Nat → Nat) (m_latest : Int32) (m_cells : Int32) (m_wide : Int32) (m_houses : Int32) (m_bowls : Int32) (m_dogs : Int32) (m_gone : Int32) (m_sights : Int32) (m_drawn : Int32) (m_bytes : Nat → Int32) (m_typed : Nat → Int32) (m_cell : Nat → Int32) (m_house : Nat → Int32) (m_settings : Nat → Int32) (m_bowl : Nat → Int32) (m_dog : Nat → Int32) (m_path : Nat → Int32) (m_steps : Nat → Int32) (m_line : Nat → Int32) (x1 : Int32) (r : Int32 × Int32 × Int32 × Int32 × (Nat → Int32) × (Nat → Int32) × (Nat → Int32) × (Nat → Int32) × (Nat → Int32)) (hf : f_X9_count_b66 m_latest m_cells m_wide m_houses m_bowls m_dogs m_gone m_sights m_bytes m_typed m_cell m_house m_settings m_bowl m_dog m_path m_steps m_line x1 = some r) : At p l e rm_X9_count s m args below meth c D (va_A ws0 sz) 0 0 (MQ below (PostI D r.1 ws0 (wl_X9_count cA b m_latest (r.2.1) (r.2.2.1) (r.2.2.2.1) m_bowls m_dogs m_gone m_sights m_drawn m_bytes m_typed (r.2.2.2.2.1) (r.2.2.2.2.2.1) m_settings m_bowl m_dog (r.2.2.2.2.2.2.1) (r.2.2.2.2.2.2.2.1) (r.2.2.2.2.2.2.2.2)) sz) args s 0 0 (va_A ws0 sz)) 2 66 (wl_X9_count cA b m_latest m_cells m_wide m_houses m_bowls m_dogs m_gone m_sights m_drawn m_bytes m_typed m_cell m_house m_settings m_bowl m_dog m_path m_steps m_line) [(0, .ref (b 0)), (1, .int x1)] [] := by
  intro H locs ls hP hD hS hl
  have hx := C.1
  have hb := C.2.1
  have hown := C.2.2.2.1
  have hts := C.2.2.2.2.1
  unfold f_X9_count_b66 at hf
  refine lv_aload_n (pc := 66) hx hb dX9_count_66 rfl (lv_at hl 0 rfl) ?_
  refine g_get (pc := 67) C fg_X9_25 hP 0 rfl rfl dX9_count_67 ?_
  refine lv_iload_n (pc := 70) hx hb dX9_count_70 rfl (lv_at hl 1 rfl) ?_
  refine lv_iconst (pc := 71) (v := 2) hx hb dX9_count_71 ic_2 ?_
  refine lv_isub (pc := 72) hx hb dX9_count_72 ?_
  obtain ⟨hg, hf⟩ := gd_some hf
  refine g_iald (pc := 73) C hP 2 rfl hg dX9_count_73 ?_
  have hf := Option.some.inj hf
  subst hf
  exact ret_i C hr hlk hP hS dX9_count_74
def f_X9_count (m_latest : Int32) (m_cells : Int32) (m_wide : Int32) (m_houses : Int32) (m_bowls : Int32) (m_dogs : Int32) (m_gone : Int32) (m_sights : Int32) (m_bytes : Nat → Int32) (m_typed : Nat → Int32) (m_cell : Nat → Int32) (m_house : Nat → Int32) (m_settings : Nat → Int32) (m_bowl : Nat → Int32) (m_dog : Nat → Int32) (m_path : Nat → Int32) (m_steps : Nat → Int32) (m_line : Nat → Int32) (x1 : Int32) : Option (Int32 × Int32 × Int32 × Int32 × (Nat → Int32) × (Nat → Int32) × (Nat → Int32) × (Nat → Int32) × (Nat → Int32)) :=
  bind8 (f_X9_find m_cells m_wide m_houses m_bowls m_dogs m_gone m_bytes m_typed m_cell m_house m_settings m_bowl m_dog m_path m_steps m_line) (fun c1 c2 c3 c4 c5 c6 c7 c8 => if x1 = (0 : Int32) then (some (c1, c1, c2, c3, c4, c5, c6, c7, c8)) else (if x1 = (1 : Int32) then (some (c3, c1, c2, c3, c4, c5, c6, c7, c8)) else (if x1 = (2 : Int32) then (f_X9_count_b66 m_latest c1 c2 c3 m_bowls m_dogs m_gone m_sights m_bytes m_typed c4 c5 m_settings m_bowl m_dog c6 c7 c8 x1) else (if x1 = (3 : Int32) then (f_X9_count_b66 m_latest c1 c2 c3 m_bowls m_dogs m_gone m_sights m_bytes m_typed c4 c5 m_settings m_bowl m_dog c6 c7 c8 x1) else (if x1 = (4 : Int32) then (some (m_bowls, c1, c2, c3, c4, c5, c6, c7, c8)) else (if x1 = (5 : Int32) then (some (m_dogs, c1, c2, c3, c4, c5, c6, c7, c8)) else (if x1 = (6 : Int32) then (some (c2, c1, c2, c3, c4, c5, c6, c7, c8)) else (if x1 = (7 : Int32) then (some (m_sights, c1, c2, c3, c4, c5, c6, c7, c8)) else (if x1 = (8 : Int32) then (some (m_latest, c1, c2, c3, c4, c5, c6, c7, c8)) else (some ((-2 : Int32), c1, c2, c3, c4, c5, c6, c7, c8)))))))))))
set_option maxHeartbeats 4000000 in
set_option maxRecDepth 100000 in
theorem k_X9_count (C : Cx RX9 cX9_count 2 D cA p s m args c) (hr : meth.sig.returnType = (some .int)) (hlk : meth.locks = false) (hA : ∀ q, s.heap.size ≤ q → va_A ws0 sz q) (b : Nat → Nat) (m_latest : Int32) (m_cells : Int32) (m_wide : Int32) (m_houses : Int32) (m_bowls : Int32) (m_dogs : Int32) (m_gone : Int32) (m_sights : Int32) (m_drawn : Int32) (m_bytes : Nat → Int32) (m_typed : Nat → Int32) (m_cell : Nat → Int32) (m_house : Nat → Int32) (m_settings : Nat → Int32) (m_bowl : Nat → Int32) (m_dog : Nat → Int32) (m_path : Nat → Int32) (m_steps : Nat → Int32) (m_line : Nat → Int32) (x1 : Int32) (r : Int32 × Int32 × Int32 × Int32 × (Nat → Int32) × (Nat → Int32) × (Nat → Int32) × (Nat → Int32) × (Nat → Int32)) (hf : f_X9_count m_latest m_cells m_wide m_houses m_bowls m_dogs m_gone m_sights m_bytes m_typed m_cell m_house m_settings m_bowl m_dog m_path m_steps m_line x1 = some r) : At p l e rm_X9_count s m args below meth c D (va_A ws0 sz) 0 0 (MQ below (PostI D r.1 ws0 (wl_X9_count cA b m_latest (r.2.1) (r.2.2.1) (r.2.2.2.1) m_bowls m_dogs m_gone m_sights m_drawn m_bytes m_typed (r.2.2.2.2.1) (r.2.2.2.2.2.1) m_settings m_bowl m_dog (r.2.2.2.2.2.2.1) (r.2.2.2.2.2.2.2.1) (r.2.2.2.2.2.2.2.2)) sz) args s 0 0 (va_A ws0 sz)) 2 0 (wl_X9_count cA b m_latest m_cells m_wide m_houses m_bowls m_dogs m_gone m_sights m_drawn m_bytes m_typed m_cell m_house m_settings m_bowl m_dog m_path m_steps m_line) [(0, .ref (b 0)), (1, .int x1)] [] := by
  intro H locs ls hP hD hS hl
  have hx := C.1
  have hb := C.2.1
  have hown := C.2.2.2.1
  have hts := C.2.2.2.2.1
  unfold f_X9_count at hf
  refine lv_aload_n (pc := 0) hx hb dX9_count_0 rfl (lv_at hl 0 rfl) ?_
  obtain ⟨c1, c2, c3, c4, c5, c6, c7, c8, hq, hf⟩ := bind8_some hf
  refine fin2_v (wl_X9_count cA b m_latest c1 c2 c3 m_bowls m_dogs m_gone m_sights m_drawn m_bytes m_typed c4 c5 m_settings m_bowl m_dog c6 c7 c8) (run_V (rest := []) (pc := 1) (As := []) C mf_X9_184 (c_X9_find l D cA b m_latest m_cells m_wide m_houses m_bowls m_dogs m_gone m_sights m_drawn m_bytes m_typed m_cell m_house m_settings m_bowl m_dog m_path m_steps m_line (c1, c2, c3, c4, c5, c6, c7, c8) hq H.size) rfl rfl ⟨(Nat.le_of_ble_eq_true rfl), (Nat.le_of_ble_eq_true rfl)⟩ (preV_of C hP hD [0, 1, 2, 3, 4, 5, 6, 7, 8, 9, 10] rfl (pl_nd pv_138) 0 rfl rfl rfl) rfl hl.1 rfl (Nat.le_of_ble_eq_true rfl) dX9_count_1 ⟨Nat.zero_le _, Nat.zero_le _⟩) hP hD hS hA [0, 1, 2, 3, 4, 5, 6, 7, 8, 9, 10] [] rfl rfl rfl rfl pv_138 (fun H locs hP hS => ?_)
  have hD : va_D (va_A ws0 sz) (wl_X9_count cA b m_latest c1 c2 c3 m_bowls m_dogs m_gone m_sights m_drawn m_bytes m_typed c4 c5 m_settings m_bowl m_dog c6 c7 c8) := vd_a hD rfl
  refine lv_iload_n (pc := 4) hx hb dX9_count_4 rfl (lv_at hl 1 rfl) ?_
  by_cases h_0 : x1 = (0 : Int32)
  · have hf := (if_pos h_0).symm.trans hf
    refine lv_tableIn (pc := 5) (off := 51) (tgt := 56) hx hb dX9_count_5 (by rw [h_0]; decide) (by rw [h_0]; decide) (by rw [h_0]; decide) (by decide) ?_
    refine lv_aload_n (pc := 56) hx hb dX9_count_56 rfl (lv_at hl 0 rfl) ?_
    refine g_get (pc := 57) C fg_X9_94 hP 0 rfl rfl dX9_count_57 ?_
    have hf := Option.some.inj hf
    subst hf
    exact ret_i C hr hlk hP hS dX9_count_60
  have hf := (if_neg h_0).symm.trans hf
  by_cases h_1 : x1 = (1 : Int32)
  · have hf := (if_pos h_1).symm.trans hf
    refine lv_tableIn (pc := 5) (off := 56) (tgt := 61) hx hb dX9_count_5 (by rw [h_1]; decide) (by rw [h_1]; decide) (by rw [h_1]; decide) (by decide) ?_
    refine lv_aload_n (pc := 61) hx hb dX9_count_61 rfl (lv_at hl 0 rfl) ?_
    refine g_get (pc := 62) C fg_X9_106 hP 0 rfl rfl dX9_count_62 ?_
    have hf := Option.some.inj hf
    subst hf
    exact ret_i C hr hlk hP hS dX9_count_65
  have hf := (if_neg h_1).symm.trans hf
  by_cases h_2 : x1 = (2 : Int32)
  · have hf := (if_pos h_2).symm.trans hf
    refine lv_tableIn (pc := 5) (off := 61) (tgt := 66) hx hb dX9_count_5 (by rw [h_2]; decide) (by rw [h_2]; decide) (by rw [h_2]; decide) (by decide) ?_
    exact k_X9_count_b66 C hr hlk hA b m_latest c1 c2 c3 m_bowls m_dogs m_gone m_sights m_drawn m_bytes m_typed c4 c5 m_settings m_bowl m_dog c6 c7 c8 x1 r hf H locs ls hP hD hS hl
  have hf := (if_neg h_2).symm.trans hf
  by_cases h_3 : x1 = (3 : Int32)
  · have hf := (if_pos h_3).symm.trans hf
    refine lv_tableIn (pc := 5) (off := 61) (tgt := 66) hx hb dX9_count_5 (by rw [h_3]; decide) (by rw [h_3]; decide) (by rw [h_3]; decide) (by decide) ?_
    exact k_X9_count_b66 C hr hlk hA b m_latest c1 c2 c3 m_bowls m_dogs m_gone m_sights m_drawn m_bytes m_typed c4 c5 m_settings m_bowl m_dog c6 c7 c8 x1 r hf H locs ls hP hD hS hl
  have hf := (if_neg h_3).symm.trans hf
  by_cases h_4 : x1 = (4 : Int32)
  · have hf := (if_pos h_4).symm.trans hf
    refine lv_tableIn (pc := 5) (off := 70) (tgt := 75) hx hb dX9_count_5 (by rw [h_4]; decide) (by rw [h_4]; decide) (by rw [h_4]; decide) (by decide) ?_
    refine lv_aload_n (pc := 75) hx hb dX9_count_75 rfl (lv_at hl 0 rfl) ?_
    refine g_get (pc := 76) C fg_X9_133 hP 0 rfl rfl dX9_count_76 ?_
    have hf := Option.some.inj hf
    subst hf
    exact ret_i C hr hlk hP hS dX9_count_79
  have hf := (if_neg h_4).symm.trans hf
  by_cases h_5 : x1 = (5 : Int32)
  · have hf := (if_pos h_5).symm.trans hf
    refine lv_tableIn (pc := 5) (off := 75) (tgt := 80) hx hb dX9_count_5 (by rw [h_5]; decide) (by rw [h_5]; decide) (by rw [h_5]; decide) (by decide) ?_
    refine lv_aload_n (pc := 80) hx hb dX9_count_80 rfl (lv_at hl 0 rfl) ?_
    refine g_get (pc := 81) C fg_X9_143 hP 0 rfl rfl dX9_count_81 ?_
    have hf := Option.some.inj hf
    subst hf
    exact ret_i C hr hlk hP hS dX9_count_84
  have hf := (if_neg h_5).symm.trans hf
  by_cases h_6 : x1 = (6 : Int32)
  · have hf := (if_pos h_6).symm.trans hf
    refine lv_tableIn (pc := 5) (off := 80) (tgt := 85) hx hb dX9_count_5 (by rw [h_6]; decide) (by rw [h_6]; decide) (by rw [h_6]; decide) (by decide) ?_
    refine lv_aload_n (pc := 85) hx hb dX9_count_85 rfl (lv_at hl 0 rfl) ?_
    refine g_get (pc := 86) C fg_X9_97 hP 0 rfl rfl dX9_count_86 ?_
    have hf := Option.some.inj hf
    subst hf
    exact ret_i C hr hlk hP hS dX9_count_89
  have hf := (if_neg h_6).symm.trans hf
  by_cases h_7 : x1 = (7 : Int32)
  · have hf := (if_pos h_7).symm.trans hf
    refine lv_tableIn (pc := 5) (off := 85) (tgt := 90) hx hb dX9_count_5 (by rw [h_7]; decide) (by rw [h_7]; decide) (by rw [h_7]; decide) (by decide) ?_
    refine lv_aload_n (pc := 90) hx hb dX9_count_90 rfl (lv_at hl 0 rfl) ?_
    refine g_get (pc := 91) C fg_X9_230 hP 0 rfl rfl dX9_count_91 ?_
    have hf := Option.some.inj hf
    subst hf
    exact ret_i C hr hlk hP hS dX9_count_94
  have hf := (if_neg h_7).symm.trans hf
  by_cases h_8 : x1 = (8 : Int32)
  · have hf := (if_pos h_8).symm.trans hf
    refine lv_tableIn (pc := 5) (off := 90) (tgt := 95) hx hb dX9_count_5 (by rw [h_8]; decide) (by rw [h_8]; decide) (by rw [h_8]; decide) (by decide) ?_
    refine lv_aload_n (pc := 95) hx hb dX9_count_95 rfl (lv_at hl 0 rfl) ?_
    refine g_get (pc := 96) C fg_X9_64 hP 0 rfl rfl dX9_count_96 ?_
    have hf := Option.some.inj hf
    subst hf
    exact ret_i C hr hlk hP hS dX9_count_99
  have hf := (if_neg h_8).symm.trans hf
  refine lv_tableOut (pc := 5) (tgt := 100) hx hb dX9_count_5 (sw_out9 h_0 h_1 h_2 h_3 h_4 h_5 h_6 h_7 h_8) (by decide) ?_
  refine lv_bipush (pc := 100) (v := (-2)) hx hb dX9_count_100 bp_m2 ?_
  have hf := Option.some.inj hf
  subst hf
  exact ret_i C hr hlk hP hS dX9_count_102
set_option maxRecDepth 100000 in
theorem c_X9_count (l : Launch) (D : va_G) (cA : Nat → ClassId) (b : Nat → Nat) (m_latest : Int32) (m_cells : Int32) (m_wide : Int32) (m_houses : Int32) (m_bowls : Int32) (m_dogs : Int32) (m_gone : Int32) (m_sights : Int32) (m_drawn : Int32) (m_bytes : Nat → Int32) (m_typed : Nat → Int32) (m_cell : Nat → Int32) (m_house : Nat → Int32) (m_settings : Nat → Int32) (m_bowl : Nat → Int32) (m_dog : Nat → Int32) (m_path : Nat → Int32) (m_steps : Nat → Int32) (m_line : Nat → Int32) (x1 : Int32) (r : Int32 × Int32 × Int32 × Int32 × (Nat → Int32) × (Nat → Int32) × (Nat → Int32) × (Nat → Int32) × (Nat → Int32)) (hf : f_X9_count m_latest m_cells m_wide m_houses m_bowls m_dogs m_gone m_sights m_bytes m_typed m_cell m_house m_settings m_bowl m_dog m_path m_steps m_line x1 = some r) (sz : Nat) : Met l yX9_count (Cond.code yX9_count cX9_count 2 (some .int) :: lw_good) rm_X9_count (PreX D cA [.ref (b 0), .int x1] sz (wl_X9_count cA b m_latest m_cells m_wide m_houses m_bowls m_dogs m_gone m_sights m_drawn m_bytes m_typed m_cell m_house m_settings m_bowl m_dog m_path m_steps m_line)) (PostI D r.1 (wl_X9_count cA b m_latest m_cells m_wide m_houses m_bowls m_dogs m_gone m_sights m_drawn m_bytes m_typed m_cell m_house m_settings m_bowl m_dog m_path m_steps m_line) (wl_X9_count cA b m_latest (r.2.1) (r.2.2.1) (r.2.2.2.1) m_bowls m_dogs m_gone m_sights m_drawn m_bytes m_typed (r.2.2.2.2.1) (r.2.2.2.2.2.1) m_settings m_bowl m_dog (r.2.2.2.2.2.2.1) (r.2.2.2.2.2.2.2.1) (r.2.2.2.2.2.2.2.2)) sz) 0 0 (va_A (wl_X9_count cA b m_latest m_cells m_wide m_houses m_bowls m_dogs m_gone m_sights m_drawn m_bytes m_typed m_cell m_house m_settings m_bowl m_dog m_path m_steps m_line) sz) :=
  met_of (by decide) (Nat.le_of_ble_eq_true rfl) (fun p e s m args below meth c C hr hlk hA => k_X9_count C hr hlk hA b m_latest m_cells m_wide m_houses m_bowls m_dogs m_gone m_sights m_drawn m_bytes m_typed m_cell m_house m_settings m_bowl m_dog m_path m_steps m_line x1 r hf)
end
