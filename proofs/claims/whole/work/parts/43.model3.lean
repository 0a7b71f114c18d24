abbrev wl_X9_rakeOf (cA : Nat → ClassId) (b : Nat → Nat) (m_latest : Int32) (m_cells : Int32) (m_wide : Int32) (m_houses : Int32) (m_bowls : Int32) (m_dogs : Int32) (m_gone : Int32) (m_sights : Int32) (m_drawn : Int32) (m_cell : Nat → Int32) (m_house : Nat → Int32) (m_settings : Nat → Int32) (m_bowl : Nat → Int32) (m_dog : Nat → Int32) (m_path : Nat → Int32) (m_steps : Nat → Int32) (m_line : Nat → Int32) : va_W := [((b 0), .inr (9, [.ref (b 1), .ref (b 2), .ref (b 3), .ref (b 4), .int m_latest, .ref (b 5), .ref (b 6), .int m_cells, .int m_wide, .ref (b 7), .int m_houses, .ref (b 8), .ref (b 9), .int m_bowls, .ref (b 10), .int m_dogs, .ref (b 11), .int m_gone, .ref (b 12), .ref (b 13), .ref (b 14), .int m_sights, .ref (b 15), .ref (b 16), .int m_drawn])), ((b 7), .inl (cA 0, 36, .inl m_cell)), ((b 8), .inl (cA 0, 16, .inl m_house)), ((b 9), .inl (cA 0, 2, .inl m_settings)), ((b 10), .inl (cA 0, 20, .inl m_bowl)), ((b 11), .inl (cA 0, 16, .inl m_dog)), ((b 12), .inl (cA 0, 250, .inl m_path)), ((b 13), .inl (cA 0, 10, .inl m_steps)), ((b 14), .inl (cA 0, 60, .inl m_line))]
abbrev rm_X9_rakeOf : Room := { frames := 6, cells := 0, slots := 0, locals := 150 }
section
variable {p : Program} {l : Launch} {e : Env} {s : State} {m : MethodId} {args : Array Value} {below : List Frame} {meth : Method} {c : Code} {D : va_G} {cA : Nat → ClassId} {ws0 : va_W} {sz : Nat} {A : Nat → Prop} {Q : State → Prop}
def f_X9_rakeOf_b61L11 (m_cells : Int32) (m_wide : Int32) (m_bowls : Int32) (m_dogs : Int32) (m_gone : Int32) (m_cell : Nat → Int32) (m_house : Nat → Int32) (m_settings : Nat → Int32) (m_bowl : Nat → Int32) (m_dog : Nat → Int32) (m_path : Nat → Int32) (m_steps : Nat → Int32) (m_line : Nat → Int32) (x1 : Int32) (x2 : Int32) (x3 : Int32) (x4 : Int32) (x5 : Int32) : Option ((Int32 × Int32 × (Nat → Int32) × (Nat → Int32) × (Nat → Int32) × (Nat → Int32)) ⊕ (Int32 × (Nat → Int32) × (Nat → Int32) × (Nat → Int32) × (Nat → Int32))) :=
  some (.inl (x4, (x5 + (-1)), m_cell, m_path, m_steps, m_line))
set_option maxHeartbeats 4000000 in
set_option maxRecDepth 100000 in
theorem k_X9_rakeOf_b61L11 (C : Cx RX9 cX9_rakeOf 6 D cA p s m args c) (hA : ∀ q, s.heap.size ≤ q → A q) (b : Nat → Nat) (m_latest : Int32) (m_cells : Int32) (m_wide : Int32) (m_houses : Int32) (m_bowls : Int32) (m_dogs : Int32) (m_gone : Int32) (m_sights : Int32) (m_drawn : Int32) (m_cell : Nat → Int32) (m_house : Nat → Int32) (m_settings : Nat → Int32) (m_bowl : Nat → Int32) (m_dog : Nat → Int32) (m_path : Nat → Int32) (m_steps : Nat → Int32) (m_line : Nat → Int32) (x1 : Int32) (x2 : Int32) (x3 : Int32) (x4 : Int32) (x5 : Int32) (r : (Int32 × Int32 × (Nat → Int32) × (Nat → Int32) × (Nat → Int32) × (Nat → Int32)) ⊕ (Int32 × (Nat → Int32) × (Nat → Int32) × (Nat → Int32) × (Nat → Int32))) (hf : f_X9_rakeOf_b61L11 m_cells m_wide m_bowls m_dogs m_gone m_cell m_house m_settings m_bowl m_dog m_path m_steps m_line x1 x2 x3 x4 x5 = some r) (hK : Sum.elim (fun q : Int32 × Int32 × (Nat → Int32) × (Nat → Int32) × (Nat → Int32) × (Nat → Int32) => At p l e rm_X9_rakeOf s m args below meth c D A 0 0 Q 6 11 (wl_X9_rakeOf cA b m_latest m_cells m_wide m_houses m_bowls m_dogs m_gone m_sights m_drawn (q.2.2.1) m_house m_settings m_bowl m_dog (q.2.2.2.1) (q.2.2.2.2.1) (q.2.2.2.2.2)) [(0, .ref (b 0)), (1, .int x1), (2, .int x2), (3, .int x3), (4, .int (q.1)), (5, .int (q.2.1))] []) (fun q : Int32 × (Nat → Int32) × (Nat → Int32) × (Nat → Int32) × (Nat → Int32) => At p l e rm_X9_rakeOf s m args below meth c D A 0 0 Q 6 67 (wl_X9_rakeOf cA b m_latest m_cells m_wide m_houses m_bowls m_dogs m_gone m_sights m_drawn (q.2.1) m_house m_settings m_bowl m_dog (q.2.2.1) (q.2.2.2.1) (q.2.2.2.2)) [(4, .int (q.1))] []) r) : At p l e rm_X9_rakeOf s m args below meth c D A 0 0 Q 6 61 (wl_X9_rakeOf cA b m_latest m_cells m_wide m_houses m_bowls m_dogs m_gone m_sights m_drawn m_cell m_house m_settings m_bowl m_dog m_path m_steps m_line) [(0, .ref (b 0)), (1, .int x1), (2, .int x2), (3, .int x3), (4, .int x4), (5, .int x5)] [] := by
  intro H locs ls hP hD hS hl
  have hx := C.1
  have hb := C.2.1
  have hown := C.2.2.2.1
  have hts := C.2.2.2.2.1
  unfold f_X9_rakeOf_b61L11 at hf
  refine lv_iinc (pc := 61) (v := (x5 + (-1))) (lv' := [(5, .int (x5 + (-1))), (0, .ref (b 0)), (1, .int x1), (2, .int x2), (3, .int x3), (4, .int x4)]) hx hb dX9_rakeOf_61 hl (k := 5) rfl rfl (Nat.le_of_ble_eq_true rfl) rfl (fun ls hl => ?_)
  refine lv_goto (pc := 64) (tgt := 11) hx hb dX9_rakeOf_64 (by decide) ?_
  have hf := Option.some.inj hf
  subst hf
  exact hK H locs ls hP hD hS (lv_sub hl [1, 2, 3, 4, 5, 0] rfl)
def f_X9_rakeOf_b51L11 (m_cells : Int32) (m_wide : Int32) (m_bowls : Int32) (m_dogs : Int32) (m_gone : Int32) (m_cell : Nat → Int32) (m_house : Nat → Int32) (m_settings : Nat → Int32) (m_bowl : Nat → Int32) (m_dog : Nat → Int32) (m_path : Nat → Int32) (m_steps : Nat → Int32) (m_line : Nat → Int32) (x1 : Int32) (x2 : Int32) (x3 : Int32) (x5 : Int32) (s0 : Int32) : Option ((Int32 × Int32 × (Nat → Int32) × (Nat → Int32) × (Nat → Int32) × (Nat → Int32)) ⊕ (Int32 × (Nat → Int32) × (Nat → Int32) × (Nat → Int32) × (Nat → Int32))) :=
  gd (inb x5 36) (f_X9_rakeOf_b61L11 m_cells m_wide m_bowls m_dogs m_gone (upd m_cell x5.toNatClampNeg (0 : Int32)) m_house m_settings m_bowl m_dog m_path m_steps m_line x1 x2 x3 s0 x5)
set_option maxHeartbeats 4000000 in
set_option maxRecDepth 100000 in
theorem k_X9_rakeOf_b51L11 (C : Cx RX9 cX9_rakeOf 6 D cA p s m args c) (hA : ∀ q, s.heap.size ≤ q → A q) (b : Nat → Nat) (m_latest : Int32) (m_cells : Int32) (m_wide : Int32) (m_houses : Int32) (m_bowls : Int32) (m_dogs : Int32) (m_gone : Int32) (m_sights : Int32) (m_drawn : Int32) (m_cell : Nat → Int32) (m_house : Nat → Int32) (m_settings : Nat → Int32) (m_bowl : Nat → Int32) (m_dog : Nat → Int32) (m_path : Nat → Int32) (m_steps : Nat → Int32) (m_line : Nat → Int32) (x1 : Int32) (x2 : Int32) (x3 : Int32) (x5 : Int32) (s0 : Int32) (r : (Int32 × Int32 × (Nat → Int32) × (Nat → Int32) × (Nat → Int32) × (Nat → Int32)) ⊕ (Int32 × (Nat → Int32) × (Nat → Int32) × (Nat → Int32) × (Nat → Int32))) (hf : f_X9_rakeOf_b51L11 m_cells m_wide m_bowls m_dogs m_gone m_cell m_house m_settings m_bowl m_dog m_path m_steps m_line x1 x2 x3 x5 s0 = some r) (hK : Sum.elim (fun q : Int32 × Int32 × (Nat → Int32) × (Nat → Int32) × (Nat → Int32) × (Nat → Int32) => At p l e rm_X9_rakeOf s m args below meth c D A 0 0 Q 6 11 (wl_X9_rakeOf cA b m_latest m_cells m_wide m_houses m_bowls m_dogs m_gone m_sights m_drawn (q.2.2.1) m_house m_settings m_bowl m_dog (q.2.2.2.1) (q.2.2.2.2.1) (q.2.2.2.2.2)) [(0, .ref (b 0)), (1, .int x1), (2, .int x2), (3, .int x3), (4, .int (q.1)), (5, .int (q.2.1))] []) (fun q : Int32 × (Nat → Int32) × (Nat → Int32) × (Nat → Int32) × (Nat → Int32) => At p l e rm_X9_rakeOf s m args below meth c D A 0 0 Q 6 67 (wl_X9_rakeOf cA b m_latest m_cells m_wide m_houses m_bowls m_dogs m_gone m_sights m_drawn (q.2.1) m_house m_settings m_bowl m_dog (q.2.2.1) (q.2.2.2.1) (q.2.2.2.2)) [(4, .int (q.1))] []) r) : At p l e rm_X9_rakeOf s m args below meth c D A 0 0 Q 6 51 (wl_X9_rakeOf cA b m_latest m_cells m_wide m_houses m_bowls m_dogs m_gone m_sights m_drawn m_cell m_house m_settings m_bowl m_dog m_path m_steps m_line) [(0, .ref (b 0)), (1, .int x1), (2, .int x2), (3, .int x3), (5, .int x5)] [.int s0] := by
  intro H locs ls hP hD hS hl
  have hx := C.1
  have hb := C.2.1
  have hown := C.2.2.2.1
  have hts := C.2.2.2.2.1
  unfold f_X9_rakeOf_b51L11 at hf
  refine lv_istore (pc := 51) (lv' := [(4, .int s0), (0, .ref (b 0)), (1, .int x1), (2, .int x2), (3, .int x3), (5, .int x5)]) hx hb dX9_rakeOf_51 hl (Nat.le_of_ble_eq_true rfl) rfl (fun ls hl => ?_)
  refine lv_aload_n (pc := 53) hx hb dX9_rakeOf_53 rfl (lv_at hl 1 rfl) ?_
  refine g_get (pc := 54) C fg_X9_28 hP 0 rfl rfl dX9_rakeOf_54 ?_
  refine lv_iload (pc := 57) hx hb dX9_rakeOf_57 (lv_at hl 5 rfl) ?_
  refine lv_iconst (pc := 59) (v := 0) hx hb dX9_rakeOf_59 ic_0 ?_
  obtain ⟨hg, hf⟩ := gd_some hf
  refine g_iast (pc := 60) C hP hD hS 1 rfl hg dX9_rakeOf_60 (fun H locs hP hD hS => ?_)
  have hP : va_P D classes (wl_X9_rakeOf cA b m_latest m_cells m_wide m_houses m_bowls m_dogs m_gone m_sights m_drawn (upd m_cell x5.toNatClampNeg (0 : Int32)) m_house m_settings m_bowl m_dog m_path m_steps m_line) H := hP
  have hD : va_D A (wl_X9_rakeOf cA b m_latest m_cells m_wide m_houses m_bowls m_dogs m_gone m_sights m_drawn (upd m_cell x5.toNatClampNeg (0 : Int32)) m_house m_settings m_bowl m_dog m_path m_steps m_line) := hD
  exact k_X9_rakeOf_b61L11 C hA b m_latest m_cells m_wide m_houses m_bowls m_dogs m_gone m_sights m_drawn (upd m_cell x5.toNatClampNeg (0 : Int32)) m_house m_settings m_bowl m_dog m_path m_steps m_line x1 x2 x3 s0 x5 r hf hK H locs ls hP hD hS (lv_sub hl [1, 2, 3, 4, 0, 5] rfl)
def f_X9_rakeOf_L11 (m_cells : Int32) (m_wide : Int32) (m_bowls : Int32) (m_dogs : Int32) (m_gone : Int32) (m_house : Nat → Int32) (m_settings : Nat → Int32) (m_bowl : Nat → Int32) (m_dog : Nat → Int32) (x1 : Int32) (x2 : Int32) (x3 : Int32) (x4 : Int32) (x5 : Int32) (m_cell : Nat → Int32) (m_path : Nat → Int32) (m_steps : Nat → Int32) (m_line : Nat → Int32) : Option ((Int32 × Int32 × (Nat → Int32) × (Nat → Int32) × (Nat → Int32) × (Nat → Int32)) ⊕ (Int32 × (Nat → Int32) × (Nat → Int32) × (Nat → Int32) × (Nat → Int32))) :=
  if x5 < 0 then (some (.inr (x4, m_cell, m_path, m_steps, m_line))) else (gd (inb x5 36) (if (m_cell x5.toNatClampNeg) = 0 then (gd (inb x5 36) (bind4 (f_X9_isSo m_cells m_wide m_bowls m_dogs m_gone (upd m_cell x5.toNatClampNeg (2 : Int32)) m_house m_settings m_bowl m_dog m_path m_steps m_line x1 x2 x3) (fun r2 c3 c4 c5 => if r2 = 0 then (f_X9_rakeOf_b51L11 m_cells m_wide m_bowls m_dogs m_gone (upd m_cell x5.toNatClampNeg (2 : Int32)) m_house m_settings m_bowl m_dog c3 c4 c5 x1 x2 x3 x5 x4) else (f_X9_rakeOf_b51L11 m_cells m_wide m_bowls m_dogs m_gone (upd m_cell x5.toNatClampNeg (2 : Int32)) m_house m_settings m_bowl m_dog c3 c4 c5 x1 x2 x3 x5 x5)))) else (f_X9_rakeOf_b61L11 m_cells m_wide m_bowls m_dogs m_gone m_cell m_house m_settings m_bowl m_dog m_path m_steps m_line x1 x2 x3 x4 x5)))
set_option maxHeartbeats 4000000 in
set_option maxRecDepth 100000 in
theorem k_X9_rakeOf_L11 (C : Cx RX9 cX9_rakeOf 6 D cA p s m args c) (hA : ∀ q, s.heap.size ≤ q → A q) (b : Nat → Nat) (m_latest : Int32) (m_cells : Int32) (m_wide : Int32) (m_houses : Int32) (m_bowls : Int32) (m_dogs : Int32) (m_gone : Int32) (m_sights : Int32) (m_drawn : Int32) (m_house : Nat → Int32) (m_settings : Nat → Int32) (m_bowl : Nat → Int32) (m_dog : Nat → Int32) (x1 : Int32) (x2 : Int32) (x3 : Int32) (x4 : Int32) (x5 : Int32) (m_cell : Nat → Int32) (m_path : Nat → Int32) (m_steps : Nat → Int32) (m_line : Nat → Int32) (r : (Int32 × Int32 × (Nat → Int32) × (Nat → Int32) × (Nat → Int32) × (Nat → Int32)) ⊕ (Int32 × (Nat → Int32) × (Nat → Int32) × (Nat → Int32) × (Nat → Int32))) (hf : f_X9_rakeOf_L11 m_cells m_wide m_bowls m_dogs m_gone m_house m_settings m_bowl m_dog x1 x2 x3 x4 x5 m_cell m_path m_steps m_line = some r) (hK : Sum.elim (fun q : Int32 × Int32 × (Nat → Int32) × (Nat → Int32) × (Nat → Int32) × (Nat → Int32) => At p l e rm_X9_rakeOf s m args below meth c D A 0 0 Q 6 11 (wl_X9_rakeOf cA b m_latest m_cells m_wide m_houses m_bowls m_dogs m_gone m_sights m_drawn (q.2.2.1) m_house m_settings m_bowl m_dog (q.2.2.2.1) (q.2.2.2.2.1) (q.2.2.2.2.2)) [(0, .ref (b 0)), (1, .int x1), (2, .int x2), (3, .int x3), (4, .int (q.1)), (5, .int (q.2.1))] []) (fun q : Int32 × (Nat → Int32) × (Nat → Int32) × (Nat → Int32) × (Nat → Int32) => At p l e rm_X9_rakeOf s m args below meth c D A 0 0 Q 6 67 (wl_X9_rakeOf cA b m_latest m_cells m_wide m_houses m_bowls m_dogs m_gone m_sights m_drawn (q.2.1) m_house m_settings m_bowl m_dog (q.2.2.1) (q.2.2.2.1) (q.2.2.2.2)) [(4, .int (q.1))] []) r) : At p l e rm_X9_rakeOf s m args below meth c D A 0 0 Q 6 11 (wl_X9_rakeOf cA b m_latest m_cells m_wide m_houses m_bowls m_dogs m_gone m_sights m_drawn m_cell m_house m_settings m_bowl m_dog m_path m_steps m_line) [(0, .ref (b 0)), (1, .int x1), (2, .int x2), (3, .int x3), (4, .int x4), (5, .int x5)] [] := by
  intro H locs ls hP hD hS hl
  have hx := C.1
  have hb := C.2.1
  have hown := C.2.2.2.1
  have hts := C.2.2.2.2.1
  unfold f_X9_rakeOf_L11 at hf
  refine lv_iload (pc := 11) hx hb dX9_rakeOf_11 (lv_at hl 5 rfl) ?_
  refine lv_if_lt (pc := 13) (tgt := 67) hx hb dX9_rakeOf_13 (by decide) (fun hc => ?_) (fun hc => ?_)
  · have hf := (if_pos hc).symm.trans hf
    have hf := Option.some.inj hf
    subst hf
    exact hK H locs ls hP hD hS (lv_sub hl [4] rfl)
  · have hf := (if_neg hc).symm.trans hf
    refine lv_aload_n (pc := 16) hx hb dX9_rakeOf_16 rfl (lv_at hl 0 rfl) ?_
    refine g_get (pc := 17) C fg_X9_28 hP 0 rfl rfl dX9_rakeOf_17 ?_
    refine lv_iload (pc := 20) hx hb dX9_rakeOf_20 (lv_at hl 5 rfl) ?_
    obtain ⟨hg, hf⟩ := gd_some hf
    refine g_iald (pc := 22) C hP 1 rfl hg dX9_rakeOf_22 ?_
    refine lv_if_ne (pc := 23) (tgt := 61) hx hb dX9_rakeOf_23 (by decide) (fun hc => ?_) (fun hc => ?_)
    · have hf := (if_neg hc).symm.trans hf
      exact k_X9_rakeOf_b61L11 C hA b m_latest m_cells m_wide m_houses m_bowls m_dogs m_gone m_sights m_drawn m_cell m_house m_settings m_bowl m_dog m_path m_steps m_line x1 x2 x3 x4 x5 r hf hK H locs ls hP hD hS hl
    · have hf := (if_pos hc).symm.trans hf
      refine lv_aload_n (pc := 26) hx hb dX9_rakeOf_26 rfl (lv_at hl 0 rfl) ?_
      refine g_get (pc := 27) C fg_X9_28 hP 0 rfl rfl dX9_rakeOf_27 ?_
      refine lv_iload (pc := 30) hx hb dX9_rakeOf_30 (lv_at hl 5 rfl) ?_
      refine lv_iconst (pc := 32) (v := 2) hx hb dX9_rakeOf_32 ic_2 ?_
      obtain ⟨hg, hf⟩ := gd_some hf
      refine g_iast (pc := 33) C hP hD hS 1 rfl hg dX9_rakeOf_33 (fun H locs hP hD hS => ?_)
      have hP : va_P D classes (wl_X9_rakeOf cA b m_latest m_cells m_wide m_houses m_bowls m_dogs m_gone m_sights m_drawn (upd m_cell x5.toNatClampNeg (2 : Int32)) m_house m_settings m_bowl m_dog m_path m_steps m_line) H := hP
      have hD : va_D A (wl_X9_rakeOf cA b m_latest m_cells m_wide m_houses m_bowls m_dogs m_gone m_sights m_drawn (upd m_cell x5.toNatClampNeg (2 : Int32)) m_house m_settings m_bowl m_dog m_path m_steps m_line) := hD
      refine lv_aload_n (pc := 34) hx hb dX9_rakeOf_34 rfl (lv_at hl 0 rfl) ?_
      refine lv_iload_n (pc := 35) hx hb dX9_rakeOf_35 rfl (lv_at hl 1 rfl) ?_
      refine lv_iload_n (pc := 36) hx hb dX9_rakeOf_36 rfl (lv_at hl 2 rfl) ?_
      refine lv_iload_n (pc := 37) hx hb dX9_rakeOf_37 rfl (lv_at hl 3 rfl) ?_
      obtain ⟨r2, c3, c4, c5, hq, hf⟩ := bind4_some hf
      refine fin2_i (wl_X9_rakeOf cA b m_latest m_cells m_wide m_houses m_bowls m_dogs m_gone m_sights m_drawn (upd m_cell x5.toNatClampNeg (2 : Int32)) m_house m_settings m_bowl m_dog c3 c4 c5) (run_V (rest := []) (pc := 38) (As := [.int x1, .int x2, .int x3]) C mf_X9_210 (c_X9_isSo l D cA b m_latest m_cells m_wide m_houses m_bowls m_dogs m_gone m_sights m_drawn (upd m_cell x5.toNatClampNeg (2 : Int32)) m_house m_settings m_bowl m_dog m_path m_steps m_line x1 x2 x3 (r2, c3, c4, c5) hq H.size) rfl rfl ⟨(Nat.le_of_ble_eq_true rfl), (Nat.le_of_ble_eq_true rfl)⟩ (preV_of C hP hD [0, 1, 2, 3, 4, 5, 6, 7, 8] rfl (pl_nd pv_149) 0 rfl rfl rfl) rfl hl.1 rfl (Nat.le_of_ble_eq_true rfl) dX9_rakeOf_38 ⟨Nat.zero_le _, Nat.zero_le _⟩) hP hD hS hA [0, 1, 2, 3, 4, 5, 6, 7, 8] [] rfl rfl rfl rfl pv_149 (fun H locs hP hS => ?_)
      have hD : va_D A (wl_X9_rakeOf cA b m_latest m_cells m_wide m_houses m_bowls m_dogs m_gone m_sights m_drawn (upd m_cell x5.toNatClampNeg (2 : Int32)) m_house m_settings m_bowl m_dog c3 c4 c5) := vd_a hD rfl
      refine lv_if_eq (pc := 41) (tgt := 49) hx hb dX9_rakeOf_41 (by decide) (fun hc => ?_) (fun hc => ?_)
      · have hf := (if_pos hc).symm.trans hf
        refine lv_iload (pc := 49) hx hb dX9_rakeOf_49 (lv_at hl 4 rfl) ?_
        exact k_X9_rakeOf_b51L11 C hA b m_latest m_cells m_wide m_houses m_bowls m_dogs m_gone m_sights m_drawn (upd m_cell x5.toNatClampNeg (2 : Int32)) m_house m_settings m_bowl m_dog c3 c4 c5 x1 x2 x3 x5 x4 r hf hK H locs ls hP hD hS (lv_sub hl [0, 1, 2, 3, 5] rfl)
      · have hf := (if_neg hc).symm.trans hf
        refine lv_iload (pc := 44) hx hb dX9_rakeOf_44 (lv_at hl 5 rfl) ?_
        refine lv_goto (pc := 46) (tgt := 51) hx hb dX9_rakeOf_46 (by decide) ?_
        exact k_X9_rakeOf_b51L11 C hA b m_latest m_cells m_wide m_houses m_bowls m_dogs m_gone m_sights m_drawn (upd m_cell x5.toNatClampNeg (2 : Int32)) m_house m_settings m_bowl m_dog c3 c4 c5 x1 x2 x3 x5 x5 r hf hK H locs ls hP hD hS (lv_sub hl [0, 1, 2, 3, 5] rfl)
theorem kl_X9_rakeOf_L11 (C : Cx RX9 cX9_rakeOf 6 D cA p s m args c) (hA : ∀ q, s.heap.size ≤ q → A q) (b : Nat → Nat) (m_latest : Int32) (m_cells : Int32) (m_wide : Int32) (m_houses : Int32) (m_bowls : Int32) (m_dogs : Int32) (m_gone : Int32) (m_sights : Int32) (m_drawn : Int32) (m_house : Nat → Int32) (m_settings : Nat → Int32) (m_bowl : Nat → Int32) (m_dog : Nat → Int32) (x1 : Int32) (x2 : Int32) (x3 : Int32) : ∀ (n : Nat) (q : Int32 × Int32 × (Nat → Int32) × (Nat → Int32) × (Nat → Int32) × (Nat → Int32)) (z : (Int32 × (Nat → Int32) × (Nat → Int32) × (Nat → Int32) × (Nat → Int32))), loopF (fun q : Int32 × Int32 × (Nat → Int32) × (Nat → Int32) × (Nat → Int32) × (Nat → Int32) => f_X9_rakeOf_L11 m_cells m_wide m_bowls m_dogs m_gone m_house m_settings m_bowl m_dog x1 x2 x3 q.1 q.2.1 q.2.2.1 q.2.2.2.1 q.2.2.2.2.1 q.2.2.2.2.2) n q = some z → (fun q : Int32 × (Nat → Int32) × (Nat → Int32) × (Nat → Int32) × (Nat → Int32) => At p l e rm_X9_rakeOf s m args below meth c D A 0 0 Q 6 67 (wl_X9_rakeOf cA b m_latest m_cells m_wide m_houses m_bowls m_dogs m_gone m_sights m_drawn (q.2.1) m_house m_settings m_bowl m_dog (q.2.2.1) (q.2.2.2.1) (q.2.2.2.2)) [(4, .int (q.1))] []) z → At p l e rm_X9_rakeOf s m args below meth c D A 0 0 Q 6 11 (wl_X9_rakeOf cA b m_latest m_cells m_wide m_houses m_bowls m_dogs m_gone m_sights m_drawn (q.2.2.1) m_house m_settings m_bowl m_dog (q.2.2.2.1) (q.2.2.2.2.1) (q.2.2.2.2.2)) [(0, .ref (b 0)), (1, .int x1), (2, .int x2), (3, .int x3), (4, .int (q.1)), (5, .int (q.2.1))] [] :=
  loop_lem (WP := fun q : Int32 × Int32 × (Nat → Int32) × (Nat → Int32) × (Nat → Int32) × (Nat → Int32) => At p l e rm_X9_rakeOf s m args below meth c D A 0 0 Q 6 11 (wl_X9_rakeOf cA b m_latest m_cells m_wide m_houses m_bowls m_dogs m_gone m_sights m_drawn (q.2.2.1) m_house m_settings m_bowl m_dog (q.2.2.2.1) (q.2.2.2.2.1) (q.2.2.2.2.2)) [(0, .ref (b 0)), (1, .int x1), (2, .int x2), (3, .int x3), (4, .int (q.1)), (5, .int (q.2.1))] []) (WE := (fun q : Int32 × (Nat → Int32) × (Nat → Int32) × (Nat → Int32) × (Nat → Int32) => At p l e rm_X9_rakeOf s m args below meth c D A 0 0 Q 6 67 (wl_X9_rakeOf cA b m_latest m_cells m_wide m_houses m_bowls m_dogs m_gone m_sights m_drawn (q.2.1) m_house m_settings m_bowl m_dog (q.2.2.1) (q.2.2.2.1) (q.2.2.2.2)) [(4, .int (q.1))] [])) (fun q r hf hK => k_X9_rakeOf_L11 C hA b m_latest m_cells m_wide m_houses m_bowls m_dogs m_gone m_sights m_drawn m_house m_settings m_bowl m_dog x1 x2 x3 q.1 q.2.1 q.2.2.1 q.2.2.2.1 q.2.2.2.2.1 q.2.2.2.2.2 r hf hK)
def f_X9_rakeOf (m_cells : Int32) (m_wide : Int32) (m_bowls : Int32) (m_dogs : Int32) (m_gone : Int32) (m_cell : Nat → Int32) (m_house : Nat → Int32) (m_settings : Nat → Int32) (m_bowl : Nat → Int32) (m_dog : Nat → Int32) (m_path : Nat → Int32) (m_steps : Nat → Int32) (m_line : Nat → Int32) (x1 : Int32) (x2 : Int32) (x3 : Int32) : Option (Int32 × (Nat → Int32) × (Nat → Int32) × (Nat → Int32) × (Nat → Int32)) :=
  letv ((m_cells - (1 : Int32))) (fun v1 => bind5 (loopF (fun q : Int32 × Int32 × (Nat → Int32) × (Nat → Int32) × (Nat → Int32) × (Nat → Int32) => f_X9_rakeOf_L11 m_cells m_wide m_bowls m_dogs m_gone m_house m_settings m_bowl m_dog x1 x2 x3 q.1 q.2.1 q.2.2.1 q.2.2.2.1 q.2.2.2.2.1 q.2.2.2.2.2) FU ((-1 : Int32), v1, m_cell, m_path, m_steps, m_line)) (fun u6 u7 u8 u9 u10 => some (u6, u7, u8, u9, u10)))
set_option maxHeartbeats 4000000 in
set_option maxRecDepth 100000 in
theorem k_X9_rakeOf (C : Cx RX9 cX9_rakeOf 6 D cA p s m args c) (hr : meth.sig.returnType = (some .int)) (hlk : meth.locks = false) (hA : ∀ q, s.heap.size ≤ q → va_A ws0 sz q) (b : Nat → Nat) (m_latest : Int32) (m_cells : Int32) (m_wide : Int32) (m_houses : Int32) (m_bowls : Int32) (m_dogs : Int32) (m_gone : Int32) (m_sights : Int32) (m_drawn : Int32) (m_cell : Nat → Int32) (m_house : Nat → Int32) (m_settings : Nat → Int32) (m_bowl : Nat → Int32) (m_dog : Nat → Int32) (m_path : Nat → Int32) (m_steps : Nat → Int32) (m_line : Nat → Int32) (x1 : Int32) (x2 : Int32) (x3 : Int32) (r : Int32 × (Nat → Int32) × (Nat → Int32) × (Nat → Int32) × (Nat → Int32)) (hf : f_X9_rakeOf m_cells m_wide m_bowls m_dogs m_gone m_cell m_house m_settings m_bowl m_dog m_path m_steps m_line x1 x2 x3 = some r) : At p l e rm_X9_rakeOf s m args below meth c D (va_A ws0 sz) 0 0 (MQ below (PostI D r.1 ws0 (wl_X9_rakeOf cA b m_latest m_cells m_wide m_houses m_bowls m_dogs m_gone m_sights m_drawn (r.2.1) m_house m_settings m_bowl m_dog (r.2.2.1) (r.2.2.2.1) (r.2.2.2.2)) sz) args s 0 0 (va_A ws0 sz)) 6 0 (wl_X9_rakeOf cA b m_latest m_cells m_wide m_houses m_bowls m_dogs m_gone m_sights m_drawn m_cell m_house m_settings m_bowl m_dog m_path m_steps m_line) [(0, .ref (b 0)), (1, .int x1), (2, .int x2), (3, .int x3)] [] := by
  intro H locs ls hP hD hS hl
  have hx := C.1
  have hb := C.2.1
  have hown := C.2.2.2.1
  have hts := C.2.2.2.2.1
  unfold f_X9_rakeOf at hf
  refine lv_iconst (pc := 0) (v := (-1)) hx hb dX9_rakeOf_0 ic_m1 ?_
  refine lv_istore (pc := 1) (lv' := [(4, .int (-1 : Int32)), (0, .ref (b 0)), (1, .int x1), (2, .int x2), (3, .int x3)]) hx hb dX9_rakeOf_1 hl (Nat.le_of_ble_eq_true rfl) rfl (fun ls hl => ?_)
  refine lv_aload_n (pc := 3) hx hb dX9_rakeOf_3 rfl (lv_at hl 1 rfl) ?_
  refine g_get (pc := 4) C fg_X9_94 hP 0 rfl rfl dX9_rakeOf_4 ?_
  refine lv_iconst (pc := 7) (v := 1) hx hb dX9_rakeOf_7 ic_1 ?_
  refine lv_isub (pc := 8) hx hb dX9_rakeOf_8 ?_
  obtain ⟨v1, e_v1, hf⟩ := letv_some hf
  refine tp_i e_v1 ?_
  refine lv_istore (pc := 9) (lv' := [(5, .int v1), (4, .int (-1 : Int32)), (0, .ref (b 0)), (1, .int x1), (2, .int x2), (3, .int x3)]) hx hb dX9_rakeOf_9 hl (Nat.le_of_ble_eq_true rfl) rfl (fun ls hl => ?_)
  obtain ⟨u6, u7, u8, u9, u10, hq, hf⟩ := bind5_some hf
  refine kl_X9_rakeOf_L11 C hA b m_latest m_cells m_wide m_houses m_bowls m_dogs m_gone m_sights m_drawn m_house m_settings m_bowl m_dog x1 x2 x3 FU ((-1 : Int32), v1, m_cell, m_path, m_steps, m_line) _ hq ?_ H locs ls hP hD hS (lv_sub hl [2, 3, 4, 5, 1, 0] rfl)
  intro H locs ls hP hD hS hl
  have hP : va_P D classes (wl_X9_rakeOf cA b m_latest m_cells m_wide m_houses m_bowls m_dogs m_gone m_sights m_drawn u7 m_house m_settings m_bowl m_dog u8 u9 u10) H := hP
  have hD : va_D (va_A ws0 sz) (wl_X9_rakeOf cA b m_latest m_cells m_wide m_houses m_bowls m_dogs m_gone m_sights m_drawn u7 m_house m_settings m_bowl m_dog u8 u9 u10) := hD
  have hl : lv_has ls 6 [(4, .int u6)] := hl
  refine lv_iload (pc := 67) hx hb dX9_rakeOf_67 (lv_at hl 0 rfl) ?_
  have hf := Option.some.inj hf
  subst hf
  exact ret_i C hr hlk hP hS dX9_rakeOf_69
set_option maxRecDepth 100000 in
theorem c_X9_rakeOf (l : Launch) (D : va_G) (cA : Nat → ClassId) (b : Nat → Nat) (m_latest : Int32) (m_cells : Int32) (m_wide : Int32) (m_houses : Int32) (m_bowls : Int32) (m_dogs : Int32) (m_gone : Int32) (m_sights : Int32) (m_drawn : Int32) (m_cell : Nat → Int32) (m_house : Nat → Int32) (m_settings : Nat → Int32) (m_bowl : Nat → Int32) (m_dog : Nat → Int32) (m_path : Nat → Int32) (m_steps : Nat → Int32) (m_line : Nat → Int32) (x1 : Int32) (x2 : Int32) (x3 : Int32) (r : Int32 × (Nat → Int32) × (Nat → Int32) × (Nat → Int32) × (Nat → Int32)) (hf : f_X9_rakeOf m_cells m_wide m_bowls m_dogs m_gone m_cell m_house m_settings m_bowl m_dog m_path m_steps m_line x1 x2 x3 = some r) (sz : Nat) : Met l yX9_rakeOf (Cond.code yX9_rakeOf cX9_rakeOf 6 (some .int) :: lw_good) rm_X9_rakeOf (PreX D cA [.ref (b 0), .int x1, .int x2, .int x3] sz (wl_X9_rakeOf cA b m_latest m_cells m_wide m_houses m_bowls m_dogs m_gone m_sights m_drawn m_cell m_house m_settings m_bowl m_dog m_path m_steps m_line)) (PostI D r.1 (wl_X9_rakeOf cA b m_latest m_cells m_wide m_houses m_bowls m_dogs m_gone m_sights m_drawn m_cell m_house m_settings m_bowl m_dog m_path m_steps m_line) (wl_X9_rakeOf cA b m_latest m_cells m_wide m_houses m_bowls m_dogs m_gone m_sights m_drawn (r.2.1) m_house m_settings m_bowl m_dog (r.2.2.1) (r.2.2.2.1) (r.2.2.2.2)) sz) 0 0 (va_A (wl_X9_rakeOf cA b m_latest m_cells m_wide m_houses m_bowls m_dogs m_gone m_sights m_drawn m_cell m_house m_settings m_bowl m_dog m_path m_steps m_line) sz) :=
  met_of (by decide) (Nat.le_of_ble_eq_true rfl) (fun p e s m args below meth c C hr hlk hA => k_X9_rakeOf C hr hlk hA b m_latest m_cells m_wide m_houses m_bowls m_dogs m_gone m_sights m_drawn m_cell m_house m_settings m_bowl m_dog m_path m_steps m_line x1 x2 x3 r hf)
end

abbrev wl_X9_rake (cA : Nat → ClassId) (b : Nat → Nat) (m_latest : Int32) (m_cells : Int32) (m_wide : Int32) (m_houses : Int32) (m_bowls : Int32) (m_dogs : Int32) (m_gone : Int32) (m_sights : Int32) (m_drawn : Int32) (m_bytes : Nat → Int32) (m_typed : Nat → Int32) (m_cell : Nat → Int32) (m_house : Nat → Int32) (m_settings : Nat → Int32) (m_bowl : Nat → Int32) (m_dog : Nat → Int32) (m_path : Nat → Int32) (m_steps : Nat → Int32) (m_line : Nat → Int32) : va_W := [((b 0), .inr (9, [.ref (b 1), .ref (b 2), .ref (b 3), .ref (b 4), .int m_latest, .ref (b 5), .ref (b 6), .int m_cells, .int m_wide, .ref (b 7), .int m_houses, .ref (b 8), .ref (b 9), .int m_bowls, .ref (b 10), .int m_dogs, .ref (b 11), .int m_gone, .ref (b 12), .ref (b 13), .ref (b 14), .int m_sights, .ref (b 15), .ref (b 16), .int m_drawn])), ((b 5), .inl (cA 0, 84, .inl m_bytes)), ((b 6), .inl (cA 0, 2, .inl m_typed)), ((b 7), .inl (cA 0, 36, .inl m_cell)), ((b 8), .inl (cA 0, 16, .inl m_house)), ((b 9), .inl (cA 0, 2, .inl m_settings)), ((b 10), .inl (cA 0, 20, .inl m_bowl)), ((b 11), .inl (cA 0, 16, .inl m_dog)), ((b 12), .inl (cA 0, 250, .inl m_path)), ((b 13), .inl (cA 0, 10, .inl m_steps)), ((b 14), .inl (cA 0, 60, .inl m_line))]
abbrev rm_X9_rake : Room := { frames := 7, cells := 0, slots := 0, locals := 175 }
section
variable {p : Program} {l : Launch} {e : Env} {s : State} {m : MethodId} {args : Array Value} {below : List Frame} {meth : Method} {c : Code} {D : va_G} {cA : Nat → ClassId} {ws0 : va_W} {sz : Nat} {A : Nat → Prop} {Q : State → Prop}
def f_X9_rake (m_cells : Int32) (m_wide : Int32) (m_houses : Int32) (m_bowls : Int32) (m_dogs : Int32) (m_gone : Int32) (m_bytes : Nat → Int32) (m_typed : Nat → Int32) (m_cell : Nat → Int32) (m_house : Nat → Int32) (m_settings : Nat → Int32) (m_bowl : Nat → Int32) (m_dog : Nat → Int32) (m_path : Nat → Int32) (m_steps : Nat → Int32) (m_line : Nat → Int32) (x1 : Int32) (x2 : Int32) (x3 : Int32) : Option (Int32 × Int32 × Int32 × Int32 × (Nat → Int32) × (Nat → Int32) × (Nat → Int32) × (Nat → Int32) × (Nat → Int32)) :=
  bind8 (f_X9_find m_cells m_wide m_houses m_bowls m_dogs m_gone m_bytes m_typed m_cell m_house m_settings m_bowl m_dog m_path m_steps m_line) (fun c1 c2 c3 c4 c5 c6 c7 c8 => bind1 (f_X9_isNight x1) (fun r9 => if r9 = 0 then (some ((-2 : Int32), c1, c2, c3, c4, c5, c6, c7, c8)) else (bind1 (f_X9_isHouse c3 x2) (fun r10 => if r10 = 0 then (some ((-2 : Int32), c1, c2, c3, c4, c5, c6, c7, c8)) else (bind1 (f_X9_in (x3.toInt64) (0 : Int64) (2 : Int64)) (fun r11 => if r11 = 0 then (some ((-2 : Int32), c1, c2, c3, c4, c5, c6, c7, c8)) else (bind5 (f_X9_rakeOf c1 c2 m_bowls m_dogs m_gone c4 c5 m_settings m_bowl m_dog c6 c7 c8 x1 x2 x3) (fun r12 c13 c14 c15 c16 => some (r12, c1, c2, c3, c13, c5, c14, c15, c16)))))))))
set_option maxHeartbeats 4000000 in
set_option maxRecDepth 100000 in
theorem k_X9_rake (C : Cx RX9 cX9_rake 4 D cA p s m args c) (hr : meth.sig.returnType = (some .int)) (hlk : meth.locks = false) (hA : ∀ q, s.heap.size ≤ q → va_A ws0 sz q) (b : Nat → Nat) (m_latest : Int32) (m_cells : Int32) (m_wide : Int32) (m_houses : Int32) (m_bowls : Int32) (m_dogs : Int32) (m_gone : Int32) (m_sights : Int32) (m_drawn : Int32) (m_bytes : Nat → Int32) (m_typed : Nat → Int32) (m_cell : Nat → Int32) (m_house : Nat → Int32) (m_settings : Nat → Int32) (m_bowl : Nat → Int32) (m_dog : Nat → Int32) (m_path : Nat → Int32) (m_steps : Nat → Int32) (m_line : Nat → Int32) (x1 : Int32) (x2 : Int32) (x3 : Int32) (r : Int32 × Int32 × Int32 × Int32 × (Nat → Int32) × (Nat → Int32) × (Nat → Int32) × (Nat → Int32) × (Nat → Int32)) (hf : f_X9_rake m_cells m_wide m_houses m_bowls m_dogs m_gone m_bytes m_typed m_cell m_house m_settings m_bowl m_dog m_path m_steps m_line x1 x2 x3 = some r) : At p l e rm_X9_rake s m args below meth c D (va_A ws0 sz) 0 0 (MQ below (PostI D r.1 ws0 (wl_X9_rake cA b m_latest (r.2.1) (r.2.2.1) (r.2.2.2.1) m_bowls m_dogs m_gone m_sights m_drawn m_bytes m_typed (r.2.2.2.2.1) (r.2.2.2.2.2.1) m_settings m_bowl m_dog (r.2.2.2.2.2.2.1) (r.2.2.2.2.2.2.2.1) (r.2.2.2.2.2.2.2.2)) sz) args s 0 0 (va_A ws0 sz)) 4 0 (wl_X9_rake cA b m_latest m_cells m_wide m_houses m_bowls m_dogs m_gone m_sights m_drawn m_bytes m_typed m_cell m_house m_settings m_bowl m_dog m_path m_steps m_line) [(0, .ref (b 0)), (1, .int x1), (2, .int x2), (3, .int x3)] [] := by
  intro H locs ls hP hD hS hl
  have hx := C.1
  have hb := C.2.1
  have hown := C.2.2.2.1
  have hts := C.2.2.2.2.1
  unfold f_X9_rake at hf
  refine lv_aload_n (pc := 0) hx hb dX9_rake_0 rfl (lv_at hl 0 rfl) ?_
  obtain ⟨c1, c2, c3, c4, c5, c6, c7, c8, hq, hf⟩ := bind8_some hf
  refine fin2_v (wl_X9_rake cA b m_latest c1 c2 c3 m_bowls m_dogs m_gone m_sights m_drawn m_bytes m_typed c4 c5 m_settings m_bowl m_dog c6 c7 c8) (run_V (rest := []) (pc := 1) (As := []) C mf_X9_184 (c_X9_find l D cA b m_latest m_cells m_wide m_houses m_bowls m_dogs m_gone m_sights m_drawn m_bytes m_typed m_cell m_house m_settings m_bowl m_dog m_path m_steps m_line (c1, c2, c3, c4, c5, c6, c7, c8) hq H.size) rfl rfl ⟨(Nat.le_of_ble_eq_true rfl), (Nat.le_of_ble_eq_true rfl)⟩ (preV_of C hP hD [0, 1, 2, 3, 4, 5, 6, 7, 8, 9, 10] rfl (pl_nd pv_138) 0 rfl rfl rfl) rfl hl.1 rfl (Nat.le_of_ble_eq_true rfl) dX9_rake_1 ⟨Nat.zero_le _, Nat.zero_le _⟩) hP hD hS hA [0, 1, 2, 3, 4, 5, 6, 7, 8, 9, 10] [] rfl rfl rfl rfl pv_138 (fun H locs hP hS => ?_)
  have hD : va_D (va_A ws0 sz) (wl_X9_rake cA b m_latest c1 c2 c3 m_bowls m_dogs m_gone m_sights m_drawn m_bytes m_typed c4 c5 m_settings m_bowl m_dog c6 c7 c8) := vd_a hD rfl
  refine lv_iload_n (pc := 4) hx hb dX9_rake_4 rfl (lv_at hl 1 rfl) ?_
  obtain ⟨r9, hq, hf⟩ := bind1_some hf
  refine fin2_i (wl_X9_rake cA b m_latest c1 c2 c3 m_bowls m_dogs m_gone m_sights m_drawn m_bytes m_typed c4 c5 m_settings m_bowl m_dog c6 c7 c8) (run_S (rest := []) (pc := 5) (As := [.int x1]) C mf_X9_136 (c_X9_isNight l D cA  x1 r9 hq H.size) rfl rfl ⟨(Nat.le_of_ble_eq_true rfl), (Nat.le_of_ble_eq_true rfl)⟩ (preS_of C hP hD [] rfl (pl_nd pv_139)) rfl hl.1 rfl (Nat.le_of_ble_eq_true rfl) dX9_rake_5 ⟨Nat.zero_le _, Nat.zero_le _⟩) hP hD hS hA [] [0, 1, 2, 3, 4, 5, 6, 7, 8, 9, 10] rfl rfl rfl rfl pv_139 (fun H locs hP hS => ?_)
  refine lv_if_eq (pc := 8) (tgt := 41) hx hb dX9_rake_8 (by decide) (fun hc => ?_) (fun hc => ?_)
  · have hf := (if_pos hc).symm.trans hf
    refine lv_bipush (pc := 41) (v := (-2)) hx hb dX9_rake_41 bp_m2 ?_
    have hf := Option.some.inj hf
    subst hf
    exact ret_i C hr hlk hP hS dX9_rake_43
  · have hf := (if_neg hc).symm.trans hf
    refine lv_aload_n (pc := 11) hx hb dX9_rake_11 rfl (lv_at hl 0 rfl) ?_
    refine lv_iload_n (pc := 12) hx hb dX9_rake_12 rfl (lv_at hl 2 rfl) ?_
    obtain ⟨r10, hq, hf⟩ := bind1_some hf
    refine fin2_i (wl_X9_rake cA b m_latest c1 c2 c3 m_bowls m_dogs m_gone m_sights m_drawn m_bytes m_typed c4 c5 m_settings m_bowl m_dog c6 c7 c8) (run_V (rest := []) (pc := 13) (As := [.int x2]) C mf_X9_126 (c_X9_isHouse l D cA b m_latest c1 c2 c3 m_bowls m_dogs m_gone m_sights m_drawn x2 r10 hq H.size) rfl rfl ⟨(Nat.le_of_ble_eq_true rfl), (Nat.le_of_ble_eq_true rfl)⟩ (preV_of C hP hD [0] rfl (pl_nd pv_142) 0 rfl rfl rfl) rfl hl.1 rfl (Nat.le_of_ble_eq_true rfl) dX9_rake_13 ⟨Nat.zero_le _, Nat.zero_le _⟩) hP hD hS hA [0] [1, 2, 3, 4, 5, 6, 7, 8, 9, 10] rfl rfl rfl rfl pv_142 (fun H locs hP hS => ?_)
    refine lv_if_eq (pc := 16) (tgt := 41) hx hb dX9_rake_16 (by decide) (fun hc => ?_) (fun hc => ?_)
    · have hf := (if_pos hc).symm.trans hf
      refine lv_bipush (pc := 41) (v := (-2)) hx hb dX9_rake_41 bp_m2 ?_
      have hf := Option.some.inj hf
      subst hf
      exact ret_i C hr hlk hP hS dX9_rake_43
    · have hf := (if_neg hc).symm.trans hf
      refine lv_iload_n (pc := 19) hx hb dX9_rake_19 rfl (lv_at hl 3 rfl) ?_
      refine lv_i2l (pc := 20) hx hb dX9_rake_20 rfl ?_
      refine lv_lconst (pc := 21) (v := 0) hx hb dX9_rake_21 rfl ?_
      refine lv_ldc2 (pc := 22) hx hb hown (hts _ (lg_in mw_465 rfl)) dX9_rake_22 ?_
      obtain ⟨r11, hq, hf⟩ := bind1_some hf
      refine fin2_i (wl_X9_rake cA b m_latest c1 c2 c3 m_bowls m_dogs m_gone m_sights m_drawn m_bytes m_typed c4 c5 m_settings m_bowl m_dog c6 c7 c8) (run_S (rest := []) (pc := 25) (As := [.long (x3.toInt64), .long (0 : Int64), .long (2 : Int64)]) C mf_X9_60 (c_X9_in l D cA  (x3.toInt64) (0 : Int64) (2 : Int64) r11 hq H.size) rfl rfl ⟨(Nat.le_of_ble_eq_true rfl), (Nat.le_of_ble_eq_true rfl)⟩ (preS_of C hP hD [] rfl (pl_nd pv_139)) rfl hl.1 rfl (Nat.le_of_ble_eq_true rfl) dX9_rake_25 ⟨Nat.zero_le _, Nat.zero_le _⟩) hP hD hS hA [] [0, 1, 2, 3, 4, 5, 6, 7, 8, 9, 10] rfl rfl rfl rfl pv_139 (fun H locs hP hS => ?_)
      refine lv_if_eq (pc := 28) (tgt := 41) hx hb dX9_rake_28 (by decide) (fun hc => ?_) (fun hc => ?_)
      · have hf := (if_pos hc).symm.trans hf
        refine lv_bipush (pc := 41) (v := (-2)) hx hb dX9_rake_41 bp_m2 ?_
        have hf := Option.some.inj hf
        subst hf
        exact ret_i C hr hlk hP hS dX9_rake_43
      · have hf := (if_neg hc).symm.trans hf
        refine lv_aload_n (pc := 31) hx hb dX9_rake_31 rfl (lv_at hl 0 rfl) ?_
        refine lv_iload_n (pc := 32) hx hb dX9_rake_32 rfl (lv_at hl 1 rfl) ?_
        refine lv_iload_n (pc := 33) hx hb dX9_rake_33 rfl (lv_at hl 2 rfl) ?_
        refine lv_iload_n (pc := 34) hx hb dX9_rake_34 rfl (lv_at hl 3 rfl) ?_
        obtain ⟨r12, c13, c14, c15, c16, hq, hf⟩ := bind5_some hf
        refine fin2_i (wl_X9_rake cA b m_latest c1 c2 c3 m_bowls m_dogs m_gone m_sights m_drawn m_bytes m_typed c13 c5 m_settings m_bowl m_dog c14 c15 c16) (run_V (rest := []) (pc := 35) (As := [.int x1, .int x2, .int x3]) C mf_X9_219 (c_X9_rakeOf l D cA b m_latest c1 c2 c3 m_bowls m_dogs m_gone m_sights m_drawn c4 c5 m_settings m_bowl m_dog c6 c7 c8 x1 x2 x3 (r12, c13, c14, c15, c16) hq H.size) rfl rfl ⟨(Nat.le_of_ble_eq_true rfl), (Nat.le_of_ble_eq_true rfl)⟩ (preV_of C hP hD [0, 3, 4, 5, 6, 7, 8, 9, 10] rfl (pl_nd pv_151) 0 rfl rfl rfl) rfl hl.1 rfl (Nat.le_of_ble_eq_true rfl) dX9_rake_35 ⟨Nat.zero_le _, Nat.zero_le _⟩) hP hD hS hA [0, 3, 4, 5, 6, 7, 8, 9, 10] [1, 2] rfl rfl rfl rfl pv_151 (fun H locs hP hS => ?_)
        have hD : va_D (va_A ws0 sz) (wl_X9_rake cA b m_latest c1 c2 c3 m_bowls m_dogs m_gone m_sights m_drawn m_bytes m_typed c13 c5 m_settings m_bowl m_dog c14 c15 c16) := vd_a hD rfl
        refine lv_goto (pc := 38) (tgt := 43) hx hb dX9_rake_38 (by decide) ?_
        have hf := Option.some.inj hf
        subst hf
        exact ret_i C hr hlk hP hS dX9_rake_43
set_option maxRecDepth 100000 in
theorem c_X9_rake (l : Launch) (D : va_G) (cA : Nat → ClassId) (b : Nat → Nat) (m_latest : Int32) (m_cells : Int32) (m_wide : Int32) (m_houses : Int32) (m_bowls : Int32) (m_dogs : Int32) (m_gone : Int32) (m_sights : Int32) (m_drawn : Int32) (m_bytes : Nat → Int32) (m_typed : Nat → Int32) (m_cell : Nat → Int32) (m_house : Nat → Int32) (m_settings : Nat → Int32) (m_bowl : Nat → Int32) (m_dog : Nat → Int32) (m_path : Nat → Int32) (m_steps : Nat → Int32) (m_line : Nat → Int32) (x1 : Int32) (x2 : Int32) (x3 : Int32) (r : Int32 × Int32 × Int32 × Int32 × (Nat → Int32) × (Nat → Int32) × (Nat → Int32) × (Nat → Int32) × (Nat → Int32)) (hf : f_X9_rake m_cells m_wide m_houses m_bowls m_dogs m_gone m_bytes m_typed m_cell m_house m_settings m_bowl m_dog m_path m_steps m_line x1 x2 x3 = some r) (sz : Nat) : Met l yX9_rake (Cond.code yX9_rake cX9_rake 4 (some .int) :: lw_good) rm_X9_rake (PreX D cA [.ref (b 0), .int x1, .int x2, .int x3] sz (wl_X9_rake cA b m_latest m_cells m_wide m_houses m_bowls m_dogs m_gone m_sights m_drawn m_bytes m_typed m_cell m_house m_settings m_bowl m_dog m_path m_steps m_line)) (PostI D r.1 (wl_X9_rake cA b m_latest m_cells m_wide m_houses m_bowls m_dogs m_gone m_sights m_drawn m_bytes m_typed m_cell m_house m_settings m_bowl m_dog m_path m_steps m_line) (wl_X9_rake cA b m_latest (r.2.1) (r.2.2.1) (r.2.2.2.1) m_bowls m_dogs m_gone m_sights m_drawn m_bytes m_typed (r.2.2.2.2.1) (r.2.2.2.2.2.1) m_settings m_bowl m_dog (r.2.2.2.2.2.2.1) (r.2.2.2.2.2.2.2.1) (r.2.2.2.2.2.2.2.2)) sz) 0 0 (va_A (wl_X9_rake cA b m_latest m_cells m_wide m_houses m_bowls m_dogs m_gone m_sights m_drawn m_bytes m_typed m_cell m_house m_settings m_bowl m_dog m_path m_steps m_line) sz) :=
  met_of (by decide) (Nat.le_of_ble_eq_true rfl) (fun p e s m args below meth c C hr hlk hA => k_X9_rake C hr hlk hA b m_latest m_cells m_wide m_houses m_bowls m_dogs m_gone m_sights m_drawn m_bytes m_typed m_cell m_house m_settings m_bowl m_dog m_path m_steps m_line x1 x2 x3 r hf)
end

abbrev wl_X9_isBuilt (cA : Nat → ClassId) (b : Nat → Nat) (m_latest : Int32) (m_cells : Int32) (m_wide : Int32) (m_houses : Int32) (m_bowls : Int32) (m_dogs : Int32) (m_gone : Int32) (m_sights : Int32) (m_drawn : Int32) (m_cell : Nat → Int32) (m_house : Nat → Int32) : va_W := [((b 0), .inr (9, [.ref (b 1), .ref (b 2), .ref (b 3), .ref (b 4), .int m_latest, .ref (b 5), .ref (b 6), .int m_cells, .int m_wide, .ref (b 7), .int m_houses, .ref (b 8), .ref (b 9), .int m_bowls, .ref (b 10), .int m_dogs, .ref (b 11), .int m_gone, .ref (b 12), .ref (b 13), .ref (b 14), .int m_sights, .ref (b 15), .ref (b 16), .int m_drawn])), ((b 7), .inl (cA 0, 36, .inl m_cell)), ((b 8), .inl (cA 0, 16, .inl m_house))]
abbrev rm_X9_isBuilt : Room := { frames := 0, cells := 0, slots := 0, locals := 0 }
section
variable {p : Program} {l : Launch} {e : Env} {s : State} {m : MethodId} {args : Array Value} {below : List Frame} {meth : Method} {c : Code} {D : va_G} {cA : Nat → ClassId} {ws0 : va_W} {sz : Nat} {A : Nat → Prop} {Q : State → Prop}
def f_X9_isBuilt_b47L18 (m_houses : Int32) (m_house : Nat → Int32) (x1 : Int32) (x3 : Int32) (s0 : Int32) : Option ((Int32 × Int32) ⊕ (Int32)) :=
  some (.inl (s0, (x3 + 1)))
set_option maxHeartbeats 4000000 in
set_option maxRecDepth 100000 in
theorem k_X9_isBuilt_b47L18 (C : Cx RX9 cX9_isBuilt 4 D cA p s m args c) (hA : ∀ q, s.heap.size ≤ q → A q) (b : Nat → Nat) (m_latest : Int32) (m_cells : Int32) (m_wide : Int32) (m_houses : Int32) (m_bowls : Int32) (m_dogs : Int32) (m_gone : Int32) (m_sights : Int32) (m_drawn : Int32) (m_cell : Nat → Int32) (m_house : Nat → Int32) (x1 : Int32) (x3 : Int32) (s0 : Int32) (r : (Int32 × Int32) ⊕ (Int32)) (hf : f_X9_isBuilt_b47L18 m_houses m_house x1 x3 s0 = some r) (hK : Sum.elim (fun q : Int32 × Int32 => At p l e rm_X9_isBuilt s m args below meth c D A 0 0 Q 4 18 (wl_X9_isBuilt cA b m_latest m_cells m_wide m_houses m_bowls m_dogs m_gone m_sights m_drawn m_cell m_house) [(0, .ref (b 0)), (1, .int x1), (2, .int (q.1)), (3, .int (q.2))] []) (fun q : Int32 => At p l e rm_X9_isBuilt s m args below meth c D A 0 0 Q 4 54 (wl_X9_isBuilt cA b m_latest m_cells m_wide m_houses m_bowls m_dogs m_gone m_sights m_drawn m_cell m_house) [(2, .int q)] []) r) : At p l e rm_X9_isBuilt s m args below meth c D A 0 0 Q 4 47 (wl_X9_isBuilt cA b m_latest m_cells m_wide m_houses m_bowls m_dogs m_gone m_sights m_drawn m_cell m_house) [(0, .ref (b 0)), (1, .int x1), (3, .int x3)] [.int s0] := by
  intro H locs ls hP hD hS hl
  have hx := C.1
  have hb := C.2.1
  have hown := C.2.2.2.1
  have hts := C.2.2.2.2.1
  unfold f_X9_isBuilt_b47L18 at hf
  refine lv_istore_n (pc := 47) (lv' := [(2, .int s0), (0, .ref (b 0)), (1, .int x1), (3, .int x3)]) hx hb dX9_isBuilt_47 rfl hl (Nat.le_of_ble_eq_true rfl) rfl (fun ls hl => ?_)
  refine lv_iinc (pc := 48) (v := (x3 + 1)) (lv' := [(3, .int (x3 + 1)), (2, .int s0), (0, .ref (b 0)), (1, .int x1)]) hx hb dX9_isBuilt_48 hl (k := 3) rfl rfl (Nat.le_of_ble_eq_true rfl) rfl (fun ls hl => ?_)
  refine lv_goto (pc := 51) (tgt := 18) hx hb dX9_isBuilt_51 (by decide) ?_
  have hf := Option.some.inj hf
  subst hf
  exact hK H locs ls hP hD hS (lv_sub hl [2, 3, 1, 0] rfl)
def f_X9_isBuilt_b42L18 (m_houses : Int32) (m_house : Nat → Int32) (x1 : Int32) (x3 : Int32) : Option ((Int32 × Int32) ⊕ (Int32)) :=
  f_X9_isBuilt_b47L18 m_houses m_house x1 x3 (1 : Int32)
set_option maxHeartbeats 4000000 in
set_option maxRecDepth 100000 in
theorem k_X9_isBuilt_b42L18 (C : Cx RX9 cX9_isBuilt 4 D cA p s m args c) (hA : ∀ q, s.heap.size ≤ q → A q) (b : Nat → Nat) (m_latest : Int32) (m_cells : Int32) (m_wide : Int32) (m_houses : Int32) (m_bowls : Int32) (m_dogs : Int32) (m_gone : Int32) (m_sights : Int32) (m_drawn : Int32) (m_cell : Nat → Int32) (m_house : Nat → Int32) (x1 : Int32) (x3 : Int32) (r : (Int32 × Int32) ⊕ (Int32)) (hf : f_X9_isBuilt_b42L18 m_houses m_house x1 x3 = some r) (hK : Sum.elim (fun q : Int32 × Int32 => At p l e rm_X9_isBuilt s m args below meth c D A 0 0 Q 4 18 (wl_X9_isBuilt cA b m_latest m_cells m_wide m_houses m_bowls m_dogs m_gone m_sights m_drawn m_cell m_house) [(0, .ref (b 0)), (1, .int x1), (2, .int (q.1)), (3, .int (q.2))] []) (fun q : Int32 => At p l e rm_X9_isBuilt s m args below meth c D A 0 0 Q 4 54 (wl_X9_isBuilt cA b m_latest m_cells m_wide m_houses m_bowls m_dogs m_gone m_sights m_drawn m_cell m_house) [(2, .int q)] []) r) : At p l e rm_X9_isBuilt s m args below meth c D A 0 0 Q 4 42 (wl_X9_isBuilt cA b m_latest m_cells m_wide m_houses m_bowls m_dogs m_gone m_sights m_drawn m_cell m_house) [(0, .ref (b 0)), (1, .int x1), (3, .int x3)] [] := by
  intro H locs ls hP hD hS hl
  have hx := C.1
  have hb := C.2.1
  have hown := C.2.2.2.1
  have hts := C.2.2.2.2.1
  unfold f_X9_isBuilt_b42L18 at hf
  refine lv_iconst (pc := 42) (v := 1) hx hb dX9_isBuilt_42 ic_1 ?_
  refine lv_goto (pc := 43) (tgt := 47) hx hb dX9_isBuilt_43 (by decide) ?_
  exact k_X9_isBuilt_b47L18 C hA b m_latest m_cells m_wide m_houses m_bowls m_dogs m_gone m_sights m_drawn m_cell m_house x1 x3 (1 : Int32) r hf hK H locs ls hP hD hS hl
def f_X9_isBuilt_L18 (m_houses : Int32) (m_house : Nat → Int32) (x1 : Int32) (x2 : Int32) (x3 : Int32) : Option ((Int32 × Int32) ⊕ (Int32)) :=
  if m_houses ≤ x3 then (some (.inr x2)) else (if x2 = 0 then (gd (inb ((2 : Int32) * x3) 16) (if (m_house ((2 : Int32) * x3).toNatClampNeg) = x1 then (f_X9_isBuilt_b42L18 m_houses m_house x1 x3) else (f_X9_isBuilt_b47L18 m_houses m_house x1 x3 (0 : Int32)))) else (f_X9_isBuilt_b42L18 m_houses m_house x1 x3))
set_option maxHeartbeats 4000000 in
set_option maxRecDepth 100000 in
theorem k_X9_isBuilt_L18 (C : Cx RX9 cX9_isBuilt 4 D cA p s m args c) (hA : ∀ q, s.heap.size ≤ q → A q) (b : Nat → Nat) (m_latest : Int32) (m_cells : Int32) (m_wide : Int32) (m_houses : Int32) (m_bowls : Int32) (m_dogs : Int32) (m_gone : Int32) (m_sights : Int32) (m_drawn : Int32) (m_cell : Nat → Int32) (m_house : Nat → Int32) (x1 : Int32) (x2 : Int32) (x3 : Int32) (r : (Int32 × Int32) ⊕ (Int32)) (hf : f_X9_isBuilt_L18 m_houses m_house x1 x2 x3 = some r) (hK : Sum.elim (fun q : Int32 × Int32 => At p l e rm_X9_isBuilt s m args below meth c D A 0 0 Q 4 18 (wl_X9_isBuilt cA b m_latest m_cells m_wide m_houses m_bowls m_dogs m_gone m_sights m_drawn m_cell m_house) [(0, .ref (b 0)), (1, .int x1), (2, .int (q.1)), (3, .int (q.2))] []) (fun q : Int32 => At p l e rm_X9_isBuilt s m args below meth c D A 0 0 Q 4 54 (wl_X9_isBuilt cA b m_latest m_cells m_wide m_houses m_bowls m_dogs m_gone m_sights m_drawn m_cell m_house) [(2, .int q)] []) r) : At p l e rm_X9_isBuilt s m args below meth c D A 0 0 Q 4 18 (wl_X9_isBuilt cA b m_latest m_cells m_wide m_houses m_bowls m_dogs m_gone m_sights m_drawn m_cell m_house) [(0, .ref (b 0)), (1, .int x1), (2, .int x2), (3, .int x3)] [] := by
  intro H locs ls hP hD hS hl
  have hx := C.1
  have hb := C.2.1
  have hown := C.2.2.2.1
  have hts := C.2.2.2.2.1
  unfold f_X9_isBuilt_L18 at hf
  refine lv_iload_n (pc := 18) hx hb dX9_isBuilt_18 rfl (lv_at hl 3 rfl) ?_
  refine lv_aload_n (pc := 19) hx hb dX9_isBuilt_19 rfl (lv_at hl 0 rfl) ?_
  refine g_get (pc := 20) C fg_X9_106 hP 0 rfl rfl dX9_isBuilt_20 ?_
  refine lv_icmp_ge (pc := 23) (tgt := 54) hx hb dX9_isBuilt_23 (by decide) (fun hc => ?_) (fun hc => ?_)
  · have hf := (if_pos hc).symm.trans hf
    have hf := Option.some.inj hf
    subst hf
    exact hK H locs ls hP hD hS (lv_sub hl [2] rfl)
  · have hf := (if_neg hc).symm.trans hf
    refine lv_iload_n (pc := 26) hx hb dX9_isBuilt_26 rfl (lv_at hl 2 rfl) ?_
    refine lv_if_ne (pc := 27) (tgt := 42) hx hb dX9_isBuilt_27 (by decide) (fun hc => ?_) (fun hc => ?_)
    · have hf := (if_neg hc).symm.trans hf
      exact k_X9_isBuilt_b42L18 C hA b m_latest m_cells m_wide m_houses m_bowls m_dogs m_gone m_sights m_drawn m_cell m_house x1 x3 r hf hK H locs ls hP hD hS (lv_sub hl [0, 1, 3] rfl)
    · have hf := (if_pos hc).symm.trans hf
      refine lv_aload_n (pc := 30) hx hb dX9_isBuilt_30 rfl (lv_at hl 0 rfl) ?_
      refine g_get (pc := 31) C fg_X9_31 hP 0 rfl rfl dX9_isBuilt_31 ?_
      refine lv_iconst (pc := 34) (v := 2) hx hb dX9_isBuilt_34 ic_2 ?_
      refine lv_iload_n (pc := 35) hx hb dX9_isBuilt_35 rfl (lv_at hl 3 rfl) ?_
      refine lv_imul (pc := 36) hx hb dX9_isBuilt_36 ?_
      obtain ⟨hg, hf⟩ := gd_some hf
      refine g_iald (pc := 37) C hP 2 rfl hg dX9_isBuilt_37 ?_
      refine lv_iload_n (pc := 38) hx hb dX9_isBuilt_38 rfl (lv_at hl 1 rfl) ?_
      refine lv_icmp_ne (pc := 39) (tgt := 46) hx hb dX9_isBuilt_39 (by decide) (fun hc => ?_) (fun hc => ?_)
      · have hf := (if_neg hc).symm.trans hf
        refine lv_iconst (pc := 46) (v := 0) hx hb dX9_isBuilt_46 ic_0 ?_
        exact k_X9_isBuilt_b47L18 C hA b m_latest m_cells m_wide m_houses m_bowls m_dogs m_gone m_sights m_drawn m_cell m_house x1 x3 (0 : Int32) r hf hK H locs ls hP hD hS (lv_sub hl [0, 1, 3] rfl)
      · have hf := (if_pos hc).symm.trans hf
        exact k_X9_isBuilt_b42L18 C hA b m_latest m_cells m_wide m_houses m_bowls m_dogs m_gone m_sights m_drawn m_cell m_house x1 x3 r hf hK H locs ls hP hD hS (lv_sub hl [0, 1, 3] rfl)
theorem kl_X9_isBuilt_L18 (C : Cx RX9 cX9_isBuilt 4 D cA p s m args c) (hA : ∀ q, s.heap.size ≤ q → A q) (b : Nat → Nat) (m_latest : Int32) (m_cells : Int32) (m_wide : Int32) (m_houses : Int32) (m_bowls : Int32) (m_dogs : Int32) (m_gone : Int32) (m_sights : Int32) (m_drawn : Int32) (m_cell : Nat → Int32) (m_house : Nat → Int32) (x1 : Int32) : ∀ (n : Nat) (q : Int32 × Int32) (z : (Int32)), loopF (fun q : Int32 × Int32 => f_X9_isBuilt_L18 m_houses m_house x1 q.1 q.2) n q = some z → (fun q : Int32 => At p l e rm_X9_isBuilt s m args below meth c D A 0 0 Q 4 54 (wl_X9_isBuilt cA b m_latest m_cells m_wide m_houses m_bowls m_dogs m_gone m_sights m_drawn m_cell m_house) [(2, .int q)] []) z → At p l e rm_X9_isBuilt s m args below meth c D A 0 0 Q 4 18 (wl_X9_isBuilt cA b m_latest m_cells m_wide m_houses m_bowls m_dogs m_gone m_sights m_drawn m_cell m_house) [(0, .ref (b 0)), (1, .int x1), (2, .int (q.1)), (3, .int (q.2))] [] :=
  loop_lem (WP := fun q : Int32 × Int32 => At p l e rm_X9_isBuilt s m args below meth c D A 0 0 Q 4 18 (wl_X9_isBuilt cA b m_latest m_cells m_wide m_houses m_bowls m_dogs m_gone m_sights m_drawn m_cell m_house) [(0, .ref (b 0)), (1, .int x1), (2, .int (q.1)), (3, .int (q.2))] []) (WE := (fun q : Int32 => At p l e rm_X9_isBuilt s m args below meth c D A 0 0 Q 4 54 (wl_X9_isBuilt cA b m_latest m_cells m_wide m_houses m_bowls m_dogs m_gone m_sights m_drawn m_cell m_house) [(2, .int q)] [])) (fun q r hf hK => k_X9_isBuilt_L18 C hA b m_latest m_cells m_wide m_houses m_bowls m_dogs m_gone m_sights m_drawn m_cell m_house x1 q.1 q.2 r hf hK)
def f_X9_isBuilt_b15 (m_houses : Int32) (m_cell : Nat → Int32) (m_house : Nat → Int32) (x1 : Int32) (s0 : Int32) : Option (Int32) :=
  bind1 (loopF (fun q : Int32 × Int32 => f_X9_isBuilt_L18 m_houses m_house x1 q.1 q.2) FU (s0, (0 : Int32))) (fun u1 => gd (isz u1) (some u1))
set_option maxHeartbeats 4000000 in
set_option maxRecDepth 100000 in
theorem k_X9_isBuilt_b15 (C : Cx RX9 cX9_isBuilt 4 D cA p s m args c) (hr : meth.sig.returnType = (some .boolean)) (hlk : meth.locks = false) (hA : ∀ q, s.heap.size ≤ q → va_A ws0 sz q) (b : Nat → Nat) (m_latest : Int32) (m_cells : Int32) (m_wide : Int32) (m_houses : Int32) (m_bowls : Int32) (m_dogs : Int32) (m_gone : Int32) (m_sights : Int32) (m_drawn : Int32) (m_cell : Nat → Int32) (m_house : Nat → Int32) (x1 : Int32) (s0 : Int32) (r : Int32) (hf : f_X9_isBuilt_b15 m_houses m_cell m_house x1 s0 = some r) : At p l e rm_X9_isBuilt s m args below meth c D (va_A ws0 sz) 0 0 (MQ below (PostI D r ws0 (wl_X9_isBuilt cA b m_latest m_cells m_wide m_houses m_bowls m_dogs m_gone m_sights m_drawn m_cell m_house) sz) args s 0 0 (va_A ws0 sz)) 4 15 (wl_X9_isBuilt cA b m_latest m_cells m_wide m_houses m_bowls m_dogs m_gone m_sights m_drawn m_cell m_house) [(0, .ref (b 0)), (1, .int x1)] [.int s0] := by
  intro H locs ls hP hD hS hl
  have hx := C.1
  have hb := C.2.1
  have hown := C.2.2.2.1
  have hts := C.2.2.2.2.1
  unfold f_X9_isBuilt_b15 at hf
  refine lv_istore_n (pc := 15) (lv' := [(2, .int s0), (0, .ref (b 0)), (1, .int x1)]) hx hb dX9_isBuilt_15 rfl hl (Nat.le_of_ble_eq_true rfl) rfl (fun ls hl => ?_)
  refine lv_iconst (pc := 16) (v := 0) hx hb dX9_isBuilt_16 ic_0 ?_
  refine lv_istore_n (pc := 17) (lv' := [(3, .int (0 : Int32)), (2, .int s0), (0, .ref (b 0)), (1, .int x1)]) hx hb dX9_isBuilt_17 rfl hl (Nat.le_of_ble_eq_true rfl) rfl (fun ls hl => ?_)
  obtain ⟨u1, hq, hf⟩ := bind1_some hf
  refine kl_X9_isBuilt_L18 C hA b m_latest m_cells m_wide m_houses m_bowls m_dogs m_gone m_sights m_drawn m_cell m_house x1 FU (s0, (0 : Int32)) _ hq ?_ H locs ls hP hD hS (lv_sub hl [2, 3, 1, 0] rfl)
  intro H locs ls hP hD hS hl
  have hP : va_P D classes (wl_X9_isBuilt cA b m_latest m_cells m_wide m_houses m_bowls m_dogs m_gone m_sights m_drawn m_cell m_house) H := hP
  have hD : va_D (va_A ws0 sz) (wl_X9_isBuilt cA b m_latest m_cells m_wide m_houses m_bowls m_dogs m_gone m_sights m_drawn m_cell m_house) := hD
  have hl : lv_has ls 4 [(2, .int u1)] := hl
  refine lv_iload_n (pc := 54) hx hb dX9_isBuilt_54 rfl (lv_at hl 0 rfl) ?_
  obtain ⟨hg, hf⟩ := gd_some hf
  have hf := Option.some.inj hf
  subst hf
  exact ret_z C hr hlk hg hP hS dX9_isBuilt_55
def f_X9_isBuilt (m_houses : Int32) (m_cell : Nat → Int32) (m_house : Nat → Int32) (x1 : Int32) : Option (Int32) :=
  gd (inb x1 36) (if (m_cell x1.toNatClampNeg) = (1 : Int32) then (f_X9_isBuilt_b15 m_houses m_cell m_house x1 (1 : Int32)) else (f_X9_isBuilt_b15 m_houses m_cell m_house x1 (0 : Int32)))
set_option maxHeartbeats 4000000 in
set_option maxRecDepth 100000 in
theorem k_X9_isBuilt (C : Cx RX9 cX9_isBuilt 4 D cA p s m args c) (hr : meth.sig.returnType = (some .boolean)) (hlk : meth.locks = false) (hA : ∀ q, s.heap.size ≤ q → va_A ws0 sz q) (b : Nat → Nat) (m_latest : Int32) (m_cells : Int32) (m_wide : Int32) (m_houses : Int32) (m_bowls : Int32) (m_dogs : Int32) (m_gone : Int32) (m_sights : Int32) (m_drawn : Int32) (m_cell : Nat → Int32) (m_house : Nat → Int32) (x1 : Int32) (r : Int32) (hf : f_X9_isBuilt m_houses m_cell m_house x1 = some r) : At p l e rm_X9_isBuilt s m args below meth c D (va_A ws0 sz) 0 0 (MQ below (PostI D r ws0 (wl_X9_isBuilt cA b m_latest m_cells m_wide m_houses m_bowls m_dogs m_gone m_sights m_drawn m_cell m_house) sz) args s 0 0 (va_A ws0 sz)) 4 0 (wl_X9_isBuilt cA b m_latest m_cells m_wide m_houses m_bowls m_dogs m_gone m_sights m_drawn m_cell m_house) [(0, .ref (b 0)), (1, .int x1)] [] := by
  intro H locs ls hP hD hS hl
  have hx := C.1
  have hb := C.2.1
  have hown := C.2.2.2.1
  have hts := C.2.2.2.2.1
  unfold f_X9_isBuilt at hf
  refine lv_aload_n (pc := 0) hx hb dX9_isBuilt_0 rfl (lv_at hl 0 rfl) ?_
  refine g_get (pc := 1) C fg_X9_28 hP 0 rfl rfl dX9_isBuilt_1 ?_
  refine lv_iload_n (pc := 4) hx hb dX9_isBuilt_4 rfl (lv_at hl 1 rfl) ?_
  obtain ⟨hg, hf⟩ := gd_some hf
  refine g_iald (pc := 5) C hP 1 rfl hg dX9_isBuilt_5 ?_
  refine lv_iconst (pc := 6) (v := 1) hx hb dX9_isBuilt_6 ic_1 ?_
  refine lv_icmp_ne (pc := 7) (tgt := 14) hx hb dX9_isBuilt_7 (by decide) (fun hc => ?_) (fun hc => ?_)
  · have hf := (if_neg hc).symm.trans hf
    refine lv_iconst (pc := 14) (v := 0) hx hb dX9_isBuilt_14 ic_0 ?_
    exact k_X9_isBuilt_b15 C hr hlk hA b m_latest m_cells m_wide m_houses m_bowls m_dogs m_gone m_sights m_drawn m_cell m_house x1 (0 : Int32) r hf H locs ls hP hD hS hl
  · have hf := (if_pos hc).symm.trans hf
    refine lv_iconst (pc := 10) (v := 1) hx hb dX9_isBuilt_10 ic_1 ?_
    refine lv_goto (pc := 11) (tgt := 15) hx hb dX9_isBuilt_11 (by decide) ?_
    exact k_X9_isBuilt_b15 C hr hlk hA b m_latest m_cells m_wide m_houses m_bowls m_dogs m_gone m_sights m_drawn m_cell m_house x1 (1 : Int32) r hf H locs ls hP hD hS hl
set_option maxRecDepth 100000 in
theorem c_X9_isBuilt (l : Launch) (D : va_G) (cA : Nat → ClassId) (b : Nat → Nat) (m_latest : Int32) (m_cells : Int32) (m_wide : Int32) (m_houses : Int32) (m_bowls : Int32) (m_dogs : Int32) (m_gone : Int32) (m_sights : Int32) (m_drawn : Int32) (m_cell : Nat → Int32) (m_house : Nat → Int32) (x1 : Int32) (r : Int32) (hf : f_X9_isBuilt m_houses m_cell m_house x1 = some r) (sz : Nat) : Met l yX9_isBuilt (Cond.code yX9_isBuilt cX9_isBuilt 4 (some .boolean) :: lw_good) rm_X9_isBuilt (PreX D cA [.ref (b 0), .int x1] sz (wl_X9_isBuilt cA b m_latest m_cells m_wide m_houses m_bowls m_dogs m_gone m_sights m_drawn m_cell m_house)) (PostI D r (wl_X9_isBuilt cA b m_latest m_cells m_wide m_houses m_bowls m_dogs m_gone m_sights m_drawn m_cell m_house) (wl_X9_isBuilt cA b m_latest m_cells m_wide m_houses m_bowls m_dogs m_gone m_sights m_drawn m_cell m_house) sz) 0 0 (va_A (wl_X9_isBuilt cA b m_latest m_cells m_wide m_houses m_bowls m_dogs m_gone m_sights m_drawn m_cell m_house) sz) :=
  met_of (by decide) (Nat.le_of_ble_eq_true rfl) (fun p e s m args below meth c C hr hlk hA => k_X9_isBuilt C hr hlk hA b m_latest m_cells m_wide m_houses m_bowls m_dogs m_gone m_sights m_drawn m_cell m_house x1 r hf)
end

abbrev wl_X9_liveOf (cA : Nat → ClassId) (b : Nat → Nat) (m_latest : Int32) (m_cells : Int32) (m_wide : Int32) (m_houses : Int32) (m_bowls : Int32) (m_dogs : Int32) (m_gone : Int32) (m_sights : Int32) (m_drawn : Int32) (m_cell : Nat → Int32) (m_house : Nat → Int32) (m_settings : Nat → Int32) (m_bowl : Nat → Int32) (m_dog : Nat → Int32) (m_path : Nat → Int32) (m_steps : Nat → Int32) (m_line : Nat → Int32) : va_W := [((b 0), .inr (9, [.ref (b 1), .ref (b 2), .ref (b 3), .ref (b 4), .int m_latest, .ref (b 5), .ref (b 6), .int m_cells, .int m_wide, .ref (b 7), .int m_houses, .ref (b 8), .ref (b 9), .int m_bowls, .ref (b 10), .int m_dogs, .ref (b 11), .int m_gone, .ref (b 12), .ref (b 13), .ref (b 14), .int m_sights, .ref (b 15), .ref (b 16), .int m_drawn])), ((b 7), .inl (cA 0, 36, .inl m_cell)), ((b 8), .inl (cA 0, 16, .inl m_house)), ((b 9), .inl (cA 0, 2, .inl m_settings)), ((b 10), .inl (cA 0, 20, .inl m_bowl)), ((b 11), .inl (cA 0, 16, .inl m_dog)), ((b 12), .inl (cA 0, 250, .inl m_path)), ((b 13), .inl (cA 0, 10, .inl m_steps)), ((b 14), .inl (cA 0, 60, .inl m_line))]
abbrev rm_X9_liveOf : Room := { frames := 5, cells := 0, slots := 0, locals := 127 }
section
variable {p : Program} {l : Launch} {e : Env} {s : State} {m : MethodId} {args : Array Value} {below : List Frame} {meth : Method} {c : Code} {D : va_G} {cA : Nat → ClassId} {ws0 : va_W} {sz : Nat} {A : Nat → Prop} {Q : State → Prop}
def f_X9_liveOf_b55L29 (m_wide : Int32) (m_line : Nat → Int32) (x1 : Int32) (x5 : Int32) (x7 : Int32) (s0 : Int32) (s1 : Int32) : Option ((Int32 × Int32) ⊕ (Int32)) :=
  letv ((s1 + s0)) (fun v5 => some (.inl (v5, (x7 + 1))))
set_option maxHeartbeats 4000000 in
set_option maxRecDepth 100000 in
theorem k_X9_liveOf_b55L29 (C : Cx RX9 cX9_liveOf 8 D cA p s m args c) (hA : ∀ q, s.heap.size ≤ q → A q) (b : Nat → Nat) (m_latest : Int32) (m_cells : Int32) (m_wide : Int32) (m_houses : Int32) (m_bowls : Int32) (m_dogs : Int32) (m_gone : Int32) (m_sights : Int32) (m_drawn : Int32) (m_cell : Nat → Int32) (m_house : Nat → Int32) (m_settings : Nat → Int32) (m_bowl : Nat → Int32) (m_dog : Nat → Int32) (m_path : Nat → Int32) (m_steps : Nat → Int32) (m_line : Nat → Int32) (x1 : Int32) (x2 : Int32) (x3 : Int32) (x4 : Int32) (x5 : Int32) (x7 : Int32) (s0 : Int32) (s1 : Int32) (r : (Int32 × Int32) ⊕ (Int32)) (hf : f_X9_liveOf_b55L29 m_wide m_line x1 x5 x7 s0 s1 = some r) (hK : Sum.elim (fun q : Int32 × Int32 => At p l e rm_X9_liveOf s m args below meth c D A 0 0 Q 8 29 (wl_X9_liveOf cA b m_latest m_cells m_wide m_houses m_bowls m_dogs m_gone m_sights m_drawn m_cell m_house m_settings m_bowl m_dog m_path m_steps m_line) [(0, .ref (b 0)), (1, .int x1), (2, .int x2), (3, .int x3), (4, .int x4), (5, .int x5), (6, .int (q.1)), (7, .int (q.2))] []) (fun q : Int32 => At p l e rm_X9_liveOf s m args below meth c D A 0 0 Q 8 64 (wl_X9_liveOf cA b m_latest m_cells m_wide m_houses m_bowls m_dogs m_gone m_sights m_drawn m_cell m_house m_settings m_bowl m_dog m_path m_steps m_line) [(0, .ref (b 0)), (1, .int x1), (2, .int x2), (3, .int x3), (4, .int x4), (5, .int x5), (6, .int q)] []) r) : At p l e rm_X9_liveOf s m args below meth c D A 0 0 Q 8 55 (wl_X9_liveOf cA b m_latest m_cells m_wide m_houses m_bowls m_dogs m_gone m_sights m_drawn m_cell m_house m_settings m_bowl m_dog m_path m_steps m_line) [(0, .ref (b 0)), (1, .int x1), (2, .int x2), (3, .int x3), (4, .int x4), (5, .int x5), (7, .int x7)] [.int s0, .int s1] := by
  intro H locs ls hP hD hS hl
  have hx := C.1
  have hb := C.2.1
  have hown := C.2.2.2.1
  have hts := C.2.2.2.2.1
  unfold f_X9_liveOf_b55L29 at hf
  refine lv_iadd (pc := 55) hx hb dX9_liveOf_55 ?_
  obtain ⟨v5, e_v5, hf⟩ := letv_some hf
  refine tp_i e_v5 ?_
  refine lv_istore (pc := 56) (lv' := [(6, .int v5), (0, .ref (b 0)), (1, .int x1), (2, .int x2), (3, .int x3), (4, .int x4), (5, .int x5), (7, .int x7)]) hx hb dX9_liveOf_56 hl (Nat.le_of_ble_eq_true rfl) rfl (fun ls hl => ?_)
  refine lv_iinc (pc := 58) (v := (x7 + 1)) (lv' := [(7, .int (x7 + 1)), (6, .int v5), (0, .ref (b 0)), (1, .int x1), (2, .int x2), (3, .int x3), (4, .int x4), (5, .int x5)]) hx hb dX9_liveOf_58 hl (k := 7) rfl rfl (Nat.le_of_ble_eq_true rfl) rfl (fun ls hl => ?_)
  refine lv_goto (pc := 61) (tgt := 29) hx hb dX9_liveOf_61 (by decide) ?_
  have hf := Option.some.inj hf
  subst hf
  exact hK H locs ls hP hD hS (lv_sub hl [2, 3, 4, 5, 6, 7, 1, 0] rfl)
def f_X9_liveOf_L29 (m_wide : Int32) (m_line : Nat → Int32) (x1 : Int32) (x5 : Int32) (x6 : Int32) (x7 : Int32) : Option ((Int32 × Int32) ⊕ (Int32)) :=
  if (10 : Int32) ≤ x7 then (some (.inr x6)) else (bind1 (f_X9_realmOf m_wide m_line x7 x5) (fun r4 => if r4 = x1 then (f_X9_liveOf_b55L29 m_wide m_line x1 x5 x7 (1 : Int32) x6) else (f_X9_liveOf_b55L29 m_wide m_line x1 x5 x7 (0 : Int32) x6)))
set_option maxHeartbeats 4000000 in
set_option maxRecDepth 100000 in
theorem k_X9_liveOf_L29 (C : Cx RX9 cX9_liveOf 8 D cA p s m args c) (hA : ∀ q, s.heap.size ≤ q → A q) (b : Nat → Nat) (m_latest : Int32) (m_cells : Int32) (m_wide : Int32) (m_houses : Int32) (m_bowls : Int32) (m_dogs : Int32) (m_gone : Int32) (m_sights : Int32) (m_drawn : Int32) (m_cell : Nat → Int32) (m_house : Nat → Int32) (m_settings : Nat → Int32) (m_bowl : Nat → Int32) (m_dog : Nat → Int32) (m_path : Nat → Int32) (m_steps : Nat → Int32) (m_line : Nat → Int32) (x1 : Int32) (x2 : Int32) (x3 : Int32) (x4 : Int32) (x5 : Int32) (x6 : Int32) (x7 : Int32) (r : (Int32 × Int32) ⊕ (Int32)) (hf : f_X9_liveOf_L29 m_wide m_line x1 x5 x6 x7 = some r) (hK : Sum.elim (fun q : Int32 × Int32 => At p l e rm_X9_liveOf s m args below meth c D A 0 0 Q 8 29 (wl_X9_liveOf cA b m_latest m_cells m_wide m_houses m_bowls m_dogs m_gone m_sights m_drawn m_cell m_house m_settings m_bowl m_dog m_path m_steps m_line) [(0, .ref (b 0)), (1, .int x1), (2, .int x2), (3, .int x3), (4, .int x4), (5, .int x5), (6, .int (q.1)), (7, .int (q.2))] []) (fun q : Int32 => At p l e rm_X9_liveOf s m args below meth c D A 0 0 Q 8 64 (wl_X9_liveOf cA b m_latest m_cells m_wide m_houses m_bowls m_dogs m_gone m_sights m_drawn m_cell m_house m_settings m_bowl m_dog m_path m_steps m_line) [(0, .ref (b 0)), (1, .int x1), (2, .int x2), (3, .int x3), (4, .int x4), (5, .int x5), (6, .int q)] []) r) : At p l e rm_X9_liveOf s m args below meth c D A 0 0 Q 8 29 (wl_X9_liveOf cA b m_latest m_cells m_wide m_houses m_bowls m_dogs m_gone m_sights m_drawn m_cell m_house m_settings m_bowl m_dog m_path m_steps m_line) [(0, .ref (b 0)), (1, .int x1), (2, .int x2), (3, .int x3), (4, .int x4), (5, .int x5), (6, .int x6), (7, .int x7)] [] := by
  intro H locs ls hP hD hS hl
  have hx := C.1
  have hb := C.2.1
  have hown := C.2.2.2.1
  have hts := C.2.2.2.2.1
  unfold f_X9_liveOf_L29 at hf
  refine lv_iload (pc := 29) hx hb dX9_liveOf_29 (lv_at hl 7 rfl) ?_
  refine lv_bipush (pc := 31) (v := 10) hx hb dX9_liveOf_31 bp_10 ?_
  refine lv_icmp_ge (pc := 33) (tgt := 64) hx hb dX9_liveOf_33 (by decide) (fun hc => ?_) (fun hc => ?_)
  · have hf := (if_pos hc).symm.trans hf
    have hf := Option.some.inj hf
    subst hf
    exact hK H locs ls hP hD hS (lv_sub hl [0, 1, 2, 3, 4, 5, 6] rfl)
  · have hf := (if_neg hc).symm.trans hf
    refine lv_iload (pc := 36) hx hb dX9_liveOf_36 (lv_at hl 6 rfl) ?_
    refine lv_aload_n (pc := 38) hx hb dX9_liveOf_38 rfl (lv_at hl 0 rfl) ?_
    refine lv_iload (pc := 39) hx hb dX9_liveOf_39 (lv_at hl 7 rfl) ?_
    refine lv_iload (pc := 41) hx hb dX9_liveOf_41 (lv_at hl 5 rfl) ?_
    obtain ⟨r4, hq, hf⟩ := bind1_some hf
    refine fin2_i (wl_X9_liveOf cA b m_latest m_cells m_wide m_houses m_bowls m_dogs m_gone m_sights m_drawn m_cell m_house m_settings m_bowl m_dog m_path m_steps m_line) (run_V (rest := [.int x6]) (pc := 43) (As := [.int x7, .int x5]) C mf_X9_195 (c_X9_realmOf l D cA b m_latest m_cells m_wide m_houses m_bowls m_dogs m_gone m_sights m_drawn m_line x7 x5 r4 hq H.size) rfl rfl ⟨(Nat.le_of_ble_eq_true rfl), (Nat.le_of_ble_eq_true rfl)⟩ (preV_of C hP hD [0, 8] rfl (pl_nd pv_152) 0 rfl rfl rfl) rfl hl.1 rfl (Nat.le_of_ble_eq_true rfl) dX9_liveOf_43 ⟨Nat.zero_le _, Nat.zero_le _⟩) hP hD hS hA [0, 8] [1, 2, 3, 4, 5, 6, 7] rfl rfl rfl rfl pv_152 (fun H locs hP hS => ?_)
    refine lv_iload_n (pc := 46) hx hb dX9_liveOf_46 rfl (lv_at hl 1 rfl) ?_
    refine lv_icmp_ne (pc := 47) (tgt := 54) hx hb dX9_liveOf_47 (by decide) (fun hc => ?_) (fun hc => ?_)
    · have hf := (if_neg hc).symm.trans hf
      refine lv_iconst (pc := 54) (v := 0) hx hb dX9_liveOf_54 ic_0 ?_
      exact k_X9_liveOf_b55L29 C hA b m_latest m_cells m_wide m_houses m_bowls m_dogs m_gone m_sights m_drawn m_cell m_house m_settings m_bowl m_dog m_path m_steps m_line x1 x2 x3 x4 x5 x7 (0 : Int32) x6 r hf hK H locs ls hP hD hS (lv_sub hl [0, 1, 2, 3, 4, 5, 7] rfl)
    · have hf := (if_pos hc).symm.trans hf
      refine lv_iconst (pc := 50) (v := 1) hx hb dX9_liveOf_50 ic_1 ?_
      refine lv_goto (pc := 51) (tgt := 55) hx hb dX9_liveOf_51 (by decide) ?_
      exact k_X9_liveOf_b55L29 C hA b m_latest m_cells m_wide m_houses m_bowls m_dogs m_gone m_sights m_drawn m_cell m_house m_settings m_bowl m_dog m_path m_steps m_line x1 x2 x3 x4 x5 x7 (1 : Int32) x6 r hf hK H locs ls hP hD hS (lv_sub hl [0, 1, 2, 3, 4, 5, 7] rfl)
theorem kl_X9_liveOf_L29 (C : Cx RX9 cX9_liveOf 8 D cA p s m args c) (hA : ∀ q, s.heap.size ≤ q → A q) (b : Nat → Nat) (m_latest : Int32) (m_cells : Int32) (m_wide : Int32) (m_houses : Int32) (m_bowls : Int32) (m_dogs : Int32) (m_gone : Int32) (m_sights : Int32) (m_drawn : Int32) (m_cell : Nat → Int32) (m_house : Nat → Int32) (m_settings : Nat → Int32) (m_bowl : Nat → Int32) (m_dog : Nat → Int32) (m_path : Nat → Int32) (m_steps : Nat → Int32) (m_line : Nat → Int32) (x1 : Int32) (x2 : Int32) (x3 : Int32) (x4 : Int32) (x5 : Int32) : ∀ (n : Nat) (q : Int32 × Int32) (z : (Int32)), loopF (fun q : Int32 × Int32 => f_X9_liveOf_L29 m_wide m_line x1 x5 q.1 q.2) n q = some z → (fun q : Int32 => At p l e rm_X9_liveOf s m args below meth c D A 0 0 Q 8 64 (wl_X9_liveOf cA b m_latest m_cells m_wide m_houses m_bowls m_dogs m_gone m_sights m_drawn m_cell m_house m_settings m_bowl m_dog m_path m_steps m_line) [(0, .ref (b 0)), (1, .int x1), (2, .int x2), (3, .int x3), (4, .int x4), (5, .int x5), (6, .int q)] []) z → At p l e rm_X9_liveOf s m args below meth c D A 0 0 Q 8 29 (wl_X9_liveOf cA b m_latest m_cells m_wide m_houses m_bowls m_dogs m_gone m_sights m_drawn m_cell m_house m_settings m_bowl m_dog m_path m_steps m_line) [(0, .ref (b 0)), (1, .int x1), (2, .int x2), (3, .int x3), (4, .int x4), (5, .int x5), (6, .int (q.1)), (7, .int (q.2))] [] :=
  loop_lem (WP := fun q : Int32 × Int32 => At p l e rm_X9_liveOf s m args below meth c D A 0 0 Q 8 29 (wl_X9_liveOf cA b m_latest m_cells m_wide m_houses m_bowls m_dogs m_gone m_sights m_drawn m_cell m_house m_settings m_bowl m_dog m_path m_steps m_line) [(0, .ref (b 0)), (1, .int x1), (2, .int x2), (3, .int x3), (4, .int x4), (5, .int x5), (6, .int (q.1)), (7, .int (q.2))] []) (WE := (fun q : Int32 => At p l e rm_X9_liveOf s m args below meth c D A 0 0 Q 8 64 (wl_X9_liveOf cA b m_latest m_cells m_wide m_houses m_bowls m_dogs m_gone m_sights m_drawn m_cell m_house m_settings m_bowl m_dog m_path m_steps m_line) [(0, .ref (b 0)), (1, .int x1), (2, .int x2), (3, .int x3), (4, .int x4), (5, .int x5), (6, .int q)] [])) (fun q r hf hK => k_X9_liveOf_L29 C hA b m_latest m_cells m_wide m_houses m_bowls m_dogs m_gone m_sights m_drawn m_cell m_house m_settings m_bowl m_dog m_path m_steps m_line x1 x2 x3 x4 x5 q.1 q.2 r hf hK)
def f_X9_liveOf_b111L14 (m_cells : Int32) (m_wide : Int32) (m_houses : Int32) (m_cell : Nat → Int32) (m_house : Nat → Int32) (m_line : Nat → Int32) (x1 : Int32) (x3 : Int32) (x5 : Int32) (s0 : Int32) : Option ((Int32 × Int32 × Int32) ⊕ (Int32 × Int32)) :=
  some (.inl (x3, s0, (x5 + 1)))
set_option maxHeartbeats 4000000 in
set_option maxRecDepth 100000 in
theorem k_X9_liveOf_b111L14 (C : Cx RX9 cX9_liveOf 8 D cA p s m args c) (hA : ∀ q, s.heap.size ≤ q → A q) (b : Nat → Nat) (m_latest : Int32) (m_cells : Int32) (m_wide : Int32) (m_houses : Int32) (m_bowls : Int32) (m_dogs : Int32) (m_gone : Int32) (m_sights : Int32) (m_drawn : Int32) (m_cell : Nat → Int32) (m_house : Nat → Int32) (m_settings : Nat → Int32) (m_bowl : Nat → Int32) (m_dog : Nat → Int32) (m_path : Nat → Int32) (m_steps : Nat → Int32) (m_line : Nat → Int32) (x1 : Int32) (x2 : Int32) (x3 : Int32) (x5 : Int32) (s0 : Int32) (r : (Int32 × Int32 × Int32) ⊕ (Int32 × Int32)) (hf : f_X9_liveOf_b111L14 m_cells m_wide m_houses m_cell m_house m_line x1 x3 x5 s0 = some r) (hK : Sum.elim (fun q : Int32 × Int32 × Int32 => At p l e rm_X9_liveOf s m args below meth c D A 0 0 Q 8 14 (wl_X9_liveOf cA b m_latest m_cells m_wide m_houses m_bowls m_dogs m_gone m_sights m_drawn m_cell m_house m_settings m_bowl m_dog m_path m_steps m_line) [(0, .ref (b 0)), (1, .int x1), (2, .int x2), (3, .int (q.1)), (4, .int (q.2.1)), (5, .int (q.2.2))] []) (fun q : Int32 × Int32 => At p l e rm_X9_liveOf s m args below meth c D A 0 0 Q 8 119 (wl_X9_liveOf cA b m_latest m_cells m_wide m_houses m_bowls m_dogs m_gone m_sights m_drawn m_cell m_house m_settings m_bowl m_dog m_path m_steps m_line) [(2, .int x2), (3, .int (q.1)), (4, .int (q.2))] []) r) : At p l e rm_X9_liveOf s m args below meth c D A 0 0 Q 8 111 (wl_X9_liveOf cA b m_latest m_cells m_wide m_houses m_bowls m_dogs m_gone m_sights m_drawn m_cell m_house m_settings m_bowl m_dog m_path m_steps m_line) [(0, .ref (b 0)), (1, .int x1), (2, .int x2), (3, .int x3), (5, .int x5)] [.int s0] := by
  intro H locs ls hP hD hS hl
  have hx := C.1
  have hb := C.2.1
  have hown := C.2.2.2.1
  have hts := C.2.2.2.2.1
  unfold f_X9_liveOf_b111L14 at hf
  refine lv_istore (pc := 111) (lv' := [(4, .int s0), (0, .ref (b 0)), (1, .int x1), (2, .int x2), (3, .int x3), (5, .int x5)]) hx hb dX9_liveOf_111 hl (Nat.le_of_ble_eq_true rfl) rfl (fun ls hl => ?_)
  refine lv_iinc (pc := 113) (v := (x5 + 1)) (lv' := [(5, .int (x5 + 1)), (4, .int s0), (0, .ref (b 0)), (1, .int x1), (2, .int x2), (3, .int x3)]) hx hb dX9_liveOf_113 hl (k := 5) rfl rfl (Nat.le_of_ble_eq_true rfl) rfl (fun ls hl => ?_)
  refine lv_goto (pc := 116) (tgt := 14) hx hb dX9_liveOf_116 (by decide) ?_
  have hf := Option.some.inj hf
  subst hf
  exact hK H locs ls hP hD hS (lv_sub hl [2, 3, 4, 5, 1, 0] rfl)
def f_X9_liveOf_b98L14 (m_cells : Int32) (m_wide : Int32) (m_houses : Int32) (m_cell : Nat → Int32) (m_house : Nat → Int32) (m_line : Nat → Int32) (x1 : Int32) (x4 : Int32) (x5 : Int32) (x6 : Int32) (x7 : Int32) (s0 : Int32) : Option ((Int32 × Int32 × Int32) ⊕ (Int32 × Int32)) :=
  if x7 = 0 then (f_X9_liveOf_b111L14 m_cells m_wide m_houses m_cell m_house m_line x1 s0 x5 x4) else (f_X9_liveOf_b111L14 m_cells m_wide m_houses m_cell m_house m_line x1 s0 x5 x6)
set_option maxHeartbeats 4000000 in
set_option maxRecDepth 100000 in
theorem k_X9_liveOf_b98L14 (C : Cx RX9 cX9_liveOf 8 D cA p s m args c) (hA : ∀ q, s.heap.size ≤ q → A q) (b : Nat → Nat) (m_latest : Int32) (m_cells : Int32) (m_wide : Int32) (m_houses : Int32) (m_bowls : Int32) (m_dogs : Int32) (m_gone : Int32) (m_sights : Int32) (m_drawn : Int32) (m_cell : Nat → Int32) (m_house : Nat → Int32) (m_settings : Nat → Int32) (m_bowl : Nat → Int32) (m_dog : Nat → Int32) (m_path : Nat → Int32) (m_steps : Nat → Int32) (m_line : Nat → Int32) (x1 : Int32) (x2 : Int32) (x4 : Int32) (x5 : Int32) (x6 : Int32) (x7 : Int32) (s0 : Int32) (r : (Int32 × Int32 × Int32) ⊕ (Int32 × Int32)) (hf : f_X9_liveOf_b98L14 m_cells m_wide m_houses m_cell m_house m_line x1 x4 x5 x6 x7 s0 = some r) (hK : Sum.elim (fun q : Int32 × Int32 × Int32 => At p l e rm_X9_liveOf s m args below meth c D A 0 0 Q 8 14 (wl_X9_liveOf cA b m_latest m_cells m_wide m_houses m_bowls m_dogs m_gone m_sights m_drawn m_cell m_house m_settings m_bowl m_dog m_path m_steps m_line) [(0, .ref (b 0)), (1, .int x1), (2, .int x2), (3, .int (q.1)), (4, .int (q.2.1)), (5, .int (q.2.2))] []) (fun q : Int32 × Int32 => At p l e rm_X9_liveOf s m args below meth c D A 0 0 Q 8 119 (wl_X9_liveOf cA b m_latest m_cells m_wide m_houses m_bowls m_dogs m_gone m_sights m_drawn m_cell m_house m_settings m_bowl m_dog m_path m_steps m_line) [(2, .int x2), (3, .int (q.1)), (4, .int (q.2))] []) r) : At p l e rm_X9_liveOf s m args below meth c D A 0 0 Q 8 98 (wl_X9_liveOf cA b m_latest m_cells m_wide m_houses m_bowls m_dogs m_gone m_sights m_drawn m_cell m_house m_settings m_bowl m_dog m_path m_steps m_line) [(0, .ref (b 0)), (1, .int x1), (2, .int x2), (4, .int x4), (5, .int x5), (6, .int x6), (7, .int x7)] [.int s0] := by
  intro H locs ls hP hD hS hl
  have hx := C.1
  have hb := C.2.1
  have hown := C.2.2.2.1
  have hts := C.2.2.2.2.1
  unfold f_X9_liveOf_b98L14 at hf
  refine lv_istore_n (pc := 98) (lv' := [(3, .int s0), (0, .ref (b 0)), (1, .int x1), (2, .int x2), (4, .int x4), (5, .int x5), (6, .int x6), (7, .int x7)]) hx hb dX9_liveOf_98 rfl hl (Nat.le_of_ble_eq_true rfl) rfl (fun ls hl => ?_)
  refine lv_iload (pc := 99) hx hb dX9_liveOf_99 (lv_at hl 7 rfl) ?_
  refine lv_if_eq (pc := 101) (tgt := 109) hx hb dX9_liveOf_101 (by decide) (fun hc => ?_) (fun hc => ?_)
  · have hf := (if_pos hc).symm.trans hf
    refine lv_iload (pc := 109) hx hb dX9_liveOf_109 (lv_at hl 4 rfl) ?_
    exact k_X9_liveOf_b111L14 C hA b m_latest m_cells m_wide m_houses m_bowls m_dogs m_gone m_sights m_drawn m_cell m_house m_settings m_bowl m_dog m_path m_steps m_line x1 x2 s0 x5 x4 r hf hK H locs ls hP hD hS (lv_sub hl [1, 2, 3, 0, 5] rfl)
  · have hf := (if_neg hc).symm.trans hf
    refine lv_iload (pc := 104) hx hb dX9_liveOf_104 (lv_at hl 6 rfl) ?_
    refine lv_goto (pc := 106) (tgt := 111) hx hb dX9_liveOf_106 (by decide) ?_
    exact k_X9_liveOf_b111L14 C hA b m_latest m_cells m_wide m_houses m_bowls m_dogs m_gone m_sights m_drawn m_cell m_house m_settings m_bowl m_dog m_path m_steps m_line x1 x2 s0 x5 x6 r hf hK H locs ls hP hD hS (lv_sub hl [1, 2, 3, 0, 5] rfl)
def f_X9_liveOf_b85L14 (m_cells : Int32) (m_wide : Int32) (m_houses : Int32) (m_cell : Nat → Int32) (m_house : Nat → Int32) (m_line : Nat → Int32) (x1 : Int32) (x3 : Int32) (x4 : Int32) (x5 : Int32) (x6 : Int32) (s0 : Int32) : Option ((Int32 × Int32 × Int32) ⊕ (Int32 × Int32)) :=
  if s0 = 0 then (f_X9_liveOf_b98L14 m_cells m_wide m_houses m_cell m_house m_line x1 x4 x5 x6 s0 x3) else (f_X9_liveOf_b98L14 m_cells m_wide m_houses m_cell m_house m_line x1 x4 x5 x6 s0 x5)
set_option maxHeartbeats 4000000 in
set_option maxRecDepth 100000 in
theorem k_X9_liveOf_b85L14 (C : Cx RX9 cX9_liveOf 8 D cA p s m args c) (hA : ∀ q, s.heap.size ≤ q → A q) (b : Nat → Nat) (m_latest : Int32) (m_cells : Int32) (m_wide : Int32) (m_houses : Int32) (m_bowls : Int32) (m_dogs : Int32) (m_gone : Int32) (m_sights : Int32) (m_drawn : Int32) (m_cell : Nat → Int32) (m_house : Nat → Int32) (m_settings : Nat → Int32) (m_bowl : Nat → Int32) (m_dog : Nat → Int32) (m_path : Nat → Int32) (m_steps : Nat → Int32) (m_line : Nat → Int32) (x1 : Int32) (x2 : Int32) (x3 : Int32) (x4 : Int32) (x5 : Int32) (x6 : Int32) (s0 : Int32) (r : (Int32 × Int32 × Int32) ⊕ (Int32 × Int32)) (hf : f_X9_liveOf_b85L14 m_cells m_wide m_houses m_cell m_house m_line x1 x3 x4 x5 x6 s0 = some r) (hK : Sum.elim (fun q : Int32 × Int32 × Int32 => At p l e rm_X9_liveOf s m args below meth c D A 0 0 Q 8 14 (wl_X9_liveOf cA b m_latest m_cells m_wide m_houses m_bowls m_dogs m_gone m_sights m_drawn m_cell m_house m_settings m_bowl m_dog m_path m_steps m_line) [(0, .ref (b 0)), (1, .int x1), (2, .int x2), (3, .int (q.1)), (4, .int (q.2.1)), (5, .int (q.2.2))] []) (fun q : Int32 × Int32 => At p l e rm_X9_liveOf s m args below meth c D A 0 0 Q 8 119 (wl_X9_liveOf cA b m_latest m_cells m_wide m_houses m_bowls m_dogs m_gone m_sights m_drawn m_cell m_house m_settings m_bowl m_dog m_path m_steps m_line) [(2, .int x2), (3, .int (q.1)), (4, .int (q.2))] []) r) : At p l e rm_X9_liveOf s m args below meth c D A 0 0 Q 8 85 (wl_X9_liveOf cA b m_latest m_cells m_wide m_houses m_bowls m_dogs m_gone m_sights m_drawn m_cell m_house m_settings m_bowl m_dog m_path m_steps m_line) [(0, .ref (b 0)), (1, .int x1), (2, .int x2), (3, .int x3), (4, .int x4), (5, .int x5), (6, .int x6)] [.int s0] := by
  intro H locs ls hP hD hS hl
  have hx := C.1
  have hb := C.2.1
  have hown := C.2.2.2.1
  have hts := C.2.2.2.2.1
  unfold f_X9_liveOf_b85L14 at hf
  refine lv_istore (pc := 85) (lv' := [(7, .int s0), (0, .ref (b 0)), (1, .int x1), (2, .int x2), (3, .int x3), (4, .int x4), (5, .int x5), (6, .int x6)]) hx hb dX9_liveOf_85 hl (Nat.le_of_ble_eq_true rfl) rfl (fun ls hl => ?_)
  refine lv_iload (pc := 87) hx hb dX9_liveOf_87 (lv_at hl 0 rfl) ?_
  refine lv_if_eq (pc := 89) (tgt := 97) hx hb dX9_liveOf_89 (by decide) (fun hc => ?_) (fun hc => ?_)
  · have hf := (if_pos hc).symm.trans hf
    refine lv_iload_n (pc := 97) hx hb dX9_liveOf_97 rfl (lv_at hl 4 rfl) ?_
    exact k_X9_liveOf_b98L14 C hA b m_latest m_cells m_wide m_houses m_bowls m_dogs m_gone m_sights m_drawn m_cell m_house m_settings m_bowl m_dog m_path m_steps m_line x1 x2 x4 x5 x6 s0 x3 r hf hK H locs ls hP hD hS (lv_sub hl [1, 2, 3, 5, 6, 7, 0] rfl)
  · have hf := (if_neg hc).symm.trans hf
    refine lv_iload (pc := 92) hx hb dX9_liveOf_92 (lv_at hl 6 rfl) ?_
    refine lv_goto (pc := 94) (tgt := 98) hx hb dX9_liveOf_94 (by decide) ?_
    exact k_X9_liveOf_b98L14 C hA b m_latest m_cells m_wide m_houses m_bowls m_dogs m_gone m_sights m_drawn m_cell m_house m_settings m_bowl m_dog m_path m_steps m_line x1 x2 x4 x5 x6 s0 x5 r hf hK H locs ls hP hD hS (lv_sub hl [1, 2, 3, 5, 6, 7, 0] rfl)
def f_X9_liveOf_b84L14 (m_cells : Int32) (m_wide : Int32) (m_houses : Int32) (m_cell : Nat → Int32) (m_house : Nat → Int32) (m_line : Nat → Int32) (x1 : Int32) (x3 : Int32) (x4 : Int32) (x5 : Int32) (x6 : Int32) : Option ((Int32 × Int32 × Int32) ⊕ (Int32 × Int32)) :=
  f_X9_liveOf_b85L14 m_cells m_wide m_houses m_cell m_house m_line x1 x3 x4 x5 x6 (0 : Int32)
set_option maxHeartbeats 4000000 in
set_option maxRecDepth 100000 in
theorem k_X9_liveOf_b84L14 (C : Cx RX9 cX9_liveOf 8 D cA p s m args c) (hA : ∀ q, s.heap.size ≤ q → A q) (b : Nat → Nat) (m_latest : Int32) (m_cells : Int32) (m_wide : Int32) (m_houses : Int32) (m_bowls : Int32) (m_dogs : Int32) (m_gone : Int32) (m_sights : Int32) (m_drawn : Int32) (m_cell : Nat → Int32) (m_house : Nat → Int32) (m_settings : Nat → Int32) (m_bowl : Nat → Int32) (m_dog : Nat → Int32) (m_path : Nat → Int32) (m_steps : Nat → Int32) (m_line : Nat → Int32) (x1 : Int32) (x2 : Int32) (x3 : Int32) (x4 : Int32) (x5 : Int32) (x6 : Int32) (r : (Int32 × Int32 × Int32) ⊕ (Int32 × Int32)) (hf : f_X9_liveOf_b84L14 m_cells m_wide m_houses m_cell m_house m_line x1 x3 x4 x5 x6 = some r) (hK : Sum.elim (fun q : Int32 × Int32 × Int32 => At p l e rm_X9_liveOf s m args below meth c D A 0 0 Q 8 14 (wl_X9_liveOf cA b m_latest m_cells m_wide m_houses m_bowls m_dogs m_gone m_sights m_drawn m_cell m_house m_settings m_bowl m_dog m_path m_steps m_line) [(0, .ref (b 0)), (1, .int x1), (2, .int x2), (3, .int (q.1)), (4, .int (q.2.1)), (5, .int (q.2.2))] []) (fun q : Int32 × Int32 => At p l e rm_X9_liveOf s m args below meth c D A 0 0 Q 8 119 (wl_X9_liveOf cA b m_latest m_cells m_wide m_houses m_bowls m_dogs m_gone m_sights m_drawn m_cell m_house m_settings m_bowl m_dog m_path m_steps m_line) [(2, .int x2), (3, .int (q.1)), (4, .int (q.2))] []) r) : At p l e rm_X9_liveOf s m args below meth c D A 0 0 Q 8 84 (wl_X9_liveOf cA b m_latest m_cells m_wide m_houses m_bowls m_dogs m_gone m_sights m_drawn m_cell m_house m_settings m_bowl m_dog m_path m_steps m_line) [(0, .ref (b 0)), (1, .int x1), (2, .int x2), (3, .int x3), (4, .int x4), (5, .int x5), (6, .int x6)] [] := by
  intro H locs ls hP hD hS hl
  have hx := C.1
  have hb := C.2.1
  have hown := C.2.2.2.1
  have hts := C.2.2.2.2.1
  unfold f_X9_liveOf_b84L14 at hf
  refine lv_iconst (pc := 84) (v := 0) hx hb dX9_liveOf_84 ic_0 ?_
  exact k_X9_liveOf_b85L14 C hA b m_latest m_cells m_wide m_houses m_bowls m_dogs m_gone m_sights m_drawn m_cell m_house m_settings m_bowl m_dog m_path m_steps m_line x1 x2 x3 x4 x5 x6 (0 : Int32) r hf hK H locs ls hP hD hS hl
def f_X9_liveOf_L14 (m_cells : Int32) (m_wide : Int32) (m_houses : Int32) (m_cell : Nat → Int32) (m_house : Nat → Int32) (m_line : Nat → Int32) (x1 : Int32) (x3 : Int32) (x4 : Int32) (x5 : Int32) : Option ((Int32 × Int32 × Int32) ⊕ (Int32 × Int32)) :=
  if m_cells ≤ x5 then (some (.inr (x3, x4))) else (bind1 (loopF (fun q : Int32 × Int32 => f_X9_liveOf_L29 m_wide m_line x1 x5 q.1 q.2) FU ((0 : Int32), (0 : Int32))) (fun u6 => bind1 (f_X9_isBuilt m_houses m_cell m_house x5) (fun r7 => if r7 = 0 then (if u6 ≤ x4 then (f_X9_liveOf_b84L14 m_cells m_wide m_houses m_cell m_house m_line x1 x3 x4 x5 u6) else (f_X9_liveOf_b85L14 m_cells m_wide m_houses m_cell m_house m_line x1 x3 x4 x5 u6 (1 : Int32))) else (f_X9_liveOf_b84L14 m_cells m_wide m_houses m_cell m_house m_line x1 x3 x4 x5 u6))))
set_option maxHeartbeats 4000000 in
set_option maxRecDepth 100000 in
theorem k_X9_liveOf_L14 (C : Cx RX9 cX9_liveOf 8 D cA p s m args c) (hA : ∀ q, s.heap.size ≤ q → A q) (b : Nat → Nat) (m_latest : Int32) (m_cells : Int32) (m_wide : Int32) (m_houses : Int32) (m_bowls : Int32) (m_dogs : Int32) (m_gone : Int32) (m_sights : Int32) (m_drawn : Int32) (m_cell : Nat → Int32) (m_house : Nat → Int32) (m_settings : Nat → Int32) (m_bowl : Nat → Int32) (m_dog : Nat → Int32) (m_path : Nat → Int32) (m_steps : Nat → Int32) (m_line : Nat → Int32) (x1 : Int32) (x2 : Int32) (x3 : Int32) (x4 : Int32) (x5 : Int32) (r : (Int32 × Int32 × Int32) ⊕ (Int32 × Int32)) (hf : f_X9_liveOf_L14 m_cells m_wide m_houses m_cell m_house m_line x1 x3 x4 x5 = some r) (hK : Sum.elim (fun q : Int32 × Int32 × Int32 => At p l e rm_X9_liveOf s m args below meth c D A 0 0 Q 8 14 (wl_X9_liveOf cA b m_latest m_cells m_wide m_houses m_bowls m_dogs m_gone m_sights m_drawn m_cell m_house m_settings m_bowl m_dog m_path m_steps m_line) [(0, .ref (b 0)), (1, .int x1), (2, .int x2), (3, .int (q.1)), (4, .int (q.2.1)), (5, .int (q.2.2))] []) (fun q : Int32 × Int32 => At p l e rm_X9_liveOf s m args below meth c D A 0 0 Q 8 119 (wl_X9_liveOf cA b m_latest m_cells m_wide m_houses m_bowls m_dogs m_gone m_sights m_drawn m_cell m_house m_settings m_bowl m_dog m_path m_steps m_line) [(2, .int x2), (3, .int (q.1)), (4, .int (q.2))] []) r) : At p l e rm_X9_liveOf s m args below meth c D A 0 0 Q 8 14 (wl_X9_liveOf cA b m_latest m_cells m_wide m_houses m_bowls m_dogs m_gone m_sights m_drawn m_cell m_house m_settings m_bowl m_dog m_path m_steps m_line) [(0, .ref (b 0)), (1, .int x1), (2, .int x2), (3, .int x3), (4, .int x4), (5, .int x5)] [] := by
  intro H locs ls hP hD hS hl
  have hx := C.1
  have hb := C.2.1
  have hown := C.2.2.2.1
  have hts := C.2.2.2.2.1
  unfold f_X9_liveOf_L14 at hf
  refine lv_iload (pc := 14) hx hb dX9_liveOf_14 (lv_at hl 5 rfl) ?_
  refine lv_aload_n (pc := 16) hx hb dX9_liveOf_16 rfl (lv_at hl 0 rfl) ?_
  refine g_get (pc := 17) C fg_X9_94 hP 0 rfl rfl dX9_liveOf_17 ?_
  refine lv_icmp_ge (pc := 20) (tgt := 119) hx hb dX9_liveOf_20 (by decide) (fun hc => ?_) (fun hc => ?_)
  · have hf := (if_pos hc).symm.trans hf
    have hf := Option.some.inj hf
    subst hf
    exact hK H locs ls hP hD hS (lv_sub hl [2, 3, 4] rfl)
  · have hf := (if_neg hc).symm.trans hf
    refine lv_iconst (pc := 23) (v := 0) hx hb dX9_liveOf_23 ic_0 ?_
    refine lv_istore (pc := 24) (lv' := [(6, .int (0 : Int32)), (0, .ref (b 0)), (1, .int x1), (2, .int x2), (3, .int x3), (4, .int x4), (5, .int x5)]) hx hb dX9_liveOf_24 hl (Nat.le_of_ble_eq_true rfl) rfl (fun ls hl => ?_)
    refine lv_iconst (pc := 26) (v := 0) hx hb dX9_liveOf_26 ic_0 ?_
    refine lv_istore (pc := 27) (lv' := [(7, .int (0 : Int32)), (6, .int (0 : Int32)), (0, .ref (b 0)), (1, .int x1), (2, .int x2), (3, .int x3), (4, .int x4), (5, .int x5)]) hx hb dX9_liveOf_27 hl (Nat.le_of_ble_eq_true rfl) rfl (fun ls hl => ?_)
    obtain ⟨u6, hq, hf⟩ := bind1_some hf
    refine kl_X9_liveOf_L29 C hA b m_latest m_cells m_wide m_houses m_bowls m_dogs m_gone m_sights m_drawn m_cell m_house m_settings m_bowl m_dog m_path m_steps m_line x1 x2 x3 x4 x5 FU ((0 : Int32), (0 : Int32)) _ hq ?_ H locs ls hP hD hS (lv_sub hl [2, 3, 4, 5, 6, 7, 1, 0] rfl)
    intro H locs ls hP hD hS hl
    have hP : va_P D classes (wl_X9_liveOf cA b m_latest m_cells m_wide m_houses m_bowls m_dogs m_gone m_sights m_drawn m_cell m_house m_settings m_bowl m_dog m_path m_steps m_line) H := hP
    have hD : va_D A (wl_X9_liveOf cA b m_latest m_cells m_wide m_houses m_bowls m_dogs m_gone m_sights m_drawn m_cell m_house m_settings m_bowl m_dog m_path m_steps m_line) := hD
    have hl : lv_has ls 8 [(0, .ref (b 0)), (1, .int x1), (2, .int x2), (3, .int x3), (4, .int x4), (5, .int x5), (6, .int u6)] := hl
    refine lv_aload_n (pc := 64) hx hb dX9_liveOf_64 rfl (lv_at hl 0 rfl) ?_
    refine lv_iload (pc := 65) hx hb dX9_liveOf_65 (lv_at hl 5 rfl) ?_
    obtain ⟨r7, hq, hf⟩ := bind1_some hf
    refine fin2_i (wl_X9_liveOf cA b m_latest m_cells m_wide m_houses m_bowls m_dogs m_gone m_sights m_drawn m_cell m_house m_settings m_bowl m_dog m_path m_steps m_line) (run_V (rest := []) (pc := 67) (As := [.int x5]) C mf_X9_222 (c_X9_isBuilt l D cA b m_latest m_cells m_wide m_houses m_bowls m_dogs m_gone m_sights m_drawn m_cell m_house x5 r7 hq H.size) rfl rfl ⟨(Nat.le_of_ble_eq_true rfl), (Nat.le_of_ble_eq_true rfl)⟩ (preV_of C hP hD [0, 1, 2] rfl (pl_nd pv_153) 0 rfl rfl rfl) rfl hl.1 rfl (Nat.le_of_ble_eq_true rfl) dX9_liveOf_67 ⟨Nat.zero_le _, Nat.zero_le _⟩) hP hD hS hA [0, 1, 2] [3, 4, 5, 6, 7, 8] rfl rfl rfl rfl pv_153 (fun H locs hP hS => ?_)
    refine lv_if_ne (pc := 70) (tgt := 84) hx hb dX9_liveOf_70 (by decide) (fun hc => ?_) (fun hc => ?_)
    · have hf := (if_neg hc).symm.trans hf
      exact k_X9_liveOf_b84L14 C hA b m_latest m_cells m_wide m_houses m_bowls m_dogs m_gone m_sights m_drawn m_cell m_house m_settings m_bowl m_dog m_path m_steps m_line x1 x2 x3 x4 x5 u6 r hf hK H locs ls hP hD hS hl
    · have hf := (if_pos hc).symm.trans hf
      refine lv_iload (pc := 73) hx hb dX9_liveOf_73 (lv_at hl 6 rfl) ?_
      refine lv_iload (pc := 75) hx hb dX9_liveOf_75 (lv_at hl 4 rfl) ?_
      refine lv_icmp_le (pc := 77) (tgt := 84) hx hb dX9_liveOf_77 (by decide) (fun hc => ?_) (fun hc => ?_)
      · have hf := (if_pos hc).symm.trans hf
        exact k_X9_liveOf_b84L14 C hA b m_latest m_cells m_wide m_houses m_bowls m_dogs m_gone m_sights m_drawn m_cell m_house m_settings m_bowl m_dog m_path m_steps m_line x1 x2 x3 x4 x5 u6 r hf hK H locs ls hP hD hS hl
      · have hf := (if_neg hc).symm.trans hf
        refine lv_iconst (pc := 80) (v := 1) hx hb dX9_liveOf_80 ic_1 ?_
        refine lv_goto (pc := 81) (tgt := 85) hx hb dX9_liveOf_81 (by decide) ?_
        exact k_X9_liveOf_b85L14 C hA b m_latest m_cells m_wide m_houses m_bowls m_dogs m_gone m_sights m_drawn m_cell m_house m_settings m_bowl m_dog m_path m_steps m_line x1 x2 x3 x4 x5 u6 (1 : Int32) r hf hK H locs ls hP hD hS hl
theorem kl_X9_liveOf_L14 (C : Cx RX9 cX9_liveOf 8 D cA p s m args c) (hA : ∀ q, s.heap.size ≤ q → A q) (b : Nat → Nat) (m_latest : Int32) (m_cells : Int32) (m_wide : Int32) (m_houses : Int32) (m_bowls : Int32) (m_dogs : Int32) (m_gone : Int32) (m_sights : Int32) (m_drawn : Int32) (m_cell : Nat → Int32) (m_house : Nat → Int32) (m_settings : Nat → Int32) (m_bowl : Nat → Int32) (m_dog : Nat → Int32) (m_path : Nat → Int32) (m_steps : Nat → Int32) (m_line : Nat → Int32) (x1 : Int32) (x2 : Int32) : ∀ (n : Nat) (q : Int32 × Int32 × Int32) (z : (Int32 × Int32)), loopF (fun q : Int32 × Int32 × Int32 => f_X9_liveOf_L14 m_cells m_wide m_houses m_cell m_house m_line x1 q.1 q.2.1 q.2.2) n q = some z → (fun q : Int32 × Int32 => At p l e rm_X9_liveOf s m args below meth c D A 0 0 Q 8 119 (wl_X9_liveOf cA b m_latest m_cells m_wide m_houses m_bowls m_dogs m_gone m_sights m_drawn m_cell m_house m_settings m_bowl m_dog m_path m_steps m_line) [(2, .int x2), (3, .int (q.1)), (4, .int (q.2))] []) z → At p l e rm_X9_liveOf s m args below meth c D A 0 0 Q 8 14 (wl_X9_liveOf cA b m_latest m_cells m_wide m_houses m_bowls m_dogs m_gone m_sights m_drawn m_cell m_house m_settings m_bowl m_dog m_path m_steps m_line) [(0, .ref (b 0)), (1, .int x1), (2, .int x2), (3, .int (q.1)), (4, .int (q.2.1)), (5, .int (q.2.2))] [] :=
  loop_lem (WP := fun q : Int32 × Int32 × Int32 => At p l e rm_X9_liveOf s m args below meth c D A 0 0 Q 8 14 (wl_X9_liveOf cA b m_latest m_cells m_wide m_houses m_bowls m_dogs m_gone m_sights m_drawn m_cell m_house m_settings m_bowl m_dog m_path m_steps m_line) [(0, .ref (b 0)), (1, .int x1), (2, .int x2), (3, .int (q.1)), (4, .int (q.2.1)), (5, .int (q.2.2))] []) (WE := (fun q : Int32 × Int32 => At p l e rm_X9_liveOf s m args below meth c D A 0 0 Q 8 119 (wl_X9_liveOf cA b m_latest m_cells m_wide m_houses m_bowls m_dogs m_gone m_sights m_drawn m_cell m_house m_settings m_bowl m_dog m_path m_steps m_line) [(2, .int x2), (3, .int (q.1)), (4, .int (q.2))] [])) (fun q r hf hK => k_X9_liveOf_L14 C hA b m_latest m_cells m_wide m_houses m_bowls m_dogs m_gone m_sights m_drawn m_cell m_house m_settings m_bowl m_dog m_path m_steps m_line x1 x2 q.1 q.2.1 q.2.2 r hf hK)
def f_X9_liveOf (m_cells : Int32) (m_wide : Int32) (m_houses : Int32) (m_bowls : Int32) (m_dogs : Int32) (m_gone : Int32) (m_cell : Nat → Int32) (m_house : Nat → Int32) (m_settings : Nat → Int32) (m_bowl : Nat → Int32) (m_dog : Nat → Int32) (m_path : Nat → Int32) (m_steps : Nat → Int32) (m_line : Nat → Int32) (x1 : Int32) (x2 : Int32) : Option (Int32 × (Nat → Int32) × (Nat → Int32) × (Nat → Int32)) :=
  bind3 (f_X9_lives m_cells m_wide m_bowls m_dogs m_gone m_cell m_settings m_bowl m_dog m_path m_steps m_line (9 : Int32)) (fun c1 c2 c3 => bind2 (loopF (fun q : Int32 × Int32 × Int32 => f_X9_liveOf_L14 m_cells m_wide m_houses m_cell m_house c3 x1 q.1 q.2.1 q.2.2) FU ((-1 : Int32), (-1 : Int32), (0 : Int32))) (fun u8 u9 => if x2 = 0 then (some (u8, c1, c2, c3)) else (some (u9, c1, c2, c3))))
set_option maxHeartbeats 4000000 in
set_option maxRecDepth 100000 in
theorem k_X9_liveOf (C : Cx RX9 cX9_liveOf 8 D cA p s m args c) (hr : meth.sig.returnType = (some .int)) (hlk : meth.locks = false) (hA : ∀ q, s.heap.size ≤ q → va_A ws0 sz q) (b : Nat → Nat) (m_latest : Int32) (m_cells : Int32) (m_wide : Int32) (m_houses : Int32) (m_bowls : Int32) (m_dogs : Int32) (m_gone : Int32) (m_sights : Int32) (m_drawn : Int32) (m_cell : Nat → Int32) (m_house : Nat → Int32) (m_settings : Nat → Int32) (m_bowl : Nat → Int32) (m_dog : Nat → Int32) (m_path : Nat → Int32) (m_steps : Nat → Int32) (m_line : Nat → Int32) (x1 : Int32) (x2 : Int32) (r : Int32 × (Nat → Int32) × (Nat → Int32) × (Nat → Int32)) (hf : f_X9_liveOf m_cells m_wide m_houses m_bowls m_dogs m_gone m_cell m_house m_settings m_bowl m_dog m_path m_steps m_line x1 x2 = some r) : At p l e rm_X9_liveOf s m args below meth c D (va_A ws0 sz) 0 0 (MQ below (PostI D r.1 ws0 (wl_X9_liveOf cA b m_latest m_cells m_wide m_houses m_bowls m_dogs m_gone m_sights m_drawn m_cell m_house m_settings m_bowl m_dog (r.2.1) (r.2.2.1) (r.2.2.2)) sz) args s 0 0 (va_A ws0 sz)) 8 0 (wl_X9_liveOf cA b m_latest m_cells m_wide m_houses m_bowls m_dogs m_gone m_sights m_drawn m_cell m_house m_settings m_bowl m_dog m_path m_steps m_line) [(0, .ref (b 0)), (1, .int x1), (2, .int x2)] [] := by
  intro H locs ls hP hD hS hl
  have hx := C.1
  have hb := C.2.1
  have hown := C.2.2.2.1
  have hts := C.2.2.2.2.1
  unfold f_X9_liveOf at hf
  refine lv_aload_n (pc := 0) hx hb dX9_liveOf_0 rfl (lv_at hl 0 rfl) ?_
  refine lv_bipush (pc := 1) (v := 9) hx hb dX9_liveOf_1 bp_9 ?_
  obtain ⟨c1, c2, c3, hq, hf⟩ := bind3_some hf
  refine fin2_v (wl_X9_liveOf cA b m_latest m_cells m_wide m_houses m_bowls m_dogs m_gone m_sights m_drawn m_cell m_house m_settings m_bowl m_dog c1 c2 c3) (run_V (rest := []) (pc := 3) (As := [.int (9 : Int32)]) C mf_X9_178 (c_X9_lives l D cA b m_latest m_cells m_wide m_houses m_bowls m_dogs m_gone m_sights m_drawn m_cell m_settings m_bowl m_dog m_path m_steps m_line (9 : Int32) (c1, c2, c3) hq H.size) rfl rfl ⟨(Nat.le_of_ble_eq_true rfl), (Nat.le_of_ble_eq_true rfl)⟩ (preV_of C hP hD [0, 1, 3, 4, 5, 6, 7, 8] rfl (pl_nd pv_147) 0 rfl rfl rfl) rfl hl.1 rfl (Nat.le_of_ble_eq_true rfl) dX9_liveOf_3 ⟨Nat.zero_le _, Nat.zero_le _⟩) hP hD hS hA [0, 1, 3, 4, 5, 6, 7, 8] [2] rfl rfl rfl rfl pv_147 (fun H locs hP hS => ?_)
  have hD : va_D (va_A ws0 sz) (wl_X9_liveOf cA b m_latest m_cells m_wide m_houses m_bowls m_dogs m_gone m_sights m_drawn m_cell m_house m_settings m_bowl m_dog c1 c2 c3) := vd_a hD rfl
  refine lv_iconst (pc := 6) (v := (-1)) hx hb dX9_liveOf_6 ic_m1 ?_
  refine lv_istore_n (pc := 7) (lv' := [(3, .int (-1 : Int32)), (0, .ref (b 0)), (1, .int x1), (2, .int x2)]) hx hb dX9_liveOf_7 rfl hl (Nat.le_of_ble_eq_true rfl) rfl (fun ls hl => ?_)
  refine lv_iconst (pc := 8) (v := (-1)) hx hb dX9_liveOf_8 ic_m1 ?_
  refine lv_istore (pc := 9) (lv' := [(4, .int (-1 : Int32)), (3, .int (-1 : Int32)), (0, .ref (b 0)), (1, .int x1), (2, .int x2)]) hx hb dX9_liveOf_9 hl (Nat.le_of_ble_eq_true rfl) rfl (fun ls hl => ?_)
  refine lv_iconst (pc := 11) (v := 0) hx hb dX9_liveOf_11 ic_0 ?_
  refine lv_istore (pc := 12) (lv' := [(5, .int (0 : Int32)), (4, .int (-1 : Int32)), (3, .int (-1 : Int32)), (0, .ref (b 0)), (1, .int x1), (2, .int x2)]) hx hb dX9_liveOf_12 hl (Nat.le_of_ble_eq_true rfl) rfl (fun ls hl => ?_)
  obtain ⟨u8, u9, hq, hf⟩ := bind2_some hf
  refine kl_X9_liveOf_L14 C hA b m_latest m_cells m_wide m_houses m_bowls m_dogs m_gone m_sights m_drawn m_cell m_house m_settings m_bowl m_dog c1 c2 c3 x1 x2 FU ((-1 : Int32), (-1 : Int32), (0 : Int32)) _ hq ?_ H locs ls hP hD hS (lv_sub hl [3, 4, 5, 2, 1, 0] rfl)
  intro H locs ls hP hD hS hl
  have hP : va_P D classes (wl_X9_liveOf cA b m_latest m_cells m_wide m_houses m_bowls m_dogs m_gone m_sights m_drawn m_cell m_house m_settings m_bowl m_dog c1 c2 c3) H := hP
  have hD : va_D (va_A ws0 sz) (wl_X9_liveOf cA b m_latest m_cells m_wide m_houses m_bowls m_dogs m_gone m_sights m_drawn m_cell m_house m_settings m_bowl m_dog c1 c2 c3) := hD
  have hl : lv_has ls 8 [(2, .int x2), (3, .int u8), (4, .int u9)] := hl
  refine lv_iload_n (pc := 119) hx hb dX9_liveOf_119 rfl (lv_at hl 0 rfl) ?_
  refine lv_if_ne (pc := 120) (tgt := 127) hx hb dX9_liveOf_120 (by decide) (fun hc => ?_) (fun hc => ?_)
  · have hf := (if_neg hc).symm.trans hf
    refine lv_iload (pc := 127) hx hb dX9_liveOf_127 (lv_at hl 2 rfl) ?_
    have hf := Option.some.inj hf
    subst hf
    exact ret_i C hr hlk hP hS dX9_liveOf_129
  · have hf := (if_pos hc).symm.trans hf
    refine lv_iload_n (pc := 123) hx hb dX9_liveOf_123 rfl (lv_at hl 1 rfl) ?_
    refine lv_goto (pc := 124) (tgt := 129) hx hb dX9_liveOf_124 (by decide) ?_
    have hf := Option.some.inj hf
    subst hf
    exact ret_i C hr hlk hP hS dX9_liveOf_129
set_option maxRecDepth 100000 in
theorem c_X9_liveOf (l : Launch) (D : va_G) (cA : Nat → ClassId) (b : Nat → Nat) (m_latest : Int32) (m_cells : Int32) (m_wide : Int32) (m_houses : Int32) (m_bowls : Int32) (m_dogs : Int32) (m_gone : Int32) (m_sights : Int32) (m_drawn : Int32) (m_cell : Nat → Int32) (m_house : Nat → Int32) (m_settings : Nat → Int32) (m_bowl : Nat → Int32) (m_dog : Nat → Int32) (m_path : Nat → Int32) (m_steps : Nat → Int32) (m_line : Nat → Int32) (x1 : Int32) (x2 : Int32) (r : Int32 × (Nat → Int32) × (Nat → Int32) × (Nat → Int32)) (hf : f_X9_liveOf m_cells m_wide m_houses m_bowls m_dogs m_gone m_cell m_house m_settings m_bowl m_dog m_path m_steps m_line x1 x2 = some r) (sz : Nat) : Met l yX9_liveOf (Cond.code yX9_liveOf cX9_liveOf 8 (some .int) :: lw_good) rm_X9_liveOf (PreX D cA [.ref (b 0), .int x1, .int x2] sz (wl_X9_liveOf cA b m_latest m_cells m_wide m_houses m_bowls m_dogs m_gone m_sights m_drawn m_cell m_house m_settings m_bowl m_dog m_path m_steps m_line)) (PostI D r.1 (wl_X9_liveOf cA b m_latest m_cells m_wide m_houses m_bowls m_dogs m_gone m_sights m_drawn m_cell m_house m_settings m_bowl m_dog m_path m_steps m_line) (wl_X9_liveOf cA b m_latest m_cells m_wide m_houses m_bowls m_dogs m_gone m_sights m_drawn m_cell m_house m_settings m_bowl m_dog (r.2.1) (r.2.2.1) (r.2.2.2)) sz) 0 0 (va_A (wl_X9_liveOf cA b m_latest m_cells m_wide m_houses m_bowls m_dogs m_gone m_sights m_drawn m_cell m_house m_settings m_bowl m_dog m_path m_steps m_line) sz) :=
  met_of (by decide) (Nat.le_of_ble_eq_true rfl) (fun p e s m args below meth c C hr hlk hA => k_X9_liveOf C hr hlk hA b m_latest m_cells m_wide m_houses m_bowls m_dogs m_gone m_sights m_drawn m_cell m_house m_settings m_bowl m_dog m_path m_steps m_line x1 x2 r hf)
end

abbrev wl_X9_live (cA : Nat → ClassId) (b : Nat → Nat) (m_latest : Int32) (m_cells : Int32) (m_wide : Int32) (m_houses : Int32) (m_bowls : Int32) (m_dogs : Int32) (m_gone : Int32) (m_sights : Int32) (m_drawn : Int32) (m_bytes : Nat → Int32) (m_typed : Nat → Int32) (m_cell : Nat → Int32) (m_house : Nat → Int32) (m_settings : Nat → Int32) (m_bowl : Nat → Int32) (m_dog : Nat → Int32) (m_path : Nat → Int32) (m_steps : Nat → Int32) (m_line : Nat → Int32) : va_W := [((b 0), .inr (9, [.ref (b 1), .ref (b 2), .ref (b 3), .ref (b 4), .int m_latest, .ref (b 5), .ref (b 6), .int m_cells, .int m_wide, .ref (b 7), .int m_houses, .ref (b 8), .ref (b 9), .int m_bowls, .ref (b 10), .int m_dogs, .ref (b 11), .int m_gone, .ref (b 12), .ref (b 13), .ref (b 14), .int m_sights, .ref (b 15), .ref (b 16), .int m_drawn])), ((b 5), .inl (cA 0, 84, .inl m_bytes)), ((b 6), .inl (cA 0, 2, .inl m_typed)), ((b 7), .inl (cA 0, 36, .inl m_cell)), ((b 8), .inl (cA 0, 16, .inl m_house)), ((b 9), .inl (cA 0, 2, .inl m_settings)), ((b 10), .inl (cA 0, 20, .inl m_bowl)), ((b 11), .inl (cA 0, 16, .inl m_dog)), ((b 12), .inl (cA 0, 250, .inl m_path)), ((b 13), .inl (cA 0, 10, .inl m_steps)), ((b 14), .inl (cA 0, 60, .inl m_line))]
abbrev rm_X9_live : Room := { frames := 6, cells := 0, slots := 0, locals := 154 }
section
variable {p : Program} {l : Launch} {e : Env} {s : State} {m : MethodId} {args : Array Value} {below : List Frame} {meth : Method} {c : Code} {D : va_G} {cA : Nat → ClassId} {ws0 : va_W} {sz : Nat} {A : Nat → Prop} {Q : State → Prop}
def f_X9_live (m_cells : Int32) (m_wide : Int32) (m_houses : Int32) (m_bowls : Int32) (m_dogs : Int32) (m_gone : Int32) (m_bytes : Nat → Int32) (m_typed : Nat → Int32) (m_cell : Nat → Int32) (m_house : Nat → Int32) (m_settings : Nat → Int32) (m_bowl : Nat → Int32) (m_dog : Nat → Int32) (m_path : Nat → Int32) (m_steps : Nat → Int32) (m_line : Nat → Int32) (x1 : Int32) (x2 : Int32) : Option (Int32 × Int32 × Int32 × Int32 × (Nat → Int32) × (Nat → Int32) × (Nat → Int32) × (Nat → Int32) × (Nat → Int32)) :=
  bind8 (f_X9_find m_cells m_wide m_houses m_bowls m_dogs m_gone m_bytes m_typed m_cell m_house m_settings m_bowl m_dog m_path m_steps m_line) (fun c1 c2 c3 c4 c5 c6 c7 c8 => bind1 (f_X9_in (x1.toInt64) (0 : Int64) (2 : Int64)) (fun r9 => if r9 = 0 then (some ((-2 : Int32), c1, c2, c3, c4, c5, c6, c7, c8)) else (bind1 (f_X9_isTwo x2) (fun r10 => if r10 = 0 then (some ((-2 : Int32), c1, c2, c3, c4, c5, c6, c7, c8)) else (bind4 (f_X9_liveOf c1 c2 c3 m_bowls m_dogs m_gone c4 c5 m_settings m_bowl m_dog c6 c7 c8 x1 x2) (fun r11 c12 c13 c14 => some (r11, c1, c2, c3, c4, c5, c12, c13, c14)))))))
set_option maxHeartbeats 4000000 in
set_option maxRecDepth 100000 in
theorem k_X9_live (C : Cx RX9 cX9_live 3 D cA p s m args c) (hr : meth.sig.returnType = (some .int)) (hlk : meth.locks = false) (hA : ∀ q, s.heap.size ≤ q → va_A ws0 sz q) (b : Nat → Nat) (m_latest : Int32) (m_cells : Int32) (m_wide : Int32) (m_houses : Int32) (m_bowls : Int32) (m_dogs : Int32) (m_gone : Int32) (m_sights : Int32) (m_drawn : Int32) (m_bytes : Nat → Int32) (m_typed : Nat → Int32) (m_cell : Nat → Int32) (m_house : Nat → Int32) (m_settings : Nat → Int32) (m_bowl : Nat → Int32) (m_dog : Nat → Int32) (m_path : Nat → Int32) (m_steps : Nat → Int32) (m_line : Nat → Int32) (x1 : Int32) (x2 : Int32) (r : Int32 × Int32 × Int32 × Int32 × (Nat → Int32) × (Nat → Int32) × (Nat → Int32) × (Nat → Int32) × (Nat → Int32)) (hf : f_X9_live m_cells m_wide m_houses m_bowls m_dogs m_gone m_bytes m_typed m_cell m_house m_settings m_bowl m_dog m_path m_steps m_line x1 x2 = some r) : At p l e rm_X9_live s m args below meth c D (va_A ws0 sz) 0 0 (MQ below (PostI D r.1 ws0 (wl_X9_live cA b m_latest (r.2.1) (r.2.2.1) (r.2.2.2.1) m_bowls m_dogs m_gone m_sights m_drawn m_bytes m_typed (r.2.2.2.2.1) (r.2.2.2.2.2.1) m_settings m_bowl m_dog (r.2.2.2.2.2.2.1) (r.2.2.2.2.2.2.2.1) (r.2.2.2.2.2.2.2.2)) sz) args s 0 0 (va_A ws0 sz)) 3 0 (wl_X9_live cA b m_latest m_cells m_wide m_houses m_bowls m_dogs m_gone m_sights m_drawn m_bytes m_typed m_cell m_house m_settings m_bowl m_dog m_path m_steps m_line) [(0, .ref (b 0)), (1, .int x1), (2, .int x2)] [] := by
  intro H locs ls hP hD hS hl
  have hx := C.1
  have hb := C.2.1
  have hown := C.2.2.2.1
  have hts := C.2.2.2.2.1
  unfold f_X9_live at hf
  refine lv_aload_n (pc := 0) hx hb dX9_live_0 rfl (lv_at hl 0 rfl) ?_
  obtain ⟨c1, c2, c3, c4, c5, c6, c7, c8, hq, hf⟩ := bind8_some hf
  refine fin2_v (wl_X9_live cA b m_latest c1 c2 c3 m_bowls m_dogs m_gone m_sights m_drawn m_bytes m_typed c4 c5 m_settings m_bowl m_dog c6 c7 c8) (run_V (rest := []) (pc := 1) (As := []) C mf_X9_184 (c_X9_find l D cA b m_latest m_cells m_wide m_houses m_bowls m_dogs m_gone m_sights m_drawn m_bytes m_typed m_cell m_house m_settings m_bowl m_dog m_path m_steps m_line (c1, c2, c3, c4, c5, c6, c7, c8) hq H.size) rfl rfl ⟨(Nat.le_of_ble_eq_true rfl), (Nat.le_of_ble_eq_true rfl)⟩ (preV_of C hP hD [0, 1, 2, 3, 4, 5, 6, 7, 8, 9, 10] rfl (pl_nd pv_138) 0 rfl rfl rfl) rfl hl.1 rfl (Nat.le_of_ble_eq_true rfl) dX9_live_1 ⟨Nat.zero_le _, Nat.zero_le _⟩) hP hD hS hA [0, 1, 2, 3, 4, 5, 6, 7, 8, 9, 10] [] rfl rfl rfl rfl pv_138 (fun H locs hP hS => ?_)
  have hD : va_D (va_A ws0 sz) (wl_X9_live cA b m_latest c1 c2 c3 m_bowls m_dogs m_gone m_sights m_drawn m_bytes m_typed c4 c5 m_settings m_bowl m_dog c6 c7 c8) := vd_a hD rfl
  refine lv_iload_n (pc := 4) hx hb dX9_live_4 rfl (lv_at hl 1 rfl) ?_
  refine lv_i2l (pc := 5) hx hb dX9_live_5 rfl ?_
  refine lv_lconst (pc := 6) (v := 0) hx hb dX9_live_6 rfl ?_
  refine lv_ldc2 (pc := 7) hx hb hown (hts _ (lg_in mw_465 rfl)) dX9_live_7 ?_
  obtain ⟨r9, hq, hf⟩ := bind1_some hf
  refine fin2_i (wl_X9_live cA b m_latest c1 c2 c3 m_bowls m_dogs m_gone m_sights m_drawn m_bytes m_typed c4 c5 m_settings m_bowl m_dog c6 c7 c8) (run_S (rest := []) (pc := 10) (As := [.long (x1.toInt64), .long (0 : Int64), .long (2 : Int64)]) C mf_X9_60 (c_X9_in l D cA  (x1.toInt64) (0 : Int64) (2 : Int64) r9 hq H.size) rfl rfl ⟨(Nat.le_of_ble_eq_true rfl), (Nat.le_of_ble_eq_true rfl)⟩ (preS_of C hP hD [] rfl (pl_nd pv_139)) rfl hl.1 rfl (Nat.le_of_ble_eq_true rfl) dX9_live_10 ⟨Nat.zero_le _, Nat.zero_le _⟩) hP hD hS hA [] [0, 1, 2, 3, 4, 5, 6, 7, 8, 9, 10] rfl rfl rfl rfl pv_139 (fun H locs hP hS => ?_)
  refine lv_if_eq (pc := 13) (tgt := 32) hx hb dX9_live_13 (by decide) (fun hc => ?_) (fun hc => ?_)
  · have hf := (if_pos hc).symm.trans hf
    refine lv_bipush (pc := 32) (v := (-2)) hx hb dX9_live_32 bp_m2 ?_
    have hf := Option.some.inj hf
    subst hf
    exact ret_i C hr hlk hP hS dX9_live_34
  · have hf := (if_neg hc).symm.trans hf
    refine lv_iload_n (pc := 16) hx hb dX9_live_16 rfl (lv_at hl 2 rfl) ?_
    obtain ⟨r10, hq, hf⟩ := bind1_some hf
    refine fin2_i (wl_X9_live cA b m_latest c1 c2 c3 m_bowls m_dogs m_gone m_sights m_drawn m_bytes m_typed c4 c5 m_settings m_bowl m_dog c6 c7 c8) (run_S (rest := []) (pc := 17) (As := [.int x2]) C mf_X9_89 (c_X9_isTwo l D cA  x2 r10 hq H.size) rfl rfl ⟨(Nat.le_of_ble_eq_true rfl), (Nat.le_of_ble_eq_true rfl)⟩ (preS_of C hP hD [] rfl (pl_nd pv_139)) rfl hl.1 rfl (Nat.le_of_ble_eq_true rfl) dX9_live_17 ⟨Nat.zero_le _, Nat.zero_le _⟩) hP hD hS hA [] [0, 1, 2, 3, 4, 5, 6, 7, 8, 9, 10] rfl rfl rfl rfl pv_139 (fun H locs hP hS => ?_)
    refine lv_if_eq (pc := 20) (tgt := 32) hx hb dX9_live_20 (by decide) (fun hc => ?_) (fun hc => ?_)
    · have hf := (if_pos hc).symm.trans hf
      refine lv_bipush (pc := 32) (v := (-2)) hx hb dX9_live_32 bp_m2 ?_
      have hf := Option.some.inj hf
      subst hf
      exact ret_i C hr hlk hP hS dX9_live_34
    · have hf := (if_neg hc).symm.trans hf
      refine lv_aload_n (pc := 23) hx hb dX9_live_23 rfl (lv_at hl 0 rfl) ?_
      refine lv_iload_n (pc := 24) hx hb dX9_live_24 rfl (lv_at hl 1 rfl) ?_
      refine lv_iload_n (pc := 25) hx hb dX9_live_25 rfl (lv_at hl 2 rfl) ?_
      obtain ⟨r11, c12, c13, c14, hq, hf⟩ := bind4_some hf
      refine fin2_i (wl_X9_live cA b m_latest c1 c2 c3 m_bowls m_dogs m_gone m_sights m_drawn m_bytes m_typed c4 c5 m_settings m_bowl m_dog c12 c13 c14) (run_V (rest := []) (pc := 26) (As := [.int x1, .int x2]) C mf_X9_225 (c_X9_liveOf l D cA b m_latest c1 c2 c3 m_bowls m_dogs m_gone m_sights m_drawn c4 c5 m_settings m_bowl m_dog c6 c7 c8 x1 x2 (r11, c12, c13, c14) hq H.size) rfl rfl ⟨(Nat.le_of_ble_eq_true rfl), (Nat.le_of_ble_eq_true rfl)⟩ (preV_of C hP hD [0, 3, 4, 5, 6, 7, 8, 9, 10] rfl (pl_nd pv_151) 0 rfl rfl rfl) rfl hl.1 rfl (Nat.le_of_ble_eq_true rfl) dX9_live_26 ⟨Nat.zero_le _, Nat.zero_le _⟩) hP hD hS hA [0, 3, 4, 5, 6, 7, 8, 9, 10] [1, 2] rfl rfl rfl rfl pv_151 (fun H locs hP hS => ?_)
      have hD : va_D (va_A ws0 sz) (wl_X9_live cA b m_latest c1 c2 c3 m_bowls m_dogs m_gone m_sights m_drawn m_bytes m_typed c4 c5 m_settings m_bowl m_dog c12 c13 c14) := vd_a hD rfl
      refine lv_goto (pc := 29) (tgt := 34) hx hb dX9_live_29 (by decide) ?_
      have hf := Option.some.inj hf
      subst hf
      exact ret_i C hr hlk hP hS dX9_live_34
set_option maxRecDepth 100000 in
theorem c_X9_live (l : Launch) (D : va_G) (cA : Nat → ClassId) (b : Nat → Nat) (m_latest : Int32) (m_cells : Int32) (m_wide : Int32) (m_houses : Int32) (m_bowls : Int32) (m_dogs : Int32) (m_gone : Int32) (m_sights : Int32) (m_drawn : Int32) (m_bytes : Nat → Int32) (m_typed : Nat → Int32) (m_cell : Nat → Int32) (m_house : Nat → Int32) (m_settings : Nat → Int32) (m_bowl : Nat → Int32) (m_dog : Nat → Int32) (m_path : Nat → Int32) (m_steps : Nat → Int32) (m_line : Nat → Int32) (x1 : Int32) (x2 : Int32) (r : Int32 × Int32 × Int32 × Int32 × (Nat → Int32) × (Nat → Int32) × (Nat → Int32) × (Nat → Int32) × (Nat → Int32)) (hf : f_X9_live m_cells m_wide m_houses m_bowls m_dogs m_gone m_bytes m_typed m_cell m_house m_settings m_bowl m_dog m_path m_steps m_line x1 x2 = some r) (sz : Nat) : Met l yX9_live (Cond.code yX9_live cX9_live 3 (some .int) :: lw_good) rm_X9_live (PreX D cA [.ref (b 0), .int x1, .int x2] sz (wl_X9_live cA b m_latest m_cells m_wide m_houses m_bowls m_dogs m_gone m_sights m_drawn m_bytes m_typed m_cell m_house m_settings m_bowl m_dog m_path m_steps m_line)) (PostI D r.1 (wl_X9_live cA b m_latest m_cells m_wide m_houses m_bowls m_dogs m_gone m_sights m_drawn m_bytes m_typed m_cell m_house m_settings m_bowl m_dog m_path m_steps m_line) (wl_X9_live cA b m_latest (r.2.1) (r.2.2.1) (r.2.2.2.1) m_bowls m_dogs m_gone m_sights m_drawn m_bytes m_typed (r.2.2.2.2.1) (r.2.2.2.2.2.1) m_settings m_bowl m_dog (r.2.2.2.2.2.2.1) (r.2.2.2.2.2.2.2.1) (r.2.2.2.2.2.2.2.2)) sz) 0 0 (va_A (wl_X9_live cA b m_latest m_cells m_wide m_houses m_bowls m_dogs m_gone m_sights m_drawn m_bytes m_typed m_cell m_house m_settings m_bowl m_dog m_path m_steps m_line) sz) :=
  met_of (by decide) (Nat.le_of_ble_eq_true rfl) (fun p e s m args below meth c C hr hlk hA => k_X9_live C hr hlk hA b m_latest m_cells m_wide m_houses m_bowls m_dogs m_gone m_sights m_drawn m_bytes m_typed m_cell m_house m_settings m_bowl m_dog m_path m_steps m_line x1 x2 r hf)
end

abbrev wl_X9_seen (cA : Nat → ClassId) (b : Nat → Nat) (m_latest : Int32) (m_cells : Int32) (m_wide : Int32) (m_houses : Int32) (m_bowls : Int32) (m_dogs : Int32) (m_gone : Int32) (m_sights : Int32) (m_drawn : Int32) (m_sight : Nat → Int32) : va_W := [((b 0), .inr (9, [.ref (b 1), .ref (b 2), .ref (b 3), .ref (b 4), .int m_latest, .ref (b 5), .ref (b 6), .int m_cells, .int m_wide, .ref (b 7), .int m_houses, .ref (b 8), .ref (b 9), .int m_bowls, .ref (b 10), .int m_dogs, .ref (b 11), .int m_gone, .ref (b 12), .ref (b 13), .ref (b 14), .int m_sights, .ref (b 15), .ref (b 16), .int m_drawn])), ((b 15), .inl (cA 0, 24, .inl m_sight))]
abbrev rm_X9_seen : Room := { frames := 2, cells := 0, slots := 0, locals := 45 }
section
variable {p : Program} {l : Launch} {e : Env} {s : State} {m : MethodId} {args : Array Value} {below : List Frame} {meth : Method} {c : Code} {D : va_G} {cA : Nat → ClassId} {ws0 : va_W} {sz : Nat} {A : Nat → Prop} {Q : State → Prop}
def f_X9_seen (m_sights : Int32) (m_sight : Nat → Int32) (x1 : Int32) (x2 : Int32) (x3 : Int32) : Option (Int32 × Int32 × (Nat → Int32)) :=
  bind1 (f_X9_isNight x1) (fun r1 => if r1 = 0 then (some ((-2 : Int32), m_sights, m_sight)) else (bind1 (f_X9_in (x2.toInt64) (0 : Int64) (7 : Int64)) (fun r2 => if r2 = 0 then (some ((-2 : Int32), m_sights, m_sight)) else (bind1 (f_X9_in (x3.toInt64) (0 : Int64) (2 : Int64)) (fun r3 => if r3 = 0 then (some ((-2 : Int32), m_sights, m_sight)) else (if m_sights = (8 : Int32) then (some ((-4 : Int32), m_sights, m_sight)) else (gd (inb ((3 : Int32) * m_sights) 24) (gd (inb (((3 : Int32) * m_sights) + (1 : Int32)) 24) (gd (inb (((3 : Int32) * m_sights) + (2 : Int32)) 24) (letv ((m_sights + (1 : Int32))) (fun v4 => some (v4, v4, (upd (upd (upd m_sight ((3 : Int32) * m_sights).toNatClampNeg x1) (((3 : Int32) * m_sights) + (1 : Int32)).toNatClampNeg x2) (((3 : Int32) * m_sights) + (2 : Int32)).toNatClampNeg x3)))))))))))))
set_option maxHeartbeats 4000000 in
set_option maxRecDepth 100000 in
theorem k_X9_seen (C : Cx RX9 cX9_seen 4 D cA p s m args c) (hr : meth.sig.returnType = (some .int)) (hlk : meth.locks = false) (hA : ∀ q, s.heap.size ≤ q → va_A ws0 sz q) (b : Nat → Nat) (m_latest : Int32) (m_cells : Int32) (m_wide : Int32) (m_houses : Int32) (m_bowls : Int32) (m_dogs : Int32) (m_gone : Int32) (m_sights : Int32) (m_drawn : Int32) (m_sight : Nat → Int32) (x1 : Int32) (x2 : Int32) (x3 : Int32) (r : Int32 × Int32 × (Nat → Int32)) (hf : f_X9_seen m_sights m_sight x1 x2 x3 = some r) : At p l e rm_X9_seen s m args below meth c D (va_A ws0 sz) 0 0 (MQ below (PostI D r.1 ws0 (wl_X9_seen cA b m_latest m_cells m_wide m_houses m_bowls m_dogs m_gone (r.2.1) m_drawn (r.2.2)) sz) args s 0 0 (va_A ws0 sz)) 4 0 (wl_X9_seen cA b m_latest m_cells m_wide m_houses m_bowls m_dogs m_gone m_sights m_drawn m_sight) [(0, .ref (b 0)), (1, .int x1), (2, .int x2), (3, .int x3)] [] := by
  intro H locs ls hP hD hS hl
  have hx := C.1
  have hb := C.2.1
  have hown := C.2.2.2.1
  have hts := C.2.2.2.2.1
  unfold f_X9_seen at hf
  refine lv_iload_n (pc := 0) hx hb dX9_seen_0 rfl (lv_at hl 1 rfl) ?_
  obtain ⟨r1, hq, hf⟩ := bind1_some hf
  refine fin2_i (wl_X9_seen cA b m_latest m_cells m_wide m_houses m_bowls m_dogs m_gone m_sights m_drawn m_sight) (run_S (rest := []) (pc := 1) (As := [.int x1]) C mf_X9_136 (c_X9_isNight l D cA  x1 r1 hq H.size) rfl rfl ⟨(Nat.le_of_ble_eq_true rfl), (Nat.le_of_ble_eq_true rfl)⟩ (preS_of C hP hD [] rfl (pl_nd pv_0)) rfl hl.1 rfl (Nat.le_of_ble_eq_true rfl) dX9_seen_1 ⟨Nat.zero_le _, Nat.zero_le _⟩) hP hD hS hA [] [0, 1] rfl rfl rfl rfl pv_0 (fun H locs hP hS => ?_)
  refine lv_if_eq (pc := 4) (tgt := 31) hx hb dX9_seen_4 (by decide) (fun hc => ?_) (fun hc => ?_)
  · have hf := (if_pos hc).symm.trans hf
    refine lv_bipush (pc := 31) (v := (-2)) hx hb dX9_seen_31 bp_m2 ?_
    have hf := Option.some.inj hf
    subst hf
    exact ret_i C hr hlk hP hS dX9_seen_33
  · have hf := (if_neg hc).symm.trans hf
    refine lv_iload_n (pc := 7) hx hb dX9_seen_7 rfl (lv_at hl 2 rfl) ?_
    refine lv_i2l (pc := 8) hx hb dX9_seen_8 rfl ?_
    refine lv_lconst (pc := 9) (v := 0) hx hb dX9_seen_9 rfl ?_
    refine lv_ldc2 (pc := 10) hx hb hown (hts _ (lg_in mw_617 rfl)) dX9_seen_10 ?_
    obtain ⟨r2, hq, hf⟩ := bind1_some hf
    refine fin2_i (wl_X9_seen cA b m_latest m_cells m_wide m_houses m_bowls m_dogs m_gone m_sights m_drawn m_sight) (run_S (rest := []) (pc := 13) (As := [.long (x2.toInt64), .long (0 : Int64), .long (7 : Int64)]) C mf_X9_60 (c_X9_in l D cA  (x2.toInt64) (0 : Int64) (7 : Int64) r2 hq H.size) rfl rfl ⟨(Nat.le_of_ble_eq_true rfl), (Nat.le_of_ble_eq_true rfl)⟩ (preS_of C hP hD [] rfl (pl_nd pv_0)) rfl hl.1 rfl (Nat.le_of_ble_eq_true rfl) dX9_seen_13 ⟨Nat.zero_le _, Nat.zero_le _⟩) hP hD hS hA [] [0, 1] rfl rfl rfl rfl pv_0 (fun H locs hP hS => ?_)
    refine lv_if_eq (pc := 16) (tgt := 31) hx hb dX9_seen_16 (by decide) (fun hc => ?_) (fun hc => ?_)
    · have hf := (if_pos hc).symm.trans hf
      refine lv_bipush (pc := 31) (v := (-2)) hx hb dX9_seen_31 bp_m2 ?_
      have hf := Option.some.inj hf
      subst hf
      exact ret_i C hr hlk hP hS dX9_seen_33
    · have hf := (if_neg hc).symm.trans hf
      refine lv_iload_n (pc := 19) hx hb dX9_seen_19 rfl (lv_at hl 3 rfl) ?_
      refine lv_i2l (pc := 20) hx hb dX9_seen_20 rfl ?_
      refine lv_lconst (pc := 21) (v := 0) hx hb dX9_seen_21 rfl ?_
      refine lv_ldc2 (pc := 22) hx hb hown (hts _ (lg_in mw_465 rfl)) dX9_seen_22 ?_
      obtain ⟨r3, hq, hf⟩ := bind1_some hf
      refine fin2_i (wl_X9_seen cA b m_latest m_cells m_wide m_houses m_bowls m_dogs m_gone m_sights m_drawn m_sight) (run_S (rest := []) (pc := 25) (As := [.long (x3.toInt64), .long (0 : Int64), .long (2 : Int64)]) C mf_X9_60 (c_X9_in l D cA  (x3.toInt64) (0 : Int64) (2 : Int64) r3 hq H.size) rfl rfl ⟨(Nat.le_of_ble_eq_true rfl), (Nat.le_of_ble_eq_true rfl)⟩ (preS_of C hP hD [] rfl (pl_nd pv_0)) rfl hl.1 rfl (Nat.le_of_ble_eq_true rfl) dX9_seen_25 ⟨Nat.zero_le _, Nat.zero_le _⟩) hP hD hS hA [] [0, 1] rfl rfl rfl rfl pv_0 (fun H locs hP hS => ?_)
      refine lv_if_ne (pc := 28) (tgt := 34) hx hb dX9_seen_28 (by decide) (fun hc => ?_) (fun hc => ?_)
      · have hf := (if_neg hc).symm.trans hf
        refine lv_aload_n (pc := 34) hx hb dX9_seen_34 rfl (lv_at hl 0 rfl) ?_
        refine g_get (pc := 35) C fg_X9_230 hP 0 rfl rfl dX9_seen_35 ?_
        refine lv_bipush (pc := 38) (v := 8) hx hb dX9_seen_38 bp_8 ?_
        refine lv_icmp_ne (pc := 40) (tgt := 46) hx hb dX9_seen_40 (by decide) (fun hc => ?_) (fun hc => ?_)
        · have hf := (if_neg hc).symm.trans hf
          refine lv_aload_n (pc := 46) hx hb dX9_seen_46 rfl (lv_at hl 0 rfl) ?_
          refine g_get (pc := 47) C fg_X9_52 hP 0 rfl rfl dX9_seen_47 ?_
          refine lv_iconst (pc := 50) (v := 3) hx hb dX9_seen_50 ic_3 ?_
          refine lv_aload_n (pc := 51) hx hb dX9_seen_51 rfl (lv_at hl 0 rfl) ?_
          refine g_get (pc := 52) C fg_X9_230 hP 0 rfl rfl dX9_seen_52 ?_
          refine lv_imul (pc := 55) hx hb dX9_seen_55 ?_
          refine lv_iload_n (pc := 56) hx hb dX9_seen_56 rfl (lv_at hl 1 rfl) ?_
          obtain ⟨hg, hf⟩ := gd_some hf
          refine g_iast (pc := 57) C hP hD hS 1 rfl hg dX9_seen_57 (fun H locs hP hD hS => ?_)
          have hP : va_P D classes (wl_X9_seen cA b m_latest m_cells m_wide m_houses m_bowls m_dogs m_gone m_sights m_drawn (upd m_sight ((3 : Int32) * m_sights).toNatClampNeg x1)) H := hP
          have hD : va_D (va_A ws0 sz) (wl_X9_seen cA b m_latest m_cells m_wide m_houses m_bowls m_dogs m_gone m_sights m_drawn (upd m_sight ((3 : Int32) * m_sights).toNatClampNeg x1)) := hD
          refine lv_aload_n (pc := 58) hx hb dX9_seen_58 rfl (lv_at hl 0 rfl) ?_
          refine g_get (pc := 59) C fg_X9_52 hP 0 rfl rfl dX9_seen_59 ?_
          refine lv_iconst (pc := 62) (v := 3) hx hb dX9_seen_62 ic_3 ?_
          refine lv_aload_n (pc := 63) hx hb dX9_seen_63 rfl (lv_at hl 0 rfl) ?_
          refine g_get (pc := 64) C fg_X9_230 hP 0 rfl rfl dX9_seen_64 ?_
          refine lv_imul (pc := 67) hx hb dX9_seen_67 ?_
          refine lv_iconst (pc := 68) (v := 1) hx hb dX9_seen_68 ic_1 ?_
          refine lv_iadd (pc := 69) hx hb dX9_seen_69 ?_
          refine lv_iload_n (pc := 70) hx hb dX9_seen_70 rfl (lv_at hl 2 rfl) ?_
          obtain ⟨hg, hf⟩ := gd_some hf
          refine g_iast (pc := 71) C hP hD hS 1 rfl hg dX9_seen_71 (fun H locs hP hD hS => ?_)
          have hP : va_P D classes (wl_X9_seen cA b m_latest m_cells m_wide m_houses m_bowls m_dogs m_gone m_sights m_drawn (upd (upd m_sight ((3 : Int32) * m_sights).toNatClampNeg x1) (((3 : Int32) * m_sights) + (1 : Int32)).toNatClampNeg x2)) H := hP
          have hD : va_D (va_A ws0 sz) (wl_X9_seen cA b m_latest m_cells m_wide m_houses m_bowls m_dogs m_gone m_sights m_drawn (upd (upd m_sight ((3 : Int32) * m_sights).toNatClampNeg x1) (((3 : Int32) * m_sights) + (1 : Int32)).toNatClampNeg x2)) := hD
          refine lv_aload_n (pc := 72) hx hb dX9_seen_72 rfl (lv_at hl 0 rfl) ?_
          refine g_get (pc := 73) C fg_X9_52 hP 0 rfl rfl dX9_seen_73 ?_
          refine lv_iconst (pc := 76) (v := 3) hx hb dX9_seen_76 ic_3 ?_
          refine lv_aload_n (pc := 77) hx hb dX9_seen_77 rfl (lv_at hl 0 rfl) ?_
          refine g_get (pc := 78) C fg_X9_230 hP 0 rfl rfl dX9_seen_78 ?_
          refine lv_imul (pc := 81) hx hb dX9_seen_81 ?_
          refine lv_iconst (pc := 82) (v := 2) hx hb dX9_seen_82 ic_2 ?_
          refine lv_iadd (pc := 83) hx hb dX9_seen_83 ?_
          refine lv_iload_n (pc := 84) hx hb dX9_seen_84 rfl (lv_at hl 3 rfl) ?_
          obtain ⟨hg, hf⟩ := gd_some hf
          refine g_iast (pc := 85) C hP hD hS 1 rfl hg dX9_seen_85 (fun H locs hP hD hS => ?_)
          have hP : va_P D classes (wl_X9_seen cA b m_latest m_cells m_wide m_houses m_bowls m_dogs m_gone m_sights m_drawn (upd (upd (upd m_sight ((3 : Int32) * m_sights).toNatClampNeg x1) (((3 : Int32) * m_sights) + (1 : Int32)).toNatClampNeg x2) (((3 : Int32) * m_sights) + (2 : Int32)).toNatClampNeg x3)) H := hP
          have hD : va_D (va_A ws0 sz) (wl_X9_seen cA b m_latest m_cells m_wide m_houses m_bowls m_dogs m_gone m_sights m_drawn (upd (upd (upd m_sight ((3 : Int32) * m_sights).toNatClampNeg x1) (((3 : Int32) * m_sights) + (1 : Int32)).toNatClampNeg x2) (((3 : Int32) * m_sights) + (2 : Int32)).toNatClampNeg x3)) := hD
          refine lv_aload_n (pc := 86) hx hb dX9_seen_86 rfl (lv_at hl 0 rfl) ?_
          refine lv_dup (pc := 87) hx hb dX9_seen_87 rfl ?_
          refine g_get (pc := 88) C fg_X9_230 hP 0 rfl rfl dX9_seen_88 ?_
          refine lv_iconst (pc := 91) (v := 1) hx hb dX9_seen_91 ic_1 ?_
          refine lv_iadd (pc := 92) hx hb dX9_seen_92 ?_
          obtain ⟨v4, e_v4, hf⟩ := letv_some hf
          refine tp_i e_v4 ?_
          refine g_put (pc := 93) C fg_X9_230 ft_X9_21 hP hD hS 0 rfl rfl rfl (Nat.le_of_ble_eq_true rfl) dX9_seen_93 (fun H locs hP hD hS => ?_)
          have hP : va_P D classes (wl_X9_seen cA b m_latest m_cells m_wide m_houses m_bowls m_dogs m_gone v4 m_drawn (upd (upd (upd m_sight ((3 : Int32) * m_sights).toNatClampNeg x1) (((3 : Int32) * m_sights) + (1 : Int32)).toNatClampNeg x2) (((3 : Int32) * m_sights) + (2 : Int32)).toNatClampNeg x3)) H := hP
          have hD : va_D (va_A ws0 sz) (wl_X9_seen cA b m_latest m_cells m_wide m_houses m_bowls m_dogs m_gone v4 m_drawn (upd (upd (upd m_sight ((3 : Int32) * m_sights).toNatClampNeg x1) (((3 : Int32) * m_sights) + (1 : Int32)).toNatClampNeg x2) (((3 : Int32) * m_sights) + (2 : Int32)).toNatClampNeg x3)) := hD
          refine lv_aload_n (pc := 96) hx hb dX9_seen_96 rfl (lv_at hl 0 rfl) ?_
          refine g_get (pc := 97) C fg_X9_230 hP 0 rfl rfl dX9_seen_97 ?_
          have hf := Option.some.inj hf
          subst hf
          exact ret_i C hr hlk hP hS dX9_seen_100
        · have hf := (if_pos hc).symm.trans hf
          refine lv_bipush (pc := 43) (v := (-4)) hx hb dX9_seen_43 bp_m4 ?_
          have hf := Option.some.inj hf
          subst hf
          exact ret_i C hr hlk hP hS dX9_seen_45
      · have hf := (if_pos hc).symm.trans hf
        refine lv_bipush (pc := 31) (v := (-2)) hx hb dX9_seen_31 bp_m2 ?_
        have hf := Option.some.inj hf
        subst hf
        exact ret_i C hr hlk hP hS dX9_seen_33
set_option maxRecDepth 100000 in
theorem c_X9_seen (l : Launch) (D : va_G) (cA : Nat → ClassId) (b : Nat → Nat) (m_latest : Int32) (m_cells : Int32) (m_wide : Int32) (m_houses : Int32) (m_bowls : Int32) (m_dogs : Int32) (m_gone : Int32) (m_sights : Int32) (m_drawn : Int32) (m_sight : Nat → Int32) (x1 : Int32) (x2 : Int32) (x3 : Int32) (r : Int32 × Int32 × (Nat → Int32)) (hf : f_X9_seen m_sights m_sight x1 x2 x3 = some r) (sz : Nat) : Met l yX9_seen (Cond.code yX9_seen cX9_seen 4 (some .int) :: lw_good) rm_X9_seen (PreX D cA [.ref (b 0), .int x1, .int x2, .int x3] sz (wl_X9_seen cA b m_latest m_cells m_wide m_houses m_bowls m_dogs m_gone m_sights m_drawn m_sight)) (PostI D r.1 (wl_X9_seen cA b m_latest m_cells m_wide m_houses m_bowls m_dogs m_gone m_sights m_drawn m_sight) (wl_X9_seen cA b m_latest m_cells m_wide m_houses m_bowls m_dogs m_gone (r.2.1) m_drawn (r.2.2)) sz) 0 0 (va_A (wl_X9_seen cA b m_latest m_cells m_wide m_houses m_bowls m_dogs m_gone m_sights m_drawn m_sight) sz) :=
  met_of (by decide) (Nat.le_of_ble_eq_true rfl) (fun p e s m args below meth c C hr hlk hA => k_X9_seen C hr hlk hA b m_latest m_cells m_wide m_houses m_bowls m_dogs m_gone m_sights m_drawn m_sight x1 x2 x3 r hf)
end

abbrev wl_X9_forget (cA : Nat → ClassId) (b : Nat → Nat) (m_latest : Int32) (m_cells : Int32) (m_wide : Int32) (m_houses : Int32) (m_bowls : Int32) (m_dogs : Int32) (m_gone : Int32) (m_sights : Int32) (m_drawn : Int32) : va_W := [((b 0), .inr (9, [.ref (b 1), .ref (b 2), .ref (b 3), .ref (b 4), .int m_latest, .ref (b 5), .ref (b 6), .int m_cells, .int m_wide, .ref (b 7), .int m_houses, .ref (b 8), .ref (b 9), .int m_bowls, .ref (b 10), .int m_dogs, .ref (b 11), .int m_gone, .ref (b 12), .ref (b 13), .ref (b 14), .int m_sights, .ref (b 15), .ref (b 16), .int m_drawn]))]
abbrev rm_X9_forget : Room := { frames := 0, cells := 0, slots := 0, locals := 0 }
section
variable {p : Program} {l : Launch} {e : Env} {s : State} {m : MethodId} {args : Array Value} {below : List Frame} {meth : Method} {c : Code} {D : va_G} {cA : Nat → ClassId} {ws0 : va_W} {sz : Nat} {A : Nat → Prop} {Q : State → Prop}
def f_X9_forget (m_sights : Int32) : Option (Int32 × Int32) :=
  some (m_sights, (0 : Int32))
set_option maxHeartbeats 4000000 in
set_option maxRecDepth 100000 in
theorem k_X9_forget (C : Cx RX9 cX9_forget 2 D cA p s m args c) (hr : meth.sig.returnType = (some .int)) (hlk : meth.locks = false) (hA : ∀ q, s.heap.size ≤ q → va_A ws0 sz q) (b : Nat → Nat) (m_latest : Int32) (m_cells : Int32) (m_wide : Int32) (m_houses : Int32) (m_bowls : Int32) (m_dogs : Int32) (m_gone : Int32) (m_sights : Int32) (m_drawn : Int32) (r : Int32 × Int32) (hf : f_X9_forget m_sights = some r) : At p l e rm_X9_forget s m args below meth c D (va_A ws0 sz) 0 0 (MQ below (PostI D r.1 ws0 (wl_X9_forget cA b m_latest m_cells m_wide m_houses m_bowls m_dogs m_gone (r.2) m_drawn) sz) args s 0 0 (va_A ws0 sz)) 2 0 (wl_X9_forget cA b m_latest m_cells m_wide m_houses m_bowls m_dogs m_gone m_sights m_drawn) [(0, .ref (b 0))] [] := by
  intro H locs ls hP hD hS hl
  have hx := C.1
  have hb := C.2.1
  have hown := C.2.2.2.1
  have hts := C.2.2.2.2.1
  unfold f_X9_forget at hf
  refine lv_aload_n (pc := 0) hx hb dX9_forget_0 rfl (lv_at hl 0 rfl) ?_
  refine g_get (pc := 1) C fg_X9_230 hP 0 rfl rfl dX9_forget_1 ?_
  refine lv_istore_n (pc := 4) (lv' := [(1, .int m_sights), (0, .ref (b 0))]) hx hb dX9_forget_4 rfl hl (Nat.le_of_ble_eq_true rfl) rfl (fun ls hl => ?_)
  refine lv_aload_n (pc := 5) hx hb dX9_forget_5 rfl (lv_at hl 1 rfl) ?_
  refine lv_iconst (pc := 6) (v := 0) hx hb dX9_forget_6 ic_0 ?_
  refine g_put (pc := 7) C fg_X9_230 ft_X9_21 hP hD hS 0 rfl rfl rfl (Nat.le_of_ble_eq_true rfl) dX9_forget_7 (fun H locs hP hD hS => ?_)
  have hP : va_P D classes (wl_X9_forget cA b m_latest m_cells m_wide m_houses m_bowls m_dogs m_gone (0 : Int32) m_drawn) H := hP
  have hD : va_D (va_A ws0 sz) (wl_X9_forget cA b m_latest m_cells m_wide m_houses m_bowls m_dogs m_gone (0 : Int32) m_drawn) := hD
  refine lv_iload_n (pc := 10) hx hb dX9_forget_10 rfl (lv_at hl 0 rfl) ?_
  have hf := Option.some.inj hf
  subst hf
  exact ret_i C hr hlk hP hS dX9_forget_11
set_option maxRecDepth 100000 in
theorem c_X9_forget (l : Launch) (D : va_G) (cA : Nat → ClassId) (b : Nat → Nat) (m_latest : Int32) (m_cells : Int32) (m_wide : Int32) (m_houses : Int32) (m_bowls : Int32) (m_dogs : Int32) (m_gone : Int32) (m_sights : Int32) (m_drawn : Int32) (r : Int32 × Int32) (hf : f_X9_forget m_sights = some r) (sz : Nat) : Met l yX9_forget (Cond.code yX9_forget cX9_forget 2 (some .int) :: lw_good) rm_X9_forget (PreX D cA [.ref (b 0)] sz (wl_X9_forget cA b m_latest m_cells m_wide m_houses m_bowls m_dogs m_gone m_sights m_drawn)) (PostI D r.1 (wl_X9_forget cA b m_latest m_cells m_wide m_houses m_bowls m_dogs m_gone m_sights m_drawn) (wl_X9_forget cA b m_latest m_cells m_wide m_houses m_bowls m_dogs m_gone (r.2) m_drawn) sz) 0 0 (va_A (wl_X9_forget cA b m_latest m_cells m_wide m_houses m_bowls m_dogs m_gone m_sights m_drawn) sz) :=
  met_of (by decide) (Nat.le_of_ble_eq_true rfl) (fun p e s m args below meth c C hr hlk hA => k_X9_forget C hr hlk hA b m_latest m_cells m_wide m_houses m_bowls m_dogs m_gone m_sights m_drawn r hf)
end

abbrev wl_X9_isSeen (cA : Nat → ClassId) (b : Nat → Nat) (m_latest : Int32) (m_cells : Int32) (m_wide : Int32) (m_houses : Int32) (m_bowls : Int32) (m_dogs : Int32) (m_gone : Int32) (m_sights : Int32) (m_drawn : Int32) (m_cell : Nat → Int32) (m_house : Nat → Int32) (m_settings : Nat → Int32) (m_bowl : Nat → Int32) (m_dog : Nat → Int32) (m_path : Nat → Int32) (m_steps : Nat → Int32) (m_line : Nat → Int32) (m_sight : Nat → Int32) : va_W := [((b 0), .inr (9, [.ref (b 1), .ref (b 2), .ref (b 3), .ref (b 4), .int m_latest, .ref (b 5), .ref (b 6), .int m_cells, .int m_wide, .ref (b 7), .int m_houses, .ref (b 8), .ref (b 9), .int m_bowls, .ref (b 10), .int m_dogs, .ref (b 11), .int m_gone, .ref (b 12), .ref (b 13), .ref (b 14), .int m_sights, .ref (b 15), .ref (b 16), .int m_drawn])), ((b 7), .inl (cA 0, 36, .inl m_cell)), ((b 8), .inl (cA 0, 16, .inl m_house)), ((b 9), .inl (cA 0, 2, .inl m_settings)), ((b 10), .inl (cA 0, 20, .inl m_bowl)), ((b 11), .inl (cA 0, 16, .inl m_dog)), ((b 12), .inl (cA 0, 250, .inl m_path)), ((b 13), .inl (cA 0, 10, .inl m_steps)), ((b 14), .inl (cA 0, 60, .inl m_line)), ((b 15), .inl (cA 0, 24, .inl m_sight))]
abbrev rm_X9_isSeen : Room := { frames := 5, cells := 0, slots := 0, locals := 127 }
section
variable {p : Program} {l : Launch} {e : Env} {s : State} {m : MethodId} {args : Array Value} {below : List Frame} {meth : Method} {c : Code} {D : va_G} {cA : Nat → ClassId} {ws0 : va_W} {sz : Nat} {A : Nat → Prop} {Q : State → Prop}
def f_X9_isSeen_b72L10 (m_cells : Int32) (m_wide : Int32) (m_houses : Int32) (m_sights : Int32) (m_house : Nat → Int32) (m_line : Nat → Int32) (m_sight : Nat → Int32) (x2 : Int32) (s0 : Int32) : Option ((Int32 × Int32) ⊕ (Int32)) :=
  some (.inl (s0, (x2 + 1)))
set_option maxHeartbeats 4000000 in
set_option maxRecDepth 100000 in
theorem k_X9_isSeen_b72L10 (C : Cx RX9 cX9_isSeen 4 D cA p s m args c) (hA : ∀ q, s.heap.size ≤ q → A q) (b : Nat → Nat) (m_latest : Int32) (m_cells : Int32) (m_wide : Int32) (m_houses : Int32) (m_bowls : Int32) (m_dogs : Int32) (m_gone : Int32) (m_sights : Int32) (m_drawn : Int32) (m_cell : Nat → Int32) (m_house : Nat → Int32) (m_settings : Nat → Int32) (m_bowl : Nat → Int32) (m_dog : Nat → Int32) (m_path : Nat → Int32) (m_steps : Nat → Int32) (m_line : Nat → Int32) (m_sight : Nat → Int32) (x2 : Int32) (s0 : Int32) (r : (Int32 × Int32) ⊕ (Int32)) (hf : f_X9_isSeen_b72L10 m_cells m_wide m_houses m_sights m_house m_line m_sight x2 s0 = some r) (hK : Sum.elim (fun q : Int32 × Int32 => At p l e rm_X9_isSeen s m args below meth c D A 0 0 Q 4 10 (wl_X9_isSeen cA b m_latest m_cells m_wide m_houses m_bowls m_dogs m_gone m_sights m_drawn m_cell m_house m_settings m_bowl m_dog m_path m_steps m_line m_sight) [(0, .ref (b 0)), (1, .int (q.1)), (2, .int (q.2))] []) (fun q : Int32 => At p l e rm_X9_isSeen s m args below meth c D A 0 0 Q 4 79 (wl_X9_isSeen cA b m_latest m_cells m_wide m_houses m_bowls m_dogs m_gone m_sights m_drawn m_cell m_house m_settings m_bowl m_dog m_path m_steps m_line m_sight) [(1, .int q)] []) r) : At p l e rm_X9_isSeen s m args below meth c D A 0 0 Q 4 72 (wl_X9_isSeen cA b m_latest m_cells m_wide m_houses m_bowls m_dogs m_gone m_sights m_drawn m_cell m_house m_settings m_bowl m_dog m_path m_steps m_line m_sight) [(0, .ref (b 0)), (2, .int x2)] [.int s0] := by
  intro H locs ls hP hD hS hl
  have hx := C.1
  have hb := C.2.1
  have hown := C.2.2.2.1
  have hts := C.2.2.2.2.1
  unfold f_X9_isSeen_b72L10 at hf
  refine lv_istore_n (pc := 72) (lv' := [(1, .int s0), (0, .ref (b 0)), (2, .int x2)]) hx hb dX9_isSeen_72 rfl hl (Nat.le_of_ble_eq_true rfl) rfl (fun ls hl => ?_)
  refine lv_iinc (pc := 73) (v := (x2 + 1)) (lv' := [(2, .int (x2 + 1)), (1, .int s0), (0, .ref (b 0))]) hx hb dX9_isSeen_73 hl (k := 2) rfl rfl (Nat.le_of_ble_eq_true rfl) rfl (fun ls hl => ?_)
  refine lv_goto (pc := 76) (tgt := 10) hx hb dX9_isSeen_76 (by decide) ?_
  have hf := Option.some.inj hf
  subst hf
  exact hK H locs ls hP hD hS (lv_sub hl [2, 1, 0] rfl)
def f_X9_isSeen_b71L10 (m_cells : Int32) (m_wide : Int32) (m_houses : Int32) (m_sights : Int32) (m_house : Nat → Int32) (m_line : Nat → Int32) (m_sight : Nat → Int32) (x2 : Int32) : Option ((Int32 × Int32) ⊕ (Int32)) :=
  f_X9_isSeen_b72L10 m_cells m_wide m_houses m_sights m_house m_line m_sight x2 (0 : Int32)
set_option maxHeartbeats 4000000 in
set_option maxRecDepth 100000 in
theorem k_X9_isSeen_b71L10 (C : Cx RX9 cX9_isSeen 4 D cA p s m args c) (hA : ∀ q, s.heap.size ≤ q → A q) (b : Nat → Nat) (m_latest : Int32) (m_cells : Int32) (m_wide : Int32) (m_houses : Int32) (m_bowls : Int32) (m_dogs : Int32) (m_gone : Int32) (m_sights : Int32) (m_drawn : Int32) (m_cell : Nat → Int32) (m_house : Nat → Int32) (m_settings : Nat → Int32) (m_bowl : Nat → Int32) (m_dog : Nat → Int32) (m_path : Nat → Int32) (m_steps : Nat → Int32) (m_line : Nat → Int32) (m_sight : Nat → Int32) (x2 : Int32) (r : (Int32 × Int32) ⊕ (Int32)) (hf : f_X9_isSeen_b71L10 m_cells m_wide m_houses m_sights m_house m_line m_sight x2 = some r) (hK : Sum.elim (fun q : Int32 × Int32 => At p l e rm_X9_isSeen s m args below meth c D A 0 0 Q 4 10 (wl_X9_isSeen cA b m_latest m_cells m_wide m_houses m_bowls m_dogs m_gone m_sights m_drawn m_cell m_house m_settings m_bowl m_dog m_path m_steps m_line m_sight) [(0, .ref (b 0)), (1, .int (q.1)), (2, .int (q.2))] []) (fun q : Int32 => At p l e rm_X9_isSeen s m args below meth c D A 0 0 Q 4 79 (wl_X9_isSeen cA b m_latest m_cells m_wide m_houses m_bowls m_dogs m_gone m_sights m_drawn m_cell m_house m_settings m_bowl m_dog m_path m_steps m_line m_sight) [(1, .int q)] []) r) : At p l e rm_X9_isSeen s m args below meth c D A 0 0 Q 4 71 (wl_X9_isSeen cA b m_latest m_cells m_wide m_houses m_bowls m_dogs m_gone m_sights m_drawn m_cell m_house m_settings m_bowl m_dog m_path m_steps m_line m_sight) [(0, .ref (b 0)), (2, .int x2)] [] := by
  intro H locs ls hP hD hS hl
  have hx := C.1
  have hb := C.2.1
  have hown := C.2.2.2.1
  have hts := C.2.2.2.2.1
  unfold f_X9_isSeen_b71L10 at hf
  refine lv_iconst (pc := 71) (v := 0) hx hb dX9_isSeen_71 ic_0 ?_
  exact k_X9_isSeen_b72L10 C hA b m_latest m_cells m_wide m_houses m_bowls m_dogs m_gone m_sights m_drawn m_cell m_house m_settings m_bowl m_dog m_path m_steps m_line m_sight x2 (0 : Int32) r hf hK H locs ls hP hD hS hl
def f_X9_isSeen_L10 (m_cells : Int32) (m_wide : Int32) (m_houses : Int32) (m_sights : Int32) (m_house : Nat → Int32) (m_line : Nat → Int32) (m_sight : Nat → Int32) (x1 : Int32) (x2 : Int32) : Option ((Int32 × Int32) ⊕ (Int32)) :=
  if m_sights ≤ x2 then (some (.inr x1)) else (gd (inb (((3 : Int32) * x2) + (1 : Int32)) 24) (letv ((m_sight (((3 : Int32) * x2) + (1 : Int32)).toNatClampNeg)) (fun v4 => if x1 = 0 then (f_X9_isSeen_b71L10 m_cells m_wide m_houses m_sights m_house m_line m_sight x2) else (bind1 (f_X9_isHouse m_houses v4) (fun r5 => if r5 = 0 then (f_X9_isSeen_b71L10 m_cells m_wide m_houses m_sights m_house m_line m_sight x2) else (gd (inb ((3 : Int32) * x2) 24) (bind1 (f_X9_liesOf m_cells m_wide m_house m_line (m_sight ((3 : Int32) * x2).toNatClampNeg) v4) (fun r6 => gd (inb (((3 : Int32) * x2) + (2 : Int32)) 24) (if r6 = (m_sight (((3 : Int32) * x2) + (2 : Int32)).toNatClampNeg) then (f_X9_isSeen_b72L10 m_cells m_wide m_houses m_sights m_house m_line m_sight x2 (1 : Int32)) else (f_X9_isSeen_b71L10 m_cells m_wide m_houses m_sights m_house m_line m_sight x2))))))))))
set_option maxHeartbeats 4000000 in
set_option maxRecDepth 100000 in
theorem k_X9_isSeen_L10 (C : Cx RX9 cX9_isSeen 4 D cA p s m args c) (hA : ∀ q, s.heap.size ≤ q → A q) (b : Nat → Nat) (m_latest : Int32) (m_cells : Int32) (m_wide : Int32) (m_houses : Int32) (m_bowls : Int32) (m_dogs : Int32) (m_gone : Int32) (m_sights : Int32) (m_drawn : Int32) (m_cell : Nat → Int32) (m_house : Nat → Int32) (m_settings : Nat → Int32) (m_bowl : Nat → Int32) (m_dog : Nat → Int32) (m_path : Nat → Int32) (m_steps : Nat → Int32) (m_line : Nat → Int32) (m_sight : Nat → Int32) (x1 : Int32) (x2 : Int32) (r : (Int32 × Int32) ⊕ (Int32)) (hf : f_X9_isSeen_L10 m_cells m_wide m_houses m_sights m_house m_line m_sight x1 x2 = some r) (hK : Sum.elim (fun q : Int32 × Int32 => At p l e rm_X9_isSeen s m args below meth c D A 0 0 Q 4 10 (wl_X9_isSeen cA b m_latest m_cells m_wide m_houses m_bowls m_dogs m_gone m_sights m_drawn m_cell m_house m_settings m_bowl m_dog m_path m_steps m_line m_sight) [(0, .ref (b 0)), (1, .int (q.1)), (2, .int (q.2))] []) (fun q : Int32 => At p l e rm_X9_isSeen s m args below meth c D A 0 0 Q 4 79 (wl_X9_isSeen cA b m_latest m_cells m_wide m_houses m_bowls m_dogs m_gone m_sights m_drawn m_cell m_house m_settings m_bowl m_dog m_path m_steps m_line m_sight) [(1, .int q)] []) r) : At p l e rm_X9_isSeen s m args below meth c D A 0 0 Q 4 10 (wl_X9_isSeen cA b m_latest m_cells m_wide m_houses m_bowls m_dogs m_gone m_sights m_drawn m_cell m_house m_settings m_bowl m_dog m_path m_steps m_line m_sight) [(0, .ref (b 0)), (1, .int x1), (2, .int x2)] [] := by
  intro H locs ls hP hD hS hl
  have hx := C.1
  have hb := C.2.1
  have hown := C.2.2.2.1
  have hts := C.2.2.2.2.1
  unfold f_X9_isSeen_L10 at hf
  refine lv_iload_n (pc := 10) hx hb dX9_isSeen_10 rfl (lv_at hl 2 rfl) ?_
  refine lv_aload_n (pc := 11) hx hb dX9_isSeen_11 rfl (lv_at hl 0 rfl) ?_
  refine g_get (pc := 12) C fg_X9_230 hP 0 rfl rfl dX9_isSeen_12 ?_
  refine lv_icmp_ge (pc := 15) (tgt := 79) hx hb dX9_isSeen_15 (by decide) (fun hc => ?_) (fun hc => ?_)
  · have hf := (if_pos hc).symm.trans hf
    have hf := Option.some.inj hf
    subst hf
    exact hK H locs ls hP hD hS (lv_sub hl [1] rfl)
  · have hf := (if_neg hc).symm.trans hf
    refine lv_aload_n (pc := 18) hx hb dX9_isSeen_18 rfl (lv_at hl 0 rfl) ?_
    refine g_get (pc := 19) C fg_X9_52 hP 0 rfl rfl dX9_isSeen_19 ?_
    refine lv_iconst (pc := 22) (v := 3) hx hb dX9_isSeen_22 ic_3 ?_
    refine lv_iload_n (pc := 23) hx hb dX9_isSeen_23 rfl (lv_at hl 2 rfl) ?_
    refine lv_imul (pc := 24) hx hb dX9_isSeen_24 ?_
    refine lv_iconst (pc := 25) (v := 1) hx hb dX9_isSeen_25 ic_1 ?_
    refine lv_iadd (pc := 26) hx hb dX9_isSeen_26 ?_
    obtain ⟨hg, hf⟩ := gd_some hf
    refine g_iald (pc := 27) C hP 9 rfl hg dX9_isSeen_27 ?_
    obtain ⟨v4, e_v4, hf⟩ := letv_some hf
    refine tp_i e_v4 ?_
    refine lv_istore_n (pc := 28) (lv' := [(3, .int v4), (0, .ref (b 0)), (1, .int x1), (2, .int x2)]) hx hb dX9_isSeen_28 rfl hl (Nat.le_of_ble_eq_true rfl) rfl (fun ls hl => ?_)
    refine lv_iload_n (pc := 29) hx hb dX9_isSeen_29 rfl (lv_at hl 2 rfl) ?_
    refine lv_if_eq (pc := 30) (tgt := 71) hx hb dX9_isSeen_30 (by decide) (fun hc => ?_) (fun hc => ?_)
    · have hf := (if_pos hc).symm.trans hf
      exact k_X9_isSeen_b71L10 C hA b m_latest m_cells m_wide m_houses m_bowls m_dogs m_gone m_sights m_drawn m_cell m_house m_settings m_bowl m_dog m_path m_steps m_line m_sight x2 r hf hK H locs ls hP hD hS (lv_sub hl [1, 3] rfl)
    · have hf := (if_neg hc).symm.trans hf
      refine lv_aload_n (pc := 33) hx hb dX9_isSeen_33 rfl (lv_at hl 1 rfl) ?_
      refine lv_iload_n (pc := 34) hx hb dX9_isSeen_34 rfl (lv_at hl 0 rfl) ?_
      obtain ⟨r5, hq, hf⟩ := bind1_some hf
      refine fin2_i (wl_X9_isSeen cA b m_latest m_cells m_wide m_houses m_bowls m_dogs m_gone m_sights m_drawn m_cell m_house m_settings m_bowl m_dog m_path m_steps m_line m_sight) (run_V (rest := []) (pc := 35) (As := [.int v4]) C mf_X9_126 (c_X9_isHouse l D cA b m_latest m_cells m_wide m_houses m_bowls m_dogs m_gone m_sights m_drawn v4 r5 hq H.size) rfl rfl ⟨(Nat.le_of_ble_eq_true rfl), (Nat.le_of_ble_eq_true rfl)⟩ (preV_of C hP hD [0] rfl (pl_nd pv_84) 0 rfl rfl rfl) rfl hl.1 rfl (Nat.le_of_ble_eq_true rfl) dX9_isSeen_35 ⟨Nat.zero_le _, Nat.zero_le _⟩) hP hD hS hA [0] [1, 2, 3, 4, 5, 6, 7, 8, 9] rfl rfl rfl rfl pv_84 (fun H locs hP hS => ?_)
      refine lv_if_eq (pc := 38) (tgt := 71) hx hb dX9_isSeen_38 (by decide) (fun hc => ?_) (fun hc => ?_)
      · have hf := (if_pos hc).symm.trans hf
        exact k_X9_isSeen_b71L10 C hA b m_latest m_cells m_wide m_houses m_bowls m_dogs m_gone m_sights m_drawn m_cell m_house m_settings m_bowl m_dog m_path m_steps m_line m_sight x2 r hf hK H locs ls hP hD hS (lv_sub hl [1, 3] rfl)
      · have hf := (if_neg hc).symm.trans hf
        refine lv_aload_n (pc := 41) hx hb dX9_isSeen_41 rfl (lv_at hl 1 rfl) ?_
        refine lv_aload_n (pc := 42) hx hb dX9_isSeen_42 rfl (lv_at hl 1 rfl) ?_
        refine g_get (pc := 43) C fg_X9_52 hP 0 rfl rfl dX9_isSeen_43 ?_
        refine lv_iconst (pc := 46) (v := 3) hx hb dX9_isSeen_46 ic_3 ?_
        refine lv_iload_n (pc := 47) hx hb dX9_isSeen_47 rfl (lv_at hl 3 rfl) ?_
        refine lv_imul (pc := 48) hx hb dX9_isSeen_48 ?_
        obtain ⟨hg, hf⟩ := gd_some hf
        refine g_iald (pc := 49) C hP 9 rfl hg dX9_isSeen_49 ?_
        refine lv_iload_n (pc := 50) hx hb dX9_isSeen_50 rfl (lv_at hl 0 rfl) ?_
        obtain ⟨r6, hq, hf⟩ := bind1_some hf
        refine fin2_i (wl_X9_isSeen cA b m_latest m_cells m_wide m_houses m_bowls m_dogs m_gone m_sights m_drawn m_cell m_house m_settings m_bowl m_dog m_path m_steps m_line m_sight) (run_V (rest := []) (pc := 51) (As := [.int (m_sight ((3 : Int32) * x2).toNatClampNeg), .int v4]) C mf_X9_198 (c_X9_liesOf l D cA b m_latest m_cells m_wide m_houses m_bowls m_dogs m_gone m_sights m_drawn m_house m_line (m_sight ((3 : Int32) * x2).toNatClampNeg) v4 r6 hq H.size) rfl rfl ⟨(Nat.le_of_ble_eq_true rfl), (Nat.le_of_ble_eq_true rfl)⟩ (preV_of C hP hD [0, 2, 8] rfl (pl_nd pv_155) 0 rfl rfl rfl) rfl hl.1 rfl (Nat.le_of_ble_eq_true rfl) dX9_isSeen_51 ⟨Nat.zero_le _, Nat.zero_le _⟩) hP hD hS hA [0, 2, 8] [1, 3, 4, 5, 6, 7, 9] rfl rfl rfl rfl pv_155 (fun H locs hP hS => ?_)
        refine lv_aload_n (pc := 54) hx hb dX9_isSeen_54 rfl (lv_at hl 1 rfl) ?_
        refine g_get (pc := 55) C fg_X9_52 hP 0 rfl rfl dX9_isSeen_55 ?_
        refine lv_iconst (pc := 58) (v := 3) hx hb dX9_isSeen_58 ic_3 ?_
        refine lv_iload_n (pc := 59) hx hb dX9_isSeen_59 rfl (lv_at hl 3 rfl) ?_
        refine lv_imul (pc := 60) hx hb dX9_isSeen_60 ?_
        refine lv_iconst (pc := 61) (v := 2) hx hb dX9_isSeen_61 ic_2 ?_
        refine lv_iadd (pc := 62) hx hb dX9_isSeen_62 ?_
        obtain ⟨hg, hf⟩ := gd_some hf
        refine g_iald (pc := 63) C hP 9 rfl hg dX9_isSeen_63 ?_
        refine lv_icmp_ne (pc := 64) (tgt := 71) hx hb dX9_isSeen_64 (by decide) (fun hc => ?_) (fun hc => ?_)
        · have hf := (if_neg hc).symm.trans hf
          exact k_X9_isSeen_b71L10 C hA b m_latest m_cells m_wide m_houses m_bowls m_dogs m_gone m_sights m_drawn m_cell m_house m_settings m_bowl m_dog m_path m_steps m_line m_sight x2 r hf hK H locs ls hP hD hS (lv_sub hl [1, 3] rfl)
        · have hf := (if_pos hc).symm.trans hf
          refine lv_iconst (pc := 67) (v := 1) hx hb dX9_isSeen_67 ic_1 ?_
          refine lv_goto (pc := 68) (tgt := 72) hx hb dX9_isSeen_68 (by decide) ?_
          exact k_X9_isSeen_b72L10 C hA b m_latest m_cells m_wide m_houses m_bowls m_dogs m_gone m_sights m_drawn m_cell m_house m_settings m_bowl m_dog m_path m_steps m_line m_sight x2 (1 : Int32) r hf hK H locs ls hP hD hS (lv_sub hl [1, 3] rfl)
theorem kl_X9_isSeen_L10 (C : Cx RX9 cX9_isSeen 4 D cA p s m args c) (hA : ∀ q, s.heap.size ≤ q → A q) (b : Nat → Nat) (m_latest : Int32) (m_cells : Int32) (m_wide : Int32) (m_houses : Int32) (m_bowls : Int32) (m_dogs : Int32) (m_gone : Int32) (m_sights : Int32) (m_drawn : Int32) (m_cell : Nat → Int32) (m_house : Nat → Int32) (m_settings : Nat → Int32) (m_bowl : Nat → Int32) (m_dog : Nat → Int32) (m_path : Nat → Int32) (m_steps : Nat → Int32) (m_line : Nat → Int32) (m_sight : Nat → Int32) : ∀ (n : Nat) (q : Int32 × Int32) (z : (Int32)), loopF (fun q : Int32 × Int32 => f_X9_isSeen_L10 m_cells m_wide m_houses m_sights m_house m_line m_sight q.1 q.2) n q = some z → (fun q : Int32 => At p l e rm_X9_isSeen s m args below meth c D A 0 0 Q 4 79 (wl_X9_isSeen cA b m_latest m_cells m_wide m_houses m_bowls m_dogs m_gone m_sights m_drawn m_cell m_house m_settings m_bowl m_dog m_path m_steps m_line m_sight) [(1, .int q)] []) z → At p l e rm_X9_isSeen s m args below meth c D A 0 0 Q 4 10 (wl_X9_isSeen cA b m_latest m_cells m_wide m_houses m_bowls m_dogs m_gone m_sights m_drawn m_cell m_house m_settings m_bowl m_dog m_path m_steps m_line m_sight) [(0, .ref (b 0)), (1, .int (q.1)), (2, .int (q.2))] [] :=
  loop_lem (WP := fun q : Int32 × Int32 => At p l e rm_X9_isSeen s m args below meth c D A 0 0 Q 4 10 (wl_X9_isSeen cA b m_latest m_cells m_wide m_houses m_bowls m_dogs m_gone m_sights m_drawn m_cell m_house m_settings m_bowl m_dog m_path m_steps m_line m_sight) [(0, .ref (b 0)), (1, .int (q.1)), (2, .int (q.2))] []) (WE := (fun q : Int32 => At p l e rm_X9_isSeen s m args below meth c D A 0 0 Q 4 79 (wl_X9_isSeen cA b m_latest m_cells m_wide m_houses m_bowls m_dogs m_gone m_sights m_drawn m_cell m_house m_settings m_bowl m_dog m_path m_steps m_line m_sight) [(1, .int q)] [])) (fun q r hf hK => k_X9_isSeen_L10 C hA b m_latest m_cells m_wide m_houses m_bowls m_dogs m_gone m_sights m_drawn m_cell m_house m_settings m_bowl m_dog m_path m_steps m_line m_sight q.1 q.2 r hf hK)
def f_X9_isSeen (m_cells : Int32) (m_wide : Int32) (m_houses : Int32) (m_bowls : Int32) (m_dogs : Int32) (m_gone : Int32) (m_sights : Int32) (m_cell : Nat → Int32) (m_house : Nat → Int32) (m_settings : Nat → Int32) (m_bowl : Nat → Int32) (m_dog : Nat → Int32) (m_path : Nat → Int32) (m_steps : Nat → Int32) (m_line : Nat → Int32) (m_sight : Nat → Int32) : Option (Int32 × (Nat → Int32) × (Nat → Int32) × (Nat → Int32)) :=
  bind3 (f_X9_lives m_cells m_wide m_bowls m_dogs m_gone m_cell m_settings m_bowl m_dog m_path m_steps m_line (9 : Int32)) (fun c1 c2 c3 => bind1 (loopF (fun q : Int32 × Int32 => f_X9_isSeen_L10 m_cells m_wide m_houses m_sights m_house c3 m_sight q.1 q.2) FU ((1 : Int32), (0 : Int32))) (fun u7 => gd (isz u7) (some (u7, c1, c2, c3))))
set_option maxHeartbeats 4000000 in
set_option maxRecDepth 100000 in
theorem k_X9_isSeen (C : Cx RX9 cX9_isSeen 4 D cA p s m args c) (hr : meth.sig.returnType = (some .boolean)) (hlk : meth.locks = false) (hA : ∀ q, s.heap.size ≤ q → va_A ws0 sz q) (b : Nat → Nat) (m_latest : Int32) (m_cells : Int32) (m_wide : Int32) (m_houses : Int32) (m_bowls : Int32) (m_dogs : Int32) (m_gone : Int32) (m_sights : Int32) (m_drawn : Int32) (m_cell : Nat → Int32) (m_house : Nat → Int32) (m_settings : Nat → Int32) (m_bowl : Nat → Int32) (m_dog : Nat → Int32) (m_path : Nat → Int32) (m_steps : Nat → Int32) (m_line : Nat → Int32) (m_sight : Nat → Int32) (r : Int32 × (Nat → Int32) × (Nat → Int32) × (Nat → Int32)) (hf : f_X9_isSeen m_cells m_wide m_houses m_bowls m_dogs m_gone m_sights m_cell m_house m_settings m_bowl m_dog m_path m_steps m_line m_sight = some r) : At p l e rm_X9_isSeen s m args below meth c D (va_A ws0 sz) 0 0 (MQ below (PostI D r.1 ws0 (wl_X9_isSeen cA b m_latest m_cells m_wide m_houses m_bowls m_dogs m_gone m_sights m_drawn m_cell m_house m_settings m_bowl m_dog (r.2.1) (r.2.2.1) (r.2.2.2) m_sight) sz) args s 0 0 (va_A ws0 sz)) 4 0 (wl_X9_isSeen cA b m_latest m_cells m_wide m_houses m_bowls m_dogs m_gone m_sights m_drawn m_cell m_house m_settings m_bowl m_dog m_path m_steps m_line m_sight) [(0, .ref (b 0))] [] := by
  intro H locs ls hP hD hS hl
  have hx := C.1
  have hb := C.2.1
  have hown := C.2.2.2.1
  have hts := C.2.2.2.2.1
  unfold f_X9_isSeen at hf
  refine lv_aload_n (pc := 0) hx hb dX9_isSeen_0 rfl (lv_at hl 0 rfl) ?_
  refine lv_bipush (pc := 1) (v := 9) hx hb dX9_isSeen_1 bp_9 ?_
  obtain ⟨c1, c2, c3, hq, hf⟩ := bind3_some hf
  refine fin2_v (wl_X9_isSeen cA b m_latest m_cells m_wide m_houses m_bowls m_dogs m_gone m_sights m_drawn m_cell m_house m_settings m_bowl m_dog c1 c2 c3 m_sight) (run_V (rest := []) (pc := 3) (As := [.int (9 : Int32)]) C mf_X9_178 (c_X9_lives l D cA b m_latest m_cells m_wide m_houses m_bowls m_dogs m_gone m_sights m_drawn m_cell m_settings m_bowl m_dog m_path m_steps m_line (9 : Int32) (c1, c2, c3) hq H.size) rfl rfl ⟨(Nat.le_of_ble_eq_true rfl), (Nat.le_of_ble_eq_true rfl)⟩ (preV_of C hP hD [0, 1, 3, 4, 5, 6, 7, 8] rfl (pl_nd pv_154) 0 rfl rfl rfl) rfl hl.1 rfl (Nat.le_of_ble_eq_true rfl) dX9_isSeen_3 ⟨Nat.zero_le _, Nat.zero_le _⟩) hP hD hS hA [0, 1, 3, 4, 5, 6, 7, 8] [2, 9] rfl rfl rfl rfl pv_154 (fun H locs hP hS => ?_)
  have hD : va_D (va_A ws0 sz) (wl_X9_isSeen cA b m_latest m_cells m_wide m_houses m_bowls m_dogs m_gone m_sights m_drawn m_cell m_house m_settings m_bowl m_dog c1 c2 c3 m_sight) := vd_a hD rfl
  refine lv_iconst (pc := 6) (v := 1) hx hb dX9_isSeen_6 ic_1 ?_
  refine lv_istore_n (pc := 7) (lv' := [(1, .int (1 : Int32)), (0, .ref (b 0))]) hx hb dX9_isSeen_7 rfl hl (Nat.le_of_ble_eq_true rfl) rfl (fun ls hl => ?_)
  refine lv_iconst (pc := 8) (v := 0) hx hb dX9_isSeen_8 ic_0 ?_
  refine lv_istore_n (pc := 9) (lv' := [(2, .int (0 : Int32)), (1, .int (1 : Int32)), (0, .ref (b 0))]) hx hb dX9_isSeen_9 rfl hl (Nat.le_of_ble_eq_true rfl) rfl (fun ls hl => ?_)
  obtain ⟨u7, hq, hf⟩ := bind1_some hf
  refine kl_X9_isSeen_L10 C hA b m_latest m_cells m_wide m_houses m_bowls m_dogs m_gone m_sights m_drawn m_cell m_house m_settings m_bowl m_dog c1 c2 c3 m_sight FU ((1 : Int32), (0 : Int32)) _ hq ?_ H locs ls hP hD hS (lv_sub hl [2, 1, 0] rfl)
  intro H locs ls hP hD hS hl
  have hP : va_P D classes (wl_X9_isSeen cA b m_latest m_cells m_wide m_houses m_bowls m_dogs m_gone m_sights m_drawn m_cell m_house m_settings m_bowl m_dog c1 c2 c3 m_sight) H := hP
  have hD : va_D (va_A ws0 sz) (wl_X9_isSeen cA b m_latest m_cells m_wide m_houses m_bowls m_dogs m_gone m_sights m_drawn m_cell m_house m_settings m_bowl m_dog c1 c2 c3 m_sight) := hD
  have hl : lv_has ls 4 [(1, .int u7)] := hl
  refine lv_iload_n (pc := 79) hx hb dX9_isSeen_79 rfl (lv_at hl 0 rfl) ?_
  obtain ⟨hg, hf⟩ := gd_some hf
  have hf := Option.some.inj hf
  subst hf
  exact ret_z C hr hlk hg hP hS dX9_isSeen_80
set_option maxRecDepth 100000 in
theorem c_X9_isSeen (l : Launch) (D : va_G) (cA : Nat → ClassId) (b : Nat → Nat) (m_latest : Int32) (m_cells : Int32) (m_wide : Int32) (m_houses : Int32) (m_bowls : Int32) (m_dogs : Int32) (m_gone : Int32) (m_sights : Int32) (m_drawn : Int32) (m_cell : Nat → Int32) (m_house : Nat → Int32) (m_settings : Nat → Int32) (m_bowl : Nat → Int32) (m_dog : Nat → Int32) (m_path : Nat → Int32) (m_steps : Nat → Int32) (m_line : Nat → Int32) (m_sight : Nat → Int32) (r : Int32 × (Nat → Int32) × (Nat → Int32) × (Nat → Int32)) (hf : f_X9_isSeen m_cells m_wide m_houses m_bowls m_dogs m_gone m_sights m_cell m_house m_settings m_bowl m_dog m_path m_steps m_line m_sight = some r) (sz : Nat) : Met l yX9_isSeen (Cond.code yX9_isSeen cX9_isSeen 4 (some .boolean) :: lw_good) rm_X9_isSeen (PreX D cA [.ref (b 0)] sz (wl_X9_isSeen cA b m_latest m_cells m_wide m_houses m_bowls m_dogs m_gone m_sights m_drawn m_cell m_house m_settings m_bowl m_dog m_path m_steps m_line m_sight)) (PostI D r.1 (wl_X9_isSeen cA b m_latest m_cells m_wide m_houses m_bowls m_dogs m_gone m_sights m_drawn m_cell m_house m_settings m_bowl m_dog m_path m_steps m_line m_sight) (wl_X9_isSeen cA b m_latest m_cells m_wide m_houses m_bowls m_dogs m_gone m_sights m_drawn m_cell m_house m_settings m_bowl m_dog (r.2.1) (r.2.2.1) (r.2.2.2) m_sight) sz) 0 0 (va_A (wl_X9_isSeen cA b m_latest m_cells m_wide m_houses m_bowls m_dogs m_gone m_sights m_drawn m_cell m_house m_settings m_bowl m_dog m_path m_steps m_line m_sight) sz) :=
  met_of (by decide) (Nat.le_of_ble_eq_true rfl) (fun p e s m args below meth c C hr hlk hA => k_X9_isSeen C hr hlk hA b m_latest m_cells m_wide m_houses m_bowls m_dogs m_gone m_sights m_drawn m_cell m_house m_settings m_bowl m_dog m_path m_steps m_line m_sight r hf)
end

abbrev wl_X9_neverNow (cA : Nat → ClassId) (b : Nat → Nat) (m_latest : Int32) (m_cells : Int32) (m_wide : Int32) (m_houses : Int32) (m_bowls : Int32) (m_dogs : Int32) (m_gone : Int32) (m_sights : Int32) (m_drawn : Int32) (m_cell : Nat → Int32) (m_house : Nat → Int32) (m_settings : Nat → Int32) (m_bowl : Nat → Int32) (m_dog : Nat → Int32) (m_path : Nat → Int32) (m_steps : Nat → Int32) (m_line : Nat → Int32) (m_sight : Nat → Int32) : va_W := [((b 0), .inr (9, [.ref (b 1), .ref (b 2), .ref (b 3), .ref (b 4), .int m_latest, .ref (b 5), .ref (b 6), .int m_cells, .int m_wide, .ref (b 7), .int m_houses, .ref (b 8), .ref (b 9), .int m_bowls, .ref (b 10), .int m_dogs, .ref (b 11), .int m_gone, .ref (b 12), .ref (b 13), .ref (b 14), .int m_sights, .ref (b 15), .ref (b 16), .int m_drawn])), ((b 7), .inl (cA 0, 36, .inl m_cell)), ((b 8), .inl (cA 0, 16, .inl m_house)), ((b 9), .inl (cA 0, 2, .inl m_settings)), ((b 10), .inl (cA 0, 20, .inl m_bowl)), ((b 11), .inl (cA 0, 16, .inl m_dog)), ((b 12), .inl (cA 0, 250, .inl m_path)), ((b 13), .inl (cA 0, 10, .inl m_steps)), ((b 14), .inl (cA 0, 60, .inl m_line)), ((b 15), .inl (cA 0, 24, .inl m_sight))]
abbrev rm_X9_neverNow : Room := { frames := 6, cells := 0, slots := 0, locals := 150 }
section
variable {p : Program} {l : Launch} {e : Env} {s : State} {m : MethodId} {args : Array Value} {below : List Frame} {meth : Method} {c : Code} {D : va_G} {cA : Nat → ClassId} {ws0 : va_W} {sz : Nat} {A : Nat → Prop} {Q : State → Prop}
def f_X9_neverNow_b34L4 (m_cells : Int32) (m_wide : Int32) (m_houses : Int32) (m_bowls : Int32) (m_dogs : Int32) (m_gone : Int32) (m_sights : Int32) (m_cell : Nat → Int32) (m_house : Nat → Int32) (m_settings : Nat → Int32) (m_bowl : Nat → Int32) (m_dog : Nat → Int32) (m_path : Nat → Int32) (m_steps : Nat → Int32) (m_line : Nat → Int32) (m_sight : Nat → Int32) (x2 : Int32) (s0 : Int32) (s1 : Int32) : Option ((Int32 × Int32 × Int32 × (Nat → Int32) × (Nat → Int32) × (Nat → Int32)) ⊕ (Int32 × Int32 × (Nat → Int32) × (Nat → Int32) × (Nat → Int32))) :=
  letv ((s1 ||| s0)) (fun v6 => some (.inl (v6, (x2 + 1), m_gone, m_path, m_steps, m_line)))
set_option maxHeartbeats 4000000 in
set_option maxRecDepth 100000 in
theorem k_X9_neverNow_b34L4 (C : Cx RX9 cX9_neverNow 3 D cA p s m args c) (hA : ∀ q, s.heap.size ≤ q → A q) (b : Nat → Nat) (m_latest : Int32) (m_cells : Int32) (m_wide : Int32) (m_houses : Int32) (m_bowls : Int32) (m_dogs : Int32) (m_gone : Int32) (m_sights : Int32) (m_drawn : Int32) (m_cell : Nat → Int32) (m_house : Nat → Int32) (m_settings : Nat → Int32) (m_bowl : Nat → Int32) (m_dog : Nat → Int32) (m_path : Nat → Int32) (m_steps : Nat → Int32) (m_line : Nat → Int32) (m_sight : Nat → Int32) (x2 : Int32) (s0 : Int32) (s1 : Int32) (r : (Int32 × Int32 × Int32 × (Nat → Int32) × (Nat → Int32) × (Nat → Int32)) ⊕ (Int32 × Int32 × (Nat → Int32) × (Nat → Int32) × (Nat → Int32))) (hf : f_X9_neverNow_b34L4 m_cells m_wide m_houses m_bowls m_dogs m_gone m_sights m_cell m_house m_settings m_bowl m_dog m_path m_steps m_line m_sight x2 s0 s1 = some r) (hK : Sum.elim (fun q : Int32 × Int32 × Int32 × (Nat → Int32) × (Nat → Int32) × (Nat → Int32) => At p l e rm_X9_neverNow s m args below meth c D A 0 0 Q 3 4 (wl_X9_neverNow cA b m_latest m_cells m_wide m_houses m_bowls m_dogs (q.2.2.1) m_sights m_drawn m_cell m_house m_settings m_bowl m_dog (q.2.2.2.1) (q.2.2.2.2.1) (q.2.2.2.2.2) m_sight) [(0, .ref (b 0)), (1, .int (q.1)), (2, .int (q.2.1))] []) (fun q : Int32 × Int32 × (Nat → Int32) × (Nat → Int32) × (Nat → Int32) => At p l e rm_X9_neverNow s m args below meth c D A 0 0 Q 3 42 (wl_X9_neverNow cA b m_latest m_cells m_wide m_houses m_bowls m_dogs (q.2.1) m_sights m_drawn m_cell m_house m_settings m_bowl m_dog (q.2.2.1) (q.2.2.2.1) (q.2.2.2.2) m_sight) [(0, .ref (b 0)), (1, .int (q.1))] []) r) : At p l e rm_X9_neverNow s m args below meth c D A 0 0 Q 3 34 (wl_X9_neverNow cA b m_latest m_cells m_wide m_houses m_bowls m_dogs m_gone m_sights m_drawn m_cell m_house m_settings m_bowl m_dog m_path m_steps m_line m_sight) [(0, .ref (b 0)), (2, .int x2)] [.int s0, .int s1] := by
  intro H locs ls hP hD hS hl
  have hx := C.1
  have hb := C.2.1
  have hown := C.2.2.2.1
  have hts := C.2.2.2.2.1
  unfold f_X9_neverNow_b34L4 at hf
  refine lv_ior (pc := 34) hx hb dX9_neverNow_34 ?_
  obtain ⟨v6, e_v6, hf⟩ := letv_some hf
  refine tp_i e_v6 ?_
  refine lv_istore_n (pc := 35) (lv' := [(1, .int v6), (0, .ref (b 0)), (2, .int x2)]) hx hb dX9_neverNow_35 rfl hl (Nat.le_of_ble_eq_true rfl) rfl (fun ls hl => ?_)
  refine lv_iinc (pc := 36) (v := (x2 + 1)) (lv' := [(2, .int (x2 + 1)), (1, .int v6), (0, .ref (b 0))]) hx hb dX9_neverNow_36 hl (k := 2) rfl rfl (Nat.le_of_ble_eq_true rfl) rfl (fun ls hl => ?_)
  refine lv_goto (pc := 39) (tgt := 4) hx hb dX9_neverNow_39 (by decide) ?_
  have hf := Option.some.inj hf
  subst hf
  exact hK H locs ls hP hD hS (lv_sub hl [2, 1, 0] rfl)
def f_X9_neverNow_L4 (m_cells : Int32) (m_wide : Int32) (m_houses : Int32) (m_bowls : Int32) (m_dogs : Int32) (m_sights : Int32) (m_cell : Nat → Int32) (m_house : Nat → Int32) (m_settings : Nat → Int32) (m_bowl : Nat → Int32) (m_dog : Nat → Int32) (m_sight : Nat → Int32) (x1 : Int32) (x2 : Int32) (m_gone : Int32) (m_path : Nat → Int32) (m_steps : Nat → Int32) (m_line : Nat → Int32) : Option ((Int32 × Int32 × Int32 × (Nat → Int32) × (Nat → Int32) × (Nat → Int32)) ⊕ (Int32 × Int32 × (Nat → Int32) × (Nat → Int32) × (Nat → Int32))) :=
  if m_bowls ≤ x2 then (some (.inr (x1, m_gone, m_path, m_steps, m_line))) else (letv (((1 : Int32) <<< (x2 &&& 31))) (fun v1 => bind4 (f_X9_isSeen m_cells m_wide m_houses m_bowls m_dogs v1 m_sights m_cell m_house m_settings m_bowl m_dog m_path m_steps m_line m_sight) (fun r2 c3 c4 c5 => if r2 = 0 then (f_X9_neverNow_b34L4 m_cells m_wide m_houses m_bowls m_dogs v1 m_sights m_cell m_house m_settings m_bowl m_dog c3 c4 c5 m_sight x2 (0 : Int32) x1) else (f_X9_neverNow_b34L4 m_cells m_wide m_houses m_bowls m_dogs v1 m_sights m_cell m_house m_settings m_bowl m_dog c3 c4 c5 m_sight x2 ((1 : Int32) <<< (x2 &&& 31)) x1))))
set_option maxHeartbeats 4000000 in
set_option maxRecDepth 100000 in
theorem k_X9_neverNow_L4 (C : Cx RX9 cX9_neverNow 3 D cA p s m args c) (hA : ∀ q, s.heap.size ≤ q → A q) (b : Nat → Nat) (m_latest : Int32) (m_cells : Int32) (m_wide : Int32) (m_houses : Int32) (m_bowls : Int32) (m_dogs : Int32) (m_sights : Int32) (m_drawn : Int32) (m_cell : Nat → Int32) (m_house : Nat → Int32) (m_settings : Nat → Int32) (m_bowl : Nat → Int32) (m_dog : Nat → Int32) (m_sight : Nat → Int32) (x1 : Int32) (x2 : Int32) (m_gone : Int32) (m_path : Nat → Int32) (m_steps : Nat → Int32) (m_line : Nat → Int32) (r : (Int32 × Int32 × Int32 × (Nat → Int32) × (Nat → Int32) × (Nat → Int32)) ⊕ (Int32 × Int32 × (Nat → Int32) × (Nat → Int32) × (Nat → Int32))) (hf : f_X9_neverNow_L4 m_cells m_wide m_houses m_bowls m_dogs m_sights m_cell m_house m_settings m_bowl m_dog m_sight x1 x2 m_gone m_path m_steps m_line = some r) (hK : Sum.elim (fun q : Int32 × Int32 × Int32 × (Nat → Int32) × (Nat → Int32) × (Nat → Int32) => At p l e rm_X9_neverNow s m args below meth c D A 0 0 Q 3 4 (wl_X9_neverNow cA b m_latest m_cells m_wide m_houses m_bowls m_dogs (q.2.2.1) m_sights m_drawn m_cell m_house m_settings m_bowl m_dog (q.2.2.2.1) (q.2.2.2.2.1) (q.2.2.2.2.2) m_sight) [(0, .ref (b 0)), (1, .int (q.1)), (2, .int (q.2.1))] []) (fun q : Int32 × Int32 × (Nat → Int32) × (Nat → Int32) × (Nat → Int32) => At p l e rm_X9_neverNow s m args below meth c D A 0 0 Q 3 42 (wl_X9_neverNow cA b m_latest m_cells m_wide m_houses m_bowls m_dogs (q.2.1) m_sights m_drawn m_cell m_house m_settings m_bowl m_dog (q.2.2.1) (q.2.2.2.1) (q.2.2.2.2) m_sight) [(0, .ref (b 0)), (1, .int (q.1))] []) r) : At p l e rm_X9_neverNow s m args below meth c D A 0 0 Q 3 4 (wl_X9_neverNow cA b m_latest m_cells m_wide m_houses m_bowls m_dogs m_gone m_sights m_drawn m_cell m_house m_settings m_bowl m_dog m_path m_steps m_line m_sight) [(0, .ref (b 0)), (1, .int x1), (2, .int x2)] [] := by
  intro H locs ls hP hD hS hl
  have hx := C.1
  have hb := C.2.1
  have hown := C.2.2.2.1
  have hts := C.2.2.2.2.1
  unfold f_X9_neverNow_L4 at hf
  refine lv_iload_n (pc := 4) hx hb dX9_neverNow_4 rfl (lv_at hl 2 rfl) ?_
  refine lv_aload_n (pc := 5) hx hb dX9_neverNow_5 rfl (lv_at hl 0 rfl) ?_
  refine g_get (pc := 6) C fg_X9_133 hP 0 rfl rfl dX9_neverNow_6 ?_
  refine lv_icmp_ge (pc := 9) (tgt := 42) hx hb dX9_neverNow_9 (by decide) (fun hc => ?_) (fun hc => ?_)
  · have hf := (if_pos hc).symm.trans hf
    have hf := Option.some.inj hf
    subst hf
    exact hK H locs ls hP hD hS (lv_sub hl [0, 1] rfl)
  · have hf := (if_neg hc).symm.trans hf
    refine lv_aload_n (pc := 12) hx hb dX9_neverNow_12 rfl (lv_at hl 0 rfl) ?_
    refine lv_iconst (pc := 13) (v := 1) hx hb dX9_neverNow_13 ic_1 ?_
    refine lv_iload_n (pc := 14) hx hb dX9_neverNow_14 rfl (lv_at hl 2 rfl) ?_
    refine lv_ishl (pc := 15) hx hb dX9_neverNow_15 ?_
    obtain ⟨v1, e_v1, hf⟩ := letv_some hf
    refine tp_i e_v1 ?_
    refine g_put (pc := 16) C fg_X9_152 ft_X9_17 hP hD hS 0 rfl rfl rfl (Nat.le_of_ble_eq_true rfl) dX9_neverNow_16 (fun H locs hP hD hS => ?_)
    have hP : va_P D classes (wl_X9_neverNow cA b m_latest m_cells m_wide m_houses m_bowls m_dogs v1 m_sights m_drawn m_cell m_house m_settings m_bowl m_dog m_path m_steps m_line m_sight) H := hP
    have hD : va_D A (wl_X9_neverNow cA b m_latest m_cells m_wide m_houses m_bowls m_dogs v1 m_sights m_drawn m_cell m_house m_settings m_bowl m_dog m_path m_steps m_line m_sight) := hD
    refine lv_iload_n (pc := 19) hx hb dX9_neverNow_19 rfl (lv_at hl 1 rfl) ?_
    refine lv_aload_n (pc := 20) hx hb dX9_neverNow_20 rfl (lv_at hl 0 rfl) ?_
    obtain ⟨r2, c3, c4, c5, hq, hf⟩ := bind4_some hf
    refine fin2_i (wl_X9_neverNow cA b m_latest m_cells m_wide m_houses m_bowls m_dogs v1 m_sights m_drawn m_cell m_house m_settings m_bowl m_dog c3 c4 c5 m_sight) (run_V (rest := [.int x1]) (pc := 21) (As := []) C mf_X9_233 (c_X9_isSeen l D cA b m_latest m_cells m_wide m_houses m_bowls m_dogs v1 m_sights m_drawn m_cell m_house m_settings m_bowl m_dog m_path m_steps m_line m_sight (r2, c3, c4, c5) hq H.size) rfl rfl ⟨(Nat.le_of_ble_eq_true rfl), (Nat.le_of_ble_eq_true rfl)⟩ (preV_of C hP hD [0, 1, 2, 3, 4, 5, 6, 7, 8, 9] rfl (pl_nd pv_156) 0 rfl rfl rfl) rfl hl.1 rfl (Nat.le_of_ble_eq_true rfl) dX9_neverNow_21 ⟨Nat.zero_le _, Nat.zero_le _⟩) hP hD hS hA [0, 1, 2, 3, 4, 5, 6, 7, 8, 9] [] rfl rfl rfl rfl pv_156 (fun H locs hP hS => ?_)
    have hD : va_D A (wl_X9_neverNow cA b m_latest m_cells m_wide m_houses m_bowls m_dogs v1 m_sights m_drawn m_cell m_house m_settings m_bowl m_dog c3 c4 c5 m_sight) := vd_a hD rfl
    refine lv_if_eq (pc := 24) (tgt := 33) hx hb dX9_neverNow_24 (by decide) (fun hc => ?_) (fun hc => ?_)
    · have hf := (if_pos hc).symm.trans hf
      refine lv_iconst (pc := 33) (v := 0) hx hb dX9_neverNow_33 ic_0 ?_
      exact k_X9_neverNow_b34L4 C hA b m_latest m_cells m_wide m_houses m_bowls m_dogs v1 m_sights m_drawn m_cell m_house m_settings m_bowl m_dog c3 c4 c5 m_sight x2 (0 : Int32) x1 r hf hK H locs ls hP hD hS (lv_sub hl [0, 2] rfl)
    · have hf := (if_neg hc).symm.trans hf
      refine lv_iconst (pc := 27) (v := 1) hx hb dX9_neverNow_27 ic_1 ?_
      refine lv_iload_n (pc := 28) hx hb dX9_neverNow_28 rfl (lv_at hl 2 rfl) ?_
      refine lv_ishl (pc := 29) hx hb dX9_neverNow_29 ?_
      refine lv_goto (pc := 30) (tgt := 34) hx hb dX9_neverNow_30 (by decide) ?_
      exact k_X9_neverNow_b34L4 C hA b m_latest m_cells m_wide m_houses m_bowls m_dogs v1 m_sights m_drawn m_cell m_house m_settings m_bowl m_dog c3 c4 c5 m_sight x2 ((1 : Int32) <<< (x2 &&& 31)) x1 r hf hK H locs ls hP hD hS (lv_sub hl [0, 2] rfl)
theorem kl_X9_neverNow_L4 (C : Cx RX9 cX9_neverNow 3 D cA p s m args c) (hA : ∀ q, s.heap.size ≤ q → A q) (b : Nat → Nat) (m_latest : Int32) (m_cells : Int32) (m_wide : Int32) (m_houses : Int32) (m_bowls : Int32) (m_dogs : Int32) (m_sights : Int32) (m_drawn : Int32) (m_cell : Nat → Int32) (m_house : Nat → Int32) (m_settings : Nat → Int32) (m_bowl : Nat → Int32) (m_dog : Nat → Int32) (m_sight : Nat → Int32) : ∀ (n : Nat) (q : Int32 × Int32 × Int32 × (Nat → Int32) × (Nat → Int32) × (Nat → Int32)) (z : (Int32 × Int32 × (Nat → Int32) × (Nat → Int32) × (Nat → Int32))), loopF (fun q : Int32 × Int32 × Int32 × (Nat → Int32) × (Nat → Int32) × (Nat → Int32) => f_X9_neverNow_L4 m_cells m_wide m_houses m_bowls m_dogs m_sights m_cell m_house m_settings m_bowl m_dog m_sight q.1 q.2.1 q.2.2.1 q.2.2.2.1 q.2.2.2.2.1 q.2.2.2.2.2) n q = some z → (fun q : Int32 × Int32 × (Nat → Int32) × (Nat → Int32) × (Nat → Int32) => At p l e rm_X9_neverNow s m args below meth c D A 0 0 Q 3 42 (wl_X9_neverNow cA b m_latest m_cells m_wide m_houses m_bowls m_dogs (q.2.1) m_sights m_drawn m_cell m_house m_settings m_bowl m_dog (q.2.2.1) (q.2.2.2.1) (q.2.2.2.2) m_sight) [(0, .ref (b 0)), (1, .int (q.1))] []) z → At p l e rm_X9_neverNow s m args below meth c D A 0 0 Q 3 4 (wl_X9_neverNow cA b m_latest m_cells m_wide m_houses m_bowls m_dogs (q.2.2.1) m_sights m_drawn m_cell m_house m_settings m_bowl m_dog (q.2.2.2.1) (q.2.2.2.2.1) (q.2.2.2.2.2) m_sight) [(0, .ref (b 0)), (1, .int (q.1)), (2, .int (q.2.1))] [] :=
  loop_lem (WP := fun q : Int32 × Int32 × Int32 × (Nat → Int32) × (Nat → Int32) × (Nat → Int32) => At p l e rm_X9_neverNow s m args below meth c D A 0 0 Q 3 4 (wl_X9_neverNow cA b m_latest m_cells m_wide m_houses m_bowls m_dogs (q.2.2.1) m_sights m_drawn m_cell m_house m_settings m_bowl m_dog (q.2.2.2.1) (q.2.2.2.2.1) (q.2.2.2.2.2) m_sight) [(0, .ref (b 0)), (1, .int (q.1)), (2, .int (q.2.1))] []) (WE := (fun q : Int32 × Int32 × (Nat → Int32) × (Nat → Int32) × (Nat → Int32) => At p l e rm_X9_neverNow s m args below meth c D A 0 0 Q 3 42 (wl_X9_neverNow cA b m_latest m_cells m_wide m_houses m_bowls m_dogs (q.2.1) m_sights m_drawn m_cell m_house m_settings m_bowl m_dog (q.2.2.1) (q.2.2.2.1) (q.2.2.2.2) m_sight) [(0, .ref (b 0)), (1, .int (q.1))] [])) (fun q r hf hK => k_X9_neverNow_L4 C hA b m_latest m_cells m_wide m_houses m_bowls m_dogs m_sights m_drawn m_cell m_house m_settings m_bowl m_dog m_sight q.1 q.2.1 q.2.2.1 q.2.2.2.1 q.2.2.2.2.1 q.2.2.2.2.2 r hf hK)
def f_X9_neverNow (m_cells : Int32) (m_wide : Int32) (m_houses : Int32) (m_bowls : Int32) (m_dogs : Int32) (m_gone : Int32) (m_sights : Int32) (m_cell : Nat → Int32) (m_house : Nat → Int32) (m_settings : Nat → Int32) (m_bowl : Nat → Int32) (m_dog : Nat → Int32) (m_path : Nat → Int32) (m_steps : Nat → Int32) (m_line : Nat → Int32) (m_sight : Nat → Int32) : Option (Int32 × Int32 × (Nat → Int32) × (Nat → Int32) × (Nat → Int32)) :=
  bind5 (loopF (fun q : Int32 × Int32 × Int32 × (Nat → Int32) × (Nat → Int32) × (Nat → Int32) => f_X9_neverNow_L4 m_cells m_wide m_houses m_bowls m_dogs m_sights m_cell m_house m_settings m_bowl m_dog m_sight q.1 q.2.1 q.2.2.1 q.2.2.2.1 q.2.2.2.2.1 q.2.2.2.2.2) FU ((0 : Int32), (0 : Int32), m_gone, m_path, m_steps, m_line)) (fun u7 u8 u9 u10 u11 => some (u7, (0 : Int32), u9, u10, u11))
set_option maxHeartbeats 4000000 in
set_option maxRecDepth 100000 in
theorem k_X9_neverNow (C : Cx RX9 cX9_neverNow 3 D cA p s m args c) (hr : meth.sig.returnType = (some .int)) (hlk : meth.locks = false) (hA : ∀ q, s.heap.size ≤ q → va_A ws0 sz q) (b : Nat → Nat) (m_latest : Int32) (m_cells : Int32) (m_wide : Int32) (m_houses : Int32) (m_bowls : Int32) (m_dogs : Int32) (m_gone : Int32) (m_sights : Int32) (m_drawn : Int32) (m_cell : Nat → Int32) (m_house : Nat → Int32) (m_settings : Nat → Int32) (m_bowl : Nat → Int32) (m_dog : Nat → Int32) (m_path : Nat → Int32) (m_steps : Nat → Int32) (m_line : Nat → Int32) (m_sight : Nat → Int32) (r : Int32 × Int32 × (Nat → Int32) × (Nat → Int32) × (Nat → Int32)) (hf : f_X9_neverNow m_cells m_wide m_houses m_bowls m_dogs m_gone m_sights m_cell m_house m_settings m_bowl m_dog m_path m_steps m_line m_sight = some r) : At p l e rm_X9_neverNow s m args below meth c D (va_A ws0 sz) 0 0 (MQ below (PostI D r.1 ws0 (wl_X9_neverNow cA b m_latest m_cells m_wide m_houses m_bowls m_dogs (r.2.1) m_sights m_drawn m_cell m_house m_settings m_bowl m_dog (r.2.2.1) (r.2.2.2.1) (r.2.2.2.2) m_sight) sz) args s 0 0 (va_A ws0 sz)) 3 0 (wl_X9_neverNow cA b m_latest m_cells m_wide m_houses m_bowls m_dogs m_gone m_sights m_drawn m_cell m_house m_settings m_bowl m_dog m_path m_steps m_line m_sight) [(0, .ref (b 0))] [] := by
  intro H locs ls hP hD hS hl
  have hx := C.1
  have hb := C.2.1
  have hown := C.2.2.2.1
  have hts := C.2.2.2.2.1
  unfold f_X9_neverNow at hf
  refine lv_iconst (pc := 0) (v := 0) hx hb dX9_neverNow_0 ic_0 ?_
  refine lv_istore_n (pc := 1) (lv' := [(1, .int (0 : Int32)), (0, .ref (b 0))]) hx hb dX9_neverNow_1 rfl hl (Nat.le_of_ble_eq_true rfl) rfl (fun ls hl => ?_)
  refine lv_iconst (pc := 2) (v := 0) hx hb dX9_neverNow_2 ic_0 ?_
  refine lv_istore_n (pc := 3) (lv' := [(2, .int (0 : Int32)), (1, .int (0 : Int32)), (0, .ref (b 0))]) hx hb dX9_neverNow_3 rfl hl (Nat.le_of_ble_eq_true rfl) rfl (fun ls hl => ?_)
  obtain ⟨u7, u8, u9, u10, u11, hq, hf⟩ := bind5_some hf
  refine kl_X9_neverNow_L4 C hA b m_latest m_cells m_wide m_houses m_bowls m_dogs m_sights m_drawn m_cell m_house m_settings m_bowl m_dog m_sight FU ((0 : Int32), (0 : Int32), m_gone, m_path, m_steps, m_line) _ hq ?_ H locs ls hP hD hS (lv_sub hl [2, 1, 0] rfl)
  intro H locs ls hP hD hS hl
  have hP : va_P D classes (wl_X9_neverNow cA b m_latest m_cells m_wide m_houses m_bowls m_dogs u8 m_sights m_drawn m_cell m_house m_settings m_bowl m_dog u9 u10 u11 m_sight) H := hP
  have hD : va_D (va_A ws0 sz) (wl_X9_neverNow cA b m_latest m_cells m_wide m_houses m_bowls m_dogs u8 m_sights m_drawn m_cell m_house m_settings m_bowl m_dog u9 u10 u11 m_sight) := hD
  have hl : lv_has ls 3 [(0, .ref (b 0)), (1, .int u7)] := hl
  refine lv_aload_n (pc := 42) hx hb dX9_neverNow_42 rfl (lv_at hl 0 rfl) ?_
  refine lv_iconst (pc := 43) (v := 0) hx hb dX9_neverNow_43 ic_0 ?_
  refine g_put (pc := 44) C fg_X9_152 ft_X9_17 hP hD hS 0 rfl rfl rfl (Nat.le_of_ble_eq_true rfl) dX9_neverNow_44 (fun H locs hP hD hS => ?_)
  have hP : va_P D classes (wl_X9_neverNow cA b m_latest m_cells m_wide m_houses m_bowls m_dogs (0 : Int32) m_sights m_drawn m_cell m_house m_settings m_bowl m_dog u9 u10 u11 m_sight) H := hP
  have hD : va_D (va_A ws0 sz) (wl_X9_neverNow cA b m_latest m_cells m_wide m_houses m_bowls m_dogs (0 : Int32) m_sights m_drawn m_cell m_house m_settings m_bowl m_dog u9 u10 u11 m_sight) := hD
  refine lv_iload_n (pc := 47) hx hb dX9_neverNow_47 rfl (lv_at hl 1 rfl) ?_
  have hf := Option.some.inj hf
  subst hf
  exact ret_i C hr hlk hP hS dX9_neverNow_48
set_option maxRecDepth 100000 in
theorem c_X9_neverNow (l : Launch) (D : va_G) (cA : Nat → ClassId) (b : Nat → Nat) (m_latest : Int32) (m_cells : Int32) (m_wide : Int32) (m_houses : Int32) (m_bowls : Int32) (m_dogs : Int32) (m_gone : Int32) (m_sights : Int32) (m_drawn : Int32) (m_cell : Nat → Int32) (m_house : Nat → Int32) (m_settings : Nat → Int32) (m_bowl : Nat → Int32) (m_dog : Nat → Int32) (m_path : Nat → Int32) (m_steps : Nat → Int32) (m_line : Nat → Int32) (m_sight : Nat → Int32) (r : Int32 × Int32 × (Nat → Int32) × (Nat → Int32) × (Nat → Int32)) (hf : f_X9_neverNow m_cells m_wide m_houses m_bowls m_dogs m_gone m_sights m_cell m_house m_settings m_bowl m_dog m_path m_steps m_line m_sight = some r) (sz : Nat) : Met l yX9_neverNow (Cond.code yX9_neverNow cX9_neverNow 3 (some .int) :: lw_good) rm_X9_neverNow (PreX D cA [.ref (b 0)] sz (wl_X9_neverNow cA b m_latest m_cells m_wide m_houses m_bowls m_dogs m_gone m_sights m_drawn m_cell m_house m_settings m_bowl m_dog m_path m_steps m_line m_sight)) (PostI D r.1 (wl_X9_neverNow cA b m_latest m_cells m_wide m_houses m_bowls m_dogs m_gone m_sights m_drawn m_cell m_house m_settings m_bowl m_dog m_path m_steps m_line m_sight) (wl_X9_neverNow cA b m_latest m_cells m_wide m_houses m_bowls m_dogs (r.2.1) m_sights m_drawn m_cell m_house m_settings m_bowl m_dog (r.2.2.1) (r.2.2.2.1) (r.2.2.2.2) m_sight) sz) 0 0 (va_A (wl_X9_neverNow cA b m_latest m_cells m_wide m_houses m_bowls m_dogs m_gone m_sights m_drawn m_cell m_house m_settings m_bowl m_dog m_path m_steps m_line m_sight) sz) :=
  met_of (by decide) (Nat.le_of_ble_eq_true rfl) (fun p e s m args below meth c C hr hlk hA => k_X9_neverNow C hr hlk hA b m_latest m_cells m_wide m_houses m_bowls m_dogs m_gone m_sights m_drawn m_cell m_house m_settings m_bowl m_dog m_path m_steps m_line m_sight r hf)
end

abbrev wl_X9_never (cA : Nat → ClassId) (b : Nat → Nat) (m_latest : Int32) (m_cells : Int32) (m_wide : Int32) (m_houses : Int32) (m_bowls : Int32) (m_dogs : Int32) (m_gone : Int32) (m_sights : Int32) (m_drawn : Int32) (m_bytes : Nat → Int32) (m_typed : Nat → Int32) (m_cell : Nat → Int32) (m_house : Nat → Int32) (m_settings : Nat → Int32) (m_bowl : Nat → Int32) (m_dog : Nat → Int32) (m_path : Nat → Int32) (m_steps : Nat → Int32) (m_line : Nat → Int32) (m_sight : Nat → Int32) : va_W := [((b 0), .inr (9, [.ref (b 1), .ref (b 2), .ref (b 3), .ref (b 4), .int m_latest, .ref (b 5), .ref (b 6), .int m_cells, .int m_wide, .ref (b 7), .int m_houses, .ref (b 8), .ref (b 9), .int m_bowls, .ref (b 10), .int m_dogs, .ref (b 11), .int m_gone, .ref (b 12), .ref (b 13), .ref (b 14), .int m_sights, .ref (b 15), .ref (b 16), .int m_drawn])), ((b 5), .inl (cA 0, 84, .inl m_bytes)), ((b 6), .inl (cA 0, 2, .inl m_typed)), ((b 7), .inl (cA 0, 36, .inl m_cell)), ((b 8), .inl (cA 0, 16, .inl m_house)), ((b 9), .inl (cA 0, 2, .inl m_settings)), ((b 10), .inl (cA 0, 20, .inl m_bowl)), ((b 11), .inl (cA 0, 16, .inl m_dog)), ((b 12), .inl (cA 0, 250, .inl m_path)), ((b 13), .inl (cA 0, 10, .inl m_steps)), ((b 14), .inl (cA 0, 60, .inl m_line)), ((b 15), .inl (cA 0, 24, .inl m_sight))]
abbrev rm_X9_never : Room := { frames := 7, cells := 0, slots := 0, locals := 172 }
section
variable {p : Program} {l : Launch} {e : Env} {s : State} {m : MethodId} {args : Array Value} {below : List Frame} {meth : Method} {c : Code} {D : va_G} {cA : Nat → ClassId} {ws0 : va_W} {sz : Nat} {A : Nat → Prop} {Q : State → Prop}
def f_X9_never (m_cells : Int32) (m_wide : Int32) (m_houses : Int32) (m_bowls : Int32) (m_dogs : Int32) (m_gone : Int32) (m_sights : Int32) (m_bytes : Nat → Int32) (m_typed : Nat → Int32) (m_cell : Nat → Int32) (m_house : Nat → Int32) (m_settings : Nat → Int32) (m_bowl : Nat → Int32) (m_dog : Nat → Int32) (m_path : Nat → Int32) (m_steps : Nat → Int32) (m_line : Nat → Int32) (m_sight : Nat → Int32) : Option (Int32 × Int32 × Int32 × Int32 × Int32 × (Nat → Int32) × (Nat → Int32) × (Nat → Int32) × (Nat → Int32) × (Nat → Int32)) :=
  bind8 (f_X9_find m_cells m_wide m_houses m_bowls m_dogs m_gone m_bytes m_typed m_cell m_house m_settings m_bowl m_dog m_path m_steps m_line) (fun c1 c2 c3 c4 c5 c6 c7 c8 => bind5 (f_X9_neverNow c1 c2 c3 m_bowls m_dogs m_gone m_sights c4 c5 m_settings m_bowl m_dog c6 c7 c8 m_sight) (fun r9 c10 c11 c12 c13 => some (r9, c1, c2, c3, c10, c4, c5, c11, c12, c13)))
set_option maxHeartbeats 4000000 in
set_option maxRecDepth 100000 in
theorem k_X9_never (C : Cx RX9 cX9_never 1 D cA p s m args c) (hr : meth.sig.returnType = (some .int)) (hlk : meth.locks = false) (hA : ∀ q, s.heap.size ≤ q → va_A ws0 sz q) (b : Nat → Nat) (m_latest : Int32) (m_cells : Int32) (m_wide : Int32) (m_houses : Int32) (m_bowls : Int32) (m_dogs : Int32) (m_gone : Int32) (m_sights : Int32) (m_drawn : Int32) (m_bytes : Nat → Int32) (m_typed : Nat → Int32) (m_cell : Nat → Int32) (m_house : Nat → Int32) (m_settings : Nat → Int32) (m_bowl : Nat → Int32) (m_dog : Nat → Int32) (m_path : Nat → Int32) (m_steps : Nat → Int32) (m_line : Nat → Int32) (m_sight : Nat → Int32) (r : Int32 × Int32 × Int32 × Int32 × Int32 × (Nat → Int32) × (Nat → Int32) × (Nat → Int32) × (Nat → Int32) × (Nat → Int32)) (hf : f_X9_never m_cells m_wide m_houses m_bowls m_dogs m_gone m_sights m_bytes m_typed m_cell m_house m_settings m_bowl m_dog m_path m_steps m_line m_sight = some r) : At p l e rm_X9_never s m args below meth c D (va_A ws0 sz) 0 0 (MQ below (PostI D r.1 ws0 (wl_X9_never cA b m_latest (r.2.1) (r.2.2.1) (r.2.2.2.1) m_bowls m_dogs (r.2.2.2.2.1) m_sights m_drawn m_bytes m_typed (r.2.2.2.2.2.1) (r.2.2.2.2.2.2.1) m_settings m_bowl m_dog (r.2.2.2.2.2.2.2.1) (r.2.2.2.2.2.2.2.2.1) (r.2.2.2.2.2.2.2.2.2) m_sight) sz) args s 0 0 (va_A ws0 sz)) 1 0 (wl_X9_never cA b m_latest m_cells m_wide m_houses m_bowls m_dogs m_gone m_sights m_drawn m_bytes m_typed m_cell m_house m_settings m_bowl m_dog m_path m_steps m_line m_sight) [(0, .ref (b 0))] [] := by
  intro H locs ls hP hD hS hl
  have hx := C.1
  have hb := C.2.1
  have hown := C.2.2.2.1
  have hts := C.2.2.2.2.1
  unfold f_X9_never at hf
  refine lv_aload_n (pc := 0) hx hb dX9_never_0 rfl (lv_at hl 0 rfl) ?_
  obtain ⟨c1, c2, c3, c4, c5, c6, c7, c8, hq, hf⟩ := bind8_some hf
  refine fin2_v (wl_X9_never cA b m_latest c1 c2 c3 m_bowls m_dogs m_gone m_sights m_drawn m_bytes m_typed c4 c5 m_settings m_bowl m_dog c6 c7 c8 m_sight) (run_V (rest := []) (pc := 1) (As := []) C mf_X9_184 (c_X9_find l D cA b m_latest m_cells m_wide m_houses m_bowls m_dogs m_gone m_sights m_drawn m_bytes m_typed m_cell m_house m_settings m_bowl m_dog m_path m_steps m_line (c1, c2, c3, c4, c5, c6, c7, c8) hq H.size) rfl rfl ⟨(Nat.le_of_ble_eq_true rfl), (Nat.le_of_ble_eq_true rfl)⟩ (preV_of C hP hD [0, 1, 2, 3, 4, 5, 6, 7, 8, 9, 10] rfl (pl_nd pv_157) 0 rfl rfl rfl) rfl hl.1 rfl (Nat.le_of_ble_eq_true rfl) dX9_never_1 ⟨Nat.zero_le _, Nat.zero_le _⟩) hP hD hS hA [0, 1, 2, 3, 4, 5, 6, 7, 8, 9, 10] [11] rfl rfl rfl rfl pv_157 (fun H locs hP hS => ?_)
  have hD : va_D (va_A ws0 sz) (wl_X9_never cA b m_latest c1 c2 c3 m_bowls m_dogs m_gone m_sights m_drawn m_bytes m_typed c4 c5 m_settings m_bowl m_dog c6 c7 c8 m_sight) := vd_a hD rfl
  refine lv_aload_n (pc := 4) hx hb dX9_never_4 rfl (lv_at hl 0 rfl) ?_
  obtain ⟨r9, c10, c11, c12, c13, hq, hf⟩ := bind5_some hf
  refine fin2_i (wl_X9_never cA b m_latest c1 c2 c3 m_bowls m_dogs c10 m_sights m_drawn m_bytes m_typed c4 c5 m_settings m_bowl m_dog c11 c12 c13 m_sight) (run_V (rest := []) (pc := 5) (As := []) C mf_X9_237 (c_X9_neverNow l D cA b m_latest c1 c2 c3 m_bowls m_dogs m_gone m_sights m_drawn c4 c5 m_settings m_bowl m_dog c6 c7 c8 m_sight (r9, c10, c11, c12, c13) hq H.size) rfl rfl ⟨(Nat.le_of_ble_eq_true rfl), (Nat.le_of_ble_eq_true rfl)⟩ (preV_of C hP hD [0, 3, 4, 5, 6, 7, 8, 9, 10, 11] rfl (pl_nd pv_158) 0 rfl rfl rfl) rfl hl.1 rfl (Nat.le_of_ble_eq_true rfl) dX9_never_5 ⟨Nat.zero_le _, Nat.zero_le _⟩) hP hD hS hA [0, 3, 4, 5, 6, 7, 8, 9, 10, 11] [1, 2] rfl rfl rfl rfl pv_158 (fun H locs hP hS => ?_)
  have hD : va_D (va_A ws0 sz) (wl_X9_never cA b m_latest c1 c2 c3 m_bowls m_dogs c10 m_sights m_drawn m_bytes m_typed c4 c5 m_settings m_bowl m_dog c11 c12 c13 m_sight) := vd_a hD rfl
  have hf := Option.some.inj hf
  subst hf
  exact ret_i C hr hlk hP hS dX9_never_8
set_option maxRecDepth 100000 in
theorem c_X9_never (l : Launch) (D : va_G) (cA : Nat → ClassId) (b : Nat → Nat) (m_latest : Int32) (m_cells : Int32) (m_wide : Int32) (m_houses : Int32) (m_bowls : Int32) (m_dogs : Int32) (m_gone : Int32) (m_sights : Int32) (m_drawn : Int32) (m_bytes : Nat → Int32) (m_typed : Nat → Int32) (m_cell : Nat → Int32) (m_house : Nat → Int32) (m_settings : Nat → Int32) (m_bowl : Nat → Int32) (m_dog : Nat → Int32) (m_path : Nat → Int32) (m_steps : Nat → Int32) (m_line : Nat → Int32) (m_sight : Nat → Int32) (r : Int32 × Int32 × Int32 × Int32 × Int32 × (Nat → Int32) × (Nat → Int32) × (Nat → Int32) × (Nat → Int32) × (Nat → Int32)) (hf : f_X9_never m_cells m_wide m_houses m_bowls m_dogs m_gone m_sights m_bytes m_typed m_cell m_house m_settings m_bowl m_dog m_path m_steps m_line m_sight = some r) (sz : Nat) : Met l yX9_never (Cond.code yX9_never cX9_never 1 (some .int) :: lw_good) rm_X9_never (PreX D cA [.ref (b 0)] sz (wl_X9_never cA b m_latest m_cells m_wide m_houses m_bowls m_dogs m_gone m_sights m_drawn m_bytes m_typed m_cell m_house m_settings m_bowl m_dog m_path m_steps m_line m_sight)) (PostI D r.1 (wl_X9_never cA b m_latest m_cells m_wide m_houses m_bowls m_dogs m_gone m_sights m_drawn m_bytes m_typed m_cell m_house m_settings m_bowl m_dog m_path m_steps m_line m_sight) (wl_X9_never cA b m_latest (r.2.1) (r.2.2.1) (r.2.2.2.1) m_bowls m_dogs (r.2.2.2.2.1) m_sights m_drawn m_bytes m_typed (r.2.2.2.2.2.1) (r.2.2.2.2.2.2.1) m_settings m_bowl m_dog (r.2.2.2.2.2.2.2.1) (r.2.2.2.2.2.2.2.2.1) (r.2.2.2.2.2.2.2.2.2) m_sight) sz) 0 0 (va_A (wl_X9_never cA b m_latest m_cells m_wide m_houses m_bowls m_dogs m_gone m_sights m_drawn m_bytes m_typed m_cell m_house m_settings m_bowl m_dog m_path m_steps m_line m_sight) sz) :=
  met_of (by decide) (Nat.le_of_ble_eq_true rfl) (fun p e s m args below meth c C hr hlk hA => k_X9_never C hr hlk hA b m_latest m_cells m_wide m_houses m_bowls m_dogs m_gone m_sights m_drawn m_bytes m_typed m_cell m_house m_settings m_bowl m_dog m_path m_steps m_line m_sight r hf)
end

abbrev wl_X9_beganNow (cA : Nat → ClassId) (b : Nat → Nat) (m_latest : Int32) (m_cells : Int32) (m_wide : Int32) (m_houses : Int32) (m_bowls : Int32) (m_dogs : Int32) (m_gone : Int32) (m_sights : Int32) (m_drawn : Int32) (m_cell : Nat → Int32) (m_house : Nat → Int32) (m_settings : Nat → Int32) (m_bowl : Nat → Int32) (m_dog : Nat → Int32) (m_path : Nat → Int32) (m_steps : Nat → Int32) (m_line : Nat → Int32) (m_sight : Nat → Int32) : va_W := [((b 0), .inr (9, [.ref (b 1), .ref (b 2), .ref (b 3), .ref (b 4), .int m_latest, .ref (b 5), .ref (b 6), .int m_cells, .int m_wide, .ref (b 7), .int m_houses, .ref (b 8), .ref (b 9), .int m_bowls, .ref (b 10), .int m_dogs, .ref (b 11), .int m_gone, .ref (b 12), .ref (b 13), .ref (b 14), .int m_sights, .ref (b 15), .ref (b 16), .int m_drawn])), ((b 7), .inl (cA 0, 36, .inl m_cell)), ((b 8), .inl (cA 0, 16, .inl m_house)), ((b 9), .inl (cA 0, 2, .inl m_settings)), ((b 10), .inl (cA 0, 20, .inl m_bowl)), ((b 11), .inl (cA 0, 16, .inl m_dog)), ((b 12), .inl (cA 0, 250, .inl m_path)), ((b 13), .inl (cA 0, 10, .inl m_steps)), ((b 14), .inl (cA 0, 60, .inl m_line)), ((b 15), .inl (cA 0, 24, .inl m_sight))]
abbrev rm_X9_beganNow : Room := { frames := 6, cells := 0, slots := 0, locals := 150 }
section
variable {p : Program} {l : Launch} {e : Env} {s : State} {m : MethodId} {args : Array Value} {below : List Frame} {meth : Method} {c : Code} {D : va_G} {cA : Nat → ClassId} {ws0 : va_W} {sz : Nat} {A : Nat → Prop} {Q : State → Prop}
def f_X9_beganNow_b39L11 (m_cells : Int32) (m_wide : Int32) (m_houses : Int32) (m_bowls : Int32) (m_dogs : Int32) (m_gone : Int32) (m_sights : Int32) (m_cell : Nat → Int32) (m_house : Nat → Int32) (m_settings : Nat → Int32) (m_bowl : Nat → Int32) (m_dog : Nat → Int32) (m_path : Nat → Int32) (m_steps : Nat → Int32) (m_line : Nat → Int32) (m_sight : Nat → Int32) (x3 : Int32) (s0 : Int32) (s1 : Int32) : Option ((Int32 × Int32 × (Nat → Int32) × (Nat → Int32) × (Nat → Int32) × (Nat → Int32)) ⊕ (Int32 × (Nat → Int32) × (Nat → Int32) × (Nat → Int32) × (Nat → Int32))) :=
  letv ((s1 ||| s0)) (fun v6 => some (.inl (v6, (x3 + 1), m_settings, m_path, m_steps, m_line)))
set_option maxHeartbeats 4000000 in
set_option maxRecDepth 100000 in
theorem k_X9_beganNow_b39L11 (C : Cx RX9 cX9_beganNow 4 D cA p s m args c) (hA : ∀ q, s.heap.size ≤ q → A q) (b : Nat → Nat) (m_latest : Int32) (m_cells : Int32) (m_wide : Int32) (m_houses : Int32) (m_bowls : Int32) (m_dogs : Int32) (m_gone : Int32) (m_sights : Int32) (m_drawn : Int32) (m_cell : Nat → Int32) (m_house : Nat → Int32) (m_settings : Nat → Int32) (m_bowl : Nat → Int32) (m_dog : Nat → Int32) (m_path : Nat → Int32) (m_steps : Nat → Int32) (m_line : Nat → Int32) (m_sight : Nat → Int32) (x1 : Int32) (x3 : Int32) (s0 : Int32) (s1 : Int32) (r : (Int32 × Int32 × (Nat → Int32) × (Nat → Int32) × (Nat → Int32) × (Nat → Int32)) ⊕ (Int32 × (Nat → Int32) × (Nat → Int32) × (Nat → Int32) × (Nat → Int32))) (hf : f_X9_beganNow_b39L11 m_cells m_wide m_houses m_bowls m_dogs m_gone m_sights m_cell m_house m_settings m_bowl m_dog m_path m_steps m_line m_sight x3 s0 s1 = some r) (hK : Sum.elim (fun q : Int32 × Int32 × (Nat → Int32) × (Nat → Int32) × (Nat → Int32) × (Nat → Int32) => At p l e rm_X9_beganNow s m args below meth c D A 0 0 Q 4 11 (wl_X9_beganNow cA b m_latest m_cells m_wide m_houses m_bowls m_dogs m_gone m_sights m_drawn m_cell m_house (q.2.2.1) m_bowl m_dog (q.2.2.2.1) (q.2.2.2.2.1) (q.2.2.2.2.2) m_sight) [(0, .ref (b 0)), (1, .int x1), (2, .int (q.1)), (3, .int (q.2.1))] []) (fun q : Int32 × (Nat → Int32) × (Nat → Int32) × (Nat → Int32) × (Nat → Int32) => At p l e rm_X9_beganNow s m args below meth c D A 0 0 Q 4 47 (wl_X9_beganNow cA b m_latest m_cells m_wide m_houses m_bowls m_dogs m_gone m_sights m_drawn m_cell m_house (q.2.1) m_bowl m_dog (q.2.2.1) (q.2.2.2.1) (q.2.2.2.2) m_sight) [(0, .ref (b 0)), (1, .int x1), (2, .int (q.1))] []) r) : At p l e rm_X9_beganNow s m args below meth c D A 0 0 Q 4 39 (wl_X9_beganNow cA b m_latest m_cells m_wide m_houses m_bowls m_dogs m_gone m_sights m_drawn m_cell m_house m_settings m_bowl m_dog m_path m_steps m_line m_sight) [(0, .ref (b 0)), (1, .int x1), (3, .int x3)] [.int s0, .int s1] := by
  intro H locs ls hP hD hS hl
  have hx := C.1
  have hb := C.2.1
  have hown := C.2.2.2.1
  have hts := C.2.2.2.2.1
  unfold f_X9_beganNow_b39L11 at hf
  refine lv_ior (pc := 39) hx hb dX9_beganNow_39 ?_
  obtain ⟨v6, e_v6, hf⟩ := letv_some hf
  refine tp_i e_v6 ?_
  refine lv_istore_n (pc := 40) (lv' := [(2, .int v6), (0, .ref (b 0)), (1, .int x1), (3, .int x3)]) hx hb dX9_beganNow_40 rfl hl (Nat.le_of_ble_eq_true rfl) rfl (fun ls hl => ?_)
  refine lv_iinc (pc := 41) (v := (x3 + 1)) (lv' := [(3, .int (x3 + 1)), (2, .int v6), (0, .ref (b 0)), (1, .int x1)]) hx hb dX9_beganNow_41 hl (k := 3) rfl rfl (Nat.le_of_ble_eq_true rfl) rfl (fun ls hl => ?_)
  refine lv_goto (pc := 44) (tgt := 11) hx hb dX9_beganNow_44 (by decide) ?_
  have hf := Option.some.inj hf
  subst hf
  exact hK H locs ls hP hD hS (lv_sub hl [2, 3, 1, 0] rfl)
def f_X9_beganNow_L11 (m_cells : Int32) (m_wide : Int32) (m_houses : Int32) (m_bowls : Int32) (m_dogs : Int32) (m_gone : Int32) (m_sights : Int32) (m_cell : Nat → Int32) (m_house : Nat → Int32) (m_bowl : Nat → Int32) (m_dog : Nat → Int32) (m_sight : Nat → Int32) (x2 : Int32) (x3 : Int32) (m_settings : Nat → Int32) (m_path : Nat → Int32) (m_steps : Nat → Int32) (m_line : Nat → Int32) : Option ((Int32 × Int32 × (Nat → Int32) × (Nat → Int32) × (Nat → Int32) × (Nat → Int32)) ⊕ (Int32 × (Nat → Int32) × (Nat → Int32) × (Nat → Int32) × (Nat → Int32))) :=
  if (6 : Int32) ≤ x3 then (some (.inr (x2, m_settings, m_path, m_steps, m_line))) else (bind4 (f_X9_isSeen m_cells m_wide m_houses m_bowls m_dogs m_gone m_sights m_cell m_house (upd m_settings (0 : Int32).toNatClampNeg x3) m_bowl m_dog m_path m_steps m_line m_sight) (fun r2 c3 c4 c5 => if r2 = 0 then (f_X9_beganNow_b39L11 m_cells m_wide m_houses m_bowls m_dogs m_gone m_sights m_cell m_house (upd m_settings (0 : Int32).toNatClampNeg x3) m_bowl m_dog c3 c4 c5 m_sight x3 (0 : Int32) x2) else (f_X9_beganNow_b39L11 m_cells m_wide m_houses m_bowls m_dogs m_gone m_sights m_cell m_house (upd m_settings (0 : Int32).toNatClampNeg x3) m_bowl m_dog c3 c4 c5 m_sight x3 ((1 : Int32) <<< (x3 &&& 31)) x2)))
set_option maxHeartbeats 4000000 in
set_option maxRecDepth 100000 in
theorem k_X9_beganNow_L11 (C : Cx RX9 cX9_beganNow 4 D cA p s m args c) (hA : ∀ q, s.heap.size ≤ q → A q) (b : Nat → Nat) (m_latest : Int32) (m_cells : Int32) (m_wide : Int32) (m_houses : Int32) (m_bowls : Int32) (m_dogs : Int32) (m_gone : Int32) (m_sights : Int32) (m_drawn : Int32) (m_cell : Nat → Int32) (m_house : Nat → Int32) (m_bowl : Nat → Int32) (m_dog : Nat → Int32) (m_sight : Nat → Int32) (x1 : Int32) (x2 : Int32) (x3 : Int32) (m_settings : Nat → Int32) (m_path : Nat → Int32) (m_steps : Nat → Int32) (m_line : Nat → Int32) (r : (Int32 × Int32 × (Nat → Int32) × (Nat → Int32) × (Nat → Int32) × (Nat → Int32)) ⊕ (Int32 × (Nat → Int32) × (Nat → Int32) × (Nat → Int32) × (Nat → Int32))) (hf : f_X9_beganNow_L11 m_cells m_wide m_houses m_bowls m_dogs m_gone m_sights m_cell m_house m_bowl m_dog m_sight x2 x3 m_settings m_path m_steps m_line = some r) (hK : Sum.elim (fun q : Int32 × Int32 × (Nat → Int32) × (Nat → Int32) × (Nat → Int32) × (Nat → Int32) => At p l e rm_X9_beganNow s m args below meth c D A 0 0 Q 4 11 (wl_X9_beganNow cA b m_latest m_cells m_wide m_houses m_bowls m_dogs m_gone m_sights m_drawn m_cell m_house (q.2.2.1) m_bowl m_dog (q.2.2.2.1) (q.2.2.2.2.1) (q.2.2.2.2.2) m_sight) [(0, .ref (b 0)), (1, .int x1), (2, .int (q.1)), (3, .int (q.2.1))] []) (fun q : Int32 × (Nat → Int32) × (Nat → Int32) × (Nat → Int32) × (Nat → Int32) => At p l e rm_X9_beganNow s m args below meth c D A 0 0 Q 4 47 (wl_X9_beganNow cA b m_latest m_cells m_wide m_houses m_bowls m_dogs m_gone m_sights m_drawn m_cell m_house (q.2.1) m_bowl m_dog (q.2.2.1) (q.2.2.2.1) (q.2.2.2.2) m_sight) [(0, .ref (b 0)), (1, .int x1), (2, .int (q.1))] []) r) : At p l e rm_X9_beganNow s m args below meth c D A 0 0 Q 4 11 (wl_X9_beganNow cA b m_latest m_cells m_wide m_houses m_bowls m_dogs m_gone m_sights m_drawn m_cell m_house m_settings m_bowl m_dog m_path m_steps m_line m_sight) [(0, .ref (b 0)), (1, .int x1), (2, .int x2), (3, .int x3)] [] := by
  intro H locs ls hP hD hS hl
  have hx := C.1
  have hb := C.2.1
  have hown := C.2.2.2.1
  have hts := C.2.2.2.2.1
  unfold f_X9_beganNow_L11 at hf
  refine lv_iload_n (pc := 11) hx hb dX9_beganNow_11 rfl (lv_at hl 3 rfl) ?_
  refine lv_bipush (pc := 12) (v := 6) hx hb dX9_beganNow_12 bp_6 ?_
  refine lv_icmp_ge (pc := 14) (tgt := 47) hx hb dX9_beganNow_14 (by decide) (fun hc => ?_) (fun hc => ?_)
  · have hf := (if_pos hc).symm.trans hf
    have hf := Option.some.inj hf
    subst hf
    exact hK H locs ls hP hD hS (lv_sub hl [0, 1, 2] rfl)
  · have hf := (if_neg hc).symm.trans hf
    refine lv_aload_n (pc := 17) hx hb dX9_beganNow_17 rfl (lv_at hl 0 rfl) ?_
    refine g_get (pc := 18) C fg_X9_34 hP 0 rfl rfl dX9_beganNow_18 ?_
    refine lv_iconst (pc := 21) (v := 0) hx hb dX9_beganNow_21 ic_0 ?_
    refine lv_iload_n (pc := 22) hx hb dX9_beganNow_22 rfl (lv_at hl 3 rfl) ?_
    refine g_iast (pc := 23) C hP hD hS 3 rfl (by decide) dX9_beganNow_23 (fun H locs hP hD hS => ?_)
    have hP : va_P D classes (wl_X9_beganNow cA b m_latest m_cells m_wide m_houses m_bowls m_dogs m_gone m_sights m_drawn m_cell m_house (upd m_settings (0 : Int32).toNatClampNeg x3) m_bowl m_dog m_path m_steps m_line m_sight) H := hP
    have hD : va_D A (wl_X9_beganNow cA b m_latest m_cells m_wide m_houses m_bowls m_dogs m_gone m_sights m_drawn m_cell m_house (upd m_settings (0 : Int32).toNatClampNeg x3) m_bowl m_dog m_path m_steps m_line m_sight) := hD
    refine lv_iload_n (pc := 24) hx hb dX9_beganNow_24 rfl (lv_at hl 2 rfl) ?_
    refine lv_aload_n (pc := 25) hx hb dX9_beganNow_25 rfl (lv_at hl 0 rfl) ?_
    obtain ⟨r2, c3, c4, c5, hq, hf⟩ := bind4_some hf
    refine fin2_i (wl_X9_beganNow cA b m_latest m_cells m_wide m_houses m_bowls m_dogs m_gone m_sights m_drawn m_cell m_house (upd m_settings (0 : Int32).toNatClampNeg x3) m_bowl m_dog c3 c4 c5 m_sight) (run_V (rest := [.int x2]) (pc := 26) (As := []) C mf_X9_233 (c_X9_isSeen l D cA b m_latest m_cells m_wide m_houses m_bowls m_dogs m_gone m_sights m_drawn m_cell m_house (upd m_settings (0 : Int32).toNatClampNeg x3) m_bowl m_dog m_path m_steps m_line m_sight (r2, c3, c4, c5) hq H.size) rfl rfl ⟨(Nat.le_of_ble_eq_true rfl), (Nat.le_of_ble_eq_true rfl)⟩ (preV_of C hP hD [0, 1, 2, 3, 4, 5, 6, 7, 8, 9] rfl (pl_nd pv_156) 0 rfl rfl rfl) rfl hl.1 rfl (Nat.le_of_ble_eq_true rfl) dX9_beganNow_26 ⟨Nat.zero_le _, Nat.zero_le _⟩) hP hD hS hA [0, 1, 2, 3, 4, 5, 6, 7, 8, 9] [] rfl rfl rfl rfl pv_156 (fun H locs hP hS => ?_)
    have hD : va_D A (wl_X9_beganNow cA b m_latest m_cells m_wide m_houses m_bowls m_dogs m_gone m_sights m_drawn m_cell m_house (upd m_settings (0 : Int32).toNatClampNeg x3) m_bowl m_dog c3 c4 c5 m_sight) := vd_a hD rfl
    refine lv_if_eq (pc := 29) (tgt := 38) hx hb dX9_beganNow_29 (by decide) (fun hc => ?_) (fun hc => ?_)
    · have hf := (if_pos hc).symm.trans hf
      refine lv_iconst (pc := 38) (v := 0) hx hb dX9_beganNow_38 ic_0 ?_
      exact k_X9_beganNow_b39L11 C hA b m_latest m_cells m_wide m_houses m_bowls m_dogs m_gone m_sights m_drawn m_cell m_house (upd m_settings (0 : Int32).toNatClampNeg x3) m_bowl m_dog c3 c4 c5 m_sight x1 x3 (0 : Int32) x2 r hf hK H locs ls hP hD hS (lv_sub hl [0, 1, 3] rfl)
    · have hf := (if_neg hc).symm.trans hf
      refine lv_iconst (pc := 32) (v := 1) hx hb dX9_beganNow_32 ic_1 ?_
      refine lv_iload_n (pc := 33) hx hb dX9_beganNow_33 rfl (lv_at hl 3 rfl) ?_
      refine lv_ishl (pc := 34) hx hb dX9_beganNow_34 ?_
      refine lv_goto (pc := 35) (tgt := 39) hx hb dX9_beganNow_35 (by decide) ?_
      exact k_X9_beganNow_b39L11 C hA b m_latest m_cells m_wide m_houses m_bowls m_dogs m_gone m_sights m_drawn m_cell m_house (upd m_settings (0 : Int32).toNatClampNeg x3) m_bowl m_dog c3 c4 c5 m_sight x1 x3 ((1 : Int32) <<< (x3 &&& 31)) x2 r hf hK H locs ls hP hD hS (lv_sub hl [0, 1, 3] rfl)
theorem kl_X9_beganNow_L11 (C : Cx RX9 cX9_beganNow 4 D cA p s m args c) (hA : ∀ q, s.heap.size ≤ q → A q) (b : Nat → Nat) (m_latest : Int32) (m_cells : Int32) (m_wide : Int32) (m_houses : Int32) (m_bowls : Int32) (m_dogs : Int32) (m_gone : Int32) (m_sights : Int32) (m_drawn : Int32) (m_cell : Nat → Int32) (m_house : Nat → Int32) (m_bowl : Nat → Int32) (m_dog : Nat → Int32) (m_sight : Nat → Int32) (x1 : Int32) : ∀ (n : Nat) (q : Int32 × Int32 × (Nat → Int32) × (Nat → Int32) × (Nat → Int32) × (Nat → Int32)) (z : (Int32 × (Nat → Int32) × (Nat → Int32) × (Nat → Int32) × (Nat → Int32))), loopF (fun q : Int32 × Int32 × (Nat → Int32) × (Nat → Int32) × (Nat → Int32) × (Nat → Int32) => f_X9_beganNow_L11 m_cells m_wide m_houses m_bowls m_dogs m_gone m_sights m_cell m_house m_bowl m_dog m_sight q.1 q.2.1 q.2.2.1 q.2.2.2.1 q.2.2.2.2.1 q.2.2.2.2.2) n q = some z → (fun q : Int32 × (Nat → Int32) × (Nat → Int32) × (Nat → Int32) × (Nat → Int32) => At p l e rm_X9_beganNow s m args below meth c D A 0 0 Q 4 47 (wl_X9_beganNow cA b m_latest m_cells m_wide m_houses m_bowls m_dogs m_gone m_sights m_drawn m_cell m_house (q.2.1) m_bowl m_dog (q.2.2.1) (q.2.2.2.1) (q.2.2.2.2) m_sight) [(0, .ref (b 0)), (1, .int x1), (2, .int (q.1))] []) z → At p l e rm_X9_beganNow s m args below meth c D A 0 0 Q 4 11 (wl_X9_beganNow cA b m_latest m_cells m_wide m_houses m_bowls m_dogs m_gone m_sights m_drawn m_cell m_house (q.2.2.1) m_bowl m_dog (q.2.2.2.1) (q.2.2.2.2.1) (q.2.2.2.2.2) m_sight) [(0, .ref (b 0)), (1, .int x1), (2, .int (q.1)), (3, .int (q.2.1))] [] :=
  loop_lem (WP := fun q : Int32 × Int32 × (Nat → Int32) × (Nat → Int32) × (Nat → Int32) × (Nat → Int32) => At p l e rm_X9_beganNow s m args below meth c D A 0 0 Q 4 11 (wl_X9_beganNow cA b m_latest m_cells m_wide m_houses m_bowls m_dogs m_gone m_sights m_drawn m_cell m_house (q.2.2.1) m_bowl m_dog (q.2.2.2.1) (q.2.2.2.2.1) (q.2.2.2.2.2) m_sight) [(0, .ref (b 0)), (1, .int x1), (2, .int (q.1)), (3, .int (q.2.1))] []) (WE := (fun q : Int32 × (Nat → Int32) × (Nat → Int32) × (Nat → Int32) × (Nat → Int32) => At p l e rm_X9_beganNow s m args below meth c D A 0 0 Q 4 47 (wl_X9_beganNow cA b m_latest m_cells m_wide m_houses m_bowls m_dogs m_gone m_sights m_drawn m_cell m_house (q.2.1) m_bowl m_dog (q.2.2.1) (q.2.2.2.1) (q.2.2.2.2) m_sight) [(0, .ref (b 0)), (1, .int x1), (2, .int (q.1))] [])) (fun q r hf hK => k_X9_beganNow_L11 C hA b m_latest m_cells m_wide m_houses m_bowls m_dogs m_gone m_sights m_drawn m_cell m_house m_bowl m_dog m_sight x1 q.1 q.2.1 q.2.2.1 q.2.2.2.1 q.2.2.2.2.1 q.2.2.2.2.2 r hf hK)
def f_X9_beganNow (m_cells : Int32) (m_wide : Int32) (m_houses : Int32) (m_bowls : Int32) (m_dogs : Int32) (m_gone : Int32) (m_sights : Int32) (m_cell : Nat → Int32) (m_house : Nat → Int32) (m_settings : Nat → Int32) (m_bowl : Nat → Int32) (m_dog : Nat → Int32) (m_path : Nat → Int32) (m_steps : Nat → Int32) (m_line : Nat → Int32) (m_sight : Nat → Int32) : Option (Int32 × (Nat → Int32) × (Nat → Int32) × (Nat → Int32) × (Nat → Int32)) :=
  letv ((m_settings (0 : Int32).toNatClampNeg)) (fun v1 => bind5 (loopF (fun q : Int32 × Int32 × (Nat → Int32) × (Nat → Int32) × (Nat → Int32) × (Nat → Int32) => f_X9_beganNow_L11 m_cells m_wide m_houses m_bowls m_dogs m_gone m_sights m_cell m_house m_bowl m_dog m_sight q.1 q.2.1 q.2.2.1 q.2.2.2.1 q.2.2.2.2.1 q.2.2.2.2.2) FU ((0 : Int32), (0 : Int32), m_settings, m_path, m_steps, m_line)) (fun u7 u8 u9 u10 u11 => some (u7, (upd u8 (0 : Int32).toNatClampNeg v1), u9, u10, u11)))
set_option maxHeartbeats 4000000 in
set_option maxRecDepth 100000 in
theorem k_X9_beganNow (C : Cx RX9 cX9_beganNow 4 D cA p s m args c) (hr : meth.sig.returnType = (some .int)) (hlk : meth.locks = false) (hA : ∀ q, s.heap.size ≤ q → va_A ws0 sz q) (b : Nat → Nat) (m_latest : Int32) (m_cells : Int32) (m_wide : Int32) (m_houses : Int32) (m_bowls : Int32) (m_dogs : Int32) (m_gone : Int32) (m_sights : Int32) (m_drawn : Int32) (m_cell : Nat → Int32) (m_house : Nat → Int32) (m_settings : Nat → Int32) (m_bowl : Nat → Int32) (m_dog : Nat → Int32) (m_path : Nat → Int32) (m_steps : Nat → Int32) (m_line : Nat → Int32) (m_sight : Nat → Int32) (r : Int32 × (Nat → Int32) × (Nat → Int32) × (Nat → Int32) × (Nat → Int32)) (hf : f_X9_beganNow m_cells m_wide m_houses m_bowls m_dogs m_gone m_sights m_cell m_house m_settings m_bowl m_dog m_path m_steps m_line m_sight = some r) : At p l e rm_X9_beganNow s m args below meth c D (va_A ws0 sz) 0 0 (MQ below (PostI D r.1 ws0 (wl_X9_beganNow cA b m_latest m_cells m_wide m_houses m_bowls m_dogs m_gone m_sights m_drawn m_cell m_house (r.2.1) m_bowl m_dog (r.2.2.1) (r.2.2.2.1) (r.2.2.2.2) m_sight) sz) args s 0 0 (va_A ws0 sz)) 4 0 (wl_X9_beganNow cA b m_latest m_cells m_wide m_houses m_bowls m_dogs m_gone m_sights m_drawn m_cell m_house m_settings m_bowl m_dog m_path m_steps m_line m_sight) [(0, .ref (b 0))] [] := by
  intro H locs ls hP hD hS hl
  have hx := C.1
  have hb := C.2.1
  have hown := C.2.2.2.1
  have hts := C.2.2.2.2.1
  unfold f_X9_beganNow at hf
  refine lv_aload_n (pc := 0) hx hb dX9_beganNow_0 rfl (lv_at hl 0 rfl) ?_
  refine g_get (pc := 1) C fg_X9_34 hP 0 rfl rfl dX9_beganNow_1 ?_
  refine lv_iconst (pc := 4) (v := 0) hx hb dX9_beganNow_4 ic_0 ?_
  refine g_iald (pc := 5) C hP 3 rfl (by decide) dX9_beganNow_5 ?_
  obtain ⟨v1, e_v1, hf⟩ := letv_some hf
  refine tp_i e_v1 ?_
  refine lv_istore_n (pc := 6) (lv' := [(1, .int v1), (0, .ref (b 0))]) hx hb dX9_beganNow_6 rfl hl (Nat.le_of_ble_eq_true rfl) rfl (fun ls hl => ?_)
  refine lv_iconst (pc := 7) (v := 0) hx hb dX9_beganNow_7 ic_0 ?_
  refine lv_istore_n (pc := 8) (lv' := [(2, .int (0 : Int32)), (1, .int v1), (0, .ref (b 0))]) hx hb dX9_beganNow_8 rfl hl (Nat.le_of_ble_eq_true rfl) rfl (fun ls hl => ?_)
  refine lv_iconst (pc := 9) (v := 0) hx hb dX9_beganNow_9 ic_0 ?_
  refine lv_istore_n (pc := 10) (lv' := [(3, .int (0 : Int32)), (2, .int (0 : Int32)), (1, .int v1), (0, .ref (b 0))]) hx hb dX9_beganNow_10 rfl hl (Nat.le_of_ble_eq_true rfl) rfl (fun ls hl => ?_)
  obtain ⟨u7, u8, u9, u10, u11, hq, hf⟩ := bind5_some hf
  refine kl_X9_beganNow_L11 C hA b m_latest m_cells m_wide m_houses m_bowls m_dogs m_gone m_sights m_drawn m_cell m_house m_bowl m_dog m_sight v1 FU ((0 : Int32), (0 : Int32), m_settings, m_path, m_steps, m_line) _ hq ?_ H locs ls hP hD hS (lv_sub hl [3, 2, 1, 0] rfl)
  intro H locs ls hP hD hS hl
  have hP : va_P D classes (wl_X9_beganNow cA b m_latest m_cells m_wide m_houses m_bowls m_dogs m_gone m_sights m_drawn m_cell m_house u8 m_bowl m_dog u9 u10 u11 m_sight) H := hP
  have hD : va_D (va_A ws0 sz) (wl_X9_beganNow cA b m_latest m_cells m_wide m_houses m_bowls m_dogs m_gone m_sights m_drawn m_cell m_house u8 m_bowl m_dog u9 u10 u11 m_sight) := hD
  have hl : lv_has ls 4 [(0, .ref (b 0)), (1, .int v1), (2, .int u7)] := hl
  refine lv_aload_n (pc := 47) hx hb dX9_beganNow_47 rfl (lv_at hl 0 rfl) ?_
  refine g_get (pc := 48) C fg_X9_34 hP 0 rfl rfl dX9_beganNow_48 ?_
  refine lv_iconst (pc := 51) (v := 0) hx hb dX9_beganNow_51 ic_0 ?_
  refine lv_iload_n (pc := 52) hx hb dX9_beganNow_52 rfl (lv_at hl 1 rfl) ?_
  refine g_iast (pc := 53) C hP hD hS 3 rfl (by decide) dX9_beganNow_53 (fun H locs hP hD hS => ?_)
  have hP : va_P D classes (wl_X9_beganNow cA b m_latest m_cells m_wide m_houses m_bowls m_dogs m_gone m_sights m_drawn m_cell m_house (upd u8 (0 : Int32).toNatClampNeg v1) m_bowl m_dog u9 u10 u11 m_sight) H := hP
  have hD : va_D (va_A ws0 sz) (wl_X9_beganNow cA b m_latest m_cells m_wide m_houses m_bowls m_dogs m_gone m_sights m_drawn m_cell m_house (upd u8 (0 : Int32).toNatClampNeg v1) m_bowl m_dog u9 u10 u11 m_sight) := hD
  refine lv_iload_n (pc := 54) hx hb dX9_beganNow_54 rfl (lv_at hl 2 rfl) ?_
  have hf := Option.some.inj hf
  subst hf
  exact ret_i C hr hlk hP hS dX9_beganNow_55
set_option maxRecDepth 100000 in
theorem c_X9_beganNow (l : Launch) (D : va_G) (cA : Nat → ClassId) (b : Nat → Nat) (m_latest : Int32) (m_cells : Int32) (m_wide : Int32) (m_houses : Int32) (m_bowls : Int32) (m_dogs : Int32) (m_gone : Int32) (m_sights : Int32) (m_drawn : Int32) (m_cell : Nat → Int32) (m_house : Nat → Int32) (m_settings : Nat → Int32) (m_bowl : Nat → Int32) (m_dog : Nat → Int32) (m_path : Nat → Int32) (m_steps : Nat → Int32) (m_line : Nat → Int32) (m_sight : Nat → Int32) (r : Int32 × (Nat → Int32) × (Nat → Int32) × (Nat → Int32) × (Nat → Int32)) (hf : f_X9_beganNow m_cells m_wide m_houses m_bowls m_dogs m_gone m_sights m_cell m_house m_settings m_bowl m_dog m_path m_steps m_line m_sight = some r) (sz : Nat) : Met l yX9_beganNow (Cond.code yX9_beganNow cX9_beganNow 4 (some .int) :: lw_good) rm_X9_beganNow (PreX D cA [.ref (b 0)] sz (wl_X9_beganNow cA b m_latest m_cells m_wide m_houses m_bowls m_dogs m_gone m_sights m_drawn m_cell m_house m_settings m_bowl m_dog m_path m_steps m_line m_sight)) (PostI D r.1 (wl_X9_beganNow cA b m_latest m_cells m_wide m_houses m_bowls m_dogs m_gone m_sights m_drawn m_cell m_house m_settings m_bowl m_dog m_path m_steps m_line m_sight) (wl_X9_beganNow cA b m_latest m_cells m_wide m_houses m_bowls m_dogs m_gone m_sights m_drawn m_cell m_house (r.2.1) m_bowl m_dog (r.2.2.1) (r.2.2.2.1) (r.2.2.2.2) m_sight) sz) 0 0 (va_A (wl_X9_beganNow cA b m_latest m_cells m_wide m_houses m_bowls m_dogs m_gone m_sights m_drawn m_cell m_house m_settings m_bowl m_dog m_path m_steps m_line m_sight) sz) :=
  met_of (by decide) (Nat.le_of_ble_eq_true rfl) (fun p e s m args below meth c C hr hlk hA => k_X9_beganNow C hr hlk hA b m_latest m_cells m_wide m_houses m_bowls m_dogs m_gone m_sights m_drawn m_cell m_house m_settings m_bowl m_dog m_path m_steps m_line m_sight r hf)
end

abbrev wl_X9_began (cA : Nat → ClassId) (b : Nat → Nat) (m_latest : Int32) (m_cells : Int32) (m_wide : Int32) (m_houses : Int32) (m_bowls : Int32) (m_dogs : Int32) (m_gone : Int32) (m_sights : Int32) (m_drawn : Int32) (m_bytes : Nat → Int32) (m_typed : Nat → Int32) (m_cell : Nat → Int32) (m_house : Nat → Int32) (m_settings : Nat → Int32) (m_bowl : Nat → Int32) (m_dog : Nat → Int32) (m_path : Nat → Int32) (m_steps : Nat → Int32) (m_line : Nat → Int32) (m_sight : Nat → Int32) : va_W := [((b 0), .inr (9, [.ref (b 1), .ref (b 2), .ref (b 3), .ref (b 4), .int m_latest, .ref (b 5), .ref (b 6), .int m_cells, .int m_wide, .ref (b 7), .int m_houses, .ref (b 8), .ref (b 9), .int m_bowls, .ref (b 10), .int m_dogs, .ref (b 11), .int m_gone, .ref (b 12), .ref (b 13), .ref (b 14), .int m_sights, .ref (b 15), .ref (b 16), .int m_drawn])), ((b 5), .inl (cA 0, 84, .inl m_bytes)), ((b 6), .inl (cA 0, 2, .inl m_typed)), ((b 7), .inl (cA 0, 36, .inl m_cell)), ((b 8), .inl (cA 0, 16, .inl m_house)), ((b 9), .inl (cA 0, 2, .inl m_settings)), ((b 10), .inl (cA 0, 20, .inl m_bowl)), ((b 11), .inl (cA 0, 16, .inl m_dog)), ((b 12), .inl (cA 0, 250, .inl m_path)), ((b 13), .inl (cA 0, 10, .inl m_steps)), ((b 14), .inl (cA 0, 60, .inl m_line)), ((b 15), .inl (cA 0, 24, .inl m_sight))]
abbrev rm_X9_began : Room := { frames := 7, cells := 0, slots := 0, locals := 173 }
section
variable {p : Program} {l : Launch} {e : Env} {s : State} {m : MethodId} {args : Array Value} {below : List Frame} {meth : Method} {c : Code} {D : va_G} {cA : Nat → ClassId} {ws0 : va_W} {sz : Nat} {A : Nat → Prop} {Q : State → Prop}
def f_X9_began (m_cells : Int32) (m_wide : Int32) (m_houses : Int32) (m_bowls : Int32) (m_dogs : Int32) (m_gone : Int32) (m_sights : Int32) (m_bytes : Nat → Int32) (m_typed : Nat → Int32) (m_cell : Nat → Int32) (m_house : Nat → Int32) (m_settings : Nat → Int32) (m_bowl : Nat → Int32) (m_dog : Nat → Int32) (m_path : Nat → Int32) (m_steps : Nat → Int32) (m_line : Nat → Int32) (m_sight : Nat → Int32) : Option (Int32 × Int32 × Int32 × Int32 × (Nat → Int32) × (Nat → Int32) × (Nat → Int32) × (Nat → Int32) × (Nat → Int32) × (Nat → Int32)) :=
  bind8 (f_X9_find m_cells m_wide m_houses m_bowls m_dogs m_gone m_bytes m_typed m_cell m_house m_settings m_bowl m_dog m_path m_steps m_line) (fun c1 c2 c3 c4 c5 c6 c7 c8 => bind5 (f_X9_beganNow c1 c2 c3 m_bowls m_dogs m_gone m_sights c4 c5 m_settings m_bowl m_dog c6 c7 c8 m_sight) (fun r9 c10 c11 c12 c13 => some (r9, c1, c2, c3, c4, c5, c10, c11, c12, c13)))
set_option maxHeartbeats 4000000 in
set_option maxRecDepth 100000 in
theorem k_X9_began (C : Cx RX9 cX9_began 1 D cA p s m args c) (hr : meth.sig.returnType = (some .int)) (hlk : meth.locks = false) (hA : ∀ q, s.heap.size ≤ q → va_A ws0 sz q) (b : Nat → Nat) (m_latest : Int32) (m_cells : Int32) (m_wide : Int32) (m_houses : Int32) (m_bowls : Int32) (m_dogs : Int32) (m_gone : Int32) (m_sights : Int32) (m_drawn : Int32) (m_bytes : Nat → Int32) (m_typed : Nat → Int32) (m_cell : Nat → Int32) (m_house : Nat → Int32) (m_settings : Nat → Int32) (m_bowl : Nat → Int32) (m_dog : Nat → Int32) (m_path : Nat → Int32) (m_steps : Nat → Int32) (m_line : Nat → Int32) (m_sight : Nat → Int32) (r : Int32 × Int32 × Int32 × Int32 × (Nat → Int32) × (Nat → Int32) × (Nat → Int32) × (Nat → Int32) × (Nat → Int32) × (Nat → Int32)) (hf : f_X9_began m_cells m_wide m_houses m_bowls m_dogs m_gone m_sights m_bytes m_typed m_cell m_house m_settings m_bowl m_dog m_path m_steps m_line m_sight = some r) : At p l e rm_X9_began s m args below meth c D (va_A ws0 sz) 0 0 (MQ below (PostI D r.1 ws0 (wl_X9_began cA b m_latest (r.2.1) (r.2.2.1) (r.2.2.2.1) m_bowls m_dogs m_gone m_sights m_drawn m_bytes m_typed (r.2.2.2.2.1) (r.2.2.2.2.2.1) (r.2.2.2.2.2.2.1) m_bowl m_dog (r.2.2.2.2.2.2.2.1) (r.2.2.2.2.2.2.2.2.1) (r.2.2.2.2.2.2.2.2.2) m_sight) sz) args s 0 0 (va_A ws0 sz)) 1 0 (wl_X9_began cA b m_latest m_cells m_wide m_houses m_bowls m_dogs m_gone m_sights m_drawn m_bytes m_typed m_cell m_house m_settings m_bowl m_dog m_path m_steps m_line m_sight) [(0, .ref (b 0))] [] := by
  intro H locs ls hP hD hS hl
  have hx := C.1
  have hb := C.2.1
  have hown := C.2.2.2.1
  have hts := C.2.2.2.2.1
  unfold f_X9_began at hf
  refine lv_aload_n (pc := 0) hx hb dX9_began_0 rfl (lv_at hl 0 rfl) ?_
  obtain ⟨c1, c2, c3, c4, c5, c6, c7, c8, hq, hf⟩ := bind8_some hf
  refine fin2_v (wl_X9_began cA b m_latest c1 c2 c3 m_bowls m_dogs m_gone m_sights m_drawn m_bytes m_typed c4 c5 m_settings m_bowl m_dog c6 c7 c8 m_sight) (run_V (rest := []) (pc := 1) (As := []) C mf_X9_184 (c_X9_find l D cA b m_latest m_cells m_wide m_houses m_bowls m_dogs m_gone m_sights m_drawn m_bytes m_typed m_cell m_house m_settings m_bowl m_dog m_path m_steps m_line (c1, c2, c3, c4, c5, c6, c7, c8) hq H.size) rfl rfl ⟨(Nat.le_of_ble_eq_true rfl), (Nat.le_of_ble_eq_true rfl)⟩ (preV_of C hP hD [0, 1, 2, 3, 4, 5, 6, 7, 8, 9, 10] rfl (pl_nd pv_157) 0 rfl rfl rfl) rfl hl.1 rfl (Nat.le_of_ble_eq_true rfl) dX9_began_1 ⟨Nat.zero_le _, Nat.zero_le _⟩) hP hD hS hA [0, 1, 2, 3, 4, 5, 6, 7, 8, 9, 10] [11] rfl rfl rfl rfl pv_157 (fun H locs hP hS => ?_)
  have hD : va_D (va_A ws0 sz) (wl_X9_began cA b m_latest c1 c2 c3 m_bowls m_dogs m_gone m_sights m_drawn m_bytes m_typed c4 c5 m_settings m_bowl m_dog c6 c7 c8 m_sight) := vd_a hD rfl
  refine lv_aload_n (pc := 4) hx hb dX9_began_4 rfl (lv_at hl 0 rfl) ?_
  obtain ⟨r9, c10, c11, c12, c13, hq, hf⟩ := bind5_some hf
  refine fin2_i (wl_X9_began cA b m_latest c1 c2 c3 m_bowls m_dogs m_gone m_sights m_drawn m_bytes m_typed c4 c5 c10 m_bowl m_dog c11 c12 c13 m_sight) (run_V (rest := []) (pc := 5) (As := []) C mf_X9_240 (c_X9_beganNow l D cA b m_latest c1 c2 c3 m_bowls m_dogs m_gone m_sights m_drawn c4 c5 m_settings m_bowl m_dog c6 c7 c8 m_sight (r9, c10, c11, c12, c13) hq H.size) rfl rfl ⟨(Nat.le_of_ble_eq_true rfl), (Nat.le_of_ble_eq_true rfl)⟩ (preV_of C hP hD [0, 3, 4, 5, 6, 7, 8, 9, 10, 11] rfl (pl_nd pv_158) 0 rfl rfl rfl) rfl hl.1 rfl (Nat.le_of_ble_eq_true rfl) dX9_began_5 ⟨Nat.zero_le _, Nat.zero_le _⟩) hP hD hS hA [0, 3, 4, 5, 6, 7, 8, 9, 10, 11] [1, 2] rfl rfl rfl rfl pv_158 (fun H locs hP hS => ?_)
  have hD : va_D (va_A ws0 sz) (wl_X9_began cA b m_latest c1 c2 c3 m_bowls m_dogs m_gone m_sights m_drawn m_bytes m_typed c4 c5 c10 m_bowl m_dog c11 c12 c13 m_sight) := vd_a hD rfl
  have hf := Option.some.inj hf
  subst hf
  exact ret_i C hr hlk hP hS dX9_began_8
set_option maxRecDepth 100000 in
theorem c_X9_began (l : Launch) (D : va_G) (cA : Nat → ClassId) (b : Nat → Nat) (m_latest : Int32) (m_cells : Int32) (m_wide : Int32) (m_houses : Int32) (m_bowls : Int32) (m_dogs : Int32) (m_gone : Int32) (m_sights : Int32) (m_drawn : Int32) (m_bytes : Nat → Int32) (m_typed : Nat → Int32) (m_cell : Nat → Int32) (m_house : Nat → Int32) (m_settings : Nat → Int32) (m_bowl : Nat → Int32) (m_dog : Nat → Int32) (m_path : Nat → Int32) (m_steps : Nat → Int32) (m_line : Nat → Int32) (m_sight : Nat → Int32) (r : Int32 × Int32 × Int32 × Int32 × (Nat → Int32) × (Nat → Int32) × (Nat → Int32) × (Nat → Int32) × (Nat → Int32) × (Nat → Int32)) (hf : f_X9_began m_cells m_wide m_houses m_bowls m_dogs m_gone m_sights m_bytes m_typed m_cell m_house m_settings m_bowl m_dog m_path m_steps m_line m_sight = some r) (sz : Nat) : Met l yX9_began (Cond.code yX9_began cX9_began 1 (some .int) :: lw_good) rm_X9_began (PreX D cA [.ref (b 0)] sz (wl_X9_began cA b m_latest m_cells m_wide m_houses m_bowls m_dogs m_gone m_sights m_drawn m_bytes m_typed m_cell m_house m_settings m_bowl m_dog m_path m_steps m_line m_sight)) (PostI D r.1 (wl_X9_began cA b m_latest m_cells m_wide m_houses m_bowls m_dogs m_gone m_sights m_drawn m_bytes m_typed m_cell m_house m_settings m_bowl m_dog m_path m_steps m_line m_sight) (wl_X9_began cA b m_latest (r.2.1) (r.2.2.1) (r.2.2.2.1) m_bowls m_dogs m_gone m_sights m_drawn m_bytes m_typed (r.2.2.2.2.1) (r.2.2.2.2.2.1) (r.2.2.2.2.2.2.1) m_bowl m_dog (r.2.2.2.2.2.2.2.1) (r.2.2.2.2.2.2.2.2.1) (r.2.2.2.2.2.2.2.2.2) m_sight) sz) 0 0 (va_A (wl_X9_began cA b m_latest m_cells m_wide m_houses m_bowls m_dogs m_gone m_sights m_drawn m_bytes m_typed m_cell m_house m_settings m_bowl m_dog m_path m_steps m_line m_sight) sz) :=
  met_of (by decide) (Nat.le_of_ble_eq_true rfl) (fun p e s m args below meth c C hr hlk hA => k_X9_began C hr hlk hA b m_latest m_cells m_wide m_houses m_bowls m_dogs m_gone m_sights m_drawn m_bytes m_typed m_cell m_house m_settings m_bowl m_dog m_path m_steps m_line m_sight r hf)
end
