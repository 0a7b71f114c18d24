abbrev wl_X9_lives (cA : Nat → ClassId) (b : Nat → Nat) (m_latest : Int32) (m_cells : Int32) (m_wide : Int32) (m_houses : Int32) (m_bowls : Int32) (m_dogs : Int32) (m_gone : Int32) (m_sights : Int32) (m_drawn : Int32) (m_cell : Nat → Int32) (m_settings : Nat → Int32) (m_bowl : Nat → Int32) (m_dog : Nat → Int32) (m_path : Nat → Int32) (m_steps : Nat → Int32) (m_line : Nat → Int32) : va_W := [((b 0), .inr (9, [.ref (b 1), .ref (b 2), .ref (b 3), .ref (b 4), .int m_latest, .ref (b 5), .ref (b 6), .int m_cells, .int m_wide, .ref (b 7), .int m_houses, .ref (b 8), .ref (b 9), .int m_bowls, .ref (b 10), .int m_dogs, .ref (b 11), .int m_gone, .ref (b 12), .ref (b 13), .ref (b 14), .int m_sights, .ref (b 15), .ref (b 16), .int m_drawn])), ((b 7), .inl (cA 0, 36, .inl m_cell)), ((b 9), .inl (cA 0, 2, .inl m_settings)), ((b 10), .inl (cA 0, 20, .inl m_bowl)), ((b 11), .inl (cA 0, 16, .inl m_dog)), ((b 12), .inl (cA 0, 250, .inl m_path)), ((b 13), .inl (cA 0, 10, .inl m_steps)), ((b 14), .inl (cA 0, 60, .inl m_line))]
abbrev rm_X9_lives : Room := { frames := 4, cells := 0, slots := 0, locals := 105 }
section
variable {p : Program} {l : Launch} {e : Env} {s : State} {m : MethodId} {args : Array Value} {below : List Frame} {meth : Method} {c : Code} {D : va_G} {cA : Nat → ClassId} {ws0 : va_W} {sz : Nat} {A : Nat → Prop} {Q : State → Prop}
def f_X9_lives_L2 (m_cells : Int32) (m_wide : Int32) (m_bowls : Int32) (m_dogs : Int32) (m_gone : Int32) (m_cell : Nat → Int32) (m_settings : Nat → Int32) (m_bowl : Nat → Int32) (m_dog : Nat → Int32) (x1 : Int32) (x2 : Int32) (m_path : Nat → Int32) (m_steps : Nat → Int32) (m_line : Nat → Int32) : Option ((Int32 × (Nat → Int32) × (Nat → Int32) × (Nat → Int32)) ⊕ ((Nat → Int32) × (Nat → Int32) × (Nat → Int32))) :=
  if x1 < x2 then (some (.inr (m_path, m_steps, m_line))) else (bind2 (f_X9_walks m_cells m_wide m_bowls m_dogs m_gone m_cell m_settings m_bowl m_dog m_path m_steps x2) (fun c1 c2 => bind1 (f_X9_draws m_cells m_wide c1 c2 m_line x2) (fun c3 => some (.inl ((x2 + 1), c1, c2, c3)))))
set_option maxHeartbeats 4000000 in
set_option maxRecDepth 100000 in
theorem k_X9_lives_L2 (C : Cx RX9 cX9_lives 3 D cA p s m args c) (hA : ∀ q, s.heap.size ≤ q → A q) (b : Nat → Nat) (m_latest : Int32) (m_cells : Int32) (m_wide : Int32) (m_houses : Int32) (m_bowls : Int32) (m_dogs : Int32) (m_gone : Int32) (m_sights : Int32) (m_drawn : Int32) (m_cell : Nat → Int32) (m_settings : Nat → Int32) (m_bowl : Nat → Int32) (m_dog : Nat → Int32) (x1 : Int32) (x2 : Int32) (m_path : Nat → Int32) (m_steps : Nat → Int32) (m_line : Nat → Int32) (r : (Int32 × (Nat → Int32) × (Nat → Int32) × (Nat → Int32)) ⊕ ((Nat → Int32) × (Nat → Int32) × (Nat → Int32))) (hf : f_X9_lives_L2 m_cells m_wide m_bowls m_dogs m_gone m_cell m_settings m_bowl m_dog x1 x2 m_path m_steps m_line = some r) (hK : Sum.elim (fun q : Int32 × (Nat → Int32) × (Nat → Int32) × (Nat → Int32) => At p l e rm_X9_lives s m args below meth c D A 0 0 Q 3 2 (wl_X9_lives cA b m_latest m_cells m_wide m_houses m_bowls m_dogs m_gone m_sights m_drawn m_cell m_settings m_bowl m_dog (q.2.1) (q.2.2.1) (q.2.2.2)) [(0, .ref (b 0)), (1, .int x1), (2, .int (q.1))] []) (fun q : (Nat → Int32) × (Nat → Int32) × (Nat → Int32) => At p l e rm_X9_lives s m args below meth c D A 0 0 Q 3 23 (wl_X9_lives cA b m_latest m_cells m_wide m_houses m_bowls m_dogs m_gone m_sights m_drawn m_cell m_settings m_bowl m_dog (q.1) (q.2.1) (q.2.2)) [] []) r) : At p l e rm_X9_lives s m args below meth c D A 0 0 Q 3 2 (wl_X9_lives cA b m_latest m_cells m_wide m_houses m_bowls m_dogs m_gone m_sights m_drawn m_cell m_settings m_bowl m_dog m_path m_steps m_line) [(0, .ref (b 0)), (1, .int x1), (2, .int x2)] [] := by
  intro H locs ls hP hD hS hl
  have hx := C.1
  have hb := C.2.1
  have hown := C.2.2.2.1
  have hts := C.2.2.2.2.1
  unfold f_X9_lives_L2 at hf
  refine lv_iload_n (pc := 2) hx hb dX9_lives_2 rfl (lv_at hl 2 rfl) ?_
  refine lv_iload_n (pc := 3) hx hb dX9_lives_3 rfl (lv_at hl 1 rfl) ?_
  refine lv_icmp_gt (pc := 4) (tgt := 23) hx hb dX9_lives_4 (by decide) (fun hc => ?_) (fun hc => ?_)
  · have hf := (if_pos hc).symm.trans hf
    have hf := Option.some.inj hf
    subst hf
    exact hK H locs ls hP hD hS (lv_sub hl [] rfl)
  · have hf := (if_neg hc).symm.trans hf
    refine lv_aload_n (pc := 7) hx hb dX9_lives_7 rfl (lv_at hl 0 rfl) ?_
    refine lv_iload_n (pc := 8) hx hb dX9_lives_8 rfl (lv_at hl 2 rfl) ?_
    obtain ⟨c1, c2, hq, hf⟩ := bind2_some hf
    refine fin2_v (wl_X9_lives cA b m_latest m_cells m_wide m_houses m_bowls m_dogs m_gone m_sights m_drawn m_cell m_settings m_bowl m_dog c1 c2 m_line) (run_V (rest := []) (pc := 9) (As := [.int x2]) C mf_X9_171 (c_X9_walks l D cA b m_latest m_cells m_wide m_houses m_bowls m_dogs m_gone m_sights m_drawn m_cell m_settings m_bowl m_dog m_path m_steps x2 (c1, c2) hq H.size) rfl rfl ⟨(Nat.le_of_ble_eq_true rfl), (Nat.le_of_ble_eq_true rfl)⟩ (preV_of C hP hD [0, 1, 2, 3, 4, 5, 6] rfl (pl_nd pv_133) 0 rfl rfl rfl) rfl hl.1 rfl (Nat.le_of_ble_eq_true rfl) dX9_lives_9 ⟨Nat.zero_le _, Nat.zero_le _⟩) hP hD hS hA [0, 1, 2, 3, 4, 5, 6] [7] rfl rfl rfl rfl pv_133 (fun H locs hP hS => ?_)
    have hD : va_D A (wl_X9_lives cA b m_latest m_cells m_wide m_houses m_bowls m_dogs m_gone m_sights m_drawn m_cell m_settings m_bowl m_dog c1 c2 m_line) := vd_a hD rfl
    refine lv_aload_n (pc := 12) hx hb dX9_lives_12 rfl (lv_at hl 0 rfl) ?_
    refine lv_iload_n (pc := 13) hx hb dX9_lives_13 rfl (lv_at hl 2 rfl) ?_
    obtain ⟨c3, hq, hf⟩ := bind1_some hf
    refine fin2_v (wl_X9_lives cA b m_latest m_cells m_wide m_houses m_bowls m_dogs m_gone m_sights m_drawn m_cell m_settings m_bowl m_dog c1 c2 c3) (run_V (rest := []) (pc := 14) (As := [.int x2]) C mf_X9_175 (c_X9_draws l D cA b m_latest m_cells m_wide m_houses m_bowls m_dogs m_gone m_sights m_drawn c1 c2 m_line x2 c3 hq H.size) rfl rfl ⟨(Nat.le_of_ble_eq_true rfl), (Nat.le_of_ble_eq_true rfl)⟩ (preV_of C hP hD [0, 5, 6, 7] rfl (pl_nd pv_134) 0 rfl rfl rfl) rfl hl.1 rfl (Nat.le_of_ble_eq_true rfl) dX9_lives_14 ⟨Nat.zero_le _, Nat.zero_le _⟩) hP hD hS hA [0, 5, 6, 7] [1, 2, 3, 4] rfl rfl rfl rfl pv_134 (fun H locs hP hS => ?_)
    have hD : va_D A (wl_X9_lives cA b m_latest m_cells m_wide m_houses m_bowls m_dogs m_gone m_sights m_drawn m_cell m_settings m_bowl m_dog c1 c2 c3) := vd_a hD rfl
    refine lv_iinc (pc := 17) (v := (x2 + 1)) (lv' := [(2, .int (x2 + 1)), (0, .ref (b 0)), (1, .int x1)]) hx hb dX9_lives_17 hl (k := 2) rfl rfl (Nat.le_of_ble_eq_true rfl) rfl (fun ls hl => ?_)
    refine lv_goto (pc := 20) (tgt := 2) hx hb dX9_lives_20 (by decide) ?_
    have hf := Option.some.inj hf
    subst hf
    exact hK H locs ls hP hD hS (lv_sub hl [1, 2, 0] rfl)
theorem kl_X9_lives_L2 (C : Cx RX9 cX9_lives 3 D cA p s m args c) (hA : ∀ q, s.heap.size ≤ q → A q) (b : Nat → Nat) (m_latest : Int32) (m_cells : Int32) (m_wide : Int32) (m_houses : Int32) (m_bowls : Int32) (m_dogs : Int32) (m_gone : Int32) (m_sights : Int32) (m_drawn : Int32) (m_cell : Nat → Int32) (m_settings : Nat → Int32) (m_bowl : Nat → Int32) (m_dog : Nat → Int32) (x1 : Int32) : ∀ (n : Nat) (q : Int32 × (Nat → Int32) × (Nat → Int32) × (Nat → Int32)) (z : ((Nat → Int32) × (Nat → Int32) × (Nat → Int32))), loopF (fun q : Int32 × (Nat → Int32) × (Nat → Int32) × (Nat → Int32) => f_X9_lives_L2 m_cells m_wide m_bowls m_dogs m_gone m_cell m_settings m_bowl m_dog x1 q.1 q.2.1 q.2.2.1 q.2.2.2) n q = some z → (fun q : (Nat → Int32) × (Nat → Int32) × (Nat → Int32) => At p l e rm_X9_lives s m args below meth c D A 0 0 Q 3 23 (wl_X9_lives cA b m_latest m_cells m_wide m_houses m_bowls m_dogs m_gone m_sights m_drawn m_cell m_settings m_bowl m_dog (q.1) (q.2.1) (q.2.2)) [] []) z → At p l e rm_X9_lives s m args below meth c D A 0 0 Q 3 2 (wl_X9_lives cA b m_latest m_cells m_wide m_houses m_bowls m_dogs m_gone m_sights m_drawn m_cell m_settings m_bowl m_dog (q.2.1) (q.2.2.1) (q.2.2.2)) [(0, .ref (b 0)), (1, .int x1), (2, .int (q.1))] [] :=
  loop_lem (WP := fun q : Int32 × (Nat → Int32) × (Nat → Int32) × (Nat → Int32) => At p l e rm_X9_lives s m args below meth c D A 0 0 Q 3 2 (wl_X9_lives cA b m_latest m_cells m_wide m_houses m_bowls m_dogs m_gone m_sights m_drawn m_cell m_settings m_bowl m_dog (q.2.1) (q.2.2.1) (q.2.2.2)) [(0, .ref (b 0)), (1, .int x1), (2, .int (q.1))] []) (WE := (fun q : (Nat → Int32) × (Nat → Int32) × (Nat → Int32) => At p l e rm_X9_lives s m args below meth c D A 0 0 Q 3 23 (wl_X9_lives cA b m_latest m_cells m_wide m_houses m_bowls m_dogs m_gone m_sights m_drawn m_cell m_settings m_bowl m_dog (q.1) (q.2.1) (q.2.2)) [] [])) (fun q r hf hK => k_X9_lives_L2 C hA b m_latest m_cells m_wide m_houses m_bowls m_dogs m_gone m_sights m_drawn m_cell m_settings m_bowl m_dog x1 q.1 q.2.1 q.2.2.1 q.2.2.2 r hf hK)
def f_X9_lives (m_cells : Int32) (m_wide : Int32) (m_bowls : Int32) (m_dogs : Int32) (m_gone : Int32) (m_cell : Nat → Int32) (m_settings : Nat → Int32) (m_bowl : Nat → Int32) (m_dog : Nat → Int32) (m_path : Nat → Int32) (m_steps : Nat → Int32) (m_line : Nat → Int32) (x1 : Int32) : Option ((Nat → Int32) × (Nat → Int32) × (Nat → Int32)) :=
  bind3 (loopF (fun q : Int32 × (Nat → Int32) × (Nat → Int32) × (Nat → Int32) => f_X9_lives_L2 m_cells m_wide m_bowls m_dogs m_gone m_cell m_settings m_bowl m_dog x1 q.1 q.2.1 q.2.2.1 q.2.2.2) FU ((0 : Int32), m_path, m_steps, m_line)) (fun u4 u5 u6 => some (u4, u5, u6))
set_option maxHeartbeats 4000000 in
set_option maxRecDepth 100000 in
theorem k_X9_lives (C : Cx RX9 cX9_lives 3 D cA p s m args c) (hr : meth.sig.returnType = none) (hlk : meth.locks = false) (hA : ∀ q, s.heap.size ≤ q → va_A ws0 sz q) (b : Nat → Nat) (m_latest : Int32) (m_cells : Int32) (m_wide : Int32) (m_houses : Int32) (m_bowls : Int32) (m_dogs : Int32) (m_gone : Int32) (m_sights : Int32) (m_drawn : Int32) (m_cell : Nat → Int32) (m_settings : Nat → Int32) (m_bowl : Nat → Int32) (m_dog : Nat → Int32) (m_path : Nat → Int32) (m_steps : Nat → Int32) (m_line : Nat → Int32) (x1 : Int32) (r : (Nat → Int32) × (Nat → Int32) × (Nat → Int32)) (hf : f_X9_lives m_cells m_wide m_bowls m_dogs m_gone m_cell m_settings m_bowl m_dog m_path m_steps m_line x1 = some r) : At p l e rm_X9_lives s m args below meth c D (va_A ws0 sz) 0 0 (MQ below (PostV D ws0 (wl_X9_lives cA b m_latest m_cells m_wide m_houses m_bowls m_dogs m_gone m_sights m_drawn m_cell m_settings m_bowl m_dog (r.1) (r.2.1) (r.2.2)) sz) args s 0 0 (va_A ws0 sz)) 3 0 (wl_X9_lives cA b m_latest m_cells m_wide m_houses m_bowls m_dogs m_gone m_sights m_drawn m_cell m_settings m_bowl m_dog m_path m_steps m_line) [(0, .ref (b 0)), (1, .int x1)] [] := by
  intro H locs ls hP hD hS hl
  have hx := C.1
  have hb := C.2.1
  have hown := C.2.2.2.1
  have hts := C.2.2.2.2.1
  unfold f_X9_lives at hf
  refine lv_iconst (pc := 0) (v := 0) hx hb dX9_lives_0 ic_0 ?_
  refine lv_istore_n (pc := 1) (lv' := [(2, .int (0 : Int32)), (0, .ref (b 0)), (1, .int x1)]) hx hb dX9_lives_1 rfl hl (Nat.le_of_ble_eq_true rfl) rfl (fun ls hl => ?_)
  obtain ⟨u4, u5, u6, hq, hf⟩ := bind3_some hf
  refine kl_X9_lives_L2 C hA b m_latest m_cells m_wide m_houses m_bowls m_dogs m_gone m_sights m_drawn m_cell m_settings m_bowl m_dog x1 FU ((0 : Int32), m_path, m_steps, m_line) _ hq ?_ H locs ls hP hD hS (lv_sub hl [1, 2, 0] rfl)
  intro H locs ls hP hD hS hl
  have hP : va_P D classes (wl_X9_lives cA b m_latest m_cells m_wide m_houses m_bowls m_dogs m_gone m_sights m_drawn m_cell m_settings m_bowl m_dog u4 u5 u6) H := hP
  have hD : va_D (va_A ws0 sz) (wl_X9_lives cA b m_latest m_cells m_wide m_houses m_bowls m_dogs m_gone m_sights m_drawn m_cell m_settings m_bowl m_dog u4 u5 u6) := hD
  have hl : lv_has ls 3 [] := hl
  have hf := Option.some.inj hf
  subst hf
  exact ret_v C hr hlk hP hS dX9_lives_23
set_option maxRecDepth 100000 in
theorem c_X9_lives (l : Launch) (D : va_G) (cA : Nat → ClassId) (b : Nat → Nat) (m_latest : Int32) (m_cells : Int32) (m_wide : Int32) (m_houses : Int32) (m_bowls : Int32) (m_dogs : Int32) (m_gone : Int32) (m_sights : Int32) (m_drawn : Int32) (m_cell : Nat → Int32) (m_settings : Nat → Int32) (m_bowl : Nat → Int32) (m_dog : Nat → Int32) (m_path : Nat → Int32) (m_steps : Nat → Int32) (m_line : Nat → Int32) (x1 : Int32) (r : (Nat → Int32) × (Nat → Int32) × (Nat → Int32)) (hf : f_X9_lives m_cells m_wide m_bowls m_dogs m_gone m_cell m_settings m_bowl m_dog m_path m_steps m_line x1 = some r) (sz : Nat) : Met l yX9_lives (Cond.code yX9_lives cX9_lives 3 none :: lw_good) rm_X9_lives (PreX D cA [.ref (b 0), .int x1] sz (wl_X9_lives cA b m_latest m_cells m_wide m_houses m_bowls m_dogs m_gone m_sights m_drawn m_cell m_settings m_bowl m_dog m_path m_steps m_line)) (PostV D (wl_X9_lives cA b m_latest m_cells m_wide m_houses m_bowls m_dogs m_gone m_sights m_drawn m_cell m_settings m_bowl m_dog m_path m_steps m_line) (wl_X9_lives cA b m_latest m_cells m_wide m_houses m_bowls m_dogs m_gone m_sights m_drawn m_cell m_settings m_bowl m_dog (r.1) (r.2.1) (r.2.2)) sz) 0 0 (va_A (wl_X9_lives cA b m_latest m_cells m_wide m_houses m_bowls m_dogs m_gone m_sights m_drawn m_cell m_settings m_bowl m_dog m_path m_steps m_line) sz) :=
  met_of (by decide) (Nat.le_of_ble_eq_true rfl) (fun p e s m args below meth c C hr hlk hA => k_X9_lives C hr hlk hA b m_latest m_cells m_wide m_houses m_bowls m_dogs m_gone m_sights m_drawn m_cell m_settings m_bowl m_dog m_path m_steps m_line x1 r hf)
end

abbrev wl_X9_find (cA : Nat → ClassId) (b : Nat → Nat) (m_latest : Int32) (m_cells : Int32) (m_wide : Int32) (m_houses : Int32) (m_bowls : Int32) (m_dogs : Int32) (m_gone : Int32) (m_sights : Int32) (m_drawn : Int32) (m_bytes : Nat → Int32) (m_typed : Nat → Int32) (m_cell : Nat → Int32) (m_house : Nat → Int32) (m_settings : Nat → Int32) (m_bowl : Nat → Int32) (m_dog : Nat → Int32) (m_path : Nat → Int32) (m_steps : Nat → Int32) (m_line : Nat → Int32) : va_W := [((b 0), .inr (9, [.ref (b 1), .ref (b 2), .ref (b 3), .ref (b 4), .int m_latest, .ref (b 5), .ref (b 6), .int m_cells, .int m_wide, .ref (b 7), .int m_houses, .ref (b 8), .ref (b 9), .int m_bowls, .ref (b 10), .int m_dogs, .ref (b 11), .int m_gone, .ref (b 12), .ref (b 13), .ref (b 14), .int m_sights, .ref (b 15), .ref (b 16), .int m_drawn])), ((b 5), .inl (cA 0, 84, .inl m_bytes)), ((b 6), .inl (cA 0, 2, .inl m_typed)), ((b 7), .inl (cA 0, 36, .inl m_cell)), ((b 8), .inl (cA 0, 16, .inl m_house)), ((b 9), .inl (cA 0, 2, .inl m_settings)), ((b 10), .inl (cA 0, 20, .inl m_bowl)), ((b 11), .inl (cA 0, 16, .inl m_dog)), ((b 12), .inl (cA 0, 250, .inl m_path)), ((b 13), .inl (cA 0, 10, .inl m_steps)), ((b 14), .inl (cA 0, 60, .inl m_line))]
abbrev rm_X9_find : Room := { frames := 5, cells := 0, slots := 0, locals := 127 }
section
variable {p : Program} {l : Launch} {e : Env} {s : State} {m : MethodId} {args : Array Value} {below : List Frame} {meth : Method} {c : Code} {D : va_G} {cA : Nat → ClassId} {ws0 : va_W} {sz : Nat} {A : Nat → Prop} {Q : State → Prop}
def f_X9_find (m_cells : Int32) (m_wide : Int32) (m_houses : Int32) (m_bowls : Int32) (m_dogs : Int32) (m_gone : Int32) (m_bytes : Nat → Int32) (m_typed : Nat → Int32) (m_cell : Nat → Int32) (m_house : Nat → Int32) (m_settings : Nat → Int32) (m_bowl : Nat → Int32) (m_dog : Nat → Int32) (m_path : Nat → Int32) (m_steps : Nat → Int32) (m_line : Nat → Int32) : Option (Int32 × Int32 × Int32 × (Nat → Int32) × (Nat → Int32) × (Nat → Int32) × (Nat → Int32) × (Nat → Int32)) :=
  bind4 (f_X9_readsLand m_cells m_wide m_bytes m_typed m_cell) (fun r1 c2 c3 c4 => bind3 (f_X9_readsHouses m_houses m_bytes m_typed m_house) (fun r5 c6 c7 => bind3 (f_X9_lives c2 c3 m_bowls m_dogs m_gone c4 m_settings m_bowl m_dog m_path m_steps m_line (9 : Int32)) (fun c8 c9 c10 => some (c2, c3, c6, c4, c7, c8, c9, c10))))
set_option maxHeartbeats 4000000 in
set_option maxRecDepth 100000 in
theorem k_X9_find (C : Cx RX9 cX9_find 1 D cA p s m args c) (hr : meth.sig.returnType = none) (hlk : meth.locks = false) (hA : ∀ q, s.heap.size ≤ q → va_A ws0 sz q) (b : Nat → Nat) (m_latest : Int32) (m_cells : Int32) (m_wide : Int32) (m_houses : Int32) (m_bowls : Int32) (m_dogs : Int32) (m_gone : Int32) (m_sights : Int32) (m_drawn : Int32) (m_bytes : Nat → Int32) (m_typed : Nat → Int32) (m_cell : Nat → Int32) (m_house : Nat → Int32) (m_settings : Nat → Int32) (m_bowl : Nat → Int32) (m_dog : Nat → Int32) (m_path : Nat → Int32) (m_steps : Nat → Int32) (m_line : Nat → Int32) (r : Int32 × Int32 × Int32 × (Nat → Int32) × (Nat → Int32) × (Nat → Int32) × (Nat → Int32) × (Nat → Int32)) (hf : f_X9_find m_cells m_wide m_houses m_bowls m_dogs m_gone m_bytes m_typed m_cell m_house m_settings m_bowl m_dog m_path m_steps m_line = some r) : At p l e rm_X9_find s m args below meth c D (va_A ws0 sz) 0 0 (MQ below (PostV D ws0 (wl_X9_find cA b m_latest (r.1) (r.2.1) (r.2.2.1) m_bowls m_dogs m_gone m_sights m_drawn m_bytes m_typed (r.2.2.2.1) (r.2.2.2.2.1) m_settings m_bowl m_dog (r.2.2.2.2.2.1) (r.2.2.2.2.2.2.1) (r.2.2.2.2.2.2.2)) sz) args s 0 0 (va_A ws0 sz)) 1 0 (wl_X9_find cA b m_latest m_cells m_wide m_houses m_bowls m_dogs m_gone m_sights m_drawn m_bytes m_typed m_cell m_house m_settings m_bowl m_dog m_path m_steps m_line) [(0, .ref (b 0))] [] := by
  intro H locs ls hP hD hS hl
  have hx := C.1
  have hb := C.2.1
  have hown := C.2.2.2.1
  have hts := C.2.2.2.2.1
  unfold f_X9_find at hf
  refine lv_aload_n (pc := 0) hx hb dX9_find_0 rfl (lv_at hl 0 rfl) ?_
  obtain ⟨r1, c2, c3, c4, hq, hf⟩ := bind4_some hf
  refine fin2_i (wl_X9_find cA b m_latest c2 c3 m_houses m_bowls m_dogs m_gone m_sights m_drawn m_bytes m_typed c4 m_house m_settings m_bowl m_dog m_path m_steps m_line) (run_V (rest := []) (pc := 1) (As := []) C mf_X9_115 (c_X9_readsLand l D cA b m_latest m_cells m_wide m_houses m_bowls m_dogs m_gone m_sights m_drawn m_bytes m_typed m_cell (r1, c2, c3, c4) hq H.size) rfl rfl ⟨(Nat.le_of_ble_eq_true rfl), (Nat.le_of_ble_eq_true rfl)⟩ (preV_of C hP hD [0, 1, 2, 3] rfl (pl_nd pv_135) 0 rfl rfl rfl) rfl hl.1 rfl (Nat.le_of_ble_eq_true rfl) dX9_find_1 ⟨Nat.zero_le _, Nat.zero_le _⟩) hP hD hS hA [0, 1, 2, 3] [4, 5, 6, 7, 8, 9, 10] rfl rfl rfl rfl pv_135 (fun H locs hP hS => ?_)
  have hD : va_D (va_A ws0 sz) (wl_X9_find cA b m_latest c2 c3 m_houses m_bowls m_dogs m_gone m_sights m_drawn m_bytes m_typed c4 m_house m_settings m_bowl m_dog m_path m_steps m_line) := vd_a hD rfl
  refine lv_pop (pc := 4) hx hb dX9_find_4 rfl ?_
  refine lv_aload_n (pc := 5) hx hb dX9_find_5 rfl (lv_at hl 0 rfl) ?_
  obtain ⟨r5, c6, c7, hq, hf⟩ := bind3_some hf
  refine fin2_i (wl_X9_find cA b m_latest c2 c3 c6 m_bowls m_dogs m_gone m_sights m_drawn m_bytes m_typed c4 c7 m_settings m_bowl m_dog m_path m_steps m_line) (run_V (rest := []) (pc := 6) (As := []) C mf_X9_119 (c_X9_readsHouses l D cA b m_latest c2 c3 m_houses m_bowls m_dogs m_gone m_sights m_drawn m_bytes m_typed m_house (r5, c6, c7) hq H.size) rfl rfl ⟨(Nat.le_of_ble_eq_true rfl), (Nat.le_of_ble_eq_true rfl)⟩ (preV_of C hP hD [0, 1, 2, 4] rfl (pl_nd pv_136) 0 rfl rfl rfl) rfl hl.1 rfl (Nat.le_of_ble_eq_true rfl) dX9_find_6 ⟨Nat.zero_le _, Nat.zero_le _⟩) hP hD hS hA [0, 1, 2, 4] [3, 5, 6, 7, 8, 9, 10] rfl rfl rfl rfl pv_136 (fun H locs hP hS => ?_)
  have hD : va_D (va_A ws0 sz) (wl_X9_find cA b m_latest c2 c3 c6 m_bowls m_dogs m_gone m_sights m_drawn m_bytes m_typed c4 c7 m_settings m_bowl m_dog m_path m_steps m_line) := vd_a hD rfl
  refine lv_pop (pc := 9) hx hb dX9_find_9 rfl ?_
  refine lv_aload_n (pc := 10) hx hb dX9_find_10 rfl (lv_at hl 0 rfl) ?_
  refine lv_bipush (pc := 11) (v := 9) hx hb dX9_find_11 bp_9 ?_
  obtain ⟨c8, c9, c10, hq, hf⟩ := bind3_some hf
  refine fin2_v (wl_X9_find cA b m_latest c2 c3 c6 m_bowls m_dogs m_gone m_sights m_drawn m_bytes m_typed c4 c7 m_settings m_bowl m_dog c8 c9 c10) (run_V (rest := []) (pc := 13) (As := [.int (9 : Int32)]) C mf_X9_178 (c_X9_lives l D cA b m_latest c2 c3 c6 m_bowls m_dogs m_gone m_sights m_drawn c4 m_settings m_bowl m_dog m_path m_steps m_line (9 : Int32) (c8, c9, c10) hq H.size) rfl rfl ⟨(Nat.le_of_ble_eq_true rfl), (Nat.le_of_ble_eq_true rfl)⟩ (preV_of C hP hD [0, 3, 5, 6, 7, 8, 9, 10] rfl (pl_nd pv_137) 0 rfl rfl rfl) rfl hl.1 rfl (Nat.le_of_ble_eq_true rfl) dX9_find_13 ⟨Nat.zero_le _, Nat.zero_le _⟩) hP hD hS hA [0, 3, 5, 6, 7, 8, 9, 10] [1, 2, 4] rfl rfl rfl rfl pv_137 (fun H locs hP hS => ?_)
  have hD : va_D (va_A ws0 sz) (wl_X9_find cA b m_latest c2 c3 c6 m_bowls m_dogs m_gone m_sights m_drawn m_bytes m_typed c4 c7 m_settings m_bowl m_dog c8 c9 c10) := vd_a hD rfl
  have hf := Option.some.inj hf
  subst hf
  exact ret_v C hr hlk hP hS dX9_find_16
set_option maxRecDepth 100000 in
theorem c_X9_find (l : Launch) (D : va_G) (cA : Nat → ClassId) (b : Nat → Nat) (m_latest : Int32) (m_cells : Int32) (m_wide : Int32) (m_houses : Int32) (m_bowls : Int32) (m_dogs : Int32) (m_gone : Int32) (m_sights : Int32) (m_drawn : Int32) (m_bytes : Nat → Int32) (m_typed : Nat → Int32) (m_cell : Nat → Int32) (m_house : Nat → Int32) (m_settings : Nat → Int32) (m_bowl : Nat → Int32) (m_dog : Nat → Int32) (m_path : Nat → Int32) (m_steps : Nat → Int32) (m_line : Nat → Int32) (r : Int32 × Int32 × Int32 × (Nat → Int32) × (Nat → Int32) × (Nat → Int32) × (Nat → Int32) × (Nat → Int32)) (hf : f_X9_find m_cells m_wide m_houses m_bowls m_dogs m_gone m_bytes m_typed m_cell m_house m_settings m_bowl m_dog m_path m_steps m_line = some r) (sz : Nat) : Met l yX9_find (Cond.code yX9_find cX9_find 1 none :: lw_good) rm_X9_find (PreX D cA [.ref (b 0)] sz (wl_X9_find cA b m_latest m_cells m_wide m_houses m_bowls m_dogs m_gone m_sights m_drawn m_bytes m_typed m_cell m_house m_settings m_bowl m_dog m_path m_steps m_line)) (PostV D (wl_X9_find cA b m_latest m_cells m_wide m_houses m_bowls m_dogs m_gone m_sights m_drawn m_bytes m_typed m_cell m_house m_settings m_bowl m_dog m_path m_steps m_line) (wl_X9_find cA b m_latest (r.1) (r.2.1) (r.2.2.1) m_bowls m_dogs m_gone m_sights m_drawn m_bytes m_typed (r.2.2.2.1) (r.2.2.2.2.1) m_settings m_bowl m_dog (r.2.2.2.2.2.1) (r.2.2.2.2.2.2.1) (r.2.2.2.2.2.2.2)) sz) 0 0 (va_A (wl_X9_find cA b m_latest m_cells m_wide m_houses m_bowls m_dogs m_gone m_sights m_drawn m_bytes m_typed m_cell m_house m_settings m_bowl m_dog m_path m_steps m_line) sz) :=
  met_of (by decide) (Nat.le_of_ble_eq_true rfl) (fun p e s m args below meth c C hr hlk hA => k_X9_find C hr hlk hA b m_latest m_cells m_wide m_houses m_bowls m_dogs m_gone m_sights m_drawn m_bytes m_typed m_cell m_house m_settings m_bowl m_dog m_path m_steps m_line r hf)
end

abbrev wl_X9_atOf (cA : Nat → ClassId) (b : Nat → Nat) (m_latest : Int32) (m_cells : Int32) (m_wide : Int32) (m_houses : Int32) (m_bowls : Int32) (m_dogs : Int32) (m_gone : Int32) (m_sights : Int32) (m_drawn : Int32) (m_path : Nat → Int32) (m_steps : Nat → Int32) : va_W := [((b 0), .inr (9, [.ref (b 1), .ref (b 2), .ref (b 3), .ref (b 4), .int m_latest, .ref (b 5), .ref (b 6), .int m_cells, .int m_wide, .ref (b 7), .int m_houses, .ref (b 8), .ref (b 9), .int m_bowls, .ref (b 10), .int m_dogs, .ref (b 11), .int m_gone, .ref (b 12), .ref (b 13), .ref (b 14), .int m_sights, .ref (b 15), .ref (b 16), .int m_drawn])), ((b 12), .inl (cA 0, 250, .inl m_path)), ((b 13), .inl (cA 0, 10, .inl m_steps))]
abbrev rm_X9_atOf : Room := { frames := 1, cells := 0, slots := 0, locals := 21 }
section
variable {p : Program} {l : Launch} {e : Env} {s : State} {m : MethodId} {args : Array Value} {below : List Frame} {meth : Method} {c : Code} {D : va_G} {cA : Nat → ClassId} {ws0 : va_W} {sz : Nat} {A : Nat → Prop} {Q : State → Prop}
def f_X9_atOf (m_path : Nat → Int32) (m_steps : Nat → Int32) (x1 : Int32) (x2 : Int32) : Option (Int32) :=
  gd (inb x1 10) (if (m_steps x1.toNatClampNeg) = (-1 : Int32) then (some (-1 : Int32)) else (gd (inb x1 10) (bind1 (f_X9_lesser x2 (m_steps x1.toNatClampNeg)) (fun r1 => gd (inb (((25 : Int32) * x1) + r1) 250) (some (m_path (((25 : Int32) * x1) + r1).toNatClampNeg))))))
set_option maxHeartbeats 4000000 in
set_option maxRecDepth 100000 in
theorem k_X9_atOf (C : Cx RX9 cX9_atOf 3 D cA p s m args c) (hr : meth.sig.returnType = (some .int)) (hlk : meth.locks = false) (hA : ∀ q, s.heap.size ≤ q → va_A ws0 sz q) (b : Nat → Nat) (m_latest : Int32) (m_cells : Int32) (m_wide : Int32) (m_houses : Int32) (m_bowls : Int32) (m_dogs : Int32) (m_gone : Int32) (m_sights : Int32) (m_drawn : Int32) (m_path : Nat → Int32) (m_steps : Nat → Int32) (x1 : Int32) (x2 : Int32) (r : Int32) (hf : f_X9_atOf m_path m_steps x1 x2 = some r) : At p l e rm_X9_atOf s m args below meth c D (va_A ws0 sz) 0 0 (MQ below (PostI D r ws0 (wl_X9_atOf cA b m_latest m_cells m_wide m_houses m_bowls m_dogs m_gone m_sights m_drawn m_path m_steps) sz) args s 0 0 (va_A ws0 sz)) 3 0 (wl_X9_atOf cA b m_latest m_cells m_wide m_houses m_bowls m_dogs m_gone m_sights m_drawn m_path m_steps) [(0, .ref (b 0)), (1, .int x1), (2, .int x2)] [] := by
  intro H locs ls hP hD hS hl
  have hx := C.1
  have hb := C.2.1
  have hown := C.2.2.2.1
  have hts := C.2.2.2.2.1
  unfold f_X9_atOf at hf
  refine lv_aload_n (pc := 0) hx hb dX9_atOf_0 rfl (lv_at hl 0 rfl) ?_
  refine g_get (pc := 1) C fg_X9_46 hP 0 rfl rfl dX9_atOf_1 ?_
  refine lv_iload_n (pc := 4) hx hb dX9_atOf_4 rfl (lv_at hl 1 rfl) ?_
  obtain ⟨hg, hf⟩ := gd_some hf
  refine g_iald (pc := 5) C hP 2 rfl hg dX9_atOf_5 ?_
  refine lv_iconst (pc := 6) (v := (-1)) hx hb dX9_atOf_6 ic_m1 ?_
  refine lv_icmp_ne (pc := 7) (tgt := 14) hx hb dX9_atOf_7 (by decide) (fun hc => ?_) (fun hc => ?_)
  · have hf := (if_neg hc).symm.trans hf
    refine lv_aload_n (pc := 14) hx hb dX9_atOf_14 rfl (lv_at hl 0 rfl) ?_
    refine g_get (pc := 15) C fg_X9_43 hP 0 rfl rfl dX9_atOf_15 ?_
    refine lv_bipush (pc := 18) (v := 25) hx hb dX9_atOf_18 bp_25 ?_
    refine lv_iload_n (pc := 20) hx hb dX9_atOf_20 rfl (lv_at hl 1 rfl) ?_
    refine lv_imul (pc := 21) hx hb dX9_atOf_21 ?_
    refine lv_iload_n (pc := 22) hx hb dX9_atOf_22 rfl (lv_at hl 2 rfl) ?_
    refine lv_aload_n (pc := 23) hx hb dX9_atOf_23 rfl (lv_at hl 0 rfl) ?_
    refine g_get (pc := 24) C fg_X9_46 hP 0 rfl rfl dX9_atOf_24 ?_
    refine lv_iload_n (pc := 27) hx hb dX9_atOf_27 rfl (lv_at hl 1 rfl) ?_
    obtain ⟨hg, hf⟩ := gd_some hf
    refine g_iald (pc := 28) C hP 2 rfl hg dX9_atOf_28 ?_
    obtain ⟨r1, hq, hf⟩ := bind1_some hf
    refine fin2_i (wl_X9_atOf cA b m_latest m_cells m_wide m_houses m_bowls m_dogs m_gone m_sights m_drawn m_path m_steps) (run_S (rest := [.int ((25 : Int32) * x1), .ref (b 12)]) (pc := 29) (As := [.int x2, .int (m_steps x1.toNatClampNeg)]) C mf_X9_181 (c_X9_lesser l D cA  x2 (m_steps x1.toNatClampNeg) r1 hq H.size) rfl rfl ⟨(Nat.le_of_ble_eq_true rfl), (Nat.le_of_ble_eq_true rfl)⟩ (preS_of C hP hD [] rfl (pl_nd pv_23)) rfl hl.1 rfl (Nat.le_of_ble_eq_true rfl) dX9_atOf_29 ⟨Nat.zero_le _, Nat.zero_le _⟩) hP hD hS hA [] [0, 1, 2] rfl rfl rfl rfl pv_23 (fun H locs hP hS => ?_)
    refine lv_iadd (pc := 32) hx hb dX9_atOf_32 ?_
    obtain ⟨hg, hf⟩ := gd_some hf
    refine g_iald (pc := 33) C hP 1 rfl hg dX9_atOf_33 ?_
    have hf := Option.some.inj hf
    subst hf
    exact ret_i C hr hlk hP hS dX9_atOf_34
  · have hf := (if_pos hc).symm.trans hf
    refine lv_iconst (pc := 10) (v := (-1)) hx hb dX9_atOf_10 ic_m1 ?_
    refine lv_goto (pc := 11) (tgt := 34) hx hb dX9_atOf_11 (by decide) ?_
    have hf := Option.some.inj hf
    subst hf
    exact ret_i C hr hlk hP hS dX9_atOf_34
set_option maxRecDepth 100000 in
theorem c_X9_atOf (l : Launch) (D : va_G) (cA : Nat → ClassId) (b : Nat → Nat) (m_latest : Int32) (m_cells : Int32) (m_wide : Int32) (m_houses : Int32) (m_bowls : Int32) (m_dogs : Int32) (m_gone : Int32) (m_sights : Int32) (m_drawn : Int32) (m_path : Nat → Int32) (m_steps : Nat → Int32) (x1 : Int32) (x2 : Int32) (r : Int32) (hf : f_X9_atOf m_path m_steps x1 x2 = some r) (sz : Nat) : Met l yX9_atOf (Cond.code yX9_atOf cX9_atOf 3 (some .int) :: lw_good) rm_X9_atOf (PreX D cA [.ref (b 0), .int x1, .int x2] sz (wl_X9_atOf cA b m_latest m_cells m_wide m_houses m_bowls m_dogs m_gone m_sights m_drawn m_path m_steps)) (PostI D r (wl_X9_atOf cA b m_latest m_cells m_wide m_houses m_bowls m_dogs m_gone m_sights m_drawn m_path m_steps) (wl_X9_atOf cA b m_latest m_cells m_wide m_houses m_bowls m_dogs m_gone m_sights m_drawn m_path m_steps) sz) 0 0 (va_A (wl_X9_atOf cA b m_latest m_cells m_wide m_houses m_bowls m_dogs m_gone m_sights m_drawn m_path m_steps) sz) :=
  met_of (by decide) (Nat.le_of_ble_eq_true rfl) (fun p e s m args below meth c C hr hlk hA => k_X9_atOf C hr hlk hA b m_latest m_cells m_wide m_houses m_bowls m_dogs m_gone m_sights m_drawn m_path m_steps x1 x2 r hf)
end

abbrev wl_X9_at (cA : Nat → ClassId) (b : Nat → Nat) (m_latest : Int32) (m_cells : Int32) (m_wide : Int32) (m_houses : Int32) (m_bowls : Int32) (m_dogs : Int32) (m_gone : Int32) (m_sights : Int32) (m_drawn : Int32) (m_bytes : Nat → Int32) (m_typed : Nat → Int32) (m_cell : Nat → Int32) (m_house : Nat → Int32) (m_settings : Nat → Int32) (m_bowl : Nat → Int32) (m_dog : Nat → Int32) (m_path : Nat → Int32) (m_steps : Nat → Int32) (m_line : Nat → Int32) : va_W := [((b 0), .inr (9, [.ref (b 1), .ref (b 2), .ref (b 3), .ref (b 4), .int m_latest, .ref (b 5), .ref (b 6), .int m_cells, .int m_wide, .ref (b 7), .int m_houses, .ref (b 8), .ref (b 9), .int m_bowls, .ref (b 10), .int m_dogs, .ref (b 11), .int m_gone, .ref (b 12), .ref (b 13), .ref (b 14), .int m_sights, .ref (b 15), .ref (b 16), .int m_drawn])), ((b 5), .inl (cA 0, 84, .inl m_bytes)), ((b 6), .inl (cA 0, 2, .inl m_typed)), ((b 7), .inl (cA 0, 36, .inl m_cell)), ((b 8), .inl (cA 0, 16, .inl m_house)), ((b 9), .inl (cA 0, 2, .inl m_settings)), ((b 10), .inl (cA 0, 20, .inl m_bowl)), ((b 11), .inl (cA 0, 16, .inl m_dog)), ((b 12), .inl (cA 0, 250, .inl m_path)), ((b 13), .inl (cA 0, 10, .inl m_steps)), ((b 14), .inl (cA 0, 60, .inl m_line))]
abbrev rm_X9_at : Room := { frames := 6, cells := 0, slots := 0, locals := 147 }
section
variable {p : Program} {l : Launch} {e : Env} {s : State} {m : MethodId} {args : Array Value} {below : List Frame} {meth : Method} {c : Code} {D : va_G} {cA : Nat → ClassId} {ws0 : va_W} {sz : Nat} {A : Nat → Prop} {Q : State → Prop}
def f_X9_at (m_cells : Int32) (m_wide : Int32) (m_houses : Int32) (m_bowls : Int32) (m_dogs : Int32) (m_gone : Int32) (m_bytes : Nat → Int32) (m_typed : Nat → Int32) (m_cell : Nat → Int32) (m_house : Nat → Int32) (m_settings : Nat → Int32) (m_bowl : Nat → Int32) (m_dog : Nat → Int32) (m_path : Nat → Int32) (m_steps : Nat → Int32) (m_line : Nat → Int32) (x1 : Int32) (x2 : Int32) : Option (Int32 × Int32 × Int32 × Int32 × (Nat → Int32) × (Nat → Int32) × (Nat → Int32) × (Nat → Int32) × (Nat → Int32)) :=
  bind8 (f_X9_find m_cells m_wide m_houses m_bowls m_dogs m_gone m_bytes m_typed m_cell m_house m_settings m_bowl m_dog m_path m_steps m_line) (fun c1 c2 c3 c4 c5 c6 c7 c8 => bind1 (f_X9_isNight x1) (fun r9 => if r9 = 0 then (some ((-2 : Int32), c1, c2, c3, c4, c5, c6, c7, c8)) else (bind1 (f_X9_in (x2.toInt64) (0 : Int64) (24 : Int64)) (fun r10 => if r10 = 0 then (some ((-2 : Int32), c1, c2, c3, c4, c5, c6, c7, c8)) else (bind1 (f_X9_atOf c6 c7 x1 x2) (fun r11 => some (r11, c1, c2, c3, c4, c5, c6, c7, c8)))))))
set_option maxHeartbeats 4000000 in
set_option maxRecDepth 100000 in
theorem k_X9_at (C : Cx RX9 cX9_at 3 D cA p s m args c) (hr : meth.sig.returnType = (some .int)) (hlk : meth.locks = false) (hA : ∀ q, s.heap.size ≤ q → va_A ws0 sz q) (b : Nat → Nat) (m_latest : Int32) (m_cells : Int32) (m_wide : Int32) (m_houses : Int32) (m_bowls : Int32) (m_dogs : Int32) (m_gone : Int32) (m_sights : Int32) (m_drawn : Int32) (m_bytes : Nat → Int32) (m_typed : Nat → Int32) (m_cell : Nat → Int32) (m_house : Nat → Int32) (m_settings : Nat → Int32) (m_bowl : Nat → Int32) (m_dog : Nat → Int32) (m_path : Nat → Int32) (m_steps : Nat → Int32) (m_line : Nat → Int32) (x1 : Int32) (x2 : Int32) (r : Int32 × Int32 × Int32 × Int32 × (Nat → Int32) × (Nat → Int32) × (Nat → Int32) × (Nat → Int32) × (Nat → Int32)) (hf : f_X9_at m_cells m_wide m_houses m_bowls m_dogs m_gone m_bytes m_typed m_cell m_house m_settings m_bowl m_dog m_path m_steps m_line x1 x2 = some r) : At p l e rm_X9_at s m args below meth c D (va_A ws0 sz) 0 0 (MQ below (PostI D r.1 ws0 (wl_X9_at cA b m_latest (r.2.1) (r.2.2.1) (r.2.2.2.1) m_bowls m_dogs m_gone m_sights m_drawn m_bytes m_typed (r.2.2.2.2.1) (r.2.2.2.2.2.1) m_settings m_bowl m_dog (r.2.2.2.2.2.2.1) (r.2.2.2.2.2.2.2.1) (r.2.2.2.2.2.2.2.2)) sz) args s 0 0 (va_A ws0 sz)) 3 0 (wl_X9_at cA b m_latest m_cells m_wide m_houses m_bowls m_dogs m_gone m_sights m_drawn m_bytes m_typed m_cell m_house m_settings m_bowl m_dog m_path m_steps m_line) [(0, .ref (b 0)), (1, .int x1), (2, .int x2)] [] := by
  intro H locs ls hP hD hS hl
  have hx := C.1
  have hb := C.2.1
  have hown := C.2.2.2.1
  have hts := C.2.2.2.2.1
  unfold f_X9_at at hf
  refine lv_aload_n (pc := 0) hx hb dX9_at_0 rfl (lv_at hl 0 rfl) ?_
  obtain ⟨c1, c2, c3, c4, c5, c6, c7, c8, hq, hf⟩ := bind8_some hf
  refine fin2_v (wl_X9_at cA b m_latest c1 c2 c3 m_bowls m_dogs m_gone m_sights m_drawn m_bytes m_typed c4 c5 m_settings m_bowl m_dog c6 c7 c8) (run_V (rest := []) (pc := 1) (As := []) C mf_X9_184 (c_X9_find l D cA b m_latest m_cells m_wide m_houses m_bowls m_dogs m_gone m_sights m_drawn m_bytes m_typed m_cell m_house m_settings m_bowl m_dog m_path m_steps m_line (c1, c2, c3, c4, c5, c6, c7, c8) hq H.size) rfl rfl ⟨(Nat.le_of_ble_eq_true rfl), (Nat.le_of_ble_eq_true rfl)⟩ (preV_of C hP hD [0, 1, 2, 3, 4, 5, 6, 7, 8, 9, 10] rfl (pl_nd pv_138) 0 rfl rfl rfl) rfl hl.1 rfl (Nat.le_of_ble_eq_true rfl) dX9_at_1 ⟨Nat.zero_le _, Nat.zero_le _⟩) hP hD hS hA [0, 1, 2, 3, 4, 5, 6, 7, 8, 9, 10] [] rfl rfl rfl rfl pv_138 (fun H locs hP hS => ?_)
  have hD : va_D (va_A ws0 sz) (wl_X9_at cA b m_latest c1 c2 c3 m_bowls m_dogs m_gone m_sights m_drawn m_bytes m_typed c4 c5 m_settings m_bowl m_dog c6 c7 c8) := vd_a hD rfl
  refine lv_iload_n (pc := 4) hx hb dX9_at_4 rfl (lv_at hl 1 rfl) ?_
  obtain ⟨r9, hq, hf⟩ := bind1_some hf
  refine fin2_i (wl_X9_at cA b m_latest c1 c2 c3 m_bowls m_dogs m_gone m_sights m_drawn m_bytes m_typed c4 c5 m_settings m_bowl m_dog c6 c7 c8) (run_S (rest := []) (pc := 5) (As := [.int x1]) C mf_X9_136 (c_X9_isNight l D cA  x1 r9 hq H.size) rfl rfl ⟨(Nat.le_of_ble_eq_true rfl), (Nat.le_of_ble_eq_true rfl)⟩ (preS_of C hP hD [] rfl (pl_nd pv_139)) rfl hl.1 rfl (Nat.le_of_ble_eq_true rfl) dX9_at_5 ⟨Nat.zero_le _, Nat.zero_le _⟩) hP hD hS hA [] [0, 1, 2, 3, 4, 5, 6, 7, 8, 9, 10] rfl rfl rfl rfl pv_139 (fun H locs hP hS => ?_)
  refine lv_if_eq (pc := 8) (tgt := 32) hx hb dX9_at_8 (by decide) (fun hc => ?_) (fun hc => ?_)
  · have hf := (if_pos hc).symm.trans hf
    refine lv_bipush (pc := 32) (v := (-2)) hx hb dX9_at_32 bp_m2 ?_
    have hf := Option.some.inj hf
    subst hf
    exact ret_i C hr hlk hP hS dX9_at_34
  · have hf := (if_neg hc).symm.trans hf
    refine lv_iload_n (pc := 11) hx hb dX9_at_11 rfl (lv_at hl 2 rfl) ?_
    refine lv_i2l (pc := 12) hx hb dX9_at_12 rfl ?_
    refine lv_lconst (pc := 13) (v := 0) hx hb dX9_at_13 rfl ?_
    refine lv_ldc2 (pc := 14) hx hb hown (hts _ (lg_in mw_567 rfl)) dX9_at_14 ?_
    obtain ⟨r10, hq, hf⟩ := bind1_some hf
    refine fin2_i (wl_X9_at cA b m_latest c1 c2 c3 m_bowls m_dogs m_gone m_sights m_drawn m_bytes m_typed c4 c5 m_settings m_bowl m_dog c6 c7 c8) (run_S (rest := []) (pc := 17) (As := [.long (x2.toInt64), .long (0 : Int64), .long (24 : Int64)]) C mf_X9_60 (c_X9_in l D cA  (x2.toInt64) (0 : Int64) (24 : Int64) r10 hq H.size) rfl rfl ⟨(Nat.le_of_ble_eq_true rfl), (Nat.le_of_ble_eq_true rfl)⟩ (preS_of C hP hD [] rfl (pl_nd pv_139)) rfl hl.1 rfl (Nat.le_of_ble_eq_true rfl) dX9_at_17 ⟨Nat.zero_le _, Nat.zero_le _⟩) hP hD hS hA [] [0, 1, 2, 3, 4, 5, 6, 7, 8, 9, 10] rfl rfl rfl rfl pv_139 (fun H locs hP hS => ?_)
    refine lv_if_eq (pc := 20) (tgt := 32) hx hb dX9_at_20 (by decide) (fun hc => ?_) (fun hc => ?_)
    · have hf := (if_pos hc).symm.trans hf
      refine lv_bipush (pc := 32) (v := (-2)) hx hb dX9_at_32 bp_m2 ?_
      have hf := Option.some.inj hf
      subst hf
      exact ret_i C hr hlk hP hS dX9_at_34
    · have hf := (if_neg hc).symm.trans hf
      refine lv_aload_n (pc := 23) hx hb dX9_at_23 rfl (lv_at hl 0 rfl) ?_
      refine lv_iload_n (pc := 24) hx hb dX9_at_24 rfl (lv_at hl 1 rfl) ?_
      refine lv_iload_n (pc := 25) hx hb dX9_at_25 rfl (lv_at hl 2 rfl) ?_
      obtain ⟨r11, hq, hf⟩ := bind1_some hf
      refine fin2_i (wl_X9_at cA b m_latest c1 c2 c3 m_bowls m_dogs m_gone m_sights m_drawn m_bytes m_typed c4 c5 m_settings m_bowl m_dog c6 c7 c8) (run_V (rest := []) (pc := 26) (As := [.int x1, .int x2]) C mf_X9_189 (c_X9_atOf l D cA b m_latest c1 c2 c3 m_bowls m_dogs m_gone m_sights m_drawn c6 c7 x1 x2 r11 hq H.size) rfl rfl ⟨(Nat.le_of_ble_eq_true rfl), (Nat.le_of_ble_eq_true rfl)⟩ (preV_of C hP hD [0, 8, 9] rfl (pl_nd pv_140) 0 rfl rfl rfl) rfl hl.1 rfl (Nat.le_of_ble_eq_true rfl) dX9_at_26 ⟨Nat.zero_le _, Nat.zero_le _⟩) hP hD hS hA [0, 8, 9] [1, 2, 3, 4, 5, 6, 7, 10] rfl rfl rfl rfl pv_140 (fun H locs hP hS => ?_)
      refine lv_goto (pc := 29) (tgt := 34) hx hb dX9_at_29 (by decide) ?_
      have hf := Option.some.inj hf
      subst hf
      exact ret_i C hr hlk hP hS dX9_at_34
set_option maxRecDepth 100000 in
theorem c_X9_at (l : Launch) (D : va_G) (cA : Nat → ClassId) (b : Nat → Nat) (m_latest : Int32) (m_cells : Int32) (m_wide : Int32) (m_houses : Int32) (m_bowls : Int32) (m_dogs : Int32) (m_gone : Int32) (m_sights : Int32) (m_drawn : Int32) (m_bytes : Nat → Int32) (m_typed : Nat → Int32) (m_cell : Nat → Int32) (m_house : Nat → Int32) (m_settings : Nat → Int32) (m_bowl : Nat → Int32) (m_dog : Nat → Int32) (m_path : Nat → Int32) (m_steps : Nat → Int32) (m_line : Nat → Int32) (x1 : Int32) (x2 : Int32) (r : Int32 × Int32 × Int32 × Int32 × (Nat → Int32) × (Nat → Int32) × (Nat → Int32) × (Nat → Int32) × (Nat → Int32)) (hf : f_X9_at m_cells m_wide m_houses m_bowls m_dogs m_gone m_bytes m_typed m_cell m_house m_settings m_bowl m_dog m_path m_steps m_line x1 x2 = some r) (sz : Nat) : Met l yX9_at (Cond.code yX9_at cX9_at 3 (some .int) :: lw_good) rm_X9_at (PreX D cA [.ref (b 0), .int x1, .int x2] sz (wl_X9_at cA b m_latest m_cells m_wide m_houses m_bowls m_dogs m_gone m_sights m_drawn m_bytes m_typed m_cell m_house m_settings m_bowl m_dog m_path m_steps m_line)) (PostI D r.1 (wl_X9_at cA b m_latest m_cells m_wide m_houses m_bowls m_dogs m_gone m_sights m_drawn m_bytes m_typed m_cell m_house m_settings m_bowl m_dog m_path m_steps m_line) (wl_X9_at cA b m_latest (r.2.1) (r.2.2.1) (r.2.2.2.1) m_bowls m_dogs m_gone m_sights m_drawn m_bytes m_typed (r.2.2.2.2.1) (r.2.2.2.2.2.1) m_settings m_bowl m_dog (r.2.2.2.2.2.2.1) (r.2.2.2.2.2.2.2.1) (r.2.2.2.2.2.2.2.2)) sz) 0 0 (va_A (wl_X9_at cA b m_latest m_cells m_wide m_houses m_bowls m_dogs m_gone m_sights m_drawn m_bytes m_typed m_cell m_house m_settings m_bowl m_dog m_path m_steps m_line) sz) :=
  met_of (by decide) (Nat.le_of_ble_eq_true rfl) (fun p e s m args below meth c C hr hlk hA => k_X9_at C hr hlk hA b m_latest m_cells m_wide m_houses m_bowls m_dogs m_gone m_sights m_drawn m_bytes m_typed m_cell m_house m_settings m_bowl m_dog m_path m_steps m_line x1 x2 r hf)
end

abbrev wl_X9_goesOf (cA : Nat → ClassId) (b : Nat → Nat) (m_latest : Int32) (m_cells : Int32) (m_wide : Int32) (m_houses : Int32) (m_bowls : Int32) (m_dogs : Int32) (m_gone : Int32) (m_sights : Int32) (m_drawn : Int32) (m_steps : Nat → Int32) : va_W := [((b 0), .inr (9, [.ref (b 1), .ref (b 2), .ref (b 3), .ref (b 4), .int m_latest, .ref (b 5), .ref (b 6), .int m_cells, .int m_wide, .ref (b 7), .int m_houses, .ref (b 8), .ref (b 9), .int m_bowls, .ref (b 10), .int m_dogs, .ref (b 11), .int m_gone, .ref (b 12), .ref (b 13), .ref (b 14), .int m_sights, .ref (b 15), .ref (b 16), .int m_drawn])), ((b 13), .inl (cA 0, 10, .inl m_steps))]
abbrev rm_X9_goesOf : Room := { frames := 0, cells := 0, slots := 0, locals := 0 }
section
variable {p : Program} {l : Launch} {e : Env} {s : State} {m : MethodId} {args : Array Value} {below : List Frame} {meth : Method} {c : Code} {D : va_G} {cA : Nat → ClassId} {ws0 : va_W} {sz : Nat} {A : Nat → Prop} {Q : State → Prop}
def f_X9_goesOf (m_steps : Nat → Int32) (x1 : Int32) : Option (Int32) :=
  gd (inb x1 10) (if (m_steps x1.toNatClampNeg) = (-1 : Int32) then (some (0 : Int32)) else (gd (inb x1 10) (some (m_steps x1.toNatClampNeg))))
set_option maxHeartbeats 4000000 in
set_option maxRecDepth 100000 in
theorem k_X9_goesOf (C : Cx RX9 cX9_goesOf 2 D cA p s m args c) (hr : meth.sig.returnType = (some .int)) (hlk : meth.locks = false) (hA : ∀ q, s.heap.size ≤ q → va_A ws0 sz q) (b : Nat → Nat) (m_latest : Int32) (m_cells : Int32) (m_wide : Int32) (m_houses : Int32) (m_bowls : Int32) (m_dogs : Int32) (m_gone : Int32) (m_sights : Int32) (m_drawn : Int32) (m_steps : Nat → Int32) (x1 : Int32) (r : Int32) (hf : f_X9_goesOf m_steps x1 = some r) : At p l e rm_X9_goesOf s m args below meth c D (va_A ws0 sz) 0 0 (MQ below (PostI D r ws0 (wl_X9_goesOf cA b m_latest m_cells m_wide m_houses m_bowls m_dogs m_gone m_sights m_drawn m_steps) sz) args s 0 0 (va_A ws0 sz)) 2 0 (wl_X9_goesOf cA b m_latest m_cells m_wide m_houses m_bowls m_dogs m_gone m_sights m_drawn m_steps) [(0, .ref (b 0)), (1, .int x1)] [] := by
  intro H locs ls hP hD hS hl
  have hx := C.1
  have hb := C.2.1
  have hown := C.2.2.2.1
  have hts := C.2.2.2.2.1
  unfold f_X9_goesOf at hf
  refine lv_aload_n (pc := 0) hx hb dX9_goesOf_0 rfl (lv_at hl 0 rfl) ?_
  refine g_get (pc := 1) C fg_X9_46 hP 0 rfl rfl dX9_goesOf_1 ?_
  refine lv_iload_n (pc := 4) hx hb dX9_goesOf_4 rfl (lv_at hl 1 rfl) ?_
  obtain ⟨hg, hf⟩ := gd_some hf
  refine g_iald (pc := 5) C hP 1 rfl hg dX9_goesOf_5 ?_
  refine lv_iconst (pc := 6) (v := (-1)) hx hb dX9_goesOf_6 ic_m1 ?_
  refine lv_icmp_ne (pc := 7) (tgt := 14) hx hb dX9_goesOf_7 (by decide) (fun hc => ?_) (fun hc => ?_)
  · have hf := (if_neg hc).symm.trans hf
    refine lv_aload_n (pc := 14) hx hb dX9_goesOf_14 rfl (lv_at hl 0 rfl) ?_
    refine g_get (pc := 15) C fg_X9_46 hP 0 rfl rfl dX9_goesOf_15 ?_
    refine lv_iload_n (pc := 18) hx hb dX9_goesOf_18 rfl (lv_at hl 1 rfl) ?_
    obtain ⟨hg, hf⟩ := gd_some hf
    refine g_iald (pc := 19) C hP 1 rfl hg dX9_goesOf_19 ?_
    have hf := Option.some.inj hf
    subst hf
    exact ret_i C hr hlk hP hS dX9_goesOf_20
  · have hf := (if_pos hc).symm.trans hf
    refine lv_iconst (pc := 10) (v := 0) hx hb dX9_goesOf_10 ic_0 ?_
    refine lv_goto (pc := 11) (tgt := 20) hx hb dX9_goesOf_11 (by decide) ?_
    have hf := Option.some.inj hf
    subst hf
    exact ret_i C hr hlk hP hS dX9_goesOf_20
set_option maxRecDepth 100000 in
theorem c_X9_goesOf (l : Launch) (D : va_G) (cA : Nat → ClassId) (b : Nat → Nat) (m_latest : Int32) (m_cells : Int32) (m_wide : Int32) (m_houses : Int32) (m_bowls : Int32) (m_dogs : Int32) (m_gone : Int32) (m_sights : Int32) (m_drawn : Int32) (m_steps : Nat → Int32) (x1 : Int32) (r : Int32) (hf : f_X9_goesOf m_steps x1 = some r) (sz : Nat) : Met l yX9_goesOf (Cond.code yX9_goesOf cX9_goesOf 2 (some .int) :: lw_good) rm_X9_goesOf (PreX D cA [.ref (b 0), .int x1] sz (wl_X9_goesOf cA b m_latest m_cells m_wide m_houses m_bowls m_dogs m_gone m_sights m_drawn m_steps)) (PostI D r (wl_X9_goesOf cA b m_latest m_cells m_wide m_houses m_bowls m_dogs m_gone m_sights m_drawn m_steps) (wl_X9_goesOf cA b m_latest m_cells m_wide m_houses m_bowls m_dogs m_gone m_sights m_drawn m_steps) sz) 0 0 (va_A (wl_X9_goesOf cA b m_latest m_cells m_wide m_houses m_bowls m_dogs m_gone m_sights m_drawn m_steps) sz) :=
  met_of (by decide) (Nat.le_of_ble_eq_true rfl) (fun p e s m args below meth c C hr hlk hA => k_X9_goesOf C hr hlk hA b m_latest m_cells m_wide m_houses m_bowls m_dogs m_gone m_sights m_drawn m_steps x1 r hf)
end

abbrev wl_X9_goes (cA : Nat → ClassId) (b : Nat → Nat) (m_latest : Int32) (m_cells : Int32) (m_wide : Int32) (m_houses : Int32) (m_bowls : Int32) (m_dogs : Int32) (m_gone : Int32) (m_sights : Int32) (m_drawn : Int32) (m_bytes : Nat → Int32) (m_typed : Nat → Int32) (m_cell : Nat → Int32) (m_house : Nat → Int32) (m_settings : Nat → Int32) (m_bowl : Nat → Int32) (m_dog : Nat → Int32) (m_path : Nat → Int32) (m_steps : Nat → Int32) (m_line : Nat → Int32) : va_W := [((b 0), .inr (9, [.ref (b 1), .ref (b 2), .ref (b 3), .ref (b 4), .int m_latest, .ref (b 5), .ref (b 6), .int m_cells, .int m_wide, .ref (b 7), .int m_houses, .ref (b 8), .ref (b 9), .int m_bowls, .ref (b 10), .int m_dogs, .ref (b 11), .int m_gone, .ref (b 12), .ref (b 13), .ref (b 14), .int m_sights, .ref (b 15), .ref (b 16), .int m_drawn])), ((b 5), .inl (cA 0, 84, .inl m_bytes)), ((b 6), .inl (cA 0, 2, .inl m_typed)), ((b 7), .inl (cA 0, 36, .inl m_cell)), ((b 8), .inl (cA 0, 16, .inl m_house)), ((b 9), .inl (cA 0, 2, .inl m_settings)), ((b 10), .inl (cA 0, 20, .inl m_bowl)), ((b 11), .inl (cA 0, 16, .inl m_dog)), ((b 12), .inl (cA 0, 250, .inl m_path)), ((b 13), .inl (cA 0, 10, .inl m_steps)), ((b 14), .inl (cA 0, 60, .inl m_line))]
abbrev rm_X9_goes : Room := { frames := 6, cells := 0, slots := 0, locals := 147 }
section
variable {p : Program} {l : Launch} {e : Env} {s : State} {m : MethodId} {args : Array Value} {below : List Frame} {meth : Method} {c : Code} {D : va_G} {cA : Nat → ClassId} {ws0 : va_W} {sz : Nat} {A : Nat → Prop} {Q : State → Prop}
def f_X9_goes (m_cells : Int32) (m_wide : Int32) (m_houses : Int32) (m_bowls : Int32) (m_dogs : Int32) (m_gone : Int32) (m_bytes : Nat → Int32) (m_typed : Nat → Int32) (m_cell : Nat → Int32) (m_house : Nat → Int32) (m_settings : Nat → Int32) (m_bowl : Nat → Int32) (m_dog : Nat → Int32) (m_path : Nat → Int32) (m_steps : Nat → Int32) (m_line : Nat → Int32) (x1 : Int32) : Option (Int32 × Int32 × Int32 × Int32 × (Nat → Int32) × (Nat → Int32) × (Nat → Int32) × (Nat → Int32) × (Nat → Int32)) :=
  bind8 (f_X9_find m_cells m_wide m_houses m_bowls m_dogs m_gone m_bytes m_typed m_cell m_house m_settings m_bowl m_dog m_path m_steps m_line) (fun c1 c2 c3 c4 c5 c6 c7 c8 => bind1 (f_X9_isNight x1) (fun r9 => if r9 = 0 then (some ((-2 : Int32), c1, c2, c3, c4, c5, c6, c7, c8)) else (bind1 (f_X9_goesOf c7 x1) (fun r10 => some (r10, c1, c2, c3, c4, c5, c6, c7, c8)))))
set_option maxHeartbeats 4000000 in
set_option maxRecDepth 100000 in
theorem k_X9_goes (C : Cx RX9 cX9_goes 2 D cA p s m args c) (hr : meth.sig.returnType = (some .int)) (hlk : meth.locks = false) (hA : ∀ q, s.heap.size ≤ q → va_A ws0 sz q) (b : Nat → Nat) (m_latest : Int32) (m_cells : Int32) (m_wide : Int32) (m_houses : Int32) (m_bowls : Int32) (m_dogs : Int32) (m_gone : Int32) (m_sights : Int32) (m_drawn : Int32) (m_bytes : Nat → Int32) (m_typed : Nat → Int32) (m_cell : Nat → Int32) (m_house : Nat → Int32) (m_settings : Nat → Int32) (m_bowl : Nat → Int32) (m_dog : Nat → Int32) (m_path : Nat → Int32) (m_steps : Nat → Int32) (m_line : Nat → Int32) (x1 : Int32) (r : Int32 × Int32 × Int32 × Int32 × (Nat → Int32) × (Nat → Int32) × (Nat → Int32) × (Nat → Int32) × (Nat → Int32)) (hf : f_X9_goes m_cells m_wide m_houses m_bowls m_dogs m_gone m_bytes m_typed m_cell m_house m_settings m_bowl m_dog m_path m_steps m_line x1 = some r) : At p l e rm_X9_goes s m args below meth c D (va_A ws0 sz) 0 0 (MQ below (PostI D r.1 ws0 (wl_X9_goes cA b m_latest (r.2.1) (r.2.2.1) (r.2.2.2.1) m_bowls m_dogs m_gone m_sights m_drawn m_bytes m_typed (r.2.2.2.2.1) (r.2.2.2.2.2.1) m_settings m_bowl m_dog (r.2.2.2.2.2.2.1) (r.2.2.2.2.2.2.2.1) (r.2.2.2.2.2.2.2.2)) sz) args s 0 0 (va_A ws0 sz)) 2 0 (wl_X9_goes cA b m_latest m_cells m_wide m_houses m_bowls m_dogs m_gone m_sights m_drawn m_bytes m_typed m_cell m_house m_settings m_bowl m_dog m_path m_steps m_line) [(0, .ref (b 0)), (1, .int x1)] [] := by
  intro H locs ls hP hD hS hl
  have hx := C.1
  have hb := C.2.1
  have hown := C.2.2.2.1
  have hts := C.2.2.2.2.1
  unfold f_X9_goes at hf
  refine lv_aload_n (pc := 0) hx hb dX9_goes_0 rfl (lv_at hl 0 rfl) ?_
  obtain ⟨c1, c2, c3, c4, c5, c6, c7, c8, hq, hf⟩ := bind8_some hf
  refine fin2_v (wl_X9_goes cA b m_latest c1 c2 c3 m_bowls m_dogs m_gone m_sights m_drawn m_bytes m_typed c4 c5 m_settings m_bowl m_dog c6 c7 c8) (run_V (rest := []) (pc := 1) (As := []) C mf_X9_184 (c_X9_find l D cA b m_latest m_cells m_wide m_houses m_bowls m_dogs m_gone m_sights m_drawn m_bytes m_typed m_cell m_house m_settings m_bowl m_dog m_path m_steps m_line (c1, c2, c3, c4, c5, c6, c7, c8) hq H.size) rfl rfl ⟨(Nat.le_of_ble_eq_true rfl), (Nat.le_of_ble_eq_true rfl)⟩ (preV_of C hP hD [0, 1, 2, 3, 4, 5, 6, 7, 8, 9, 10] rfl (pl_nd pv_138) 0 rfl rfl rfl) rfl hl.1 rfl (Nat.le_of_ble_eq_true rfl) dX9_goes_1 ⟨Nat.zero_le _, Nat.zero_le _⟩) hP hD hS hA [0, 1, 2, 3, 4, 5, 6, 7, 8, 9, 10] [] rfl rfl rfl rfl pv_138 (fun H locs hP hS => ?_)
  have hD : va_D (va_A ws0 sz) (wl_X9_goes cA b m_latest c1 c2 c3 m_bowls m_dogs m_gone m_sights m_drawn m_bytes m_typed c4 c5 m_settings m_bowl m_dog c6 c7 c8) := vd_a hD rfl
  refine lv_iload_n (pc := 4) hx hb dX9_goes_4 rfl (lv_at hl 1 rfl) ?_
  obtain ⟨r9, hq, hf⟩ := bind1_some hf
  refine fin2_i (wl_X9_goes cA b m_latest c1 c2 c3 m_bowls m_dogs m_gone m_sights m_drawn m_bytes m_typed c4 c5 m_settings m_bowl m_dog c6 c7 c8) (run_S (rest := []) (pc := 5) (As := [.int x1]) C mf_X9_136 (c_X9_isNight l D cA  x1 r9 hq H.size) rfl rfl ⟨(Nat.le_of_ble_eq_true rfl), (Nat.le_of_ble_eq_true rfl)⟩ (preS_of C hP hD [] rfl (pl_nd pv_139)) rfl hl.1 rfl (Nat.le_of_ble_eq_true rfl) dX9_goes_5 ⟨Nat.zero_le _, Nat.zero_le _⟩) hP hD hS hA [] [0, 1, 2, 3, 4, 5, 6, 7, 8, 9, 10] rfl rfl rfl rfl pv_139 (fun H locs hP hS => ?_)
  refine lv_if_eq (pc := 8) (tgt := 19) hx hb dX9_goes_8 (by decide) (fun hc => ?_) (fun hc => ?_)
  · have hf := (if_pos hc).symm.trans hf
    refine lv_bipush (pc := 19) (v := (-2)) hx hb dX9_goes_19 bp_m2 ?_
    have hf := Option.some.inj hf
    subst hf
    exact ret_i C hr hlk hP hS dX9_goes_21
  · have hf := (if_neg hc).symm.trans hf
    refine lv_aload_n (pc := 11) hx hb dX9_goes_11 rfl (lv_at hl 0 rfl) ?_
    refine lv_iload_n (pc := 12) hx hb dX9_goes_12 rfl (lv_at hl 1 rfl) ?_
    obtain ⟨r10, hq, hf⟩ := bind1_some hf
    refine fin2_i (wl_X9_goes cA b m_latest c1 c2 c3 m_bowls m_dogs m_gone m_sights m_drawn m_bytes m_typed c4 c5 m_settings m_bowl m_dog c6 c7 c8) (run_V (rest := []) (pc := 13) (As := [.int x1]) C mf_X9_192 (c_X9_goesOf l D cA b m_latest c1 c2 c3 m_bowls m_dogs m_gone m_sights m_drawn c7 x1 r10 hq H.size) rfl rfl ⟨(Nat.le_of_ble_eq_true rfl), (Nat.le_of_ble_eq_true rfl)⟩ (preV_of C hP hD [0, 9] rfl (pl_nd pv_141) 0 rfl rfl rfl) rfl hl.1 rfl (Nat.le_of_ble_eq_true rfl) dX9_goes_13 ⟨Nat.zero_le _, Nat.zero_le _⟩) hP hD hS hA [0, 9] [1, 2, 3, 4, 5, 6, 7, 8, 10] rfl rfl rfl rfl pv_141 (fun H locs hP hS => ?_)
    refine lv_goto (pc := 16) (tgt := 21) hx hb dX9_goes_16 (by decide) ?_
    have hf := Option.some.inj hf
    subst hf
    exact ret_i C hr hlk hP hS dX9_goes_21
set_option maxRecDepth 100000 in
theorem c_X9_goes (l : Launch) (D : va_G) (cA : Nat → ClassId) (b : Nat → Nat) (m_latest : Int32) (m_cells : Int32) (m_wide : Int32) (m_houses : Int32) (m_bowls : Int32) (m_dogs : Int32) (m_gone : Int32) (m_sights : Int32) (m_drawn : Int32) (m_bytes : Nat → Int32) (m_typed : Nat → Int32) (m_cell : Nat → Int32) (m_house : Nat → Int32) (m_settings : Nat → Int32) (m_bowl : Nat → Int32) (m_dog : Nat → Int32) (m_path : Nat → Int32) (m_steps : Nat → Int32) (m_line : Nat → Int32) (x1 : Int32) (r : Int32 × Int32 × Int32 × Int32 × (Nat → Int32) × (Nat → Int32) × (Nat → Int32) × (Nat → Int32) × (Nat → Int32)) (hf : f_X9_goes m_cells m_wide m_houses m_bowls m_dogs m_gone m_bytes m_typed m_cell m_house m_settings m_bowl m_dog m_path m_steps m_line x1 = some r) (sz : Nat) : Met l yX9_goes (Cond.code yX9_goes cX9_goes 2 (some .int) :: lw_good) rm_X9_goes (PreX D cA [.ref (b 0), .int x1] sz (wl_X9_goes cA b m_latest m_cells m_wide m_houses m_bowls m_dogs m_gone m_sights m_drawn m_bytes m_typed m_cell m_house m_settings m_bowl m_dog m_path m_steps m_line)) (PostI D r.1 (wl_X9_goes cA b m_latest m_cells m_wide m_houses m_bowls m_dogs m_gone m_sights m_drawn m_bytes m_typed m_cell m_house m_settings m_bowl m_dog m_path m_steps m_line) (wl_X9_goes cA b m_latest (r.2.1) (r.2.2.1) (r.2.2.2.1) m_bowls m_dogs m_gone m_sights m_drawn m_bytes m_typed (r.2.2.2.2.1) (r.2.2.2.2.2.1) m_settings m_bowl m_dog (r.2.2.2.2.2.2.1) (r.2.2.2.2.2.2.2.1) (r.2.2.2.2.2.2.2.2)) sz) 0 0 (va_A (wl_X9_goes cA b m_latest m_cells m_wide m_houses m_bowls m_dogs m_gone m_sights m_drawn m_bytes m_typed m_cell m_house m_settings m_bowl m_dog m_path m_steps m_line) sz) :=
  met_of (by decide) (Nat.le_of_ble_eq_true rfl) (fun p e s m args below meth c C hr hlk hA => k_X9_goes C hr hlk hA b m_latest m_cells m_wide m_houses m_bowls m_dogs m_gone m_sights m_drawn m_bytes m_typed m_cell m_house m_settings m_bowl m_dog m_path m_steps m_line x1 r hf)
end

abbrev wl_X9_line (cA : Nat → ClassId) (b : Nat → Nat) (m_latest : Int32) (m_cells : Int32) (m_wide : Int32) (m_houses : Int32) (m_bowls : Int32) (m_dogs : Int32) (m_gone : Int32) (m_sights : Int32) (m_drawn : Int32) (m_bytes : Nat → Int32) (m_typed : Nat → Int32) (m_cell : Nat → Int32) (m_house : Nat → Int32) (m_settings : Nat → Int32) (m_bowl : Nat → Int32) (m_dog : Nat → Int32) (m_path : Nat → Int32) (m_steps : Nat → Int32) (m_line : Nat → Int32) : va_W := [((b 0), .inr (9, [.ref (b 1), .ref (b 2), .ref (b 3), .ref (b 4), .int m_latest, .ref (b 5), .ref (b 6), .int m_cells, .int m_wide, .ref (b 7), .int m_houses, .ref (b 8), .ref (b 9), .int m_bowls, .ref (b 10), .int m_dogs, .ref (b 11), .int m_gone, .ref (b 12), .ref (b 13), .ref (b 14), .int m_sights, .ref (b 15), .ref (b 16), .int m_drawn])), ((b 5), .inl (cA 0, 84, .inl m_bytes)), ((b 6), .inl (cA 0, 2, .inl m_typed)), ((b 7), .inl (cA 0, 36, .inl m_cell)), ((b 8), .inl (cA 0, 16, .inl m_house)), ((b 9), .inl (cA 0, 2, .inl m_settings)), ((b 10), .inl (cA 0, 20, .inl m_bowl)), ((b 11), .inl (cA 0, 16, .inl m_dog)), ((b 12), .inl (cA 0, 250, .inl m_path)), ((b 13), .inl (cA 0, 10, .inl m_steps)), ((b 14), .inl (cA 0, 60, .inl m_line))]
abbrev rm_X9_line : Room := { frames := 6, cells := 0, slots := 0, locals := 147 }
section
variable {p : Program} {l : Launch} {e : Env} {s : State} {m : MethodId} {args : Array Value} {below : List Frame} {meth : Method} {c : Code} {D : va_G} {cA : Nat → ClassId} {ws0 : va_W} {sz : Nat} {A : Nat → Prop} {Q : State → Prop}
def f_X9_line (m_cells : Int32) (m_wide : Int32) (m_houses : Int32) (m_bowls : Int32) (m_dogs : Int32) (m_gone : Int32) (m_bytes : Nat → Int32) (m_typed : Nat → Int32) (m_cell : Nat → Int32) (m_house : Nat → Int32) (m_settings : Nat → Int32) (m_bowl : Nat → Int32) (m_dog : Nat → Int32) (m_path : Nat → Int32) (m_steps : Nat → Int32) (m_line : Nat → Int32) (x1 : Int32) (x2 : Int32) : Option (Int32 × Int32 × Int32 × Int32 × (Nat → Int32) × (Nat → Int32) × (Nat → Int32) × (Nat → Int32) × (Nat → Int32)) :=
  bind8 (f_X9_find m_cells m_wide m_houses m_bowls m_dogs m_gone m_bytes m_typed m_cell m_house m_settings m_bowl m_dog m_path m_steps m_line) (fun c1 c2 c3 c4 c5 c6 c7 c8 => bind1 (f_X9_isNight x1) (fun r9 => if r9 = 0 then (some ((-2 : Int32), c1, c2, c3, c4, c5, c6, c7, c8)) else (bind1 (f_X9_in (x2.toInt64) (0 : Int64) ((c2 - (1 : Int32)).toInt64)) (fun r10 => if r10 = 0 then (some ((-2 : Int32), c1, c2, c3, c4, c5, c6, c7, c8)) else (gd (inb (((6 : Int32) * x1) + x2) 60) (some ((c8 (((6 : Int32) * x1) + x2).toNatClampNeg), c1, c2, c3, c4, c5, c6, c7, c8)))))))
set_option maxHeartbeats 4000000 in
set_option maxRecDepth 100000 in
theorem k_X9_line (C : Cx RX9 cX9_line 3 D cA p s m args c) (hr : meth.sig.returnType = (some .int)) (hlk : meth.locks = false) (hA : ∀ q, s.heap.size ≤ q → va_A ws0 sz q) (b : Nat → Nat) (m_latest : Int32) (m_cells : Int32) (m_wide : Int32) (m_houses : Int32) (m_bowls : Int32) (m_dogs : Int32) (m_gone : Int32) (m_sights : Int32) (m_drawn : Int32) (m_bytes : Nat → Int32) (m_typed : Nat → Int32) (m_cell : Nat → Int32) (m_house : Nat → Int32) (m_settings : Nat → Int32) (m_bowl : Nat → Int32) (m_dog : Nat → Int32) (m_path : Nat → Int32) (m_steps : Nat → Int32) (m_line : Nat → Int32) (x1 : Int32) (x2 : Int32) (r : Int32 × Int32 × Int32 × Int32 × (Nat → Int32) × (Nat → Int32) × (Nat → Int32) × (Nat → Int32) × (Nat → Int32)) (hf : f_X9_line m_cells m_wide m_houses m_bowls m_dogs m_gone m_bytes m_typed m_cell m_house m_settings m_bowl m_dog m_path m_steps m_line x1 x2 = some r) : At p l e rm_X9_line s m args below meth c D (va_A ws0 sz) 0 0 (MQ below (PostI D r.1 ws0 (wl_X9_line cA b m_latest (r.2.1) (r.2.2.1) (r.2.2.2.1) m_bowls m_dogs m_gone m_sights m_drawn m_bytes m_typed (r.2.2.2.2.1) (r.2.2.2.2.2.1) m_settings m_bowl m_dog (r.2.2.2.2.2.2.1) (r.2.2.2.2.2.2.2.1) (r.2.2.2.2.2.2.2.2)) sz) args s 0 0 (va_A ws0 sz)) 3 0 (wl_X9_line cA b m_latest m_cells m_wide m_houses m_bowls m_dogs m_gone m_sights m_drawn m_bytes m_typed m_cell m_house m_settings m_bowl m_dog m_path m_steps m_line) [(0, .ref (b 0)), (1, .int x1), (2, .int x2)] [] := by
  intro H locs ls hP hD hS hl
  have hx := C.1
  have hb := C.2.1
  have hown := C.2.2.2.1
  have hts := C.2.2.2.2.1
  unfold f_X9_line at hf
  refine lv_aload_n (pc := 0) hx hb dX9_line_0 rfl (lv_at hl 0 rfl) ?_
  obtain ⟨c1, c2, c3, c4, c5, c6, c7, c8, hq, hf⟩ := bind8_some hf
  refine fin2_v (wl_X9_line cA b m_latest c1 c2 c3 m_bowls m_dogs m_gone m_sights m_drawn m_bytes m_typed c4 c5 m_settings m_bowl m_dog c6 c7 c8) (run_V (rest := []) (pc := 1) (As := []) C mf_X9_184 (c_X9_find l D cA b m_latest m_cells m_wide m_houses m_bowls m_dogs m_gone m_sights m_drawn m_bytes m_typed m_cell m_house m_settings m_bowl m_dog m_path m_steps m_line (c1, c2, c3, c4, c5, c6, c7, c8) hq H.size) rfl rfl ⟨(Nat.le_of_ble_eq_true rfl), (Nat.le_of_ble_eq_true rfl)⟩ (preV_of C hP hD [0, 1, 2, 3, 4, 5, 6, 7, 8, 9, 10] rfl (pl_nd pv_138) 0 rfl rfl rfl) rfl hl.1 rfl (Nat.le_of_ble_eq_true rfl) dX9_line_1 ⟨Nat.zero_le _, Nat.zero_le _⟩) hP hD hS hA [0, 1, 2, 3, 4, 5, 6, 7, 8, 9, 10] [] rfl rfl rfl rfl pv_138 (fun H locs hP hS => ?_)
  have hD : va_D (va_A ws0 sz) (wl_X9_line cA b m_latest c1 c2 c3 m_bowls m_dogs m_gone m_sights m_drawn m_bytes m_typed c4 c5 m_settings m_bowl m_dog c6 c7 c8) := vd_a hD rfl
  refine lv_iload_n (pc := 4) hx hb dX9_line_4 rfl (lv_at hl 1 rfl) ?_
  obtain ⟨r9, hq, hf⟩ := bind1_some hf
  refine fin2_i (wl_X9_line cA b m_latest c1 c2 c3 m_bowls m_dogs m_gone m_sights m_drawn m_bytes m_typed c4 c5 m_settings m_bowl m_dog c6 c7 c8) (run_S (rest := []) (pc := 5) (As := [.int x1]) C mf_X9_136 (c_X9_isNight l D cA  x1 r9 hq H.size) rfl rfl ⟨(Nat.le_of_ble_eq_true rfl), (Nat.le_of_ble_eq_true rfl)⟩ (preS_of C hP hD [] rfl (pl_nd pv_139)) rfl hl.1 rfl (Nat.le_of_ble_eq_true rfl) dX9_line_5 ⟨Nat.zero_le _, Nat.zero_le _⟩) hP hD hS hA [] [0, 1, 2, 3, 4, 5, 6, 7, 8, 9, 10] rfl rfl rfl rfl pv_139 (fun H locs hP hS => ?_)
  refine lv_if_eq (pc := 8) (tgt := 41) hx hb dX9_line_8 (by decide) (fun hc => ?_) (fun hc => ?_)
  · have hf := (if_pos hc).symm.trans hf
    refine lv_bipush (pc := 41) (v := (-2)) hx hb dX9_line_41 bp_m2 ?_
    have hf := Option.some.inj hf
    subst hf
    exact ret_i C hr hlk hP hS dX9_line_43
  · have hf := (if_neg hc).symm.trans hf
    refine lv_iload_n (pc := 11) hx hb dX9_line_11 rfl (lv_at hl 2 rfl) ?_
    refine lv_i2l (pc := 12) hx hb dX9_line_12 rfl ?_
    refine lv_lconst (pc := 13) (v := 0) hx hb dX9_line_13 rfl ?_
    refine lv_aload_n (pc := 14) hx hb dX9_line_14 rfl (lv_at hl 0 rfl) ?_
    refine g_get (pc := 15) C fg_X9_97 hP 0 rfl rfl dX9_line_15 ?_
    refine lv_iconst (pc := 18) (v := 1) hx hb dX9_line_18 ic_1 ?_
    refine lv_isub (pc := 19) hx hb dX9_line_19 ?_
    refine lv_i2l (pc := 20) hx hb dX9_line_20 rfl ?_
    obtain ⟨r10, hq, hf⟩ := bind1_some hf
    refine fin2_i (wl_X9_line cA b m_latest c1 c2 c3 m_bowls m_dogs m_gone m_sights m_drawn m_bytes m_typed c4 c5 m_settings m_bowl m_dog c6 c7 c8) (run_S (rest := []) (pc := 21) (As := [.long (x2.toInt64), .long (0 : Int64), .long ((c2 - (1 : Int32)).toInt64)]) C mf_X9_60 (c_X9_in l D cA  (x2.toInt64) (0 : Int64) ((c2 - (1 : Int32)).toInt64) r10 hq H.size) rfl rfl ⟨(Nat.le_of_ble_eq_true rfl), (Nat.le_of_ble_eq_true rfl)⟩ (preS_of C hP hD [] rfl (pl_nd pv_139)) rfl hl.1 rfl (Nat.le_of_ble_eq_true rfl) dX9_line_21 ⟨Nat.zero_le _, Nat.zero_le _⟩) hP hD hS hA [] [0, 1, 2, 3, 4, 5, 6, 7, 8, 9, 10] rfl rfl rfl rfl pv_139 (fun H locs hP hS => ?_)
    refine lv_if_eq (pc := 24) (tgt := 41) hx hb dX9_line_24 (by decide) (fun hc => ?_) (fun hc => ?_)
    · have hf := (if_pos hc).symm.trans hf
      refine lv_bipush (pc := 41) (v := (-2)) hx hb dX9_line_41 bp_m2 ?_
      have hf := Option.some.inj hf
      subst hf
      exact ret_i C hr hlk hP hS dX9_line_43
    · have hf := (if_neg hc).symm.trans hf
      refine lv_aload_n (pc := 27) hx hb dX9_line_27 rfl (lv_at hl 0 rfl) ?_
      refine g_get (pc := 28) C fg_X9_49 hP 0 rfl rfl dX9_line_28 ?_
      refine lv_bipush (pc := 31) (v := 6) hx hb dX9_line_31 bp_6 ?_
      refine lv_iload_n (pc := 33) hx hb dX9_line_33 rfl (lv_at hl 1 rfl) ?_
      refine lv_imul (pc := 34) hx hb dX9_line_34 ?_
      refine lv_iload_n (pc := 35) hx hb dX9_line_35 rfl (lv_at hl 2 rfl) ?_
      refine lv_iadd (pc := 36) hx hb dX9_line_36 ?_
      obtain ⟨hg, hf⟩ := gd_some hf
      refine g_iald (pc := 37) C hP 10 rfl hg dX9_line_37 ?_
      refine lv_goto (pc := 38) (tgt := 43) hx hb dX9_line_38 (by decide) ?_
      have hf := Option.some.inj hf
      subst hf
      exact ret_i C hr hlk hP hS dX9_line_43
set_option maxRecDepth 100000 in
theorem c_X9_line (l : Launch) (D : va_G) (cA : Nat → ClassId) (b : Nat → Nat) (m_latest : Int32) (m_cells : Int32) (m_wide : Int32) (m_houses : Int32) (m_bowls : Int32) (m_dogs : Int32) (m_gone : Int32) (m_sights : Int32) (m_drawn : Int32) (m_bytes : Nat → Int32) (m_typed : Nat → Int32) (m_cell : Nat → Int32) (m_house : Nat → Int32) (m_settings : Nat → Int32) (m_bowl : Nat → Int32) (m_dog : Nat → Int32) (m_path : Nat → Int32) (m_steps : Nat → Int32) (m_line : Nat → Int32) (x1 : Int32) (x2 : Int32) (r : Int32 × Int32 × Int32 × Int32 × (Nat → Int32) × (Nat → Int32) × (Nat → Int32) × (Nat → Int32) × (Nat → Int32)) (hf : f_X9_line m_cells m_wide m_houses m_bowls m_dogs m_gone m_bytes m_typed m_cell m_house m_settings m_bowl m_dog m_path m_steps m_line x1 x2 = some r) (sz : Nat) : Met l yX9_line (Cond.code yX9_line cX9_line 3 (some .int) :: lw_good) rm_X9_line (PreX D cA [.ref (b 0), .int x1, .int x2] sz (wl_X9_line cA b m_latest m_cells m_wide m_houses m_bowls m_dogs m_gone m_sights m_drawn m_bytes m_typed m_cell m_house m_settings m_bowl m_dog m_path m_steps m_line)) (PostI D r.1 (wl_X9_line cA b m_latest m_cells m_wide m_houses m_bowls m_dogs m_gone m_sights m_drawn m_bytes m_typed m_cell m_house m_settings m_bowl m_dog m_path m_steps m_line) (wl_X9_line cA b m_latest (r.2.1) (r.2.2.1) (r.2.2.2.1) m_bowls m_dogs m_gone m_sights m_drawn m_bytes m_typed (r.2.2.2.2.1) (r.2.2.2.2.2.1) m_settings m_bowl m_dog (r.2.2.2.2.2.2.1) (r.2.2.2.2.2.2.2.1) (r.2.2.2.2.2.2.2.2)) sz) 0 0 (va_A (wl_X9_line cA b m_latest m_cells m_wide m_houses m_bowls m_dogs m_gone m_sights m_drawn m_bytes m_typed m_cell m_house m_settings m_bowl m_dog m_path m_steps m_line) sz) :=
  met_of (by decide) (Nat.le_of_ble_eq_true rfl) (fun p e s m args below meth c C hr hlk hA => k_X9_line C hr hlk hA b m_latest m_cells m_wide m_houses m_bowls m_dogs m_gone m_sights m_drawn m_bytes m_typed m_cell m_house m_settings m_bowl m_dog m_path m_steps m_line x1 x2 r hf)
end

abbrev wl_X9_realmOf (cA : Nat → ClassId) (b : Nat → Nat) (m_latest : Int32) (m_cells : Int32) (m_wide : Int32) (m_houses : Int32) (m_bowls : Int32) (m_dogs : Int32) (m_gone : Int32) (m_sights : Int32) (m_drawn : Int32) (m_line : Nat → Int32) : va_W := [((b 0), .inr (9, [.ref (b 1), .ref (b 2), .ref (b 3), .ref (b 4), .int m_latest, .ref (b 5), .ref (b 6), .int m_cells, .int m_wide, .ref (b 7), .int m_houses, .ref (b 8), .ref (b 9), .int m_bowls, .ref (b 10), .int m_dogs, .ref (b 11), .int m_gone, .ref (b 12), .ref (b 13), .ref (b 14), .int m_sights, .ref (b 15), .ref (b 16), .int m_drawn])), ((b 14), .inl (cA 0, 60, .inl m_line))]
abbrev rm_X9_realmOf : Room := { frames := 0, cells := 0, slots := 0, locals := 0 }
section
variable {p : Program} {l : Launch} {e : Env} {s : State} {m : MethodId} {args : Array Value} {below : List Frame} {meth : Method} {c : Code} {D : va_G} {cA : Nat → ClassId} {ws0 : va_W} {sz : Nat} {A : Nat → Prop} {Q : State → Prop}
def f_X9_realmOf (m_wide : Int32) (m_line : Nat → Int32) (x1 : Int32) (x2 : Int32) : Option (Int32) :=
  gd (nz m_wide) (gd (inb (((6 : Int32) * x1) + (x2 - x2 / m_wide * m_wide)) 60) (letv ((m_line (((6 : Int32) * x1) + (x2 - x2 / m_wide * m_wide)).toNatClampNeg)) (fun v1 => gd (nz m_wide) (if v1 ≤ (x2 / m_wide) then (gd (nz m_wide) (if (x2 / m_wide) ≤ v1 then (some (2 : Int32)) else (some (1 : Int32)))) else (some (0 : Int32))))))
set_option maxHeartbeats 4000000 in
set_option maxRecDepth 100000 in
theorem k_X9_realmOf (C : Cx RX9 cX9_realmOf 4 D cA p s m args c) (hr : meth.sig.returnType = (some .int)) (hlk : meth.locks = false) (hA : ∀ q, s.heap.size ≤ q → va_A ws0 sz q) (b : Nat → Nat) (m_latest : Int32) (m_cells : Int32) (m_wide : Int32) (m_houses : Int32) (m_bowls : Int32) (m_dogs : Int32) (m_gone : Int32) (m_sights : Int32) (m_drawn : Int32) (m_line : Nat → Int32) (x1 : Int32) (x2 : Int32) (r : Int32) (hf : f_X9_realmOf m_wide m_line x1 x2 = some r) : At p l e rm_X9_realmOf s m args below meth c D (va_A ws0 sz) 0 0 (MQ below (PostI D r ws0 (wl_X9_realmOf cA b m_latest m_cells m_wide m_houses m_bowls m_dogs m_gone m_sights m_drawn m_line) sz) args s 0 0 (va_A ws0 sz)) 4 0 (wl_X9_realmOf cA b m_latest m_cells m_wide m_houses m_bowls m_dogs m_gone m_sights m_drawn m_line) [(0, .ref (b 0)), (1, .int x1), (2, .int x2)] [] := by
  intro H locs ls hP hD hS hl
  have hx := C.1
  have hb := C.2.1
  have hown := C.2.2.2.1
  have hts := C.2.2.2.2.1
  unfold f_X9_realmOf at hf
  refine lv_aload_n (pc := 0) hx hb dX9_realmOf_0 rfl (lv_at hl 0 rfl) ?_
  refine g_get (pc := 1) C fg_X9_49 hP 0 rfl rfl dX9_realmOf_1 ?_
  refine lv_bipush (pc := 4) (v := 6) hx hb dX9_realmOf_4 bp_6 ?_
  refine lv_iload_n (pc := 6) hx hb dX9_realmOf_6 rfl (lv_at hl 1 rfl) ?_
  refine lv_imul (pc := 7) hx hb dX9_realmOf_7 ?_
  refine lv_iload_n (pc := 8) hx hb dX9_realmOf_8 rfl (lv_at hl 2 rfl) ?_
  refine lv_aload_n (pc := 9) hx hb dX9_realmOf_9 rfl (lv_at hl 0 rfl) ?_
  refine g_get (pc := 10) C fg_X9_97 hP 0 rfl rfl dX9_realmOf_10 ?_
  obtain ⟨hg, hf⟩ := gd_some hf
  refine lv_irem (pc := 13) hx hb dX9_realmOf_13 (nz_of hg) ?_
  refine lv_iadd (pc := 14) hx hb dX9_realmOf_14 ?_
  obtain ⟨hg, hf⟩ := gd_some hf
  refine g_iald (pc := 15) C hP 1 rfl hg dX9_realmOf_15 ?_
  obtain ⟨v1, e_v1, hf⟩ := letv_some hf
  refine tp_i e_v1 ?_
  refine lv_istore_n (pc := 16) (lv' := [(3, .int v1), (0, .ref (b 0)), (1, .int x1), (2, .int x2)]) hx hb dX9_realmOf_16 rfl hl (Nat.le_of_ble_eq_true rfl) rfl (fun ls hl => ?_)
  refine lv_iload_n (pc := 17) hx hb dX9_realmOf_17 rfl (lv_at hl 3 rfl) ?_
  refine lv_aload_n (pc := 18) hx hb dX9_realmOf_18 rfl (lv_at hl 1 rfl) ?_
  refine g_get (pc := 19) C fg_X9_97 hP 0 rfl rfl dX9_realmOf_19 ?_
  obtain ⟨hg, hf⟩ := gd_some hf
  refine lv_idiv (pc := 22) hx hb dX9_realmOf_22 (nz_of hg) ?_
  refine lv_iload_n (pc := 23) hx hb dX9_realmOf_23 rfl (lv_at hl 0 rfl) ?_
  refine lv_icmp_ge (pc := 24) (tgt := 31) hx hb dX9_realmOf_24 (by decide) (fun hc => ?_) (fun hc => ?_)
  · have hf := (if_pos hc).symm.trans hf
    refine lv_iload_n (pc := 31) hx hb dX9_realmOf_31 rfl (lv_at hl 3 rfl) ?_
    refine lv_aload_n (pc := 32) hx hb dX9_realmOf_32 rfl (lv_at hl 1 rfl) ?_
    refine g_get (pc := 33) C fg_X9_97 hP 0 rfl rfl dX9_realmOf_33 ?_
    obtain ⟨hg, hf⟩ := gd_some hf
    refine lv_idiv (pc := 36) hx hb dX9_realmOf_36 (nz_of hg) ?_
    refine lv_iload_n (pc := 37) hx hb dX9_realmOf_37 rfl (lv_at hl 0 rfl) ?_
    refine lv_icmp_le (pc := 38) (tgt := 45) hx hb dX9_realmOf_38 (by decide) (fun hc => ?_) (fun hc => ?_)
    · have hf := (if_pos hc).symm.trans hf
      refine lv_iconst (pc := 45) (v := 2) hx hb dX9_realmOf_45 ic_2 ?_
      have hf := Option.some.inj hf
      subst hf
      exact ret_i C hr hlk hP hS dX9_realmOf_46
    · have hf := (if_neg hc).symm.trans hf
      refine lv_iconst (pc := 41) (v := 1) hx hb dX9_realmOf_41 ic_1 ?_
      refine lv_goto (pc := 42) (tgt := 46) hx hb dX9_realmOf_42 (by decide) ?_
      have hf := Option.some.inj hf
      subst hf
      exact ret_i C hr hlk hP hS dX9_realmOf_46
  · have hf := (if_neg hc).symm.trans hf
    refine lv_iconst (pc := 27) (v := 0) hx hb dX9_realmOf_27 ic_0 ?_
    refine lv_goto (pc := 28) (tgt := 46) hx hb dX9_realmOf_28 (by decide) ?_
    have hf := Option.some.inj hf
    subst hf
    exact ret_i C hr hlk hP hS dX9_realmOf_46
set_option maxRecDepth 100000 in
theorem c_X9_realmOf (l : Launch) (D : va_G) (cA : Nat → ClassId) (b : Nat → Nat) (m_latest : Int32) (m_cells : Int32) (m_wide : Int32) (m_houses : Int32) (m_bowls : Int32) (m_dogs : Int32) (m_gone : Int32) (m_sights : Int32) (m_drawn : Int32) (m_line : Nat → Int32) (x1 : Int32) (x2 : Int32) (r : Int32) (hf : f_X9_realmOf m_wide m_line x1 x2 = some r) (sz : Nat) : Met l yX9_realmOf (Cond.code yX9_realmOf cX9_realmOf 4 (some .int) :: lw_good) rm_X9_realmOf (PreX D cA [.ref (b 0), .int x1, .int x2] sz (wl_X9_realmOf cA b m_latest m_cells m_wide m_houses m_bowls m_dogs m_gone m_sights m_drawn m_line)) (PostI D r (wl_X9_realmOf cA b m_latest m_cells m_wide m_houses m_bowls m_dogs m_gone m_sights m_drawn m_line) (wl_X9_realmOf cA b m_latest m_cells m_wide m_houses m_bowls m_dogs m_gone m_sights m_drawn m_line) sz) 0 0 (va_A (wl_X9_realmOf cA b m_latest m_cells m_wide m_houses m_bowls m_dogs m_gone m_sights m_drawn m_line) sz) :=
  met_of (by decide) (Nat.le_of_ble_eq_true rfl) (fun p e s m args below meth c C hr hlk hA => k_X9_realmOf C hr hlk hA b m_latest m_cells m_wide m_houses m_bowls m_dogs m_gone m_sights m_drawn m_line x1 x2 r hf)
end

abbrev wl_X9_realm (cA : Nat → ClassId) (b : Nat → Nat) (m_latest : Int32) (m_cells : Int32) (m_wide : Int32) (m_houses : Int32) (m_bowls : Int32) (m_dogs : Int32) (m_gone : Int32) (m_sights : Int32) (m_drawn : Int32) (m_bytes : Nat → Int32) (m_typed : Nat → Int32) (m_cell : Nat → Int32) (m_house : Nat → Int32) (m_settings : Nat → Int32) (m_bowl : Nat → Int32) (m_dog : Nat → Int32) (m_path : Nat → Int32) (m_steps : Nat → Int32) (m_line : Nat → Int32) : va_W := [((b 0), .inr (9, [.ref (b 1), .ref (b 2), .ref (b 3), .ref (b 4), .int m_latest, .ref (b 5), .ref (b 6), .int m_cells, .int m_wide, .ref (b 7), .int m_houses, .ref (b 8), .ref (b 9), .int m_bowls, .ref (b 10), .int m_dogs, .ref (b 11), .int m_gone, .ref (b 12), .ref (b 13), .ref (b 14), .int m_sights, .ref (b 15), .ref (b 16), .int m_drawn])), ((b 5), .inl (cA 0, 84, .inl m_bytes)), ((b 6), .inl (cA 0, 2, .inl m_typed)), ((b 7), .inl (cA 0, 36, .inl m_cell)), ((b 8), .inl (cA 0, 16, .inl m_house)), ((b 9), .inl (cA 0, 2, .inl m_settings)), ((b 10), .inl (cA 0, 20, .inl m_bowl)), ((b 11), .inl (cA 0, 16, .inl m_dog)), ((b 12), .inl (cA 0, 250, .inl m_path)), ((b 13), .inl (cA 0, 10, .inl m_steps)), ((b 14), .inl (cA 0, 60, .inl m_line))]
abbrev rm_X9_realm : Room := { frames := 6, cells := 0, slots := 0, locals := 147 }
section
variable {p : Program} {l : Launch} {e : Env} {s : State} {m : MethodId} {args : Array Value} {below : List Frame} {meth : Method} {c : Code} {D : va_G} {cA : Nat → ClassId} {ws0 : va_W} {sz : Nat} {A : Nat → Prop} {Q : State → Prop}
def f_X9_realm (m_cells : Int32) (m_wide : Int32) (m_houses : Int32) (m_bowls : Int32) (m_dogs : Int32) (m_gone : Int32) (m_bytes : Nat → Int32) (m_typed : Nat → Int32) (m_cell : Nat → Int32) (m_house : Nat → Int32) (m_settings : Nat → Int32) (m_bowl : Nat → Int32) (m_dog : Nat → Int32) (m_path : Nat → Int32) (m_steps : Nat → Int32) (m_line : Nat → Int32) (x1 : Int32) (x2 : Int32) : Option (Int32 × Int32 × Int32 × Int32 × (Nat → Int32) × (Nat → Int32) × (Nat → Int32) × (Nat → Int32) × (Nat → Int32)) :=
  bind8 (f_X9_find m_cells m_wide m_houses m_bowls m_dogs m_gone m_bytes m_typed m_cell m_house m_settings m_bowl m_dog m_path m_steps m_line) (fun c1 c2 c3 c4 c5 c6 c7 c8 => bind1 (f_X9_isNight x1) (fun r9 => if r9 = 0 then (some ((-2 : Int32), c1, c2, c3, c4, c5, c6, c7, c8)) else (bind1 (f_X9_isCell c1 x2) (fun r10 => if r10 = 0 then (some ((-2 : Int32), c1, c2, c3, c4, c5, c6, c7, c8)) else (bind1 (f_X9_realmOf c2 c8 x1 x2) (fun r11 => some (r11, c1, c2, c3, c4, c5, c6, c7, c8)))))))
set_option maxHeartbeats 4000000 in
set_option maxRecDepth 100000 in
theorem k_X9_realm (C : Cx RX9 cX9_realm 3 D cA p s m args c) (hr : meth.sig.returnType = (some .int)) (hlk : meth.locks = false) (hA : ∀ q, s.heap.size ≤ q → va_A ws0 sz q) (b : Nat → Nat) (m_latest : Int32) (m_cells : Int32) (m_wide : Int32) (m_houses : Int32) (m_bowls : Int32) (m_dogs : Int32) (m_gone : Int32) (m_sights : Int32) (m_drawn : Int32) (m_bytes : Nat → Int32) (m_typed : Nat → Int32) (m_cell : Nat → Int32) (m_house : Nat → Int32) (m_settings : Nat → Int32) (m_bowl : Nat → Int32) (m_dog : Nat → Int32) (m_path : Nat → Int32) (m_steps : Nat → Int32) (m_line : Nat → Int32) (x1 : Int32) (x2 : Int32) (r : Int32 × Int32 × Int32 × Int32 × (Nat → Int32) × (Nat → Int32) × (Nat → Int32) × (Nat → Int32) × (Nat → Int32)) (hf : f_X9_realm m_cells m_wide m_houses m_bowls m_dogs m_gone m_bytes m_typed m_cell m_house m_settings m_bowl m_dog m_path m_steps m_line x1 x2 = some r) : At p l e rm_X9_realm s m args below meth c D (va_A ws0 sz) 0 0 (MQ below (PostI D r.1 ws0 (wl_X9_realm cA b m_latest (r.2.1) (r.2.2.1) (r.2.2.2.1) m_bowls m_dogs m_gone m_sights m_drawn m_bytes m_typed (r.2.2.2.2.1) (r.2.2.2.2.2.1) m_settings m_bowl m_dog (r.2.2.2.2.2.2.1) (r.2.2.2.2.2.2.2.1) (r.2.2.2.2.2.2.2.2)) sz) args s 0 0 (va_A ws0 sz)) 3 0 (wl_X9_realm cA b m_latest m_cells m_wide m_houses m_bowls m_dogs m_gone m_sights m_drawn m_bytes m_typed m_cell m_house m_settings m_bowl m_dog m_path m_steps m_line) [(0, .ref (b 0)), (1, .int x1), (2, .int x2)] [] := by
  intro H locs ls hP hD hS hl
  have hx := C.1
  have hb := C.2.1
  have hown := C.2.2.2.1
  have hts := C.2.2.2.2.1
  unfold f_X9_realm at hf
  refine lv_aload_n (pc := 0) hx hb dX9_realm_0 rfl (lv_at hl 0 rfl) ?_
  obtain ⟨c1, c2, c3, c4, c5, c6, c7, c8, hq, hf⟩ := bind8_some hf
  refine fin2_v (wl_X9_realm cA b m_latest c1 c2 c3 m_bowls m_dogs m_gone m_sights m_drawn m_bytes m_typed c4 c5 m_settings m_bowl m_dog c6 c7 c8) (run_V (rest := []) (pc := 1) (As := []) C mf_X9_184 (c_X9_find l D cA b m_latest m_cells m_wide m_houses m_bowls m_dogs m_gone m_sights m_drawn m_bytes m_typed m_cell m_house m_settings m_bowl m_dog m_path m_steps m_line (c1, c2, c3, c4, c5, c6, c7, c8) hq H.size) rfl rfl ⟨(Nat.le_of_ble_eq_true rfl), (Nat.le_of_ble_eq_true rfl)⟩ (preV_of C hP hD [0, 1, 2, 3, 4, 5, 6, 7, 8, 9, 10] rfl (pl_nd pv_138) 0 rfl rfl rfl) rfl hl.1 rfl (Nat.le_of_ble_eq_true rfl) dX9_realm_1 ⟨Nat.zero_le _, Nat.zero_le _⟩) hP hD hS hA [0, 1, 2, 3, 4, 5, 6, 7, 8, 9, 10] [] rfl rfl rfl rfl pv_138 (fun H locs hP hS => ?_)
  have hD : va_D (va_A ws0 sz) (wl_X9_realm cA b m_latest c1 c2 c3 m_bowls m_dogs m_gone m_sights m_drawn m_bytes m_typed c4 c5 m_settings m_bowl m_dog c6 c7 c8) := vd_a hD rfl
  refine lv_iload_n (pc := 4) hx hb dX9_realm_4 rfl (lv_at hl 1 rfl) ?_
  obtain ⟨r9, hq, hf⟩ := bind1_some hf
  refine fin2_i (wl_X9_realm cA b m_latest c1 c2 c3 m_bowls m_dogs m_gone m_sights m_drawn m_bytes m_typed c4 c5 m_settings m_bowl m_dog c6 c7 c8) (run_S (rest := []) (pc := 5) (As := [.int x1]) C mf_X9_136 (c_X9_isNight l D cA  x1 r9 hq H.size) rfl rfl ⟨(Nat.le_of_ble_eq_true rfl), (Nat.le_of_ble_eq_true rfl)⟩ (preS_of C hP hD [] rfl (pl_nd pv_139)) rfl hl.1 rfl (Nat.le_of_ble_eq_true rfl) dX9_realm_5 ⟨Nat.zero_le _, Nat.zero_le _⟩) hP hD hS hA [] [0, 1, 2, 3, 4, 5, 6, 7, 8, 9, 10] rfl rfl rfl rfl pv_139 (fun H locs hP hS => ?_)
  refine lv_if_eq (pc := 8) (tgt := 28) hx hb dX9_realm_8 (by decide) (fun hc => ?_) (fun hc => ?_)
  · have hf := (if_pos hc).symm.trans hf
    refine lv_bipush (pc := 28) (v := (-2)) hx hb dX9_realm_28 bp_m2 ?_
    have hf := Option.some.inj hf
    subst hf
    exact ret_i C hr hlk hP hS dX9_realm_30
  · have hf := (if_neg hc).symm.trans hf
    refine lv_aload_n (pc := 11) hx hb dX9_realm_11 rfl (lv_at hl 0 rfl) ?_
    refine lv_iload_n (pc := 12) hx hb dX9_realm_12 rfl (lv_at hl 2 rfl) ?_
    obtain ⟨r10, hq, hf⟩ := bind1_some hf
    refine fin2_i (wl_X9_realm cA b m_latest c1 c2 c3 m_bowls m_dogs m_gone m_sights m_drawn m_bytes m_typed c4 c5 m_settings m_bowl m_dog c6 c7 c8) (run_V (rest := []) (pc := 13) (As := [.int x2]) C mf_X9_165 (c_X9_isCell l D cA b m_latest c1 c2 c3 m_bowls m_dogs m_gone m_sights m_drawn x2 r10 hq H.size) rfl rfl ⟨(Nat.le_of_ble_eq_true rfl), (Nat.le_of_ble_eq_true rfl)⟩ (preV_of C hP hD [0] rfl (pl_nd pv_142) 0 rfl rfl rfl) rfl hl.1 rfl (Nat.le_of_ble_eq_true rfl) dX9_realm_13 ⟨Nat.zero_le _, Nat.zero_le _⟩) hP hD hS hA [0] [1, 2, 3, 4, 5, 6, 7, 8, 9, 10] rfl rfl rfl rfl pv_142 (fun H locs hP hS => ?_)
    refine lv_if_eq (pc := 16) (tgt := 28) hx hb dX9_realm_16 (by decide) (fun hc => ?_) (fun hc => ?_)
    · have hf := (if_pos hc).symm.trans hf
      refine lv_bipush (pc := 28) (v := (-2)) hx hb dX9_realm_28 bp_m2 ?_
      have hf := Option.some.inj hf
      subst hf
      exact ret_i C hr hlk hP hS dX9_realm_30
    · have hf := (if_neg hc).symm.trans hf
      refine lv_aload_n (pc := 19) hx hb dX9_realm_19 rfl (lv_at hl 0 rfl) ?_
      refine lv_iload_n (pc := 20) hx hb dX9_realm_20 rfl (lv_at hl 1 rfl) ?_
      refine lv_iload_n (pc := 21) hx hb dX9_realm_21 rfl (lv_at hl 2 rfl) ?_
      obtain ⟨r11, hq, hf⟩ := bind1_some hf
      refine fin2_i (wl_X9_realm cA b m_latest c1 c2 c3 m_bowls m_dogs m_gone m_sights m_drawn m_bytes m_typed c4 c5 m_settings m_bowl m_dog c6 c7 c8) (run_V (rest := []) (pc := 22) (As := [.int x1, .int x2]) C mf_X9_195 (c_X9_realmOf l D cA b m_latest c1 c2 c3 m_bowls m_dogs m_gone m_sights m_drawn c8 x1 x2 r11 hq H.size) rfl rfl ⟨(Nat.le_of_ble_eq_true rfl), (Nat.le_of_ble_eq_true rfl)⟩ (preV_of C hP hD [0, 10] rfl (pl_nd pv_143) 0 rfl rfl rfl) rfl hl.1 rfl (Nat.le_of_ble_eq_true rfl) dX9_realm_22 ⟨Nat.zero_le _, Nat.zero_le _⟩) hP hD hS hA [0, 10] [1, 2, 3, 4, 5, 6, 7, 8, 9] rfl rfl rfl rfl pv_143 (fun H locs hP hS => ?_)
      refine lv_goto (pc := 25) (tgt := 30) hx hb dX9_realm_25 (by decide) ?_
      have hf := Option.some.inj hf
      subst hf
      exact ret_i C hr hlk hP hS dX9_realm_30
set_option maxRecDepth 100000 in
theorem c_X9_realm (l : Launch) (D : va_G) (cA : Nat → ClassId) (b : Nat → Nat) (m_latest : Int32) (m_cells : Int32) (m_wide : Int32) (m_houses : Int32) (m_bowls : Int32) (m_dogs : Int32) (m_gone : Int32) (m_sights : Int32) (m_drawn : Int32) (m_bytes : Nat → Int32) (m_typed : Nat → Int32) (m_cell : Nat → Int32) (m_house : Nat → Int32) (m_settings : Nat → Int32) (m_bowl : Nat → Int32) (m_dog : Nat → Int32) (m_path : Nat → Int32) (m_steps : Nat → Int32) (m_line : Nat → Int32) (x1 : Int32) (x2 : Int32) (r : Int32 × Int32 × Int32 × Int32 × (Nat → Int32) × (Nat → Int32) × (Nat → Int32) × (Nat → Int32) × (Nat → Int32)) (hf : f_X9_realm m_cells m_wide m_houses m_bowls m_dogs m_gone m_bytes m_typed m_cell m_house m_settings m_bowl m_dog m_path m_steps m_line x1 x2 = some r) (sz : Nat) : Met l yX9_realm (Cond.code yX9_realm cX9_realm 3 (some .int) :: lw_good) rm_X9_realm (PreX D cA [.ref (b 0), .int x1, .int x2] sz (wl_X9_realm cA b m_latest m_cells m_wide m_houses m_bowls m_dogs m_gone m_sights m_drawn m_bytes m_typed m_cell m_house m_settings m_bowl m_dog m_path m_steps m_line)) (PostI D r.1 (wl_X9_realm cA b m_latest m_cells m_wide m_houses m_bowls m_dogs m_gone m_sights m_drawn m_bytes m_typed m_cell m_house m_settings m_bowl m_dog m_path m_steps m_line) (wl_X9_realm cA b m_latest (r.2.1) (r.2.2.1) (r.2.2.2.1) m_bowls m_dogs m_gone m_sights m_drawn m_bytes m_typed (r.2.2.2.2.1) (r.2.2.2.2.2.1) m_settings m_bowl m_dog (r.2.2.2.2.2.2.1) (r.2.2.2.2.2.2.2.1) (r.2.2.2.2.2.2.2.2)) sz) 0 0 (va_A (wl_X9_realm cA b m_latest m_cells m_wide m_houses m_bowls m_dogs m_gone m_sights m_drawn m_bytes m_typed m_cell m_house m_settings m_bowl m_dog m_path m_steps m_line) sz) :=
  met_of (by decide) (Nat.le_of_ble_eq_true rfl) (fun p e s m args below meth c C hr hlk hA => k_X9_realm C hr hlk hA b m_latest m_cells m_wide m_houses m_bowls m_dogs m_gone m_sights m_drawn m_bytes m_typed m_cell m_house m_settings m_bowl m_dog m_path m_steps m_line x1 x2 r hf)
end

abbrev wl_X9_liesOf (cA : Nat → ClassId) (b : Nat → Nat) (m_latest : Int32) (m_cells : Int32) (m_wide : Int32) (m_houses : Int32) (m_bowls : Int32) (m_dogs : Int32) (m_gone : Int32) (m_sights : Int32) (m_drawn : Int32) (m_house : Nat → Int32) (m_line : Nat → Int32) : va_W := [((b 0), .inr (9, [.ref (b 1), .ref (b 2), .ref (b 3), .ref (b 4), .int m_latest, .ref (b 5), .ref (b 6), .int m_cells, .int m_wide, .ref (b 7), .int m_houses, .ref (b 8), .ref (b 9), .int m_bowls, .ref (b 10), .int m_dogs, .ref (b 11), .int m_gone, .ref (b 12), .ref (b 13), .ref (b 14), .int m_sights, .ref (b 15), .ref (b 16), .int m_drawn])), ((b 8), .inl (cA 0, 16, .inl m_house)), ((b 14), .inl (cA 0, 60, .inl m_line))]
abbrev rm_X9_liesOf : Room := { frames := 2, cells := 0, slots := 0, locals := 46 }
section
variable {p : Program} {l : Launch} {e : Env} {s : State} {m : MethodId} {args : Array Value} {below : List Frame} {meth : Method} {c : Code} {D : va_G} {cA : Nat → ClassId} {ws0 : va_W} {sz : Nat} {A : Nat → Prop} {Q : State → Prop}
def f_X9_liesOf (m_cells : Int32) (m_wide : Int32) (m_house : Nat → Int32) (m_line : Nat → Int32) (x1 : Int32) (x2 : Int32) : Option (Int32) :=
  gd (inb ((2 : Int32) * x2) 16) (bind1 (f_X9_isCell m_cells (m_house ((2 : Int32) * x2).toNatClampNeg)) (fun r1 => if r1 = 0 then (some (-1 : Int32)) else (gd (inb ((2 : Int32) * x2) 16) (bind1 (f_X9_realmOf m_wide m_line x1 (m_house ((2 : Int32) * x2).toNatClampNeg)) (fun r2 => some r2)))))
set_option maxHeartbeats 4000000 in
set_option maxRecDepth 100000 in
theorem k_X9_liesOf (C : Cx RX9 cX9_liesOf 3 D cA p s m args c) (hr : meth.sig.returnType = (some .int)) (hlk : meth.locks = false) (hA : ∀ q, s.heap.size ≤ q → va_A ws0 sz q) (b : Nat → Nat) (m_latest : Int32) (m_cells : Int32) (m_wide : Int32) (m_houses : Int32) (m_bowls : Int32) (m_dogs : Int32) (m_gone : Int32) (m_sights : Int32) (m_drawn : Int32) (m_house : Nat → Int32) (m_line : Nat → Int32) (x1 : Int32) (x2 : Int32) (r : Int32) (hf : f_X9_liesOf m_cells m_wide m_house m_line x1 x2 = some r) : At p l e rm_X9_liesOf s m args below meth c D (va_A ws0 sz) 0 0 (MQ below (PostI D r ws0 (wl_X9_liesOf cA b m_latest m_cells m_wide m_houses m_bowls m_dogs m_gone m_sights m_drawn m_house m_line) sz) args s 0 0 (va_A ws0 sz)) 3 0 (wl_X9_liesOf cA b m_latest m_cells m_wide m_houses m_bowls m_dogs m_gone m_sights m_drawn m_house m_line) [(0, .ref (b 0)), (1, .int x1), (2, .int x2)] [] := by
  intro H locs ls hP hD hS hl
  have hx := C.1
  have hb := C.2.1
  have hown := C.2.2.2.1
  have hts := C.2.2.2.2.1
  unfold f_X9_liesOf at hf
  refine lv_aload_n (pc := 0) hx hb dX9_liesOf_0 rfl (lv_at hl 0 rfl) ?_
  refine lv_aload_n (pc := 1) hx hb dX9_liesOf_1 rfl (lv_at hl 0 rfl) ?_
  refine g_get (pc := 2) C fg_X9_31 hP 0 rfl rfl dX9_liesOf_2 ?_
  refine lv_iconst (pc := 5) (v := 2) hx hb dX9_liesOf_5 ic_2 ?_
  refine lv_iload_n (pc := 6) hx hb dX9_liesOf_6 rfl (lv_at hl 2 rfl) ?_
  refine lv_imul (pc := 7) hx hb dX9_liesOf_7 ?_
  obtain ⟨hg, hf⟩ := gd_some hf
  refine g_iald (pc := 8) C hP 1 rfl hg dX9_liesOf_8 ?_
  obtain ⟨r1, hq, hf⟩ := bind1_some hf
  refine fin2_i (wl_X9_liesOf cA b m_latest m_cells m_wide m_houses m_bowls m_dogs m_gone m_sights m_drawn m_house m_line) (run_V (rest := []) (pc := 9) (As := [.int (m_house ((2 : Int32) * x2).toNatClampNeg)]) C mf_X9_165 (c_X9_isCell l D cA b m_latest m_cells m_wide m_houses m_bowls m_dogs m_gone m_sights m_drawn (m_house ((2 : Int32) * x2).toNatClampNeg) r1 hq H.size) rfl rfl ⟨(Nat.le_of_ble_eq_true rfl), (Nat.le_of_ble_eq_true rfl)⟩ (preV_of C hP hD [0] rfl (pl_nd pv_120) 0 rfl rfl rfl) rfl hl.1 rfl (Nat.le_of_ble_eq_true rfl) dX9_liesOf_9 ⟨Nat.zero_le _, Nat.zero_le _⟩) hP hD hS hA [0] [1, 2] rfl rfl rfl rfl pv_120 (fun H locs hP hS => ?_)
  refine lv_if_eq (pc := 12) (tgt := 31) hx hb dX9_liesOf_12 (by decide) (fun hc => ?_) (fun hc => ?_)
  · have hf := (if_pos hc).symm.trans hf
    refine lv_iconst (pc := 31) (v := (-1)) hx hb dX9_liesOf_31 ic_m1 ?_
    have hf := Option.some.inj hf
    subst hf
    exact ret_i C hr hlk hP hS dX9_liesOf_32
  · have hf := (if_neg hc).symm.trans hf
    refine lv_aload_n (pc := 15) hx hb dX9_liesOf_15 rfl (lv_at hl 0 rfl) ?_
    refine lv_iload_n (pc := 16) hx hb dX9_liesOf_16 rfl (lv_at hl 1 rfl) ?_
    refine lv_aload_n (pc := 17) hx hb dX9_liesOf_17 rfl (lv_at hl 0 rfl) ?_
    refine g_get (pc := 18) C fg_X9_31 hP 0 rfl rfl dX9_liesOf_18 ?_
    refine lv_iconst (pc := 21) (v := 2) hx hb dX9_liesOf_21 ic_2 ?_
    refine lv_iload_n (pc := 22) hx hb dX9_liesOf_22 rfl (lv_at hl 2 rfl) ?_
    refine lv_imul (pc := 23) hx hb dX9_liesOf_23 ?_
    obtain ⟨hg, hf⟩ := gd_some hf
    refine g_iald (pc := 24) C hP 1 rfl hg dX9_liesOf_24 ?_
    obtain ⟨r2, hq, hf⟩ := bind1_some hf
    refine fin2_i (wl_X9_liesOf cA b m_latest m_cells m_wide m_houses m_bowls m_dogs m_gone m_sights m_drawn m_house m_line) (run_V (rest := []) (pc := 25) (As := [.int x1, .int (m_house ((2 : Int32) * x2).toNatClampNeg)]) C mf_X9_195 (c_X9_realmOf l D cA b m_latest m_cells m_wide m_houses m_bowls m_dogs m_gone m_sights m_drawn m_line x1 (m_house ((2 : Int32) * x2).toNatClampNeg) r2 hq H.size) rfl rfl ⟨(Nat.le_of_ble_eq_true rfl), (Nat.le_of_ble_eq_true rfl)⟩ (preV_of C hP hD [0, 2] rfl (pl_nd pv_144) 0 rfl rfl rfl) rfl hl.1 rfl (Nat.le_of_ble_eq_true rfl) dX9_liesOf_25 ⟨Nat.zero_le _, Nat.zero_le _⟩) hP hD hS hA [0, 2] [1] rfl rfl rfl rfl pv_144 (fun H locs hP hS => ?_)
    refine lv_goto (pc := 28) (tgt := 32) hx hb dX9_liesOf_28 (by decide) ?_
    have hf := Option.some.inj hf
    subst hf
    exact ret_i C hr hlk hP hS dX9_liesOf_32
set_option maxRecDepth 100000 in
theorem c_X9_liesOf (l : Launch) (D : va_G) (cA : Nat → ClassId) (b : Nat → Nat) (m_latest : Int32) (m_cells : Int32) (m_wide : Int32) (m_houses : Int32) (m_bowls : Int32) (m_dogs : Int32) (m_gone : Int32) (m_sights : Int32) (m_drawn : Int32) (m_house : Nat → Int32) (m_line : Nat → Int32) (x1 : Int32) (x2 : Int32) (r : Int32) (hf : f_X9_liesOf m_cells m_wide m_house m_line x1 x2 = some r) (sz : Nat) : Met l yX9_liesOf (Cond.code yX9_liesOf cX9_liesOf 3 (some .int) :: lw_good) rm_X9_liesOf (PreX D cA [.ref (b 0), .int x1, .int x2] sz (wl_X9_liesOf cA b m_latest m_cells m_wide m_houses m_bowls m_dogs m_gone m_sights m_drawn m_house m_line)) (PostI D r (wl_X9_liesOf cA b m_latest m_cells m_wide m_houses m_bowls m_dogs m_gone m_sights m_drawn m_house m_line) (wl_X9_liesOf cA b m_latest m_cells m_wide m_houses m_bowls m_dogs m_gone m_sights m_drawn m_house m_line) sz) 0 0 (va_A (wl_X9_liesOf cA b m_latest m_cells m_wide m_houses m_bowls m_dogs m_gone m_sights m_drawn m_house m_line) sz) :=
  met_of (by decide) (Nat.le_of_ble_eq_true rfl) (fun p e s m args below meth c C hr hlk hA => k_X9_liesOf C hr hlk hA b m_latest m_cells m_wide m_houses m_bowls m_dogs m_gone m_sights m_drawn m_house m_line x1 x2 r hf)
end

abbrev wl_X9_lies (cA : Nat → ClassId) (b : Nat → Nat) (m_latest : Int32) (m_cells : Int32) (m_wide : Int32) (m_houses : Int32) (m_bowls : Int32) (m_dogs : Int32) (m_gone : Int32) (m_sights : Int32) (m_drawn : Int32) (m_bytes : Nat → Int32) (m_typed : Nat → Int32) (m_cell : Nat → Int32) (m_house : Nat → Int32) (m_settings : Nat → Int32) (m_bowl : Nat → Int32) (m_dog : Nat → Int32) (m_path : Nat → Int32) (m_steps : Nat → Int32) (m_line : Nat → Int32) : va_W := [((b 0), .inr (9, [.ref (b 1), .ref (b 2), .ref (b 3), .ref (b 4), .int m_latest, .ref (b 5), .ref (b 6), .int m_cells, .int m_wide, .ref (b 7), .int m_houses, .ref (b 8), .ref (b 9), .int m_bowls, .ref (b 10), .int m_dogs, .ref (b 11), .int m_gone, .ref (b 12), .ref (b 13), .ref (b 14), .int m_sights, .ref (b 15), .ref (b 16), .int m_drawn])), ((b 5), .inl (cA 0, 84, .inl m_bytes)), ((b 6), .inl (cA 0, 2, .inl m_typed)), ((b 7), .inl (cA 0, 36, .inl m_cell)), ((b 8), .inl (cA 0, 16, .inl m_house)), ((b 9), .inl (cA 0, 2, .inl m_settings)), ((b 10), .inl (cA 0, 20, .inl m_bowl)), ((b 11), .inl (cA 0, 16, .inl m_dog)), ((b 12), .inl (cA 0, 250, .inl m_path)), ((b 13), .inl (cA 0, 10, .inl m_steps)), ((b 14), .inl (cA 0, 60, .inl m_line))]
abbrev rm_X9_lies : Room := { frames := 6, cells := 0, slots := 0, locals := 147 }
section
variable {p : Program} {l : Launch} {e : Env} {s : State} {m : MethodId} {args : Array Value} {below : List Frame} {meth : Method} {c : Code} {D : va_G} {cA : Nat → ClassId} {ws0 : va_W} {sz : Nat} {A : Nat → Prop} {Q : State → Prop}
def f_X9_lies (m_cells : Int32) (m_wide : Int32) (m_houses : Int32) (m_bowls : Int32) (m_dogs : Int32) (m_gone : Int32) (m_bytes : Nat → Int32) (m_typed : Nat → Int32) (m_cell : Nat → Int32) (m_house : Nat → Int32) (m_settings : Nat → Int32) (m_bowl : Nat → Int32) (m_dog : Nat → Int32) (m_path : Nat → Int32) (m_steps : Nat → Int32) (m_line : Nat → Int32) (x1 : Int32) (x2 : Int32) : Option (Int32 × Int32 × Int32 × Int32 × (Nat → Int32) × (Nat → Int32) × (Nat → Int32) × (Nat → Int32) × (Nat → Int32)) :=
  bind8 (f_X9_find m_cells m_wide m_houses m_bowls m_dogs m_gone m_bytes m_typed m_cell m_house m_settings m_bowl m_dog m_path m_steps m_line) (fun c1 c2 c3 c4 c5 c6 c7 c8 => bind1 (f_X9_isNight x1) (fun r9 => if r9 = 0 then (some ((-2 : Int32), c1, c2, c3, c4, c5, c6, c7, c8)) else (bind1 (f_X9_isHouse c3 x2) (fun r10 => if r10 = 0 then (some ((-2 : Int32), c1, c2, c3, c4, c5, c6, c7, c8)) else (bind1 (f_X9_liesOf c1 c2 c5 c8 x1 x2) (fun r11 => some (r11, c1, c2, c3, c4, c5, c6, c7, c8)))))))
set_option maxHeartbeats 4000000 in
set_option maxRecDepth 100000 in
theorem k_X9_lies (C : Cx RX9 cX9_lies 3 D cA p s m args c) (hr : meth.sig.returnType = (some .int)) (hlk : meth.locks = false) (hA : ∀ q, s.heap.size ≤ q → va_A ws0 sz q) (b : Nat → Nat) (m_latest : Int32) (m_cells : Int32) (m_wide : Int32) (m_houses : Int32) (m_bowls : Int32) (m_dogs : Int32) (m_gone : Int32) (m_sights : Int32) (m_drawn : Int32) (m_bytes : Nat → Int32) (m_typed : Nat → Int32) (m_cell : Nat → Int32) (m_house : Nat → Int32) (m_settings : Nat → Int32) (m_bowl : Nat → Int32) (m_dog : Nat → Int32) (m_path : Nat → Int32) (m_steps : Nat → Int32) (m_line : Nat → Int32) (x1 : Int32) (x2 : Int32) (r : Int32 × Int32 × Int32 × Int32 × (Nat → Int32) × (Nat → Int32) × (Nat → Int32) × (Nat → Int32) × (Nat → Int32)) (hf : f_X9_lies m_cells m_wide m_houses m_bowls m_dogs m_gone m_bytes m_typed m_cell m_house m_settings m_bowl m_dog m_path m_steps m_line x1 x2 = some r) : At p l e rm_X9_lies s m args below meth c D (va_A ws0 sz) 0 0 (MQ below (PostI D r.1 ws0 (wl_X9_lies cA b m_latest (r.2.1) (r.2.2.1) (r.2.2.2.1) m_bowls m_dogs m_gone m_sights m_drawn m_bytes m_typed (r.2.2.2.2.1) (r.2.2.2.2.2.1) m_settings m_bowl m_dog (r.2.2.2.2.2.2.1) (r.2.2.2.2.2.2.2.1) (r.2.2.2.2.2.2.2.2)) sz) args s 0 0 (va_A ws0 sz)) 3 0 (wl_X9_lies cA b m_latest m_cells m_wide m_houses m_bowls m_dogs m_gone m_sights m_drawn m_bytes m_typed m_cell m_house m_settings m_bowl m_dog m_path m_steps m_line) [(0, .ref (b 0)), (1, .int x1), (2, .int x2)] [] := by
  intro H locs ls hP hD hS hl
  have hx := C.1
  have hb := C.2.1
  have hown := C.2.2.2.1
  have hts := C.2.2.2.2.1
  unfold f_X9_lies at hf
  refine lv_aload_n (pc := 0) hx hb dX9_lies_0 rfl (lv_at hl 0 rfl) ?_
  obtain ⟨c1, c2, c3, c4, c5, c6, c7, c8, hq, hf⟩ := bind8_some hf
  refine fin2_v (wl_X9_lies cA b m_latest c1 c2 c3 m_bowls m_dogs m_gone m_sights m_drawn m_bytes m_typed c4 c5 m_settings m_bowl m_dog c6 c7 c8) (run_V (rest := []) (pc := 1) (As := []) C mf_X9_184 (c_X9_find l D cA b m_latest m_cells m_wide m_houses m_bowls m_dogs m_gone m_sights m_drawn m_bytes m_typed m_cell m_house m_settings m_bowl m_dog m_path m_steps m_line (c1, c2, c3, c4, c5, c6, c7, c8) hq H.size) rfl rfl ⟨(Nat.le_of_ble_eq_true rfl), (Nat.le_of_ble_eq_true rfl)⟩ (preV_of C hP hD [0, 1, 2, 3, 4, 5, 6, 7, 8, 9, 10] rfl (pl_nd pv_138) 0 rfl rfl rfl) rfl hl.1 rfl (Nat.le_of_ble_eq_true rfl) dX9_lies_1 ⟨Nat.zero_le _, Nat.zero_le _⟩) hP hD hS hA [0, 1, 2, 3, 4, 5, 6, 7, 8, 9, 10] [] rfl rfl rfl rfl pv_138 (fun H locs hP hS => ?_)
  have hD : va_D (va_A ws0 sz) (wl_X9_lies cA b m_latest c1 c2 c3 m_bowls m_dogs m_gone m_sights m_drawn m_bytes m_typed c4 c5 m_settings m_bowl m_dog c6 c7 c8) := vd_a hD rfl
  refine lv_iload_n (pc := 4) hx hb dX9_lies_4 rfl (lv_at hl 1 rfl) ?_
  obtain ⟨r9, hq, hf⟩ := bind1_some hf
  refine fin2_i (wl_X9_lies cA b m_latest c1 c2 c3 m_bowls m_dogs m_gone m_sights m_drawn m_bytes m_typed c4 c5 m_settings m_bowl m_dog c6 c7 c8) (run_S (rest := []) (pc := 5) (As := [.int x1]) C mf_X9_136 (c_X9_isNight l D cA  x1 r9 hq H.size) rfl rfl ⟨(Nat.le_of_ble_eq_true rfl), (Nat.le_of_ble_eq_true rfl)⟩ (preS_of C hP hD [] rfl (pl_nd pv_139)) rfl hl.1 rfl (Nat.le_of_ble_eq_true rfl) dX9_lies_5 ⟨Nat.zero_le _, Nat.zero_le _⟩) hP hD hS hA [] [0, 1, 2, 3, 4, 5, 6, 7, 8, 9, 10] rfl rfl rfl rfl pv_139 (fun H locs hP hS => ?_)
  refine lv_if_eq (pc := 8) (tgt := 28) hx hb dX9_lies_8 (by decide) (fun hc => ?_) (fun hc => ?_)
  · have hf := (if_pos hc).symm.trans hf
    refine lv_bipush (pc := 28) (v := (-2)) hx hb dX9_lies_28 bp_m2 ?_
    have hf := Option.some.inj hf
    subst hf
    exact ret_i C hr hlk hP hS dX9_lies_30
  · have hf := (if_neg hc).symm.trans hf
    refine lv_aload_n (pc := 11) hx hb dX9_lies_11 rfl (lv_at hl 0 rfl) ?_
    refine lv_iload_n (pc := 12) hx hb dX9_lies_12 rfl (lv_at hl 2 rfl) ?_
    obtain ⟨r10, hq, hf⟩ := bind1_some hf
    refine fin2_i (wl_X9_lies cA b m_latest c1 c2 c3 m_bowls m_dogs m_gone m_sights m_drawn m_bytes m_typed c4 c5 m_settings m_bowl m_dog c6 c7 c8) (run_V (rest := []) (pc := 13) (As := [.int x2]) C mf_X9_126 (c_X9_isHouse l D cA b m_latest c1 c2 c3 m_bowls m_dogs m_gone m_sights m_drawn x2 r10 hq H.size) rfl rfl ⟨(Nat.le_of_ble_eq_true rfl), (Nat.le_of_ble_eq_true rfl)⟩ (preV_of C hP hD [0] rfl (pl_nd pv_142) 0 rfl rfl rfl) rfl hl.1 rfl (Nat.le_of_ble_eq_true rfl) dX9_lies_13 ⟨Nat.zero_le _, Nat.zero_le _⟩) hP hD hS hA [0] [1, 2, 3, 4, 5, 6, 7, 8, 9, 10] rfl rfl rfl rfl pv_142 (fun H locs hP hS => ?_)
    refine lv_if_eq (pc := 16) (tgt := 28) hx hb dX9_lies_16 (by decide) (fun hc => ?_) (fun hc => ?_)
    · have hf := (if_pos hc).symm.trans hf
      refine lv_bipush (pc := 28) (v := (-2)) hx hb dX9_lies_28 bp_m2 ?_
      have hf := Option.some.inj hf
      subst hf
      exact ret_i C hr hlk hP hS dX9_lies_30
    · have hf := (if_neg hc).symm.trans hf
      refine lv_aload_n (pc := 19) hx hb dX9_lies_19 rfl (lv_at hl 0 rfl) ?_
      refine lv_iload_n (pc := 20) hx hb dX9_lies_20 rfl (lv_at hl 1 rfl) ?_
      refine lv_iload_n (pc := 21) hx hb dX9_lies_21 rfl (lv_at hl 2 rfl) ?_
      obtain ⟨r11, hq, hf⟩ := bind1_some hf
      refine fin2_i (wl_X9_lies cA b m_latest c1 c2 c3 m_bowls m_dogs m_gone m_sights m_drawn m_bytes m_typed c4 c5 m_settings m_bowl m_dog c6 c7 c8) (run_V (rest := []) (pc := 22) (As := [.int x1, .int x2]) C mf_X9_198 (c_X9_liesOf l D cA b m_latest c1 c2 c3 m_bowls m_dogs m_gone m_sights m_drawn c5 c8 x1 x2 r11 hq H.size) rfl rfl ⟨(Nat.le_of_ble_eq_true rfl), (Nat.le_of_ble_eq_true rfl)⟩ (preV_of C hP hD [0, 4, 10] rfl (pl_nd pv_145) 0 rfl rfl rfl) rfl hl.1 rfl (Nat.le_of_ble_eq_true rfl) dX9_lies_22 ⟨Nat.zero_le _, Nat.zero_le _⟩) hP hD hS hA [0, 4, 10] [1, 2, 3, 5, 6, 7, 8, 9] rfl rfl rfl rfl pv_145 (fun H locs hP hS => ?_)
      refine lv_goto (pc := 25) (tgt := 30) hx hb dX9_lies_25 (by decide) ?_
      have hf := Option.some.inj hf
      subst hf
      exact ret_i C hr hlk hP hS dX9_lies_30
set_option maxRecDepth 100000 in
theorem c_X9_lies (l : Launch) (D : va_G) (cA : Nat → ClassId) (b : Nat → Nat) (m_latest : Int32) (m_cells : Int32) (m_wide : Int32) (m_houses : Int32) (m_bowls : Int32) (m_dogs : Int32) (m_gone : Int32) (m_sights : Int32) (m_drawn : Int32) (m_bytes : Nat → Int32) (m_typed : Nat → Int32) (m_cell : Nat → Int32) (m_house : Nat → Int32) (m_settings : Nat → Int32) (m_bowl : Nat → Int32) (m_dog : Nat → Int32) (m_path : Nat → Int32) (m_steps : Nat → Int32) (m_line : Nat → Int32) (x1 : Int32) (x2 : Int32) (r : Int32 × Int32 × Int32 × Int32 × (Nat → Int32) × (Nat → Int32) × (Nat → Int32) × (Nat → Int32) × (Nat → Int32)) (hf : f_X9_lies m_cells m_wide m_houses m_bowls m_dogs m_gone m_bytes m_typed m_cell m_house m_settings m_bowl m_dog m_path m_steps m_line x1 x2 = some r) (sz : Nat) : Met l yX9_lies (Cond.code yX9_lies cX9_lies 3 (some .int) :: lw_good) rm_X9_lies (PreX D cA [.ref (b 0), .int x1, .int x2] sz (wl_X9_lies cA b m_latest m_cells m_wide m_houses m_bowls m_dogs m_gone m_sights m_drawn m_bytes m_typed m_cell m_house m_settings m_bowl m_dog m_path m_steps m_line)) (PostI D r.1 (wl_X9_lies cA b m_latest m_cells m_wide m_houses m_bowls m_dogs m_gone m_sights m_drawn m_bytes m_typed m_cell m_house m_settings m_bowl m_dog m_path m_steps m_line) (wl_X9_lies cA b m_latest (r.2.1) (r.2.2.1) (r.2.2.2.1) m_bowls m_dogs m_gone m_sights m_drawn m_bytes m_typed (r.2.2.2.2.1) (r.2.2.2.2.2.1) m_settings m_bowl m_dog (r.2.2.2.2.2.2.1) (r.2.2.2.2.2.2.2.1) (r.2.2.2.2.2.2.2.2)) sz) 0 0 (va_A (wl_X9_lies cA b m_latest m_cells m_wide m_houses m_bowls m_dogs m_gone m_sights m_drawn m_bytes m_typed m_cell m_house m_settings m_bowl m_dog m_path m_steps m_line) sz) :=
  met_of (by decide) (Nat.le_of_ble_eq_true rfl) (fun p e s m args below meth c C hr hlk hA => k_X9_lies C hr hlk hA b m_latest m_cells m_wide m_houses m_bowls m_dogs m_gone m_sights m_drawn m_bytes m_typed m_cell m_house m_settings m_bowl m_dog m_path m_steps m_line x1 x2 r hf)
end

abbrev wl_X9_changesOf (cA : Nat → ClassId) (b : Nat → Nat) (m_latest : Int32) (m_cells : Int32) (m_wide : Int32) (m_houses : Int32) (m_bowls : Int32) (m_dogs : Int32) (m_gone : Int32) (m_sights : Int32) (m_drawn : Int32) (m_house : Nat → Int32) (m_line : Nat → Int32) : va_W := [((b 0), .inr (9, [.ref (b 1), .ref (b 2), .ref (b 3), .ref (b 4), .int m_latest, .ref (b 5), .ref (b 6), .int m_cells, .int m_wide, .ref (b 7), .int m_houses, .ref (b 8), .ref (b 9), .int m_bowls, .ref (b 10), .int m_dogs, .ref (b 11), .int m_gone, .ref (b 12), .ref (b 13), .ref (b 14), .int m_sights, .ref (b 15), .ref (b 16), .int m_drawn])), ((b 8), .inl (cA 0, 16, .inl m_house)), ((b 14), .inl (cA 0, 60, .inl m_line))]
abbrev rm_X9_changesOf : Room := { frames := 3, cells := 0, slots := 0, locals := 68 }
section
variable {p : Program} {l : Launch} {e : Env} {s : State} {m : MethodId} {args : Array Value} {below : List Frame} {meth : Method} {c : Code} {D : va_G} {cA : Nat → ClassId} {ws0 : va_W} {sz : Nat} {A : Nat → Prop} {Q : State → Prop}
def f_X9_changesOf_b33L4 (m_cells : Int32) (m_wide : Int32) (m_house : Nat → Int32) (m_line : Nat → Int32) (x1 : Int32) (x3 : Int32) (s0 : Int32) (s1 : Int32) : Option ((Int32 × Int32) ⊕ (Int32)) :=
  letv ((s1 + s0)) (fun v3 => some (.inl (v3, (x3 + 1))))
set_option maxHeartbeats 4000000 in
set_option maxRecDepth 100000 in
theorem k_X9_changesOf_b33L4 (C : Cx RX9 cX9_changesOf 4 D cA p s m args c) (hA : ∀ q, s.heap.size ≤ q → A q) (b : Nat → Nat) (m_latest : Int32) (m_cells : Int32) (m_wide : Int32) (m_houses : Int32) (m_bowls : Int32) (m_dogs : Int32) (m_gone : Int32) (m_sights : Int32) (m_drawn : Int32) (m_house : Nat → Int32) (m_line : Nat → Int32) (x1 : Int32) (x3 : Int32) (s0 : Int32) (s1 : Int32) (r : (Int32 × Int32) ⊕ (Int32)) (hf : f_X9_changesOf_b33L4 m_cells m_wide m_house m_line x1 x3 s0 s1 = some r) (hK : Sum.elim (fun q : Int32 × Int32 => At p l e rm_X9_changesOf s m args below meth c D A 0 0 Q 4 4 (wl_X9_changesOf cA b m_latest m_cells m_wide m_houses m_bowls m_dogs m_gone m_sights m_drawn m_house m_line) [(0, .ref (b 0)), (1, .int x1), (2, .int (q.1)), (3, .int (q.2))] []) (fun q : Int32 => At p l e rm_X9_changesOf s m args below meth c D A 0 0 Q 4 41 (wl_X9_changesOf cA b m_latest m_cells m_wide m_houses m_bowls m_dogs m_gone m_sights m_drawn m_house m_line) [(2, .int q)] []) r) : At p l e rm_X9_changesOf s m args below meth c D A 0 0 Q 4 33 (wl_X9_changesOf cA b m_latest m_cells m_wide m_houses m_bowls m_dogs m_gone m_sights m_drawn m_house m_line) [(0, .ref (b 0)), (1, .int x1), (3, .int x3)] [.int s0, .int s1] := by
  intro H locs ls hP hD hS hl
  have hx := C.1
  have hb := C.2.1
  have hown := C.2.2.2.1
  have hts := C.2.2.2.2.1
  unfold f_X9_changesOf_b33L4 at hf
  refine lv_iadd (pc := 33) hx hb dX9_changesOf_33 ?_
  obtain ⟨v3, e_v3, hf⟩ := letv_some hf
  refine tp_i e_v3 ?_
  refine lv_istore_n (pc := 34) (lv' := [(2, .int v3), (0, .ref (b 0)), (1, .int x1), (3, .int x3)]) hx hb dX9_changesOf_34 rfl hl (Nat.le_of_ble_eq_true rfl) rfl (fun ls hl => ?_)
  refine lv_iinc (pc := 35) (v := (x3 + 1)) (lv' := [(3, .int (x3 + 1)), (2, .int v3), (0, .ref (b 0)), (1, .int x1)]) hx hb dX9_changesOf_35 hl (k := 3) rfl rfl (Nat.le_of_ble_eq_true rfl) rfl (fun ls hl => ?_)
  refine lv_goto (pc := 38) (tgt := 4) hx hb dX9_changesOf_38 (by decide) ?_
  have hf := Option.some.inj hf
  subst hf
  exact hK H locs ls hP hD hS (lv_sub hl [2, 3, 1, 0] rfl)
def f_X9_changesOf_L4 (m_cells : Int32) (m_wide : Int32) (m_house : Nat → Int32) (m_line : Nat → Int32) (x1 : Int32) (x2 : Int32) (x3 : Int32) : Option ((Int32 × Int32) ⊕ (Int32)) :=
  if (10 : Int32) ≤ x3 then (some (.inr x2)) else (bind1 (f_X9_liesOf m_cells m_wide m_house m_line x3 x1) (fun r1 => bind1 (f_X9_liesOf m_cells m_wide m_house m_line (x3 - (1 : Int32)) x1) (fun r2 => if r1 = r2 then (f_X9_changesOf_b33L4 m_cells m_wide m_house m_line x1 x3 (0 : Int32) x2) else (f_X9_changesOf_b33L4 m_cells m_wide m_house m_line x1 x3 (1 : Int32) x2))))
set_option maxHeartbeats 4000000 in
set_option maxRecDepth 100000 in
theorem k_X9_changesOf_L4 (C : Cx RX9 cX9_changesOf 4 D cA p s m args c) (hA : ∀ q, s.heap.size ≤ q → A q) (b : Nat → Nat) (m_latest : Int32) (m_cells : Int32) (m_wide : Int32) (m_houses : Int32) (m_bowls : Int32) (m_dogs : Int32) (m_gone : Int32) (m_sights : Int32) (m_drawn : Int32) (m_house : Nat → Int32) (m_line : Nat → Int32) (x1 : Int32) (x2 : Int32) (x3 : Int32) (r : (Int32 × Int32) ⊕ (Int32)) (hf : f_X9_changesOf_L4 m_cells m_wide m_house m_line x1 x2 x3 = some r) (hK : Sum.elim (fun q : Int32 × Int32 => At p l e rm_X9_changesOf s m args below meth c D A 0 0 Q 4 4 (wl_X9_changesOf cA b m_latest m_cells m_wide m_houses m_bowls m_dogs m_gone m_sights m_drawn m_house m_line) [(0, .ref (b 0)), (1, .int x1), (2, .int (q.1)), (3, .int (q.2))] []) (fun q : Int32 => At p l e rm_X9_changesOf s m args below meth c D A 0 0 Q 4 41 (wl_X9_changesOf cA b m_latest m_cells m_wide m_houses m_bowls m_dogs m_gone m_sights m_drawn m_house m_line) [(2, .int q)] []) r) : At p l e rm_X9_changesOf s m args below meth c D A 0 0 Q 4 4 (wl_X9_changesOf cA b m_latest m_cells m_wide m_houses m_bowls m_dogs m_gone m_sights m_drawn m_house m_line) [(0, .ref (b 0)), (1, .int x1), (2, .int x2), (3, .int x3)] [] := by
  intro H locs ls hP hD hS hl
  have hx := C.1
  have hb := C.2.1
  have hown := C.2.2.2.1
  have hts := C.2.2.2.2.1
  unfold f_X9_changesOf_L4 at hf
  refine lv_iload_n (pc := 4) hx hb dX9_changesOf_4 rfl (lv_at hl 3 rfl) ?_
  refine lv_bipush (pc := 5) (v := 10) hx hb dX9_changesOf_5 bp_10 ?_
  refine lv_icmp_ge (pc := 7) (tgt := 41) hx hb dX9_changesOf_7 (by decide) (fun hc => ?_) (fun hc => ?_)
  · have hf := (if_pos hc).symm.trans hf
    have hf := Option.some.inj hf
    subst hf
    exact hK H locs ls hP hD hS (lv_sub hl [2] rfl)
  · have hf := (if_neg hc).symm.trans hf
    refine lv_iload_n (pc := 10) hx hb dX9_changesOf_10 rfl (lv_at hl 2 rfl) ?_
    refine lv_aload_n (pc := 11) hx hb dX9_changesOf_11 rfl (lv_at hl 0 rfl) ?_
    refine lv_iload_n (pc := 12) hx hb dX9_changesOf_12 rfl (lv_at hl 3 rfl) ?_
    refine lv_iload_n (pc := 13) hx hb dX9_changesOf_13 rfl (lv_at hl 1 rfl) ?_
    obtain ⟨r1, hq, hf⟩ := bind1_some hf
    refine fin2_i (wl_X9_changesOf cA b m_latest m_cells m_wide m_houses m_bowls m_dogs m_gone m_sights m_drawn m_house m_line) (run_V (rest := [.int x2]) (pc := 14) (As := [.int x3, .int x1]) C mf_X9_198 (c_X9_liesOf l D cA b m_latest m_cells m_wide m_houses m_bowls m_dogs m_gone m_sights m_drawn m_house m_line x3 x1 r1 hq H.size) rfl rfl ⟨(Nat.le_of_ble_eq_true rfl), (Nat.le_of_ble_eq_true rfl)⟩ (preV_of C hP hD [0, 1, 2] rfl (pl_nd pv_146) 0 rfl rfl rfl) rfl hl.1 rfl (Nat.le_of_ble_eq_true rfl) dX9_changesOf_14 ⟨Nat.zero_le _, Nat.zero_le _⟩) hP hD hS hA [0, 1, 2] [] rfl rfl rfl rfl pv_146 (fun H locs hP hS => ?_)
    refine lv_aload_n (pc := 17) hx hb dX9_changesOf_17 rfl (lv_at hl 0 rfl) ?_
    refine lv_iload_n (pc := 18) hx hb dX9_changesOf_18 rfl (lv_at hl 3 rfl) ?_
    refine lv_iconst (pc := 19) (v := 1) hx hb dX9_changesOf_19 ic_1 ?_
    refine lv_isub (pc := 20) hx hb dX9_changesOf_20 ?_
    refine lv_iload_n (pc := 21) hx hb dX9_changesOf_21 rfl (lv_at hl 1 rfl) ?_
    obtain ⟨r2, hq, hf⟩ := bind1_some hf
    refine fin2_i (wl_X9_changesOf cA b m_latest m_cells m_wide m_houses m_bowls m_dogs m_gone m_sights m_drawn m_house m_line) (run_V (rest := [.int r1, .int x2]) (pc := 22) (As := [.int (x3 - (1 : Int32)), .int x1]) C mf_X9_198 (c_X9_liesOf l D cA b m_latest m_cells m_wide m_houses m_bowls m_dogs m_gone m_sights m_drawn m_house m_line (x3 - (1 : Int32)) x1 r2 hq H.size) rfl rfl ⟨(Nat.le_of_ble_eq_true rfl), (Nat.le_of_ble_eq_true rfl)⟩ (preV_of C hP hD [0, 1, 2] rfl (pl_nd pv_146) 0 rfl rfl rfl) rfl hl.1 rfl (Nat.le_of_ble_eq_true rfl) dX9_changesOf_22 ⟨Nat.zero_le _, Nat.zero_le _⟩) hP hD hS hA [0, 1, 2] [] rfl rfl rfl rfl pv_146 (fun H locs hP hS => ?_)
    refine lv_icmp_ne (pc := 25) (tgt := 32) hx hb dX9_changesOf_25 (by decide) (fun hc => ?_) (fun hc => ?_)
    · have hf := (if_neg hc).symm.trans hf
      refine lv_iconst (pc := 32) (v := 1) hx hb dX9_changesOf_32 ic_1 ?_
      exact k_X9_changesOf_b33L4 C hA b m_latest m_cells m_wide m_houses m_bowls m_dogs m_gone m_sights m_drawn m_house m_line x1 x3 (1 : Int32) x2 r hf hK H locs ls hP hD hS (lv_sub hl [0, 1, 3] rfl)
    · have hf := (if_pos hc).symm.trans hf
      refine lv_iconst (pc := 28) (v := 0) hx hb dX9_changesOf_28 ic_0 ?_
      refine lv_goto (pc := 29) (tgt := 33) hx hb dX9_changesOf_29 (by decide) ?_
      exact k_X9_changesOf_b33L4 C hA b m_latest m_cells m_wide m_houses m_bowls m_dogs m_gone m_sights m_drawn m_house m_line x1 x3 (0 : Int32) x2 r hf hK H locs ls hP hD hS (lv_sub hl [0, 1, 3] rfl)
theorem kl_X9_changesOf_L4 (C : Cx RX9 cX9_changesOf 4 D cA p s m args c) (hA : ∀ q, s.heap.size ≤ q → A q) (b : Nat → Nat) (m_latest : Int32) (m_cells : Int32) (m_wide : Int32) (m_houses : Int32) (m_bowls : Int32) (m_dogs : Int32) (m_gone : Int32) (m_sights : Int32) (m_drawn : Int32) (m_house : Nat → Int32) (m_line : Nat → Int32) (x1 : Int32) : ∀ (n : Nat) (q : Int32 × Int32) (z : (Int32)), loopF (fun q : Int32 × Int32 => f_X9_changesOf_L4 m_cells m_wide m_house m_line x1 q.1 q.2) n q = some z → (fun q : Int32 => At p l e rm_X9_changesOf s m args below meth c D A 0 0 Q 4 41 (wl_X9_changesOf cA b m_latest m_cells m_wide m_houses m_bowls m_dogs m_gone m_sights m_drawn m_house m_line) [(2, .int q)] []) z → At p l e rm_X9_changesOf s m args below meth c D A 0 0 Q 4 4 (wl_X9_changesOf cA b m_latest m_cells m_wide m_houses m_bowls m_dogs m_gone m_sights m_drawn m_house m_line) [(0, .ref (b 0)), (1, .int x1), (2, .int (q.1)), (3, .int (q.2))] [] :=
  loop_lem (WP := fun q : Int32 × Int32 => At p l e rm_X9_changesOf s m args below meth c D A 0 0 Q 4 4 (wl_X9_changesOf cA b m_latest m_cells m_wide m_houses m_bowls m_dogs m_gone m_sights m_drawn m_house m_line) [(0, .ref (b 0)), (1, .int x1), (2, .int (q.1)), (3, .int (q.2))] []) (WE := (fun q : Int32 => At p l e rm_X9_changesOf s m args below meth c D A 0 0 Q 4 41 (wl_X9_changesOf cA b m_latest m_cells m_wide m_houses m_bowls m_dogs m_gone m_sights m_drawn m_house m_line) [(2, .int q)] [])) (fun q r hf hK => k_X9_changesOf_L4 C hA b m_latest m_cells m_wide m_houses m_bowls m_dogs m_gone m_sights m_drawn m_house m_line x1 q.1 q.2 r hf hK)
def f_X9_changesOf (m_cells : Int32) (m_wide : Int32) (m_house : Nat → Int32) (m_line : Nat → Int32) (x1 : Int32) : Option (Int32) :=
  bind1 (loopF (fun q : Int32 × Int32 => f_X9_changesOf_L4 m_cells m_wide m_house m_line x1 q.1 q.2) FU ((0 : Int32), (1 : Int32))) (fun u4 => some u4)
set_option maxHeartbeats 4000000 in
set_option maxRecDepth 100000 in
theorem k_X9_changesOf (C : Cx RX9 cX9_changesOf 4 D cA p s m args c) (hr : meth.sig.returnType = (some .int)) (hlk : meth.locks = false) (hA : ∀ q, s.heap.size ≤ q → va_A ws0 sz q) (b : Nat → Nat) (m_latest : Int32) (m_cells : Int32) (m_wide : Int32) (m_houses : Int32) (m_bowls : Int32) (m_dogs : Int32) (m_gone : Int32) (m_sights : Int32) (m_drawn : Int32) (m_house : Nat → Int32) (m_line : Nat → Int32) (x1 : Int32) (r : Int32) (hf : f_X9_changesOf m_cells m_wide m_house m_line x1 = some r) : At p l e rm_X9_changesOf s m args below meth c D (va_A ws0 sz) 0 0 (MQ below (PostI D r ws0 (wl_X9_changesOf cA b m_latest m_cells m_wide m_houses m_bowls m_dogs m_gone m_sights m_drawn m_house m_line) sz) args s 0 0 (va_A ws0 sz)) 4 0 (wl_X9_changesOf cA b m_latest m_cells m_wide m_houses m_bowls m_dogs m_gone m_sights m_drawn m_house m_line) [(0, .ref (b 0)), (1, .int x1)] [] := by
  intro H locs ls hP hD hS hl
  have hx := C.1
  have hb := C.2.1
  have hown := C.2.2.2.1
  have hts := C.2.2.2.2.1
  unfold f_X9_changesOf at hf
  refine lv_iconst (pc := 0) (v := 0) hx hb dX9_changesOf_0 ic_0 ?_
  refine lv_istore_n (pc := 1) (lv' := [(2, .int (0 : Int32)), (0, .ref (b 0)), (1, .int x1)]) hx hb dX9_changesOf_1 rfl hl (Nat.le_of_ble_eq_true rfl) rfl (fun ls hl => ?_)
  refine lv_iconst (pc := 2) (v := 1) hx hb dX9_changesOf_2 ic_1 ?_
  refine lv_istore_n (pc := 3) (lv' := [(3, .int (1 : Int32)), (2, .int (0 : Int32)), (0, .ref (b 0)), (1, .int x1)]) hx hb dX9_changesOf_3 rfl hl (Nat.le_of_ble_eq_true rfl) rfl (fun ls hl => ?_)
  obtain ⟨u4, hq, hf⟩ := bind1_some hf
  refine kl_X9_changesOf_L4 C hA b m_latest m_cells m_wide m_houses m_bowls m_dogs m_gone m_sights m_drawn m_house m_line x1 FU ((0 : Int32), (1 : Int32)) _ hq ?_ H locs ls hP hD hS (lv_sub hl [2, 3, 1, 0] rfl)
  intro H locs ls hP hD hS hl
  have hP : va_P D classes (wl_X9_changesOf cA b m_latest m_cells m_wide m_houses m_bowls m_dogs m_gone m_sights m_drawn m_house m_line) H := hP
  have hD : va_D (va_A ws0 sz) (wl_X9_changesOf cA b m_latest m_cells m_wide m_houses m_bowls m_dogs m_gone m_sights m_drawn m_house m_line) := hD
  have hl : lv_has ls 4 [(2, .int u4)] := hl
  refine lv_iload_n (pc := 41) hx hb dX9_changesOf_41 rfl (lv_at hl 0 rfl) ?_
  have hf := Option.some.inj hf
  subst hf
  exact ret_i C hr hlk hP hS dX9_changesOf_42
set_option maxRecDepth 100000 in
theorem c_X9_changesOf (l : Launch) (D : va_G) (cA : Nat → ClassId) (b : Nat → Nat) (m_latest : Int32) (m_cells : Int32) (m_wide : Int32) (m_houses : Int32) (m_bowls : Int32) (m_dogs : Int32) (m_gone : Int32) (m_sights : Int32) (m_drawn : Int32) (m_house : Nat → Int32) (m_line : Nat → Int32) (x1 : Int32) (r : Int32) (hf : f_X9_changesOf m_cells m_wide m_house m_line x1 = some r) (sz : Nat) : Met l yX9_changesOf (Cond.code yX9_changesOf cX9_changesOf 4 (some .int) :: lw_good) rm_X9_changesOf (PreX D cA [.ref (b 0), .int x1] sz (wl_X9_changesOf cA b m_latest m_cells m_wide m_houses m_bowls m_dogs m_gone m_sights m_drawn m_house m_line)) (PostI D r (wl_X9_changesOf cA b m_latest m_cells m_wide m_houses m_bowls m_dogs m_gone m_sights m_drawn m_house m_line) (wl_X9_changesOf cA b m_latest m_cells m_wide m_houses m_bowls m_dogs m_gone m_sights m_drawn m_house m_line) sz) 0 0 (va_A (wl_X9_changesOf cA b m_latest m_cells m_wide m_houses m_bowls m_dogs m_gone m_sights m_drawn m_house m_line) sz) :=
  met_of (by decide) (Nat.le_of_ble_eq_true rfl) (fun p e s m args below meth c C hr hlk hA => k_X9_changesOf C hr hlk hA b m_latest m_cells m_wide m_houses m_bowls m_dogs m_gone m_sights m_drawn m_house m_line x1 r hf)
end

abbrev wl_X9_changes (cA : Nat → ClassId) (b : Nat → Nat) (m_latest : Int32) (m_cells : Int32) (m_wide : Int32) (m_houses : Int32) (m_bowls : Int32) (m_dogs : Int32) (m_gone : Int32) (m_sights : Int32) (m_drawn : Int32) (m_bytes : Nat → Int32) (m_typed : Nat → Int32) (m_cell : Nat → Int32) (m_house : Nat → Int32) (m_settings : Nat → Int32) (m_bowl : Nat → Int32) (m_dog : Nat → Int32) (m_path : Nat → Int32) (m_steps : Nat → Int32) (m_line : Nat → Int32) : va_W := [((b 0), .inr (9, [.ref (b 1), .ref (b 2), .ref (b 3), .ref (b 4), .int m_latest, .ref (b 5), .ref (b 6), .int m_cells, .int m_wide, .ref (b 7), .int m_houses, .ref (b 8), .ref (b 9), .int m_bowls, .ref (b 10), .int m_dogs, .ref (b 11), .int m_gone, .ref (b 12), .ref (b 13), .ref (b 14), .int m_sights, .ref (b 15), .ref (b 16), .int m_drawn])), ((b 5), .inl (cA 0, 84, .inl m_bytes)), ((b 6), .inl (cA 0, 2, .inl m_typed)), ((b 7), .inl (cA 0, 36, .inl m_cell)), ((b 8), .inl (cA 0, 16, .inl m_house)), ((b 9), .inl (cA 0, 2, .inl m_settings)), ((b 10), .inl (cA 0, 20, .inl m_bowl)), ((b 11), .inl (cA 0, 16, .inl m_dog)), ((b 12), .inl (cA 0, 250, .inl m_path)), ((b 13), .inl (cA 0, 10, .inl m_steps)), ((b 14), .inl (cA 0, 60, .inl m_line))]
abbrev rm_X9_changes : Room := { frames := 6, cells := 0, slots := 0, locals := 147 }
section
variable {p : Program} {l : Launch} {e : Env} {s : State} {m : MethodId} {args : Array Value} {below : List Frame} {meth : Method} {c : Code} {D : va_G} {cA : Nat → ClassId} {ws0 : va_W} {sz : Nat} {A : Nat → Prop} {Q : State → Prop}
def f_X9_changes (m_cells : Int32) (m_wide : Int32) (m_houses : Int32) (m_bowls : Int32) (m_dogs : Int32) (m_gone : Int32) (m_bytes : Nat → Int32) (m_typed : Nat → Int32) (m_cell : Nat → Int32) (m_house : Nat → Int32) (m_settings : Nat → Int32) (m_bowl : Nat → Int32) (m_dog : Nat → Int32) (m_path : Nat → Int32) (m_steps : Nat → Int32) (m_line : Nat → Int32) (x1 : Int32) : Option (Int32 × Int32 × Int32 × Int32 × (Nat → Int32) × (Nat → Int32) × (Nat → Int32) × (Nat → Int32) × (Nat → Int32)) :=
  bind8 (f_X9_find m_cells m_wide m_houses m_bowls m_dogs m_gone m_bytes m_typed m_cell m_house m_settings m_bowl m_dog m_path m_steps m_line) (fun c1 c2 c3 c4 c5 c6 c7 c8 => bind1 (f_X9_isHouse c3 x1) (fun r9 => if r9 = 0 then (some ((-2 : Int32), c1, c2, c3, c4, c5, c6, c7, c8)) else (bind1 (f_X9_changesOf c1 c2 c5 c8 x1) (fun r10 => some (r10, c1, c2, c3, c4, c5, c6, c7, c8)))))
set_option maxHeartbeats 4000000 in
set_option maxRecDepth 100000 in
theorem k_X9_changes (C : Cx RX9 cX9_changes 2 D cA p s m args c) (hr : meth.sig.returnType = (some .int)) (hlk : meth.locks = false) (hA : ∀ q, s.heap.size ≤ q → va_A ws0 sz q) (b : Nat → Nat) (m_latest : Int32) (m_cells : Int32) (m_wide : Int32) (m_houses : Int32) (m_bowls : Int32) (m_dogs : Int32) (m_gone : Int32) (m_sights : Int32) (m_drawn : Int32) (m_bytes : Nat → Int32) (m_typed : Nat → Int32) (m_cell : Nat → Int32) (m_house : Nat → Int32) (m_settings : Nat → Int32) (m_bowl : Nat → Int32) (m_dog : Nat → Int32) (m_path : Nat → Int32) (m_steps : Nat → Int32) (m_line : Nat → Int32) (x1 : Int32) (r : Int32 × Int32 × Int32 × Int32 × (Nat → Int32) × (Nat → Int32) × (Nat → Int32) × (Nat → Int32) × (Nat → Int32)) (hf : f_X9_changes m_cells m_wide m_houses m_bowls m_dogs m_gone m_bytes m_typed m_cell m_house m_settings m_bowl m_dog m_path m_steps m_line x1 = some r) : At p l e rm_X9_changes s m args below meth c D (va_A ws0 sz) 0 0 (MQ below (PostI D r.1 ws0 (wl_X9_changes cA b m_latest (r.2.1) (r.2.2.1) (r.2.2.2.1) m_bowls m_dogs m_gone m_sights m_drawn m_bytes m_typed (r.2.2.2.2.1) (r.2.2.2.2.2.1) m_settings m_bowl m_dog (r.2.2.2.2.2.2.1) (r.2.2.2.2.2.2.2.1) (r.2.2.2.2.2.2.2.2)) sz) args s 0 0 (va_A ws0 sz)) 2 0 (wl_X9_changes cA b m_latest m_cells m_wide m_houses m_bowls m_dogs m_gone m_sights m_drawn m_bytes m_typed m_cell m_house m_settings m_bowl m_dog m_path m_steps m_line) [(0, .ref (b 0)), (1, .int x1)] [] := by
  intro H locs ls hP hD hS hl
  have hx := C.1
  have hb := C.2.1
  have hown := C.2.2.2.1
  have hts := C.2.2.2.2.1
  unfold f_X9_changes at hf
  refine lv_aload_n (pc := 0) hx hb dX9_changes_0 rfl (lv_at hl 0 rfl) ?_
  obtain ⟨c1, c2, c3, c4, c5, c6, c7, c8, hq, hf⟩ := bind8_some hf
  refine fin2_v (wl_X9_changes cA b m_latest c1 c2 c3 m_bowls m_dogs m_gone m_sights m_drawn m_bytes m_typed c4 c5 m_settings m_bowl m_dog c6 c7 c8) (run_V (rest := []) (pc := 1) (As := []) C mf_X9_184 (c_X9_find l D cA b m_latest m_cells m_wide m_houses m_bowls m_dogs m_gone m_sights m_drawn m_bytes m_typed m_cell m_house m_settings m_bowl m_dog m_path m_steps m_line (c1, c2, c3, c4, c5, c6, c7, c8) hq H.size) rfl rfl ⟨(Nat.le_of_ble_eq_true rfl), (Nat.le_of_ble_eq_true rfl)⟩ (preV_of C hP hD [0, 1, 2, 3, 4, 5, 6, 7, 8, 9, 10] rfl (pl_nd pv_138) 0 rfl rfl rfl) rfl hl.1 rfl (Nat.le_of_ble_eq_true rfl) dX9_changes_1 ⟨Nat.zero_le _, Nat.zero_le _⟩) hP hD hS hA [0, 1, 2, 3, 4, 5, 6, 7, 8, 9, 10] [] rfl rfl rfl rfl pv_138 (fun H locs hP hS => ?_)
  have hD : va_D (va_A ws0 sz) (wl_X9_changes cA b m_latest c1 c2 c3 m_bowls m_dogs m_gone m_sights m_drawn m_bytes m_typed c4 c5 m_settings m_bowl m_dog c6 c7 c8) := vd_a hD rfl
  refine lv_aload_n (pc := 4) hx hb dX9_changes_4 rfl (lv_at hl 0 rfl) ?_
  refine lv_iload_n (pc := 5) hx hb dX9_changes_5 rfl (lv_at hl 1 rfl) ?_
  obtain ⟨r9, hq, hf⟩ := bind1_some hf
  refine fin2_i (wl_X9_changes cA b m_latest c1 c2 c3 m_bowls m_dogs m_gone m_sights m_drawn m_bytes m_typed c4 c5 m_settings m_bowl m_dog c6 c7 c8) (run_V (rest := []) (pc := 6) (As := [.int x1]) C mf_X9_126 (c_X9_isHouse l D cA b m_latest c1 c2 c3 m_bowls m_dogs m_gone m_sights m_drawn x1 r9 hq H.size) rfl rfl ⟨(Nat.le_of_ble_eq_true rfl), (Nat.le_of_ble_eq_true rfl)⟩ (preV_of C hP hD [0] rfl (pl_nd pv_142) 0 rfl rfl rfl) rfl hl.1 rfl (Nat.le_of_ble_eq_true rfl) dX9_changes_6 ⟨Nat.zero_le _, Nat.zero_le _⟩) hP hD hS hA [0] [1, 2, 3, 4, 5, 6, 7, 8, 9, 10] rfl rfl rfl rfl pv_142 (fun H locs hP hS => ?_)
  refine lv_if_eq (pc := 9) (tgt := 20) hx hb dX9_changes_9 (by decide) (fun hc => ?_) (fun hc => ?_)
  · have hf := (if_pos hc).symm.trans hf
    refine lv_bipush (pc := 20) (v := (-2)) hx hb dX9_changes_20 bp_m2 ?_
    have hf := Option.some.inj hf
    subst hf
    exact ret_i C hr hlk hP hS dX9_changes_22
  · have hf := (if_neg hc).symm.trans hf
    refine lv_aload_n (pc := 12) hx hb dX9_changes_12 rfl (lv_at hl 0 rfl) ?_
    refine lv_iload_n (pc := 13) hx hb dX9_changes_13 rfl (lv_at hl 1 rfl) ?_
    obtain ⟨r10, hq, hf⟩ := bind1_some hf
    refine fin2_i (wl_X9_changes cA b m_latest c1 c2 c3 m_bowls m_dogs m_gone m_sights m_drawn m_bytes m_typed c4 c5 m_settings m_bowl m_dog c6 c7 c8) (run_V (rest := []) (pc := 14) (As := [.int x1]) C mf_X9_201 (c_X9_changesOf l D cA b m_latest c1 c2 c3 m_bowls m_dogs m_gone m_sights m_drawn c5 c8 x1 r10 hq H.size) rfl rfl ⟨(Nat.le_of_ble_eq_true rfl), (Nat.le_of_ble_eq_true rfl)⟩ (preV_of C hP hD [0, 4, 10] rfl (pl_nd pv_145) 0 rfl rfl rfl) rfl hl.1 rfl (Nat.le_of_ble_eq_true rfl) dX9_changes_14 ⟨Nat.zero_le _, Nat.zero_le _⟩) hP hD hS hA [0, 4, 10] [1, 2, 3, 5, 6, 7, 8, 9] rfl rfl rfl rfl pv_145 (fun H locs hP hS => ?_)
    refine lv_goto (pc := 17) (tgt := 22) hx hb dX9_changes_17 (by decide) ?_
    have hf := Option.some.inj hf
    subst hf
    exact ret_i C hr hlk hP hS dX9_changes_22
set_option maxRecDepth 100000 in
theorem c_X9_changes (l : Launch) (D : va_G) (cA : Nat → ClassId) (b : Nat → Nat) (m_latest : Int32) (m_cells : Int32) (m_wide : Int32) (m_houses : Int32) (m_bowls : Int32) (m_dogs : Int32) (m_gone : Int32) (m_sights : Int32) (m_drawn : Int32) (m_bytes : Nat → Int32) (m_typed : Nat → Int32) (m_cell : Nat → Int32) (m_house : Nat → Int32) (m_settings : Nat → Int32) (m_bowl : Nat → Int32) (m_dog : Nat → Int32) (m_path : Nat → Int32) (m_steps : Nat → Int32) (m_line : Nat → Int32) (x1 : Int32) (r : Int32 × Int32 × Int32 × Int32 × (Nat → Int32) × (Nat → Int32) × (Nat → Int32) × (Nat → Int32) × (Nat → Int32)) (hf : f_X9_changes m_cells m_wide m_houses m_bowls m_dogs m_gone m_bytes m_typed m_cell m_house m_settings m_bowl m_dog m_path m_steps m_line x1 = some r) (sz : Nat) : Met l yX9_changes (Cond.code yX9_changes cX9_changes 2 (some .int) :: lw_good) rm_X9_changes (PreX D cA [.ref (b 0), .int x1] sz (wl_X9_changes cA b m_latest m_cells m_wide m_houses m_bowls m_dogs m_gone m_sights m_drawn m_bytes m_typed m_cell m_house m_settings m_bowl m_dog m_path m_steps m_line)) (PostI D r.1 (wl_X9_changes cA b m_latest m_cells m_wide m_houses m_bowls m_dogs m_gone m_sights m_drawn m_bytes m_typed m_cell m_house m_settings m_bowl m_dog m_path m_steps m_line) (wl_X9_changes cA b m_latest (r.2.1) (r.2.2.1) (r.2.2.2.1) m_bowls m_dogs m_gone m_sights m_drawn m_bytes m_typed (r.2.2.2.2.1) (r.2.2.2.2.2.1) m_settings m_bowl m_dog (r.2.2.2.2.2.2.1) (r.2.2.2.2.2.2.2.1) (r.2.2.2.2.2.2.2.2)) sz) 0 0 (va_A (wl_X9_changes cA b m_latest m_cells m_wide m_houses m_bowls m_dogs m_gone m_sights m_drawn m_bytes m_typed m_cell m_house m_settings m_bowl m_dog m_path m_steps m_line) sz) :=
  met_of (by decide) (Nat.le_of_ble_eq_true rfl) (fun p e s m args below meth c C hr hlk hA => k_X9_changes C hr hlk hA b m_latest m_cells m_wide m_houses m_bowls m_dogs m_gone m_sights m_drawn m_bytes m_typed m_cell m_house m_settings m_bowl m_dog m_path m_steps m_line x1 r hf)
end

abbrev wl_X9_taxesOf (cA : Nat → ClassId) (b : Nat → Nat) (m_latest : Int32) (m_cells : Int32) (m_wide : Int32) (m_houses : Int32) (m_bowls : Int32) (m_dogs : Int32) (m_gone : Int32) (m_sights : Int32) (m_drawn : Int32) (m_house : Nat → Int32) (m_line : Nat → Int32) : va_W := [((b 0), .inr (9, [.ref (b 1), .ref (b 2), .ref (b 3), .ref (b 4), .int m_latest, .ref (b 5), .ref (b 6), .int m_cells, .int m_wide, .ref (b 7), .int m_houses, .ref (b 8), .ref (b 9), .int m_bowls, .ref (b 10), .int m_dogs, .ref (b 11), .int m_gone, .ref (b 12), .ref (b 13), .ref (b 14), .int m_sights, .ref (b 15), .ref (b 16), .int m_drawn])), ((b 8), .inl (cA 0, 16, .inl m_house)), ((b 14), .inl (cA 0, 60, .inl m_line))]
abbrev rm_X9_taxesOf : Room := { frames := 3, cells := 0, slots := 0, locals := 68 }
section
variable {p : Program} {l : Launch} {e : Env} {s : State} {m : MethodId} {args : Array Value} {below : List Frame} {meth : Method} {c : Code} {D : va_G} {cA : Nat → ClassId} {ws0 : va_W} {sz : Nat} {A : Nat → Prop} {Q : State → Prop}
def f_X9_taxesOf_b51L14 (m_cells : Int32) (m_wide : Int32) (m_houses : Int32) (m_house : Nat → Int32) (m_line : Nat → Int32) (x2 : Int32) (x4 : Int32) (x5 : Int32) (s0 : Int32) (s1 : Int32) : Option ((Int32 × Int32) ⊕ (Int32)) :=
  letv ((s1 + s0)) (fun v2 => some (.inl (v2, (x5 + 1))))
set_option maxHeartbeats 4000000 in
set_option maxRecDepth 100000 in
theorem k_X9_taxesOf_b51L14 (C : Cx RX9 cX9_taxesOf 6 D cA p s m args c) (hA : ∀ q, s.heap.size ≤ q → A q) (b : Nat → Nat) (m_latest : Int32) (m_cells : Int32) (m_wide : Int32) (m_houses : Int32) (m_bowls : Int32) (m_dogs : Int32) (m_gone : Int32) (m_sights : Int32) (m_drawn : Int32) (m_house : Nat → Int32) (m_line : Nat → Int32) (x1 : Int32) (x2 : Int32) (x4 : Int32) (x5 : Int32) (s0 : Int32) (s1 : Int32) (r : (Int32 × Int32) ⊕ (Int32)) (hf : f_X9_taxesOf_b51L14 m_cells m_wide m_houses m_house m_line x2 x4 x5 s0 s1 = some r) (hK : Sum.elim (fun q : Int32 × Int32 => At p l e rm_X9_taxesOf s m args below meth c D A 0 0 Q 6 14 (wl_X9_taxesOf cA b m_latest m_cells m_wide m_houses m_bowls m_dogs m_gone m_sights m_drawn m_house m_line) [(0, .ref (b 0)), (1, .int x1), (2, .int x2), (3, .int (q.1)), (4, .int x4), (5, .int (q.2))] []) (fun q : Int32 => At p l e rm_X9_taxesOf s m args below meth c D A 0 0 Q 6 59 (wl_X9_taxesOf cA b m_latest m_cells m_wide m_houses m_bowls m_dogs m_gone m_sights m_drawn m_house m_line) [(0, .ref (b 0)), (1, .int x1), (2, .int x2), (3, .int q), (4, .int x4)] []) r) : At p l e rm_X9_taxesOf s m args below meth c D A 0 0 Q 6 51 (wl_X9_taxesOf cA b m_latest m_cells m_wide m_houses m_bowls m_dogs m_gone m_sights m_drawn m_house m_line) [(0, .ref (b 0)), (1, .int x1), (2, .int x2), (4, .int x4), (5, .int x5)] [.int s0, .int s1] := by
  intro H locs ls hP hD hS hl
  have hx := C.1
  have hb := C.2.1
  have hown := C.2.2.2.1
  have hts := C.2.2.2.2.1
  unfold f_X9_taxesOf_b51L14 at hf
  refine lv_iadd (pc := 51) hx hb dX9_taxesOf_51 ?_
  obtain ⟨v2, e_v2, hf⟩ := letv_some hf
  refine tp_i e_v2 ?_
  refine lv_istore_n (pc := 52) (lv' := [(3, .int v2), (0, .ref (b 0)), (1, .int x1), (2, .int x2), (4, .int x4), (5, .int x5)]) hx hb dX9_taxesOf_52 rfl hl (Nat.le_of_ble_eq_true rfl) rfl (fun ls hl => ?_)
  refine lv_iinc (pc := 53) (v := (x5 + 1)) (lv' := [(5, .int (x5 + 1)), (3, .int v2), (0, .ref (b 0)), (1, .int x1), (2, .int x2), (4, .int x4)]) hx hb dX9_taxesOf_53 hl (k := 5) rfl rfl (Nat.le_of_ble_eq_true rfl) rfl (fun ls hl => ?_)
  refine lv_goto (pc := 56) (tgt := 14) hx hb dX9_taxesOf_56 (by decide) ?_
  have hf := Option.some.inj hf
  subst hf
  exact hK H locs ls hP hD hS (lv_sub hl [2, 3, 4, 1, 5, 0] rfl)
def f_X9_taxesOf_L14 (m_cells : Int32) (m_wide : Int32) (m_houses : Int32) (m_house : Nat → Int32) (m_line : Nat → Int32) (x2 : Int32) (x4 : Int32) (x3 : Int32) (x5 : Int32) : Option ((Int32 × Int32) ⊕ (Int32)) :=
  if m_houses ≤ x5 then (some (.inr x3)) else (bind1 (f_X9_liesOf m_cells m_wide m_house m_line x4 x5) (fun r1 => if r1 = x2 then (gd (inb (((2 : Int32) * x5) + (1 : Int32)) 16) (f_X9_taxesOf_b51L14 m_cells m_wide m_houses m_house m_line x2 x4 x5 (m_house (((2 : Int32) * x5) + (1 : Int32)).toNatClampNeg) x3)) else (f_X9_taxesOf_b51L14 m_cells m_wide m_houses m_house m_line x2 x4 x5 (0 : Int32) x3)))
set_option maxHeartbeats 4000000 in
set_option maxRecDepth 100000 in
theorem k_X9_taxesOf_L14 (C : Cx RX9 cX9_taxesOf 6 D cA p s m args c) (hA : ∀ q, s.heap.size ≤ q → A q) (b : Nat → Nat) (m_latest : Int32) (m_cells : Int32) (m_wide : Int32) (m_houses : Int32) (m_bowls : Int32) (m_dogs : Int32) (m_gone : Int32) (m_sights : Int32) (m_drawn : Int32) (m_house : Nat → Int32) (m_line : Nat → Int32) (x1 : Int32) (x2 : Int32) (x4 : Int32) (x3 : Int32) (x5 : Int32) (r : (Int32 × Int32) ⊕ (Int32)) (hf : f_X9_taxesOf_L14 m_cells m_wide m_houses m_house m_line x2 x4 x3 x5 = some r) (hK : Sum.elim (fun q : Int32 × Int32 => At p l e rm_X9_taxesOf s m args below meth c D A 0 0 Q 6 14 (wl_X9_taxesOf cA b m_latest m_cells m_wide m_houses m_bowls m_dogs m_gone m_sights m_drawn m_house m_line) [(0, .ref (b 0)), (1, .int x1), (2, .int x2), (3, .int (q.1)), (4, .int x4), (5, .int (q.2))] []) (fun q : Int32 => At p l e rm_X9_taxesOf s m args below meth c D A 0 0 Q 6 59 (wl_X9_taxesOf cA b m_latest m_cells m_wide m_houses m_bowls m_dogs m_gone m_sights m_drawn m_house m_line) [(0, .ref (b 0)), (1, .int x1), (2, .int x2), (3, .int q), (4, .int x4)] []) r) : At p l e rm_X9_taxesOf s m args below meth c D A 0 0 Q 6 14 (wl_X9_taxesOf cA b m_latest m_cells m_wide m_houses m_bowls m_dogs m_gone m_sights m_drawn m_house m_line) [(0, .ref (b 0)), (1, .int x1), (2, .int x2), (3, .int x3), (4, .int x4), (5, .int x5)] [] := by
  intro H locs ls hP hD hS hl
  have hx := C.1
  have hb := C.2.1
  have hown := C.2.2.2.1
  have hts := C.2.2.2.2.1
  unfold f_X9_taxesOf_L14 at hf
  refine lv_iload (pc := 14) hx hb dX9_taxesOf_14 (lv_at hl 5 rfl) ?_
  refine lv_aload_n (pc := 16) hx hb dX9_taxesOf_16 rfl (lv_at hl 0 rfl) ?_
  refine g_get (pc := 17) C fg_X9_106 hP 0 rfl rfl dX9_taxesOf_17 ?_
  refine lv_icmp_ge (pc := 20) (tgt := 59) hx hb dX9_taxesOf_20 (by decide) (fun hc => ?_) (fun hc => ?_)
  · have hf := (if_pos hc).symm.trans hf
    have hf := Option.some.inj hf
    subst hf
    exact hK H locs ls hP hD hS (lv_sub hl [0, 1, 2, 3, 4] rfl)
  · have hf := (if_neg hc).symm.trans hf
    refine lv_iload_n (pc := 23) hx hb dX9_taxesOf_23 rfl (lv_at hl 3 rfl) ?_
    refine lv_aload_n (pc := 24) hx hb dX9_taxesOf_24 rfl (lv_at hl 0 rfl) ?_
    refine lv_iload (pc := 25) hx hb dX9_taxesOf_25 (lv_at hl 4 rfl) ?_
    refine lv_iload (pc := 27) hx hb dX9_taxesOf_27 (lv_at hl 5 rfl) ?_
    obtain ⟨r1, hq, hf⟩ := bind1_some hf
    refine fin2_i (wl_X9_taxesOf cA b m_latest m_cells m_wide m_houses m_bowls m_dogs m_gone m_sights m_drawn m_house m_line) (run_V (rest := [.int x3]) (pc := 29) (As := [.int x4, .int x5]) C mf_X9_198 (c_X9_liesOf l D cA b m_latest m_cells m_wide m_houses m_bowls m_dogs m_gone m_sights m_drawn m_house m_line x4 x5 r1 hq H.size) rfl rfl ⟨(Nat.le_of_ble_eq_true rfl), (Nat.le_of_ble_eq_true rfl)⟩ (preV_of C hP hD [0, 1, 2] rfl (pl_nd pv_146) 0 rfl rfl rfl) rfl hl.1 rfl (Nat.le_of_ble_eq_true rfl) dX9_taxesOf_29 ⟨Nat.zero_le _, Nat.zero_le _⟩) hP hD hS hA [0, 1, 2] [] rfl rfl rfl rfl pv_146 (fun H locs hP hS => ?_)
    refine lv_iload_n (pc := 32) hx hb dX9_taxesOf_32 rfl (lv_at hl 2 rfl) ?_
    refine lv_icmp_ne (pc := 33) (tgt := 50) hx hb dX9_taxesOf_33 (by decide) (fun hc => ?_) (fun hc => ?_)
    · have hf := (if_neg hc).symm.trans hf
      refine lv_iconst (pc := 50) (v := 0) hx hb dX9_taxesOf_50 ic_0 ?_
      exact k_X9_taxesOf_b51L14 C hA b m_latest m_cells m_wide m_houses m_bowls m_dogs m_gone m_sights m_drawn m_house m_line x1 x2 x4 x5 (0 : Int32) x3 r hf hK H locs ls hP hD hS (lv_sub hl [0, 1, 2, 4, 5] rfl)
    · have hf := (if_pos hc).symm.trans hf
      refine lv_aload_n (pc := 36) hx hb dX9_taxesOf_36 rfl (lv_at hl 0 rfl) ?_
      refine g_get (pc := 37) C fg_X9_31 hP 0 rfl rfl dX9_taxesOf_37 ?_
      refine lv_iconst (pc := 40) (v := 2) hx hb dX9_taxesOf_40 ic_2 ?_
      refine lv_iload (pc := 41) hx hb dX9_taxesOf_41 (lv_at hl 5 rfl) ?_
      refine lv_imul (pc := 43) hx hb dX9_taxesOf_43 ?_
      refine lv_iconst (pc := 44) (v := 1) hx hb dX9_taxesOf_44 ic_1 ?_
      refine lv_iadd (pc := 45) hx hb dX9_taxesOf_45 ?_
      obtain ⟨hg, hf⟩ := gd_some hf
      refine g_iald (pc := 46) C hP 1 rfl hg dX9_taxesOf_46 ?_
      refine lv_goto (pc := 47) (tgt := 51) hx hb dX9_taxesOf_47 (by decide) ?_
      exact k_X9_taxesOf_b51L14 C hA b m_latest m_cells m_wide m_houses m_bowls m_dogs m_gone m_sights m_drawn m_house m_line x1 x2 x4 x5 (m_house (((2 : Int32) * x5) + (1 : Int32)).toNatClampNeg) x3 r hf hK H locs ls hP hD hS (lv_sub hl [0, 1, 2, 4, 5] rfl)
theorem kl_X9_taxesOf_L14 (C : Cx RX9 cX9_taxesOf 6 D cA p s m args c) (hA : ∀ q, s.heap.size ≤ q → A q) (b : Nat → Nat) (m_latest : Int32) (m_cells : Int32) (m_wide : Int32) (m_houses : Int32) (m_bowls : Int32) (m_dogs : Int32) (m_gone : Int32) (m_sights : Int32) (m_drawn : Int32) (m_house : Nat → Int32) (m_line : Nat → Int32) (x1 : Int32) (x2 : Int32) (x4 : Int32) : ∀ (n : Nat) (q : Int32 × Int32) (z : (Int32)), loopF (fun q : Int32 × Int32 => f_X9_taxesOf_L14 m_cells m_wide m_houses m_house m_line x2 x4 q.1 q.2) n q = some z → (fun q : Int32 => At p l e rm_X9_taxesOf s m args below meth c D A 0 0 Q 6 59 (wl_X9_taxesOf cA b m_latest m_cells m_wide m_houses m_bowls m_dogs m_gone m_sights m_drawn m_house m_line) [(0, .ref (b 0)), (1, .int x1), (2, .int x2), (3, .int q), (4, .int x4)] []) z → At p l e rm_X9_taxesOf s m args below meth c D A 0 0 Q 6 14 (wl_X9_taxesOf cA b m_latest m_cells m_wide m_houses m_bowls m_dogs m_gone m_sights m_drawn m_house m_line) [(0, .ref (b 0)), (1, .int x1), (2, .int x2), (3, .int (q.1)), (4, .int x4), (5, .int (q.2))] [] :=
  loop_lem (WP := fun q : Int32 × Int32 => At p l e rm_X9_taxesOf s m args below meth c D A 0 0 Q 6 14 (wl_X9_taxesOf cA b m_latest m_cells m_wide m_houses m_bowls m_dogs m_gone m_sights m_drawn m_house m_line) [(0, .ref (b 0)), (1, .int x1), (2, .int x2), (3, .int (q.1)), (4, .int x4), (5, .int (q.2))] []) (WE := (fun q : Int32 => At p l e rm_X9_taxesOf s m args below meth c D A 0 0 Q 6 59 (wl_X9_taxesOf cA b m_latest m_cells m_wide m_houses m_bowls m_dogs m_gone m_sights m_drawn m_house m_line) [(0, .ref (b 0)), (1, .int x1), (2, .int x2), (3, .int q), (4, .int x4)] [])) (fun q r hf hK => k_X9_taxesOf_L14 C hA b m_latest m_cells m_wide m_houses m_bowls m_dogs m_gone m_sights m_drawn m_house m_line x1 x2 x4 q.1 q.2 r hf hK)
def f_X9_taxesOf_L5 (m_cells : Int32) (m_wide : Int32) (m_houses : Int32) (m_house : Nat → Int32) (m_line : Nat → Int32) (x1 : Int32) (x2 : Int32) (x3 : Int32) (x4 : Int32) : Option ((Int32 × Int32) ⊕ (Int32)) :=
  if x1 < x4 then (some (.inr x3)) else (bind1 (loopF (fun q : Int32 × Int32 => f_X9_taxesOf_L14 m_cells m_wide m_houses m_house m_line x2 x4 q.1 q.2) FU (x3, (0 : Int32))) (fun u3 => some (.inl (u3, (x4 + 1)))))
set_option maxHeartbeats 4000000 in
set_option maxRecDepth 100000 in
theorem k_X9_taxesOf_L5 (C : Cx RX9 cX9_taxesOf 6 D cA p s m args c) (hA : ∀ q, s.heap.size ≤ q → A q) (b : Nat → Nat) (m_latest : Int32) (m_cells : Int32) (m_wide : Int32) (m_houses : Int32) (m_bowls : Int32) (m_dogs : Int32) (m_gone : Int32) (m_sights : Int32) (m_drawn : Int32) (m_house : Nat → Int32) (m_line : Nat → Int32) (x1 : Int32) (x2 : Int32) (x3 : Int32) (x4 : Int32) (r : (Int32 × Int32) ⊕ (Int32)) (hf : f_X9_taxesOf_L5 m_cells m_wide m_houses m_house m_line x1 x2 x3 x4 = some r) (hK : Sum.elim (fun q : Int32 × Int32 => At p l e rm_X9_taxesOf s m args below meth c D A 0 0 Q 6 5 (wl_X9_taxesOf cA b m_latest m_cells m_wide m_houses m_bowls m_dogs m_gone m_sights m_drawn m_house m_line) [(0, .ref (b 0)), (1, .int x1), (2, .int x2), (3, .int (q.1)), (4, .int (q.2))] []) (fun q : Int32 => At p l e rm_X9_taxesOf s m args below meth c D A 0 0 Q 6 65 (wl_X9_taxesOf cA b m_latest m_cells m_wide m_houses m_bowls m_dogs m_gone m_sights m_drawn m_house m_line) [(3, .int q)] []) r) : At p l e rm_X9_taxesOf s m args below meth c D A 0 0 Q 6 5 (wl_X9_taxesOf cA b m_latest m_cells m_wide m_houses m_bowls m_dogs m_gone m_sights m_drawn m_house m_line) [(0, .ref (b 0)), (1, .int x1), (2, .int x2), (3, .int x3), (4, .int x4)] [] := by
  intro H locs ls hP hD hS hl
  have hx := C.1
  have hb := C.2.1
  have hown := C.2.2.2.1
  have hts := C.2.2.2.2.1
  unfold f_X9_taxesOf_L5 at hf
  refine lv_iload (pc := 5) hx hb dX9_taxesOf_5 (lv_at hl 4 rfl) ?_
  refine lv_iload_n (pc := 7) hx hb dX9_taxesOf_7 rfl (lv_at hl 1 rfl) ?_
  refine lv_icmp_gt (pc := 8) (tgt := 65) hx hb dX9_taxesOf_8 (by decide) (fun hc => ?_) (fun hc => ?_)
  · have hf := (if_pos hc).symm.trans hf
    have hf := Option.some.inj hf
    subst hf
    exact hK H locs ls hP hD hS (lv_sub hl [3] rfl)
  · have hf := (if_neg hc).symm.trans hf
    refine lv_iconst (pc := 11) (v := 0) hx hb dX9_taxesOf_11 ic_0 ?_
    refine lv_istore (pc := 12) (lv' := [(5, .int (0 : Int32)), (0, .ref (b 0)), (1, .int x1), (2, .int x2), (3, .int x3), (4, .int x4)]) hx hb dX9_taxesOf_12 hl (Nat.le_of_ble_eq_true rfl) rfl (fun ls hl => ?_)
    obtain ⟨u3, hq, hf⟩ := bind1_some hf
    refine kl_X9_taxesOf_L14 C hA b m_latest m_cells m_wide m_houses m_bowls m_dogs m_gone m_sights m_drawn m_house m_line x1 x2 x4 FU (x3, (0 : Int32)) _ hq ?_ H locs ls hP hD hS (lv_sub hl [1, 2, 3, 4, 5, 0] rfl)
    intro H locs ls hP hD hS hl
    have hP : va_P D classes (wl_X9_taxesOf cA b m_latest m_cells m_wide m_houses m_bowls m_dogs m_gone m_sights m_drawn m_house m_line) H := hP
    have hD : va_D A (wl_X9_taxesOf cA b m_latest m_cells m_wide m_houses m_bowls m_dogs m_gone m_sights m_drawn m_house m_line) := hD
    have hl : lv_has ls 6 [(0, .ref (b 0)), (1, .int x1), (2, .int x2), (3, .int u3), (4, .int x4)] := hl
    refine lv_iinc (pc := 59) (v := (x4 + 1)) (lv' := [(4, .int (x4 + 1)), (0, .ref (b 0)), (1, .int x1), (2, .int x2), (3, .int u3)]) hx hb dX9_taxesOf_59 hl (k := 4) rfl rfl (Nat.le_of_ble_eq_true rfl) rfl (fun ls hl => ?_)
    refine lv_goto (pc := 62) (tgt := 5) hx hb dX9_taxesOf_62 (by decide) ?_
    have hf := Option.some.inj hf
    subst hf
    exact hK H locs ls hP hD hS (lv_sub hl [1, 2, 3, 4, 0] rfl)
theorem kl_X9_taxesOf_L5 (C : Cx RX9 cX9_taxesOf 6 D cA p s m args c) (hA : ∀ q, s.heap.size ≤ q → A q) (b : Nat → Nat) (m_latest : Int32) (m_cells : Int32) (m_wide : Int32) (m_houses : Int32) (m_bowls : Int32) (m_dogs : Int32) (m_gone : Int32) (m_sights : Int32) (m_drawn : Int32) (m_house : Nat → Int32) (m_line : Nat → Int32) (x1 : Int32) (x2 : Int32) : ∀ (n : Nat) (q : Int32 × Int32) (z : (Int32)), loopF (fun q : Int32 × Int32 => f_X9_taxesOf_L5 m_cells m_wide m_houses m_house m_line x1 x2 q.1 q.2) n q = some z → (fun q : Int32 => At p l e rm_X9_taxesOf s m args below meth c D A 0 0 Q 6 65 (wl_X9_taxesOf cA b m_latest m_cells m_wide m_houses m_bowls m_dogs m_gone m_sights m_drawn m_house m_line) [(3, .int q)] []) z → At p l e rm_X9_taxesOf s m args below meth c D A 0 0 Q 6 5 (wl_X9_taxesOf cA b m_latest m_cells m_wide m_houses m_bowls m_dogs m_gone m_sights m_drawn m_house m_line) [(0, .ref (b 0)), (1, .int x1), (2, .int x2), (3, .int (q.1)), (4, .int (q.2))] [] :=
  loop_lem (WP := fun q : Int32 × Int32 => At p l e rm_X9_taxesOf s m args below meth c D A 0 0 Q 6 5 (wl_X9_taxesOf cA b m_latest m_cells m_wide m_houses m_bowls m_dogs m_gone m_sights m_drawn m_house m_line) [(0, .ref (b 0)), (1, .int x1), (2, .int x2), (3, .int (q.1)), (4, .int (q.2))] []) (WE := (fun q : Int32 => At p l e rm_X9_taxesOf s m args below meth c D A 0 0 Q 6 65 (wl_X9_taxesOf cA b m_latest m_cells m_wide m_houses m_bowls m_dogs m_gone m_sights m_drawn m_house m_line) [(3, .int q)] [])) (fun q r hf hK => k_X9_taxesOf_L5 C hA b m_latest m_cells m_wide m_houses m_bowls m_dogs m_gone m_sights m_drawn m_house m_line x1 x2 q.1 q.2 r hf hK)
def f_X9_taxesOf (m_cells : Int32) (m_wide : Int32) (m_houses : Int32) (m_house : Nat → Int32) (m_line : Nat → Int32) (x1 : Int32) (x2 : Int32) : Option (Int32) :=
  bind1 (loopF (fun q : Int32 × Int32 => f_X9_taxesOf_L5 m_cells m_wide m_houses m_house m_line x1 x2 q.1 q.2) FU ((0 : Int32), (0 : Int32))) (fun u4 => some u4)
set_option maxHeartbeats 4000000 in
set_option maxRecDepth 100000 in
theorem k_X9_taxesOf (C : Cx RX9 cX9_taxesOf 6 D cA p s m args c) (hr : meth.sig.returnType = (some .int)) (hlk : meth.locks = false) (hA : ∀ q, s.heap.size ≤ q → va_A ws0 sz q) (b : Nat → Nat) (m_latest : Int32) (m_cells : Int32) (m_wide : Int32) (m_houses : Int32) (m_bowls : Int32) (m_dogs : Int32) (m_gone : Int32) (m_sights : Int32) (m_drawn : Int32) (m_house : Nat → Int32) (m_line : Nat → Int32) (x1 : Int32) (x2 : Int32) (r : Int32) (hf : f_X9_taxesOf m_cells m_wide m_houses m_house m_line x1 x2 = some r) : At p l e rm_X9_taxesOf s m args below meth c D (va_A ws0 sz) 0 0 (MQ below (PostI D r ws0 (wl_X9_taxesOf cA b m_latest m_cells m_wide m_houses m_bowls m_dogs m_gone m_sights m_drawn m_house m_line) sz) args s 0 0 (va_A ws0 sz)) 6 0 (wl_X9_taxesOf cA b m_latest m_cells m_wide m_houses m_bowls m_dogs m_gone m_sights m_drawn m_house m_line) [(0, .ref (b 0)), (1, .int x1), (2, .int x2)] [] := by
  intro H locs ls hP hD hS hl
  have hx := C.1
  have hb := C.2.1
  have hown := C.2.2.2.1
  have hts := C.2.2.2.2.1
  unfold f_X9_taxesOf at hf
  refine lv_iconst (pc := 0) (v := 0) hx hb dX9_taxesOf_0 ic_0 ?_
  refine lv_istore_n (pc := 1) (lv' := [(3, .int (0 : Int32)), (0, .ref (b 0)), (1, .int x1), (2, .int x2)]) hx hb dX9_taxesOf_1 rfl hl (Nat.le_of_ble_eq_true rfl) rfl (fun ls hl => ?_)
  refine lv_iconst (pc := 2) (v := 0) hx hb dX9_taxesOf_2 ic_0 ?_
  refine lv_istore (pc := 3) (lv' := [(4, .int (0 : Int32)), (3, .int (0 : Int32)), (0, .ref (b 0)), (1, .int x1), (2, .int x2)]) hx hb dX9_taxesOf_3 hl (Nat.le_of_ble_eq_true rfl) rfl (fun ls hl => ?_)
  obtain ⟨u4, hq, hf⟩ := bind1_some hf
  refine kl_X9_taxesOf_L5 C hA b m_latest m_cells m_wide m_houses m_bowls m_dogs m_gone m_sights m_drawn m_house m_line x1 x2 FU ((0 : Int32), (0 : Int32)) _ hq ?_ H locs ls hP hD hS (lv_sub hl [2, 3, 4, 1, 0] rfl)
  intro H locs ls hP hD hS hl
  have hP : va_P D classes (wl_X9_taxesOf cA b m_latest m_cells m_wide m_houses m_bowls m_dogs m_gone m_sights m_drawn m_house m_line) H := hP
  have hD : va_D (va_A ws0 sz) (wl_X9_taxesOf cA b m_latest m_cells m_wide m_houses m_bowls m_dogs m_gone m_sights m_drawn m_house m_line) := hD
  have hl : lv_has ls 6 [(3, .int u4)] := hl
  refine lv_iload_n (pc := 65) hx hb dX9_taxesOf_65 rfl (lv_at hl 0 rfl) ?_
  have hf := Option.some.inj hf
  subst hf
  exact ret_i C hr hlk hP hS dX9_taxesOf_66
set_option maxRecDepth 100000 in
theorem c_X9_taxesOf (l : Launch) (D : va_G) (cA : Nat → ClassId) (b : Nat → Nat) (m_latest : Int32) (m_cells : Int32) (m_wide : Int32) (m_houses : Int32) (m_bowls : Int32) (m_dogs : Int32) (m_gone : Int32) (m_sights : Int32) (m_drawn : Int32) (m_house : Nat → Int32) (m_line : Nat → Int32) (x1 : Int32) (x2 : Int32) (r : Int32) (hf : f_X9_taxesOf m_cells m_wide m_houses m_house m_line x1 x2 = some r) (sz : Nat) : Met l yX9_taxesOf (Cond.code yX9_taxesOf cX9_taxesOf 6 (some .int) :: lw_good) rm_X9_taxesOf (PreX D cA [.ref (b 0), .int x1, .int x2] sz (wl_X9_taxesOf cA b m_latest m_cells m_wide m_houses m_bowls m_dogs m_gone m_sights m_drawn m_house m_line)) (PostI D r (wl_X9_taxesOf cA b m_latest m_cells m_wide m_houses m_bowls m_dogs m_gone m_sights m_drawn m_house m_line) (wl_X9_taxesOf cA b m_latest m_cells m_wide m_houses m_bowls m_dogs m_gone m_sights m_drawn m_house m_line) sz) 0 0 (va_A (wl_X9_taxesOf cA b m_latest m_cells m_wide m_houses m_bowls m_dogs m_gone m_sights m_drawn m_house m_line) sz) :=
  met_of (by decide) (Nat.le_of_ble_eq_true rfl) (fun p e s m args below meth c C hr hlk hA => k_X9_taxesOf C hr hlk hA b m_latest m_cells m_wide m_houses m_bowls m_dogs m_gone m_sights m_drawn m_house m_line x1 x2 r hf)
end

abbrev wl_X9_taxes (cA : Nat → ClassId) (b : Nat → Nat) (m_latest : Int32) (m_cells : Int32) (m_wide : Int32) (m_houses : Int32) (m_bowls : Int32) (m_dogs : Int32) (m_gone : Int32) (m_sights : Int32) (m_drawn : Int32) (m_bytes : Nat → Int32) (m_typed : Nat → Int32) (m_cell : Nat → Int32) (m_house : Nat → Int32) (m_settings : Nat → Int32) (m_bowl : Nat → Int32) (m_dog : Nat → Int32) (m_path : Nat → Int32) (m_steps : Nat → Int32) (m_line : Nat → Int32) : va_W := [((b 0), .inr (9, [.ref (b 1), .ref (b 2), .ref (b 3), .ref (b 4), .int m_latest, .ref (b 5), .ref (b 6), .int m_cells, .int m_wide, .ref (b 7), .int m_houses, .ref (b 8), .ref (b 9), .int m_bowls, .ref (b 10), .int m_dogs, .ref (b 11), .int m_gone, .ref (b 12), .ref (b 13), .ref (b 14), .int m_sights, .ref (b 15), .ref (b 16), .int m_drawn])), ((b 5), .inl (cA 0, 84, .inl m_bytes)), ((b 6), .inl (cA 0, 2, .inl m_typed)), ((b 7), .inl (cA 0, 36, .inl m_cell)), ((b 8), .inl (cA 0, 16, .inl m_house)), ((b 9), .inl (cA 0, 2, .inl m_settings)), ((b 10), .inl (cA 0, 20, .inl m_bowl)), ((b 11), .inl (cA 0, 16, .inl m_dog)), ((b 12), .inl (cA 0, 250, .inl m_path)), ((b 13), .inl (cA 0, 10, .inl m_steps)), ((b 14), .inl (cA 0, 60, .inl m_line))]
abbrev rm_X9_taxes : Room := { frames := 6, cells := 0, slots := 0, locals := 147 }
section
variable {p : Program} {l : Launch} {e : Env} {s : State} {m : MethodId} {args : Array Value} {below : List Frame} {meth : Method} {c : Code} {D : va_G} {cA : Nat → ClassId} {ws0 : va_W} {sz : Nat} {A : Nat → Prop} {Q : State → Prop}
def f_X9_taxes (m_cells : Int32) (m_wide : Int32) (m_houses : Int32) (m_bowls : Int32) (m_dogs : Int32) (m_gone : Int32) (m_bytes : Nat → Int32) (m_typed : Nat → Int32) (m_cell : Nat → Int32) (m_house : Nat → Int32) (m_settings : Nat → Int32) (m_bowl : Nat → Int32) (m_dog : Nat → Int32) (m_path : Nat → Int32) (m_steps : Nat → Int32) (m_line : Nat → Int32) (x1 : Int32) (x2 : Int32) : Option (Int32 × Int32 × Int32 × Int32 × (Nat → Int32) × (Nat → Int32) × (Nat → Int32) × (Nat → Int32) × (Nat → Int32)) :=
  bind8 (f_X9_find m_cells m_wide m_houses m_bowls m_dogs m_gone m_bytes m_typed m_cell m_house m_settings m_bowl m_dog m_path m_steps m_line) (fun c1 c2 c3 c4 c5 c6 c7 c8 => bind1 (f_X9_isNight x1) (fun r9 => if r9 = 0 then (some ((-2 : Int32), c1, c2, c3, c4, c5, c6, c7, c8)) else (bind1 (f_X9_isTwo x2) (fun r10 => if r10 = 0 then (some ((-2 : Int32), c1, c2, c3, c4, c5, c6, c7, c8)) else (bind1 (f_X9_taxesOf c1 c2 c3 c5 c8 x1 x2) (fun r11 => some (r11, c1, c2, c3, c4, c5, c6, c7, c8)))))))
set_option maxHeartbeats 4000000 in
set_option maxRecDepth 100000 in
theorem k_X9_taxes (C : Cx RX9 cX9_taxes 3 D cA p s m args c) (hr : meth.sig.returnType = (some .int)) (hlk : meth.locks = false) (hA : ∀ q, s.heap.size ≤ q → va_A ws0 sz q) (b : Nat → Nat) (m_latest : Int32) (m_cells : Int32) (m_wide : Int32) (m_houses : Int32) (m_bowls : Int32) (m_dogs : Int32) (m_gone : Int32) (m_sights : Int32) (m_drawn : Int32) (m_bytes : Nat → Int32) (m_typed : Nat → Int32) (m_cell : Nat → Int32) (m_house : Nat → Int32) (m_settings : Nat → Int32) (m_bowl : Nat → Int32) (m_dog : Nat → Int32) (m_path : Nat → Int32) (m_steps : Nat → Int32) (m_line : Nat → Int32) (x1 : Int32) (x2 : Int32) (r : Int32 × Int32 × Int32 × Int32 × (Nat → Int32) × (Nat → Int32) × (Nat → Int32) × (Nat → Int32) × (Nat → Int32)) (hf : f_X9_taxes m_cells m_wide m_houses m_bowls m_dogs m_gone m_bytes m_typed m_cell m_house m_settings m_bowl m_dog m_path m_steps m_line x1 x2 = some r) : At p l e rm_X9_taxes s m args below meth c D (va_A ws0 sz) 0 0 (MQ below (PostI D r.1 ws0 (wl_X9_taxes cA b m_latest (r.2.1) (r.2.2.1) (r.2.2.2.1) m_bowls m_dogs m_gone m_sights m_drawn m_bytes m_typed (r.2.2.2.2.1) (r.2.2.2.2.2.1) m_settings m_bowl m_dog (r.2.2.2.2.2.2.1) (r.2.2.2.2.2.2.2.1) (r.2.2.2.2.2.2.2.2)) sz) args s 0 0 (va_A ws0 sz)) 3 0 (wl_X9_taxes cA b m_latest m_cells m_wide m_houses m_bowls m_dogs m_gone m_sights m_drawn m_bytes m_typed m_cell m_house m_settings m_bowl m_dog m_path m_steps m_line) [(0, .ref (b 0)), (1, .int x1), (2, .int x2)] [] := by
  intro H locs ls hP hD hS hl
  have hx := C.1
  have hb := C.2.1
  have hown := C.2.2.2.1
  have hts := C.2.2.2.2.1
  unfold f_X9_taxes at hf
  refine lv_aload_n (pc := 0) hx hb dX9_taxes_0 rfl (lv_at hl 0 rfl) ?_
  obtain ⟨c1, c2, c3, c4, c5, c6, c7, c8, hq, hf⟩ := bind8_some hf
  refine fin2_v (wl_X9_taxes cA b m_latest c1 c2 c3 m_bowls m_dogs m_gone m_sights m_drawn m_bytes m_typed c4 c5 m_settings m_bowl m_dog c6 c7 c8) (run_V (rest := []) (pc := 1) (As := []) C mf_X9_184 (c_X9_find l D cA b m_latest m_cells m_wide m_houses m_bowls m_dogs m_gone m_sights m_drawn m_bytes m_typed m_cell m_house m_settings m_bowl m_dog m_path m_steps m_line (c1, c2, c3, c4, c5, c6, c7, c8) hq H.size) rfl rfl ⟨(Nat.le_of_ble_eq_true rfl), (Nat.le_of_ble_eq_true rfl)⟩ (preV_of C hP hD [0, 1, 2, 3, 4, 5, 6, 7, 8, 9, 10] rfl (pl_nd pv_138) 0 rfl rfl rfl) rfl hl.1 rfl (Nat.le_of_ble_eq_true rfl) dX9_taxes_1 ⟨Nat.zero_le _, Nat.zero_le _⟩) hP hD hS hA [0, 1, 2, 3, 4, 5, 6, 7, 8, 9, 10] [] rfl rfl rfl rfl pv_138 (fun H locs hP hS => ?_)
  have hD : va_D (va_A ws0 sz) (wl_X9_taxes cA b m_latest c1 c2 c3 m_bowls m_dogs m_gone m_sights m_drawn m_bytes m_typed c4 c5 m_settings m_bowl m_dog c6 c7 c8) := vd_a hD rfl
  refine lv_iload_n (pc := 4) hx hb dX9_taxes_4 rfl (lv_at hl 1 rfl) ?_
  obtain ⟨r9, hq, hf⟩ := bind1_some hf
  refine fin2_i (wl_X9_taxes cA b m_latest c1 c2 c3 m_bowls m_dogs m_gone m_sights m_drawn m_bytes m_typed c4 c5 m_settings m_bowl m_dog c6 c7 c8) (run_S (rest := []) (pc := 5) (As := [.int x1]) C mf_X9_136 (c_X9_isNight l D cA  x1 r9 hq H.size) rfl rfl ⟨(Nat.le_of_ble_eq_true rfl), (Nat.le_of_ble_eq_true rfl)⟩ (preS_of C hP hD [] rfl (pl_nd pv_139)) rfl hl.1 rfl (Nat.le_of_ble_eq_true rfl) dX9_taxes_5 ⟨Nat.zero_le _, Nat.zero_le _⟩) hP hD hS hA [] [0, 1, 2, 3, 4, 5, 6, 7, 8, 9, 10] rfl rfl rfl rfl pv_139 (fun H locs hP hS => ?_)
  refine lv_if_eq (pc := 8) (tgt := 27) hx hb dX9_taxes_8 (by decide) (fun hc => ?_) (fun hc => ?_)
  · have hf := (if_pos hc).symm.trans hf
    refine lv_bipush (pc := 27) (v := (-2)) hx hb dX9_taxes_27 bp_m2 ?_
    have hf := Option.some.inj hf
    subst hf
    exact ret_i C hr hlk hP hS dX9_taxes_29
  · have hf := (if_neg hc).symm.trans hf
    refine lv_iload_n (pc := 11) hx hb dX9_taxes_11 rfl (lv_at hl 2 rfl) ?_
    obtain ⟨r10, hq, hf⟩ := bind1_some hf
    refine fin2_i (wl_X9_taxes cA b m_latest c1 c2 c3 m_bowls m_dogs m_gone m_sights m_drawn m_bytes m_typed c4 c5 m_settings m_bowl m_dog c6 c7 c8) (run_S (rest := []) (pc := 12) (As := [.int x2]) C mf_X9_89 (c_X9_isTwo l D cA  x2 r10 hq H.size) rfl rfl ⟨(Nat.le_of_ble_eq_true rfl), (Nat.le_of_ble_eq_true rfl)⟩ (preS_of C hP hD [] rfl (pl_nd pv_139)) rfl hl.1 rfl (Nat.le_of_ble_eq_true rfl) dX9_taxes_12 ⟨Nat.zero_le _, Nat.zero_le _⟩) hP hD hS hA [] [0, 1, 2, 3, 4, 5, 6, 7, 8, 9, 10] rfl rfl rfl rfl pv_139 (fun H locs hP hS => ?_)
    refine lv_if_eq (pc := 15) (tgt := 27) hx hb dX9_taxes_15 (by decide) (fun hc => ?_) (fun hc => ?_)
    · have hf := (if_pos hc).symm.trans hf
      refine lv_bipush (pc := 27) (v := (-2)) hx hb dX9_taxes_27 bp_m2 ?_
      have hf := Option.some.inj hf
      subst hf
      exact ret_i C hr hlk hP hS dX9_taxes_29
    · have hf := (if_neg hc).symm.trans hf
      refine lv_aload_n (pc := 18) hx hb dX9_taxes_18 rfl (lv_at hl 0 rfl) ?_
      refine lv_iload_n (pc := 19) hx hb dX9_taxes_19 rfl (lv_at hl 1 rfl) ?_
      refine lv_iload_n (pc := 20) hx hb dX9_taxes_20 rfl (lv_at hl 2 rfl) ?_
      obtain ⟨r11, hq, hf⟩ := bind1_some hf
      refine fin2_i (wl_X9_taxes cA b m_latest c1 c2 c3 m_bowls m_dogs m_gone m_sights m_drawn m_bytes m_typed c4 c5 m_settings m_bowl m_dog c6 c7 c8) (run_V (rest := []) (pc := 21) (As := [.int x1, .int x2]) C mf_X9_204 (c_X9_taxesOf l D cA b m_latest c1 c2 c3 m_bowls m_dogs m_gone m_sights m_drawn c5 c8 x1 x2 r11 hq H.size) rfl rfl ⟨(Nat.le_of_ble_eq_true rfl), (Nat.le_of_ble_eq_true rfl)⟩ (preV_of C hP hD [0, 4, 10] rfl (pl_nd pv_145) 0 rfl rfl rfl) rfl hl.1 rfl (Nat.le_of_ble_eq_true rfl) dX9_taxes_21 ⟨Nat.zero_le _, Nat.zero_le _⟩) hP hD hS hA [0, 4, 10] [1, 2, 3, 5, 6, 7, 8, 9] rfl rfl rfl rfl pv_145 (fun H locs hP hS => ?_)
      refine lv_goto (pc := 24) (tgt := 29) hx hb dX9_taxes_24 (by decide) ?_
      have hf := Option.some.inj hf
      subst hf
      exact ret_i C hr hlk hP hS dX9_taxes_29
set_option maxRecDepth 100000 in
theorem c_X9_taxes (l : Launch) (D : va_G) (cA : Nat → ClassId) (b : Nat → Nat) (m_latest : Int32) (m_cells : Int32) (m_wide : Int32) (m_houses : Int32) (m_bowls : Int32) (m_dogs : Int32) (m_gone : Int32) (m_sights : Int32) (m_drawn : Int32) (m_bytes : Nat → Int32) (m_typed : Nat → Int32) (m_cell : Nat → Int32) (m_house : Nat → Int32) (m_settings : Nat → Int32) (m_bowl : Nat → Int32) (m_dog : Nat → Int32) (m_path : Nat → Int32) (m_steps : Nat → Int32) (m_line : Nat → Int32) (x1 : Int32) (x2 : Int32) (r : Int32 × Int32 × Int32 × Int32 × (Nat → Int32) × (Nat → Int32) × (Nat → Int32) × (Nat → Int32) × (Nat → Int32)) (hf : f_X9_taxes m_cells m_wide m_houses m_bowls m_dogs m_gone m_bytes m_typed m_cell m_house m_settings m_bowl m_dog m_path m_steps m_line x1 x2 = some r) (sz : Nat) : Met l yX9_taxes (Cond.code yX9_taxes cX9_taxes 3 (some .int) :: lw_good) rm_X9_taxes (PreX D cA [.ref (b 0), .int x1, .int x2] sz (wl_X9_taxes cA b m_latest m_cells m_wide m_houses m_bowls m_dogs m_gone m_sights m_drawn m_bytes m_typed m_cell m_house m_settings m_bowl m_dog m_path m_steps m_line)) (PostI D r.1 (wl_X9_taxes cA b m_latest m_cells m_wide m_houses m_bowls m_dogs m_gone m_sights m_drawn m_bytes m_typed m_cell m_house m_settings m_bowl m_dog m_path m_steps m_line) (wl_X9_taxes cA b m_latest (r.2.1) (r.2.2.1) (r.2.2.2.1) m_bowls m_dogs m_gone m_sights m_drawn m_bytes m_typed (r.2.2.2.2.1) (r.2.2.2.2.2.1) m_settings m_bowl m_dog (r.2.2.2.2.2.2.1) (r.2.2.2.2.2.2.2.1) (r.2.2.2.2.2.2.2.2)) sz) 0 0 (va_A (wl_X9_taxes cA b m_latest m_cells m_wide m_houses m_bowls m_dogs m_gone m_sights m_drawn m_bytes m_typed m_cell m_house m_settings m_bowl m_dog m_path m_steps m_line) sz) :=
  met_of (by decide) (Nat.le_of_ble_eq_true rfl) (fun p e s m args below meth c C hr hlk hA => k_X9_taxes C hr hlk hA b m_latest m_cells m_wide m_houses m_bowls m_dogs m_gone m_sights m_drawn m_bytes m_typed m_cell m_house m_settings m_bowl m_dog m_path m_steps m_line x1 x2 r hf)
end

abbrev wl_X9_firstOf (cA : Nat → ClassId) (b : Nat → Nat) (m_latest : Int32) (m_cells : Int32) (m_wide : Int32) (m_houses : Int32) (m_bowls : Int32) (m_dogs : Int32) (m_gone : Int32) (m_sights : Int32) (m_drawn : Int32) (m_house : Nat → Int32) (m_line : Nat → Int32) : va_W := [((b 0), .inr (9, [.ref (b 1), .ref (b 2), .ref (b 3), .ref (b 4), .int m_latest, .ref (b 5), .ref (b 6), .int m_cells, .int m_wide, .ref (b 7), .int m_houses, .ref (b 8), .ref (b 9), .int m_bowls, .ref (b 10), .int m_dogs, .ref (b 11), .int m_gone, .ref (b 12), .ref (b 13), .ref (b 14), .int m_sights, .ref (b 15), .ref (b 16), .int m_drawn])), ((b 8), .inl (cA 0, 16, .inl m_house)), ((b 14), .inl (cA 0, 60, .inl m_line))]
abbrev rm_X9_firstOf : Room := { frames := 3, cells := 0, slots := 0, locals := 68 }
section
variable {p : Program} {l : Launch} {e : Env} {s : State} {m : MethodId} {args : Array Value} {below : List Frame} {meth : Method} {c : Code} {D : va_G} {cA : Nat → ClassId} {ws0 : va_W} {sz : Nat} {A : Nat → Prop} {Q : State → Prop}
def f_X9_firstOf_L10 (m_cells : Int32) (m_wide : Int32) (m_houses : Int32) (m_house : Nat → Int32) (m_line : Nat → Int32) (x2 : Int32) (x3 : Int32) : Option ((Int32) ⊕ ((Int32) ⊕ (Unit))) :=
  if m_houses ≤ x3 then (some (.inr (.inr ()))) else (bind1 (f_X9_liesOf m_cells m_wide m_house m_line x2 x3) (fun r1 => if r1 = (2 : Int32) then (some (.inr (.inl x3))) else (some (.inl (x3 + 1)))))
set_option maxHeartbeats 4000000 in
set_option maxRecDepth 100000 in
theorem k_X9_firstOf_L10 (C : Cx RX9 cX9_firstOf 4 D cA p s m args c) (hA : ∀ q, s.heap.size ≤ q → A q) (b : Nat → Nat) (m_latest : Int32) (m_cells : Int32) (m_wide : Int32) (m_houses : Int32) (m_bowls : Int32) (m_dogs : Int32) (m_gone : Int32) (m_sights : Int32) (m_drawn : Int32) (m_house : Nat → Int32) (m_line : Nat → Int32) (x1 : Int32) (x2 : Int32) (x3 : Int32) (r : (Int32) ⊕ ((Int32) ⊕ (Unit))) (hf : f_X9_firstOf_L10 m_cells m_wide m_houses m_house m_line x2 x3 = some r) (hK : Sum.elim (fun q : Int32 => At p l e rm_X9_firstOf s m args below meth c D A 0 0 Q 4 10 (wl_X9_firstOf cA b m_latest m_cells m_wide m_houses m_bowls m_dogs m_gone m_sights m_drawn m_house m_line) [(0, .ref (b 0)), (1, .int x1), (2, .int x2), (3, .int q)] []) (Sum.elim (fun q : Int32 => At p l e rm_X9_firstOf s m args below meth c D A 0 0 Q 4 28 (wl_X9_firstOf cA b m_latest m_cells m_wide m_houses m_bowls m_dogs m_gone m_sights m_drawn m_house m_line) [(1, .int x1), (2, .int x2), (3, .int q)] []) (fun q : Unit => At p l e rm_X9_firstOf s m args below meth c D A 0 0 Q 4 44 (wl_X9_firstOf cA b m_latest m_cells m_wide m_houses m_bowls m_dogs m_gone m_sights m_drawn m_house m_line) [(0, .ref (b 0)), (1, .int x1), (2, .int x2)] [])) r) : At p l e rm_X9_firstOf s m args below meth c D A 0 0 Q 4 10 (wl_X9_firstOf cA b m_latest m_cells m_wide m_houses m_bowls m_dogs m_gone m_sights m_drawn m_house m_line) [(0, .ref (b 0)), (1, .int x1), (2, .int x2), (3, .int x3)] [] := by
  intro H locs ls hP hD hS hl
  have hx := C.1
  have hb := C.2.1
  have hown := C.2.2.2.1
  have hts := C.2.2.2.2.1
  unfold f_X9_firstOf_L10 at hf
  refine lv_iload_n (pc := 10) hx hb dX9_firstOf_10 rfl (lv_at hl 3 rfl) ?_
  refine lv_aload_n (pc := 11) hx hb dX9_firstOf_11 rfl (lv_at hl 0 rfl) ?_
  refine g_get (pc := 12) C fg_X9_106 hP 0 rfl rfl dX9_firstOf_12 ?_
  refine lv_icmp_ge (pc := 15) (tgt := 44) hx hb dX9_firstOf_15 (by decide) (fun hc => ?_) (fun hc => ?_)
  · have hf := (if_pos hc).symm.trans hf
    have hf := Option.some.inj hf
    subst hf
    exact hK H locs ls hP hD hS (lv_sub hl [0, 1, 2] rfl)
  · have hf := (if_neg hc).symm.trans hf
    refine lv_aload_n (pc := 18) hx hb dX9_firstOf_18 rfl (lv_at hl 0 rfl) ?_
    refine lv_iload_n (pc := 19) hx hb dX9_firstOf_19 rfl (lv_at hl 2 rfl) ?_
    refine lv_iload_n (pc := 20) hx hb dX9_firstOf_20 rfl (lv_at hl 3 rfl) ?_
    obtain ⟨r1, hq, hf⟩ := bind1_some hf
    refine fin2_i (wl_X9_firstOf cA b m_latest m_cells m_wide m_houses m_bowls m_dogs m_gone m_sights m_drawn m_house m_line) (run_V (rest := []) (pc := 21) (As := [.int x2, .int x3]) C mf_X9_198 (c_X9_liesOf l D cA b m_latest m_cells m_wide m_houses m_bowls m_dogs m_gone m_sights m_drawn m_house m_line x2 x3 r1 hq H.size) rfl rfl ⟨(Nat.le_of_ble_eq_true rfl), (Nat.le_of_ble_eq_true rfl)⟩ (preV_of C hP hD [0, 1, 2] rfl (pl_nd pv_146) 0 rfl rfl rfl) rfl hl.1 rfl (Nat.le_of_ble_eq_true rfl) dX9_firstOf_21 ⟨Nat.zero_le _, Nat.zero_le _⟩) hP hD hS hA [0, 1, 2] [] rfl rfl rfl rfl pv_146 (fun H locs hP hS => ?_)
    refine lv_iconst (pc := 24) (v := 2) hx hb dX9_firstOf_24 ic_2 ?_
    refine lv_icmp_ne (pc := 25) (tgt := 38) hx hb dX9_firstOf_25 (by decide) (fun hc => ?_) (fun hc => ?_)
    · have hf := (if_neg hc).symm.trans hf
      refine lv_iinc (pc := 38) (v := (x3 + 1)) (lv' := [(3, .int (x3 + 1)), (0, .ref (b 0)), (1, .int x1), (2, .int x2)]) hx hb dX9_firstOf_38 hl (k := 3) rfl rfl (Nat.le_of_ble_eq_true rfl) rfl (fun ls hl => ?_)
      refine lv_goto (pc := 41) (tgt := 10) hx hb dX9_firstOf_41 (by decide) ?_
      have hf := Option.some.inj hf
      subst hf
      exact hK H locs ls hP hD hS (lv_sub hl [1, 2, 3, 0] rfl)
    · have hf := (if_pos hc).symm.trans hf
      have hf := Option.some.inj hf
      subst hf
      exact hK H locs ls hP hD hS (lv_sub hl [1, 2, 3] rfl)
theorem kl_X9_firstOf_L10 (C : Cx RX9 cX9_firstOf 4 D cA p s m args c) (hA : ∀ q, s.heap.size ≤ q → A q) (b : Nat → Nat) (m_latest : Int32) (m_cells : Int32) (m_wide : Int32) (m_houses : Int32) (m_bowls : Int32) (m_dogs : Int32) (m_gone : Int32) (m_sights : Int32) (m_drawn : Int32) (m_house : Nat → Int32) (m_line : Nat → Int32) (x1 : Int32) (x2 : Int32) : ∀ (n : Nat) (q : Int32) (z : ((Int32) ⊕ (Unit))), loopF (fun q : Int32 => f_X9_firstOf_L10 m_cells m_wide m_houses m_house m_line x2 q) n q = some z → (Sum.elim (fun q : Int32 => At p l e rm_X9_firstOf s m args below meth c D A 0 0 Q 4 28 (wl_X9_firstOf cA b m_latest m_cells m_wide m_houses m_bowls m_dogs m_gone m_sights m_drawn m_house m_line) [(1, .int x1), (2, .int x2), (3, .int q)] []) (fun q : Unit => At p l e rm_X9_firstOf s m args below meth c D A 0 0 Q 4 44 (wl_X9_firstOf cA b m_latest m_cells m_wide m_houses m_bowls m_dogs m_gone m_sights m_drawn m_house m_line) [(0, .ref (b 0)), (1, .int x1), (2, .int x2)] [])) z → At p l e rm_X9_firstOf s m args below meth c D A 0 0 Q 4 10 (wl_X9_firstOf cA b m_latest m_cells m_wide m_houses m_bowls m_dogs m_gone m_sights m_drawn m_house m_line) [(0, .ref (b 0)), (1, .int x1), (2, .int x2), (3, .int q)] [] :=
  loop_lem (WP := fun q : Int32 => At p l e rm_X9_firstOf s m args below meth c D A 0 0 Q 4 10 (wl_X9_firstOf cA b m_latest m_cells m_wide m_houses m_bowls m_dogs m_gone m_sights m_drawn m_house m_line) [(0, .ref (b 0)), (1, .int x1), (2, .int x2), (3, .int q)] []) (WE := (Sum.elim (fun q : Int32 => At p l e rm_X9_firstOf s m args below meth c D A 0 0 Q 4 28 (wl_X9_firstOf cA b m_latest m_cells m_wide m_houses m_bowls m_dogs m_gone m_sights m_drawn m_house m_line) [(1, .int x1), (2, .int x2), (3, .int q)] []) (fun q : Unit => At p l e rm_X9_firstOf s m args below meth c D A 0 0 Q 4 44 (wl_X9_firstOf cA b m_latest m_cells m_wide m_houses m_bowls m_dogs m_gone m_sights m_drawn m_house m_line) [(0, .ref (b 0)), (1, .int x1), (2, .int x2)] []))) (fun q r hf hK => k_X9_firstOf_L10 C hA b m_latest m_cells m_wide m_houses m_bowls m_dogs m_gone m_sights m_drawn m_house m_line x1 x2 q r hf hK)
def f_X9_firstOf_L2 (m_cells : Int32) (m_wide : Int32) (m_houses : Int32) (m_house : Nat → Int32) (m_line : Nat → Int32) (x2 : Int32) : Option ((Int32) ⊕ ((Int32 × Int32) ⊕ (Unit))) :=
  if (10 : Int32) ≤ x2 then (some (.inr (.inr ()))) else (bindS (loopF (fun q : Int32 => f_X9_firstOf_L10 m_cells m_wide m_houses m_house m_line x2 q) FU (0 : Int32)) (fun u2 => some (.inr (.inl (x2, u2)))) (fun _ => some (.inl (x2 + 1))))
set_option maxHeartbeats 4000000 in
set_option maxRecDepth 100000 in
theorem k_X9_firstOf_L2 (C : Cx RX9 cX9_firstOf 4 D cA p s m args c) (hA : ∀ q, s.heap.size ≤ q → A q) (b : Nat → Nat) (m_latest : Int32) (m_cells : Int32) (m_wide : Int32) (m_houses : Int32) (m_bowls : Int32) (m_dogs : Int32) (m_gone : Int32) (m_sights : Int32) (m_drawn : Int32) (m_house : Nat → Int32) (m_line : Nat → Int32) (x1 : Int32) (x2 : Int32) (r : (Int32) ⊕ ((Int32 × Int32) ⊕ (Unit))) (hf : f_X9_firstOf_L2 m_cells m_wide m_houses m_house m_line x2 = some r) (hK : Sum.elim (fun q : Int32 => At p l e rm_X9_firstOf s m args below meth c D A 0 0 Q 4 2 (wl_X9_firstOf cA b m_latest m_cells m_wide m_houses m_bowls m_dogs m_gone m_sights m_drawn m_house m_line) [(0, .ref (b 0)), (1, .int x1), (2, .int q)] []) (Sum.elim (fun q : Int32 × Int32 => At p l e rm_X9_firstOf s m args below meth c D A 0 0 Q 4 28 (wl_X9_firstOf cA b m_latest m_cells m_wide m_houses m_bowls m_dogs m_gone m_sights m_drawn m_house m_line) [(1, .int x1), (2, .int (q.1)), (3, .int (q.2))] []) (fun q : Unit => At p l e rm_X9_firstOf s m args below meth c D A 0 0 Q 4 50 (wl_X9_firstOf cA b m_latest m_cells m_wide m_houses m_bowls m_dogs m_gone m_sights m_drawn m_house m_line) [] [])) r) : At p l e rm_X9_firstOf s m args below meth c D A 0 0 Q 4 2 (wl_X9_firstOf cA b m_latest m_cells m_wide m_houses m_bowls m_dogs m_gone m_sights m_drawn m_house m_line) [(0, .ref (b 0)), (1, .int x1), (2, .int x2)] [] := by
  intro H locs ls hP hD hS hl
  have hx := C.1
  have hb := C.2.1
  have hown := C.2.2.2.1
  have hts := C.2.2.2.2.1
  unfold f_X9_firstOf_L2 at hf
  refine lv_iload_n (pc := 2) hx hb dX9_firstOf_2 rfl (lv_at hl 2 rfl) ?_
  refine lv_bipush (pc := 3) (v := 10) hx hb dX9_firstOf_3 bp_10 ?_
  refine lv_icmp_ge (pc := 5) (tgt := 50) hx hb dX9_firstOf_5 (by decide) (fun hc => ?_) (fun hc => ?_)
  · have hf := (if_pos hc).symm.trans hf
    have hf := Option.some.inj hf
    subst hf
    exact hK H locs ls hP hD hS (lv_sub hl [] rfl)
  · have hf := (if_neg hc).symm.trans hf
    refine lv_iconst (pc := 8) (v := 0) hx hb dX9_firstOf_8 ic_0 ?_
    refine lv_istore_n (pc := 9) (lv' := [(3, .int (0 : Int32)), (0, .ref (b 0)), (1, .int x1), (2, .int x2)]) hx hb dX9_firstOf_9 rfl hl (Nat.le_of_ble_eq_true rfl) rfl (fun ls hl => ?_)
    rcases bindS_some hf with ⟨z, hq, hf⟩ | ⟨z, hq, hf⟩
    · obtain ⟨u2, rfl⟩ : ∃ y, y = z := ⟨z, rfl⟩
      refine kl_X9_firstOf_L10 C hA b m_latest m_cells m_wide m_houses m_bowls m_dogs m_gone m_sights m_drawn m_house m_line x1 x2 FU (0 : Int32) _ hq ?_ H locs ls hP hD hS (lv_sub hl [1, 2, 3, 0] rfl)
      intro H locs ls hP hD hS hl
      have hP : va_P D classes (wl_X9_firstOf cA b m_latest m_cells m_wide m_houses m_bowls m_dogs m_gone m_sights m_drawn m_house m_line) H := hP
      have hD : va_D A (wl_X9_firstOf cA b m_latest m_cells m_wide m_houses m_bowls m_dogs m_gone m_sights m_drawn m_house m_line) := hD
      have hl : lv_has ls 4 [(1, .int x1), (2, .int x2), (3, .int u2)] := hl
      have hf := Option.some.inj hf
      subst hf
      exact hK H locs ls hP hD hS hl
    · refine kl_X9_firstOf_L10 C hA b m_latest m_cells m_wide m_houses m_bowls m_dogs m_gone m_sights m_drawn m_house m_line x1 x2 FU (0 : Int32) _ hq ?_ H locs ls hP hD hS (lv_sub hl [1, 2, 3, 0] rfl)
      intro H locs ls hP hD hS hl
      have hP : va_P D classes (wl_X9_firstOf cA b m_latest m_cells m_wide m_houses m_bowls m_dogs m_gone m_sights m_drawn m_house m_line) H := hP
      have hD : va_D A (wl_X9_firstOf cA b m_latest m_cells m_wide m_houses m_bowls m_dogs m_gone m_sights m_drawn m_house m_line) := hD
      have hl : lv_has ls 4 [(0, .ref (b 0)), (1, .int x1), (2, .int x2)] := hl
      refine lv_iinc (pc := 44) (v := (x2 + 1)) (lv' := [(2, .int (x2 + 1)), (0, .ref (b 0)), (1, .int x1)]) hx hb dX9_firstOf_44 hl (k := 2) rfl rfl (Nat.le_of_ble_eq_true rfl) rfl (fun ls hl => ?_)
      refine lv_goto (pc := 47) (tgt := 2) hx hb dX9_firstOf_47 (by decide) ?_
      have hf := Option.some.inj hf
      subst hf
      exact hK H locs ls hP hD hS (lv_sub hl [1, 2, 0] rfl)
theorem kl_X9_firstOf_L2 (C : Cx RX9 cX9_firstOf 4 D cA p s m args c) (hA : ∀ q, s.heap.size ≤ q → A q) (b : Nat → Nat) (m_latest : Int32) (m_cells : Int32) (m_wide : Int32) (m_houses : Int32) (m_bowls : Int32) (m_dogs : Int32) (m_gone : Int32) (m_sights : Int32) (m_drawn : Int32) (m_house : Nat → Int32) (m_line : Nat → Int32) (x1 : Int32) : ∀ (n : Nat) (q : Int32) (z : ((Int32 × Int32) ⊕ (Unit))), loopF (fun q : Int32 => f_X9_firstOf_L2 m_cells m_wide m_houses m_house m_line q) n q = some z → (Sum.elim (fun q : Int32 × Int32 => At p l e rm_X9_firstOf s m args below meth c D A 0 0 Q 4 28 (wl_X9_firstOf cA b m_latest m_cells m_wide m_houses m_bowls m_dogs m_gone m_sights m_drawn m_house m_line) [(1, .int x1), (2, .int (q.1)), (3, .int (q.2))] []) (fun q : Unit => At p l e rm_X9_firstOf s m args below meth c D A 0 0 Q 4 50 (wl_X9_firstOf cA b m_latest m_cells m_wide m_houses m_bowls m_dogs m_gone m_sights m_drawn m_house m_line) [] [])) z → At p l e rm_X9_firstOf s m args below meth c D A 0 0 Q 4 2 (wl_X9_firstOf cA b m_latest m_cells m_wide m_houses m_bowls m_dogs m_gone m_sights m_drawn m_house m_line) [(0, .ref (b 0)), (1, .int x1), (2, .int q)] [] :=
  loop_lem (WP := fun q : Int32 => At p l e rm_X9_firstOf s m args below meth c D A 0 0 Q 4 2 (wl_X9_firstOf cA b m_latest m_cells m_wide m_houses m_bowls m_dogs m_gone m_sights m_drawn m_house m_line) [(0, .ref (b 0)), (1, .int x1), (2, .int q)] []) (WE := (Sum.elim (fun q : Int32 × Int32 => At p l e rm_X9_firstOf s m args below meth c D A 0 0 Q 4 28 (wl_X9_firstOf cA b m_latest m_cells m_wide m_houses m_bowls m_dogs m_gone m_sights m_drawn m_house m_line) [(1, .int x1), (2, .int (q.1)), (3, .int (q.2))] []) (fun q : Unit => At p l e rm_X9_firstOf s m args below meth c D A 0 0 Q 4 50 (wl_X9_firstOf cA b m_latest m_cells m_wide m_houses m_bowls m_dogs m_gone m_sights m_drawn m_house m_line) [] []))) (fun q r hf hK => k_X9_firstOf_L2 C hA b m_latest m_cells m_wide m_houses m_bowls m_dogs m_gone m_sights m_drawn m_house m_line x1 q r hf hK)
def f_X9_firstOf (m_cells : Int32) (m_wide : Int32) (m_houses : Int32) (m_house : Nat → Int32) (m_line : Nat → Int32) (x1 : Int32) : Option (Int32) :=
  bindS (loopF (fun q : Int32 => f_X9_firstOf_L2 m_cells m_wide m_houses m_house m_line q) FU (0 : Int32)) (unc2 (fun u3 u4 => if x1 = 0 then (some u3) else (some u4))) (fun _ => some (-1 : Int32))
set_option maxHeartbeats 4000000 in
set_option maxRecDepth 100000 in
theorem k_X9_firstOf (C : Cx RX9 cX9_firstOf 4 D cA p s m args c) (hr : meth.sig.returnType = (some .int)) (hlk : meth.locks = false) (hA : ∀ q, s.heap.size ≤ q → va_A ws0 sz q) (b : Nat → Nat) (m_latest : Int32) (m_cells : Int32) (m_wide : Int32) (m_houses : Int32) (m_bowls : Int32) (m_dogs : Int32) (m_gone : Int32) (m_sights : Int32) (m_drawn : Int32) (m_house : Nat → Int32) (m_line : Nat → Int32) (x1 : Int32) (r : Int32) (hf : f_X9_firstOf m_cells m_wide m_houses m_house m_line x1 = some r) : At p l e rm_X9_firstOf s m args below meth c D (va_A ws0 sz) 0 0 (MQ below (PostI D r ws0 (wl_X9_firstOf cA b m_latest m_cells m_wide m_houses m_bowls m_dogs m_gone m_sights m_drawn m_house m_line) sz) args s 0 0 (va_A ws0 sz)) 4 0 (wl_X9_firstOf cA b m_latest m_cells m_wide m_houses m_bowls m_dogs m_gone m_sights m_drawn m_house m_line) [(0, .ref (b 0)), (1, .int x1)] [] := by
  intro H locs ls hP hD hS hl
  have hx := C.1
  have hb := C.2.1
  have hown := C.2.2.2.1
  have hts := C.2.2.2.2.1
  unfold f_X9_firstOf at hf
  refine lv_iconst (pc := 0) (v := 0) hx hb dX9_firstOf_0 ic_0 ?_
  refine lv_istore_n (pc := 1) (lv' := [(2, .int (0 : Int32)), (0, .ref (b 0)), (1, .int x1)]) hx hb dX9_firstOf_1 rfl hl (Nat.le_of_ble_eq_true rfl) rfl (fun ls hl => ?_)
  rcases bindS_some hf with ⟨z, hq, hf⟩ | ⟨z, hq, hf⟩
  · obtain ⟨u3, u4⟩ := z
    have hf := unc2_some hf
    refine kl_X9_firstOf_L2 C hA b m_latest m_cells m_wide m_houses m_bowls m_dogs m_gone m_sights m_drawn m_house m_line x1 FU (0 : Int32) _ hq ?_ H locs ls hP hD hS (lv_sub hl [1, 2, 0] rfl)
    intro H locs ls hP hD hS hl
    have hP : va_P D classes (wl_X9_firstOf cA b m_latest m_cells m_wide m_houses m_bowls m_dogs m_gone m_sights m_drawn m_house m_line) H := hP
    have hD : va_D (va_A ws0 sz) (wl_X9_firstOf cA b m_latest m_cells m_wide m_houses m_bowls m_dogs m_gone m_sights m_drawn m_house m_line) := hD
    have hl : lv_has ls 4 [(1, .int x1), (2, .int u3), (3, .int u4)] := hl
    refine lv_iload_n (pc := 28) hx hb dX9_firstOf_28 rfl (lv_at hl 0 rfl) ?_
    refine lv_if_ne (pc := 29) (tgt := 36) hx hb dX9_firstOf_29 (by decide) (fun hc => ?_) (fun hc => ?_)
    · have hf := (if_neg hc).symm.trans hf
      refine lv_iload_n (pc := 36) hx hb dX9_firstOf_36 rfl (lv_at hl 2 rfl) ?_
      have hf := Option.some.inj hf
      subst hf
      exact ret_i C hr hlk hP hS dX9_firstOf_37
    · have hf := (if_pos hc).symm.trans hf
      refine lv_iload_n (pc := 32) hx hb dX9_firstOf_32 rfl (lv_at hl 1 rfl) ?_
      refine lv_goto (pc := 33) (tgt := 37) hx hb dX9_firstOf_33 (by decide) ?_
      have hf := Option.some.inj hf
      subst hf
      exact ret_i C hr hlk hP hS dX9_firstOf_37
  · refine kl_X9_firstOf_L2 C hA b m_latest m_cells m_wide m_houses m_bowls m_dogs m_gone m_sights m_drawn m_house m_line x1 FU (0 : Int32) _ hq ?_ H locs ls hP hD hS (lv_sub hl [1, 2, 0] rfl)
    intro H locs ls hP hD hS hl
    have hP : va_P D classes (wl_X9_firstOf cA b m_latest m_cells m_wide m_houses m_bowls m_dogs m_gone m_sights m_drawn m_house m_line) H := hP
    have hD : va_D (va_A ws0 sz) (wl_X9_firstOf cA b m_latest m_cells m_wide m_houses m_bowls m_dogs m_gone m_sights m_drawn m_house m_line) := hD
    have hl : lv_has ls 4 [] := hl
    refine lv_iconst (pc := 50) (v := (-1)) hx hb dX9_firstOf_50 ic_m1 ?_
    have hf := Option.some.inj hf
    subst hf
    exact ret_i C hr hlk hP hS dX9_firstOf_51
set_option maxRecDepth 100000 in
theorem c_X9_firstOf (l : Launch) (D : va_G) (cA : Nat → ClassId) (b : Nat → Nat) (m_latest : Int32) (m_cells : Int32) (m_wide : Int32) (m_houses : Int32) (m_bowls : Int32) (m_dogs : Int32) (m_gone : Int32) (m_sights : Int32) (m_drawn : Int32) (m_house : Nat → Int32) (m_line : Nat → Int32) (x1 : Int32) (r : Int32) (hf : f_X9_firstOf m_cells m_wide m_houses m_house m_line x1 = some r) (sz : Nat) : Met l yX9_firstOf (Cond.code yX9_firstOf cX9_firstOf 4 (some .int) :: lw_good) rm_X9_firstOf (PreX D cA [.ref (b 0), .int x1] sz (wl_X9_firstOf cA b m_latest m_cells m_wide m_houses m_bowls m_dogs m_gone m_sights m_drawn m_house m_line)) (PostI D r (wl_X9_firstOf cA b m_latest m_cells m_wide m_houses m_bowls m_dogs m_gone m_sights m_drawn m_house m_line) (wl_X9_firstOf cA b m_latest m_cells m_wide m_houses m_bowls m_dogs m_gone m_sights m_drawn m_house m_line) sz) 0 0 (va_A (wl_X9_firstOf cA b m_latest m_cells m_wide m_houses m_bowls m_dogs m_gone m_sights m_drawn m_house m_line) sz) :=
  met_of (by decide) (Nat.le_of_ble_eq_true rfl) (fun p e s m args below meth c C hr hlk hA => k_X9_firstOf C hr hlk hA b m_latest m_cells m_wide m_houses m_bowls m_dogs m_gone m_sights m_drawn m_house m_line x1 r hf)
end

abbrev wl_X9_first (cA : Nat → ClassId) (b : Nat → Nat) (m_latest : Int32) (m_cells : Int32) (m_wide : Int32) (m_houses : Int32) (m_bowls : Int32) (m_dogs : Int32) (m_gone : Int32) (m_sights : Int32) (m_drawn : Int32) (m_bytes : Nat → Int32) (m_typed : Nat → Int32) (m_cell : Nat → Int32) (m_house : Nat → Int32) (m_settings : Nat → Int32) (m_bowl : Nat → Int32) (m_dog : Nat → Int32) (m_path : Nat → Int32) (m_steps : Nat → Int32) (m_line : Nat → Int32) : va_W := [((b 0), .inr (9, [.ref (b 1), .ref (b 2), .ref (b 3), .ref (b 4), .int m_latest, .ref (b 5), .ref (b 6), .int m_cells, .int m_wide, .ref (b 7), .int m_houses, .ref (b 8), .ref (b 9), .int m_bowls, .ref (b 10), .int m_dogs, .ref (b 11), .int m_gone, .ref (b 12), .ref (b 13), .ref (b 14), .int m_sights, .ref (b 15), .ref (b 16), .int m_drawn])), ((b 5), .inl (cA 0, 84, .inl m_bytes)), ((b 6), .inl (cA 0, 2, .inl m_typed)), ((b 7), .inl (cA 0, 36, .inl m_cell)), ((b 8), .inl (cA 0, 16, .inl m_house)), ((b 9), .inl (cA 0, 2, .inl m_settings)), ((b 10), .inl (cA 0, 20, .inl m_bowl)), ((b 11), .inl (cA 0, 16, .inl m_dog)), ((b 12), .inl (cA 0, 250, .inl m_path)), ((b 13), .inl (cA 0, 10, .inl m_steps)), ((b 14), .inl (cA 0, 60, .inl m_line))]
abbrev rm_X9_first : Room := { frames := 6, cells := 0, slots := 0, locals := 147 }
section
variable {p : Program} {l : Launch} {e : Env} {s : State} {m : MethodId} {args : Array Value} {below : List Frame} {meth : Method} {c : Code} {D : va_G} {cA : Nat → ClassId} {ws0 : va_W} {sz : Nat} {A : Nat → Prop} {Q : State → Prop}
def f_X9_first (m_cells : Int32) (m_wide : Int32) (m_houses : Int32) (m_bowls : Int32) (m_dogs : Int32) (m_gone : Int32) (m_bytes : Nat → Int32) (m_typed : Nat → Int32) (m_cell : Nat → Int32) (m_house : Nat → Int32) (m_settings : Nat → Int32) (m_bowl : Nat → Int32) (m_dog : Nat → Int32) (m_path : Nat → Int32) (m_steps : Nat → Int32) (m_line : Nat → Int32) (x1 : Int32) : Option (Int32 × Int32 × Int32 × Int32 × (Nat → Int32) × (Nat → Int32) × (Nat → Int32) × (Nat → Int32) × (Nat → Int32)) :=
  bind8 (f_X9_find m_cells m_wide m_houses m_bowls m_dogs m_gone m_bytes m_typed m_cell m_house m_settings m_bowl m_dog m_path m_steps m_line) (fun c1 c2 c3 c4 c5 c6 c7 c8 => bind1 (f_X9_isTwo x1) (fun r9 => if r9 = 0 then (some ((-2 : Int32), c1, c2, c3, c4, c5, c6, c7, c8)) else (bind1 (f_X9_firstOf c1 c2 c3 c5 c8 x1) (fun r10 => some (r10, c1, c2, c3, c4, c5, c6, c7, c8)))))
set_option maxHeartbeats 4000000 in
set_option maxRecDepth 100000 in
theorem k_X9_first (C : Cx RX9 cX9_first 2 D cA p s m args c) (hr : meth.sig.returnType = (some .int)) (hlk : meth.locks = false) (hA : ∀ q, s.heap.size ≤ q → va_A ws0 sz q) (b : Nat → Nat) (m_latest : Int32) (m_cells : Int32) (m_wide : Int32) (m_houses : Int32) (m_bowls : Int32) (m_dogs : Int32) (m_gone : Int32) (m_sights : Int32) (m_drawn : Int32) (m_bytes : Nat → Int32) (m_typed : Nat → Int32) (m_cell : Nat → Int32) (m_house : Nat → Int32) (m_settings : Nat → Int32) (m_bowl : Nat → Int32) (m_dog : Nat → Int32) (m_path : Nat → Int32) (m_steps : Nat → Int32) (m_line : Nat → Int32) (x1 : Int32) (r : Int32 × Int32 × Int32 × Int32 × (Nat → Int32) × (Nat → Int32) × (Nat → Int32) × (Nat → Int32) × (Nat → Int32)) (hf : f_X9_first m_cells m_wide m_houses m_bowls m_dogs m_gone m_bytes m_typed m_cell m_house m_settings m_bowl m_dog m_path m_steps m_line x1 = some r) : At p l e rm_X9_first s m args below meth c D (va_A ws0 sz) 0 0 (MQ below (PostI D r.1 ws0 (wl_X9_first cA b m_latest (r.2.1) (r.2.2.1) (r.2.2.2.1) m_bowls m_dogs m_gone m_sights m_drawn m_bytes m_typed (r.2.2.2.2.1) (r.2.2.2.2.2.1) m_settings m_bowl m_dog (r.2.2.2.2.2.2.1) (r.2.2.2.2.2.2.2.1) (r.2.2.2.2.2.2.2.2)) sz) args s 0 0 (va_A ws0 sz)) 2 0 (wl_X9_first cA b m_latest m_cells m_wide m_houses m_bowls m_dogs m_gone m_sights m_drawn m_bytes m_typed m_cell m_house m_settings m_bowl m_dog m_path m_steps m_line) [(0, .ref (b 0)), (1, .int x1)] [] := by
  intro H locs ls hP hD hS hl
  have hx := C.1
  have hb := C.2.1
  have hown := C.2.2.2.1
  have hts := C.2.2.2.2.1
  unfold f_X9_first at hf
  refine lv_aload_n (pc := 0) hx hb dX9_first_0 rfl (lv_at hl 0 rfl) ?_
  obtain ⟨c1, c2, c3, c4, c5, c6, c7, c8, hq, hf⟩ := bind8_some hf
  refine fin2_v (wl_X9_first cA b m_latest c1 c2 c3 m_bowls m_dogs m_gone m_sights m_drawn m_bytes m_typed c4 c5 m_settings m_bowl m_dog c6 c7 c8) (run_V (rest := []) (pc := 1) (As := []) C mf_X9_184 (c_X9_find l D cA b m_latest m_cells m_wide m_houses m_bowls m_dogs m_gone m_sights m_drawn m_bytes m_typed m_cell m_house m_settings m_bowl m_dog m_path m_steps m_line (c1, c2, c3, c4, c5, c6, c7, c8) hq H.size) rfl rfl ⟨(Nat.le_of_ble_eq_true rfl), (Nat.le_of_ble_eq_true rfl)⟩ (preV_of C hP hD [0, 1, 2, 3, 4, 5, 6, 7, 8, 9, 10] rfl (pl_nd pv_138) 0 rfl rfl rfl) rfl hl.1 rfl (Nat.le_of_ble_eq_true rfl) dX9_first_1 ⟨Nat.zero_le _, Nat.zero_le _⟩) hP hD hS hA [0, 1, 2, 3, 4, 5, 6, 7, 8, 9, 10] [] rfl rfl rfl rfl pv_138 (fun H locs hP hS => ?_)
  have hD : va_D (va_A ws0 sz) (wl_X9_first cA b m_latest c1 c2 c3 m_bowls m_dogs m_gone m_sights m_drawn m_bytes m_typed c4 c5 m_settings m_bowl m_dog c6 c7 c8) := vd_a hD rfl
  refine lv_iload_n (pc := 4) hx hb dX9_first_4 rfl (lv_at hl 1 rfl) ?_
  obtain ⟨r9, hq, hf⟩ := bind1_some hf
  refine fin2_i (wl_X9_first cA b m_latest c1 c2 c3 m_bowls m_dogs m_gone m_sights m_drawn m_bytes m_typed c4 c5 m_settings m_bowl m_dog c6 c7 c8) (run_S (rest := []) (pc := 5) (As := [.int x1]) C mf_X9_89 (c_X9_isTwo l D cA  x1 r9 hq H.size) rfl rfl ⟨(Nat.le_of_ble_eq_true rfl), (Nat.le_of_ble_eq_true rfl)⟩ (preS_of C hP hD [] rfl (pl_nd pv_139)) rfl hl.1 rfl (Nat.le_of_ble_eq_true rfl) dX9_first_5 ⟨Nat.zero_le _, Nat.zero_le _⟩) hP hD hS hA [] [0, 1, 2, 3, 4, 5, 6, 7, 8, 9, 10] rfl rfl rfl rfl pv_139 (fun H locs hP hS => ?_)
  refine lv_if_eq (pc := 8) (tgt := 19) hx hb dX9_first_8 (by decide) (fun hc => ?_) (fun hc => ?_)
  · have hf := (if_pos hc).symm.trans hf
    refine lv_bipush (pc := 19) (v := (-2)) hx hb dX9_first_19 bp_m2 ?_
    have hf := Option.some.inj hf
    subst hf
    exact ret_i C hr hlk hP hS dX9_first_21
  · have hf := (if_neg hc).symm.trans hf
    refine lv_aload_n (pc := 11) hx hb dX9_first_11 rfl (lv_at hl 0 rfl) ?_
    refine lv_iload_n (pc := 12) hx hb dX9_first_12 rfl (lv_at hl 1 rfl) ?_
    obtain ⟨r10, hq, hf⟩ := bind1_some hf
    refine fin2_i (wl_X9_first cA b m_latest c1 c2 c3 m_bowls m_dogs m_gone m_sights m_drawn m_bytes m_typed c4 c5 m_settings m_bowl m_dog c6 c7 c8) (run_V (rest := []) (pc := 13) (As := [.int x1]) C mf_X9_207 (c_X9_firstOf l D cA b m_latest c1 c2 c3 m_bowls m_dogs m_gone m_sights m_drawn c5 c8 x1 r10 hq H.size) rfl rfl ⟨(Nat.le_of_ble_eq_true rfl), (Nat.le_of_ble_eq_true rfl)⟩ (preV_of C hP hD [0, 4, 10] rfl (pl_nd pv_145) 0 rfl rfl rfl) rfl hl.1 rfl (Nat.le_of_ble_eq_true rfl) dX9_first_13 ⟨Nat.zero_le _, Nat.zero_le _⟩) hP hD hS hA [0, 4, 10] [1, 2, 3, 5, 6, 7, 8, 9] rfl rfl rfl rfl pv_145 (fun H locs hP hS => ?_)
    refine lv_goto (pc := 16) (tgt := 21) hx hb dX9_first_16 (by decide) ?_
    have hf := Option.some.inj hf
    subst hf
    exact ret_i C hr hlk hP hS dX9_first_21
set_option maxRecDepth 100000 in
theorem c_X9_first (l : Launch) (D : va_G) (cA : Nat → ClassId) (b : Nat → Nat) (m_latest : Int32) (m_cells : Int32) (m_wide : Int32) (m_houses : Int32) (m_bowls : Int32) (m_dogs : Int32) (m_gone : Int32) (m_sights : Int32) (m_drawn : Int32) (m_bytes : Nat → Int32) (m_typed : Nat → Int32) (m_cell : Nat → Int32) (m_house : Nat → Int32) (m_settings : Nat → Int32) (m_bowl : Nat → Int32) (m_dog : Nat → Int32) (m_path : Nat → Int32) (m_steps : Nat → Int32) (m_line : Nat → Int32) (x1 : Int32) (r : Int32 × Int32 × Int32 × Int32 × (Nat → Int32) × (Nat → Int32) × (Nat → Int32) × (Nat → Int32) × (Nat → Int32)) (hf : f_X9_first m_cells m_wide m_houses m_bowls m_dogs m_gone m_bytes m_typed m_cell m_house m_settings m_bowl m_dog m_path m_steps m_line x1 = some r) (sz : Nat) : Met l yX9_first (Cond.code yX9_first cX9_first 2 (some .int) :: lw_good) rm_X9_first (PreX D cA [.ref (b 0), .int x1] sz (wl_X9_first cA b m_latest m_cells m_wide m_houses m_bowls m_dogs m_gone m_sights m_drawn m_bytes m_typed m_cell m_house m_settings m_bowl m_dog m_path m_steps m_line)) (PostI D r.1 (wl_X9_first cA b m_latest m_cells m_wide m_houses m_bowls m_dogs m_gone m_sights m_drawn m_bytes m_typed m_cell m_house m_settings m_bowl m_dog m_path m_steps m_line) (wl_X9_first cA b m_latest (r.2.1) (r.2.2.1) (r.2.2.2.1) m_bowls m_dogs m_gone m_sights m_drawn m_bytes m_typed (r.2.2.2.2.1) (r.2.2.2.2.2.1) m_settings m_bowl m_dog (r.2.2.2.2.2.2.1) (r.2.2.2.2.2.2.2.1) (r.2.2.2.2.2.2.2.2)) sz) 0 0 (va_A (wl_X9_first cA b m_latest m_cells m_wide m_houses m_bowls m_dogs m_gone m_sights m_drawn m_bytes m_typed m_cell m_house m_settings m_bowl m_dog m_path m_steps m_line) sz) :=
  met_of (by decide) (Nat.le_of_ble_eq_true rfl) (fun p e s m args below meth c C hr hlk hA => k_X9_first C hr hlk hA b m_latest m_cells m_wide m_houses m_bowls m_dogs m_gone m_sights m_drawn m_bytes m_typed m_cell m_house m_settings m_bowl m_dog m_path m_steps m_line x1 r hf)
end

abbrev wl_X9_isSo (cA : Nat → ClassId) (b : Nat → Nat) (m_latest : Int32) (m_cells : Int32) (m_wide : Int32) (m_houses : Int32) (m_bowls : Int32) (m_dogs : Int32) (m_gone : Int32) (m_sights : Int32) (m_drawn : Int32) (m_cell : Nat → Int32) (m_house : Nat → Int32) (m_settings : Nat → Int32) (m_bowl : Nat → Int32) (m_dog : Nat → Int32) (m_path : Nat → Int32) (m_steps : Nat → Int32) (m_line : Nat → Int32) : va_W := [((b 0), .inr (9, [.ref (b 1), .ref (b 2), .ref (b 3), .ref (b 4), .int m_latest, .ref (b 5), .ref (b 6), .int m_cells, .int m_wide, .ref (b 7), .int m_houses, .ref (b 8), .ref (b 9), .int m_bowls, .ref (b 10), .int m_dogs, .ref (b 11), .int m_gone, .ref (b 12), .ref (b 13), .ref (b 14), .int m_sights, .ref (b 15), .ref (b 16), .int m_drawn])), ((b 7), .inl (cA 0, 36, .inl m_cell)), ((b 8), .inl (cA 0, 16, .inl m_house)), ((b 9), .inl (cA 0, 2, .inl m_settings)), ((b 10), .inl (cA 0, 20, .inl m_bowl)), ((b 11), .inl (cA 0, 16, .inl m_dog)), ((b 12), .inl (cA 0, 250, .inl m_path)), ((b 13), .inl (cA 0, 10, .inl m_steps)), ((b 14), .inl (cA 0, 60, .inl m_line))]
abbrev rm_X9_isSo : Room := { frames := 5, cells := 0, slots := 0, locals := 127 }
section
variable {p : Program} {l : Launch} {e : Env} {s : State} {m : MethodId} {args : Array Value} {below : List Frame} {meth : Method} {c : Code} {D : va_G} {cA : Nat → ClassId} {ws0 : va_W} {sz : Nat} {A : Nat → Prop} {Q : State → Prop}
def f_X9_isSo (m_cells : Int32) (m_wide : Int32) (m_bowls : Int32) (m_dogs : Int32) (m_gone : Int32) (m_cell : Nat → Int32) (m_house : Nat → Int32) (m_settings : Nat → Int32) (m_bowl : Nat → Int32) (m_dog : Nat → Int32) (m_path : Nat → Int32) (m_steps : Nat → Int32) (m_line : Nat → Int32) (x1 : Int32) (x2 : Int32) (x3 : Int32) : Option (Int32 × (Nat → Int32) × (Nat → Int32) × (Nat → Int32)) :=
  bind3 (f_X9_lives m_cells m_wide m_bowls m_dogs m_gone m_cell m_settings m_bowl m_dog m_path m_steps m_line x1) (fun c1 c2 c3 => bind1 (f_X9_liesOf m_cells m_wide m_house c3 x1 x2) (fun r4 => if r4 = x3 then (some ((1 : Int32), c1, c2, c3)) else (some ((0 : Int32), c1, c2, c3))))
set_option maxHeartbeats 4000000 in
set_option maxRecDepth 100000 in
theorem k_X9_isSo (C : Cx RX9 cX9_isSo 4 D cA p s m args c) (hr : meth.sig.returnType = (some .boolean)) (hlk : meth.locks = false) (hA : ∀ q, s.heap.size ≤ q → va_A ws0 sz q) (b : Nat → Nat) (m_latest : Int32) (m_cells : Int32) (m_wide : Int32) (m_houses : Int32) (m_bowls : Int32) (m_dogs : Int32) (m_gone : Int32) (m_sights : Int32) (m_drawn : Int32) (m_cell : Nat → Int32) (m_house : Nat → Int32) (m_settings : Nat → Int32) (m_bowl : Nat → Int32) (m_dog : Nat → Int32) (m_path : Nat → Int32) (m_steps : Nat → Int32) (m_line : Nat → Int32) (x1 : Int32) (x2 : Int32) (x3 : Int32) (r : Int32 × (Nat → Int32) × (Nat → Int32) × (Nat → Int32)) (hf : f_X9_isSo m_cells m_wide m_bowls m_dogs m_gone m_cell m_house m_settings m_bowl m_dog m_path m_steps m_line x1 x2 x3 = some r) : At p l e rm_X9_isSo s m args below meth c D (va_A ws0 sz) 0 0 (MQ below (PostI D r.1 ws0 (wl_X9_isSo cA b m_latest m_cells m_wide m_houses m_bowls m_dogs m_gone m_sights m_drawn m_cell m_house m_settings m_bowl m_dog (r.2.1) (r.2.2.1) (r.2.2.2)) sz) args s 0 0 (va_A ws0 sz)) 4 0 (wl_X9_isSo cA b m_latest m_cells m_wide m_houses m_bowls m_dogs m_gone m_sights m_drawn m_cell m_house m_settings m_bowl m_dog m_path m_steps m_line) [(0, .ref (b 0)), (1, .int x1), (2, .int x2), (3, .int x3)] [] := by
  intro H locs ls hP hD hS hl
  have hx := C.1
  have hb := C.2.1
  have hown := C.2.2.2.1
  have hts := C.2.2.2.2.1
  unfold f_X9_isSo at hf
  refine lv_aload_n (pc := 0) hx hb dX9_isSo_0 rfl (lv_at hl 0 rfl) ?_
  refine lv_iload_n (pc := 1) hx hb dX9_isSo_1 rfl (lv_at hl 1 rfl) ?_
  obtain ⟨c1, c2, c3, hq, hf⟩ := bind3_some hf
  refine fin2_v (wl_X9_isSo cA b m_latest m_cells m_wide m_houses m_bowls m_dogs m_gone m_sights m_drawn m_cell m_house m_settings m_bowl m_dog c1 c2 c3) (run_V (rest := []) (pc := 2) (As := [.int x1]) C mf_X9_178 (c_X9_lives l D cA b m_latest m_cells m_wide m_houses m_bowls m_dogs m_gone m_sights m_drawn m_cell m_settings m_bowl m_dog m_path m_steps m_line x1 (c1, c2, c3) hq H.size) rfl rfl ⟨(Nat.le_of_ble_eq_true rfl), (Nat.le_of_ble_eq_true rfl)⟩ (preV_of C hP hD [0, 1, 3, 4, 5, 6, 7, 8] rfl (pl_nd pv_147) 0 rfl rfl rfl) rfl hl.1 rfl (Nat.le_of_ble_eq_true rfl) dX9_isSo_2 ⟨Nat.zero_le _, Nat.zero_le _⟩) hP hD hS hA [0, 1, 3, 4, 5, 6, 7, 8] [2] rfl rfl rfl rfl pv_147 (fun H locs hP hS => ?_)
  have hD : va_D (va_A ws0 sz) (wl_X9_isSo cA b m_latest m_cells m_wide m_houses m_bowls m_dogs m_gone m_sights m_drawn m_cell m_house m_settings m_bowl m_dog c1 c2 c3) := vd_a hD rfl
  refine lv_aload_n (pc := 5) hx hb dX9_isSo_5 rfl (lv_at hl 0 rfl) ?_
  refine lv_iload_n (pc := 6) hx hb dX9_isSo_6 rfl (lv_at hl 1 rfl) ?_
  refine lv_iload_n (pc := 7) hx hb dX9_isSo_7 rfl (lv_at hl 2 rfl) ?_
  obtain ⟨r4, hq, hf⟩ := bind1_some hf
  refine fin2_i (wl_X9_isSo cA b m_latest m_cells m_wide m_houses m_bowls m_dogs m_gone m_sights m_drawn m_cell m_house m_settings m_bowl m_dog c1 c2 c3) (run_V (rest := []) (pc := 8) (As := [.int x1, .int x2]) C mf_X9_198 (c_X9_liesOf l D cA b m_latest m_cells m_wide m_houses m_bowls m_dogs m_gone m_sights m_drawn m_house c3 x1 x2 r4 hq H.size) rfl rfl ⟨(Nat.le_of_ble_eq_true rfl), (Nat.le_of_ble_eq_true rfl)⟩ (preV_of C hP hD [0, 2, 8] rfl (pl_nd pv_148) 0 rfl rfl rfl) rfl hl.1 rfl (Nat.le_of_ble_eq_true rfl) dX9_isSo_8 ⟨Nat.zero_le _, Nat.zero_le _⟩) hP hD hS hA [0, 2, 8] [1, 3, 4, 5, 6, 7] rfl rfl rfl rfl pv_148 (fun H locs hP hS => ?_)
  refine lv_iload_n (pc := 11) hx hb dX9_isSo_11 rfl (lv_at hl 3 rfl) ?_
  refine lv_icmp_ne (pc := 12) (tgt := 19) hx hb dX9_isSo_12 (by decide) (fun hc => ?_) (fun hc => ?_)
  · have hf := (if_neg hc).symm.trans hf
    refine lv_iconst (pc := 19) (v := 0) hx hb dX9_isSo_19 ic_0 ?_
    have hf := Option.some.inj hf
    subst hf
    exact ret_z C hr hlk isz_0 hP hS dX9_isSo_20
  · have hf := (if_pos hc).symm.trans hf
    refine lv_iconst (pc := 15) (v := 1) hx hb dX9_isSo_15 ic_1 ?_
    refine lv_goto (pc := 16) (tgt := 20) hx hb dX9_isSo_16 (by decide) ?_
    have hf := Option.some.inj hf
    subst hf
    exact ret_z C hr hlk isz_1 hP hS dX9_isSo_20
set_option maxRecDepth 100000 in
theorem c_X9_isSo (l : Launch) (D : va_G) (cA : Nat → ClassId) (b : Nat → Nat) (m_latest : Int32) (m_cells : Int32) (m_wide : Int32) (m_houses : Int32) (m_bowls : Int32) (m_dogs : Int32) (m_gone : Int32) (m_sights : Int32) (m_drawn : Int32) (m_cell : Nat → Int32) (m_house : Nat → Int32) (m_settings : Nat → Int32) (m_bowl : Nat → Int32) (m_dog : Nat → Int32) (m_path : Nat → Int32) (m_steps : Nat → Int32) (m_line : Nat → Int32) (x1 : Int32) (x2 : Int32) (x3 : Int32) (r : Int32 × (Nat → Int32) × (Nat → Int32) × (Nat → Int32)) (hf : f_X9_isSo m_cells m_wide m_bowls m_dogs m_gone m_cell m_house m_settings m_bowl m_dog m_path m_steps m_line x1 x2 x3 = some r) (sz : Nat) : Met l yX9_isSo (Cond.code yX9_isSo cX9_isSo 4 (some .boolean) :: lw_good) rm_X9_isSo (PreX D cA [.ref (b 0), .int x1, .int x2, .int x3] sz (wl_X9_isSo cA b m_latest m_cells m_wide m_houses m_bowls m_dogs m_gone m_sights m_drawn m_cell m_house m_settings m_bowl m_dog m_path m_steps m_line)) (PostI D r.1 (wl_X9_isSo cA b m_latest m_cells m_wide m_houses m_bowls m_dogs m_gone m_sights m_drawn m_cell m_house m_settings m_bowl m_dog m_path m_steps m_line) (wl_X9_isSo cA b m_latest m_cells m_wide m_houses m_bowls m_dogs m_gone m_sights m_drawn m_cell m_house m_settings m_bowl m_dog (r.2.1) (r.2.2.1) (r.2.2.2)) sz) 0 0 (va_A (wl_X9_isSo cA b m_latest m_cells m_wide m_houses m_bowls m_dogs m_gone m_sights m_drawn m_cell m_house m_settings m_bowl m_dog m_path m_steps m_line) sz) :=
  met_of (by decide) (Nat.le_of_ble_eq_true rfl) (fun p e s m args below meth c C hr hlk hA => k_X9_isSo C hr hlk hA b m_latest m_cells m_wide m_houses m_bowls m_dogs m_gone m_sights m_drawn m_cell m_house m_settings m_bowl m_dog m_path m_steps m_line x1 x2 x3 r hf)
end

abbrev wl_X9_layOutOf (cA : Nat → ClassId) (b : Nat → Nat) (m_latest : Int32) (m_cells : Int32) (m_wide : Int32) (m_houses : Int32) (m_bowls : Int32) (m_dogs : Int32) (m_gone : Int32) (m_sights : Int32) (m_drawn : Int32) (m_cell : Nat → Int32) (m_house : Nat → Int32) (m_settings : Nat → Int32) (m_bowl : Nat → Int32) (m_dog : Nat → Int32) (m_path : Nat → Int32) (m_steps : Nat → Int32) (m_line : Nat → Int32) : va_W := [((b 0), .inr (9, [.ref (b 1), .ref (b 2), .ref (b 3), .ref (b 4), .int m_latest, .ref (b 5), .ref (b 6), .int m_cells, .int m_wide, .ref (b 7), .int m_houses, .ref (b 8), .ref (b 9), .int m_bowls, .ref (b 10), .int m_dogs, .ref (b 11), .int m_gone, .ref (b 12), .ref (b 13), .ref (b 14), .int m_sights, .ref (b 15), .ref (b 16), .int m_drawn])), ((b 7), .inl (cA 0, 36, .inl m_cell)), ((b 8), .inl (cA 0, 16, .inl m_house)), ((b 9), .inl (cA 0, 2, .inl m_settings)), ((b 10), .inl (cA 0, 20, .inl m_bowl)), ((b 11), .inl (cA 0, 16, .inl m_dog)), ((b 12), .inl (cA 0, 250, .inl m_path)), ((b 13), .inl (cA 0, 10, .inl m_steps)), ((b 14), .inl (cA 0, 60, .inl m_line))]
abbrev rm_X9_layOutOf : Room := { frames := 6, cells := 0, slots := 0, locals := 150 }
section
variable {p : Program} {l : Launch} {e : Env} {s : State} {m : MethodId} {args : Array Value} {below : List Frame} {meth : Method} {c : Code} {D : va_G} {cA : Nat → ClassId} {ws0 : va_W} {sz : Nat} {A : Nat → Prop} {Q : State → Prop}
def f_X9_layOutOf_L31 (m_cells : Int32) (m_wide : Int32) (m_dogs : Int32) (m_gone : Int32) (m_cell : Nat → Int32) (m_house : Nat → Int32) (m_settings : Nat → Int32) (m_dog : Nat → Int32) (x1 : Int32) (x2 : Int32) (x3 : Int32) (x5 : Int32) (x6 : Int32) (m_bowls : Int32) (m_bowl : Nat → Int32) (m_path : Nat → Int32) (m_steps : Nat → Int32) (m_line : Nat → Int32) : Option ((Int32 × Int32 × (Nat → Int32) × (Nat → Int32) × (Nat → Int32) × (Nat → Int32)) ⊕ ((Int32 × Int32 × (Nat → Int32) × (Nat → Int32) × (Nat → Int32) × (Nat → Int32)) ⊕ (Int32 × (Nat → Int32) × (Nat → Int32) × (Nat → Int32) × (Nat → Int32)))) :=
  if m_cells ≤ x6 then (some (.inr (.inr (m_bowls, m_bowl, m_path, m_steps, m_line)))) else (bind2 (f_X9_puts m_bowls m_bowl x1 x6) (fun c5 c6 => bind4 (f_X9_isSo m_cells m_wide c5 m_dogs m_gone m_cell m_house m_settings c6 m_dog m_path m_steps m_line x1 x2 x3) (fun r7 c8 c9 c10 => if r7 = 0 then (some (.inl ((x6 + 1), x5, c6, c8, c9, c10))) else (some (.inr (.inl (x6, x5, c6, c8, c9, c10)))))))
set_option maxHeartbeats 4000000 in
set_option maxRecDepth 100000 in
theorem k_X9_layOutOf_L31 (C : Cx RX9 cX9_layOutOf 9 D cA p s m args c) (hA : ∀ q, s.heap.size ≤ q → A q) (b : Nat → Nat) (m_latest : Int32) (m_cells : Int32) (m_wide : Int32) (m_houses : Int32) (m_dogs : Int32) (m_gone : Int32) (m_sights : Int32) (m_drawn : Int32) (m_cell : Nat → Int32) (m_house : Nat → Int32) (m_settings : Nat → Int32) (m_dog : Nat → Int32) (x1 : Int32) (x2 : Int32) (x3 : Int32) (x4 : Int32) (x5 : Int32) (x6 : Int32) (m_bowls : Int32) (m_bowl : Nat → Int32) (m_path : Nat → Int32) (m_steps : Nat → Int32) (m_line : Nat → Int32) (r : (Int32 × Int32 × (Nat → Int32) × (Nat → Int32) × (Nat → Int32) × (Nat → Int32)) ⊕ ((Int32 × Int32 × (Nat → Int32) × (Nat → Int32) × (Nat → Int32) × (Nat → Int32)) ⊕ (Int32 × (Nat → Int32) × (Nat → Int32) × (Nat → Int32) × (Nat → Int32)))) (hf : f_X9_layOutOf_L31 m_cells m_wide m_dogs m_gone m_cell m_house m_settings m_dog x1 x2 x3 x5 x6 m_bowls m_bowl m_path m_steps m_line = some r) (hK : Sum.elim (fun q : Int32 × Int32 × (Nat → Int32) × (Nat → Int32) × (Nat → Int32) × (Nat → Int32) => At p l e rm_X9_layOutOf s m args below meth c D A 0 0 Q 9 31 (wl_X9_layOutOf cA b m_latest m_cells m_wide m_houses (q.2.1) m_dogs m_gone m_sights m_drawn m_cell m_house m_settings (q.2.2.1) m_dog (q.2.2.2.1) (q.2.2.2.2.1) (q.2.2.2.2.2)) [(0, .ref (b 0)), (1, .int x1), (2, .int x2), (3, .int x3), (4, .int x4), (5, .int x5), (6, .int (q.1))] []) (Sum.elim (fun q : Int32 × Int32 × (Nat → Int32) × (Nat → Int32) × (Nat → Int32) × (Nat → Int32) => At p l e rm_X9_layOutOf s m args below meth c D A 0 0 Q 9 67 (wl_X9_layOutOf cA b m_latest m_cells m_wide m_houses (q.2.1) m_dogs m_gone m_sights m_drawn m_cell m_house m_settings (q.2.2.1) m_dog (q.2.2.2.1) (q.2.2.2.2.1) (q.2.2.2.2.2)) [(4, .int x4), (6, .int (q.1))] []) (fun q : Int32 × (Nat → Int32) × (Nat → Int32) × (Nat → Int32) × (Nat → Int32) => At p l e rm_X9_layOutOf s m args below meth c D A 0 0 Q 9 95 (wl_X9_layOutOf cA b m_latest m_cells m_wide m_houses (q.1) m_dogs m_gone m_sights m_drawn m_cell m_house m_settings (q.2.1) m_dog (q.2.2.1) (q.2.2.2.1) (q.2.2.2.2)) [(0, .ref (b 0)), (1, .int x1), (2, .int x2), (3, .int x3), (4, .int x4), (5, .int x5)] [])) r) : At p l e rm_X9_layOutOf s m args below meth c D A 0 0 Q 9 31 (wl_X9_layOutOf cA b m_latest m_cells m_wide m_houses m_bowls m_dogs m_gone m_sights m_drawn m_cell m_house m_settings m_bowl m_dog m_path m_steps m_line) [(0, .ref (b 0)), (1, .int x1), (2, .int x2), (3, .int x3), (4, .int x4), (5, .int x5), (6, .int x6)] [] := by
  intro H locs ls hP hD hS hl
  have hx := C.1
  have hb := C.2.1
  have hown := C.2.2.2.1
  have hts := C.2.2.2.2.1
  unfold f_X9_layOutOf_L31 at hf
  refine lv_iload (pc := 31) hx hb dX9_layOutOf_31 (lv_at hl 6 rfl) ?_
  refine lv_aload_n (pc := 33) hx hb dX9_layOutOf_33 rfl (lv_at hl 0 rfl) ?_
  refine g_get (pc := 34) C fg_X9_94 hP 0 rfl rfl dX9_layOutOf_34 ?_
  refine lv_icmp_ge (pc := 37) (tgt := 95) hx hb dX9_layOutOf_37 (by decide) (fun hc => ?_) (fun hc => ?_)
  · have hf := (if_pos hc).symm.trans hf
    have hf := Option.some.inj hf
    subst hf
    exact hK H locs ls hP hD hS (lv_sub hl [0, 1, 2, 3, 4, 5] rfl)
  · have hf := (if_neg hc).symm.trans hf
    refine lv_aload_n (pc := 40) hx hb dX9_layOutOf_40 rfl (lv_at hl 0 rfl) ?_
    refine lv_iload_n (pc := 41) hx hb dX9_layOutOf_41 rfl (lv_at hl 1 rfl) ?_
    refine lv_iload (pc := 42) hx hb dX9_layOutOf_42 (lv_at hl 6 rfl) ?_
    obtain ⟨c5, c6, hq, hf⟩ := bind2_some hf
    refine fin2_v (wl_X9_layOutOf cA b m_latest m_cells m_wide m_houses c5 m_dogs m_gone m_sights m_drawn m_cell m_house m_settings c6 m_dog m_path m_steps m_line) (run_V (rest := []) (pc := 44) (As := [.int x1, .int x6]) C mf_X9_139 (c_X9_puts l D cA b m_latest m_cells m_wide m_houses m_bowls m_dogs m_gone m_sights m_drawn m_bowl x1 x6 (c5, c6) hq H.size) rfl rfl ⟨(Nat.le_of_ble_eq_true rfl), (Nat.le_of_ble_eq_true rfl)⟩ (preV_of C hP hD [0, 4] rfl (pl_nd pv_150) 0 rfl rfl rfl) rfl hl.1 rfl (Nat.le_of_ble_eq_true rfl) dX9_layOutOf_44 ⟨Nat.zero_le _, Nat.zero_le _⟩) hP hD hS hA [0, 4] [1, 2, 3, 5, 6, 7, 8] rfl rfl rfl rfl pv_150 (fun H locs hP hS => ?_)
    have hD : va_D A (wl_X9_layOutOf cA b m_latest m_cells m_wide m_houses c5 m_dogs m_gone m_sights m_drawn m_cell m_house m_settings c6 m_dog m_path m_steps m_line) := vd_a hD rfl
    refine lv_aload_n (pc := 47) hx hb dX9_layOutOf_47 rfl (lv_at hl 0 rfl) ?_
    refine lv_iload_n (pc := 48) hx hb dX9_layOutOf_48 rfl (lv_at hl 1 rfl) ?_
    refine lv_iload_n (pc := 49) hx hb dX9_layOutOf_49 rfl (lv_at hl 2 rfl) ?_
    refine lv_iload_n (pc := 50) hx hb dX9_layOutOf_50 rfl (lv_at hl 3 rfl) ?_
    obtain ⟨r7, c8, c9, c10, hq, hf⟩ := bind4_some hf
    refine fin2_i (wl_X9_layOutOf cA b m_latest m_cells m_wide m_houses c5 m_dogs m_gone m_sights m_drawn m_cell m_house m_settings c6 m_dog c8 c9 c10) (run_V (rest := []) (pc := 51) (As := [.int x1, .int x2, .int x3]) C mf_X9_210 (c_X9_isSo l D cA b m_latest m_cells m_wide m_houses c5 m_dogs m_gone m_sights m_drawn m_cell m_house m_settings c6 m_dog m_path m_steps m_line x1 x2 x3 (r7, c8, c9, c10) hq H.size) rfl rfl ⟨(Nat.le_of_ble_eq_true rfl), (Nat.le_of_ble_eq_true rfl)⟩ (preV_of C hP hD [0, 1, 2, 3, 4, 5, 6, 7, 8] rfl (pl_nd pv_149) 0 rfl rfl rfl) rfl hl.1 rfl (Nat.le_of_ble_eq_true rfl) dX9_layOutOf_51 ⟨Nat.zero_le _, Nat.zero_le _⟩) hP hD hS hA [0, 1, 2, 3, 4, 5, 6, 7, 8] [] rfl rfl rfl rfl pv_149 (fun H locs hP hS => ?_)
    have hD : va_D A (wl_X9_layOutOf cA b m_latest m_cells m_wide m_houses c5 m_dogs m_gone m_sights m_drawn m_cell m_house m_settings c6 m_dog c8 c9 c10) := vd_a hD rfl
    refine lv_istore (pc := 54) (lv' := [(7, .int r7), (0, .ref (b 0)), (1, .int x1), (2, .int x2), (3, .int x3), (4, .int x4), (5, .int x5), (6, .int x6)]) hx hb dX9_layOutOf_54 hl (Nat.le_of_ble_eq_true rfl) rfl (fun ls hl => ?_)
    refine lv_aload_n (pc := 56) hx hb dX9_layOutOf_56 rfl (lv_at hl 1 rfl) ?_
    refine lv_iload (pc := 57) hx hb dX9_layOutOf_57 (lv_at hl 6 rfl) ?_
    refine g_put (pc := 59) C fg_X9_133 ft_X9_13 hP hD hS 0 rfl rfl rfl (Nat.le_of_ble_eq_true rfl) dX9_layOutOf_59 (fun H locs hP hD hS => ?_)
    have hP : va_P D classes (wl_X9_layOutOf cA b m_latest m_cells m_wide m_houses x5 m_dogs m_gone m_sights m_drawn m_cell m_house m_settings c6 m_dog c8 c9 c10) H := hP
    have hD : va_D A (wl_X9_layOutOf cA b m_latest m_cells m_wide m_houses x5 m_dogs m_gone m_sights m_drawn m_cell m_house m_settings c6 m_dog c8 c9 c10) := hD
    refine lv_iload (pc := 62) hx hb dX9_layOutOf_62 (lv_at hl 0 rfl) ?_
    refine lv_if_eq (pc := 64) (tgt := 89) hx hb dX9_layOutOf_64 (by decide) (fun hc => ?_) (fun hc => ?_)
    · have hf := (if_pos hc).symm.trans hf
      refine lv_iinc (pc := 89) (v := (x6 + 1)) (lv' := [(6, .int (x6 + 1)), (7, .int r7), (0, .ref (b 0)), (1, .int x1), (2, .int x2), (3, .int x3), (4, .int x4), (5, .int x5)]) hx hb dX9_layOutOf_89 hl (k := 7) rfl rfl (Nat.le_of_ble_eq_true rfl) rfl (fun ls hl => ?_)
      refine lv_goto (pc := 92) (tgt := 31) hx hb dX9_layOutOf_92 (by decide) ?_
      have hf := Option.some.inj hf
      subst hf
      exact hK H locs ls hP hD hS (lv_sub hl [2, 3, 4, 5, 6, 7, 0] rfl)
    · have hf := (if_neg hc).symm.trans hf
      have hf := Option.some.inj hf
      subst hf
      exact hK H locs ls hP hD hS (lv_sub hl [5, 7] rfl)
theorem kl_X9_layOutOf_L31 (C : Cx RX9 cX9_layOutOf 9 D cA p s m args c) (hA : ∀ q, s.heap.size ≤ q → A q) (b : Nat → Nat) (m_latest : Int32) (m_cells : Int32) (m_wide : Int32) (m_houses : Int32) (m_dogs : Int32) (m_gone : Int32) (m_sights : Int32) (m_drawn : Int32) (m_cell : Nat → Int32) (m_house : Nat → Int32) (m_settings : Nat → Int32) (m_dog : Nat → Int32) (x1 : Int32) (x2 : Int32) (x3 : Int32) (x4 : Int32) (x5 : Int32) : ∀ (n : Nat) (q : Int32 × Int32 × (Nat → Int32) × (Nat → Int32) × (Nat → Int32) × (Nat → Int32)) (z : ((Int32 × Int32 × (Nat → Int32) × (Nat → Int32) × (Nat → Int32) × (Nat → Int32)) ⊕ (Int32 × (Nat → Int32) × (Nat → Int32) × (Nat → Int32) × (Nat → Int32)))), loopF (fun q : Int32 × Int32 × (Nat → Int32) × (Nat → Int32) × (Nat → Int32) × (Nat → Int32) => f_X9_layOutOf_L31 m_cells m_wide m_dogs m_gone m_cell m_house m_settings m_dog x1 x2 x3 x5 q.1 q.2.1 q.2.2.1 q.2.2.2.1 q.2.2.2.2.1 q.2.2.2.2.2) n q = some z → (Sum.elim (fun q : Int32 × Int32 × (Nat → Int32) × (Nat → Int32) × (Nat → Int32) × (Nat → Int32) => At p l e rm_X9_layOutOf s m args below meth c D A 0 0 Q 9 67 (wl_X9_layOutOf cA b m_latest m_cells m_wide m_houses (q.2.1) m_dogs m_gone m_sights m_drawn m_cell m_house m_settings (q.2.2.1) m_dog (q.2.2.2.1) (q.2.2.2.2.1) (q.2.2.2.2.2)) [(4, .int x4), (6, .int (q.1))] []) (fun q : Int32 × (Nat → Int32) × (Nat → Int32) × (Nat → Int32) × (Nat → Int32) => At p l e rm_X9_layOutOf s m args below meth c D A 0 0 Q 9 95 (wl_X9_layOutOf cA b m_latest m_cells m_wide m_houses (q.1) m_dogs m_gone m_sights m_drawn m_cell m_house m_settings (q.2.1) m_dog (q.2.2.1) (q.2.2.2.1) (q.2.2.2.2)) [(0, .ref (b 0)), (1, .int x1), (2, .int x2), (3, .int x3), (4, .int x4), (5, .int x5)] [])) z → At p l e rm_X9_layOutOf s m args below meth c D A 0 0 Q 9 31 (wl_X9_layOutOf cA b m_latest m_cells m_wide m_houses (q.2.1) m_dogs m_gone m_sights m_drawn m_cell m_house m_settings (q.2.2.1) m_dog (q.2.2.2.1) (q.2.2.2.2.1) (q.2.2.2.2.2)) [(0, .ref (b 0)), (1, .int x1), (2, .int x2), (3, .int x3), (4, .int x4), (5, .int x5), (6, .int (q.1))] [] :=
  loop_lem (WP := fun q : Int32 × Int32 × (Nat → Int32) × (Nat → Int32) × (Nat → Int32) × (Nat → Int32) => At p l e rm_X9_layOutOf s m args below meth c D A 0 0 Q 9 31 (wl_X9_layOutOf cA b m_latest m_cells m_wide m_houses (q.2.1) m_dogs m_gone m_sights m_drawn m_cell m_house m_settings (q.2.2.1) m_dog (q.2.2.2.1) (q.2.2.2.2.1) (q.2.2.2.2.2)) [(0, .ref (b 0)), (1, .int x1), (2, .int x2), (3, .int x3), (4, .int x4), (5, .int x5), (6, .int (q.1))] []) (WE := (Sum.elim (fun q : Int32 × Int32 × (Nat → Int32) × (Nat → Int32) × (Nat → Int32) × (Nat → Int32) => At p l e rm_X9_layOutOf s m args below meth c D A 0 0 Q 9 67 (wl_X9_layOutOf cA b m_latest m_cells m_wide m_houses (q.2.1) m_dogs m_gone m_sights m_drawn m_cell m_house m_settings (q.2.2.1) m_dog (q.2.2.2.1) (q.2.2.2.2.1) (q.2.2.2.2.2)) [(4, .int x4), (6, .int (q.1))] []) (fun q : Int32 × (Nat → Int32) × (Nat → Int32) × (Nat → Int32) × (Nat → Int32) => At p l e rm_X9_layOutOf s m args below meth c D A 0 0 Q 9 95 (wl_X9_layOutOf cA b m_latest m_cells m_wide m_houses (q.1) m_dogs m_gone m_sights m_drawn m_cell m_house m_settings (q.2.1) m_dog (q.2.2.1) (q.2.2.2.1) (q.2.2.2.2)) [(0, .ref (b 0)), (1, .int x1), (2, .int x2), (3, .int x3), (4, .int x4), (5, .int x5)] []))) (fun q r hf hK => k_X9_layOutOf_L31 C hA b m_latest m_cells m_wide m_houses m_dogs m_gone m_sights m_drawn m_cell m_house m_settings m_dog x1 x2 x3 x4 x5 q.1 q.2.1 q.2.2.1 q.2.2.2.1 q.2.2.2.2.1 q.2.2.2.2.2 r hf hK)
def f_X9_layOutOf_L111 (m_cells : Int32) (m_wide : Int32) (m_dogs : Int32) (m_gone : Int32) (m_cell : Nat → Int32) (m_house : Nat → Int32) (m_settings : Nat → Int32) (m_dog : Nat → Int32) (x1 : Int32) (x2 : Int32) (x3 : Int32) (x5 : Int32) (x6 : Int32) (x7 : Int32) (m_bowls : Int32) (m_bowl : Nat → Int32) (m_path : Nat → Int32) (m_steps : Nat → Int32) (m_line : Nat → Int32) : Option ((Int32 × Int32 × (Nat → Int32) × (Nat → Int32) × (Nat → Int32) × (Nat → Int32)) ⊕ ((Int32 × Int32 × (Nat → Int32) × (Nat → Int32) × (Nat → Int32) × (Nat → Int32)) ⊕ (Int32 × (Nat → Int32) × (Nat → Int32) × (Nat → Int32) × (Nat → Int32)))) :=
  if m_cells ≤ x7 then (some (.inr (.inr (m_bowls, m_bowl, m_path, m_steps, m_line)))) else (bind2 (f_X9_puts m_bowls m_bowl x1 x6) (fun c22 c23 => bind2 (f_X9_puts c22 c23 x1 x7) (fun c24 c25 => bind4 (f_X9_isSo m_cells m_wide c24 m_dogs m_gone m_cell m_house m_settings c25 m_dog m_path m_steps m_line x1 x2 x3) (fun r26 c27 c28 c29 => if r26 = 0 then (some (.inl ((x7 + 1), x5, c25, c27, c28, c29))) else (some (.inr (.inl (x7, x5, c25, c27, c28, c29))))))))
set_option maxHeartbeats 4000000 in
set_option maxRecDepth 100000 in
theorem k_X9_layOutOf_L111 (C : Cx RX9 cX9_layOutOf 9 D cA p s m args c) (hA : ∀ q, s.heap.size ≤ q → A q) (b : Nat → Nat) (m_latest : Int32) (m_cells : Int32) (m_wide : Int32) (m_houses : Int32) (m_dogs : Int32) (m_gone : Int32) (m_sights : Int32) (m_drawn : Int32) (m_cell : Nat → Int32) (m_house : Nat → Int32) (m_settings : Nat → Int32) (m_dog : Nat → Int32) (x1 : Int32) (x2 : Int32) (x3 : Int32) (x4 : Int32) (x5 : Int32) (x6 : Int32) (x7 : Int32) (m_bowls : Int32) (m_bowl : Nat → Int32) (m_path : Nat → Int32) (m_steps : Nat → Int32) (m_line : Nat → Int32) (r : (Int32 × Int32 × (Nat → Int32) × (Nat → Int32) × (Nat → Int32) × (Nat → Int32)) ⊕ ((Int32 × Int32 × (Nat → Int32) × (Nat → Int32) × (Nat → Int32) × (Nat → Int32)) ⊕ (Int32 × (Nat → Int32) × (Nat → Int32) × (Nat → Int32) × (Nat → Int32)))) (hf : f_X9_layOutOf_L111 m_cells m_wide m_dogs m_gone m_cell m_house m_settings m_dog x1 x2 x3 x5 x6 x7 m_bowls m_bowl m_path m_steps m_line = some r) (hK : Sum.elim (fun q : Int32 × Int32 × (Nat → Int32) × (Nat → Int32) × (Nat → Int32) × (Nat → Int32) => At p l e rm_X9_layOutOf s m args below meth c D A 0 0 Q 9 111 (wl_X9_layOutOf cA b m_latest m_cells m_wide m_houses (q.2.1) m_dogs m_gone m_sights m_drawn m_cell m_house m_settings (q.2.2.1) m_dog (q.2.2.2.1) (q.2.2.2.2.1) (q.2.2.2.2.2)) [(0, .ref (b 0)), (1, .int x1), (2, .int x2), (3, .int x3), (4, .int x4), (5, .int x5), (6, .int x6), (7, .int (q.1))] []) (Sum.elim (fun q : Int32 × Int32 × (Nat → Int32) × (Nat → Int32) × (Nat → Int32) × (Nat → Int32) => At p l e rm_X9_layOutOf s m args below meth c D A 0 0 Q 9 154 (wl_X9_layOutOf cA b m_latest m_cells m_wide m_houses (q.2.1) m_dogs m_gone m_sights m_drawn m_cell m_house m_settings (q.2.2.1) m_dog (q.2.2.2.1) (q.2.2.2.2.1) (q.2.2.2.2.2)) [(4, .int x4), (6, .int x6), (7, .int (q.1))] []) (fun q : Int32 × (Nat → Int32) × (Nat → Int32) × (Nat → Int32) × (Nat → Int32) => At p l e rm_X9_layOutOf s m args below meth c D A 0 0 Q 9 183 (wl_X9_layOutOf cA b m_latest m_cells m_wide m_houses (q.1) m_dogs m_gone m_sights m_drawn m_cell m_house m_settings (q.2.1) m_dog (q.2.2.1) (q.2.2.2.1) (q.2.2.2.2)) [(0, .ref (b 0)), (1, .int x1), (2, .int x2), (3, .int x3), (4, .int x4), (5, .int x5), (6, .int x6)] [])) r) : At p l e rm_X9_layOutOf s m args below meth c D A 0 0 Q 9 111 (wl_X9_layOutOf cA b m_latest m_cells m_wide m_houses m_bowls m_dogs m_gone m_sights m_drawn m_cell m_house m_settings m_bowl m_dog m_path m_steps m_line) [(0, .ref (b 0)), (1, .int x1), (2, .int x2), (3, .int x3), (4, .int x4), (5, .int x5), (6, .int x6), (7, .int x7)] [] := by
  intro H locs ls hP hD hS hl
  have hx := C.1
  have hb := C.2.1
  have hown := C.2.2.2.1
  have hts := C.2.2.2.2.1
  unfold f_X9_layOutOf_L111 at hf
  refine lv_iload (pc := 111) hx hb dX9_layOutOf_111 (lv_at hl 7 rfl) ?_
  refine lv_aload_n (pc := 113) hx hb dX9_layOutOf_113 rfl (lv_at hl 0 rfl) ?_
  refine g_get (pc := 114) C fg_X9_94 hP 0 rfl rfl dX9_layOutOf_114 ?_
  refine lv_icmp_ge (pc := 117) (tgt := 183) hx hb dX9_layOutOf_117 (by decide) (fun hc => ?_) (fun hc => ?_)
  · have hf := (if_pos hc).symm.trans hf
    have hf := Option.some.inj hf
    subst hf
    exact hK H locs ls hP hD hS (lv_sub hl [0, 1, 2, 3, 4, 5, 6] rfl)
  · have hf := (if_neg hc).symm.trans hf
    refine lv_aload_n (pc := 120) hx hb dX9_layOutOf_120 rfl (lv_at hl 0 rfl) ?_
    refine lv_iload_n (pc := 121) hx hb dX9_layOutOf_121 rfl (lv_at hl 1 rfl) ?_
    refine lv_iload (pc := 122) hx hb dX9_layOutOf_122 (lv_at hl 6 rfl) ?_
    obtain ⟨c22, c23, hq, hf⟩ := bind2_some hf
    refine fin2_v (wl_X9_layOutOf cA b m_latest m_cells m_wide m_houses c22 m_dogs m_gone m_sights m_drawn m_cell m_house m_settings c23 m_dog m_path m_steps m_line) (run_V (rest := []) (pc := 124) (As := [.int x1, .int x6]) C mf_X9_139 (c_X9_puts l D cA b m_latest m_cells m_wide m_houses m_bowls m_dogs m_gone m_sights m_drawn m_bowl x1 x6 (c22, c23) hq H.size) rfl rfl ⟨(Nat.le_of_ble_eq_true rfl), (Nat.le_of_ble_eq_true rfl)⟩ (preV_of C hP hD [0, 4] rfl (pl_nd pv_150) 0 rfl rfl rfl) rfl hl.1 rfl (Nat.le_of_ble_eq_true rfl) dX9_layOutOf_124 ⟨Nat.zero_le _, Nat.zero_le _⟩) hP hD hS hA [0, 4] [1, 2, 3, 5, 6, 7, 8] rfl rfl rfl rfl pv_150 (fun H locs hP hS => ?_)
    have hD : va_D A (wl_X9_layOutOf cA b m_latest m_cells m_wide m_houses c22 m_dogs m_gone m_sights m_drawn m_cell m_house m_settings c23 m_dog m_path m_steps m_line) := vd_a hD rfl
    refine lv_aload_n (pc := 127) hx hb dX9_layOutOf_127 rfl (lv_at hl 0 rfl) ?_
    refine lv_iload_n (pc := 128) hx hb dX9_layOutOf_128 rfl (lv_at hl 1 rfl) ?_
    refine lv_iload (pc := 129) hx hb dX9_layOutOf_129 (lv_at hl 7 rfl) ?_
    obtain ⟨c24, c25, hq, hf⟩ := bind2_some hf
    refine fin2_v (wl_X9_layOutOf cA b m_latest m_cells m_wide m_houses c24 m_dogs m_gone m_sights m_drawn m_cell m_house m_settings c25 m_dog m_path m_steps m_line) (run_V (rest := []) (pc := 131) (As := [.int x1, .int x7]) C mf_X9_139 (c_X9_puts l D cA b m_latest m_cells m_wide m_houses c22 m_dogs m_gone m_sights m_drawn c23 x1 x7 (c24, c25) hq H.size) rfl rfl ⟨(Nat.le_of_ble_eq_true rfl), (Nat.le_of_ble_eq_true rfl)⟩ (preV_of C hP hD [0, 4] rfl (pl_nd pv_150) 0 rfl rfl rfl) rfl hl.1 rfl (Nat.le_of_ble_eq_true rfl) dX9_layOutOf_131 ⟨Nat.zero_le _, Nat.zero_le _⟩) hP hD hS hA [0, 4] [1, 2, 3, 5, 6, 7, 8] rfl rfl rfl rfl pv_150 (fun H locs hP hS => ?_)
    have hD : va_D A (wl_X9_layOutOf cA b m_latest m_cells m_wide m_houses c24 m_dogs m_gone m_sights m_drawn m_cell m_house m_settings c25 m_dog m_path m_steps m_line) := vd_a hD rfl
    refine lv_aload_n (pc := 134) hx hb dX9_layOutOf_134 rfl (lv_at hl 0 rfl) ?_
    refine lv_iload_n (pc := 135) hx hb dX9_layOutOf_135 rfl (lv_at hl 1 rfl) ?_
    refine lv_iload_n (pc := 136) hx hb dX9_layOutOf_136 rfl (lv_at hl 2 rfl) ?_
    refine lv_iload_n (pc := 137) hx hb dX9_layOutOf_137 rfl (lv_at hl 3 rfl) ?_
    obtain ⟨r26, c27, c28, c29, hq, hf⟩ := bind4_some hf
    refine fin2_i (wl_X9_layOutOf cA b m_latest m_cells m_wide m_houses c24 m_dogs m_gone m_sights m_drawn m_cell m_house m_settings c25 m_dog c27 c28 c29) (run_V (rest := []) (pc := 138) (As := [.int x1, .int x2, .int x3]) C mf_X9_210 (c_X9_isSo l D cA b m_latest m_cells m_wide m_houses c24 m_dogs m_gone m_sights m_drawn m_cell m_house m_settings c25 m_dog m_path m_steps m_line x1 x2 x3 (r26, c27, c28, c29) hq H.size) rfl rfl ⟨(Nat.le_of_ble_eq_true rfl), (Nat.le_of_ble_eq_true rfl)⟩ (preV_of C hP hD [0, 1, 2, 3, 4, 5, 6, 7, 8] rfl (pl_nd pv_149) 0 rfl rfl rfl) rfl hl.1 rfl (Nat.le_of_ble_eq_true rfl) dX9_layOutOf_138 ⟨Nat.zero_le _, Nat.zero_le _⟩) hP hD hS hA [0, 1, 2, 3, 4, 5, 6, 7, 8] [] rfl rfl rfl rfl pv_149 (fun H locs hP hS => ?_)
    have hD : va_D A (wl_X9_layOutOf cA b m_latest m_cells m_wide m_houses c24 m_dogs m_gone m_sights m_drawn m_cell m_house m_settings c25 m_dog c27 c28 c29) := vd_a hD rfl
    refine lv_istore (pc := 141) (lv' := [(8, .int r26), (0, .ref (b 0)), (1, .int x1), (2, .int x2), (3, .int x3), (4, .int x4), (5, .int x5), (6, .int x6), (7, .int x7)]) hx hb dX9_layOutOf_141 hl (Nat.le_of_ble_eq_true rfl) rfl (fun ls hl => ?_)
    refine lv_aload_n (pc := 143) hx hb dX9_layOutOf_143 rfl (lv_at hl 1 rfl) ?_
    refine lv_iload (pc := 144) hx hb dX9_layOutOf_144 (lv_at hl 6 rfl) ?_
    refine g_put (pc := 146) C fg_X9_133 ft_X9_13 hP hD hS 0 rfl rfl rfl (Nat.le_of_ble_eq_true rfl) dX9_layOutOf_146 (fun H locs hP hD hS => ?_)
    have hP : va_P D classes (wl_X9_layOutOf cA b m_latest m_cells m_wide m_houses x5 m_dogs m_gone m_sights m_drawn m_cell m_house m_settings c25 m_dog c27 c28 c29) H := hP
    have hD : va_D A (wl_X9_layOutOf cA b m_latest m_cells m_wide m_houses x5 m_dogs m_gone m_sights m_drawn m_cell m_house m_settings c25 m_dog c27 c28 c29) := hD
    refine lv_iload (pc := 149) hx hb dX9_layOutOf_149 (lv_at hl 0 rfl) ?_
    refine lv_if_eq (pc := 151) (tgt := 177) hx hb dX9_layOutOf_151 (by decide) (fun hc => ?_) (fun hc => ?_)
    · have hf := (if_pos hc).symm.trans hf
      refine lv_iinc (pc := 177) (v := (x7 + 1)) (lv' := [(7, .int (x7 + 1)), (8, .int r26), (0, .ref (b 0)), (1, .int x1), (2, .int x2), (3, .int x3), (4, .int x4), (5, .int x5), (6, .int x6)]) hx hb dX9_layOutOf_177 hl (k := 8) rfl rfl (Nat.le_of_ble_eq_true rfl) rfl (fun ls hl => ?_)
      refine lv_goto (pc := 180) (tgt := 111) hx hb dX9_layOutOf_180 (by decide) ?_
      have hf := Option.some.inj hf
      subst hf
      exact hK H locs ls hP hD hS (lv_sub hl [2, 3, 4, 5, 6, 7, 8, 0] rfl)
    · have hf := (if_neg hc).symm.trans hf
      have hf := Option.some.inj hf
      subst hf
      exact hK H locs ls hP hD hS (lv_sub hl [5, 7, 8] rfl)
theorem kl_X9_layOutOf_L111 (C : Cx RX9 cX9_layOutOf 9 D cA p s m args c) (hA : ∀ q, s.heap.size ≤ q → A q) (b : Nat → Nat) (m_latest : Int32) (m_cells : Int32) (m_wide : Int32) (m_houses : Int32) (m_dogs : Int32) (m_gone : Int32) (m_sights : Int32) (m_drawn : Int32) (m_cell : Nat → Int32) (m_house : Nat → Int32) (m_settings : Nat → Int32) (m_dog : Nat → Int32) (x1 : Int32) (x2 : Int32) (x3 : Int32) (x4 : Int32) (x5 : Int32) (x6 : Int32) : ∀ (n : Nat) (q : Int32 × Int32 × (Nat → Int32) × (Nat → Int32) × (Nat → Int32) × (Nat → Int32)) (z : ((Int32 × Int32 × (Nat → Int32) × (Nat → Int32) × (Nat → Int32) × (Nat → Int32)) ⊕ (Int32 × (Nat → Int32) × (Nat → Int32) × (Nat → Int32) × (Nat → Int32)))), loopF (fun q : Int32 × Int32 × (Nat → Int32) × (Nat → Int32) × (Nat → Int32) × (Nat → Int32) => f_X9_layOutOf_L111 m_cells m_wide m_dogs m_gone m_cell m_house m_settings m_dog x1 x2 x3 x5 x6 q.1 q.2.1 q.2.2.1 q.2.2.2.1 q.2.2.2.2.1 q.2.2.2.2.2) n q = some z → (Sum.elim (fun q : Int32 × Int32 × (Nat → Int32) × (Nat → Int32) × (Nat → Int32) × (Nat → Int32) => At p l e rm_X9_layOutOf s m args below meth c D A 0 0 Q 9 154 (wl_X9_layOutOf cA b m_latest m_cells m_wide m_houses (q.2.1) m_dogs m_gone m_sights m_drawn m_cell m_house m_settings (q.2.2.1) m_dog (q.2.2.2.1) (q.2.2.2.2.1) (q.2.2.2.2.2)) [(4, .int x4), (6, .int x6), (7, .int (q.1))] []) (fun q : Int32 × (Nat → Int32) × (Nat → Int32) × (Nat → Int32) × (Nat → Int32) => At p l e rm_X9_layOutOf s m args below meth c D A 0 0 Q 9 183 (wl_X9_layOutOf cA b m_latest m_cells m_wide m_houses (q.1) m_dogs m_gone m_sights m_drawn m_cell m_house m_settings (q.2.1) m_dog (q.2.2.1) (q.2.2.2.1) (q.2.2.2.2)) [(0, .ref (b 0)), (1, .int x1), (2, .int x2), (3, .int x3), (4, .int x4), (5, .int x5), (6, .int x6)] [])) z → At p l e rm_X9_layOutOf s m args below meth c D A 0 0 Q 9 111 (wl_X9_layOutOf cA b m_latest m_cells m_wide m_houses (q.2.1) m_dogs m_gone m_sights m_drawn m_cell m_house m_settings (q.2.2.1) m_dog (q.2.2.2.1) (q.2.2.2.2.1) (q.2.2.2.2.2)) [(0, .ref (b 0)), (1, .int x1), (2, .int x2), (3, .int x3), (4, .int x4), (5, .int x5), (6, .int x6), (7, .int (q.1))] [] :=
  loop_lem (WP := fun q : Int32 × Int32 × (Nat → Int32) × (Nat → Int32) × (Nat → Int32) × (Nat → Int32) => At p l e rm_X9_layOutOf s m args below meth c D A 0 0 Q 9 111 (wl_X9_layOutOf cA b m_latest m_cells m_wide m_houses (q.2.1) m_dogs m_gone m_sights m_drawn m_cell m_house m_settings (q.2.2.1) m_dog (q.2.2.2.1) (q.2.2.2.2.1) (q.2.2.2.2.2)) [(0, .ref (b 0)), (1, .int x1), (2, .int x2), (3, .int x3), (4, .int x4), (5, .int x5), (6, .int x6), (7, .int (q.1))] []) (WE := (Sum.elim (fun q : Int32 × Int32 × (Nat → Int32) × (Nat → Int32) × (Nat → Int32) × (Nat → Int32) => At p l e rm_X9_layOutOf s m args below meth c D A 0 0 Q 9 154 (wl_X9_layOutOf cA b m_latest m_cells m_wide m_houses (q.2.1) m_dogs m_gone m_sights m_drawn m_cell m_house m_settings (q.2.2.1) m_dog (q.2.2.2.1) (q.2.2.2.2.1) (q.2.2.2.2.2)) [(4, .int x4), (6, .int x6), (7, .int (q.1))] []) (fun q : Int32 × (Nat → Int32) × (Nat → Int32) × (Nat → Int32) × (Nat → Int32) => At p l e rm_X9_layOutOf s m args below meth c D A 0 0 Q 9 183 (wl_X9_layOutOf cA b m_latest m_cells m_wide m_houses (q.1) m_dogs m_gone m_sights m_drawn m_cell m_house m_settings (q.2.1) m_dog (q.2.2.1) (q.2.2.2.1) (q.2.2.2.2)) [(0, .ref (b 0)), (1, .int x1), (2, .int x2), (3, .int x3), (4, .int x4), (5, .int x5), (6, .int x6)] []))) (fun q r hf hK => k_X9_layOutOf_L111 C hA b m_latest m_cells m_wide m_houses m_dogs m_gone m_sights m_drawn m_cell m_house m_settings m_dog x1 x2 x3 x4 x5 x6 q.1 q.2.1 q.2.2.1 q.2.2.2.1 q.2.2.2.2.1 q.2.2.2.2.2 r hf hK)
def f_X9_layOutOf_L98 (m_cells : Int32) (m_wide : Int32) (m_dogs : Int32) (m_gone : Int32) (m_cell : Nat → Int32) (m_house : Nat → Int32) (m_settings : Nat → Int32) (m_dog : Nat → Int32) (x1 : Int32) (x2 : Int32) (x3 : Int32) (x5 : Int32) (x6 : Int32) (m_bowls : Int32) (m_bowl : Nat → Int32) (m_path : Nat → Int32) (m_steps : Nat → Int32) (m_line : Nat → Int32) : Option ((Int32 × Int32 × (Nat → Int32) × (Nat → Int32) × (Nat → Int32) × (Nat → Int32)) ⊕ ((Int32 × Int32 × Int32 × (Nat → Int32) × (Nat → Int32) × (Nat → Int32) × (Nat → Int32)) ⊕ (Int32 × (Nat → Int32) × (Nat → Int32) × (Nat → Int32) × (Nat → Int32)))) :=
  if m_cells ≤ x6 then (some (.inr (.inr (m_bowls, m_bowl, m_path, m_steps, m_line)))) else (bindS (loopF (fun q : Int32 × Int32 × (Nat → Int32) × (Nat → Int32) × (Nat → Int32) × (Nat → Int32) => f_X9_layOutOf_L111 m_cells m_wide m_dogs m_gone m_cell m_house m_settings m_dog x1 x2 x3 x5 x6 q.1 q.2.1 q.2.2.1 q.2.2.2.1 q.2.2.2.2.1 q.2.2.2.2.2) FU (x6, m_bowls, m_bowl, m_path, m_steps, m_line)) (unc6 (fun u30 u31 u32 u33 u34 u35 => some (.inr (.inl (x6, u30, u31, u32, u33, u34, u35))))) (unc5 (fun u36 u37 u38 u39 u40 => some (.inl ((x6 + 1), u36, u37, u38, u39, u40)))))
set_option maxHeartbeats 4000000 in
set_option maxRecDepth 100000 in
theorem k_X9_layOutOf_L98 (C : Cx RX9 cX9_layOutOf 9 D cA p s m args c) (hA : ∀ q, s.heap.size ≤ q → A q) (b : Nat → Nat) (m_latest : Int32) (m_cells : Int32) (m_wide : Int32) (m_houses : Int32) (m_dogs : Int32) (m_gone : Int32) (m_sights : Int32) (m_drawn : Int32) (m_cell : Nat → Int32) (m_house : Nat → Int32) (m_settings : Nat → Int32) (m_dog : Nat → Int32) (x1 : Int32) (x2 : Int32) (x3 : Int32) (x4 : Int32) (x5 : Int32) (x6 : Int32) (m_bowls : Int32) (m_bowl : Nat → Int32) (m_path : Nat → Int32) (m_steps : Nat → Int32) (m_line : Nat → Int32) (r : (Int32 × Int32 × (Nat → Int32) × (Nat → Int32) × (Nat → Int32) × (Nat → Int32)) ⊕ ((Int32 × Int32 × Int32 × (Nat → Int32) × (Nat → Int32) × (Nat → Int32) × (Nat → Int32)) ⊕ (Int32 × (Nat → Int32) × (Nat → Int32) × (Nat → Int32) × (Nat → Int32)))) (hf : f_X9_layOutOf_L98 m_cells m_wide m_dogs m_gone m_cell m_house m_settings m_dog x1 x2 x3 x5 x6 m_bowls m_bowl m_path m_steps m_line = some r) (hK : Sum.elim (fun q : Int32 × Int32 × (Nat → Int32) × (Nat → Int32) × (Nat → Int32) × (Nat → Int32) => At p l e rm_X9_layOutOf s m args below meth c D A 0 0 Q 9 98 (wl_X9_layOutOf cA b m_latest m_cells m_wide m_houses (q.2.1) m_dogs m_gone m_sights m_drawn m_cell m_house m_settings (q.2.2.1) m_dog (q.2.2.2.1) (q.2.2.2.2.1) (q.2.2.2.2.2)) [(0, .ref (b 0)), (1, .int x1), (2, .int x2), (3, .int x3), (4, .int x4), (5, .int x5), (6, .int (q.1))] []) (Sum.elim (fun q : Int32 × Int32 × Int32 × (Nat → Int32) × (Nat → Int32) × (Nat → Int32) × (Nat → Int32) => At p l e rm_X9_layOutOf s m args below meth c D A 0 0 Q 9 154 (wl_X9_layOutOf cA b m_latest m_cells m_wide m_houses (q.2.2.1) m_dogs m_gone m_sights m_drawn m_cell m_house m_settings (q.2.2.2.1) m_dog (q.2.2.2.2.1) (q.2.2.2.2.2.1) (q.2.2.2.2.2.2)) [(4, .int x4), (6, .int (q.1)), (7, .int (q.2.1))] []) (fun q : Int32 × (Nat → Int32) × (Nat → Int32) × (Nat → Int32) × (Nat → Int32) => At p l e rm_X9_layOutOf s m args below meth c D A 0 0 Q 9 189 (wl_X9_layOutOf cA b m_latest m_cells m_wide m_houses (q.1) m_dogs m_gone m_sights m_drawn m_cell m_house m_settings (q.2.1) m_dog (q.2.2.1) (q.2.2.2.1) (q.2.2.2.2)) [] [])) r) : At p l e rm_X9_layOutOf s m args below meth c D A 0 0 Q 9 98 (wl_X9_layOutOf cA b m_latest m_cells m_wide m_houses m_bowls m_dogs m_gone m_sights m_drawn m_cell m_house m_settings m_bowl m_dog m_path m_steps m_line) [(0, .ref (b 0)), (1, .int x1), (2, .int x2), (3, .int x3), (4, .int x4), (5, .int x5), (6, .int x6)] [] := by
  intro H locs ls hP hD hS hl
  have hx := C.1
  have hb := C.2.1
  have hown := C.2.2.2.1
  have hts := C.2.2.2.2.1
  unfold f_X9_layOutOf_L98 at hf
  refine lv_iload (pc := 98) hx hb dX9_layOutOf_98 (lv_at hl 6 rfl) ?_
  refine lv_aload_n (pc := 100) hx hb dX9_layOutOf_100 rfl (lv_at hl 0 rfl) ?_
  refine g_get (pc := 101) C fg_X9_94 hP 0 rfl rfl dX9_layOutOf_101 ?_
  refine lv_icmp_ge (pc := 104) (tgt := 189) hx hb dX9_layOutOf_104 (by decide) (fun hc => ?_) (fun hc => ?_)
  · have hf := (if_pos hc).symm.trans hf
    have hf := Option.some.inj hf
    subst hf
    exact hK H locs ls hP hD hS (lv_sub hl [] rfl)
  · have hf := (if_neg hc).symm.trans hf
    refine lv_iload (pc := 107) hx hb dX9_layOutOf_107 (lv_at hl 6 rfl) ?_
    refine lv_istore (pc := 109) (lv' := [(7, .int x6), (0, .ref (b 0)), (1, .int x1), (2, .int x2), (3, .int x3), (4, .int x4), (5, .int x5), (6, .int x6)]) hx hb dX9_layOutOf_109 hl (Nat.le_of_ble_eq_true rfl) rfl (fun ls hl => ?_)
    rcases bindS_some hf with ⟨z, hq, hf⟩ | ⟨z, hq, hf⟩
    · obtain ⟨u30, u31, u32, u33, u34, u35⟩ := z
      have hf := unc6_some hf
      refine kl_X9_layOutOf_L111 C hA b m_latest m_cells m_wide m_houses m_dogs m_gone m_sights m_drawn m_cell m_house m_settings m_dog x1 x2 x3 x4 x5 x6 FU (x6, m_bowls, m_bowl, m_path, m_steps, m_line) _ hq ?_ H locs ls hP hD hS (lv_sub hl [1, 2, 3, 4, 5, 6, 7, 0] rfl)
      intro H locs ls hP hD hS hl
      have hP : va_P D classes (wl_X9_layOutOf cA b m_latest m_cells m_wide m_houses u31 m_dogs m_gone m_sights m_drawn m_cell m_house m_settings u32 m_dog u33 u34 u35) H := hP
      have hD : va_D A (wl_X9_layOutOf cA b m_latest m_cells m_wide m_houses u31 m_dogs m_gone m_sights m_drawn m_cell m_house m_settings u32 m_dog u33 u34 u35) := hD
      have hl : lv_has ls 9 [(4, .int x4), (6, .int x6), (7, .int u30)] := hl
      have hf := Option.some.inj hf
      subst hf
      exact hK H locs ls hP hD hS hl
    · obtain ⟨u36, u37, u38, u39, u40⟩ := z
      have hf := unc5_some hf
      refine kl_X9_layOutOf_L111 C hA b m_latest m_cells m_wide m_houses m_dogs m_gone m_sights m_drawn m_cell m_house m_settings m_dog x1 x2 x3 x4 x5 x6 FU (x6, m_bowls, m_bowl, m_path, m_steps, m_line) _ hq ?_ H locs ls hP hD hS (lv_sub hl [1, 2, 3, 4, 5, 6, 7, 0] rfl)
      intro H locs ls hP hD hS hl
      have hP : va_P D classes (wl_X9_layOutOf cA b m_latest m_cells m_wide m_houses u36 m_dogs m_gone m_sights m_drawn m_cell m_house m_settings u37 m_dog u38 u39 u40) H := hP
      have hD : va_D A (wl_X9_layOutOf cA b m_latest m_cells m_wide m_houses u36 m_dogs m_gone m_sights m_drawn m_cell m_house m_settings u37 m_dog u38 u39 u40) := hD
      have hl : lv_has ls 9 [(0, .ref (b 0)), (1, .int x1), (2, .int x2), (3, .int x3), (4, .int x4), (5, .int x5), (6, .int x6)] := hl
      refine lv_iinc (pc := 183) (v := (x6 + 1)) (lv' := [(6, .int (x6 + 1)), (0, .ref (b 0)), (1, .int x1), (2, .int x2), (3, .int x3), (4, .int x4), (5, .int x5)]) hx hb dX9_layOutOf_183 hl (k := 6) rfl rfl (Nat.le_of_ble_eq_true rfl) rfl (fun ls hl => ?_)
      refine lv_goto (pc := 186) (tgt := 98) hx hb dX9_layOutOf_186 (by decide) ?_
      have hf := Option.some.inj hf
      subst hf
      exact hK H locs ls hP hD hS (lv_sub hl [1, 2, 3, 4, 5, 6, 0] rfl)
theorem kl_X9_layOutOf_L98 (C : Cx RX9 cX9_layOutOf 9 D cA p s m args c) (hA : ∀ q, s.heap.size ≤ q → A q) (b : Nat → Nat) (m_latest : Int32) (m_cells : Int32) (m_wide : Int32) (m_houses : Int32) (m_dogs : Int32) (m_gone : Int32) (m_sights : Int32) (m_drawn : Int32) (m_cell : Nat → Int32) (m_house : Nat → Int32) (m_settings : Nat → Int32) (m_dog : Nat → Int32) (x1 : Int32) (x2 : Int32) (x3 : Int32) (x4 : Int32) (x5 : Int32) : ∀ (n : Nat) (q : Int32 × Int32 × (Nat → Int32) × (Nat → Int32) × (Nat → Int32) × (Nat → Int32)) (z : ((Int32 × Int32 × Int32 × (Nat → Int32) × (Nat → Int32) × (Nat → Int32) × (Nat → Int32)) ⊕ (Int32 × (Nat → Int32) × (Nat → Int32) × (Nat → Int32) × (Nat → Int32)))), loopF (fun q : Int32 × Int32 × (Nat → Int32) × (Nat → Int32) × (Nat → Int32) × (Nat → Int32) => f_X9_layOutOf_L98 m_cells m_wide m_dogs m_gone m_cell m_house m_settings m_dog x1 x2 x3 x5 q.1 q.2.1 q.2.2.1 q.2.2.2.1 q.2.2.2.2.1 q.2.2.2.2.2) n q = some z → (Sum.elim (fun q : Int32 × Int32 × Int32 × (Nat → Int32) × (Nat → Int32) × (Nat → Int32) × (Nat → Int32) => At p l e rm_X9_layOutOf s m args below meth c D A 0 0 Q 9 154 (wl_X9_layOutOf cA b m_latest m_cells m_wide m_houses (q.2.2.1) m_dogs m_gone m_sights m_drawn m_cell m_house m_settings (q.2.2.2.1) m_dog (q.2.2.2.2.1) (q.2.2.2.2.2.1) (q.2.2.2.2.2.2)) [(4, .int x4), (6, .int (q.1)), (7, .int (q.2.1))] []) (fun q : Int32 × (Nat → Int32) × (Nat → Int32) × (Nat → Int32) × (Nat → Int32) => At p l e rm_X9_layOutOf s m args below meth c D A 0 0 Q 9 189 (wl_X9_layOutOf cA b m_latest m_cells m_wide m_houses (q.1) m_dogs m_gone m_sights m_drawn m_cell m_house m_settings (q.2.1) m_dog (q.2.2.1) (q.2.2.2.1) (q.2.2.2.2)) [] [])) z → At p l e rm_X9_layOutOf s m args below meth c D A 0 0 Q 9 98 (wl_X9_layOutOf cA b m_latest m_cells m_wide m_houses (q.2.1) m_dogs m_gone m_sights m_drawn m_cell m_house m_settings (q.2.2.1) m_dog (q.2.2.2.1) (q.2.2.2.2.1) (q.2.2.2.2.2)) [(0, .ref (b 0)), (1, .int x1), (2, .int x2), (3, .int x3), (4, .int x4), (5, .int x5), (6, .int (q.1))] [] :=
  loop_lem (WP := fun q : Int32 × Int32 × (Nat → Int32) × (Nat → Int32) × (Nat → Int32) × (Nat → Int32) => At p l e rm_X9_layOutOf s m args below meth c D A 0 0 Q 9 98 (wl_X9_layOutOf cA b m_latest m_cells m_wide m_houses (q.2.1) m_dogs m_gone m_sights m_drawn m_cell m_house m_settings (q.2.2.1) m_dog (q.2.2.2.1) (q.2.2.2.2.1) (q.2.2.2.2.2)) [(0, .ref (b 0)), (1, .int x1), (2, .int x2), (3, .int x3), (4, .int x4), (5, .int x5), (6, .int (q.1))] []) (WE := (Sum.elim (fun q : Int32 × Int32 × Int32 × (Nat → Int32) × (Nat → Int32) × (Nat → Int32) × (Nat → Int32) => At p l e rm_X9_layOutOf s m args below meth c D A 0 0 Q 9 154 (wl_X9_layOutOf cA b m_latest m_cells m_wide m_houses (q.2.2.1) m_dogs m_gone m_sights m_drawn m_cell m_house m_settings (q.2.2.2.1) m_dog (q.2.2.2.2.1) (q.2.2.2.2.2.1) (q.2.2.2.2.2.2)) [(4, .int x4), (6, .int (q.1)), (7, .int (q.2.1))] []) (fun q : Int32 × (Nat → Int32) × (Nat → Int32) × (Nat → Int32) × (Nat → Int32) => At p l e rm_X9_layOutOf s m args below meth c D A 0 0 Q 9 189 (wl_X9_layOutOf cA b m_latest m_cells m_wide m_houses (q.1) m_dogs m_gone m_sights m_drawn m_cell m_house m_settings (q.2.1) m_dog (q.2.2.1) (q.2.2.2.1) (q.2.2.2.2)) [] []))) (fun q r hf hK => k_X9_layOutOf_L98 C hA b m_latest m_cells m_wide m_houses m_dogs m_gone m_sights m_drawn m_cell m_house m_settings m_dog x1 x2 x3 x4 x5 q.1 q.2.1 q.2.2.1 q.2.2.2.1 q.2.2.2.2.1 q.2.2.2.2.2 r hf hK)
def f_X9_layOutOf (m_cells : Int32) (m_wide : Int32) (m_bowls : Int32) (m_dogs : Int32) (m_gone : Int32) (m_cell : Nat → Int32) (m_house : Nat → Int32) (m_settings : Nat → Int32) (m_bowl : Nat → Int32) (m_dog : Nat → Int32) (m_path : Nat → Int32) (m_steps : Nat → Int32) (m_line : Nat → Int32) (x1 : Int32) (x2 : Int32) (x3 : Int32) (x4 : Int32) : Option (Int32 × Int32 × (Nat → Int32) × (Nat → Int32) × (Nat → Int32) × (Nat → Int32)) :=
  bind4 (f_X9_isSo m_cells m_wide m_bowls m_dogs m_gone m_cell m_house m_settings m_bowl m_dog m_path m_steps m_line x1 x2 x3) (fun r1 c2 c3 c4 => if r1 = 0 then (bindS (loopF (fun q : Int32 × Int32 × (Nat → Int32) × (Nat → Int32) × (Nat → Int32) × (Nat → Int32) => f_X9_layOutOf_L31 m_cells m_wide m_dogs m_gone m_cell m_house m_settings m_dog x1 x2 x3 m_bowls q.1 q.2.1 q.2.2.1 q.2.2.2.1 q.2.2.2.2.1 q.2.2.2.2.2) FU ((0 : Int32), m_bowls, m_bowl, c2, c3, c4)) (unc6 (fun u11 u12 u13 u14 u15 u16 => if x4 = (-1 : Int32) then (some ((1 : Int32), u12, u13, u14, u15, u16)) else (if x4 = 0 then (some (u11, u12, u13, u14, u15, u16)) else (some ((-1 : Int32), u12, u13, u14, u15, u16))))) (unc5 (fun u17 u18 u19 u20 u21 => bindS (loopF (fun q : Int32 × Int32 × (Nat → Int32) × (Nat → Int32) × (Nat → Int32) × (Nat → Int32) => f_X9_layOutOf_L98 m_cells m_wide m_dogs m_gone m_cell m_house m_settings m_dog x1 x2 x3 m_bowls q.1 q.2.1 q.2.2.1 q.2.2.2.1 q.2.2.2.2.1 q.2.2.2.2.2) FU ((0 : Int32), u17, u18, u19, u20, u21)) (unc7 (fun u41 u42 u43 u44 u45 u46 u47 => if x4 = (-1 : Int32) then (some ((2 : Int32), u43, u44, u45, u46, u47)) else (if x4 = 0 then (some (u41, u43, u44, u45, u46, u47)) else (some (u42, u43, u44, u45, u46, u47))))) (unc5 (fun u48 u49 u50 u51 u52 => some ((-1 : Int32), u48, u49, u50, u51, u52)))))) else (if x4 = (-1 : Int32) then (some ((0 : Int32), m_bowls, m_bowl, c2, c3, c4)) else (some ((-1 : Int32), m_bowls, m_bowl, c2, c3, c4))))
set_option maxHeartbeats 4000000 in
set_option maxRecDepth 100000 in
theorem k_X9_layOutOf (C : Cx RX9 cX9_layOutOf 9 D cA p s m args c) (hr : meth.sig.returnType = (some .int)) (hlk : meth.locks = false) (hA : ∀ q, s.heap.size ≤ q → va_A ws0 sz q) (b : Nat → Nat) (m_latest : Int32) (m_cells : Int32) (m_wide : Int32) (m_houses : Int32) (m_bowls : Int32) (m_dogs : Int32) (m_gone : Int32) (m_sights : Int32) (m_drawn : Int32) (m_cell : Nat → Int32) (m_house : Nat → Int32) (m_settings : Nat → Int32) (m_bowl : Nat → Int32) (m_dog : Nat → Int32) (m_path : Nat → Int32) (m_steps : Nat → Int32) (m_line : Nat → Int32) (x1 : Int32) (x2 : Int32) (x3 : Int32) (x4 : Int32) (r : Int32 × Int32 × (Nat → Int32) × (Nat → Int32) × (Nat → Int32) × (Nat → Int32)) (hf : f_X9_layOutOf m_cells m_wide m_bowls m_dogs m_gone m_cell m_house m_settings m_bowl m_dog m_path m_steps m_line x1 x2 x3 x4 = some r) : At p l e rm_X9_layOutOf s m args below meth c D (va_A ws0 sz) 0 0 (MQ below (PostI D r.1 ws0 (wl_X9_layOutOf cA b m_latest m_cells m_wide m_houses (r.2.1) m_dogs m_gone m_sights m_drawn m_cell m_house m_settings (r.2.2.1) m_dog (r.2.2.2.1) (r.2.2.2.2.1) (r.2.2.2.2.2)) sz) args s 0 0 (va_A ws0 sz)) 9 0 (wl_X9_layOutOf cA b m_latest m_cells m_wide m_houses m_bowls m_dogs m_gone m_sights m_drawn m_cell m_house m_settings m_bowl m_dog m_path m_steps m_line) [(0, .ref (b 0)), (1, .int x1), (2, .int x2), (3, .int x3), (4, .int x4)] [] := by
  intro H locs ls hP hD hS hl
  have hx := C.1
  have hb := C.2.1
  have hown := C.2.2.2.1
  have hts := C.2.2.2.2.1
  unfold f_X9_layOutOf at hf
  refine lv_aload_n (pc := 0) hx hb dX9_layOutOf_0 rfl (lv_at hl 0 rfl) ?_
  refine lv_iload_n (pc := 1) hx hb dX9_layOutOf_1 rfl (lv_at hl 1 rfl) ?_
  refine lv_iload_n (pc := 2) hx hb dX9_layOutOf_2 rfl (lv_at hl 2 rfl) ?_
  refine lv_iload_n (pc := 3) hx hb dX9_layOutOf_3 rfl (lv_at hl 3 rfl) ?_
  obtain ⟨r1, c2, c3, c4, hq, hf⟩ := bind4_some hf
  refine fin2_i (wl_X9_layOutOf cA b m_latest m_cells m_wide m_houses m_bowls m_dogs m_gone m_sights m_drawn m_cell m_house m_settings m_bowl m_dog c2 c3 c4) (run_V (rest := []) (pc := 4) (As := [.int x1, .int x2, .int x3]) C mf_X9_210 (c_X9_isSo l D cA b m_latest m_cells m_wide m_houses m_bowls m_dogs m_gone m_sights m_drawn m_cell m_house m_settings m_bowl m_dog m_path m_steps m_line x1 x2 x3 (r1, c2, c3, c4) hq H.size) rfl rfl ⟨(Nat.le_of_ble_eq_true rfl), (Nat.le_of_ble_eq_true rfl)⟩ (preV_of C hP hD [0, 1, 2, 3, 4, 5, 6, 7, 8] rfl (pl_nd pv_149) 0 rfl rfl rfl) rfl hl.1 rfl (Nat.le_of_ble_eq_true rfl) dX9_layOutOf_4 ⟨Nat.zero_le _, Nat.zero_le _⟩) hP hD hS hA [0, 1, 2, 3, 4, 5, 6, 7, 8] [] rfl rfl rfl rfl pv_149 (fun H locs hP hS => ?_)
  have hD : va_D (va_A ws0 sz) (wl_X9_layOutOf cA b m_latest m_cells m_wide m_houses m_bowls m_dogs m_gone m_sights m_drawn m_cell m_house m_settings m_bowl m_dog c2 c3 c4) := vd_a hD rfl
  refine lv_if_eq (pc := 7) (tgt := 22) hx hb dX9_layOutOf_7 (by decide) (fun hc => ?_) (fun hc => ?_)
  · have hf := (if_pos hc).symm.trans hf
    refine lv_aload_n (pc := 22) hx hb dX9_layOutOf_22 rfl (lv_at hl 0 rfl) ?_
    refine g_get (pc := 23) C fg_X9_133 hP 0 rfl rfl dX9_layOutOf_23 ?_
    refine lv_istore (pc := 26) (lv' := [(5, .int m_bowls), (0, .ref (b 0)), (1, .int x1), (2, .int x2), (3, .int x3), (4, .int x4)]) hx hb dX9_layOutOf_26 hl (Nat.le_of_ble_eq_true rfl) rfl (fun ls hl => ?_)
    refine lv_iconst (pc := 28) (v := 0) hx hb dX9_layOutOf_28 ic_0 ?_
    refine lv_istore (pc := 29) (lv' := [(6, .int (0 : Int32)), (5, .int m_bowls), (0, .ref (b 0)), (1, .int x1), (2, .int x2), (3, .int x3), (4, .int x4)]) hx hb dX9_layOutOf_29 hl (Nat.le_of_ble_eq_true rfl) rfl (fun ls hl => ?_)
    rcases bindS_some hf with ⟨z, hq, hf⟩ | ⟨z, hq, hf⟩
    · obtain ⟨u11, u12, u13, u14, u15, u16⟩ := z
      have hf := unc6_some hf
      refine kl_X9_layOutOf_L31 C hA b m_latest m_cells m_wide m_houses m_dogs m_gone m_sights m_drawn m_cell m_house m_settings m_dog x1 x2 x3 x4 m_bowls FU ((0 : Int32), m_bowls, m_bowl, c2, c3, c4) _ hq ?_ H locs ls hP hD hS (lv_sub hl [2, 3, 4, 5, 6, 1, 0] rfl)
      intro H locs ls hP hD hS hl
      have hP : va_P D classes (wl_X9_layOutOf cA b m_latest m_cells m_wide m_houses u12 m_dogs m_gone m_sights m_drawn m_cell m_house m_settings u13 m_dog u14 u15 u16) H := hP
      have hD : va_D (va_A ws0 sz) (wl_X9_layOutOf cA b m_latest m_cells m_wide m_houses u12 m_dogs m_gone m_sights m_drawn m_cell m_house m_settings u13 m_dog u14 u15 u16) := hD
      have hl : lv_has ls 9 [(4, .int x4), (6, .int u11)] := hl
      refine lv_iload (pc := 67) hx hb dX9_layOutOf_67 (lv_at hl 0 rfl) ?_
      refine lv_iconst (pc := 69) (v := (-1)) hx hb dX9_layOutOf_69 ic_m1 ?_
      refine lv_icmp_ne (pc := 70) (tgt := 77) hx hb dX9_layOutOf_70 (by decide) (fun hc => ?_) (fun hc => ?_)
      · have hf := (if_neg hc).symm.trans hf
        refine lv_iload (pc := 77) hx hb dX9_layOutOf_77 (lv_at hl 0 rfl) ?_
        refine lv_if_ne (pc := 79) (tgt := 87) hx hb dX9_layOutOf_79 (by decide) (fun hc => ?_) (fun hc => ?_)
        · have hf := (if_neg hc).symm.trans hf
          refine lv_iconst (pc := 87) (v := (-1)) hx hb dX9_layOutOf_87 ic_m1 ?_
          have hf := Option.some.inj hf
          subst hf
          exact ret_i C hr hlk hP hS dX9_layOutOf_88
        · have hf := (if_pos hc).symm.trans hf
          refine lv_iload (pc := 82) hx hb dX9_layOutOf_82 (lv_at hl 1 rfl) ?_
          refine lv_goto (pc := 84) (tgt := 88) hx hb dX9_layOutOf_84 (by decide) ?_
          have hf := Option.some.inj hf
          subst hf
          exact ret_i C hr hlk hP hS dX9_layOutOf_88
      · have hf := (if_pos hc).symm.trans hf
        refine lv_iconst (pc := 73) (v := 1) hx hb dX9_layOutOf_73 ic_1 ?_
        refine lv_goto (pc := 74) (tgt := 88) hx hb dX9_layOutOf_74 (by decide) ?_
        have hf := Option.some.inj hf
        subst hf
        exact ret_i C hr hlk hP hS dX9_layOutOf_88
    · obtain ⟨u17, u18, u19, u20, u21⟩ := z
      have hf := unc5_some hf
      refine kl_X9_layOutOf_L31 C hA b m_latest m_cells m_wide m_houses m_dogs m_gone m_sights m_drawn m_cell m_house m_settings m_dog x1 x2 x3 x4 m_bowls FU ((0 : Int32), m_bowls, m_bowl, c2, c3, c4) _ hq ?_ H locs ls hP hD hS (lv_sub hl [2, 3, 4, 5, 6, 1, 0] rfl)
      intro H locs ls hP hD hS hl
      have hP : va_P D classes (wl_X9_layOutOf cA b m_latest m_cells m_wide m_houses u17 m_dogs m_gone m_sights m_drawn m_cell m_house m_settings u18 m_dog u19 u20 u21) H := hP
      have hD : va_D (va_A ws0 sz) (wl_X9_layOutOf cA b m_latest m_cells m_wide m_houses u17 m_dogs m_gone m_sights m_drawn m_cell m_house m_settings u18 m_dog u19 u20 u21) := hD
      have hl : lv_has ls 9 [(0, .ref (b 0)), (1, .int x1), (2, .int x2), (3, .int x3), (4, .int x4), (5, .int m_bowls)] := hl
      refine lv_iconst (pc := 95) (v := 0) hx hb dX9_layOutOf_95 ic_0 ?_
      refine lv_istore (pc := 96) (lv' := [(6, .int (0 : Int32)), (0, .ref (b 0)), (1, .int x1), (2, .int x2), (3, .int x3), (4, .int x4), (5, .int m_bowls)]) hx hb dX9_layOutOf_96 hl (Nat.le_of_ble_eq_true rfl) rfl (fun ls hl => ?_)
      rcases bindS_some hf with ⟨z, hq, hf⟩ | ⟨z, hq, hf⟩
      · obtain ⟨u41, u42, u43, u44, u45, u46, u47⟩ := z
        have hf := unc7_some hf
        refine kl_X9_layOutOf_L98 C hA b m_latest m_cells m_wide m_houses m_dogs m_gone m_sights m_drawn m_cell m_house m_settings m_dog x1 x2 x3 x4 m_bowls FU ((0 : Int32), u17, u18, u19, u20, u21) _ hq ?_ H locs ls hP hD hS (lv_sub hl [1, 2, 3, 4, 5, 6, 0] rfl)
        intro H locs ls hP hD hS hl
        have hP : va_P D classes (wl_X9_layOutOf cA b m_latest m_cells m_wide m_houses u43 m_dogs m_gone m_sights m_drawn m_cell m_house m_settings u44 m_dog u45 u46 u47) H := hP
        have hD : va_D (va_A ws0 sz) (wl_X9_layOutOf cA b m_latest m_cells m_wide m_houses u43 m_dogs m_gone m_sights m_drawn m_cell m_house m_settings u44 m_dog u45 u46 u47) := hD
        have hl : lv_has ls 9 [(4, .int x4), (6, .int u41), (7, .int u42)] := hl
        refine lv_iload (pc := 154) hx hb dX9_layOutOf_154 (lv_at hl 0 rfl) ?_
        refine lv_iconst (pc := 156) (v := (-1)) hx hb dX9_layOutOf_156 ic_m1 ?_
        refine lv_icmp_ne (pc := 157) (tgt := 164) hx hb dX9_layOutOf_157 (by decide) (fun hc => ?_) (fun hc => ?_)
        · have hf := (if_neg hc).symm.trans hf
          refine lv_iload (pc := 164) hx hb dX9_layOutOf_164 (lv_at hl 0 rfl) ?_
          refine lv_if_ne (pc := 166) (tgt := 174) hx hb dX9_layOutOf_166 (by decide) (fun hc => ?_) (fun hc => ?_)
          · have hf := (if_neg hc).symm.trans hf
            refine lv_iload (pc := 174) hx hb dX9_layOutOf_174 (lv_at hl 2 rfl) ?_
            have hf := Option.some.inj hf
            subst hf
            exact ret_i C hr hlk hP hS dX9_layOutOf_176
          · have hf := (if_pos hc).symm.trans hf
            refine lv_iload (pc := 169) hx hb dX9_layOutOf_169 (lv_at hl 1 rfl) ?_
            refine lv_goto (pc := 171) (tgt := 176) hx hb dX9_layOutOf_171 (by decide) ?_
            have hf := Option.some.inj hf
            subst hf
            exact ret_i C hr hlk hP hS dX9_layOutOf_176
        · have hf := (if_pos hc).symm.trans hf
          refine lv_iconst (pc := 160) (v := 2) hx hb dX9_layOutOf_160 ic_2 ?_
          refine lv_goto (pc := 161) (tgt := 176) hx hb dX9_layOutOf_161 (by decide) ?_
          have hf := Option.some.inj hf
          subst hf
          exact ret_i C hr hlk hP hS dX9_layOutOf_176
      · obtain ⟨u48, u49, u50, u51, u52⟩ := z
        have hf := unc5_some hf
        refine kl_X9_layOutOf_L98 C hA b m_latest m_cells m_wide m_houses m_dogs m_gone m_sights m_drawn m_cell m_house m_settings m_dog x1 x2 x3 x4 m_bowls FU ((0 : Int32), u17, u18, u19, u20, u21) _ hq ?_ H locs ls hP hD hS (lv_sub hl [1, 2, 3, 4, 5, 6, 0] rfl)
        intro H locs ls hP hD hS hl
        have hP : va_P D classes (wl_X9_layOutOf cA b m_latest m_cells m_wide m_houses u48 m_dogs m_gone m_sights m_drawn m_cell m_house m_settings u49 m_dog u50 u51 u52) H := hP
        have hD : va_D (va_A ws0 sz) (wl_X9_layOutOf cA b m_latest m_cells m_wide m_houses u48 m_dogs m_gone m_sights m_drawn m_cell m_house m_settings u49 m_dog u50 u51 u52) := hD
        have hl : lv_has ls 9 [] := hl
        refine lv_iconst (pc := 189) (v := (-1)) hx hb dX9_layOutOf_189 ic_m1 ?_
        have hf := Option.some.inj hf
        subst hf
        exact ret_i C hr hlk hP hS dX9_layOutOf_190
  · have hf := (if_neg hc).symm.trans hf
    refine lv_iload (pc := 10) hx hb dX9_layOutOf_10 (lv_at hl 4 rfl) ?_
    refine lv_iconst (pc := 12) (v := (-1)) hx hb dX9_layOutOf_12 ic_m1 ?_
    refine lv_icmp_ne (pc := 13) (tgt := 20) hx hb dX9_layOutOf_13 (by decide) (fun hc => ?_) (fun hc => ?_)
    · have hf := (if_neg hc).symm.trans hf
      refine lv_iconst (pc := 20) (v := (-1)) hx hb dX9_layOutOf_20 ic_m1 ?_
      have hf := Option.some.inj hf
      subst hf
      exact ret_i C hr hlk hP hS dX9_layOutOf_21
    · have hf := (if_pos hc).symm.trans hf
      refine lv_iconst (pc := 16) (v := 0) hx hb dX9_layOutOf_16 ic_0 ?_
      refine lv_goto (pc := 17) (tgt := 21) hx hb dX9_layOutOf_17 (by decide) ?_
      have hf := Option.some.inj hf
      subst hf
      exact ret_i C hr hlk hP hS dX9_layOutOf_21
set_option maxRecDepth 100000 in
theorem c_X9_layOutOf (l : Launch) (D : va_G) (cA : Nat → ClassId) (b : Nat → Nat) (m_latest : Int32) (m_cells : Int32) (m_wide : Int32) (m_houses : Int32) (m_bowls : Int32) (m_dogs : Int32) (m_gone : Int32) (m_sights : Int32) (m_drawn : Int32) (m_cell : Nat → Int32) (m_house : Nat → Int32) (m_settings : Nat → Int32) (m_bowl : Nat → Int32) (m_dog : Nat → Int32) (m_path : Nat → Int32) (m_steps : Nat → Int32) (m_line : Nat → Int32) (x1 : Int32) (x2 : Int32) (x3 : Int32) (x4 : Int32) (r : Int32 × Int32 × (Nat → Int32) × (Nat → Int32) × (Nat → Int32) × (Nat → Int32)) (hf : f_X9_layOutOf m_cells m_wide m_bowls m_dogs m_gone m_cell m_house m_settings m_bowl m_dog m_path m_steps m_line x1 x2 x3 x4 = some r) (sz : Nat) : Met l yX9_layOutOf (Cond.code yX9_layOutOf cX9_layOutOf 9 (some .int) :: lw_good) rm_X9_layOutOf (PreX D cA [.ref (b 0), .int x1, .int x2, .int x3, .int x4] sz (wl_X9_layOutOf cA b m_latest m_cells m_wide m_houses m_bowls m_dogs m_gone m_sights m_drawn m_cell m_house m_settings m_bowl m_dog m_path m_steps m_line)) (PostI D r.1 (wl_X9_layOutOf cA b m_latest m_cells m_wide m_houses m_bowls m_dogs m_gone m_sights m_drawn m_cell m_house m_settings m_bowl m_dog m_path m_steps m_line) (wl_X9_layOutOf cA b m_latest m_cells m_wide m_houses (r.2.1) m_dogs m_gone m_sights m_drawn m_cell m_house m_settings (r.2.2.1) m_dog (r.2.2.2.1) (r.2.2.2.2.1) (r.2.2.2.2.2)) sz) 0 0 (va_A (wl_X9_layOutOf cA b m_latest m_cells m_wide m_houses m_bowls m_dogs m_gone m_sights m_drawn m_cell m_house m_settings m_bowl m_dog m_path m_steps m_line) sz) :=
  met_of (by decide) (Nat.le_of_ble_eq_true rfl) (fun p e s m args below meth c C hr hlk hA => k_X9_layOutOf C hr hlk hA b m_latest m_cells m_wide m_houses m_bowls m_dogs m_gone m_sights m_drawn m_cell m_house m_settings m_bowl m_dog m_path m_steps m_line x1 x2 x3 x4 r hf)
end

abbrev wl_X9_layOut (cA : Nat → ClassId) (b : Nat → Nat) (m_latest : Int32) (m_cells : Int32) (m_wide : Int32) (m_houses : Int32) (m_bowls : Int32) (m_dogs : Int32) (m_gone : Int32) (m_sights : Int32) (m_drawn : Int32) (m_bytes : Nat → Int32) (m_typed : Nat → Int32) (m_cell : Nat → Int32) (m_house : Nat → Int32) (m_settings : Nat → Int32) (m_bowl : Nat → Int32) (m_dog : Nat → Int32) (m_path : Nat → Int32) (m_steps : Nat → Int32) (m_line : Nat → Int32) : va_W := [((b 0), .inr (9, [.ref (b 1), .ref (b 2), .ref (b 3), .ref (b 4), .int m_latest, .ref (b 5), .ref (b 6), .int m_cells, .int m_wide, .ref (b 7), .int m_houses, .ref (b 8), .ref (b 9), .int m_bowls, .ref (b 10), .int m_dogs, .ref (b 11), .int m_gone, .ref (b 12), .ref (b 13), .ref (b 14), .int m_sights, .ref (b 15), .ref (b 16), .int m_drawn])), ((b 5), .inl (cA 0, 84, .inl m_bytes)), ((b 6), .inl (cA 0, 2, .inl m_typed)), ((b 7), .inl (cA 0, 36, .inl m_cell)), ((b 8), .inl (cA 0, 16, .inl m_house)), ((b 9), .inl (cA 0, 2, .inl m_settings)), ((b 10), .inl (cA 0, 20, .inl m_bowl)), ((b 11), .inl (cA 0, 16, .inl m_dog)), ((b 12), .inl (cA 0, 250, .inl m_path)), ((b 13), .inl (cA 0, 10, .inl m_steps)), ((b 14), .inl (cA 0, 60, .inl m_line))]
abbrev rm_X9_layOut : Room := { frames := 7, cells := 0, slots := 0, locals := 178 }
section
variable {p : Program} {l : Launch} {e : Env} {s : State} {m : MethodId} {args : Array Value} {below : List Frame} {meth : Method} {c : Code} {D : va_G} {cA : Nat → ClassId} {ws0 : va_W} {sz : Nat} {A : Nat → Prop} {Q : State → Prop}
def f_X9_layOut (m_cells : Int32) (m_wide : Int32) (m_houses : Int32) (m_bowls : Int32) (m_dogs : Int32) (m_gone : Int32) (m_bytes : Nat → Int32) (m_typed : Nat → Int32) (m_cell : Nat → Int32) (m_house : Nat → Int32) (m_settings : Nat → Int32) (m_bowl : Nat → Int32) (m_dog : Nat → Int32) (m_path : Nat → Int32) (m_steps : Nat → Int32) (m_line : Nat → Int32) (x1 : Int32) (x2 : Int32) (x3 : Int32) (x4 : Int32) : Option (Int32 × Int32 × Int32 × Int32 × Int32 × (Nat → Int32) × (Nat → Int32) × (Nat → Int32) × (Nat → Int32) × (Nat → Int32) × (Nat → Int32)) :=
  bind8 (f_X9_find m_cells m_wide m_houses m_bowls m_dogs m_gone m_bytes m_typed m_cell m_house m_settings m_bowl m_dog m_path m_steps m_line) (fun c1 c2 c3 c4 c5 c6 c7 c8 => bind1 (f_X9_isNight x1) (fun r9 => if r9 = 0 then (some ((-2 : Int32), c1, c2, c3, m_bowls, c4, c5, m_bowl, c6, c7, c8)) else (bind1 (f_X9_isHouse c3 x2) (fun r10 => if r10 = 0 then (some ((-2 : Int32), c1, c2, c3, m_bowls, c4, c5, m_bowl, c6, c7, c8)) else (bind1 (f_X9_in (x3.toInt64) (0 : Int64) (2 : Int64)) (fun r11 => if r11 = 0 then (some ((-2 : Int32), c1, c2, c3, m_bowls, c4, c5, m_bowl, c6, c7, c8)) else (bind1 (f_X9_in (x4.toInt64) (-1 : Int64) (1 : Int64)) (fun r12 => if r12 = 0 then (some ((-2 : Int32), c1, c2, c3, m_bowls, c4, c5, m_bowl, c6, c7, c8)) else (bind6 (f_X9_layOutOf c1 c2 m_bowls m_dogs m_gone c4 c5 m_settings m_bowl m_dog c6 c7 c8 x1 x2 x3 x4) (fun r13 c14 c15 c16 c17 c18 => some (r13, c1, c2, c3, c14, c4, c5, c15, c16, c17, c18)))))))))))
set_option maxHeartbeats 4000000 in
set_option maxRecDepth 100000 in
theorem k_X9_layOut (C : Cx RX9 cX9_layOut 5 D cA p s m args c) (hr : meth.sig.returnType = (some .int)) (hlk : meth.locks = false) (hA : ∀ q, s.heap.size ≤ q → va_A ws0 sz q) (b : Nat → Nat) (m_latest : Int32) (m_cells : Int32) (m_wide : Int32) (m_houses : Int32) (m_bowls : Int32) (m_dogs : Int32) (m_gone : Int32) (m_sights : Int32) (m_drawn : Int32) (m_bytes : Nat → Int32) (m_typed : Nat → Int32) (m_cell : Nat → Int32) (m_house : Nat → Int32) (m_settings : Nat → Int32) (m_bowl : Nat → Int32) (m_dog : Nat → Int32) (m_path : Nat → Int32) (m_steps : Nat → Int32) (m_line : Nat → Int32) (x1 : Int32) (x2 : Int32) (x3 : Int32) (x4 : Int32) (r : Int32 × Int32 × Int32 × Int32 × Int32 × (Nat → Int32) × (Nat → Int32) × (Nat → Int32) × (Nat → Int32) × (Nat → Int32) × (Nat → Int32)) (hf : f_X9_layOut m_cells m_wide m_houses m_bowls m_dogs m_gone m_bytes m_typed m_cell m_house m_settings m_bowl m_dog m_path m_steps m_line x1 x2 x3 x4 = some r) : At p l e rm_X9_layOut s m args below meth c D (va_A ws0 sz) 0 0 (MQ below (PostI D r.1 ws0 (wl_X9_layOut cA b m_latest (r.2.1) (r.2.2.1) (r.2.2.2.1) (r.2.2.2.2.1) m_dogs m_gone m_sights m_drawn m_bytes m_typed (r.2.2.2.2.2.1) (r.2.2.2.2.2.2.1) m_settings (r.2.2.2.2.2.2.2.1) m_dog (r.2.2.2.2.2.2.2.2.1) (r.2.2.2.2.2.2.2.2.2.1) (r.2.2.2.2.2.2.2.2.2.2)) sz) args s 0 0 (va_A ws0 sz)) 5 0 (wl_X9_layOut cA b m_latest m_cells m_wide m_houses m_bowls m_dogs m_gone m_sights m_drawn m_bytes m_typed m_cell m_house m_settings m_bowl m_dog m_path m_steps m_line) [(0, .ref (b 0)), (1, .int x1), (2, .int x2), (3, .int x3), (4, .int x4)] [] := by
  intro H locs ls hP hD hS hl
  have hx := C.1
  have hb := C.2.1
  have hown := C.2.2.2.1
  have hts := C.2.2.2.2.1
  unfold f_X9_layOut at hf
  refine lv_aload_n (pc := 0) hx hb dX9_layOut_0 rfl (lv_at hl 0 rfl) ?_
  obtain ⟨c1, c2, c3, c4, c5, c6, c7, c8, hq, hf⟩ := bind8_some hf
  refine fin2_v (wl_X9_layOut cA b m_latest c1 c2 c3 m_bowls m_dogs m_gone m_sights m_drawn m_bytes m_typed c4 c5 m_settings m_bowl m_dog c6 c7 c8) (run_V (rest := []) (pc := 1) (As := []) C mf_X9_184 (c_X9_find l D cA b m_latest m_cells m_wide m_houses m_bowls m_dogs m_gone m_sights m_drawn m_bytes m_typed m_cell m_house m_settings m_bowl m_dog m_path m_steps m_line (c1, c2, c3, c4, c5, c6, c7, c8) hq H.size) rfl rfl ⟨(Nat.le_of_ble_eq_true rfl), (Nat.le_of_ble_eq_true rfl)⟩ (preV_of C hP hD [0, 1, 2, 3, 4, 5, 6, 7, 8, 9, 10] rfl (pl_nd pv_138) 0 rfl rfl rfl) rfl hl.1 rfl (Nat.le_of_ble_eq_true rfl) dX9_layOut_1 ⟨Nat.zero_le _, Nat.zero_le _⟩) hP hD hS hA [0, 1, 2, 3, 4, 5, 6, 7, 8, 9, 10] [] rfl rfl rfl rfl pv_138 (fun H locs hP hS => ?_)
  have hD : va_D (va_A ws0 sz) (wl_X9_layOut cA b m_latest c1 c2 c3 m_bowls m_dogs m_gone m_sights m_drawn m_bytes m_typed c4 c5 m_settings m_bowl m_dog c6 c7 c8) := vd_a hD rfl
  refine lv_iload_n (pc := 4) hx hb dX9_layOut_4 rfl (lv_at hl 1 rfl) ?_
  obtain ⟨r9, hq, hf⟩ := bind1_some hf
  refine fin2_i (wl_X9_layOut cA b m_latest c1 c2 c3 m_bowls m_dogs m_gone m_sights m_drawn m_bytes m_typed c4 c5 m_settings m_bowl m_dog c6 c7 c8) (run_S (rest := []) (pc := 5) (As := [.int x1]) C mf_X9_136 (c_X9_isNight l D cA  x1 r9 hq H.size) rfl rfl ⟨(Nat.le_of_ble_eq_true rfl), (Nat.le_of_ble_eq_true rfl)⟩ (preS_of C hP hD [] rfl (pl_nd pv_139)) rfl hl.1 rfl (Nat.le_of_ble_eq_true rfl) dX9_layOut_5 ⟨Nat.zero_le _, Nat.zero_le _⟩) hP hD hS hA [] [0, 1, 2, 3, 4, 5, 6, 7, 8, 9, 10] rfl rfl rfl rfl pv_139 (fun H locs hP hS => ?_)
  refine lv_if_eq (pc := 8) (tgt := 56) hx hb dX9_layOut_8 (by decide) (fun hc => ?_) (fun hc => ?_)
  · have hf := (if_pos hc).symm.trans hf
    refine lv_bipush (pc := 56) (v := (-2)) hx hb dX9_layOut_56 bp_m2 ?_
    have hf := Option.some.inj hf
    subst hf
    exact ret_i C hr hlk hP hS dX9_layOut_58
  · have hf := (if_neg hc).symm.trans hf
    refine lv_aload_n (pc := 11) hx hb dX9_layOut_11 rfl (lv_at hl 0 rfl) ?_
    refine lv_iload_n (pc := 12) hx hb dX9_layOut_12 rfl (lv_at hl 2 rfl) ?_
    obtain ⟨r10, hq, hf⟩ := bind1_some hf
    refine fin2_i (wl_X9_layOut cA b m_latest c1 c2 c3 m_bowls m_dogs m_gone m_sights m_drawn m_bytes m_typed c4 c5 m_settings m_bowl m_dog c6 c7 c8) (run_V (rest := []) (pc := 13) (As := [.int x2]) C mf_X9_126 (c_X9_isHouse l D cA b m_latest c1 c2 c3 m_bowls m_dogs m_gone m_sights m_drawn x2 r10 hq H.size) rfl rfl ⟨(Nat.le_of_ble_eq_true rfl), (Nat.le_of_ble_eq_true rfl)⟩ (preV_of C hP hD [0] rfl (pl_nd pv_142) 0 rfl rfl rfl) rfl hl.1 rfl (Nat.le_of_ble_eq_true rfl) dX9_layOut_13 ⟨Nat.zero_le _, Nat.zero_le _⟩) hP hD hS hA [0] [1, 2, 3, 4, 5, 6, 7, 8, 9, 10] rfl rfl rfl rfl pv_142 (fun H locs hP hS => ?_)
    refine lv_if_eq (pc := 16) (tgt := 56) hx hb dX9_layOut_16 (by decide) (fun hc => ?_) (fun hc => ?_)
    · have hf := (if_pos hc).symm.trans hf
      refine lv_bipush (pc := 56) (v := (-2)) hx hb dX9_layOut_56 bp_m2 ?_
      have hf := Option.some.inj hf
      subst hf
      exact ret_i C hr hlk hP hS dX9_layOut_58
    · have hf := (if_neg hc).symm.trans hf
      refine lv_iload_n (pc := 19) hx hb dX9_layOut_19 rfl (lv_at hl 3 rfl) ?_
      refine lv_i2l (pc := 20) hx hb dX9_layOut_20 rfl ?_
      refine lv_lconst (pc := 21) (v := 0) hx hb dX9_layOut_21 rfl ?_
      refine lv_ldc2 (pc := 22) hx hb hown (hts _ (lg_in mw_465 rfl)) dX9_layOut_22 ?_
      obtain ⟨r11, hq, hf⟩ := bind1_some hf
      refine fin2_i (wl_X9_layOut cA b m_latest c1 c2 c3 m_bowls m_dogs m_gone m_sights m_drawn m_bytes m_typed c4 c5 m_settings m_bowl m_dog c6 c7 c8) (run_S (rest := []) (pc := 25) (As := [.long (x3.toInt64), .long (0 : Int64), .long (2 : Int64)]) C mf_X9_60 (c_X9_in l D cA  (x3.toInt64) (0 : Int64) (2 : Int64) r11 hq H.size) rfl rfl ⟨(Nat.le_of_ble_eq_true rfl), (Nat.le_of_ble_eq_true rfl)⟩ (preS_of C hP hD [] rfl (pl_nd pv_139)) rfl hl.1 rfl (Nat.le_of_ble_eq_true rfl) dX9_layOut_25 ⟨Nat.zero_le _, Nat.zero_le _⟩) hP hD hS hA [] [0, 1, 2, 3, 4, 5, 6, 7, 8, 9, 10] rfl rfl rfl rfl pv_139 (fun H locs hP hS => ?_)
      refine lv_if_eq (pc := 28) (tgt := 56) hx hb dX9_layOut_28 (by decide) (fun hc => ?_) (fun hc => ?_)
      · have hf := (if_pos hc).symm.trans hf
        refine lv_bipush (pc := 56) (v := (-2)) hx hb dX9_layOut_56 bp_m2 ?_
        have hf := Option.some.inj hf
        subst hf
        exact ret_i C hr hlk hP hS dX9_layOut_58
      · have hf := (if_neg hc).symm.trans hf
        refine lv_iload (pc := 31) hx hb dX9_layOut_31 (lv_at hl 4 rfl) ?_
        refine lv_i2l (pc := 33) hx hb dX9_layOut_33 rfl ?_
        refine lv_ldc2 (pc := 34) hx hb hown (hts _ (lg_in mw_600 rfl)) dX9_layOut_34 ?_
        refine lv_lconst (pc := 37) (v := 1) hx hb dX9_layOut_37 rfl ?_
        obtain ⟨r12, hq, hf⟩ := bind1_some hf
        refine fin2_i (wl_X9_layOut cA b m_latest c1 c2 c3 m_bowls m_dogs m_gone m_sights m_drawn m_bytes m_typed c4 c5 m_settings m_bowl m_dog c6 c7 c8) (run_S (rest := []) (pc := 38) (As := [.long (x4.toInt64), .long (-1 : Int64), .long (1 : Int64)]) C mf_X9_60 (c_X9_in l D cA  (x4.toInt64) (-1 : Int64) (1 : Int64) r12 hq H.size) rfl rfl ⟨(Nat.le_of_ble_eq_true rfl), (Nat.le_of_ble_eq_true rfl)⟩ (preS_of C hP hD [] rfl (pl_nd pv_139)) rfl hl.1 rfl (Nat.le_of_ble_eq_true rfl) dX9_layOut_38 ⟨Nat.zero_le _, Nat.zero_le _⟩) hP hD hS hA [] [0, 1, 2, 3, 4, 5, 6, 7, 8, 9, 10] rfl rfl rfl rfl pv_139 (fun H locs hP hS => ?_)
        refine lv_if_eq (pc := 41) (tgt := 56) hx hb dX9_layOut_41 (by decide) (fun hc => ?_) (fun hc => ?_)
        · have hf := (if_pos hc).symm.trans hf
          refine lv_bipush (pc := 56) (v := (-2)) hx hb dX9_layOut_56 bp_m2 ?_
          have hf := Option.some.inj hf
          subst hf
          exact ret_i C hr hlk hP hS dX9_layOut_58
        · have hf := (if_neg hc).symm.trans hf
          refine lv_aload_n (pc := 44) hx hb dX9_layOut_44 rfl (lv_at hl 0 rfl) ?_
          refine lv_iload_n (pc := 45) hx hb dX9_layOut_45 rfl (lv_at hl 1 rfl) ?_
          refine lv_iload_n (pc := 46) hx hb dX9_layOut_46 rfl (lv_at hl 2 rfl) ?_
          refine lv_iload_n (pc := 47) hx hb dX9_layOut_47 rfl (lv_at hl 3 rfl) ?_
          refine lv_iload (pc := 48) hx hb dX9_layOut_48 (lv_at hl 4 rfl) ?_
          obtain ⟨r13, c14, c15, c16, c17, c18, hq, hf⟩ := bind6_some hf
          refine fin2_i (wl_X9_layOut cA b m_latest c1 c2 c3 c14 m_dogs m_gone m_sights m_drawn m_bytes m_typed c4 c5 m_settings c15 m_dog c16 c17 c18) (run_V (rest := []) (pc := 50) (As := [.int x1, .int x2, .int x3, .int x4]) C mf_X9_215 (c_X9_layOutOf l D cA b m_latest c1 c2 c3 m_bowls m_dogs m_gone m_sights m_drawn c4 c5 m_settings m_bowl m_dog c6 c7 c8 x1 x2 x3 x4 (r13, c14, c15, c16, c17, c18) hq H.size) rfl rfl ⟨(Nat.le_of_ble_eq_true rfl), (Nat.le_of_ble_eq_true rfl)⟩ (preV_of C hP hD [0, 3, 4, 5, 6, 7, 8, 9, 10] rfl (pl_nd pv_151) 0 rfl rfl rfl) rfl hl.1 rfl (Nat.le_of_ble_eq_true rfl) dX9_layOut_50 ⟨Nat.zero_le _, Nat.zero_le _⟩) hP hD hS hA [0, 3, 4, 5, 6, 7, 8, 9, 10] [1, 2] rfl rfl rfl rfl pv_151 (fun H locs hP hS => ?_)
          have hD : va_D (va_A ws0 sz) (wl_X9_layOut cA b m_latest c1 c2 c3 c14 m_dogs m_gone m_sights m_drawn m_bytes m_typed c4 c5 m_settings c15 m_dog c16 c17 c18) := vd_a hD rfl
          refine lv_goto (pc := 53) (tgt := 58) hx hb dX9_layOut_53 (by decide) ?_
          have hf := Option.some.inj hf
          subst hf
          exact ret_i C hr hlk hP hS dX9_layOut_58
set_option maxRecDepth 100000 in
theorem c_X9_layOut (l : Launch) (D : va_G) (cA : Nat → ClassId) (b : Nat → Nat) (m_latest : Int32) (m_cells : Int32) (m_wide : Int32) (m_houses : Int32) (m_bowls : Int32) (m_dogs : Int32) (m_gone : Int32) (m_sights : Int32) (m_drawn : Int32) (m_bytes : Nat → Int32) (m_typed : Nat → Int32) (m_cell : Nat → Int32) (m_house : Nat → Int32) (m_settings : Nat → Int32) (m_bowl : Nat → Int32) (m_dog : Nat → Int32) (m_path : Nat → Int32) (m_steps : Nat → Int32) (m_line : Nat → Int32) (x1 : Int32) (x2 : Int32) (x3 : Int32) (x4 : Int32) (r : Int32 × Int32 × Int32 × Int32 × Int32 × (Nat → Int32) × (Nat → Int32) × (Nat → Int32) × (Nat → Int32) × (Nat → Int32) × (Nat → Int32)) (hf : f_X9_layOut m_cells m_wide m_houses m_bowls m_dogs m_gone m_bytes m_typed m_cell m_house m_settings m_bowl m_dog m_path m_steps m_line x1 x2 x3 x4 = some r) (sz : Nat) : Met l yX9_layOut (Cond.code yX9_layOut cX9_layOut 5 (some .int) :: lw_good) rm_X9_layOut (PreX D cA [.ref (b 0), .int x1, .int x2, .int x3, .int x4] sz (wl_X9_layOut cA b m_latest m_cells m_wide m_houses m_bowls m_dogs m_gone m_sights m_drawn m_bytes m_typed m_cell m_house m_settings m_bowl m_dog m_path m_steps m_line)) (PostI D r.1 (wl_X9_layOut cA b m_latest m_cells m_wide m_houses m_bowls m_dogs m_gone m_sights m_drawn m_bytes m_typed m_cell m_house m_settings m_bowl m_dog m_path m_steps m_line) (wl_X9_layOut cA b m_latest (r.2.1) (r.2.2.1) (r.2.2.2.1) (r.2.2.2.2.1) m_dogs m_gone m_sights m_drawn m_bytes m_typed (r.2.2.2.2.2.1) (r.2.2.2.2.2.2.1) m_settings (r.2.2.2.2.2.2.2.1) m_dog (r.2.2.2.2.2.2.2.2.1) (r.2.2.2.2.2.2.2.2.2.1) (r.2.2.2.2.2.2.2.2.2.2)) sz) 0 0 (va_A (wl_X9_layOut cA b m_latest m_cells m_wide m_houses m_bowls m_dogs m_gone m_sights m_drawn m_bytes m_typed m_cell m_house m_settings m_bowl m_dog m_path m_steps m_line) sz) :=
  met_of (by decide) (Nat.le_of_ble_eq_true rfl) (fun p e s m args below meth c C hr hlk hA => k_X9_layOut C hr hlk hA b m_latest m_cells m_wide m_houses m_bowls m_dogs m_gone m_sights m_drawn m_bytes m_typed m_cell m_house m_settings m_bowl m_dog m_path m_steps m_line x1 x2 x3 x4 r hf)
end
