abbrev wi_X6_init_41 (cA : Nat → ClassId) (h0 : Nat) (u : Nat → Nat) : va_W := [(h0, .inr (6, [.ref (u 0), .int (0 : Int32)])), ((u 0), .inl (cA 0, 41, .inl (fun _ => 0)))]
abbrev rm_X6_init_41 : Room := { frames := 1, cells := 1, slots := 41, locals := 12 }
set_option maxHeartbeats 4000000 in
set_option maxRecDepth 100000 in
theorem k_X6_init_41 {p : Program} {l : Launch} {e : Env} {s : State} {m : MethodId} {args : Array Value} {below : List Frame} {meth : Method} {c : Code} {D : va_G} {cA : Nat → ClassId} {ws0 : va_W} {sz : Nat} (C : Cx RX6 cX6_init 2 D cA p s m args c) (hr : meth.sig.returnType = none) (hlk : meth.locks = false) (hini : meth.name = "<init>") (hE : E0 s) (hA : ∀ q, s.heap.size ≤ q → va_A ws0 sz q) (h0 : Nat) : At p l e rm_X6_init_41 s m args below meth c D (va_A ws0 sz) 0 0 (MQ below (PostC D (wi_X6_init_41 cA h0 ) ws0 sz) args s 1 41 (va_A ws0 sz)) 2 0 [(h0, .inr (6, [.null, .int 0]))] [(0, .ref h0), (1, .int (41 : Int32))] [] := by
  intro H locs ls hP hD hS hl
  have hx := C.1
  have hb := C.2.1
  refine lv_aload_n (pc := 0) hx hb dX6_init_0 rfl (lv_at hl 0 rfl) ?_
  refine g_objinit (pc := 1) C oi_X6 hl.1 dX6_init_1 ⟨(Nat.le_of_ble_eq_true rfl), (Nat.le_of_ble_eq_true rfl)⟩ ?_
  refine lv_aload_n (pc := 4) hx hb dX6_init_4 rfl (lv_at hl 0 rfl) ?_
  refine lv_iload_n (pc := 5) hx hb dX6_init_5 rfl (lv_at hl 1 rfl) ?_
  refine g_newI (pc := 6) (N := 41) C (lg_in me_3 rfl) hP hD hS hA (by decide) (by decide) (by decide) (Nat.le_of_ble_eq_true rfl) (Nat.le_of_ble_eq_true rfl) dX6_init_6 (fun q1 H hP hD hS => ?_)
  have hP : va_P D classes [(h0, .inr (6, [.null, .int 0])), (q1, .inl (cA 0, 41, .inl (fun _ => 0)))] H := hP
  have hD : va_D (va_A ws0 sz) [(h0, .inr (6, [.null, .int 0])), (q1, .inl (cA 0, 41, .inl (fun _ => 0)))] := hD
  refine g_pF (pc := 8) C fd_X6_7 ft_X6_0 hini hP hD hS 0 rfl rfl rfl (Nat.le_of_ble_eq_true rfl) dX6_init_8 (fun H locs hP hD hS => ?_)
  have hP : va_P D classes [(h0, .inr (6, [.ref q1, .int 0])), (q1, .inl (cA 0, 41, .inl (fun _ => 0)))] H := hP
  have hD : va_D (va_A ws0 sz) [(h0, .inr (6, [.ref q1, .int 0])), (q1, .inl (cA 0, 41, .inl (fun _ => 0)))] := hD
  refine lv_aload_n (pc := 11) hx hb dX6_init_11 rfl (lv_at hl 0 rfl) ?_
  refine lv_iconst (pc := 12) (v := 0) hx hb dX6_init_12 (by decide) ?_
  refine g_put (pc := 13) C fg_X6_13 ft_X6_1 hP hD hS 0 rfl rfl rfl (Nat.le_of_ble_eq_true rfl) dX6_init_13 (fun H locs hP hD hS => ?_)
  have hP : va_P D classes [(h0, .inr (6, [.ref q1, .int (0 : Int32)])), (q1, .inl (cA 0, 41, .inl (fun _ => 0)))] H := hP
  have hD : va_D (va_A ws0 sz) [(h0, .inr (6, [.ref q1, .int (0 : Int32)])), (q1, .inl (cA 0, 41, .inl (fun _ => 0)))] := hD
  exact ret_c C hr hlk (fun k => ([q1] : List Nat).getD k 0) hP hD hS dX6_init_16
set_option maxRecDepth 100000 in
theorem c_X6_init_41 (l : Launch) (D : va_G) (cA : Nat → ClassId) (h0 : Nat) (sz : Nat) : Met l yX6_init (Cond.code yX6_init cX6_init 2 none :: lw_good) rm_X6_init_41 (PreXE E0 D cA [.ref h0, .int (41 : Int32)] sz [(h0, .inr (6, [.null, .int 0]))]) (PostC D (wi_X6_init_41 cA h0 ) [(h0, .inr (6, [.null, .int 0]))] sz) 1 41 (va_A [(h0, .inr (6, [.null, .int 0]))] sz) :=
  met_ofI (by decide) (Nat.le_of_ble_eq_true rfl) (fun p e s m args below meth c C hr hlk hini hE hA => k_X6_init_41 C hr hlk hini hE hA h0 )

abbrev wi_X6_init_31 (cA : Nat → ClassId) (h0 : Nat) (u : Nat → Nat) : va_W := [(h0, .inr (6, [.ref (u 0), .int (0 : Int32)])), ((u 0), .inl (cA 0, 31, .inl (fun _ => 0)))]
abbrev rm_X6_init_31 : Room := { frames := 1, cells := 1, slots := 31, locals := 12 }
set_option maxHeartbeats 4000000 in
set_option maxRecDepth 100000 in
theorem k_X6_init_31 {p : Program} {l : Launch} {e : Env} {s : State} {m : MethodId} {args : Array Value} {below : List Frame} {meth : Method} {c : Code} {D : va_G} {cA : Nat → ClassId} {ws0 : va_W} {sz : Nat} (C : Cx RX6 cX6_init 2 D cA p s m args c) (hr : meth.sig.returnType = none) (hlk : meth.locks = false) (hini : meth.name = "<init>") (hE : E0 s) (hA : ∀ q, s.heap.size ≤ q → va_A ws0 sz q) (h0 : Nat) : At p l e rm_X6_init_31 s m args below meth c D (va_A ws0 sz) 0 0 (MQ below (PostC D (wi_X6_init_31 cA h0 ) ws0 sz) args s 1 31 (va_A ws0 sz)) 2 0 [(h0, .inr (6, [.null, .int 0]))] [(0, .ref h0), (1, .int (31 : Int32))] [] := by
  intro H locs ls hP hD hS hl
  have hx := C.1
  have hb := C.2.1
  refine lv_aload_n (pc := 0) hx hb dX6_init_0 rfl (lv_at hl 0 rfl) ?_
  refine g_objinit (pc := 1) C oi_X6 hl.1 dX6_init_1 ⟨(Nat.le_of_ble_eq_true rfl), (Nat.le_of_ble_eq_true rfl)⟩ ?_
  refine lv_aload_n (pc := 4) hx hb dX6_init_4 rfl (lv_at hl 0 rfl) ?_
  refine lv_iload_n (pc := 5) hx hb dX6_init_5 rfl (lv_at hl 1 rfl) ?_
  refine g_newI (pc := 6) (N := 31) C (lg_in me_3 rfl) hP hD hS hA (by decide) (by decide) (by decide) (Nat.le_of_ble_eq_true rfl) (Nat.le_of_ble_eq_true rfl) dX6_init_6 (fun q1 H hP hD hS => ?_)
  have hP : va_P D classes [(h0, .inr (6, [.null, .int 0])), (q1, .inl (cA 0, 31, .inl (fun _ => 0)))] H := hP
  have hD : va_D (va_A ws0 sz) [(h0, .inr (6, [.null, .int 0])), (q1, .inl (cA 0, 31, .inl (fun _ => 0)))] := hD
  refine g_pF (pc := 8) C fd_X6_7 ft_X6_0 hini hP hD hS 0 rfl rfl rfl (Nat.le_of_ble_eq_true rfl) dX6_init_8 (fun H locs hP hD hS => ?_)
  have hP : va_P D classes [(h0, .inr (6, [.ref q1, .int 0])), (q1, .inl (cA 0, 31, .inl (fun _ => 0)))] H := hP
  have hD : va_D (va_A ws0 sz) [(h0, .inr (6, [.ref q1, .int 0])), (q1, .inl (cA 0, 31, .inl (fun _ => 0)))] := hD
  refine lv_aload_n (pc := 11) hx hb dX6_init_11 rfl (lv_at hl 0 rfl) ?_
  refine lv_iconst (pc := 12) (v := 0) hx hb dX6_init_12 (by decide) ?_
  refine g_put (pc := 13) C fg_X6_13 ft_X6_1 hP hD hS 0 rfl rfl rfl (Nat.le_of_ble_eq_true rfl) dX6_init_13 (fun H locs hP hD hS => ?_)
  have hP : va_P D classes [(h0, .inr (6, [.ref q1, .int (0 : Int32)])), (q1, .inl (cA 0, 31, .inl (fun _ => 0)))] H := hP
  have hD : va_D (va_A ws0 sz) [(h0, .inr (6, [.ref q1, .int (0 : Int32)])), (q1, .inl (cA 0, 31, .inl (fun _ => 0)))] := hD
  exact ret_c C hr hlk (fun k => ([q1] : List Nat).getD k 0) hP hD hS dX6_init_16
set_option maxRecDepth 100000 in
theorem c_X6_init_31 (l : Launch) (D : va_G) (cA : Nat → ClassId) (h0 : Nat) (sz : Nat) : Met l yX6_init (Cond.code yX6_init cX6_init 2 none :: lw_good) rm_X6_init_31 (PreXE E0 D cA [.ref h0, .int (31 : Int32)] sz [(h0, .inr (6, [.null, .int 0]))]) (PostC D (wi_X6_init_31 cA h0 ) [(h0, .inr (6, [.null, .int 0]))] sz) 1 31 (va_A [(h0, .inr (6, [.null, .int 0]))] sz) :=
  met_ofI (by decide) (Nat.le_of_ble_eq_true rfl) (fun p e s m args below meth c C hr hlk hini hE hA => k_X6_init_31 C hr hlk hini hE hA h0 )

abbrev wi_X3_init (cA : Nat → ClassId) (h0 : Nat) (u : Nat → Nat) : va_W := [(h0, .inr (3, [.ref (u 0), .ref (u 1), .ref (u 2), .ref (u 3), .ref (u 4), .int (-1 : Int32), .int (0 : Int32), .int (0 : Int32), .int (0 : Int32)])), ((u 0), .inl (cA 0, 36, .inl (fun _ => 0))), ((u 1), .inl (cA 0, 36, .inl (fun _ => 0))), ((u 2), .inl (cA 0, 36, .inl (fun _ => 0))), ((u 3), .inl (cA 0, 36, .inl (fun _ => 0))), ((u 4), .inl (cA 0, 144, .inl (fun _ => 0)))]
abbrev rm_X3_init : Room := { frames := 1, cells := 5, slots := 288, locals := 12 }
set_option maxHeartbeats 4000000 in
set_option maxRecDepth 100000 in
theorem k_X3_init {p : Program} {l : Launch} {e : Env} {s : State} {m : MethodId} {args : Array Value} {below : List Frame} {meth : Method} {c : Code} {D : va_G} {cA : Nat → ClassId} {ws0 : va_W} {sz : Nat} (C : Cx RX3 cX3_init 1 D cA p s m args c) (hr : meth.sig.returnType = none) (hlk : meth.locks = false) (hini : meth.name = "<init>") (hE : E0 s) (hA : ∀ q, s.heap.size ≤ q → va_A ws0 sz q) (h0 : Nat) : At p l e rm_X3_init s m args below meth c D (va_A ws0 sz) 0 0 (MQ below (PostC D (wi_X3_init cA h0 ) ws0 sz) args s 5 288 (va_A ws0 sz)) 1 0 [(h0, .inr (3, [.null, .null, .null, .null, .null, .int 0, .int 0, .int 0, .int 0]))] [(0, .ref h0)] [] := by
  intro H locs ls hP hD hS hl
  have hx := C.1
  have hb := C.2.1
  refine lv_aload_n (pc := 0) hx hb dX3_init_0 rfl (lv_at hl 0 rfl) ?_
  refine g_objinit (pc := 1) C oi_X3 hl.1 dX3_init_1 ⟨(Nat.le_of_ble_eq_true rfl), (Nat.le_of_ble_eq_true rfl)⟩ ?_
  refine lv_aload_n (pc := 4) hx hb dX3_init_4 rfl (lv_at hl 0 rfl) ?_
  refine lv_bipush (pc := 5) (v := 36) hx hb dX3_init_5 (by decide) ?_
  refine g_newI (pc := 7) (N := 36) C (lg_in me_3 rfl) hP hD hS hA (by decide) (by decide) (by decide) (Nat.le_of_ble_eq_true rfl) (Nat.le_of_ble_eq_true rfl) dX3_init_7 (fun q1 H hP hD hS => ?_)
  have hP : va_P D classes [(h0, .inr (3, [.null, .null, .null, .null, .null, .int 0, .int 0, .int 0, .int 0])), (q1, .inl (cA 0, 36, .inl (fun _ => 0)))] H := hP
  have hD : va_D (va_A ws0 sz) [(h0, .inr (3, [.null, .null, .null, .null, .null, .int 0, .int 0, .int 0, .int 0])), (q1, .inl (cA 0, 36, .inl (fun _ => 0)))] := hD
  refine g_pF (pc := 9) C fd_X3_9 ft_X3_0 hini hP hD hS 0 rfl rfl rfl (Nat.le_of_ble_eq_true rfl) dX3_init_9 (fun H locs hP hD hS => ?_)
  have hP : va_P D classes [(h0, .inr (3, [.ref q1, .null, .null, .null, .null, .int 0, .int 0, .int 0, .int 0])), (q1, .inl (cA 0, 36, .inl (fun _ => 0)))] H := hP
  have hD : va_D (va_A ws0 sz) [(h0, .inr (3, [.ref q1, .null, .null, .null, .null, .int 0, .int 0, .int 0, .int 0])), (q1, .inl (cA 0, 36, .inl (fun _ => 0)))] := hD
  refine lv_aload_n (pc := 12) hx hb dX3_init_12 rfl (lv_at hl 0 rfl) ?_
  refine lv_bipush (pc := 13) (v := 36) hx hb dX3_init_13 (by decide) ?_
  refine g_newI (pc := 15) (N := 36) C (lg_in me_3 rfl) hP hD hS hA (by decide) (by decide) (by decide) (Nat.le_of_ble_eq_true rfl) (Nat.le_of_ble_eq_true rfl) dX3_init_15 (fun q2 H hP hD hS => ?_)
  have hP : va_P D classes [(h0, .inr (3, [.ref q1, .null, .null, .null, .null, .int 0, .int 0, .int 0, .int 0])), (q1, .inl (cA 0, 36, .inl (fun _ => 0))), (q2, .inl (cA 0, 36, .inl (fun _ => 0)))] H := hP
  have hD : va_D (va_A ws0 sz) [(h0, .inr (3, [.ref q1, .null, .null, .null, .null, .int 0, .int 0, .int 0, .int 0])), (q1, .inl (cA 0, 36, .inl (fun _ => 0))), (q2, .inl (cA 0, 36, .inl (fun _ => 0)))] := hD
  refine g_pF (pc := 17) C fd_X3_15 ft_X3_1 hini hP hD hS 0 rfl rfl rfl (Nat.le_of_ble_eq_true rfl) dX3_init_17 (fun H locs hP hD hS => ?_)
  have hP : va_P D classes [(h0, .inr (3, [.ref q1, .ref q2, .null, .null, .null, .int 0, .int 0, .int 0, .int 0])), (q1, .inl (cA 0, 36, .inl (fun _ => 0))), (q2, .inl (cA 0, 36, .inl (fun _ => 0)))] H := hP
  have hD : va_D (va_A ws0 sz) [(h0, .inr (3, [.ref q1, .ref q2, .null, .null, .null, .int 0, .int 0, .int 0, .int 0])), (q1, .inl (cA 0, 36, .inl (fun _ => 0))), (q2, .inl (cA 0, 36, .inl (fun _ => 0)))] := hD
  refine lv_aload_n (pc := 20) hx hb dX3_init_20 rfl (lv_at hl 0 rfl) ?_
  refine lv_bipush (pc := 21) (v := 36) hx hb dX3_init_21 (by decide) ?_
  refine g_newI (pc := 23) (N := 36) C (lg_in me_3 rfl) hP hD hS hA (by decide) (by decide) (by decide) (Nat.le_of_ble_eq_true rfl) (Nat.le_of_ble_eq_true rfl) dX3_init_23 (fun q3 H hP hD hS => ?_)
  have hP : va_P D classes [(h0, .inr (3, [.ref q1, .ref q2, .null, .null, .null, .int 0, .int 0, .int 0, .int 0])), (q1, .inl (cA 0, 36, .inl (fun _ => 0))), (q2, .inl (cA 0, 36, .inl (fun _ => 0))), (q3, .inl (cA 0, 36, .inl (fun _ => 0)))] H := hP
  have hD : va_D (va_A ws0 sz) [(h0, .inr (3, [.ref q1, .ref q2, .null, .null, .null, .int 0, .int 0, .int 0, .int 0])), (q1, .inl (cA 0, 36, .inl (fun _ => 0))), (q2, .inl (cA 0, 36, .inl (fun _ => 0))), (q3, .inl (cA 0, 36, .inl (fun _ => 0)))] := hD
  refine g_pF (pc := 25) C fd_X3_18 ft_X3_2 hini hP hD hS 0 rfl rfl rfl (Nat.le_of_ble_eq_true rfl) dX3_init_25 (fun H locs hP hD hS => ?_)
  have hP : va_P D classes [(h0, .inr (3, [.ref q1, .ref q2, .ref q3, .null, .null, .int 0, .int 0, .int 0, .int 0])), (q1, .inl (cA 0, 36, .inl (fun _ => 0))), (q2, .inl (cA 0, 36, .inl (fun _ => 0))), (q3, .inl (cA 0, 36, .inl (fun _ => 0)))] H := hP
  have hD : va_D (va_A ws0 sz) [(h0, .inr (3, [.ref q1, .ref q2, .ref q3, .null, .null, .int 0, .int 0, .int 0, .int 0])), (q1, .inl (cA 0, 36, .inl (fun _ => 0))), (q2, .inl (cA 0, 36, .inl (fun _ => 0))), (q3, .inl (cA 0, 36, .inl (fun _ => 0)))] := hD
  refine lv_aload_n (pc := 28) hx hb dX3_init_28 rfl (lv_at hl 0 rfl) ?_
  refine lv_bipush (pc := 29) (v := 36) hx hb dX3_init_29 (by decide) ?_
  refine g_newI (pc := 31) (N := 36) C (lg_in me_3 rfl) hP hD hS hA (by decide) (by decide) (by decide) (Nat.le_of_ble_eq_true rfl) (Nat.le_of_ble_eq_true rfl) dX3_init_31 (fun q4 H hP hD hS => ?_)
  have hP : va_P D classes [(h0, .inr (3, [.ref q1, .ref q2, .ref q3, .null, .null, .int 0, .int 0, .int 0, .int 0])), (q1, .inl (cA 0, 36, .inl (fun _ => 0))), (q2, .inl (cA 0, 36, .inl (fun _ => 0))), (q3, .inl (cA 0, 36, .inl (fun _ => 0))), (q4, .inl (cA 0, 36, .inl (fun _ => 0)))] H := hP
  have hD : va_D (va_A ws0 sz) [(h0, .inr (3, [.ref q1, .ref q2, .ref q3, .null, .null, .int 0, .int 0, .int 0, .int 0])), (q1, .inl (cA 0, 36, .inl (fun _ => 0))), (q2, .inl (cA 0, 36, .inl (fun _ => 0))), (q3, .inl (cA 0, 36, .inl (fun _ => 0))), (q4, .inl (cA 0, 36, .inl (fun _ => 0)))] := hD
  refine g_pF (pc := 33) C fd_X3_21 ft_X3_3 hini hP hD hS 0 rfl rfl rfl (Nat.le_of_ble_eq_true rfl) dX3_init_33 (fun H locs hP hD hS => ?_)
  have hP : va_P D classes [(h0, .inr (3, [.ref q1, .ref q2, .ref q3, .ref q4, .null, .int 0, .int 0, .int 0, .int 0])), (q1, .inl (cA 0, 36, .inl (fun _ => 0))), (q2, .inl (cA 0, 36, .inl (fun _ => 0))), (q3, .inl (cA 0, 36, .inl (fun _ => 0))), (q4, .inl (cA 0, 36, .inl (fun _ => 0)))] H := hP
  have hD : va_D (va_A ws0 sz) [(h0, .inr (3, [.ref q1, .ref q2, .ref q3, .ref q4, .null, .int 0, .int 0, .int 0, .int 0])), (q1, .inl (cA 0, 36, .inl (fun _ => 0))), (q2, .inl (cA 0, 36, .inl (fun _ => 0))), (q3, .inl (cA 0, 36, .inl (fun _ => 0))), (q4, .inl (cA 0, 36, .inl (fun _ => 0)))] := hD
  refine lv_aload_n (pc := 36) hx hb dX3_init_36 rfl (lv_at hl 0 rfl) ?_
  refine lv_sipush (pc := 37) (v := 144) hx hb dX3_init_37 (by decide) ?_
  refine g_newI (pc := 40) (N := 144) C (lg_in me_3 rfl) hP hD hS hA (by decide) (by decide) (by decide) (Nat.le_of_ble_eq_true rfl) (Nat.le_of_ble_eq_true rfl) dX3_init_40 (fun q5 H hP hD hS => ?_)
  have hP : va_P D classes [(h0, .inr (3, [.ref q1, .ref q2, .ref q3, .ref q4, .null, .int 0, .int 0, .int 0, .int 0])), (q1, .inl (cA 0, 36, .inl (fun _ => 0))), (q2, .inl (cA 0, 36, .inl (fun _ => 0))), (q3, .inl (cA 0, 36, .inl (fun _ => 0))), (q4, .inl (cA 0, 36, .inl (fun _ => 0))), (q5, .inl (cA 0, 144, .inl (fun _ => 0)))] H := hP
  have hD : va_D (va_A ws0 sz) [(h0, .inr (3, [.ref q1, .ref q2, .ref q3, .ref q4, .null, .int 0, .int 0, .int 0, .int 0])), (q1, .inl (cA 0, 36, .inl (fun _ => 0))), (q2, .inl (cA 0, 36, .inl (fun _ => 0))), (q3, .inl (cA 0, 36, .inl (fun _ => 0))), (q4, .inl (cA 0, 36, .inl (fun _ => 0))), (q5, .inl (cA 0, 144, .inl (fun _ => 0)))] := hD
  refine g_pF (pc := 42) C fd_X3_24 ft_X3_4 hini hP hD hS 0 rfl rfl rfl (Nat.le_of_ble_eq_true rfl) dX3_init_42 (fun H locs hP hD hS => ?_)
  have hP : va_P D classes [(h0, .inr (3, [.ref q1, .ref q2, .ref q3, .ref q4, .ref q5, .int 0, .int 0, .int 0, .int 0])), (q1, .inl (cA 0, 36, .inl (fun _ => 0))), (q2, .inl (cA 0, 36, .inl (fun _ => 0))), (q3, .inl (cA 0, 36, .inl (fun _ => 0))), (q4, .inl (cA 0, 36, .inl (fun _ => 0))), (q5, .inl (cA 0, 144, .inl (fun _ => 0)))] H := hP
  have hD : va_D (va_A ws0 sz) [(h0, .inr (3, [.ref q1, .ref q2, .ref q3, .ref q4, .ref q5, .int 0, .int 0, .int 0, .int 0])), (q1, .inl (cA 0, 36, .inl (fun _ => 0))), (q2, .inl (cA 0, 36, .inl (fun _ => 0))), (q3, .inl (cA 0, 36, .inl (fun _ => 0))), (q4, .inl (cA 0, 36, .inl (fun _ => 0))), (q5, .inl (cA 0, 144, .inl (fun _ => 0)))] := hD
  refine lv_aload_n (pc := 45) hx hb dX3_init_45 rfl (lv_at hl 0 rfl) ?_
  refine lv_iconst (pc := 46) (v := (-1)) hx hb dX3_init_46 (by decide) ?_
  refine g_put (pc := 47) C fg_X3_27 ft_X3_5 hP hD hS 0 rfl rfl rfl (Nat.le_of_ble_eq_true rfl) dX3_init_47 (fun H locs hP hD hS => ?_)
  have hP : va_P D classes [(h0, .inr (3, [.ref q1, .ref q2, .ref q3, .ref q4, .ref q5, .int (-1 : Int32), .int 0, .int 0, .int 0])), (q1, .inl (cA 0, 36, .inl (fun _ => 0))), (q2, .inl (cA 0, 36, .inl (fun _ => 0))), (q3, .inl (cA 0, 36, .inl (fun _ => 0))), (q4, .inl (cA 0, 36, .inl (fun _ => 0))), (q5, .inl (cA 0, 144, .inl (fun _ => 0)))] H := hP
  have hD : va_D (va_A ws0 sz) [(h0, .inr (3, [.ref q1, .ref q2, .ref q3, .ref q4, .ref q5, .int (-1 : Int32), .int 0, .int 0, .int 0])), (q1, .inl (cA 0, 36, .inl (fun _ => 0))), (q2, .inl (cA 0, 36, .inl (fun _ => 0))), (q3, .inl (cA 0, 36, .inl (fun _ => 0))), (q4, .inl (cA 0, 36, .inl (fun _ => 0))), (q5, .inl (cA 0, 144, .inl (fun _ => 0)))] := hD
  refine lv_aload_n (pc := 50) hx hb dX3_init_50 rfl (lv_at hl 0 rfl) ?_
  refine lv_iconst (pc := 51) (v := 0) hx hb dX3_init_51 (by decide) ?_
  refine g_put (pc := 52) C fg_X3_31 ft_X3_6 hP hD hS 0 rfl rfl rfl (Nat.le_of_ble_eq_true rfl) dX3_init_52 (fun H locs hP hD hS => ?_)
  have hP : va_P D classes [(h0, .inr (3, [.ref q1, .ref q2, .ref q3, .ref q4, .ref q5, .int (-1 : Int32), .int (0 : Int32), .int 0, .int 0])), (q1, .inl (cA 0, 36, .inl (fun _ => 0))), (q2, .inl (cA 0, 36, .inl (fun _ => 0))), (q3, .inl (cA 0, 36, .inl (fun _ => 0))), (q4, .inl (cA 0, 36, .inl (fun _ => 0))), (q5, .inl (cA 0, 144, .inl (fun _ => 0)))] H := hP
  have hD : va_D (va_A ws0 sz) [(h0, .inr (3, [.ref q1, .ref q2, .ref q3, .ref q4, .ref q5, .int (-1 : Int32), .int (0 : Int32), .int 0, .int 0])), (q1, .inl (cA 0, 36, .inl (fun _ => 0))), (q2, .inl (cA 0, 36, .inl (fun _ => 0))), (q3, .inl (cA 0, 36, .inl (fun _ => 0))), (q4, .inl (cA 0, 36, .inl (fun _ => 0))), (q5, .inl (cA 0, 144, .inl (fun _ => 0)))] := hD
  refine lv_aload_n (pc := 55) hx hb dX3_init_55 rfl (lv_at hl 0 rfl) ?_
  refine lv_iconst (pc := 56) (v := 0) hx hb dX3_init_56 (by decide) ?_
  refine g_put (pc := 57) C fg_X3_34 ft_X3_7 hP hD hS 0 rfl rfl rfl (Nat.le_of_ble_eq_true rfl) dX3_init_57 (fun H locs hP hD hS => ?_)
  have hP : va_P D classes [(h0, .inr (3, [.ref q1, .ref q2, .ref q3, .ref q4, .ref q5, .int (-1 : Int32), .int (0 : Int32), .int (0 : Int32), .int 0])), (q1, .inl (cA 0, 36, .inl (fun _ => 0))), (q2, .inl (cA 0, 36, .inl (fun _ => 0))), (q3, .inl (cA 0, 36, .inl (fun _ => 0))), (q4, .inl (cA 0, 36, .inl (fun _ => 0))), (q5, .inl (cA 0, 144, .inl (fun _ => 0)))] H := hP
  have hD : va_D (va_A ws0 sz) [(h0, .inr (3, [.ref q1, .ref q2, .ref q3, .ref q4, .ref q5, .int (-1 : Int32), .int (0 : Int32), .int (0 : Int32), .int 0])), (q1, .inl (cA 0, 36, .inl (fun _ => 0))), (q2, .inl (cA 0, 36, .inl (fun _ => 0))), (q3, .inl (cA 0, 36, .inl (fun _ => 0))), (q4, .inl (cA 0, 36, .inl (fun _ => 0))), (q5, .inl (cA 0, 144, .inl (fun _ => 0)))] := hD
  refine lv_aload_n (pc := 60) hx hb dX3_init_60 rfl (lv_at hl 0 rfl) ?_
  refine lv_iconst (pc := 61) (v := 0) hx hb dX3_init_61 (by decide) ?_
  refine g_put (pc := 62) C fg_X3_37 ft_X3_8 hP hD hS 0 rfl rfl rfl (Nat.le_of_ble_eq_true rfl) dX3_init_62 (fun H locs hP hD hS => ?_)
  have hP : va_P D classes [(h0, .inr (3, [.ref q1, .ref q2, .ref q3, .ref q4, .ref q5, .int (-1 : Int32), .int (0 : Int32), .int (0 : Int32), .int (0 : Int32)])), (q1, .inl (cA 0, 36, .inl (fun _ => 0))), (q2, .inl (cA 0, 36, .inl (fun _ => 0))), (q3, .inl (cA 0, 36, .inl (fun _ => 0))), (q4, .inl (cA 0, 36, .inl (fun _ => 0))), (q5, .inl (cA 0, 144, .inl (fun _ => 0)))] H := hP
  have hD : va_D (va_A ws0 sz) [(h0, .inr (3, [.ref q1, .ref q2, .ref q3, .ref q4, .ref q5, .int (-1 : Int32), .int (0 : Int32), .int (0 : Int32), .int (0 : Int32)])), (q1, .inl (cA 0, 36, .inl (fun _ => 0))), (q2, .inl (cA 0, 36, .inl (fun _ => 0))), (q3, .inl (cA 0, 36, .inl (fun _ => 0))), (q4, .inl (cA 0, 36, .inl (fun _ => 0))), (q5, .inl (cA 0, 144, .inl (fun _ => 0)))] := hD
  exact ret_c C hr hlk (fun k => ([q1, q2, q3, q4, q5] : List Nat).getD k 0) hP hD hS dX3_init_65
set_option maxRecDepth 100000 in
theorem c_X3_init (l : Launch) (D : va_G) (cA : Nat → ClassId) (h0 : Nat) (sz : Nat) : Met l yX3_init (Cond.code yX3_init cX3_init 1 none :: lw_good) rm_X3_init (PreXE E0 D cA [.ref h0] sz [(h0, .inr (3, [.null, .null, .null, .null, .null, .int 0, .int 0, .int 0, .int 0]))]) (PostC D (wi_X3_init cA h0 ) [(h0, .inr (3, [.null, .null, .null, .null, .null, .int 0, .int 0, .int 0, .int 0]))] sz) 5 288 (va_A [(h0, .inr (3, [.null, .null, .null, .null, .null, .int 0, .int 0, .int 0, .int 0]))] sz) :=
  met_ofI (by decide) (Nat.le_of_ble_eq_true rfl) (fun p e s m args below meth c C hr hlk hini hE hA => k_X3_init C hr hlk hini hE hA h0 )

abbrev wi_X1_init (cA : Nat → ClassId) (h0 : Nat) (u : Nat → Nat) : va_W := [(h0, .inr (1, [.ref (u 0), .ref (u 1), .int (-1 : Int32), .int (0 : Int32)])), ((u 0), .inl (cA 0, 8, .inl (fun _ => 0))), ((u 1), .inl (cA 0, 8, .inl (fun _ => 0)))]
abbrev rm_X1_init : Room := { frames := 1, cells := 2, slots := 16, locals := 12 }
set_option maxHeartbeats 4000000 in
set_option maxRecDepth 100000 in
theorem k_X1_init {p : Program} {l : Launch} {e : Env} {s : State} {m : MethodId} {args : Array Value} {below : List Frame} {meth : Method} {c : Code} {D : va_G} {cA : Nat → ClassId} {ws0 : va_W} {sz : Nat} (C : Cx RX1 cX1_init 1 D cA p s m args c) (hr : meth.sig.returnType = none) (hlk : meth.locks = false) (hini : meth.name = "<init>") (hE : E0 s) (hA : ∀ q, s.heap.size ≤ q → va_A ws0 sz q) (h0 : Nat) : At p l e rm_X1_init s m args below meth c D (va_A ws0 sz) 0 0 (MQ below (PostC D (wi_X1_init cA h0 ) ws0 sz) args s 2 16 (va_A ws0 sz)) 1 0 [(h0, .inr (1, [.null, .null, .int 0, .int 0]))] [(0, .ref h0)] [] := by
  intro H locs ls hP hD hS hl
  have hx := C.1
  have hb := C.2.1
  refine lv_aload_n (pc := 0) hx hb dX1_init_0 rfl (lv_at hl 0 rfl) ?_
  refine g_objinit (pc := 1) C oi_X1 hl.1 dX1_init_1 ⟨(Nat.le_of_ble_eq_true rfl), (Nat.le_of_ble_eq_true rfl)⟩ ?_
  refine lv_aload_n (pc := 4) hx hb dX1_init_4 rfl (lv_at hl 0 rfl) ?_
  refine lv_bipush (pc := 5) (v := 8) hx hb dX1_init_5 (by decide) ?_
  refine g_newI (pc := 7) (N := 8) C (lg_in me_3 rfl) hP hD hS hA (by decide) (by decide) (by decide) (Nat.le_of_ble_eq_true rfl) (Nat.le_of_ble_eq_true rfl) dX1_init_7 (fun q1 H hP hD hS => ?_)
  have hP : va_P D classes [(h0, .inr (1, [.null, .null, .int 0, .int 0])), (q1, .inl (cA 0, 8, .inl (fun _ => 0)))] H := hP
  have hD : va_D (va_A ws0 sz) [(h0, .inr (1, [.null, .null, .int 0, .int 0])), (q1, .inl (cA 0, 8, .inl (fun _ => 0)))] := hD
  refine g_pF (pc := 9) C fd_X1_9 ft_X1_0 hini hP hD hS 0 rfl rfl rfl (Nat.le_of_ble_eq_true rfl) dX1_init_9 (fun H locs hP hD hS => ?_)
  have hP : va_P D classes [(h0, .inr (1, [.ref q1, .null, .int 0, .int 0])), (q1, .inl (cA 0, 8, .inl (fun _ => 0)))] H := hP
  have hD : va_D (va_A ws0 sz) [(h0, .inr (1, [.ref q1, .null, .int 0, .int 0])), (q1, .inl (cA 0, 8, .inl (fun _ => 0)))] := hD
  refine lv_aload_n (pc := 12) hx hb dX1_init_12 rfl (lv_at hl 0 rfl) ?_
  refine lv_bipush (pc := 13) (v := 8) hx hb dX1_init_13 (by decide) ?_
  refine g_newI (pc := 15) (N := 8) C (lg_in me_3 rfl) hP hD hS hA (by decide) (by decide) (by decide) (Nat.le_of_ble_eq_true rfl) (Nat.le_of_ble_eq_true rfl) dX1_init_15 (fun q2 H hP hD hS => ?_)
  have hP : va_P D classes [(h0, .inr (1, [.ref q1, .null, .int 0, .int 0])), (q1, .inl (cA 0, 8, .inl (fun _ => 0))), (q2, .inl (cA 0, 8, .inl (fun _ => 0)))] H := hP
  have hD : va_D (va_A ws0 sz) [(h0, .inr (1, [.ref q1, .null, .int 0, .int 0])), (q1, .inl (cA 0, 8, .inl (fun _ => 0))), (q2, .inl (cA 0, 8, .inl (fun _ => 0)))] := hD
  refine g_pF (pc := 17) C fd_X1_15 ft_X1_1 hini hP hD hS 0 rfl rfl rfl (Nat.le_of_ble_eq_true rfl) dX1_init_17 (fun H locs hP hD hS => ?_)
  have hP : va_P D classes [(h0, .inr (1, [.ref q1, .ref q2, .int 0, .int 0])), (q1, .inl (cA 0, 8, .inl (fun _ => 0))), (q2, .inl (cA 0, 8, .inl (fun _ => 0)))] H := hP
  have hD : va_D (va_A ws0 sz) [(h0, .inr (1, [.ref q1, .ref q2, .int 0, .int 0])), (q1, .inl (cA 0, 8, .inl (fun _ => 0))), (q2, .inl (cA 0, 8, .inl (fun _ => 0)))] := hD
  refine lv_aload_n (pc := 20) hx hb dX1_init_20 rfl (lv_at hl 0 rfl) ?_
  refine lv_iconst (pc := 21) (v := (-1)) hx hb dX1_init_21 (by decide) ?_
  refine g_put (pc := 22) C fg_X1_18 ft_X1_2 hP hD hS 0 rfl rfl rfl (Nat.le_of_ble_eq_true rfl) dX1_init_22 (fun H locs hP hD hS => ?_)
  have hP : va_P D classes [(h0, .inr (1, [.ref q1, .ref q2, .int (-1 : Int32), .int 0])), (q1, .inl (cA 0, 8, .inl (fun _ => 0))), (q2, .inl (cA 0, 8, .inl (fun _ => 0)))] H := hP
  have hD : va_D (va_A ws0 sz) [(h0, .inr (1, [.ref q1, .ref q2, .int (-1 : Int32), .int 0])), (q1, .inl (cA 0, 8, .inl (fun _ => 0))), (q2, .inl (cA 0, 8, .inl (fun _ => 0)))] := hD
  refine lv_aload_n (pc := 25) hx hb dX1_init_25 rfl (lv_at hl 0 rfl) ?_
  refine lv_iconst (pc := 26) (v := 0) hx hb dX1_init_26 (by decide) ?_
  refine g_put (pc := 27) C fg_X1_22 ft_X1_3 hP hD hS 0 rfl rfl rfl (Nat.le_of_ble_eq_true rfl) dX1_init_27 (fun H locs hP hD hS => ?_)
  have hP : va_P D classes [(h0, .inr (1, [.ref q1, .ref q2, .int (-1 : Int32), .int (0 : Int32)])), (q1, .inl (cA 0, 8, .inl (fun _ => 0))), (q2, .inl (cA 0, 8, .inl (fun _ => 0)))] H := hP
  have hD : va_D (va_A ws0 sz) [(h0, .inr (1, [.ref q1, .ref q2, .int (-1 : Int32), .int (0 : Int32)])), (q1, .inl (cA 0, 8, .inl (fun _ => 0))), (q2, .inl (cA 0, 8, .inl (fun _ => 0)))] := hD
  exact ret_c C hr hlk (fun k => ([q1, q2] : List Nat).getD k 0) hP hD hS dX1_init_30
set_option maxRecDepth 100000 in
theorem c_X1_init (l : Launch) (D : va_G) (cA : Nat → ClassId) (h0 : Nat) (sz : Nat) : Met l yX1_init (Cond.code yX1_init cX1_init 1 none :: lw_good) rm_X1_init (PreXE E0 D cA [.ref h0] sz [(h0, .inr (1, [.null, .null, .int 0, .int 0]))]) (PostC D (wi_X1_init cA h0 ) [(h0, .inr (1, [.null, .null, .int 0, .int 0]))] sz) 2 16 (va_A [(h0, .inr (1, [.null, .null, .int 0, .int 0]))] sz) :=
  met_ofI (by decide) (Nat.le_of_ble_eq_true rfl) (fun p e s m args below meth c C hr hlk hini hE hA => k_X1_init C hr hlk hini hE hA h0 )

abbrev wi_X4_init (cA : Nat → ClassId) (h0 : Nat) (u : Nat → Nat) : va_W := [(h0, .inr (4, [.ref (u 0), .ref (u 1), .ref (u 2), .int (0 : Int32)])), ((u 0), .inl (cA 0, 8, .inl (fun _ => 0))), ((u 1), .inl (cA 0, 8, .inl (fun _ => 0))), ((u 2), .inl (cA 0, 8, .inl (fun _ => 0)))]
abbrev rm_X4_init : Room := { frames := 1, cells := 3, slots := 24, locals := 12 }
set_option maxHeartbeats 4000000 in
set_option maxRecDepth 100000 in
theorem k_X4_init {p : Program} {l : Launch} {e : Env} {s : State} {m : MethodId} {args : Array Value} {below : List Frame} {meth : Method} {c : Code} {D : va_G} {cA : Nat → ClassId} {ws0 : va_W} {sz : Nat} (C : Cx RX4 cX4_init 1 D cA p s m args c) (hr : meth.sig.returnType = none) (hlk : meth.locks = false) (hini : meth.name = "<init>") (hE : E0 s) (hA : ∀ q, s.heap.size ≤ q → va_A ws0 sz q) (h0 : Nat) : At p l e rm_X4_init s m args below meth c D (va_A ws0 sz) 0 0 (MQ below (PostC D (wi_X4_init cA h0 ) ws0 sz) args s 3 24 (va_A ws0 sz)) 1 0 [(h0, .inr (4, [.null, .null, .null, .int 0]))] [(0, .ref h0)] [] := by
  intro H locs ls hP hD hS hl
  have hx := C.1
  have hb := C.2.1
  refine lv_aload_n (pc := 0) hx hb dX4_init_0 rfl (lv_at hl 0 rfl) ?_
  refine g_objinit (pc := 1) C oi_X4 hl.1 dX4_init_1 ⟨(Nat.le_of_ble_eq_true rfl), (Nat.le_of_ble_eq_true rfl)⟩ ?_
  refine lv_aload_n (pc := 4) hx hb dX4_init_4 rfl (lv_at hl 0 rfl) ?_
  refine lv_bipush (pc := 5) (v := 8) hx hb dX4_init_5 (by decide) ?_
  refine g_newI (pc := 7) (N := 8) C (lg_in me_3 rfl) hP hD hS hA (by decide) (by decide) (by decide) (Nat.le_of_ble_eq_true rfl) (Nat.le_of_ble_eq_true rfl) dX4_init_7 (fun q1 H hP hD hS => ?_)
  have hP : va_P D classes [(h0, .inr (4, [.null, .null, .null, .int 0])), (q1, .inl (cA 0, 8, .inl (fun _ => 0)))] H := hP
  have hD : va_D (va_A ws0 sz) [(h0, .inr (4, [.null, .null, .null, .int 0])), (q1, .inl (cA 0, 8, .inl (fun _ => 0)))] := hD
  refine g_pF (pc := 9) C fd_X4_9 ft_X4_0 hini hP hD hS 0 rfl rfl rfl (Nat.le_of_ble_eq_true rfl) dX4_init_9 (fun H locs hP hD hS => ?_)
  have hP : va_P D classes [(h0, .inr (4, [.ref q1, .null, .null, .int 0])), (q1, .inl (cA 0, 8, .inl (fun _ => 0)))] H := hP
  have hD : va_D (va_A ws0 sz) [(h0, .inr (4, [.ref q1, .null, .null, .int 0])), (q1, .inl (cA 0, 8, .inl (fun _ => 0)))] := hD
  refine lv_aload_n (pc := 12) hx hb dX4_init_12 rfl (lv_at hl 0 rfl) ?_
  refine lv_bipush (pc := 13) (v := 8) hx hb dX4_init_13 (by decide) ?_
  refine g_newI (pc := 15) (N := 8) C (lg_in me_3 rfl) hP hD hS hA (by decide) (by decide) (by decide) (Nat.le_of_ble_eq_true rfl) (Nat.le_of_ble_eq_true rfl) dX4_init_15 (fun q2 H hP hD hS => ?_)
  have hP : va_P D classes [(h0, .inr (4, [.ref q1, .null, .null, .int 0])), (q1, .inl (cA 0, 8, .inl (fun _ => 0))), (q2, .inl (cA 0, 8, .inl (fun _ => 0)))] H := hP
  have hD : va_D (va_A ws0 sz) [(h0, .inr (4, [.ref q1, .null, .null, .int 0])), (q1, .inl (cA 0, 8, .inl (fun _ => 0))), (q2, .inl (cA 0, 8, .inl (fun _ => 0)))] := hD
  refine g_pF (pc := 17) C fd_X4_15 ft_X4_1 hini hP hD hS 0 rfl rfl rfl (Nat.le_of_ble_eq_true rfl) dX4_init_17 (fun H locs hP hD hS => ?_)
  have hP : va_P D classes [(h0, .inr (4, [.ref q1, .ref q2, .null, .int 0])), (q1, .inl (cA 0, 8, .inl (fun _ => 0))), (q2, .inl (cA 0, 8, .inl (fun _ => 0)))] H := hP
  have hD : va_D (va_A ws0 sz) [(h0, .inr (4, [.ref q1, .ref q2, .null, .int 0])), (q1, .inl (cA 0, 8, .inl (fun _ => 0))), (q2, .inl (cA 0, 8, .inl (fun _ => 0)))] := hD
  refine lv_aload_n (pc := 20) hx hb dX4_init_20 rfl (lv_at hl 0 rfl) ?_
  refine lv_bipush (pc := 21) (v := 8) hx hb dX4_init_21 (by decide) ?_
  refine g_newI (pc := 23) (N := 8) C (lg_in me_3 rfl) hP hD hS hA (by decide) (by decide) (by decide) (Nat.le_of_ble_eq_true rfl) (Nat.le_of_ble_eq_true rfl) dX4_init_23 (fun q3 H hP hD hS => ?_)
  have hP : va_P D classes [(h0, .inr (4, [.ref q1, .ref q2, .null, .int 0])), (q1, .inl (cA 0, 8, .inl (fun _ => 0))), (q2, .inl (cA 0, 8, .inl (fun _ => 0))), (q3, .inl (cA 0, 8, .inl (fun _ => 0)))] H := hP
  have hD : va_D (va_A ws0 sz) [(h0, .inr (4, [.ref q1, .ref q2, .null, .int 0])), (q1, .inl (cA 0, 8, .inl (fun _ => 0))), (q2, .inl (cA 0, 8, .inl (fun _ => 0))), (q3, .inl (cA 0, 8, .inl (fun _ => 0)))] := hD
  refine g_pF (pc := 25) C fd_X4_18 ft_X4_2 hini hP hD hS 0 rfl rfl rfl (Nat.le_of_ble_eq_true rfl) dX4_init_25 (fun H locs hP hD hS => ?_)
  have hP : va_P D classes [(h0, .inr (4, [.ref q1, .ref q2, .ref q3, .int 0])), (q1, .inl (cA 0, 8, .inl (fun _ => 0))), (q2, .inl (cA 0, 8, .inl (fun _ => 0))), (q3, .inl (cA 0, 8, .inl (fun _ => 0)))] H := hP
  have hD : va_D (va_A ws0 sz) [(h0, .inr (4, [.ref q1, .ref q2, .ref q3, .int 0])), (q1, .inl (cA 0, 8, .inl (fun _ => 0))), (q2, .inl (cA 0, 8, .inl (fun _ => 0))), (q3, .inl (cA 0, 8, .inl (fun _ => 0)))] := hD
  refine lv_aload_n (pc := 28) hx hb dX4_init_28 rfl (lv_at hl 0 rfl) ?_
  refine lv_iconst (pc := 29) (v := 0) hx hb dX4_init_29 (by decide) ?_
  refine g_put (pc := 30) C fg_X4_21 ft_X4_3 hP hD hS 0 rfl rfl rfl (Nat.le_of_ble_eq_true rfl) dX4_init_30 (fun H locs hP hD hS => ?_)
  have hP : va_P D classes [(h0, .inr (4, [.ref q1, .ref q2, .ref q3, .int (0 : Int32)])), (q1, .inl (cA 0, 8, .inl (fun _ => 0))), (q2, .inl (cA 0, 8, .inl (fun _ => 0))), (q3, .inl (cA 0, 8, .inl (fun _ => 0)))] H := hP
  have hD : va_D (va_A ws0 sz) [(h0, .inr (4, [.ref q1, .ref q2, .ref q3, .int (0 : Int32)])), (q1, .inl (cA 0, 8, .inl (fun _ => 0))), (q2, .inl (cA 0, 8, .inl (fun _ => 0))), (q3, .inl (cA 0, 8, .inl (fun _ => 0)))] := hD
  exact ret_c C hr hlk (fun k => ([q1, q2, q3] : List Nat).getD k 0) hP hD hS dX4_init_33
set_option maxRecDepth 100000 in
theorem c_X4_init (l : Launch) (D : va_G) (cA : Nat → ClassId) (h0 : Nat) (sz : Nat) : Met l yX4_init (Cond.code yX4_init cX4_init 1 none :: lw_good) rm_X4_init (PreXE E0 D cA [.ref h0] sz [(h0, .inr (4, [.null, .null, .null, .int 0]))]) (PostC D (wi_X4_init cA h0 ) [(h0, .inr (4, [.null, .null, .null, .int 0]))] sz) 3 24 (va_A [(h0, .inr (4, [.null, .null, .null, .int 0]))] sz) :=
  met_ofI (by decide) (Nat.le_of_ble_eq_true rfl) (fun p e s m args below meth c C hr hlk hini hE hA => k_X4_init C hr hlk hini hE hA h0 )

abbrev wi_X7_init (cA : Nat → ClassId) (h0 : Nat) (a_1 a_2 a_3 : Nat) (u : Nat → Nat) : va_W := [(h0, .inr (7, [.ref a_1, .ref a_2, .ref a_3, .ref (u 0), .ref (u 1), .ref (u 2), .ref (u 3), .ref (u 4), .ref (u 5), .int (0 : Int32), .int (10 : Int32), .int (-1 : Int32), .int (-1 : Int32)])), ((u 0), .inl (cA 0, 36, .inl (fun _ => 0))), ((u 1), .inl (cA 0, 36, .inl (fun _ => 0))), ((u 2), .inl (cA 0, 250, .inl (fun _ => 0))), ((u 3), .inl (cA 0, 10, .inl (fun _ => 0))), ((u 4), .inl (cA 1, 10, .inr (.inl (fun _ => 0)))), ((u 5), .inl (cA 0, 60, .inl (fun _ => 0)))]
abbrev rm_X7_init : Room := { frames := 1, cells := 6, slots := 402, locals := 12 }
set_option maxHeartbeats 4000000 in
set_option maxRecDepth 100000 in
theorem k_X7_init {p : Program} {l : Launch} {e : Env} {s : State} {m : MethodId} {args : Array Value} {below : List Frame} {meth : Method} {c : Code} {D : va_G} {cA : Nat → ClassId} {ws0 : va_W} {sz : Nat} (C : Cx RX7 cX7_init 4 D cA p s m args c) (hr : meth.sig.returnType = none) (hlk : meth.locks = false) (hini : meth.name = "<init>") (hE : E0 s) (hA : ∀ q, s.heap.size ≤ q → va_A ws0 sz q) (h0 : Nat) (a_1 a_2 a_3 : Nat) : At p l e rm_X7_init s m args below meth c D (va_A ws0 sz) 0 0 (MQ below (PostC D (wi_X7_init cA h0 a_1 a_2 a_3 ) ws0 sz) args s 6 402 (va_A ws0 sz)) 4 0 [(h0, .inr (7, [.null, .null, .null, .null, .null, .null, .null, .null, .null, .int 0, .int 0, .int 0, .int 0]))] [(0, .ref h0), (1, .ref a_1), (2, .ref a_2), (3, .ref a_3)] [] := by
  intro H locs ls hP hD hS hl
  have hx := C.1
  have hb := C.2.1
  refine lv_aload_n (pc := 0) hx hb dX7_init_0 rfl (lv_at hl 0 rfl) ?_
  refine g_objinit (pc := 1) C oi_X7 hl.1 dX7_init_1 ⟨(Nat.le_of_ble_eq_true rfl), (Nat.le_of_ble_eq_true rfl)⟩ ?_
  refine lv_aload_n (pc := 4) hx hb dX7_init_4 rfl (lv_at hl 0 rfl) ?_
  refine lv_bipush (pc := 5) (v := 36) hx hb dX7_init_5 (by decide) ?_
  refine g_newI (pc := 7) (N := 36) C (lg_in me_3 rfl) hP hD hS hA (by decide) (by decide) (by decide) (Nat.le_of_ble_eq_true rfl) (Nat.le_of_ble_eq_true rfl) dX7_init_7 (fun q1 H hP hD hS => ?_)
  have hP : va_P D classes [(h0, .inr (7, [.null, .null, .null, .null, .null, .null, .null, .null, .null, .int 0, .int 0, .int 0, .int 0])), (q1, .inl (cA 0, 36, .inl (fun _ => 0)))] H := hP
  have hD : va_D (va_A ws0 sz) [(h0, .inr (7, [.null, .null, .null, .null, .null, .null, .null, .null, .null, .int 0, .int 0, .int 0, .int 0])), (q1, .inl (cA 0, 36, .inl (fun _ => 0)))] := hD
  refine g_pF (pc := 9) C fd_X7_9 ft_X7_3 hini hP hD hS 0 rfl rfl rfl (Nat.le_of_ble_eq_true rfl) dX7_init_9 (fun H locs hP hD hS => ?_)
  have hP : va_P D classes [(h0, .inr (7, [.null, .null, .null, .ref q1, .null, .null, .null, .null, .null, .int 0, .int 0, .int 0, .int 0])), (q1, .inl (cA 0, 36, .inl (fun _ => 0)))] H := hP
  have hD : va_D (va_A ws0 sz) [(h0, .inr (7, [.null, .null, .null, .ref q1, .null, .null, .null, .null, .null, .int 0, .int 0, .int 0, .int 0])), (q1, .inl (cA 0, 36, .inl (fun _ => 0)))] := hD
  refine lv_aload_n (pc := 12) hx hb dX7_init_12 rfl (lv_at hl 0 rfl) ?_
  refine lv_bipush (pc := 13) (v := 36) hx hb dX7_init_13 (by decide) ?_
  refine g_newI (pc := 15) (N := 36) C (lg_in me_3 rfl) hP hD hS hA (by decide) (by decide) (by decide) (Nat.le_of_ble_eq_true rfl) (Nat.le_of_ble_eq_true rfl) dX7_init_15 (fun q2 H hP hD hS => ?_)
  have hP : va_P D classes [(h0, .inr (7, [.null, .null, .null, .ref q1, .null, .null, .null, .null, .null, .int 0, .int 0, .int 0, .int 0])), (q1, .inl (cA 0, 36, .inl (fun _ => 0))), (q2, .inl (cA 0, 36, .inl (fun _ => 0)))] H := hP
  have hD : va_D (va_A ws0 sz) [(h0, .inr (7, [.null, .null, .null, .ref q1, .null, .null, .null, .null, .null, .int 0, .int 0, .int 0, .int 0])), (q1, .inl (cA 0, 36, .inl (fun _ => 0))), (q2, .inl (cA 0, 36, .inl (fun _ => 0)))] := hD
  refine g_pF (pc := 17) C fd_X7_15 ft_X7_4 hini hP hD hS 0 rfl rfl rfl (Nat.le_of_ble_eq_true rfl) dX7_init_17 (fun H locs hP hD hS => ?_)
  have hP : va_P D classes [(h0, .inr (7, [.null, .null, .null, .ref q1, .ref q2, .null, .null, .null, .null, .int 0, .int 0, .int 0, .int 0])), (q1, .inl (cA 0, 36, .inl (fun _ => 0))), (q2, .inl (cA 0, 36, .inl (fun _ => 0)))] H := hP
  have hD : va_D (va_A ws0 sz) [(h0, .inr (7, [.null, .null, .null, .ref q1, .ref q2, .null, .null, .null, .null, .int 0, .int 0, .int 0, .int 0])), (q1, .inl (cA 0, 36, .inl (fun _ => 0))), (q2, .inl (cA 0, 36, .inl (fun _ => 0)))] := hD
  refine lv_aload_n (pc := 20) hx hb dX7_init_20 rfl (lv_at hl 0 rfl) ?_
  refine lv_sipush (pc := 21) (v := 250) hx hb dX7_init_21 (by decide) ?_
  refine g_newI (pc := 24) (N := 250) C (lg_in me_3 rfl) hP hD hS hA (by decide) (by decide) (by decide) (Nat.le_of_ble_eq_true rfl) (Nat.le_of_ble_eq_true rfl) dX7_init_24 (fun q3 H hP hD hS => ?_)
  have hP : va_P D classes [(h0, .inr (7, [.null, .null, .null, .ref q1, .ref q2, .null, .null, .null, .null, .int 0, .int 0, .int 0, .int 0])), (q1, .inl (cA 0, 36, .inl (fun _ => 0))), (q2, .inl (cA 0, 36, .inl (fun _ => 0))), (q3, .inl (cA 0, 250, .inl (fun _ => 0)))] H := hP
  have hD : va_D (va_A ws0 sz) [(h0, .inr (7, [.null, .null, .null, .ref q1, .ref q2, .null, .null, .null, .null, .int 0, .int 0, .int 0, .int 0])), (q1, .inl (cA 0, 36, .inl (fun _ => 0))), (q2, .inl (cA 0, 36, .inl (fun _ => 0))), (q3, .inl (cA 0, 250, .inl (fun _ => 0)))] := hD
  refine g_pF (pc := 26) C fd_X7_18 ft_X7_5 hini hP hD hS 0 rfl rfl rfl (Nat.le_of_ble_eq_true rfl) dX7_init_26 (fun H locs hP hD hS => ?_)
  have hP : va_P D classes [(h0, .inr (7, [.null, .null, .null, .ref q1, .ref q2, .ref q3, .null, .null, .null, .int 0, .int 0, .int 0, .int 0])), (q1, .inl (cA 0, 36, .inl (fun _ => 0))), (q2, .inl (cA 0, 36, .inl (fun _ => 0))), (q3, .inl (cA 0, 250, .inl (fun _ => 0)))] H := hP
  have hD : va_D (va_A ws0 sz) [(h0, .inr (7, [.null, .null, .null, .ref q1, .ref q2, .ref q3, .null, .null, .null, .int 0, .int 0, .int 0, .int 0])), (q1, .inl (cA 0, 36, .inl (fun _ => 0))), (q2, .inl (cA 0, 36, .inl (fun _ => 0))), (q3, .inl (cA 0, 250, .inl (fun _ => 0)))] := hD
  refine lv_aload_n (pc := 29) hx hb dX7_init_29 rfl (lv_at hl 0 rfl) ?_
  refine lv_bipush (pc := 30) (v := 10) hx hb dX7_init_30 (by decide) ?_
  refine g_newI (pc := 32) (N := 10) C (lg_in me_3 rfl) hP hD hS hA (by decide) (by decide) (by decide) (Nat.le_of_ble_eq_true rfl) (Nat.le_of_ble_eq_true rfl) dX7_init_32 (fun q4 H hP hD hS => ?_)
  have hP : va_P D classes [(h0, .inr (7, [.null, .null, .null, .ref q1, .ref q2, .ref q3, .null, .null, .null, .int 0, .int 0, .int 0, .int 0])), (q1, .inl (cA 0, 36, .inl (fun _ => 0))), (q2, .inl (cA 0, 36, .inl (fun _ => 0))), (q3, .inl (cA 0, 250, .inl (fun _ => 0))), (q4, .inl (cA 0, 10, .inl (fun _ => 0)))] H := hP
  have hD : va_D (va_A ws0 sz) [(h0, .inr (7, [.null, .null, .null, .ref q1, .ref q2, .ref q3, .null, .null, .null, .int 0, .int 0, .int 0, .int 0])), (q1, .inl (cA 0, 36, .inl (fun _ => 0))), (q2, .inl (cA 0, 36, .inl (fun _ => 0))), (q3, .inl (cA 0, 250, .inl (fun _ => 0))), (q4, .inl (cA 0, 10, .inl (fun _ => 0)))] := hD
  refine g_pF (pc := 34) C fd_X7_21 ft_X7_6 hini hP hD hS 0 rfl rfl rfl (Nat.le_of_ble_eq_true rfl) dX7_init_34 (fun H locs hP hD hS => ?_)
  have hP : va_P D classes [(h0, .inr (7, [.null, .null, .null, .ref q1, .ref q2, .ref q3, .ref q4, .null, .null, .int 0, .int 0, .int 0, .int 0])), (q1, .inl (cA 0, 36, .inl (fun _ => 0))), (q2, .inl (cA 0, 36, .inl (fun _ => 0))), (q3, .inl (cA 0, 250, .inl (fun _ => 0))), (q4, .inl (cA 0, 10, .inl (fun _ => 0)))] H := hP
  have hD : va_D (va_A ws0 sz) [(h0, .inr (7, [.null, .null, .null, .ref q1, .ref q2, .ref q3, .ref q4, .null, .null, .int 0, .int 0, .int 0, .int 0])), (q1, .inl (cA 0, 36, .inl (fun _ => 0))), (q2, .inl (cA 0, 36, .inl (fun _ => 0))), (q3, .inl (cA 0, 250, .inl (fun _ => 0))), (q4, .inl (cA 0, 10, .inl (fun _ => 0)))] := hD
  refine lv_aload_n (pc := 37) hx hb dX7_init_37 rfl (lv_at hl 0 rfl) ?_
  refine lv_bipush (pc := 38) (v := 10) hx hb dX7_init_38 (by decide) ?_
  refine g_newL (pc := 40) (N := 10) C (lg_in me_8 rfl) hP hD hS hA (by decide) (by decide) (by decide) (Nat.le_of_ble_eq_true rfl) (Nat.le_of_ble_eq_true rfl) dX7_init_40 (fun q5 H hP hD hS => ?_)
  have hP : va_P D classes [(h0, .inr (7, [.null, .null, .null, .ref q1, .ref q2, .ref q3, .ref q4, .null, .null, .int 0, .int 0, .int 0, .int 0])), (q1, .inl (cA 0, 36, .inl (fun _ => 0))), (q2, .inl (cA 0, 36, .inl (fun _ => 0))), (q3, .inl (cA 0, 250, .inl (fun _ => 0))), (q4, .inl (cA 0, 10, .inl (fun _ => 0))), (q5, .inl (cA 1, 10, .inr (.inl (fun _ => 0))))] H := hP
  have hD : va_D (va_A ws0 sz) [(h0, .inr (7, [.null, .null, .null, .ref q1, .ref q2, .ref q3, .ref q4, .null, .null, .int 0, .int 0, .int 0, .int 0])), (q1, .inl (cA 0, 36, .inl (fun _ => 0))), (q2, .inl (cA 0, 36, .inl (fun _ => 0))), (q3, .inl (cA 0, 250, .inl (fun _ => 0))), (q4, .inl (cA 0, 10, .inl (fun _ => 0))), (q5, .inl (cA 1, 10, .inr (.inl (fun _ => 0))))] := hD
  refine g_pF (pc := 42) C fd_X7_24 ft_X7_7 hini hP hD hS 0 rfl rfl rfl (Nat.le_of_ble_eq_true rfl) dX7_init_42 (fun H locs hP hD hS => ?_)
  have hP : va_P D classes [(h0, .inr (7, [.null, .null, .null, .ref q1, .ref q2, .ref q3, .ref q4, .ref q5, .null, .int 0, .int 0, .int 0, .int 0])), (q1, .inl (cA 0, 36, .inl (fun _ => 0))), (q2, .inl (cA 0, 36, .inl (fun _ => 0))), (q3, .inl (cA 0, 250, .inl (fun _ => 0))), (q4, .inl (cA 0, 10, .inl (fun _ => 0))), (q5, .inl (cA 1, 10, .inr (.inl (fun _ => 0))))] H := hP
  have hD : va_D (va_A ws0 sz) [(h0, .inr (7, [.null, .null, .null, .ref q1, .ref q2, .ref q3, .ref q4, .ref q5, .null, .int 0, .int 0, .int 0, .int 0])), (q1, .inl (cA 0, 36, .inl (fun _ => 0))), (q2, .inl (cA 0, 36, .inl (fun _ => 0))), (q3, .inl (cA 0, 250, .inl (fun _ => 0))), (q4, .inl (cA 0, 10, .inl (fun _ => 0))), (q5, .inl (cA 1, 10, .inr (.inl (fun _ => 0))))] := hD
  refine lv_aload_n (pc := 45) hx hb dX7_init_45 rfl (lv_at hl 0 rfl) ?_
  refine lv_bipush (pc := 46) (v := 60) hx hb dX7_init_46 (by decide) ?_
  refine g_newI (pc := 48) (N := 60) C (lg_in me_3 rfl) hP hD hS hA (by decide) (by decide) (by decide) (Nat.le_of_ble_eq_true rfl) (Nat.le_of_ble_eq_true rfl) dX7_init_48 (fun q6 H hP hD hS => ?_)
  have hP : va_P D classes [(h0, .inr (7, [.null, .null, .null, .ref q1, .ref q2, .ref q3, .ref q4, .ref q5, .null, .int 0, .int 0, .int 0, .int 0])), (q1, .inl (cA 0, 36, .inl (fun _ => 0))), (q2, .inl (cA 0, 36, .inl (fun _ => 0))), (q3, .inl (cA 0, 250, .inl (fun _ => 0))), (q4, .inl (cA 0, 10, .inl (fun _ => 0))), (q5, .inl (cA 1, 10, .inr (.inl (fun _ => 0)))), (q6, .inl (cA 0, 60, .inl (fun _ => 0)))] H := hP
  have hD : va_D (va_A ws0 sz) [(h0, .inr (7, [.null, .null, .null, .ref q1, .ref q2, .ref q3, .ref q4, .ref q5, .null, .int 0, .int 0, .int 0, .int 0])), (q1, .inl (cA 0, 36, .inl (fun _ => 0))), (q2, .inl (cA 0, 36, .inl (fun _ => 0))), (q3, .inl (cA 0, 250, .inl (fun _ => 0))), (q4, .inl (cA 0, 10, .inl (fun _ => 0))), (q5, .inl (cA 1, 10, .inr (.inl (fun _ => 0)))), (q6, .inl (cA 0, 60, .inl (fun _ => 0)))] := hD
  refine g_pF (pc := 50) C fd_X7_28 ft_X7_8 hini hP hD hS 0 rfl rfl rfl (Nat.le_of_ble_eq_true rfl) dX7_init_50 (fun H locs hP hD hS => ?_)
  have hP : va_P D classes [(h0, .inr (7, [.null, .null, .null, .ref q1, .ref q2, .ref q3, .ref q4, .ref q5, .ref q6, .int 0, .int 0, .int 0, .int 0])), (q1, .inl (cA 0, 36, .inl (fun _ => 0))), (q2, .inl (cA 0, 36, .inl (fun _ => 0))), (q3, .inl (cA 0, 250, .inl (fun _ => 0))), (q4, .inl (cA 0, 10, .inl (fun _ => 0))), (q5, .inl (cA 1, 10, .inr (.inl (fun _ => 0)))), (q6, .inl (cA 0, 60, .inl (fun _ => 0)))] H := hP
  have hD : va_D (va_A ws0 sz) [(h0, .inr (7, [.null, .null, .null, .ref q1, .ref q2, .ref q3, .ref q4, .ref q5, .ref q6, .int 0, .int 0, .int 0, .int 0])), (q1, .inl (cA 0, 36, .inl (fun _ => 0))), (q2, .inl (cA 0, 36, .inl (fun _ => 0))), (q3, .inl (cA 0, 250, .inl (fun _ => 0))), (q4, .inl (cA 0, 10, .inl (fun _ => 0))), (q5, .inl (cA 1, 10, .inr (.inl (fun _ => 0)))), (q6, .inl (cA 0, 60, .inl (fun _ => 0)))] := hD
  refine lv_aload_n (pc := 53) hx hb dX7_init_53 rfl (lv_at hl 0 rfl) ?_
  refine lv_iconst (pc := 54) (v := 0) hx hb dX7_init_54 (by decide) ?_
  refine g_put (pc := 55) C fg_X7_31 ft_X7_9 hP hD hS 0 rfl rfl rfl (Nat.le_of_ble_eq_true rfl) dX7_init_55 (fun H locs hP hD hS => ?_)
  have hP : va_P D classes [(h0, .inr (7, [.null, .null, .null, .ref q1, .ref q2, .ref q3, .ref q4, .ref q5, .ref q6, .int (0 : Int32), .int 0, .int 0, .int 0])), (q1, .inl (cA 0, 36, .inl (fun _ => 0))), (q2, .inl (cA 0, 36, .inl (fun _ => 0))), (q3, .inl (cA 0, 250, .inl (fun _ => 0))), (q4, .inl (cA 0, 10, .inl (fun _ => 0))), (q5, .inl (cA 1, 10, .inr (.inl (fun _ => 0)))), (q6, .inl (cA 0, 60, .inl (fun _ => 0)))] H := hP
  have hD : va_D (va_A ws0 sz) [(h0, .inr (7, [.null, .null, .null, .ref q1, .ref q2, .ref q3, .ref q4, .ref q5, .ref q6, .int (0 : Int32), .int 0, .int 0, .int 0])), (q1, .inl (cA 0, 36, .inl (fun _ => 0))), (q2, .inl (cA 0, 36, .inl (fun _ => 0))), (q3, .inl (cA 0, 250, .inl (fun _ => 0))), (q4, .inl (cA 0, 10, .inl (fun _ => 0))), (q5, .inl (cA 1, 10, .inr (.inl (fun _ => 0)))), (q6, .inl (cA 0, 60, .inl (fun _ => 0)))] := hD
  refine lv_aload_n (pc := 58) hx hb dX7_init_58 rfl (lv_at hl 0 rfl) ?_
  refine lv_bipush (pc := 59) (v := 10) hx hb dX7_init_59 (by decide) ?_
  refine g_put (pc := 61) C fg_X7_35 ft_X7_10 hP hD hS 0 rfl rfl rfl (Nat.le_of_ble_eq_true rfl) dX7_init_61 (fun H locs hP hD hS => ?_)
  have hP : va_P D classes [(h0, .inr (7, [.null, .null, .null, .ref q1, .ref q2, .ref q3, .ref q4, .ref q5, .ref q6, .int (0 : Int32), .int (10 : Int32), .int 0, .int 0])), (q1, .inl (cA 0, 36, .inl (fun _ => 0))), (q2, .inl (cA 0, 36, .inl (fun _ => 0))), (q3, .inl (cA 0, 250, .inl (fun _ => 0))), (q4, .inl (cA 0, 10, .inl (fun _ => 0))), (q5, .inl (cA 1, 10, .inr (.inl (fun _ => 0)))), (q6, .inl (cA 0, 60, .inl (fun _ => 0)))] H := hP
  have hD : va_D (va_A ws0 sz) [(h0, .inr (7, [.null, .null, .null, .ref q1, .ref q2, .ref q3, .ref q4, .ref q5, .ref q6, .int (0 : Int32), .int (10 : Int32), .int 0, .int 0])), (q1, .inl (cA 0, 36, .inl (fun _ => 0))), (q2, .inl (cA 0, 36, .inl (fun _ => 0))), (q3, .inl (cA 0, 250, .inl (fun _ => 0))), (q4, .inl (cA 0, 10, .inl (fun _ => 0))), (q5, .inl (cA 1, 10, .inr (.inl (fun _ => 0)))), (q6, .inl (cA 0, 60, .inl (fun _ => 0)))] := hD
  refine lv_aload_n (pc := 64) hx hb dX7_init_64 rfl (lv_at hl 0 rfl) ?_
  refine lv_iconst (pc := 65) (v := (-1)) hx hb dX7_init_65 (by decide) ?_
  refine g_put (pc := 66) C fg_X7_38 ft_X7_11 hP hD hS 0 rfl rfl rfl (Nat.le_of_ble_eq_true rfl) dX7_init_66 (fun H locs hP hD hS => ?_)
  have hP : va_P D classes [(h0, .inr (7, [.null, .null, .null, .ref q1, .ref q2, .ref q3, .ref q4, .ref q5, .ref q6, .int (0 : Int32), .int (10 : Int32), .int (-1 : Int32), .int 0])), (q1, .inl (cA 0, 36, .inl (fun _ => 0))), (q2, .inl (cA 0, 36, .inl (fun _ => 0))), (q3, .inl (cA 0, 250, .inl (fun _ => 0))), (q4, .inl (cA 0, 10, .inl (fun _ => 0))), (q5, .inl (cA 1, 10, .inr (.inl (fun _ => 0)))), (q6, .inl (cA 0, 60, .inl (fun _ => 0)))] H := hP
  have hD : va_D (va_A ws0 sz) [(h0, .inr (7, [.null, .null, .null, .ref q1, .ref q2, .ref q3, .ref q4, .ref q5, .ref q6, .int (0 : Int32), .int (10 : Int32), .int (-1 : Int32), .int 0])), (q1, .inl (cA 0, 36, .inl (fun _ => 0))), (q2, .inl (cA 0, 36, .inl (fun _ => 0))), (q3, .inl (cA 0, 250, .inl (fun _ => 0))), (q4, .inl (cA 0, 10, .inl (fun _ => 0))), (q5, .inl (cA 1, 10, .inr (.inl (fun _ => 0)))), (q6, .inl (cA 0, 60, .inl (fun _ => 0)))] := hD
  refine lv_aload_n (pc := 69) hx hb dX7_init_69 rfl (lv_at hl 0 rfl) ?_
  refine lv_iconst (pc := 70) (v := (-1)) hx hb dX7_init_70 (by decide) ?_
  refine g_put (pc := 71) C fg_X7_41 ft_X7_12 hP hD hS 0 rfl rfl rfl (Nat.le_of_ble_eq_true rfl) dX7_init_71 (fun H locs hP hD hS => ?_)
  have hP : va_P D classes [(h0, .inr (7, [.null, .null, .null, .ref q1, .ref q2, .ref q3, .ref q4, .ref q5, .ref q6, .int (0 : Int32), .int (10 : Int32), .int (-1 : Int32), .int (-1 : Int32)])), (q1, .inl (cA 0, 36, .inl (fun _ => 0))), (q2, .inl (cA 0, 36, .inl (fun _ => 0))), (q3, .inl (cA 0, 250, .inl (fun _ => 0))), (q4, .inl (cA 0, 10, .inl (fun _ => 0))), (q5, .inl (cA 1, 10, .inr (.inl (fun _ => 0)))), (q6, .inl (cA 0, 60, .inl (fun _ => 0)))] H := hP
  have hD : va_D (va_A ws0 sz) [(h0, .inr (7, [.null, .null, .null, .ref q1, .ref q2, .ref q3, .ref q4, .ref q5, .ref q6, .int (0 : Int32), .int (10 : Int32), .int (-1 : Int32), .int (-1 : Int32)])), (q1, .inl (cA 0, 36, .inl (fun _ => 0))), (q2, .inl (cA 0, 36, .inl (fun _ => 0))), (q3, .inl (cA 0, 250, .inl (fun _ => 0))), (q4, .inl (cA 0, 10, .inl (fun _ => 0))), (q5, .inl (cA 1, 10, .inr (.inl (fun _ => 0)))), (q6, .inl (cA 0, 60, .inl (fun _ => 0)))] := hD
  refine lv_aload_n (pc := 74) hx hb dX7_init_74 rfl (lv_at hl 0 rfl) ?_
  refine lv_aload_n (pc := 75) hx hb dX7_init_75 rfl (lv_at hl 1 rfl) ?_
  refine g_pF (pc := 76) C fd_X7_44 ft_X7_0 hini hP hD hS 0 rfl rfl rfl (Nat.le_of_ble_eq_true rfl) dX7_init_76 (fun H locs hP hD hS => ?_)
  have hP : va_P D classes [(h0, .inr (7, [.ref a_1, .null, .null, .ref q1, .ref q2, .ref q3, .ref q4, .ref q5, .ref q6, .int (0 : Int32), .int (10 : Int32), .int (-1 : Int32), .int (-1 : Int32)])), (q1, .inl (cA 0, 36, .inl (fun _ => 0))), (q2, .inl (cA 0, 36, .inl (fun _ => 0))), (q3, .inl (cA 0, 250, .inl (fun _ => 0))), (q4, .inl (cA 0, 10, .inl (fun _ => 0))), (q5, .inl (cA 1, 10, .inr (.inl (fun _ => 0)))), (q6, .inl (cA 0, 60, .inl (fun _ => 0)))] H := hP
  have hD : va_D (va_A ws0 sz) [(h0, .inr (7, [.ref a_1, .null, .null, .ref q1, .ref q2, .ref q3, .ref q4, .ref q5, .ref q6, .int (0 : Int32), .int (10 : Int32), .int (-1 : Int32), .int (-1 : Int32)])), (q1, .inl (cA 0, 36, .inl (fun _ => 0))), (q2, .inl (cA 0, 36, .inl (fun _ => 0))), (q3, .inl (cA 0, 250, .inl (fun _ => 0))), (q4, .inl (cA 0, 10, .inl (fun _ => 0))), (q5, .inl (cA 1, 10, .inr (.inl (fun _ => 0)))), (q6, .inl (cA 0, 60, .inl (fun _ => 0)))] := hD
  refine lv_aload_n (pc := 79) hx hb dX7_init_79 rfl (lv_at hl 0 rfl) ?_
  refine lv_aload_n (pc := 80) hx hb dX7_init_80 rfl (lv_at hl 2 rfl) ?_
  refine g_pF (pc := 81) C fd_X7_48 ft_X7_1 hini hP hD hS 0 rfl rfl rfl (Nat.le_of_ble_eq_true rfl) dX7_init_81 (fun H locs hP hD hS => ?_)
  have hP : va_P D classes [(h0, .inr (7, [.ref a_1, .ref a_2, .null, .ref q1, .ref q2, .ref q3, .ref q4, .ref q5, .ref q6, .int (0 : Int32), .int (10 : Int32), .int (-1 : Int32), .int (-1 : Int32)])), (q1, .inl (cA 0, 36, .inl (fun _ => 0))), (q2, .inl (cA 0, 36, .inl (fun _ => 0))), (q3, .inl (cA 0, 250, .inl (fun _ => 0))), (q4, .inl (cA 0, 10, .inl (fun _ => 0))), (q5, .inl (cA 1, 10, .inr (.inl (fun _ => 0)))), (q6, .inl (cA 0, 60, .inl (fun _ => 0)))] H := hP
  have hD : va_D (va_A ws0 sz) [(h0, .inr (7, [.ref a_1, .ref a_2, .null, .ref q1, .ref q2, .ref q3, .ref q4, .ref q5, .ref q6, .int (0 : Int32), .int (10 : Int32), .int (-1 : Int32), .int (-1 : Int32)])), (q1, .inl (cA 0, 36, .inl (fun _ => 0))), (q2, .inl (cA 0, 36, .inl (fun _ => 0))), (q3, .inl (cA 0, 250, .inl (fun _ => 0))), (q4, .inl (cA 0, 10, .inl (fun _ => 0))), (q5, .inl (cA 1, 10, .inr (.inl (fun _ => 0)))), (q6, .inl (cA 0, 60, .inl (fun _ => 0)))] := hD
  refine lv_aload_n (pc := 84) hx hb dX7_init_84 rfl (lv_at hl 0 rfl) ?_
  refine lv_aload_n (pc := 85) hx hb dX7_init_85 rfl (lv_at hl 3 rfl) ?_
  refine g_pF (pc := 86) C fd_X7_52 ft_X7_2 hini hP hD hS 0 rfl rfl rfl (Nat.le_of_ble_eq_true rfl) dX7_init_86 (fun H locs hP hD hS => ?_)
  have hP : va_P D classes [(h0, .inr (7, [.ref a_1, .ref a_2, .ref a_3, .ref q1, .ref q2, .ref q3, .ref q4, .ref q5, .ref q6, .int (0 : Int32), .int (10 : Int32), .int (-1 : Int32), .int (-1 : Int32)])), (q1, .inl (cA 0, 36, .inl (fun _ => 0))), (q2, .inl (cA 0, 36, .inl (fun _ => 0))), (q3, .inl (cA 0, 250, .inl (fun _ => 0))), (q4, .inl (cA 0, 10, .inl (fun _ => 0))), (q5, .inl (cA 1, 10, .inr (.inl (fun _ => 0)))), (q6, .inl (cA 0, 60, .inl (fun _ => 0)))] H := hP
  have hD : va_D (va_A ws0 sz) [(h0, .inr (7, [.ref a_1, .ref a_2, .ref a_3, .ref q1, .ref q2, .ref q3, .ref q4, .ref q5, .ref q6, .int (0 : Int32), .int (10 : Int32), .int (-1 : Int32), .int (-1 : Int32)])), (q1, .inl (cA 0, 36, .inl (fun _ => 0))), (q2, .inl (cA 0, 36, .inl (fun _ => 0))), (q3, .inl (cA 0, 250, .inl (fun _ => 0))), (q4, .inl (cA 0, 10, .inl (fun _ => 0))), (q5, .inl (cA 1, 10, .inr (.inl (fun _ => 0)))), (q6, .inl (cA 0, 60, .inl (fun _ => 0)))] := hD
  exact ret_c C hr hlk (fun k => ([q1, q2, q3, q4, q5, q6] : List Nat).getD k 0) hP hD hS dX7_init_89
set_option maxRecDepth 100000 in
theorem c_X7_init (l : Launch) (D : va_G) (cA : Nat → ClassId) (h0 : Nat) (a_1 a_2 a_3 : Nat) (sz : Nat) : Met l yX7_init (Cond.code yX7_init cX7_init 4 none :: lw_good) rm_X7_init (PreXE E0 D cA [.ref h0, .ref a_1, .ref a_2, .ref a_3] sz [(h0, .inr (7, [.null, .null, .null, .null, .null, .null, .null, .null, .null, .int 0, .int 0, .int 0, .int 0]))]) (PostC D (wi_X7_init cA h0 a_1 a_2 a_3 ) [(h0, .inr (7, [.null, .null, .null, .null, .null, .null, .null, .null, .null, .int 0, .int 0, .int 0, .int 0]))] sz) 6 402 (va_A [(h0, .inr (7, [.null, .null, .null, .null, .null, .null, .null, .null, .null, .int 0, .int 0, .int 0, .int 0]))] sz) :=
  met_ofI (by decide) (Nat.le_of_ble_eq_true rfl) (fun p e s m args below meth c C hr hlk hini hE hA => k_X7_init C hr hlk hini hE hA h0 a_1 a_2 a_3 )

abbrev wi_X2_init (cA : Nat → ClassId) (h0 : Nat) (u : Nat → Nat) : va_W := [(h0, .inr (2, [.int (-1 : Int32), .int (-1 : Int32), .int (-1 : Int32)]))]
abbrev rm_X2_init : Room := { frames := 1, cells := 0, slots := 0, locals := 12 }
set_option maxHeartbeats 4000000 in
set_option maxRecDepth 100000 in
theorem k_X2_init {p : Program} {l : Launch} {e : Env} {s : State} {m : MethodId} {args : Array Value} {below : List Frame} {meth : Method} {c : Code} {D : va_G} {cA : Nat → ClassId} {ws0 : va_W} {sz : Nat} (C : Cx RX2 cX2_init 1 D cA p s m args c) (hr : meth.sig.returnType = none) (hlk : meth.locks = false) (hini : meth.name = "<init>") (hE : E0 s) (hA : ∀ q, s.heap.size ≤ q → va_A ws0 sz q) (h0 : Nat) : At p l e rm_X2_init s m args below meth c D (va_A ws0 sz) 0 0 (MQ below (PostC D (wi_X2_init cA h0 ) ws0 sz) args s 0 0 (va_A ws0 sz)) 1 0 [(h0, .inr (2, [.int 0, .int 0, .int 0]))] [(0, .ref h0)] [] := by
  intro H locs ls hP hD hS hl
  have hx := C.1
  have hb := C.2.1
  refine lv_aload_n (pc := 0) hx hb dX2_init_0 rfl (lv_at hl 0 rfl) ?_
  refine g_objinit (pc := 1) C oi_X2 hl.1 dX2_init_1 ⟨(Nat.le_of_ble_eq_true rfl), (Nat.le_of_ble_eq_true rfl)⟩ ?_
  refine lv_aload_n (pc := 4) hx hb dX2_init_4 rfl (lv_at hl 0 rfl) ?_
  refine lv_iconst (pc := 5) (v := (-1)) hx hb dX2_init_5 (by decide) ?_
  refine g_put (pc := 6) C fg_X2_9 ft_X2_0 hP hD hS 0 rfl rfl rfl (Nat.le_of_ble_eq_true rfl) dX2_init_6 (fun H locs hP hD hS => ?_)
  have hP : va_P D classes [(h0, .inr (2, [.int (-1 : Int32), .int 0, .int 0]))] H := hP
  have hD : va_D (va_A ws0 sz) [(h0, .inr (2, [.int (-1 : Int32), .int 0, .int 0]))] := hD
  refine lv_aload_n (pc := 9) hx hb dX2_init_9 rfl (lv_at hl 0 rfl) ?_
  refine lv_iconst (pc := 10) (v := (-1)) hx hb dX2_init_10 (by decide) ?_
  refine g_put (pc := 11) C fg_X2_15 ft_X2_1 hP hD hS 0 rfl rfl rfl (Nat.le_of_ble_eq_true rfl) dX2_init_11 (fun H locs hP hD hS => ?_)
  have hP : va_P D classes [(h0, .inr (2, [.int (-1 : Int32), .int (-1 : Int32), .int 0]))] H := hP
  have hD : va_D (va_A ws0 sz) [(h0, .inr (2, [.int (-1 : Int32), .int (-1 : Int32), .int 0]))] := hD
  refine lv_aload_n (pc := 14) hx hb dX2_init_14 rfl (lv_at hl 0 rfl) ?_
  refine lv_iconst (pc := 15) (v := (-1)) hx hb dX2_init_15 (by decide) ?_
  refine g_put (pc := 16) C fg_X2_18 ft_X2_2 hP hD hS 0 rfl rfl rfl (Nat.le_of_ble_eq_true rfl) dX2_init_16 (fun H locs hP hD hS => ?_)
  have hP : va_P D classes [(h0, .inr (2, [.int (-1 : Int32), .int (-1 : Int32), .int (-1 : Int32)]))] H := hP
  have hD : va_D (va_A ws0 sz) [(h0, .inr (2, [.int (-1 : Int32), .int (-1 : Int32), .int (-1 : Int32)]))] := hD
  exact ret_c C hr hlk (fun k => ([] : List Nat).getD k 0) hP hD hS dX2_init_19
set_option maxRecDepth 100000 in
theorem c_X2_init (l : Launch) (D : va_G) (cA : Nat → ClassId) (h0 : Nat) (sz : Nat) : Met l yX2_init (Cond.code yX2_init cX2_init 1 none :: lw_good) rm_X2_init (PreXE E0 D cA [.ref h0] sz [(h0, .inr (2, [.int 0, .int 0, .int 0]))]) (PostC D (wi_X2_init cA h0 ) [(h0, .inr (2, [.int 0, .int 0, .int 0]))] sz) 0 0 (va_A [(h0, .inr (2, [.int 0, .int 0, .int 0]))] sz) :=
  met_ofI (by decide) (Nat.le_of_ble_eq_true rfl) (fun p e s m args below meth c C hr hlk hini hE hA => k_X2_init C hr hlk hini hE hA h0 )

abbrev wi_X0_init (cA : Nat → ClassId) (h0 : Nat) (u : Nat → Nat) : va_W := [(h0, .inr (0, [.ref (u 0), .long (1 : Int64), .long (0 : Int64), .long (1 : Int64)])), ((u 0), .inl (cA 1, 8, .inr (.inl (fun _ => 0))))]
abbrev rm_X0_init : Room := { frames := 1, cells := 1, slots := 8, locals := 12 }
set_option maxHeartbeats 4000000 in
set_option maxRecDepth 100000 in
theorem k_X0_init {p : Program} {l : Launch} {e : Env} {s : State} {m : MethodId} {args : Array Value} {below : List Frame} {meth : Method} {c : Code} {D : va_G} {cA : Nat → ClassId} {ws0 : va_W} {sz : Nat} (C : Cx RX0 cX0_init 1 D cA p s m args c) (hr : meth.sig.returnType = none) (hlk : meth.locks = false) (hini : meth.name = "<init>") (hE : E0 s) (hA : ∀ q, s.heap.size ≤ q → va_A ws0 sz q) (h0 : Nat) : At p l e rm_X0_init s m args below meth c D (va_A ws0 sz) 0 0 (MQ below (PostC D (wi_X0_init cA h0 ) ws0 sz) args s 1 8 (va_A ws0 sz)) 1 0 [(h0, .inr (0, [.null, .long 0, .long 0, .long 0]))] [(0, .ref h0)] [] := by
  intro H locs ls hP hD hS hl
  have hx := C.1
  have hb := C.2.1
  refine lv_aload_n (pc := 0) hx hb dX0_init_0 rfl (lv_at hl 0 rfl) ?_
  refine g_objinit (pc := 1) C oi_X0 hl.1 dX0_init_1 ⟨(Nat.le_of_ble_eq_true rfl), (Nat.le_of_ble_eq_true rfl)⟩ ?_
  refine lv_aload_n (pc := 4) hx hb dX0_init_4 rfl (lv_at hl 0 rfl) ?_
  refine lv_bipush (pc := 5) (v := 8) hx hb dX0_init_5 (by decide) ?_
  refine g_newL (pc := 7) (N := 8) C (lg_in me_8 rfl) hP hD hS hA (by decide) (by decide) (by decide) (Nat.le_of_ble_eq_true rfl) (Nat.le_of_ble_eq_true rfl) dX0_init_7 (fun q1 H hP hD hS => ?_)
  have hP : va_P D classes [(h0, .inr (0, [.null, .long 0, .long 0, .long 0])), (q1, .inl (cA 1, 8, .inr (.inl (fun _ => 0))))] H := hP
  have hD : va_D (va_A ws0 sz) [(h0, .inr (0, [.null, .long 0, .long 0, .long 0])), (q1, .inl (cA 1, 8, .inr (.inl (fun _ => 0))))] := hD
  refine g_pF (pc := 9) C fd_X0_9 ft_X0_0 hini hP hD hS 0 rfl rfl rfl (Nat.le_of_ble_eq_true rfl) dX0_init_9 (fun H locs hP hD hS => ?_)
  have hP : va_P D classes [(h0, .inr (0, [.ref q1, .long 0, .long 0, .long 0])), (q1, .inl (cA 1, 8, .inr (.inl (fun _ => 0))))] H := hP
  have hD : va_D (va_A ws0 sz) [(h0, .inr (0, [.ref q1, .long 0, .long 0, .long 0])), (q1, .inl (cA 1, 8, .inr (.inl (fun _ => 0))))] := hD
  refine lv_aload_n (pc := 12) hx hb dX0_init_12 rfl (lv_at hl 0 rfl) ?_
  refine lv_lconst (pc := 13) (v := 1) hx hb dX0_init_13 rfl ?_
  refine g_put (pc := 14) C fg_X0_15 ft_X0_1 hP hD hS 0 rfl rfl rfl (Nat.le_of_ble_eq_true rfl) dX0_init_14 (fun H locs hP hD hS => ?_)
  have hP : va_P D classes [(h0, .inr (0, [.ref q1, .long (1 : Int64), .long 0, .long 0])), (q1, .inl (cA 1, 8, .inr (.inl (fun _ => 0))))] H := hP
  have hD : va_D (va_A ws0 sz) [(h0, .inr (0, [.ref q1, .long (1 : Int64), .long 0, .long 0])), (q1, .inl (cA 1, 8, .inr (.inl (fun _ => 0))))] := hD
  refine lv_aload_n (pc := 17) hx hb dX0_init_17 rfl (lv_at hl 0 rfl) ?_
  refine lv_lconst (pc := 18) (v := 0) hx hb dX0_init_18 rfl ?_
  refine g_put (pc := 19) C fg_X0_19 ft_X0_2 hP hD hS 0 rfl rfl rfl (Nat.le_of_ble_eq_true rfl) dX0_init_19 (fun H locs hP hD hS => ?_)
  have hP : va_P D classes [(h0, .inr (0, [.ref q1, .long (1 : Int64), .long (0 : Int64), .long 0])), (q1, .inl (cA 1, 8, .inr (.inl (fun _ => 0))))] H := hP
  have hD : va_D (va_A ws0 sz) [(h0, .inr (0, [.ref q1, .long (1 : Int64), .long (0 : Int64), .long 0])), (q1, .inl (cA 1, 8, .inr (.inl (fun _ => 0))))] := hD
  refine lv_aload_n (pc := 22) hx hb dX0_init_22 rfl (lv_at hl 0 rfl) ?_
  refine lv_lconst (pc := 23) (v := 1) hx hb dX0_init_23 rfl ?_
  refine g_put (pc := 24) C fg_X0_22 ft_X0_3 hP hD hS 0 rfl rfl rfl (Nat.le_of_ble_eq_true rfl) dX0_init_24 (fun H locs hP hD hS => ?_)
  have hP : va_P D classes [(h0, .inr (0, [.ref q1, .long (1 : Int64), .long (0 : Int64), .long (1 : Int64)])), (q1, .inl (cA 1, 8, .inr (.inl (fun _ => 0))))] H := hP
  have hD : va_D (va_A ws0 sz) [(h0, .inr (0, [.ref q1, .long (1 : Int64), .long (0 : Int64), .long (1 : Int64)])), (q1, .inl (cA 1, 8, .inr (.inl (fun _ => 0))))] := hD
  exact ret_c C hr hlk (fun k => ([q1] : List Nat).getD k 0) hP hD hS dX0_init_27
set_option maxRecDepth 100000 in
theorem c_X0_init (l : Launch) (D : va_G) (cA : Nat → ClassId) (h0 : Nat) (sz : Nat) : Met l yX0_init (Cond.code yX0_init cX0_init 1 none :: lw_good) rm_X0_init (PreXE E0 D cA [.ref h0] sz [(h0, .inr (0, [.null, .long 0, .long 0, .long 0]))]) (PostC D (wi_X0_init cA h0 ) [(h0, .inr (0, [.null, .long 0, .long 0, .long 0]))] sz) 1 8 (va_A [(h0, .inr (0, [.null, .long 0, .long 0, .long 0]))] sz) :=
  met_ofI (by decide) (Nat.le_of_ble_eq_true rfl) (fun p e s m args below meth c C hr hlk hini hE hA => k_X0_init C hr hlk hini hE hA h0 )

abbrev wi_X5_init (cA : Nat → ClassId) (h0 : Nat) (u : Nat → Nat) : va_W := [(h0, .inr (5, [.ref (u 0), .int (1 : Int32), .int (0 : Int32), .int (0 : Int32)])), ((u 0), .inl (cA 0, 60, .inl (fun _ => 0)))]
abbrev rm_X5_init : Room := { frames := 1, cells := 1, slots := 60, locals := 12 }
set_option maxHeartbeats 4000000 in
set_option maxRecDepth 100000 in
theorem k_X5_init {p : Program} {l : Launch} {e : Env} {s : State} {m : MethodId} {args : Array Value} {below : List Frame} {meth : Method} {c : Code} {D : va_G} {cA : Nat → ClassId} {ws0 : va_W} {sz : Nat} (C : Cx RX5 cX5_init 1 D cA p s m args c) (hr : meth.sig.returnType = none) (hlk : meth.locks = false) (hini : meth.name = "<init>") (hE : E0 s) (hA : ∀ q, s.heap.size ≤ q → va_A ws0 sz q) (h0 : Nat) : At p l e rm_X5_init s m args below meth c D (va_A ws0 sz) 0 0 (MQ below (PostC D (wi_X5_init cA h0 ) ws0 sz) args s 1 60 (va_A ws0 sz)) 1 0 [(h0, .inr (5, [.null, .int 0, .int 0, .int 0]))] [(0, .ref h0)] [] := by
  intro H locs ls hP hD hS hl
  have hx := C.1
  have hb := C.2.1
  refine lv_aload_n (pc := 0) hx hb dX5_init_0 rfl (lv_at hl 0 rfl) ?_
  refine g_objinit (pc := 1) C oi_X5 hl.1 dX5_init_1 ⟨(Nat.le_of_ble_eq_true rfl), (Nat.le_of_ble_eq_true rfl)⟩ ?_
  refine lv_aload_n (pc := 4) hx hb dX5_init_4 rfl (lv_at hl 0 rfl) ?_
  refine lv_bipush (pc := 5) (v := 60) hx hb dX5_init_5 (by decide) ?_
  refine g_newI (pc := 7) (N := 60) C (lg_in me_3 rfl) hP hD hS hA (by decide) (by decide) (by decide) (Nat.le_of_ble_eq_true rfl) (Nat.le_of_ble_eq_true rfl) dX5_init_7 (fun q1 H hP hD hS => ?_)
  have hP : va_P D classes [(h0, .inr (5, [.null, .int 0, .int 0, .int 0])), (q1, .inl (cA 0, 60, .inl (fun _ => 0)))] H := hP
  have hD : va_D (va_A ws0 sz) [(h0, .inr (5, [.null, .int 0, .int 0, .int 0])), (q1, .inl (cA 0, 60, .inl (fun _ => 0)))] := hD
  refine g_pF (pc := 9) C fd_X5_9 ft_X5_0 hini hP hD hS 0 rfl rfl rfl (Nat.le_of_ble_eq_true rfl) dX5_init_9 (fun H locs hP hD hS => ?_)
  have hP : va_P D classes [(h0, .inr (5, [.ref q1, .int 0, .int 0, .int 0])), (q1, .inl (cA 0, 60, .inl (fun _ => 0)))] H := hP
  have hD : va_D (va_A ws0 sz) [(h0, .inr (5, [.ref q1, .int 0, .int 0, .int 0])), (q1, .inl (cA 0, 60, .inl (fun _ => 0)))] := hD
  refine lv_aload_n (pc := 12) hx hb dX5_init_12 rfl (lv_at hl 0 rfl) ?_
  refine lv_iconst (pc := 13) (v := 1) hx hb dX5_init_13 (by decide) ?_
  refine g_put (pc := 14) C fg_X5_15 ft_X5_1 hP hD hS 0 rfl (by decide) rfl (Nat.le_of_ble_eq_true rfl) dX5_init_14 (fun H locs hP hD hS => ?_)
  have hP : va_P D classes [(h0, .inr (5, [.ref q1, .int (1 : Int32), .int 0, .int 0])), (q1, .inl (cA 0, 60, .inl (fun _ => 0)))] H := hP
  have hD : va_D (va_A ws0 sz) [(h0, .inr (5, [.ref q1, .int (1 : Int32), .int 0, .int 0])), (q1, .inl (cA 0, 60, .inl (fun _ => 0)))] := hD
  refine lv_aload_n (pc := 17) hx hb dX5_init_17 rfl (lv_at hl 0 rfl) ?_
  refine lv_iconst (pc := 18) (v := 0) hx hb dX5_init_18 (by decide) ?_
  refine g_put (pc := 19) C fg_X5_19 ft_X5_2 hP hD hS 0 rfl rfl rfl (Nat.le_of_ble_eq_true rfl) dX5_init_19 (fun H locs hP hD hS => ?_)
  have hP : va_P D classes [(h0, .inr (5, [.ref q1, .int (1 : Int32), .int (0 : Int32), .int 0])), (q1, .inl (cA 0, 60, .inl (fun _ => 0)))] H := hP
  have hD : va_D (va_A ws0 sz) [(h0, .inr (5, [.ref q1, .int (1 : Int32), .int (0 : Int32), .int 0])), (q1, .inl (cA 0, 60, .inl (fun _ => 0)))] := hD
  refine lv_aload_n (pc := 22) hx hb dX5_init_22 rfl (lv_at hl 0 rfl) ?_
  refine lv_iconst (pc := 23) (v := 0) hx hb dX5_init_23 (by decide) ?_
  refine g_put (pc := 24) C fg_X5_23 ft_X5_3 hP hD hS 0 rfl rfl rfl (Nat.le_of_ble_eq_true rfl) dX5_init_24 (fun H locs hP hD hS => ?_)
  have hP : va_P D classes [(h0, .inr (5, [.ref q1, .int (1 : Int32), .int (0 : Int32), .int (0 : Int32)])), (q1, .inl (cA 0, 60, .inl (fun _ => 0)))] H := hP
  have hD : va_D (va_A ws0 sz) [(h0, .inr (5, [.ref q1, .int (1 : Int32), .int (0 : Int32), .int (0 : Int32)])), (q1, .inl (cA 0, 60, .inl (fun _ => 0)))] := hD
  exact ret_c C hr hlk (fun k => ([q1] : List Nat).getD k 0) hP hD hS dX5_init_27
set_option maxRecDepth 100000 in
theorem c_X5_init (l : Launch) (D : va_G) (cA : Nat → ClassId) (h0 : Nat) (sz : Nat) : Met l yX5_init (Cond.code yX5_init cX5_init 1 none :: lw_good) rm_X5_init (PreXE E0 D cA [.ref h0] sz [(h0, .inr (5, [.null, .int 0, .int 0, .int 0]))]) (PostC D (wi_X5_init cA h0 ) [(h0, .inr (5, [.null, .int 0, .int 0, .int 0]))] sz) 1 60 (va_A [(h0, .inr (5, [.null, .int 0, .int 0, .int 0]))] sz) :=
  met_ofI (by decide) (Nat.le_of_ble_eq_true rfl) (fun p e s m args below meth c C hr hlk hini hE hA => k_X5_init C hr hlk hini hE hA h0 )
