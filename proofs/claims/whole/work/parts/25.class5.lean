abbrev wl_X8_copy (cA : Nat → ClassId) (a : Nat → Nat) (x_stale : Int32) (x_finding : Int32) (sheet0_lost : Int32) (sheet0_form : Int32) (sheet0_size : Int32) (sheet0_items : Nat → Int32) (sheet1_lost : Int32) (sheet1_form : Int32) (sheet1_size : Int32) (sheet1_items : Nat → Int32) (sheet2_lost : Int32) (sheet2_form : Int32) (sheet2_size : Int32) (sheet2_items : Nat → Int32) (sheet3_lost : Int32) (sheet3_form : Int32) (sheet3_size : Int32) (sheet3_items : Nat → Int32) : va_W := [((a 0), .inr (8, [.ref (a 1), .ref (a 6), .ref (a 12), .ref (a 15), .ref (a 19), .ref (a 23), .ref (a 27), .ref (a 34), .ref (a 41), .ref (a 42), .ref (a 44), .ref (a 45), .int x_stale, .int x_finding])), ((a 45), .inl (cA 3, 4, .inr (.inr (.inr (.inr (fun k : Nat => if k = 0 then some (a 46) else if k = 1 then some (a 48) else if k = 2 then some (a 50) else some (a 52))))))), ((a 46), .inr (5, [.ref (a 47), .int sheet0_lost, .int sheet0_form, .int sheet0_size])), ((a 47), .inl (cA 0, 60, .inl sheet0_items)), ((a 48), .inr (5, [.ref (a 49), .int sheet1_lost, .int sheet1_form, .int sheet1_size])), ((a 49), .inl (cA 0, 60, .inl sheet1_items)), ((a 50), .inr (5, [.ref (a 51), .int sheet2_lost, .int sheet2_form, .int sheet2_size])), ((a 51), .inl (cA 0, 60, .inl sheet2_items)), ((a 52), .inr (5, [.ref (a 53), .int sheet3_lost, .int sheet3_form, .int sheet3_size])), ((a 53), .inl (cA 0, 60, .inl sheet3_items))]
abbrev rm_X8_copy : Room := { frames := 1, cells := 0, slots := 0, locals := 40 }
section
variable {p : Program} {l : Launch} {e : Env} {s : State} {m : MethodId} {args : Array Value} {below : List Frame} {meth : Method} {c : Code} {D : va_G} {cA : Nat → ClassId} {ws0 : va_W} {sz : Nat} {A : Nat → Prop} {Q : State → Prop}
def f_X8_copy_b51 (x_finding : Int32) (sheet0_lost : Int32) (sheet0_form : Int32) (sheet0_size : Int32) (sheet0_items : Nat → Int32) (sheet1_lost : Int32) (sheet1_form : Int32) (sheet1_size : Int32) (sheet1_items : Nat → Int32) (sheet2_lost : Int32) (sheet2_form : Int32) (sheet2_size : Int32) (sheet2_items : Nat → Int32) (sheet3_lost : Int32) (sheet3_form : Int32) (sheet3_size : Int32) (sheet3_items : Nat → Int32) : Option (Int32 × Int32 × (Nat → Int32) × (Nat → Int32) × (Nat → Int32) × (Nat → Int32)) :=
  bind2 (f_X8_found x_finding (1 : Int32)) (fun r3 c4 => some (r3, c4, sheet0_items, sheet1_items, sheet2_items, sheet3_items))
set_option maxHeartbeats 4000000 in
set_option maxRecDepth 100000 in
theorem k_X8_copy_b51 (C : Cx RX8 cX8_copy 8 D cA p s m args c) (hr : meth.sig.returnType = (some .int)) (hlk : meth.locks = false) (hA : ∀ q, s.heap.size ≤ q → va_A ws0 sz q) (a : Nat → Nat) (x_stale : Int32) (x_finding : Int32) (sheet0_lost : Int32) (sheet0_form : Int32) (sheet0_size : Int32) (sheet0_items : Nat → Int32) (sheet1_lost : Int32) (sheet1_form : Int32) (sheet1_size : Int32) (sheet1_items : Nat → Int32) (sheet2_lost : Int32) (sheet2_form : Int32) (sheet2_size : Int32) (sheet2_items : Nat → Int32) (sheet3_lost : Int32) (sheet3_form : Int32) (sheet3_size : Int32) (sheet3_items : Nat → Int32) (r : Int32 × Int32 × (Nat → Int32) × (Nat → Int32) × (Nat → Int32) × (Nat → Int32)) (hf : f_X8_copy_b51 x_finding sheet0_lost sheet0_form sheet0_size sheet0_items sheet1_lost sheet1_form sheet1_size sheet1_items sheet2_lost sheet2_form sheet2_size sheet2_items sheet3_lost sheet3_form sheet3_size sheet3_items = some r) : At p l e rm_X8_copy s m args below meth c D (va_A ws0 sz) 0 0 (MQ below (PostI D r.1 ws0 (wl_X8_copy cA a x_stale (r.2.1) sheet0_lost sheet0_form sheet0_size (r.2.2.1) sheet1_lost sheet1_form sheet1_size (r.2.2.2.1) sheet2_lost sheet2_form sheet2_size (r.2.2.2.2.1) sheet3_lost sheet3_form sheet3_size (r.2.2.2.2.2)) sz) args s 0 0 (va_A ws0 sz)) 8 51 (wl_X8_copy cA a x_stale x_finding sheet0_lost sheet0_form sheet0_size sheet0_items sheet1_lost sheet1_form sheet1_size sheet1_items sheet2_lost sheet2_form sheet2_size sheet2_items sheet3_lost sheet3_form sheet3_size sheet3_items) [(0, .ref (a 0))] [] := by
  intro H locs ls hP hD hS hl
  have hx := C.1
  have hb := C.2.1
  have hown := C.2.2.2.1
  have hts := C.2.2.2.2.1
  unfold f_X8_copy_b51 at hf
  refine lv_aload_n (pc := 51) hx hb dX8_copy_51 rfl (lv_at hl 0 rfl) ?_
  refine lv_iconst (pc := 52) (v := 1) hx hb dX8_copy_52 ic_1 ?_
  obtain ⟨r3, c4, hq, hf⟩ := bind2_some hf
  refine fin2_i (wl_X8_copy cA a x_stale c4 sheet0_lost sheet0_form sheet0_size sheet0_items sheet1_lost sheet1_form sheet1_size sheet1_items sheet2_lost sheet2_form sheet2_size sheet2_items sheet3_lost sheet3_form sheet3_size sheet3_items) (run_V (rest := []) (pc := 53) (As := [.int (1 : Int32)]) C mf_X8_139 (c_X8_found l D cA a x_stale x_finding (1 : Int32) (r3, c4) hq H.size) rfl rfl ⟨(Nat.le_of_ble_eq_true rfl), (Nat.le_of_ble_eq_true rfl)⟩ (preV_of C hP hD [0] rfl (pl_nd pv_84) 0 rfl rfl rfl) rfl hl.1 rfl (Nat.le_of_ble_eq_true rfl) dX8_copy_53 ⟨Nat.zero_le _, Nat.zero_le _⟩) hP hD hS hA [0] [1, 2, 3, 4, 5, 6, 7, 8, 9] rfl rfl rfl rfl pv_84 (fun H locs hP hS => ?_)
  have hD : va_D (va_A ws0 sz) (wl_X8_copy cA a x_stale c4 sheet0_lost sheet0_form sheet0_size sheet0_items sheet1_lost sheet1_form sheet1_size sheet1_items sheet2_lost sheet2_form sheet2_size sheet2_items sheet3_lost sheet3_form sheet3_size sheet3_items) := vd_a hD rfl
  have hf := Option.some.inj hf
  subst hf
  exact ret_i C hr hlk hP hS dX8_copy_56
def f_X8_copy_b99 (x_finding : Int32) (sheet0_lost : Int32) (sheet0_form : Int32) (sheet0_size : Int32) (sheet0_items : Nat → Int32) (sheet1_lost : Int32) (sheet1_form : Int32) (sheet1_size : Int32) (sheet1_items : Nat → Int32) (sheet2_lost : Int32) (sheet2_form : Int32) (sheet2_size : Int32) (sheet2_items : Nat → Int32) (sheet3_lost : Int32) (sheet3_form : Int32) (sheet3_size : Int32) (sheet3_items : Nat → Int32) : Option (Int32 × Int32 × (Nat → Int32) × (Nat → Int32) × (Nat → Int32) × (Nat → Int32)) :=
  bind2 (f_X8_found x_finding (2 : Int32)) (fun r6 c7 => some (r6, c7, sheet0_items, sheet1_items, sheet2_items, sheet3_items))
set_option maxHeartbeats 4000000 in
set_option maxRecDepth 100000 in
theorem k_X8_copy_b99 (C : Cx RX8 cX8_copy 8 D cA p s m args c) (hr : meth.sig.returnType = (some .int)) (hlk : meth.locks = false) (hA : ∀ q, s.heap.size ≤ q → va_A ws0 sz q) (a : Nat → Nat) (x_stale : Int32) (x_finding : Int32) (sheet0_lost : Int32) (sheet0_form : Int32) (sheet0_size : Int32) (sheet0_items : Nat → Int32) (sheet1_lost : Int32) (sheet1_form : Int32) (sheet1_size : Int32) (sheet1_items : Nat → Int32) (sheet2_lost : Int32) (sheet2_form : Int32) (sheet2_size : Int32) (sheet2_items : Nat → Int32) (sheet3_lost : Int32) (sheet3_form : Int32) (sheet3_size : Int32) (sheet3_items : Nat → Int32) (r : Int32 × Int32 × (Nat → Int32) × (Nat → Int32) × (Nat → Int32) × (Nat → Int32)) (hf : f_X8_copy_b99 x_finding sheet0_lost sheet0_form sheet0_size sheet0_items sheet1_lost sheet1_form sheet1_size sheet1_items sheet2_lost sheet2_form sheet2_size sheet2_items sheet3_lost sheet3_form sheet3_size sheet3_items = some r) : At p l e rm_X8_copy s m args below meth c D (va_A ws0 sz) 0 0 (MQ below (PostI D r.1 ws0 (wl_X8_copy cA a x_stale (r.2.1) sheet0_lost sheet0_form sheet0_size (r.2.2.1) sheet1_lost sheet1_form sheet1_size (r.2.2.2.1) sheet2_lost sheet2_form sheet2_size (r.2.2.2.2.1) sheet3_lost sheet3_form sheet3_size (r.2.2.2.2.2)) sz) args s 0 0 (va_A ws0 sz)) 8 99 (wl_X8_copy cA a x_stale x_finding sheet0_lost sheet0_form sheet0_size sheet0_items sheet1_lost sheet1_form sheet1_size sheet1_items sheet2_lost sheet2_form sheet2_size sheet2_items sheet3_lost sheet3_form sheet3_size sheet3_items) [(0, .ref (a 0))] [] := by
  intro H locs ls hP hD hS hl
  have hx := C.1
  have hb := C.2.1
  have hown := C.2.2.2.1
  have hts := C.2.2.2.2.1
  unfold f_X8_copy_b99 at hf
  refine lv_aload_n (pc := 99) hx hb dX8_copy_99 rfl (lv_at hl 0 rfl) ?_
  refine lv_iconst (pc := 100) (v := 2) hx hb dX8_copy_100 ic_2 ?_
  obtain ⟨r6, c7, hq, hf⟩ := bind2_some hf
  refine fin2_i (wl_X8_copy cA a x_stale c7 sheet0_lost sheet0_form sheet0_size sheet0_items sheet1_lost sheet1_form sheet1_size sheet1_items sheet2_lost sheet2_form sheet2_size sheet2_items sheet3_lost sheet3_form sheet3_size sheet3_items) (run_V (rest := []) (pc := 101) (As := [.int (2 : Int32)]) C mf_X8_139 (c_X8_found l D cA a x_stale x_finding (2 : Int32) (r6, c7) hq H.size) rfl rfl ⟨(Nat.le_of_ble_eq_true rfl), (Nat.le_of_ble_eq_true rfl)⟩ (preV_of C hP hD [0] rfl (pl_nd pv_84) 0 rfl rfl rfl) rfl hl.1 rfl (Nat.le_of_ble_eq_true rfl) dX8_copy_101 ⟨Nat.zero_le _, Nat.zero_le _⟩) hP hD hS hA [0] [1, 2, 3, 4, 5, 6, 7, 8, 9] rfl rfl rfl rfl pv_84 (fun H locs hP hS => ?_)
  have hD : va_D (va_A ws0 sz) (wl_X8_copy cA a x_stale c7 sheet0_lost sheet0_form sheet0_size sheet0_items sheet1_lost sheet1_form sheet1_size sheet1_items sheet2_lost sheet2_form sheet2_size sheet2_items sheet3_lost sheet3_form sheet3_size sheet3_items) := vd_a hD rfl
  have hf := Option.some.inj hf
  subst hf
  exact ret_i C hr hlk hP hS dX8_copy_104
def f_X8_copy (x_finding : Int32) (sheet0_lost : Int32) (sheet0_form : Int32) (sheet0_size : Int32) (sheet0_items : Nat → Int32) (sheet1_lost : Int32) (sheet1_form : Int32) (sheet1_size : Int32) (sheet1_items : Nat → Int32) (sheet2_lost : Int32) (sheet2_form : Int32) (sheet2_size : Int32) (sheet2_items : Nat → Int32) (sheet3_lost : Int32) (sheet3_form : Int32) (sheet3_size : Int32) (sheet3_items : Nat → Int32) (x1 : Int32) (x2 : Int32) (x3 : Int32) (x4 : Int32) (x5 : Int32) : Option (Int32 × Int32 × (Nat → Int32) × (Nat → Int32) × (Nat → Int32) × (Nat → Int32)) :=
  bind1 (f_X8_isUpTo x1 (3 : Int32)) (fun r1 => if r1 = 0 then (some ((-2 : Int32), x_finding, sheet0_items, sheet1_items, sheet2_items, sheet3_items)) else (bind1 (f_X8_isUpTo x3 (3 : Int32)) (fun r2 => if r2 = 0 then (some ((-2 : Int32), x_finding, sheet0_items, sheet1_items, sheet2_items, sheet3_items)) else (if x1 = (0 : Int32) then (if x3 = (0 : Int32) then (if sheet0_lost = 0 then (if sheet0_lost = 0 then (if sheet0_form = sheet0_form then (bind1 (f_X5_hasItems sheet0_size x2 x5) (fun r5 => if r5 = 0 then (f_X8_copy_b99 x_finding sheet0_lost sheet0_form sheet0_size sheet0_items sheet1_lost sheet1_form sheet1_size sheet1_items sheet2_lost sheet2_form sheet2_size sheet2_items sheet3_lost sheet3_form sheet3_size sheet3_items) else (bind1 (f_X5_hasItems sheet0_size x4 x5) (fun r8 => if r8 = 0 then (f_X8_copy_b99 x_finding sheet0_lost sheet0_form sheet0_size sheet0_items sheet1_lost sheet1_form sheet1_size sheet1_items sheet2_lost sheet2_form sheet2_size sheet2_items sheet3_lost sheet3_form sheet3_size sheet3_items) else (gd (acp x2 x4 x5 60 60) (some ((1 : Int32), x_finding, (va_cpy sheet0_items sheet0_items x2.toNatClampNeg x4.toNatClampNeg x5.toNatClampNeg), sheet1_items, sheet2_items, sheet3_items))))))) else (bind2 (f_X8_found x_finding (4 : Int32)) (fun r9 c10 => some (r9, c10, sheet0_items, sheet1_items, sheet2_items, sheet3_items)))) else (f_X8_copy_b51 x_finding sheet0_lost sheet0_form sheet0_size sheet0_items sheet1_lost sheet1_form sheet1_size sheet1_items sheet2_lost sheet2_form sheet2_size sheet2_items sheet3_lost sheet3_form sheet3_size sheet3_items)) else (f_X8_copy_b51 x_finding sheet0_lost sheet0_form sheet0_size sheet0_items sheet1_lost sheet1_form sheet1_size sheet1_items sheet2_lost sheet2_form sheet2_size sheet2_items sheet3_lost sheet3_form sheet3_size sheet3_items)) else (if x3 = (1 : Int32) then (if sheet0_lost = 0 then (if sheet1_lost = 0 then (if sheet0_form = sheet1_form then (bind1 (f_X5_hasItems sheet0_size x2 x5) (fun r11 => if r11 = 0 then (f_X8_copy_b99 x_finding sheet0_lost sheet0_form sheet0_size sheet0_items sheet1_lost sheet1_form sheet1_size sheet1_items sheet2_lost sheet2_form sheet2_size sheet2_items sheet3_lost sheet3_form sheet3_size sheet3_items) else (bind1 (f_X5_hasItems sheet1_size x4 x5) (fun r12 => if r12 = 0 then (f_X8_copy_b99 x_finding sheet0_lost sheet0_form sheet0_size sheet0_items sheet1_lost sheet1_form sheet1_size sheet1_items sheet2_lost sheet2_form sheet2_size sheet2_items sheet3_lost sheet3_form sheet3_size sheet3_items) else (gd (acp x2 x4 x5 60 60) (some ((1 : Int32), x_finding, sheet0_items, (va_cpy sheet0_items sheet1_items x2.toNatClampNeg x4.toNatClampNeg x5.toNatClampNeg), sheet2_items, sheet3_items))))))) else (bind2 (f_X8_found x_finding (4 : Int32)) (fun r13 c14 => some (r13, c14, sheet0_items, sheet1_items, sheet2_items, sheet3_items)))) else (f_X8_copy_b51 x_finding sheet0_lost sheet0_form sheet0_size sheet0_items sheet1_lost sheet1_form sheet1_size sheet1_items sheet2_lost sheet2_form sheet2_size sheet2_items sheet3_lost sheet3_form sheet3_size sheet3_items)) else (f_X8_copy_b51 x_finding sheet0_lost sheet0_form sheet0_size sheet0_items sheet1_lost sheet1_form sheet1_size sheet1_items sheet2_lost sheet2_form sheet2_size sheet2_items sheet3_lost sheet3_form sheet3_size sheet3_items)) else (if x3 = (2 : Int32) then (if sheet0_lost = 0 then (if sheet2_lost = 0 then (if sheet0_form = sheet2_form then (bind1 (f_X5_hasItems sheet0_size x2 x5) (fun r15 => if r15 = 0 then (f_X8_copy_b99 x_finding sheet0_lost sheet0_form sheet0_size sheet0_items sheet1_lost sheet1_form sheet1_size sheet1_items sheet2_lost sheet2_form sheet2_size sheet2_items sheet3_lost sheet3_form sheet3_size sheet3_items) else (bind1 (f_X5_hasItems sheet2_size x4 x5) (fun r16 => if r16 = 0 then (f_X8_copy_b99 x_finding sheet0_lost sheet0_form sheet0_size sheet0_items sheet1_lost sheet1_form sheet1_size sheet1_items sheet2_lost sheet2_form sheet2_size sheet2_items sheet3_lost sheet3_form sheet3_size sheet3_items) else (gd (acp x2 x4 x5 60 60) (some ((1 : Int32), x_finding, sheet0_items, sheet1_items, (va_cpy sheet0_items sheet2_items x2.toNatClampNeg x4.toNatClampNeg x5.toNatClampNeg), sheet3_items))))))) else (bind2 (f_X8_found x_finding (4 : Int32)) (fun r17 c18 => some (r17, c18, sheet0_items, sheet1_items, sheet2_items, sheet3_items)))) else (f_X8_copy_b51 x_finding sheet0_lost sheet0_form sheet0_size sheet0_items sheet1_lost sheet1_form sheet1_size sheet1_items sheet2_lost sheet2_form sheet2_size sheet2_items sheet3_lost sheet3_form sheet3_size sheet3_items)) else (f_X8_copy_b51 x_finding sheet0_lost sheet0_form sheet0_size sheet0_items sheet1_lost sheet1_form sheet1_size sheet1_items sheet2_lost sheet2_form sheet2_size sheet2_items sheet3_lost sheet3_form sheet3_size sheet3_items)) else (if x3 = (3 : Int32) then (if sheet0_lost = 0 then (if sheet3_lost = 0 then (if sheet0_form = sheet3_form then (bind1 (f_X5_hasItems sheet0_size x2 x5) (fun r19 => if r19 = 0 then (f_X8_copy_b99 x_finding sheet0_lost sheet0_form sheet0_size sheet0_items sheet1_lost sheet1_form sheet1_size sheet1_items sheet2_lost sheet2_form sheet2_size sheet2_items sheet3_lost sheet3_form sheet3_size sheet3_items) else (bind1 (f_X5_hasItems sheet3_size x4 x5) (fun r20 => if r20 = 0 then (f_X8_copy_b99 x_finding sheet0_lost sheet0_form sheet0_size sheet0_items sheet1_lost sheet1_form sheet1_size sheet1_items sheet2_lost sheet2_form sheet2_size sheet2_items sheet3_lost sheet3_form sheet3_size sheet3_items) else (gd (acp x2 x4 x5 60 60) (some ((1 : Int32), x_finding, sheet0_items, sheet1_items, sheet2_items, (va_cpy sheet0_items sheet3_items x2.toNatClampNeg x4.toNatClampNeg x5.toNatClampNeg)))))))) else (bind2 (f_X8_found x_finding (4 : Int32)) (fun r21 c22 => some (r21, c22, sheet0_items, sheet1_items, sheet2_items, sheet3_items)))) else (f_X8_copy_b51 x_finding sheet0_lost sheet0_form sheet0_size sheet0_items sheet1_lost sheet1_form sheet1_size sheet1_items sheet2_lost sheet2_form sheet2_size sheet2_items sheet3_lost sheet3_form sheet3_size sheet3_items)) else (f_X8_copy_b51 x_finding sheet0_lost sheet0_form sheet0_size sheet0_items sheet1_lost sheet1_form sheet1_size sheet1_items sheet2_lost sheet2_form sheet2_size sheet2_items sheet3_lost sheet3_form sheet3_size sheet3_items)) else (none))))) else (if x1 = (1 : Int32) then (if x3 = (0 : Int32) then (if sheet1_lost = 0 then (if sheet0_lost = 0 then (if sheet1_form = sheet0_form then (bind1 (f_X5_hasItems sheet1_size x2 x5) (fun r23 => if r23 = 0 then (f_X8_copy_b99 x_finding sheet0_lost sheet0_form sheet0_size sheet0_items sheet1_lost sheet1_form sheet1_size sheet1_items sheet2_lost sheet2_form sheet2_size sheet2_items sheet3_lost sheet3_form sheet3_size sheet3_items) else (bind1 (f_X5_hasItems sheet0_size x4 x5) (fun r24 => if r24 = 0 then (f_X8_copy_b99 x_finding sheet0_lost sheet0_form sheet0_size sheet0_items sheet1_lost sheet1_form sheet1_size sheet1_items sheet2_lost sheet2_form sheet2_size sheet2_items sheet3_lost sheet3_form sheet3_size sheet3_items) else (gd (acp x2 x4 x5 60 60) (some ((1 : Int32), x_finding, (va_cpy sheet1_items sheet0_items x2.toNatClampNeg x4.toNatClampNeg x5.toNatClampNeg), sheet1_items, sheet2_items, sheet3_items))))))) else (bind2 (f_X8_found x_finding (4 : Int32)) (fun r25 c26 => some (r25, c26, sheet0_items, sheet1_items, sheet2_items, sheet3_items)))) else (f_X8_copy_b51 x_finding sheet0_lost sheet0_form sheet0_size sheet0_items sheet1_lost sheet1_form sheet1_size sheet1_items sheet2_lost sheet2_form sheet2_size sheet2_items sheet3_lost sheet3_form sheet3_size sheet3_items)) else (f_X8_copy_b51 x_finding sheet0_lost sheet0_form sheet0_size sheet0_items sheet1_lost sheet1_form sheet1_size sheet1_items sheet2_lost sheet2_form sheet2_size sheet2_items sheet3_lost sheet3_form sheet3_size sheet3_items)) else (if x3 = (1 : Int32) then (if sheet1_lost = 0 then (if sheet1_lost = 0 then (if sheet1_form = sheet1_form then (bind1 (f_X5_hasItems sheet1_size x2 x5) (fun r27 => if r27 = 0 then (f_X8_copy_b99 x_finding sheet0_lost sheet0_form sheet0_size sheet0_items sheet1_lost sheet1_form sheet1_size sheet1_items sheet2_lost sheet2_form sheet2_size sheet2_items sheet3_lost sheet3_form sheet3_size sheet3_items) else (bind1 (f_X5_hasItems sheet1_size x4 x5) (fun r28 => if r28 = 0 then (f_X8_copy_b99 x_finding sheet0_lost sheet0_form sheet0_size sheet0_items sheet1_lost sheet1_form sheet1_size sheet1_items sheet2_lost sheet2_form sheet2_size sheet2_items sheet3_lost sheet3_form sheet3_size sheet3_items) else (gd (acp x2 x4 x5 60 60) (some ((1 : Int32), x_finding, sheet0_items, (va_cpy sheet1_items sheet1_items x2.toNatClampNeg x4.toNatClampNeg x5.toNatClampNeg), sheet2_items, sheet3_items))))))) else (bind2 (f_X8_found x_finding (4 : Int32)) (fun r29 c30 => some (r29, c30, sheet0_items, sheet1_items, sheet2_items, sheet3_items)))) else (f_X8_copy_b51 x_finding sheet0_lost sheet0_form sheet0_size sheet0_items sheet1_lost sheet1_form sheet1_size sheet1_items sheet2_lost sheet2_form sheet2_size sheet2_items sheet3_lost sheet3_form sheet3_size sheet3_items)) else (f_X8_copy_b51 x_finding sheet0_lost sheet0_form sheet0_size sheet0_items sheet1_lost sheet1_form sheet1_size sheet1_items sheet2_lost sheet2_form sheet2_size sheet2_items sheet3_lost sheet3_form sheet3_size sheet3_items)) else (if x3 = (2 : Int32) then (if sheet1_lost = 0 then (if sheet2_lost = 0 then (if sheet1_form = sheet2_form then (bind1 (f_X5_hasItems sheet1_size x2 x5) (fun r31 => if r31 = 0 then (f_X8_copy_b99 x_finding sheet0_lost sheet0_form sheet0_size sheet0_items sheet1_lost sheet1_form sheet1_size sheet1_items sheet2_lost sheet2_form sheet2_size sheet2_items sheet3_lost sheet3_form sheet3_size sheet3_items) else (bind1 (f_X5_hasItems sheet2_size x4 x5) (fun r32 => if r32 = 0 then (f_X8_copy_b99 x_finding sheet0_lost sheet0_form sheet0_size sheet0_items sheet1_lost sheet1_form sheet1_size sheet1_items sheet2_lost sheet2_form sheet2_size sheet2_items sheet3_lost sheet3_form sheet3_size sheet3_items) else (gd (acp x2 x4 x5 60 60) (some ((1 : Int32), x_finding, sheet0_items, sheet1_items, (va_cpy sheet1_items sheet2_items x2.toNatClampNeg x4.toNatClampNeg x5.toNatClampNeg), sheet3_items))))))) else (bind2 (f_X8_found x_finding (4 : Int32)) (fun r33 c34 => some (r33, c34, sheet0_items, sheet1_items, sheet2_items, sheet3_items)))) else (f_X8_copy_b51 x_finding sheet0_lost sheet0_form sheet0_size sheet0_items sheet1_lost sheet1_form sheet1_size sheet1_items sheet2_lost sheet2_form sheet2_size sheet2_items sheet3_lost sheet3_form sheet3_size sheet3_items)) else (f_X8_copy_b51 x_finding sheet0_lost sheet0_form sheet0_size sheet0_items sheet1_lost sheet1_form sheet1_size sheet1_items sheet2_lost sheet2_form sheet2_size sheet2_items sheet3_lost sheet3_form sheet3_size sheet3_items)) else (if x3 = (3 : Int32) then (if sheet1_lost = 0 then (if sheet3_lost = 0 then (if sheet1_form = sheet3_form then (bind1 (f_X5_hasItems sheet1_size x2 x5) (fun r35 => if r35 = 0 then (f_X8_copy_b99 x_finding sheet0_lost sheet0_form sheet0_size sheet0_items sheet1_lost sheet1_form sheet1_size sheet1_items sheet2_lost sheet2_form sheet2_size sheet2_items sheet3_lost sheet3_form sheet3_size sheet3_items) else (bind1 (f_X5_hasItems sheet3_size x4 x5) (fun r36 => if r36 = 0 then (f_X8_copy_b99 x_finding sheet0_lost sheet0_form sheet0_size sheet0_items sheet1_lost sheet1_form sheet1_size sheet1_items sheet2_lost sheet2_form sheet2_size sheet2_items sheet3_lost sheet3_form sheet3_size sheet3_items) else (gd (acp x2 x4 x5 60 60) (some ((1 : Int32), x_finding, sheet0_items, sheet1_items, sheet2_items, (va_cpy sheet1_items sheet3_items x2.toNatClampNeg x4.toNatClampNeg x5.toNatClampNeg)))))))) else (bind2 (f_X8_found x_finding (4 : Int32)) (fun r37 c38 => some (r37, c38, sheet0_items, sheet1_items, sheet2_items, sheet3_items)))) else (f_X8_copy_b51 x_finding sheet0_lost sheet0_form sheet0_size sheet0_items sheet1_lost sheet1_form sheet1_size sheet1_items sheet2_lost sheet2_form sheet2_size sheet2_items sheet3_lost sheet3_form sheet3_size sheet3_items)) else (f_X8_copy_b51 x_finding sheet0_lost sheet0_form sheet0_size sheet0_items sheet1_lost sheet1_form sheet1_size sheet1_items sheet2_lost sheet2_form sheet2_size sheet2_items sheet3_lost sheet3_form sheet3_size sheet3_items)) else (none))))) else (if x1 = (2 : Int32) then (if x3 = (0 : Int32) then (if sheet2_lost = 0 then (if sheet0_lost = 0 then (if sheet2_form = sheet0_form then (bind1 (f_X5_hasItems sheet2_size x2 x5) (fun r39 => if r39 = 0 then (f_X8_copy_b99 x_finding sheet0_lost sheet0_form sheet0_size sheet0_items sheet1_lost sheet1_form sheet1_size sheet1_items sheet2_lost sheet2_form sheet2_size sheet2_items sheet3_lost sheet3_form sheet3_size sheet3_items) else (bind1 (f_X5_hasItems sheet0_size x4 x5) (fun r40 => if r40 = 0 then (f_X8_copy_b99 x_finding sheet0_lost sheet0_form sheet0_size sheet0_items sheet1_lost sheet1_form sheet1_size sheet1_items sheet2_lost sheet2_form sheet2_size sheet2_items sheet3_lost sheet3_form sheet3_size sheet3_items) else (gd (acp x2 x4 x5 60 60) (some ((1 : Int32), x_finding, (va_cpy sheet2_items sheet0_items x2.toNatClampNeg x4.toNatClampNeg x5.toNatClampNeg), sheet1_items, sheet2_items, sheet3_items))))))) else (bind2 (f_X8_found x_finding (4 : Int32)) (fun r41 c42 => some (r41, c42, sheet0_items, sheet1_items, sheet2_items, sheet3_items)))) else (f_X8_copy_b51 x_finding sheet0_lost sheet0_form sheet0_size sheet0_items sheet1_lost sheet1_form sheet1_size sheet1_items sheet2_lost sheet2_form sheet2_size sheet2_items sheet3_lost sheet3_form sheet3_size sheet3_items)) else (f_X8_copy_b51 x_finding sheet0_lost sheet0_form sheet0_size sheet0_items sheet1_lost sheet1_form sheet1_size sheet1_items sheet2_lost sheet2_form sheet2_size sheet2_items sheet3_lost sheet3_form sheet3_size sheet3_items)) else (if x3 = (1 : Int32) then (if sheet2_lost = 0 then (if sheet1_lost = 0 then (if sheet2_form = sheet1_form then (bind1 (f_X5_hasItems sheet2_size x2 x5) (fun r43 => if r43 = 0 then (f_X8_copy_b99 x_finding sheet0_lost sheet0_form sheet0_size sheet0_items sheet1_lost sheet1_form sheet1_size sheet1_items sheet2_lost sheet2_form sheet2_size sheet2_items sheet3_lost sheet3_form sheet3_size sheet3_items) else (bind1 (f_X5_hasItems sheet1_size x4 x5) (fun r44 => if r44 = 0 then (f_X8_copy_b99 x_finding sheet0_lost sheet0_form sheet0_size sheet0_items sheet1_lost sheet1_form sheet1_size sheet1_items sheet2_lost sheet2_form sheet2_size sheet2_items sheet3_lost sheet3_form sheet3_size sheet3_items) else (gd (acp x2 x4 x5 60 60) (some ((1 : Int32), x_finding, sheet0_items, (va_cpy sheet2_items sheet1_items x2.toNatClampNeg x4.toNatClampNeg x5.toNatClampNeg), sheet2_items, sheet3_items))))))) else (bind2 (f_X8_found x_finding (4 : Int32)) (fun r45 c46 => some (r45, c46, sheet0_items, sheet1_items, sheet2_items, sheet3_items)))) else (f_X8_copy_b51 x_finding sheet0_lost sheet0_form sheet0_size sheet0_items sheet1_lost sheet1_form sheet1_size sheet1_items sheet2_lost sheet2_form sheet2_size sheet2_items sheet3_lost sheet3_form sheet3_size sheet3_items)) else (f_X8_copy_b51 x_finding sheet0_lost sheet0_form sheet0_size sheet0_items sheet1_lost sheet1_form sheet1_size sheet1_items sheet2_lost sheet2_form sheet2_size sheet2_items sheet3_lost sheet3_form sheet3_size sheet3_items)) else (if x3 = (2 : Int32) then (if sheet2_lost = 0 then (if sheet2_lost = 0 then (if sheet2_form = sheet2_form then (bind1 (f_X5_hasItems sheet2_size x2 x5) (fun r47 => if r47 = 0 then (f_X8_copy_b99 x_finding sheet0_lost sheet0_form sheet0_size sheet0_items sheet1_lost sheet1_form sheet1_size sheet1_items sheet2_lost sheet2_form sheet2_size sheet2_items sheet3_lost sheet3_form sheet3_size sheet3_items) else (bind1 (f_X5_hasItems sheet2_size x4 x5) (fun r48 => if r48 = 0 then (f_X8_copy_b99 x_finding sheet0_lost sheet0_form sheet0_size sheet0_items sheet1_lost sheet1_form sheet1_size sheet1_items sheet2_lost sheet2_form sheet2_size sheet2_items sheet3_lost sheet3_form sheet3_size sheet3_items) else (gd (acp x2 x4 x5 60 60) (some ((1 : Int32), x_finding, sheet0_items, sheet1_items, (va_cpy sheet2_items sheet2_items x2.toNatClampNeg x4.toNatClampNeg x5.toNatClampNeg), sheet3_items))))))) else (bind2 (f_X8_found x_finding (4 : Int32)) (fun r49 c50 => some (r49, c50, sheet0_items, sheet1_items, sheet2_items, sheet3_items)))) else (f_X8_copy_b51 x_finding sheet0_lost sheet0_form sheet0_size sheet0_items sheet1_lost sheet1_form sheet1_size sheet1_items sheet2_lost sheet2_form sheet2_size sheet2_items sheet3_lost sheet3_form sheet3_size sheet3_items)) else (f_X8_copy_b51 x_finding sheet0_lost sheet0_form sheet0_size sheet0_items sheet1_lost sheet1_form sheet1_size sheet1_items sheet2_lost sheet2_form sheet2_size sheet2_items sheet3_lost sheet3_form sheet3_size sheet3_items)) else (if x3 = (3 : Int32) then (if sheet2_lost = 0 then (if sheet3_lost = 0 then (if sheet2_form = sheet3_form then (bind1 (f_X5_hasItems sheet2_size x2 x5) (fun r51 => if r51 = 0 then (f_X8_copy_b99 x_finding sheet0_lost sheet0_form sheet0_size sheet0_items sheet1_lost sheet1_form sheet1_size sheet1_items sheet2_lost sheet2_form sheet2_size sheet2_items sheet3_lost sheet3_form sheet3_size sheet3_items) else (bind1 (f_X5_hasItems sheet3_size x4 x5) (fun r52 => if r52 = 0 then (f_X8_copy_b99 x_finding sheet0_lost sheet0_form sheet0_size sheet0_items sheet1_lost sheet1_form sheet1_size sheet1_items sheet2_lost sheet2_form sheet2_size sheet2_items sheet3_lost sheet3_form sheet3_size sheet3_items) else (gd (acp x2 x4 x5 60 60) (some ((1 : Int32), x_finding, sheet0_items, sheet1_items, sheet2_items, (va_cpy sheet2_items sheet3_items x2.toNatClampNeg x4.toNatClampNeg x5.toNatClampNeg)))))))) else (bind2 (f_X8_found x_finding (4 : Int32)) (fun r53 c54 => some (r53, c54, sheet0_items, sheet1_items, sheet2_items, sheet3_items)))) else (f_X8_copy_b51 x_finding sheet0_lost sheet0_form sheet0_size sheet0_items sheet1_lost sheet1_form sheet1_size sheet1_items sheet2_lost sheet2_form sheet2_size sheet2_items sheet3_lost sheet3_form sheet3_size sheet3_items)) else (f_X8_copy_b51 x_finding sheet0_lost sheet0_form sheet0_size sheet0_items sheet1_lost sheet1_form sheet1_size sheet1_items sheet2_lost sheet2_form sheet2_size sheet2_items sheet3_lost sheet3_form sheet3_size sheet3_items)) else (none))))) else (if x1 = (3 : Int32) then (if x3 = (0 : Int32) then (if sheet3_lost = 0 then (if sheet0_lost = 0 then (if sheet3_form = sheet0_form then (bind1 (f_X5_hasItems sheet3_size x2 x5) (fun r55 => if r55 = 0 then (f_X8_copy_b99 x_finding sheet0_lost sheet0_form sheet0_size sheet0_items sheet1_lost sheet1_form sheet1_size sheet1_items sheet2_lost sheet2_form sheet2_size sheet2_items sheet3_lost sheet3_form sheet3_size sheet3_items) else (bind1 (f_X5_hasItems sheet0_size x4 x5) (fun r56 => if r56 = 0 then (f_X8_copy_b99 x_finding sheet0_lost sheet0_form sheet0_size sheet0_items sheet1_lost sheet1_form sheet1_size sheet1_items sheet2_lost sheet2_form sheet2_size sheet2_items sheet3_lost sheet3_form sheet3_size sheet3_items) else (gd (acp x2 x4 x5 60 60) (some ((1 : Int32), x_finding, (va_cpy sheet3_items sheet0_items x2.toNatClampNeg x4.toNatClampNeg x5.toNatClampNeg), sheet1_items, sheet2_items, sheet3_items))))))) else (bind2 (f_X8_found x_finding (4 : Int32)) (fun r57 c58 => some (r57, c58, sheet0_items, sheet1_items, sheet2_items, sheet3_items)))) else (f_X8_copy_b51 x_finding sheet0_lost sheet0_form sheet0_size sheet0_items sheet1_lost sheet1_form sheet1_size sheet1_items sheet2_lost sheet2_form sheet2_size sheet2_items sheet3_lost sheet3_form sheet3_size sheet3_items)) else (f_X8_copy_b51 x_finding sheet0_lost sheet0_form sheet0_size sheet0_items sheet1_lost sheet1_form sheet1_size sheet1_items sheet2_lost sheet2_form sheet2_size sheet2_items sheet3_lost sheet3_form sheet3_size sheet3_items)) else (if x3 = (1 : Int32) then (if sheet3_lost = 0 then (if sheet1_lost = 0 then (if sheet3_form = sheet1_form then (bind1 (f_X5_hasItems sheet3_size x2 x5) (fun r59 => if r59 = 0 then (f_X8_copy_b99 x_finding sheet0_lost sheet0_form sheet0_size sheet0_items sheet1_lost sheet1_form sheet1_size sheet1_items sheet2_lost sheet2_form sheet2_size sheet2_items sheet3_lost sheet3_form sheet3_size sheet3_items) else (bind1 (f_X5_hasItems sheet1_size x4 x5) (fun r60 => if r60 = 0 then (f_X8_copy_b99 x_finding sheet0_lost sheet0_form sheet0_size sheet0_items sheet1_lost sheet1_form sheet1_size sheet1_items sheet2_lost sheet2_form sheet2_size sheet2_items sheet3_lost sheet3_form sheet3_size sheet3_items) else (gd (acp x2 x4 x5 60 60) (some ((1 : Int32), x_finding, sheet0_items, (va_cpy sheet3_items sheet1_items x2.toNatClampNeg x4.toNatClampNeg x5.toNatClampNeg), sheet2_items, sheet3_items))))))) else (bind2 (f_X8_found x_finding (4 : Int32)) (fun r61 c62 => some (r61, c62, sheet0_items, sheet1_items, sheet2_items, sheet3_items)))) else (f_X8_copy_b51 x_finding sheet0_lost sheet0_form sheet0_size sheet0_items sheet1_lost sheet1_form sheet1_size sheet1_items sheet2_lost sheet2_form sheet2_size sheet2_items sheet3_lost sheet3_form sheet3_size sheet3_items)) else (f_X8_copy_b51 x_finding sheet0_lost sheet0_form sheet0_size sheet0_items sheet1_lost sheet1_form sheet1_size sheet1_items sheet2_lost sheet2_form sheet2_size sheet2_items sheet3_lost sheet3_form sheet3_size sheet3_items)) else (if x3 = (2 : Int32) then (if sheet3_lost = 0 then (if sheet2_lost = 0 then (if sheet3_form = sheet2_form then (bind1 (f_X5_hasItems sheet3_size x2 x5) (fun r63 => if r63 = 0 then (f_X8_copy_b99 x_finding sheet0_lost sheet0_form sheet0_size sheet0_items sheet1_lost sheet1_form sheet1_size sheet1_items sheet2_lost sheet2_form sheet2_size sheet2_items sheet3_lost sheet3_form sheet3_size sheet3_items) else (bind1 (f_X5_hasItems sheet2_size x4 x5) (fun r64 => if r64 = 0 then (f_X8_copy_b99 x_finding sheet0_lost sheet0_form sheet0_size sheet0_items sheet1_lost sheet1_form sheet1_size sheet1_items sheet2_lost sheet2_form sheet2_size sheet2_items sheet3_lost sheet3_form sheet3_size sheet3_items) else (gd (acp x2 x4 x5 60 60) (some ((1 : Int32), x_finding, sheet0_items, sheet1_items, (va_cpy sheet3_items sheet2_items x2.toNatClampNeg x4.toNatClampNeg x5.toNatClampNeg), sheet3_items))))))) else (bind2 (f_X8_found x_finding (4 : Int32)) (fun r65 c66 => some (r65, c66, sheet0_items, sheet1_items, sheet2_items, sheet3_items)))) else (f_X8_copy_b51 x_finding sheet0_lost sheet0_form sheet0_size sheet0_items sheet1_lost sheet1_form sheet1_size sheet1_items sheet2_lost sheet2_form sheet2_size sheet2_items sheet3_lost sheet3_form sheet3_size sheet3_items)) else (f_X8_copy_b51 x_finding sheet0_lost sheet0_form sheet0_size sheet0_items sheet1_lost sheet1_form sheet1_size sheet1_items sheet2_lost sheet2_form sheet2_size sheet2_items sheet3_lost sheet3_form sheet3_size sheet3_items)) else (if x3 = (3 : Int32) then (if sheet3_lost = 0 then (if sheet3_lost = 0 then (if sheet3_form = sheet3_form then (bind1 (f_X5_hasItems sheet3_size x2 x5) (fun r67 => if r67 = 0 then (f_X8_copy_b99 x_finding sheet0_lost sheet0_form sheet0_size sheet0_items sheet1_lost sheet1_form sheet1_size sheet1_items sheet2_lost sheet2_form sheet2_size sheet2_items sheet3_lost sheet3_form sheet3_size sheet3_items) else (bind1 (f_X5_hasItems sheet3_size x4 x5) (fun r68 => if r68 = 0 then (f_X8_copy_b99 x_finding sheet0_lost sheet0_form sheet0_size sheet0_items sheet1_lost sheet1_form sheet1_size sheet1_items sheet2_lost sheet2_form sheet2_size sheet2_items sheet3_lost sheet3_form sheet3_size sheet3_items) else (gd (acp x2 x4 x5 60 60) (some ((1 : Int32), x_finding, sheet0_items, sheet1_items, sheet2_items, (va_cpy sheet3_items sheet3_items x2.toNatClampNeg x4.toNatClampNeg x5.toNatClampNeg)))))))) else (bind2 (f_X8_found x_finding (4 : Int32)) (fun r69 c70 => some (r69, c70, sheet0_items, sheet1_items, sheet2_items, sheet3_items)))) else (f_X8_copy_b51 x_finding sheet0_lost sheet0_form sheet0_size sheet0_items sheet1_lost sheet1_form sheet1_size sheet1_items sheet2_lost sheet2_form sheet2_size sheet2_items sheet3_lost sheet3_form sheet3_size sheet3_items)) else (f_X8_copy_b51 x_finding sheet0_lost sheet0_form sheet0_size sheet0_items sheet1_lost sheet1_form sheet1_size sheet1_items sheet2_lost sheet2_form sheet2_size sheet2_items sheet3_lost sheet3_form sheet3_size sheet3_items)) else (none))))) else (none))))))))
set_option maxHeartbeats 4000000 in
set_option maxRecDepth 100000 in
theorem k_X8_copy (C : Cx RX8 cX8_copy 8 D cA p s m args c) (hr : meth.sig.returnType = (some .int)) (hlk : meth.locks = false) (hA : ∀ q, s.heap.size ≤ q → va_A ws0 sz q) (a : Nat → Nat) (x_stale : Int32) (x_finding : Int32) (sheet0_lost : Int32) (sheet0_form : Int32) (sheet0_size : Int32) (sheet0_items : Nat → Int32) (sheet1_lost : Int32) (sheet1_form : Int32) (sheet1_size : Int32) (sheet1_items : Nat → Int32) (sheet2_lost : Int32) (sheet2_form : Int32) (sheet2_size : Int32) (sheet2_items : Nat → Int32) (sheet3_lost : Int32) (sheet3_form : Int32) (sheet3_size : Int32) (sheet3_items : Nat → Int32) (x1 : Int32) (x2 : Int32) (x3 : Int32) (x4 : Int32) (x5 : Int32) (r : Int32 × Int32 × (Nat → Int32) × (Nat → Int32) × (Nat → Int32) × (Nat → Int32)) (hf : f_X8_copy x_finding sheet0_lost sheet0_form sheet0_size sheet0_items sheet1_lost sheet1_form sheet1_size sheet1_items sheet2_lost sheet2_form sheet2_size sheet2_items sheet3_lost sheet3_form sheet3_size sheet3_items x1 x2 x3 x4 x5 = some r) : At p l e rm_X8_copy s m args below meth c D (va_A ws0 sz) 0 0 (MQ below (PostI D r.1 ws0 (wl_X8_copy cA a x_stale (r.2.1) sheet0_lost sheet0_form sheet0_size (r.2.2.1) sheet1_lost sheet1_form sheet1_size (r.2.2.2.1) sheet2_lost sheet2_form sheet2_size (r.2.2.2.2.1) sheet3_lost sheet3_form sheet3_size (r.2.2.2.2.2)) sz) args s 0 0 (va_A ws0 sz)) 8 0 (wl_X8_copy cA a x_stale x_finding sheet0_lost sheet0_form sheet0_size sheet0_items sheet1_lost sheet1_form sheet1_size sheet1_items sheet2_lost sheet2_form sheet2_size sheet2_items sheet3_lost sheet3_form sheet3_size sheet3_items) [(0, .ref (a 0)), (1, .int x1), (2, .int x2), (3, .int x3), (4, .int x4), (5, .int x5)] [] := by
  intro H locs ls hP hD hS hl
  have hx := C.1
  have hb := C.2.1
  have hown := C.2.2.2.1
  have hts := C.2.2.2.2.1
  unfold f_X8_copy at hf
  refine lv_iload_n (pc := 0) hx hb dX8_copy_0 rfl (lv_at hl 1 rfl) ?_
  refine lv_iconst (pc := 1) (v := 3) hx hb dX8_copy_1 ic_3 ?_
  obtain ⟨r1, hq, hf⟩ := bind1_some hf
  refine fin2_i (wl_X8_copy cA a x_stale x_finding sheet0_lost sheet0_form sheet0_size sheet0_items sheet1_lost sheet1_form sheet1_size sheet1_items sheet2_lost sheet2_form sheet2_size sheet2_items sheet3_lost sheet3_form sheet3_size sheet3_items) (run_S (rest := []) (pc := 2) (As := [.int x1, .int (3 : Int32)]) C mf_X8_90 (c_X8_isUpTo l D cA  x1 (3 : Int32) r1 hq H.size) rfl rfl ⟨(Nat.le_of_ble_eq_true rfl), (Nat.le_of_ble_eq_true rfl)⟩ (preS_of C hP hD [] rfl (pl_nd pv_79)) rfl hl.1 rfl (Nat.le_of_ble_eq_true rfl) dX8_copy_2 ⟨Nat.zero_le _, Nat.zero_le _⟩) hP hD hS hA [] [0, 1, 2, 3, 4, 5, 6, 7, 8, 9] rfl rfl rfl rfl pv_79 (fun H locs hP hS => ?_)
  refine lv_if_eq (pc := 5) (tgt := 16) hx hb dX8_copy_5 (by decide) (fun hc => ?_) (fun hc => ?_)
  · have hf := (if_pos hc).symm.trans hf
    refine lv_bipush (pc := 16) (v := (-2)) hx hb dX8_copy_16 bp_m2 ?_
    have hf := Option.some.inj hf
    subst hf
    exact ret_i C hr hlk hP hS dX8_copy_18
  · have hf := (if_neg hc).symm.trans hf
    refine lv_iload_n (pc := 8) hx hb dX8_copy_8 rfl (lv_at hl 3 rfl) ?_
    refine lv_iconst (pc := 9) (v := 3) hx hb dX8_copy_9 ic_3 ?_
    obtain ⟨r2, hq, hf⟩ := bind1_some hf
    refine fin2_i (wl_X8_copy cA a x_stale x_finding sheet0_lost sheet0_form sheet0_size sheet0_items sheet1_lost sheet1_form sheet1_size sheet1_items sheet2_lost sheet2_form sheet2_size sheet2_items sheet3_lost sheet3_form sheet3_size sheet3_items) (run_S (rest := []) (pc := 10) (As := [.int x3, .int (3 : Int32)]) C mf_X8_90 (c_X8_isUpTo l D cA  x3 (3 : Int32) r2 hq H.size) rfl rfl ⟨(Nat.le_of_ble_eq_true rfl), (Nat.le_of_ble_eq_true rfl)⟩ (preS_of C hP hD [] rfl (pl_nd pv_79)) rfl hl.1 rfl (Nat.le_of_ble_eq_true rfl) dX8_copy_10 ⟨Nat.zero_le _, Nat.zero_le _⟩) hP hD hS hA [] [0, 1, 2, 3, 4, 5, 6, 7, 8, 9] rfl rfl rfl rfl pv_79 (fun H locs hP hS => ?_)
    refine lv_if_ne (pc := 13) (tgt := 19) hx hb dX8_copy_13 (by decide) (fun hc => ?_) (fun hc => ?_)
    · have hf := (if_neg hc).symm.trans hf
      refine lv_aload_n (pc := 19) hx hb dX8_copy_19 rfl (lv_at hl 0 rfl) ?_
      refine g_get (pc := 20) C fg_X8_77 hP 0 rfl rfl dX8_copy_20 ?_
      refine lv_iload_n (pc := 23) hx hb dX8_copy_23 rfl (lv_at hl 1 rfl) ?_
      by_cases h_0 : x1 = (0 : Int32)
      · have hf := (if_pos h_0).symm.trans hf
        refine g_aald (pc := 24) (b := (a 46)) C hP 1 rfl (t0 := 3) rfl (by rw [h_0]; decide) (by rw [h_0, tn_0]; rfl) dX8_copy_24 ?_
        refine lv_astore (pc := 25) (lv' := [(6, .ref (a 46)), (0, .ref (a 0)), (1, .int x1), (2, .int x2), (3, .int x3), (4, .int x4), (5, .int x5)]) hx hb dX8_copy_25 hl (Nat.le_of_ble_eq_true rfl) rfl (fun ls hl => ?_)
        refine lv_aload_n (pc := 27) hx hb dX8_copy_27 rfl (lv_at hl 1 rfl) ?_
        refine g_get (pc := 28) C fg_X8_77 hP 0 rfl rfl dX8_copy_28 ?_
        refine lv_iload_n (pc := 31) hx hb dX8_copy_31 rfl (lv_at hl 4 rfl) ?_
        by_cases h_0 : x3 = (0 : Int32)
        · have hf := (if_pos h_0).symm.trans hf
          refine g_aald (pc := 32) (b := (a 46)) C hP 1 rfl (t0 := 3) rfl (by rw [h_0]; decide) (by rw [h_0, tn_0]; rfl) dX8_copy_32 ?_
          refine lv_astore (pc := 33) (lv' := [(7, .ref (a 46)), (6, .ref (a 46)), (0, .ref (a 0)), (1, .int x1), (2, .int x2), (3, .int x3), (4, .int x4), (5, .int x5)]) hx hb dX8_copy_33 hl (Nat.le_of_ble_eq_true rfl) rfl (fun ls hl => ?_)
          refine lv_aload (pc := 35) hx hb dX8_copy_35 (lv_at hl 1 rfl) ?_
          refine g_get (pc := 37) C fg_X8_136 hP 2 rfl rfl dX8_copy_37 ?_
          refine lv_if_ne (pc := 40) (tgt := 51) hx hb dX8_copy_40 (by decide) (fun hc => ?_) (fun hc => ?_)
          · have hf := (if_neg hc).symm.trans hf
            exact k_X8_copy_b51 C hr hlk hA a x_stale x_finding sheet0_lost sheet0_form sheet0_size sheet0_items sheet1_lost sheet1_form sheet1_size sheet1_items sheet2_lost sheet2_form sheet2_size sheet2_items sheet3_lost sheet3_form sheet3_size sheet3_items r hf H locs ls hP hD hS (lv_sub hl [2] rfl)
          · have hf := (if_pos hc).symm.trans hf
            refine lv_aload (pc := 43) hx hb dX8_copy_43 (lv_at hl 0 rfl) ?_
            refine g_get (pc := 45) C fg_X8_136 hP 2 rfl rfl dX8_copy_45 ?_
            refine lv_if_eq (pc := 48) (tgt := 57) hx hb dX8_copy_48 (by decide) (fun hc => ?_) (fun hc => ?_)
            · have hf := (if_pos hc).symm.trans hf
              refine lv_aload (pc := 57) hx hb dX8_copy_57 (lv_at hl 1 rfl) ?_
              refine g_get (pc := 59) C fg_X8_322 hP 2 rfl rfl dX8_copy_59 ?_
              refine lv_aload (pc := 62) hx hb dX8_copy_62 (lv_at hl 0 rfl) ?_
              refine g_get (pc := 64) C fg_X8_322 hP 2 rfl rfl dX8_copy_64 ?_
              refine lv_icmp_eq (pc := 67) (tgt := 76) hx hb dX8_copy_67 (by decide) (fun hc => ?_) (fun hc => ?_)
              · have hf := (if_pos hc).symm.trans hf
                refine lv_aload (pc := 76) hx hb dX8_copy_76 (lv_at hl 1 rfl) ?_
                refine lv_iload_n (pc := 78) hx hb dX8_copy_78 rfl (lv_at hl 4 rfl) ?_
                refine lv_iload (pc := 79) hx hb dX8_copy_79 (lv_at hl 7 rfl) ?_
                obtain ⟨r5, hq, hf⟩ := bind1_some hf
                refine fin2_i (wl_X8_copy cA a x_stale x_finding sheet0_lost sheet0_form sheet0_size sheet0_items sheet1_lost sheet1_form sheet1_size sheet1_items sheet2_lost sheet2_form sheet2_size sheet2_items sheet3_lost sheet3_form sheet3_size sheet3_items) (run_V (rest := []) (pc := 81) (As := [.int x2, .int x5]) C mf_X8_325 (c_X5_hasItems l D cA (a 46) (a 47) sheet0_lost sheet0_form sheet0_size x2 x5 r5 hq H.size) rfl rfl ⟨(Nat.le_of_ble_eq_true rfl), (Nat.le_of_ble_eq_true rfl)⟩ (preV_of C hP hD [2] rfl (pl_nd pv_85) 0 rfl rfl rfl) rfl hl.1 rfl (Nat.le_of_ble_eq_true rfl) dX8_copy_81 ⟨Nat.zero_le _, Nat.zero_le _⟩) hP hD hS hA [2] [0, 1, 3, 4, 5, 6, 7, 8, 9] rfl rfl rfl rfl pv_85 (fun H locs hP hS => ?_)
                refine lv_if_eq (pc := 84) (tgt := 99) hx hb dX8_copy_84 (by decide) (fun hc => ?_) (fun hc => ?_)
                · have hf := (if_pos hc).symm.trans hf
                  exact k_X8_copy_b99 C hr hlk hA a x_stale x_finding sheet0_lost sheet0_form sheet0_size sheet0_items sheet1_lost sheet1_form sheet1_size sheet1_items sheet2_lost sheet2_form sheet2_size sheet2_items sheet3_lost sheet3_form sheet3_size sheet3_items r hf H locs ls hP hD hS (lv_sub hl [2] rfl)
                · have hf := (if_neg hc).symm.trans hf
                  refine lv_aload (pc := 87) hx hb dX8_copy_87 (lv_at hl 0 rfl) ?_
                  refine lv_iload (pc := 89) hx hb dX8_copy_89 (lv_at hl 6 rfl) ?_
                  refine lv_iload (pc := 91) hx hb dX8_copy_91 (lv_at hl 7 rfl) ?_
                  obtain ⟨r8, hq, hf⟩ := bind1_some hf
                  refine fin2_i (wl_X8_copy cA a x_stale x_finding sheet0_lost sheet0_form sheet0_size sheet0_items sheet1_lost sheet1_form sheet1_size sheet1_items sheet2_lost sheet2_form sheet2_size sheet2_items sheet3_lost sheet3_form sheet3_size sheet3_items) (run_V (rest := []) (pc := 93) (As := [.int x4, .int x5]) C mf_X8_325 (c_X5_hasItems l D cA (a 46) (a 47) sheet0_lost sheet0_form sheet0_size x4 x5 r8 hq H.size) rfl rfl ⟨(Nat.le_of_ble_eq_true rfl), (Nat.le_of_ble_eq_true rfl)⟩ (preV_of C hP hD [2] rfl (pl_nd pv_85) 0 rfl rfl rfl) rfl hl.1 rfl (Nat.le_of_ble_eq_true rfl) dX8_copy_93 ⟨Nat.zero_le _, Nat.zero_le _⟩) hP hD hS hA [2] [0, 1, 3, 4, 5, 6, 7, 8, 9] rfl rfl rfl rfl pv_85 (fun H locs hP hS => ?_)
                  refine lv_if_ne (pc := 96) (tgt := 105) hx hb dX8_copy_96 (by decide) (fun hc => ?_) (fun hc => ?_)
                  · have hf := (if_neg hc).symm.trans hf
                    refine lv_aload (pc := 105) hx hb dX8_copy_105 (lv_at hl 1 rfl) ?_
                    refine g_get (pc := 107) C fg_X8_146 hP 2 rfl rfl dX8_copy_107 ?_
                    refine lv_iload_n (pc := 110) hx hb dX8_copy_110 rfl (lv_at hl 4 rfl) ?_
                    refine lv_aload (pc := 111) hx hb dX8_copy_111 (lv_at hl 0 rfl) ?_
                    refine g_get (pc := 113) C fg_X8_146 hP 2 rfl rfl dX8_copy_113 ?_
                    refine lv_iload (pc := 116) hx hb dX8_copy_116 (lv_at hl 6 rfl) ?_
                    refine lv_iload (pc := 118) hx hb dX8_copy_118 (lv_at hl 7 rfl) ?_
                    obtain ⟨hg, hf⟩ := gd_some hf
                    refine g_acopy (pc := 120) (rest := []) C acl_X8_328 hl.1 hP hD hS 3 3 rfl rfl hg ⟨(Nat.le_of_ble_eq_true rfl), by decide⟩ dX8_copy_120 (fun H locs hP hD hS => ?_)
                    have hP : va_P D classes (wl_X8_copy cA a x_stale x_finding sheet0_lost sheet0_form sheet0_size (va_cpy sheet0_items sheet0_items x2.toNatClampNeg x4.toNatClampNeg x5.toNatClampNeg) sheet1_lost sheet1_form sheet1_size sheet1_items sheet2_lost sheet2_form sheet2_size sheet2_items sheet3_lost sheet3_form sheet3_size sheet3_items) H := hP
                    have hD : va_D (va_A ws0 sz) (wl_X8_copy cA a x_stale x_finding sheet0_lost sheet0_form sheet0_size (va_cpy sheet0_items sheet0_items x2.toNatClampNeg x4.toNatClampNeg x5.toNatClampNeg) sheet1_lost sheet1_form sheet1_size sheet1_items sheet2_lost sheet2_form sheet2_size sheet2_items sheet3_lost sheet3_form sheet3_size sheet3_items) := hD
                    refine lv_iconst (pc := 123) (v := 1) hx hb dX8_copy_123 ic_1 ?_
                    have hf := Option.some.inj hf
                    subst hf
                    exact ret_i C hr hlk hP hS dX8_copy_124
                  · have hf := (if_pos hc).symm.trans hf
                    exact k_X8_copy_b99 C hr hlk hA a x_stale x_finding sheet0_lost sheet0_form sheet0_size sheet0_items sheet1_lost sheet1_form sheet1_size sheet1_items sheet2_lost sheet2_form sheet2_size sheet2_items sheet3_lost sheet3_form sheet3_size sheet3_items r hf H locs ls hP hD hS (lv_sub hl [2] rfl)
              · have hf := (if_neg hc).symm.trans hf
                refine lv_aload_n (pc := 70) hx hb dX8_copy_70 rfl (lv_at hl 2 rfl) ?_
                refine lv_iconst (pc := 71) (v := 4) hx hb dX8_copy_71 ic_4 ?_
                obtain ⟨r9, c10, hq, hf⟩ := bind2_some hf
                refine fin2_i (wl_X8_copy cA a x_stale c10 sheet0_lost sheet0_form sheet0_size sheet0_items sheet1_lost sheet1_form sheet1_size sheet1_items sheet2_lost sheet2_form sheet2_size sheet2_items sheet3_lost sheet3_form sheet3_size sheet3_items) (run_V (rest := []) (pc := 72) (As := [.int (4 : Int32)]) C mf_X8_139 (c_X8_found l D cA a x_stale x_finding (4 : Int32) (r9, c10) hq H.size) rfl rfl ⟨(Nat.le_of_ble_eq_true rfl), (Nat.le_of_ble_eq_true rfl)⟩ (preV_of C hP hD [0] rfl (pl_nd pv_84) 0 rfl rfl rfl) rfl hl.1 rfl (Nat.le_of_ble_eq_true rfl) dX8_copy_72 ⟨Nat.zero_le _, Nat.zero_le _⟩) hP hD hS hA [0] [1, 2, 3, 4, 5, 6, 7, 8, 9] rfl rfl rfl rfl pv_84 (fun H locs hP hS => ?_)
                have hD : va_D (va_A ws0 sz) (wl_X8_copy cA a x_stale c10 sheet0_lost sheet0_form sheet0_size sheet0_items sheet1_lost sheet1_form sheet1_size sheet1_items sheet2_lost sheet2_form sheet2_size sheet2_items sheet3_lost sheet3_form sheet3_size sheet3_items) := vd_a hD rfl
                have hf := Option.some.inj hf
                subst hf
                exact ret_i C hr hlk hP hS dX8_copy_75
            · have hf := (if_neg hc).symm.trans hf
              exact k_X8_copy_b51 C hr hlk hA a x_stale x_finding sheet0_lost sheet0_form sheet0_size sheet0_items sheet1_lost sheet1_form sheet1_size sheet1_items sheet2_lost sheet2_form sheet2_size sheet2_items sheet3_lost sheet3_form sheet3_size sheet3_items r hf H locs ls hP hD hS (lv_sub hl [2] rfl)
        have hf := (if_neg h_0).symm.trans hf
        by_cases h_1 : x3 = (1 : Int32)
        · have hf := (if_pos h_1).symm.trans hf
          refine g_aald (pc := 32) (b := (a 48)) C hP 1 rfl (t0 := 3) rfl (by rw [h_1]; decide) (by rw [h_1, tn_1]; rfl) dX8_copy_32 ?_
          refine lv_astore (pc := 33) (lv' := [(7, .ref (a 48)), (6, .ref (a 46)), (0, .ref (a 0)), (1, .int x1), (2, .int x2), (3, .int x3), (4, .int x4), (5, .int x5)]) hx hb dX8_copy_33 hl (Nat.le_of_ble_eq_true rfl) rfl (fun ls hl => ?_)
          refine lv_aload (pc := 35) hx hb dX8_copy_35 (lv_at hl 1 rfl) ?_
          refine g_get (pc := 37) C fg_X8_136 hP 2 rfl rfl dX8_copy_37 ?_
          refine lv_if_ne (pc := 40) (tgt := 51) hx hb dX8_copy_40 (by decide) (fun hc => ?_) (fun hc => ?_)
          · have hf := (if_neg hc).symm.trans hf
            exact k_X8_copy_b51 C hr hlk hA a x_stale x_finding sheet0_lost sheet0_form sheet0_size sheet0_items sheet1_lost sheet1_form sheet1_size sheet1_items sheet2_lost sheet2_form sheet2_size sheet2_items sheet3_lost sheet3_form sheet3_size sheet3_items r hf H locs ls hP hD hS (lv_sub hl [2] rfl)
          · have hf := (if_pos hc).symm.trans hf
            refine lv_aload (pc := 43) hx hb dX8_copy_43 (lv_at hl 0 rfl) ?_
            refine g_get (pc := 45) C fg_X8_136 hP 4 rfl rfl dX8_copy_45 ?_
            refine lv_if_eq (pc := 48) (tgt := 57) hx hb dX8_copy_48 (by decide) (fun hc => ?_) (fun hc => ?_)
            · have hf := (if_pos hc).symm.trans hf
              refine lv_aload (pc := 57) hx hb dX8_copy_57 (lv_at hl 1 rfl) ?_
              refine g_get (pc := 59) C fg_X8_322 hP 2 rfl rfl dX8_copy_59 ?_
              refine lv_aload (pc := 62) hx hb dX8_copy_62 (lv_at hl 0 rfl) ?_
              refine g_get (pc := 64) C fg_X8_322 hP 4 rfl rfl dX8_copy_64 ?_
              refine lv_icmp_eq (pc := 67) (tgt := 76) hx hb dX8_copy_67 (by decide) (fun hc => ?_) (fun hc => ?_)
              · have hf := (if_pos hc).symm.trans hf
                refine lv_aload (pc := 76) hx hb dX8_copy_76 (lv_at hl 1 rfl) ?_
                refine lv_iload_n (pc := 78) hx hb dX8_copy_78 rfl (lv_at hl 4 rfl) ?_
                refine lv_iload (pc := 79) hx hb dX8_copy_79 (lv_at hl 7 rfl) ?_
                obtain ⟨r11, hq, hf⟩ := bind1_some hf
                refine fin2_i (wl_X8_copy cA a x_stale x_finding sheet0_lost sheet0_form sheet0_size sheet0_items sheet1_lost sheet1_form sheet1_size sheet1_items sheet2_lost sheet2_form sheet2_size sheet2_items sheet3_lost sheet3_form sheet3_size sheet3_items) (run_V (rest := []) (pc := 81) (As := [.int x2, .int x5]) C mf_X8_325 (c_X5_hasItems l D cA (a 46) (a 47) sheet0_lost sheet0_form sheet0_size x2 x5 r11 hq H.size) rfl rfl ⟨(Nat.le_of_ble_eq_true rfl), (Nat.le_of_ble_eq_true rfl)⟩ (preV_of C hP hD [2] rfl (pl_nd pv_85) 0 rfl rfl rfl) rfl hl.1 rfl (Nat.le_of_ble_eq_true rfl) dX8_copy_81 ⟨Nat.zero_le _, Nat.zero_le _⟩) hP hD hS hA [2] [0, 1, 3, 4, 5, 6, 7, 8, 9] rfl rfl rfl rfl pv_85 (fun H locs hP hS => ?_)
                refine lv_if_eq (pc := 84) (tgt := 99) hx hb dX8_copy_84 (by decide) (fun hc => ?_) (fun hc => ?_)
                · have hf := (if_pos hc).symm.trans hf
                  exact k_X8_copy_b99 C hr hlk hA a x_stale x_finding sheet0_lost sheet0_form sheet0_size sheet0_items sheet1_lost sheet1_form sheet1_size sheet1_items sheet2_lost sheet2_form sheet2_size sheet2_items sheet3_lost sheet3_form sheet3_size sheet3_items r hf H locs ls hP hD hS (lv_sub hl [2] rfl)
                · have hf := (if_neg hc).symm.trans hf
                  refine lv_aload (pc := 87) hx hb dX8_copy_87 (lv_at hl 0 rfl) ?_
                  refine lv_iload (pc := 89) hx hb dX8_copy_89 (lv_at hl 6 rfl) ?_
                  refine lv_iload (pc := 91) hx hb dX8_copy_91 (lv_at hl 7 rfl) ?_
                  obtain ⟨r12, hq, hf⟩ := bind1_some hf
                  refine fin2_i (wl_X8_copy cA a x_stale x_finding sheet0_lost sheet0_form sheet0_size sheet0_items sheet1_lost sheet1_form sheet1_size sheet1_items sheet2_lost sheet2_form sheet2_size sheet2_items sheet3_lost sheet3_form sheet3_size sheet3_items) (run_V (rest := []) (pc := 93) (As := [.int x4, .int x5]) C mf_X8_325 (c_X5_hasItems l D cA (a 48) (a 49) sheet1_lost sheet1_form sheet1_size x4 x5 r12 hq H.size) rfl rfl ⟨(Nat.le_of_ble_eq_true rfl), (Nat.le_of_ble_eq_true rfl)⟩ (preV_of C hP hD [4] rfl (pl_nd pv_86) 0 rfl rfl rfl) rfl hl.1 rfl (Nat.le_of_ble_eq_true rfl) dX8_copy_93 ⟨Nat.zero_le _, Nat.zero_le _⟩) hP hD hS hA [4] [0, 1, 2, 3, 5, 6, 7, 8, 9] rfl rfl rfl rfl pv_86 (fun H locs hP hS => ?_)
                  refine lv_if_ne (pc := 96) (tgt := 105) hx hb dX8_copy_96 (by decide) (fun hc => ?_) (fun hc => ?_)
                  · have hf := (if_neg hc).symm.trans hf
                    refine lv_aload (pc := 105) hx hb dX8_copy_105 (lv_at hl 1 rfl) ?_
                    refine g_get (pc := 107) C fg_X8_146 hP 2 rfl rfl dX8_copy_107 ?_
                    refine lv_iload_n (pc := 110) hx hb dX8_copy_110 rfl (lv_at hl 4 rfl) ?_
                    refine lv_aload (pc := 111) hx hb dX8_copy_111 (lv_at hl 0 rfl) ?_
                    refine g_get (pc := 113) C fg_X8_146 hP 4 rfl rfl dX8_copy_113 ?_
                    refine lv_iload (pc := 116) hx hb dX8_copy_116 (lv_at hl 6 rfl) ?_
                    refine lv_iload (pc := 118) hx hb dX8_copy_118 (lv_at hl 7 rfl) ?_
                    obtain ⟨hg, hf⟩ := gd_some hf
                    refine g_acopy (pc := 120) (rest := []) C acl_X8_328 hl.1 hP hD hS 3 5 rfl rfl hg ⟨(Nat.le_of_ble_eq_true rfl), by decide⟩ dX8_copy_120 (fun H locs hP hD hS => ?_)
                    have hP : va_P D classes (wl_X8_copy cA a x_stale x_finding sheet0_lost sheet0_form sheet0_size sheet0_items sheet1_lost sheet1_form sheet1_size (va_cpy sheet0_items sheet1_items x2.toNatClampNeg x4.toNatClampNeg x5.toNatClampNeg) sheet2_lost sheet2_form sheet2_size sheet2_items sheet3_lost sheet3_form sheet3_size sheet3_items) H := hP
                    have hD : va_D (va_A ws0 sz) (wl_X8_copy cA a x_stale x_finding sheet0_lost sheet0_form sheet0_size sheet0_items sheet1_lost sheet1_form sheet1_size (va_cpy sheet0_items sheet1_items x2.toNatClampNeg x4.toNatClampNeg x5.toNatClampNeg) sheet2_lost sheet2_form sheet2_size sheet2_items sheet3_lost sheet3_form sheet3_size sheet3_items) := hD
                    refine lv_iconst (pc := 123) (v := 1) hx hb dX8_copy_123 ic_1 ?_
                    have hf := Option.some.inj hf
                    subst hf
                    exact ret_i C hr hlk hP hS dX8_copy_124
                  · have hf := (if_pos hc).symm.trans hf
                    exact k_X8_copy_b99 C hr hlk hA a x_stale x_finding sheet0_lost sheet0_form sheet0_size sheet0_items sheet1_lost sheet1_form sheet1_size sheet1_items sheet2_lost sheet2_form sheet2_size sheet2_items sheet3_lost sheet3_form sheet3_size sheet3_items r hf H locs ls hP hD hS (lv_sub hl [2] rfl)
              · have hf := (if_neg hc).symm.trans hf
                refine lv_aload_n (pc := 70) hx hb dX8_copy_70 rfl (lv_at hl 2 rfl) ?_
                refine lv_iconst (pc := 71) (v := 4) hx hb dX8_copy_71 ic_4 ?_
                obtain ⟨r13, c14, hq, hf⟩ := bind2_some hf
                refine fin2_i (wl_X8_copy cA a x_stale c14 sheet0_lost sheet0_form sheet0_size sheet0_items sheet1_lost sheet1_form sheet1_size sheet1_items sheet2_lost sheet2_form sheet2_size sheet2_items sheet3_lost sheet3_form sheet3_size sheet3_items) (run_V (rest := []) (pc := 72) (As := [.int (4 : Int32)]) C mf_X8_139 (c_X8_found l D cA a x_stale x_finding (4 : Int32) (r13, c14) hq H.size) rfl rfl ⟨(Nat.le_of_ble_eq_true rfl), (Nat.le_of_ble_eq_true rfl)⟩ (preV_of C hP hD [0] rfl (pl_nd pv_84) 0 rfl rfl rfl) rfl hl.1 rfl (Nat.le_of_ble_eq_true rfl) dX8_copy_72 ⟨Nat.zero_le _, Nat.zero_le _⟩) hP hD hS hA [0] [1, 2, 3, 4, 5, 6, 7, 8, 9] rfl rfl rfl rfl pv_84 (fun H locs hP hS => ?_)
                have hD : va_D (va_A ws0 sz) (wl_X8_copy cA a x_stale c14 sheet0_lost sheet0_form sheet0_size sheet0_items sheet1_lost sheet1_form sheet1_size sheet1_items sheet2_lost sheet2_form sheet2_size sheet2_items sheet3_lost sheet3_form sheet3_size sheet3_items) := vd_a hD rfl
                have hf := Option.some.inj hf
                subst hf
                exact ret_i C hr hlk hP hS dX8_copy_75
            · have hf := (if_neg hc).symm.trans hf
              exact k_X8_copy_b51 C hr hlk hA a x_stale x_finding sheet0_lost sheet0_form sheet0_size sheet0_items sheet1_lost sheet1_form sheet1_size sheet1_items sheet2_lost sheet2_form sheet2_size sheet2_items sheet3_lost sheet3_form sheet3_size sheet3_items r hf H locs ls hP hD hS (lv_sub hl [2] rfl)
        have hf := (if_neg h_1).symm.trans hf
        by_cases h_2 : x3 = (2 : Int32)
        · have hf := (if_pos h_2).symm.trans hf
          refine g_aald (pc := 32) (b := (a 50)) C hP 1 rfl (t0 := 3) rfl (by rw [h_2]; decide) (by rw [h_2, tn_2]; rfl) dX8_copy_32 ?_
          refine lv_astore (pc := 33) (lv' := [(7, .ref (a 50)), (6, .ref (a 46)), (0, .ref (a 0)), (1, .int x1), (2, .int x2), (3, .int x3), (4, .int x4), (5, .int x5)]) hx hb dX8_copy_33 hl (Nat.le_of_ble_eq_true rfl) rfl (fun ls hl => ?_)
          refine lv_aload (pc := 35) hx hb dX8_copy_35 (lv_at hl 1 rfl) ?_
          refine g_get (pc := 37) C fg_X8_136 hP 2 rfl rfl dX8_copy_37 ?_
          refine lv_if_ne (pc := 40) (tgt := 51) hx hb dX8_copy_40 (by decide) (fun hc => ?_) (fun hc => ?_)
          · have hf := (if_neg hc).symm.trans hf
            exact k_X8_copy_b51 C hr hlk hA a x_stale x_finding sheet0_lost sheet0_form sheet0_size sheet0_items sheet1_lost sheet1_form sheet1_size sheet1_items sheet2_lost sheet2_form sheet2_size sheet2_items sheet3_lost sheet3_form sheet3_size sheet3_items r hf H locs ls hP hD hS (lv_sub hl [2] rfl)
          · have hf := (if_pos hc).symm.trans hf
            refine lv_aload (pc := 43) hx hb dX8_copy_43 (lv_at hl 0 rfl) ?_
            refine g_get (pc := 45) C fg_X8_136 hP 6 rfl rfl dX8_copy_45 ?_
            refine lv_if_eq (pc := 48) (tgt := 57) hx hb dX8_copy_48 (by decide) (fun hc => ?_) (fun hc => ?_)
            · have hf := (if_pos hc).symm.trans hf
              refine lv_aload (pc := 57) hx hb dX8_copy_57 (lv_at hl 1 rfl) ?_
              refine g_get (pc := 59) C fg_X8_322 hP 2 rfl rfl dX8_copy_59 ?_
              refine lv_aload (pc := 62) hx hb dX8_copy_62 (lv_at hl 0 rfl) ?_
              refine g_get (pc := 64) C fg_X8_322 hP 6 rfl rfl dX8_copy_64 ?_
              refine lv_icmp_eq (pc := 67) (tgt := 76) hx hb dX8_copy_67 (by decide) (fun hc => ?_) (fun hc => ?_)
              · have hf := (if_pos hc).symm.trans hf
                refine lv_aload (pc := 76) hx hb dX8_copy_76 (lv_at hl 1 rfl) ?_
                refine lv_iload_n (pc := 78) hx hb dX8_copy_78 rfl (lv_at hl 4 rfl) ?_
                refine lv_iload (pc := 79) hx hb dX8_copy_79 (lv_at hl 7 rfl) ?_
                obtain ⟨r15, hq, hf⟩ := bind1_some hf
                refine fin2_i (wl_X8_copy cA a x_stale x_finding sheet0_lost sheet0_form sheet0_size sheet0_items sheet1_lost sheet1_form sheet1_size sheet1_items sheet2_lost sheet2_form sheet2_size sheet2_items sheet3_lost sheet3_form sheet3_size sheet3_items) (run_V (rest := []) (pc := 81) (As := [.int x2, .int x5]) C mf_X8_325 (c_X5_hasItems l D cA (a 46) (a 47) sheet0_lost sheet0_form sheet0_size x2 x5 r15 hq H.size) rfl rfl ⟨(Nat.le_of_ble_eq_true rfl), (Nat.le_of_ble_eq_true rfl)⟩ (preV_of C hP hD [2] rfl (pl_nd pv_85) 0 rfl rfl rfl) rfl hl.1 rfl (Nat.le_of_ble_eq_true rfl) dX8_copy_81 ⟨Nat.zero_le _, Nat.zero_le _⟩) hP hD hS hA [2] [0, 1, 3, 4, 5, 6, 7, 8, 9] rfl rfl rfl rfl pv_85 (fun H locs hP hS => ?_)
                refine lv_if_eq (pc := 84) (tgt := 99) hx hb dX8_copy_84 (by decide) (fun hc => ?_) (fun hc => ?_)
                · have hf := (if_pos hc).symm.trans hf
                  exact k_X8_copy_b99 C hr hlk hA a x_stale x_finding sheet0_lost sheet0_form sheet0_size sheet0_items sheet1_lost sheet1_form sheet1_size sheet1_items sheet2_lost sheet2_form sheet2_size sheet2_items sheet3_lost sheet3_form sheet3_size sheet3_items r hf H locs ls hP hD hS (lv_sub hl [2] rfl)
                · have hf := (if_neg hc).symm.trans hf
                  refine lv_aload (pc := 87) hx hb dX8_copy_87 (lv_at hl 0 rfl) ?_
                  refine lv_iload (pc := 89) hx hb dX8_copy_89 (lv_at hl 6 rfl) ?_
                  refine lv_iload (pc := 91) hx hb dX8_copy_91 (lv_at hl 7 rfl) ?_
                  obtain ⟨r16, hq, hf⟩ := bind1_some hf
                  refine fin2_i (wl_X8_copy cA a x_stale x_finding sheet0_lost sheet0_form sheet0_size sheet0_items sheet1_lost sheet1_form sheet1_size sheet1_items sheet2_lost sheet2_form sheet2_size sheet2_items sheet3_lost sheet3_form sheet3_size sheet3_items) (run_V (rest := []) (pc := 93) (As := [.int x4, .int x5]) C mf_X8_325 (c_X5_hasItems l D cA (a 50) (a 51) sheet2_lost sheet2_form sheet2_size x4 x5 r16 hq H.size) rfl rfl ⟨(Nat.le_of_ble_eq_true rfl), (Nat.le_of_ble_eq_true rfl)⟩ (preV_of C hP hD [6] rfl (pl_nd pv_87) 0 rfl rfl rfl) rfl hl.1 rfl (Nat.le_of_ble_eq_true rfl) dX8_copy_93 ⟨Nat.zero_le _, Nat.zero_le _⟩) hP hD hS hA [6] [0, 1, 2, 3, 4, 5, 7, 8, 9] rfl rfl rfl rfl pv_87 (fun H locs hP hS => ?_)
                  refine lv_if_ne (pc := 96) (tgt := 105) hx hb dX8_copy_96 (by decide) (fun hc => ?_) (fun hc => ?_)
                  · have hf := (if_neg hc).symm.trans hf
                    refine lv_aload (pc := 105) hx hb dX8_copy_105 (lv_at hl 1 rfl) ?_
                    refine g_get (pc := 107) C fg_X8_146 hP 2 rfl rfl dX8_copy_107 ?_
                    refine lv_iload_n (pc := 110) hx hb dX8_copy_110 rfl (lv_at hl 4 rfl) ?_
                    refine lv_aload (pc := 111) hx hb dX8_copy_111 (lv_at hl 0 rfl) ?_
                    refine g_get (pc := 113) C fg_X8_146 hP 6 rfl rfl dX8_copy_113 ?_
                    refine lv_iload (pc := 116) hx hb dX8_copy_116 (lv_at hl 6 rfl) ?_
                    refine lv_iload (pc := 118) hx hb dX8_copy_118 (lv_at hl 7 rfl) ?_
                    obtain ⟨hg, hf⟩ := gd_some hf
                    refine g_acopy (pc := 120) (rest := []) C acl_X8_328 hl.1 hP hD hS 3 7 rfl rfl hg ⟨(Nat.le_of_ble_eq_true rfl), by decide⟩ dX8_copy_120 (fun H locs hP hD hS => ?_)
                    have hP : va_P D classes (wl_X8_copy cA a x_stale x_finding sheet0_lost sheet0_form sheet0_size sheet0_items sheet1_lost sheet1_form sheet1_size sheet1_items sheet2_lost sheet2_form sheet2_size (va_cpy sheet0_items sheet2_items x2.toNatClampNeg x4.toNatClampNeg x5.toNatClampNeg) sheet3_lost sheet3_form sheet3_size sheet3_items) H := hP
                    have hD : va_D (va_A ws0 sz) (wl_X8_copy cA a x_stale x_finding sheet0_lost sheet0_form sheet0_size sheet0_items sheet1_lost sheet1_form sheet1_size sheet1_items sheet2_lost sheet2_form sheet2_size (va_cpy sheet0_items sheet2_items x2.toNatClampNeg x4.toNatClampNeg x5.toNatClampNeg) sheet3_lost sheet3_form sheet3_size sheet3_items) := hD
                    refine lv_iconst (pc := 123) (v := 1) hx hb dX8_copy_123 ic_1 ?_
                    have hf := Option.some.inj hf
                    subst hf
                    exact ret_i C hr hlk hP hS dX8_copy_124
                  · have hf := (if_pos hc).symm.trans hf
                    exact k_X8_copy_b99 C hr hlk hA a x_stale x_finding sheet0_lost sheet0_form sheet0_size sheet0_items sheet1_lost sheet1_form sheet1_size sheet1_items sheet2_lost sheet2_form sheet2_size sheet2_items sheet3_lost sheet3_form sheet3_size sheet3_items r hf H locs ls hP hD hS (lv_sub hl [2] rfl)
              · have hf := (if_neg hc).symm.trans hf
                refine lv_aload_n (pc := 70) hx hb dX8_copy_70 rfl (lv_at hl 2 rfl) ?_
                refine lv_iconst (pc := 71) (v := 4) hx hb dX8_copy_71 ic_4 ?_
                obtain ⟨r17, c18, hq, hf⟩ := bind2_some hf
                refine fin2_i (wl_X8_copy cA a x_stale c18 sheet0_lost sheet0_form sheet0_size sheet0_items sheet1_lost sheet1_form sheet1_size sheet1_items sheet2_lost sheet2_form sheet2_size sheet2_items sheet3_lost sheet3_form sheet3_size sheet3_items) (run_V (rest := []) (pc := 72) (As := [.int (4 : Int32)]) C mf_X8_139 (c_X8_found l D cA a x_stale x_finding (4 : Int32) (r17, c18) hq H.size) rfl rfl ⟨(Nat.le_of_ble_eq_true rfl), (Nat.le_of_ble_eq_true rfl)⟩ (preV_of C hP hD [0] rfl (pl_nd pv_84) 0 rfl rfl rfl) rfl hl.1 rfl (Nat.le_of_ble_eq_true rfl) dX8_copy_72 ⟨Nat.zero_le _, Nat.zero_le _⟩) hP hD hS hA [0] [1, 2, 3, 4, 5, 6, 7, 8, 9] rfl rfl rfl rfl pv_84 (fun H locs hP hS => ?_)
                have hD : va_D (va_A ws0 sz) (wl_X8_copy cA a x_stale c18 sheet0_lost sheet0_form sheet0_size sheet0_items sheet1_lost sheet1_form sheet1_size sheet1_items sheet2_lost sheet2_form sheet2_size sheet2_items sheet3_lost sheet3_form sheet3_size sheet3_items) := vd_a hD rfl
                have hf := Option.some.inj hf
                subst hf
                exact ret_i C hr hlk hP hS dX8_copy_75
            · have hf := (if_neg hc).symm.trans hf
              exact k_X8_copy_b51 C hr hlk hA a x_stale x_finding sheet0_lost sheet0_form sheet0_size sheet0_items sheet1_lost sheet1_form sheet1_size sheet1_items sheet2_lost sheet2_form sheet2_size sheet2_items sheet3_lost sheet3_form sheet3_size sheet3_items r hf H locs ls hP hD hS (lv_sub hl [2] rfl)
        have hf := (if_neg h_2).symm.trans hf
        by_cases h_3 : x3 = (3 : Int32)
        · have hf := (if_pos h_3).symm.trans hf
          refine g_aald (pc := 32) (b := (a 52)) C hP 1 rfl (t0 := 3) rfl (by rw [h_3]; decide) (by rw [h_3, tn_3]; rfl) dX8_copy_32 ?_
          refine lv_astore (pc := 33) (lv' := [(7, .ref (a 52)), (6, .ref (a 46)), (0, .ref (a 0)), (1, .int x1), (2, .int x2), (3, .int x3), (4, .int x4), (5, .int x5)]) hx hb dX8_copy_33 hl (Nat.le_of_ble_eq_true rfl) rfl (fun ls hl => ?_)
          refine lv_aload (pc := 35) hx hb dX8_copy_35 (lv_at hl 1 rfl) ?_
          refine g_get (pc := 37) C fg_X8_136 hP 2 rfl rfl dX8_copy_37 ?_
          refine lv_if_ne (pc := 40) (tgt := 51) hx hb dX8_copy_40 (by decide) (fun hc => ?_) (fun hc => ?_)
          · have hf := (if_neg hc).symm.trans hf
            exact k_X8_copy_b51 C hr hlk hA a x_stale x_finding sheet0_lost sheet0_form sheet0_size sheet0_items sheet1_lost sheet1_form sheet1_size sheet1_items sheet2_lost sheet2_form sheet2_size sheet2_items sheet3_lost sheet3_form sheet3_size sheet3_items r hf H locs ls hP hD hS (lv_sub hl [2] rfl)
          · have hf := (if_pos hc).symm.trans hf
            refine lv_aload (pc := 43) hx hb dX8_copy_43 (lv_at hl 0 rfl) ?_
            refine g_get (pc := 45) C fg_X8_136 hP 8 rfl rfl dX8_copy_45 ?_
            refine lv_if_eq (pc := 48) (tgt := 57) hx hb dX8_copy_48 (by decide) (fun hc => ?_) (fun hc => ?_)
            · have hf := (if_pos hc).symm.trans hf
              refine lv_aload (pc := 57) hx hb dX8_copy_57 (lv_at hl 1 rfl) ?_
              refine g_get (pc := 59) C fg_X8_322 hP 2 rfl rfl dX8_copy_59 ?_
              refine lv_aload (pc := 62) hx hb dX8_copy_62 (lv_at hl 0 rfl) ?_
              refine g_get (pc := 64) C fg_X8_322 hP 8 rfl rfl dX8_copy_64 ?_
              refine lv_icmp_eq (pc := 67) (tgt := 76) hx hb dX8_copy_67 (by decide) (fun hc => ?_) (fun hc => ?_)
              · have hf := (if_pos hc).symm.trans hf
                refine lv_aload (pc := 76) hx hb dX8_copy_76 (lv_at hl 1 rfl) ?_
                refine lv_iload_n (pc := 78) hx hb dX8_copy_78 rfl (lv_at hl 4 rfl) ?_
                refine lv_iload (pc := 79) hx hb dX8_copy_79 (lv_at hl 7 rfl) ?_
                obtain ⟨r19, hq, hf⟩ := bind1_some hf
                refine fin2_i (wl_X8_copy cA a x_stale x_finding sheet0_lost sheet0_form sheet0_size sheet0_items sheet1_lost sheet1_form sheet1_size sheet1_items sheet2_lost sheet2_form sheet2_size sheet2_items sheet3_lost sheet3_form sheet3_size sheet3_items) (run_V (rest := []) (pc := 81) (As := [.int x2, .int x5]) C mf_X8_325 (c_X5_hasItems l D cA (a 46) (a 47) sheet0_lost sheet0_form sheet0_size x2 x5 r19 hq H.size) rfl rfl ⟨(Nat.le_of_ble_eq_true rfl), (Nat.le_of_ble_eq_true rfl)⟩ (preV_of C hP hD [2] rfl (pl_nd pv_85) 0 rfl rfl rfl) rfl hl.1 rfl (Nat.le_of_ble_eq_true rfl) dX8_copy_81 ⟨Nat.zero_le _, Nat.zero_le _⟩) hP hD hS hA [2] [0, 1, 3, 4, 5, 6, 7, 8, 9] rfl rfl rfl rfl pv_85 (fun H locs hP hS => ?_)
                refine lv_if_eq (pc := 84) (tgt := 99) hx hb dX8_copy_84 (by decide) (fun hc => ?_) (fun hc => ?_)
                · have hf := (if_pos hc).symm.trans hf
                  exact k_X8_copy_b99 C hr hlk hA a x_stale x_finding sheet0_lost sheet0_form sheet0_size sheet0_items sheet1_lost sheet1_form sheet1_size sheet1_items sheet2_lost sheet2_form sheet2_size sheet2_items sheet3_lost sheet3_form sheet3_size sheet3_items r hf H locs ls hP hD hS (lv_sub hl [2] rfl)
                · have hf := (if_neg hc).symm.trans hf
                  refine lv_aload (pc := 87) hx hb dX8_copy_87 (lv_at hl 0 rfl) ?_
                  refine lv_iload (pc := 89) hx hb dX8_copy_89 (lv_at hl 6 rfl) ?_
                  refine lv_iload (pc := 91) hx hb dX8_copy_91 (lv_at hl 7 rfl) ?_
                  obtain ⟨r20, hq, hf⟩ := bind1_some hf
                  refine fin2_i (wl_X8_copy cA a x_stale x_finding sheet0_lost sheet0_form sheet0_size sheet0_items sheet1_lost sheet1_form sheet1_size sheet1_items sheet2_lost sheet2_form sheet2_size sheet2_items sheet3_lost sheet3_form sheet3_size sheet3_items) (run_V (rest := []) (pc := 93) (As := [.int x4, .int x5]) C mf_X8_325 (c_X5_hasItems l D cA (a 52) (a 53) sheet3_lost sheet3_form sheet3_size x4 x5 r20 hq H.size) rfl rfl ⟨(Nat.le_of_ble_eq_true rfl), (Nat.le_of_ble_eq_true rfl)⟩ (preV_of C hP hD [8] rfl (pl_nd pv_88) 0 rfl rfl rfl) rfl hl.1 rfl (Nat.le_of_ble_eq_true rfl) dX8_copy_93 ⟨Nat.zero_le _, Nat.zero_le _⟩) hP hD hS hA [8] [0, 1, 2, 3, 4, 5, 6, 7, 9] rfl rfl rfl rfl pv_88 (fun H locs hP hS => ?_)
                  refine lv_if_ne (pc := 96) (tgt := 105) hx hb dX8_copy_96 (by decide) (fun hc => ?_) (fun hc => ?_)
                  · have hf := (if_neg hc).symm.trans hf
                    refine lv_aload (pc := 105) hx hb dX8_copy_105 (lv_at hl 1 rfl) ?_
                    refine g_get (pc := 107) C fg_X8_146 hP 2 rfl rfl dX8_copy_107 ?_
                    refine lv_iload_n (pc := 110) hx hb dX8_copy_110 rfl (lv_at hl 4 rfl) ?_
                    refine lv_aload (pc := 111) hx hb dX8_copy_111 (lv_at hl 0 rfl) ?_
                    refine g_get (pc := 113) C fg_X8_146 hP 8 rfl rfl dX8_copy_113 ?_
                    refine lv_iload (pc := 116) hx hb dX8_copy_116 (lv_at hl 6 rfl) ?_
                    refine lv_iload (pc := 118) hx hb dX8_copy_118 (lv_at hl 7 rfl) ?_
                    obtain ⟨hg, hf⟩ := gd_some hf
                    refine g_acopy (pc := 120) (rest := []) C acl_X8_328 hl.1 hP hD hS 3 9 rfl rfl hg ⟨(Nat.le_of_ble_eq_true rfl), by decide⟩ dX8_copy_120 (fun H locs hP hD hS => ?_)
                    have hP : va_P D classes (wl_X8_copy cA a x_stale x_finding sheet0_lost sheet0_form sheet0_size sheet0_items sheet1_lost sheet1_form sheet1_size sheet1_items sheet2_lost sheet2_form sheet2_size sheet2_items sheet3_lost sheet3_form sheet3_size (va_cpy sheet0_items sheet3_items x2.toNatClampNeg x4.toNatClampNeg x5.toNatClampNeg)) H := hP
                    have hD : va_D (va_A ws0 sz) (wl_X8_copy cA a x_stale x_finding sheet0_lost sheet0_form sheet0_size sheet0_items sheet1_lost sheet1_form sheet1_size sheet1_items sheet2_lost sheet2_form sheet2_size sheet2_items sheet3_lost sheet3_form sheet3_size (va_cpy sheet0_items sheet3_items x2.toNatClampNeg x4.toNatClampNeg x5.toNatClampNeg)) := hD
                    refine lv_iconst (pc := 123) (v := 1) hx hb dX8_copy_123 ic_1 ?_
                    have hf := Option.some.inj hf
                    subst hf
                    exact ret_i C hr hlk hP hS dX8_copy_124
                  · have hf := (if_pos hc).symm.trans hf
                    exact k_X8_copy_b99 C hr hlk hA a x_stale x_finding sheet0_lost sheet0_form sheet0_size sheet0_items sheet1_lost sheet1_form sheet1_size sheet1_items sheet2_lost sheet2_form sheet2_size sheet2_items sheet3_lost sheet3_form sheet3_size sheet3_items r hf H locs ls hP hD hS (lv_sub hl [2] rfl)
              · have hf := (if_neg hc).symm.trans hf
                refine lv_aload_n (pc := 70) hx hb dX8_copy_70 rfl (lv_at hl 2 rfl) ?_
                refine lv_iconst (pc := 71) (v := 4) hx hb dX8_copy_71 ic_4 ?_
                obtain ⟨r21, c22, hq, hf⟩ := bind2_some hf
                refine fin2_i (wl_X8_copy cA a x_stale c22 sheet0_lost sheet0_form sheet0_size sheet0_items sheet1_lost sheet1_form sheet1_size sheet1_items sheet2_lost sheet2_form sheet2_size sheet2_items sheet3_lost sheet3_form sheet3_size sheet3_items) (run_V (rest := []) (pc := 72) (As := [.int (4 : Int32)]) C mf_X8_139 (c_X8_found l D cA a x_stale x_finding (4 : Int32) (r21, c22) hq H.size) rfl rfl ⟨(Nat.le_of_ble_eq_true rfl), (Nat.le_of_ble_eq_true rfl)⟩ (preV_of C hP hD [0] rfl (pl_nd pv_84) 0 rfl rfl rfl) rfl hl.1 rfl (Nat.le_of_ble_eq_true rfl) dX8_copy_72 ⟨Nat.zero_le _, Nat.zero_le _⟩) hP hD hS hA [0] [1, 2, 3, 4, 5, 6, 7, 8, 9] rfl rfl rfl rfl pv_84 (fun H locs hP hS => ?_)
                have hD : va_D (va_A ws0 sz) (wl_X8_copy cA a x_stale c22 sheet0_lost sheet0_form sheet0_size sheet0_items sheet1_lost sheet1_form sheet1_size sheet1_items sheet2_lost sheet2_form sheet2_size sheet2_items sheet3_lost sheet3_form sheet3_size sheet3_items) := vd_a hD rfl
                have hf := Option.some.inj hf
                subst hf
                exact ret_i C hr hlk hP hS dX8_copy_75
            · have hf := (if_neg hc).symm.trans hf
              exact k_X8_copy_b51 C hr hlk hA a x_stale x_finding sheet0_lost sheet0_form sheet0_size sheet0_items sheet1_lost sheet1_form sheet1_size sheet1_items sheet2_lost sheet2_form sheet2_size sheet2_items sheet3_lost sheet3_form sheet3_size sheet3_items r hf H locs ls hP hD hS (lv_sub hl [2] rfl)
        have hf := (if_neg h_3).symm.trans hf
        cases hf
      have hf := (if_neg h_0).symm.trans hf
      by_cases h_1 : x1 = (1 : Int32)
      · have hf := (if_pos h_1).symm.trans hf
        refine g_aald (pc := 24) (b := (a 48)) C hP 1 rfl (t0 := 3) rfl (by rw [h_1]; decide) (by rw [h_1, tn_1]; rfl) dX8_copy_24 ?_
        refine lv_astore (pc := 25) (lv' := [(6, .ref (a 48)), (0, .ref (a 0)), (1, .int x1), (2, .int x2), (3, .int x3), (4, .int x4), (5, .int x5)]) hx hb dX8_copy_25 hl (Nat.le_of_ble_eq_true rfl) rfl (fun ls hl => ?_)
        refine lv_aload_n (pc := 27) hx hb dX8_copy_27 rfl (lv_at hl 1 rfl) ?_
        refine g_get (pc := 28) C fg_X8_77 hP 0 rfl rfl dX8_copy_28 ?_
        refine lv_iload_n (pc := 31) hx hb dX8_copy_31 rfl (lv_at hl 4 rfl) ?_
        by_cases h_0 : x3 = (0 : Int32)
        · have hf := (if_pos h_0).symm.trans hf
          refine g_aald (pc := 32) (b := (a 46)) C hP 1 rfl (t0 := 3) rfl (by rw [h_0]; decide) (by rw [h_0, tn_0]; rfl) dX8_copy_32 ?_
          refine lv_astore (pc := 33) (lv' := [(7, .ref (a 46)), (6, .ref (a 48)), (0, .ref (a 0)), (1, .int x1), (2, .int x2), (3, .int x3), (4, .int x4), (5, .int x5)]) hx hb dX8_copy_33 hl (Nat.le_of_ble_eq_true rfl) rfl (fun ls hl => ?_)
          refine lv_aload (pc := 35) hx hb dX8_copy_35 (lv_at hl 1 rfl) ?_
          refine g_get (pc := 37) C fg_X8_136 hP 4 rfl rfl dX8_copy_37 ?_
          refine lv_if_ne (pc := 40) (tgt := 51) hx hb dX8_copy_40 (by decide) (fun hc => ?_) (fun hc => ?_)
          · have hf := (if_neg hc).symm.trans hf
            exact k_X8_copy_b51 C hr hlk hA a x_stale x_finding sheet0_lost sheet0_form sheet0_size sheet0_items sheet1_lost sheet1_form sheet1_size sheet1_items sheet2_lost sheet2_form sheet2_size sheet2_items sheet3_lost sheet3_form sheet3_size sheet3_items r hf H locs ls hP hD hS (lv_sub hl [2] rfl)
          · have hf := (if_pos hc).symm.trans hf
            refine lv_aload (pc := 43) hx hb dX8_copy_43 (lv_at hl 0 rfl) ?_
            refine g_get (pc := 45) C fg_X8_136 hP 2 rfl rfl dX8_copy_45 ?_
            refine lv_if_eq (pc := 48) (tgt := 57) hx hb dX8_copy_48 (by decide) (fun hc => ?_) (fun hc => ?_)
            · have hf := (if_pos hc).symm.trans hf
              refine lv_aload (pc := 57) hx hb dX8_copy_57 (lv_at hl 1 rfl) ?_
              refine g_get (pc := 59) C fg_X8_322 hP 4 rfl rfl dX8_copy_59 ?_
              refine lv_aload (pc := 62) hx hb dX8_copy_62 (lv_at hl 0 rfl) ?_
              refine g_get (pc := 64) C fg_X8_322 hP 2 rfl rfl dX8_copy_64 ?_
              refine lv_icmp_eq (pc := 67) (tgt := 76) hx hb dX8_copy_67 (by decide) (fun hc => ?_) (fun hc => ?_)
              · have hf := (if_pos hc).symm.trans hf
                refine lv_aload (pc := 76) hx hb dX8_copy_76 (lv_at hl 1 rfl) ?_
                refine lv_iload_n (pc := 78) hx hb dX8_copy_78 rfl (lv_at hl 4 rfl) ?_
                refine lv_iload (pc := 79) hx hb dX8_copy_79 (lv_at hl 7 rfl) ?_
                obtain ⟨r23, hq, hf⟩ := bind1_some hf
                refine fin2_i (wl_X8_copy cA a x_stale x_finding sheet0_lost sheet0_form sheet0_size sheet0_items sheet1_lost sheet1_form sheet1_size sheet1_items sheet2_lost sheet2_form sheet2_size sheet2_items sheet3_lost sheet3_form sheet3_size sheet3_items) (run_V (rest := []) (pc := 81) (As := [.int x2, .int x5]) C mf_X8_325 (c_X5_hasItems l D cA (a 48) (a 49) sheet1_lost sheet1_form sheet1_size x2 x5 r23 hq H.size) rfl rfl ⟨(Nat.le_of_ble_eq_true rfl), (Nat.le_of_ble_eq_true rfl)⟩ (preV_of C hP hD [4] rfl (pl_nd pv_86) 0 rfl rfl rfl) rfl hl.1 rfl (Nat.le_of_ble_eq_true rfl) dX8_copy_81 ⟨Nat.zero_le _, Nat.zero_le _⟩) hP hD hS hA [4] [0, 1, 2, 3, 5, 6, 7, 8, 9] rfl rfl rfl rfl pv_86 (fun H locs hP hS => ?_)
                refine lv_if_eq (pc := 84) (tgt := 99) hx hb dX8_copy_84 (by decide) (fun hc => ?_) (fun hc => ?_)
                · have hf := (if_pos hc).symm.trans hf
                  exact k_X8_copy_b99 C hr hlk hA a x_stale x_finding sheet0_lost sheet0_form sheet0_size sheet0_items sheet1_lost sheet1_form sheet1_size sheet1_items sheet2_lost sheet2_form sheet2_size sheet2_items sheet3_lost sheet3_form sheet3_size sheet3_items r hf H locs ls hP hD hS (lv_sub hl [2] rfl)
                · have hf := (if_neg hc).symm.trans hf
                  refine lv_aload (pc := 87) hx hb dX8_copy_87 (lv_at hl 0 rfl) ?_
                  refine lv_iload (pc := 89) hx hb dX8_copy_89 (lv_at hl 6 rfl) ?_
                  refine lv_iload (pc := 91) hx hb dX8_copy_91 (lv_at hl 7 rfl) ?_
                  obtain ⟨r24, hq, hf⟩ := bind1_some hf
                  refine fin2_i (wl_X8_copy cA a x_stale x_finding sheet0_lost sheet0_form sheet0_size sheet0_items sheet1_lost sheet1_form sheet1_size sheet1_items sheet2_lost sheet2_form sheet2_size sheet2_items sheet3_lost sheet3_form sheet3_size sheet3_items) (run_V (rest := []) (pc := 93) (As := [.int x4, .int x5]) C mf_X8_325 (c_X5_hasItems l D cA (a 46) (a 47) sheet0_lost sheet0_form sheet0_size x4 x5 r24 hq H.size) rfl rfl ⟨(Nat.le_of_ble_eq_true rfl), (Nat.le_of_ble_eq_true rfl)⟩ (preV_of C hP hD [2] rfl (pl_nd pv_85) 0 rfl rfl rfl) rfl hl.1 rfl (Nat.le_of_ble_eq_true rfl) dX8_copy_93 ⟨Nat.zero_le _, Nat.zero_le _⟩) hP hD hS hA [2] [0, 1, 3, 4, 5, 6, 7, 8, 9] rfl rfl rfl rfl pv_85 (fun H locs hP hS => ?_)
                  refine lv_if_ne (pc := 96) (tgt := 105) hx hb dX8_copy_96 (by decide) (fun hc => ?_) (fun hc => ?_)
                  · have hf := (if_neg hc).symm.trans hf
                    refine lv_aload (pc := 105) hx hb dX8_copy_105 (lv_at hl 1 rfl) ?_
                    refine g_get (pc := 107) C fg_X8_146 hP 4 rfl rfl dX8_copy_107 ?_
                    refine lv_iload_n (pc := 110) hx hb dX8_copy_110 rfl (lv_at hl 4 rfl) ?_
                    refine lv_aload (pc := 111) hx hb dX8_copy_111 (lv_at hl 0 rfl) ?_
                    refine g_get (pc := 113) C fg_X8_146 hP 2 rfl rfl dX8_copy_113 ?_
                    refine lv_iload (pc := 116) hx hb dX8_copy_116 (lv_at hl 6 rfl) ?_
                    refine lv_iload (pc := 118) hx hb dX8_copy_118 (lv_at hl 7 rfl) ?_
                    obtain ⟨hg, hf⟩ := gd_some hf
                    refine g_acopy (pc := 120) (rest := []) C acl_X8_328 hl.1 hP hD hS 5 3 rfl rfl hg ⟨(Nat.le_of_ble_eq_true rfl), by decide⟩ dX8_copy_120 (fun H locs hP hD hS => ?_)
                    have hP : va_P D classes (wl_X8_copy cA a x_stale x_finding sheet0_lost sheet0_form sheet0_size (va_cpy sheet1_items sheet0_items x2.toNatClampNeg x4.toNatClampNeg x5.toNatClampNeg) sheet1_lost sheet1_form sheet1_size sheet1_items sheet2_lost sheet2_form sheet2_size sheet2_items sheet3_lost sheet3_form sheet3_size sheet3_items) H := hP
                    have hD : va_D (va_A ws0 sz) (wl_X8_copy cA a x_stale x_finding sheet0_lost sheet0_form sheet0_size (va_cpy sheet1_items sheet0_items x2.toNatClampNeg x4.toNatClampNeg x5.toNatClampNeg) sheet1_lost sheet1_form sheet1_size sheet1_items sheet2_lost sheet2_form sheet2_size sheet2_items sheet3_lost sheet3_form sheet3_size sheet3_items) := hD
                    refine lv_iconst (pc := 123) (v := 1) hx hb dX8_copy_123 ic_1 ?_
                    have hf := Option.some.inj hf
                    subst hf
                    exact ret_i C hr hlk hP hS dX8_copy_124
                  · have hf := (if_pos hc).symm.trans hf
                    exact k_X8_copy_b99 C hr hlk hA a x_stale x_finding sheet0_lost sheet0_form sheet0_size sheet0_items sheet1_lost sheet1_form sheet1_size sheet1_items sheet2_lost sheet2_form sheet2_size sheet2_items sheet3_lost sheet3_form sheet3_size sheet3_items r hf H locs ls hP hD hS (lv_sub hl [2] rfl)
              · have hf := (if_neg hc).symm.trans hf
                refine lv_aload_n (pc := 70) hx hb dX8_copy_70 rfl (lv_at hl 2 rfl) ?_
                refine lv_iconst (pc := 71) (v := 4) hx hb dX8_copy_71 ic_4 ?_
                obtain ⟨r25, c26, hq, hf⟩ := bind2_some hf
                refine fin2_i (wl_X8_copy cA a x_stale c26 sheet0_lost sheet0_form sheet0_size sheet0_items sheet1_lost sheet1_form sheet1_size sheet1_items sheet2_lost sheet2_form sheet2_size sheet2_items sheet3_lost sheet3_form sheet3_size sheet3_items) (run_V (rest := []) (pc := 72) (As := [.int (4 : Int32)]) C mf_X8_139 (c_X8_found l D cA a x_stale x_finding (4 : Int32) (r25, c26) hq H.size) rfl rfl ⟨(Nat.le_of_ble_eq_true rfl), (Nat.le_of_ble_eq_true rfl)⟩ (preV_of C hP hD [0] rfl (pl_nd pv_84) 0 rfl rfl rfl) rfl hl.1 rfl (Nat.le_of_ble_eq_true rfl) dX8_copy_72 ⟨Nat.zero_le _, Nat.zero_le _⟩) hP hD hS hA [0] [1, 2, 3, 4, 5, 6, 7, 8, 9] rfl rfl rfl rfl pv_84 (fun H locs hP hS => ?_)
                have hD : va_D (va_A ws0 sz) (wl_X8_copy cA a x_stale c26 sheet0_lost sheet0_form sheet0_size sheet0_items sheet1_lost sheet1_form sheet1_size sheet1_items sheet2_lost sheet2_form sheet2_size sheet2_items sheet3_lost sheet3_form sheet3_size sheet3_items) := vd_a hD rfl
                have hf := Option.some.inj hf
                subst hf
                exact ret_i C hr hlk hP hS dX8_copy_75
            · have hf := (if_neg hc).symm.trans hf
              exact k_X8_copy_b51 C hr hlk hA a x_stale x_finding sheet0_lost sheet0_form sheet0_size sheet0_items sheet1_lost sheet1_form sheet1_size sheet1_items sheet2_lost sheet2_form sheet2_size sheet2_items sheet3_lost sheet3_form sheet3_size sheet3_items r hf H locs ls hP hD hS (lv_sub hl [2] rfl)
        have hf := (if_neg h_0).symm.trans hf
        by_cases h_1 : x3 = (1 : Int32)
        · have hf := (if_pos h_1).symm.trans hf
          refine g_aald (pc := 32) (b := (a 48)) C hP 1 rfl (t0 := 3) rfl (by rw [h_1]; decide) (by rw [h_1, tn_1]; rfl) dX8_copy_32 ?_
          refine lv_astore (pc := 33) (lv' := [(7, .ref (a 48)), (6, .ref (a 48)), (0, .ref (a 0)), (1, .int x1), (2, .int x2), (3, .int x3), (4, .int x4), (5, .int x5)]) hx hb dX8_copy_33 hl (Nat.le_of_ble_eq_true rfl) rfl (fun ls hl => ?_)
          refine lv_aload (pc := 35) hx hb dX8_copy_35 (lv_at hl 1 rfl) ?_
          refine g_get (pc := 37) C fg_X8_136 hP 4 rfl rfl dX8_copy_37 ?_
          refine lv_if_ne (pc := 40) (tgt := 51) hx hb dX8_copy_40 (by decide) (fun hc => ?_) (fun hc => ?_)
          · have hf := (if_neg hc).symm.trans hf
            exact k_X8_copy_b51 C hr hlk hA a x_stale x_finding sheet0_lost sheet0_form sheet0_size sheet0_items sheet1_lost sheet1_form sheet1_size sheet1_items sheet2_lost sheet2_form sheet2_size sheet2_items sheet3_lost sheet3_form sheet3_size sheet3_items r hf H locs ls hP hD hS (lv_sub hl [2] rfl)
          · have hf := (if_pos hc).symm.trans hf
            refine lv_aload (pc := 43) hx hb dX8_copy_43 (lv_at hl 0 rfl) ?_
            refine g_get (pc := 45) C fg_X8_136 hP 4 rfl rfl dX8_copy_45 ?_
            refine lv_if_eq (pc := 48) (tgt := 57) hx hb dX8_copy_48 (by decide) (fun hc => ?_) (fun hc => ?_)
            · have hf := (if_pos hc).symm.trans hf
              refine lv_aload (pc := 57) hx hb dX8_copy_57 (lv_at hl 1 rfl) ?_
              refine g_get (pc := 59) C fg_X8_322 hP 4 rfl rfl dX8_copy_59 ?_
              refine lv_aload (pc := 62) hx hb dX8_copy_62 (lv_at hl 0 rfl) ?_
              refine g_get (pc := 64) C fg_X8_322 hP 4 rfl rfl dX8_copy_64 ?_
              refine lv_icmp_eq (pc := 67) (tgt := 76) hx hb dX8_copy_67 (by decide) (fun hc => ?_) (fun hc => ?_)
              · have hf := (if_pos hc).symm.trans hf
                refine lv_aload (pc := 76) hx hb dX8_copy_76 (lv_at hl 1 rfl) ?_
                refine lv_iload_n (pc := 78) hx hb dX8_copy_78 rfl (lv_at hl 4 rfl) ?_
                refine lv_iload (pc := 79) hx hb dX8_copy_79 (lv_at hl 7 rfl) ?_
                obtain ⟨r27, hq, hf⟩ := bind1_some hf
                refine fin2_i (wl_X8_copy cA a x_stale x_finding sheet0_lost sheet0_form sheet0_size sheet0_items sheet1_lost sheet1_form sheet1_size sheet1_items sheet2_lost sheet2_form sheet2_size sheet2_items sheet3_lost sheet3_form sheet3_size sheet3_items) (run_V (rest := []) (pc := 81) (As := [.int x2, .int x5]) C mf_X8_325 (c_X5_hasItems l D cA (a 48) (a 49) sheet1_lost sheet1_form sheet1_size x2 x5 r27 hq H.size) rfl rfl ⟨(Nat.le_of_ble_eq_true rfl), (Nat.le_of_ble_eq_true rfl)⟩ (preV_of C hP hD [4] rfl (pl_nd pv_86) 0 rfl rfl rfl) rfl hl.1 rfl (Nat.le_of_ble_eq_true rfl) dX8_copy_81 ⟨Nat.zero_le _, Nat.zero_le _⟩) hP hD hS hA [4] [0, 1, 2, 3, 5, 6, 7, 8, 9] rfl rfl rfl rfl pv_86 (fun H locs hP hS => ?_)
                refine lv_if_eq (pc := 84) (tgt := 99) hx hb dX8_copy_84 (by decide) (fun hc => ?_) (fun hc => ?_)
                · have hf := (if_pos hc).symm.trans hf
                  exact k_X8_copy_b99 C hr hlk hA a x_stale x_finding sheet0_lost sheet0_form sheet0_size sheet0_items sheet1_lost sheet1_form sheet1_size sheet1_items sheet2_lost sheet2_form sheet2_size sheet2_items sheet3_lost sheet3_form sheet3_size sheet3_items r hf H locs ls hP hD hS (lv_sub hl [2] rfl)
                · have hf := (if_neg hc).symm.trans hf
                  refine lv_aload (pc := 87) hx hb dX8_copy_87 (lv_at hl 0 rfl) ?_
                  refine lv_iload (pc := 89) hx hb dX8_copy_89 (lv_at hl 6 rfl) ?_
                  refine lv_iload (pc := 91) hx hb dX8_copy_91 (lv_at hl 7 rfl) ?_
                  obtain ⟨r28, hq, hf⟩ := bind1_some hf
                  refine fin2_i (wl_X8_copy cA a x_stale x_finding sheet0_lost sheet0_form sheet0_size sheet0_items sheet1_lost sheet1_form sheet1_size sheet1_items sheet2_lost sheet2_form sheet2_size sheet2_items sheet3_lost sheet3_form sheet3_size sheet3_items) (run_V (rest := []) (pc := 93) (As := [.int x4, .int x5]) C mf_X8_325 (c_X5_hasItems l D cA (a 48) (a 49) sheet1_lost sheet1_form sheet1_size x4 x5 r28 hq H.size) rfl rfl ⟨(Nat.le_of_ble_eq_true rfl), (Nat.le_of_ble_eq_true rfl)⟩ (preV_of C hP hD [4] rfl (pl_nd pv_86) 0 rfl rfl rfl) rfl hl.1 rfl (Nat.le_of_ble_eq_true rfl) dX8_copy_93 ⟨Nat.zero_le _, Nat.zero_le _⟩) hP hD hS hA [4] [0, 1, 2, 3, 5, 6, 7, 8, 9] rfl rfl rfl rfl pv_86 (fun H locs hP hS => ?_)
                  refine lv_if_ne (pc := 96) (tgt := 105) hx hb dX8_copy_96 (by decide) (fun hc => ?_) (fun hc => ?_)
                  · have hf := (if_neg hc).symm.trans hf
                    refine lv_aload (pc := 105) hx hb dX8_copy_105 (lv_at hl 1 rfl) ?_
                    refine g_get (pc := 107) C fg_X8_146 hP 4 rfl rfl dX8_copy_107 ?_
                    refine lv_iload_n (pc := 110) hx hb dX8_copy_110 rfl (lv_at hl 4 rfl) ?_
                    refine lv_aload (pc := 111) hx hb dX8_copy_111 (lv_at hl 0 rfl) ?_
                    refine g_get (pc := 113) C fg_X8_146 hP 4 rfl rfl dX8_copy_113 ?_
                    refine lv_iload (pc := 116) hx hb dX8_copy_116 (lv_at hl 6 rfl) ?_
                    refine lv_iload (pc := 118) hx hb dX8_copy_118 (lv_at hl 7 rfl) ?_
                    obtain ⟨hg, hf⟩ := gd_some hf
                    refine g_acopy (pc := 120) (rest := []) C acl_X8_328 hl.1 hP hD hS 5 5 rfl rfl hg ⟨(Nat.le_of_ble_eq_true rfl), by decide⟩ dX8_copy_120 (fun H locs hP hD hS => ?_)
                    have hP : va_P D classes (wl_X8_copy cA a x_stale x_finding sheet0_lost sheet0_form sheet0_size sheet0_items sheet1_lost sheet1_form sheet1_size (va_cpy sheet1_items sheet1_items x2.toNatClampNeg x4.toNatClampNeg x5.toNatClampNeg) sheet2_lost sheet2_form sheet2_size sheet2_items sheet3_lost sheet3_form sheet3_size sheet3_items) H := hP
                    have hD : va_D (va_A ws0 sz) (wl_X8_copy cA a x_stale x_finding sheet0_lost sheet0_form sheet0_size sheet0_items sheet1_lost sheet1_form sheet1_size (va_cpy sheet1_items sheet1_items x2.toNatClampNeg x4.toNatClampNeg x5.toNatClampNeg) sheet2_lost sheet2_form sheet2_size sheet2_items sheet3_lost sheet3_form sheet3_size sheet3_items) := hD
                    refine lv_iconst (pc := 123) (v := 1) hx hb dX8_copy_123 ic_1 ?_
                    have hf := Option.some.inj hf
                    subst hf
                    exact ret_i C hr hlk hP hS dX8_copy_124
                  · have hf := (if_pos hc).symm.trans hf
                    exact k_X8_copy_b99 C hr hlk hA a x_stale x_finding sheet0_lost sheet0_form sheet0_size sheet0_items sheet1_lost sheet1_form sheet1_size sheet1_items sheet2_lost sheet2_form sheet2_size sheet2_items sheet3_lost sheet3_form sheet3_size sheet3_items r hf H locs ls hP hD hS (lv_sub hl [2] rfl)
              · have hf := (if_neg hc).symm.trans hf
                refine lv_aload_n (pc := 70) hx hb dX8_copy_70 rfl (lv_at hl 2 rfl) ?_
                refine lv_iconst (pc := 71) (v := 4) hx hb dX8_copy_71 ic_4 ?_
                obtain ⟨r29, c30, hq, hf⟩ := bind2_some hf
                refine fin2_i (wl_X8_copy cA a x_stale c30 sheet0_lost sheet0_form sheet0_size sheet0_items sheet1_lost sheet1_form sheet1_size sheet1_items sheet2_lost sheet2_form sheet2_size sheet2_items sheet3_lost sheet3_form sheet3_size sheet3_items) (run_V (rest := []) (pc := 72) (As := [.int (4 : Int32)]) C mf_X8_139 (c_X8_found l D cA a x_stale x_finding (4 : Int32) (r29, c30) hq H.size) rfl rfl ⟨(Nat.le_of_ble_eq_true rfl), (Nat.le_of_ble_eq_true rfl)⟩ (preV_of C hP hD [0] rfl (pl_nd pv_84) 0 rfl rfl rfl) rfl hl.1 rfl (Nat.le_of_ble_eq_true rfl) dX8_copy_72 ⟨Nat.zero_le _, Nat.zero_le _⟩) hP hD hS hA [0] [1, 2, 3, 4, 5, 6, 7, 8, 9] rfl rfl rfl rfl pv_84 (fun H locs hP hS => ?_)
                have hD : va_D (va_A ws0 sz) (wl_X8_copy cA a x_stale c30 sheet0_lost sheet0_form sheet0_size sheet0_items sheet1_lost sheet1_form sheet1_size sheet1_items sheet2_lost sheet2_form sheet2_size sheet2_items sheet3_lost sheet3_form sheet3_size sheet3_items) := vd_a hD rfl
                have hf := Option.some.inj hf
                subst hf
                exact ret_i C hr hlk hP hS dX8_copy_75
            · have hf := (if_neg hc).symm.trans hf
              exact k_X8_copy_b51 C hr hlk hA a x_stale x_finding sheet0_lost sheet0_form sheet0_size sheet0_items sheet1_lost sheet1_form sheet1_size sheet1_items sheet2_lost sheet2_form sheet2_size sheet2_items sheet3_lost sheet3_form sheet3_size sheet3_items r hf H locs ls hP hD hS (lv_sub hl [2] rfl)
        have hf := (if_neg h_1).symm.trans hf
        by_cases h_2 : x3 = (2 : Int32)
        · have hf := (if_pos h_2).symm.trans hf
          refine g_aald (pc := 32) (b := (a 50)) C hP 1 rfl (t0 := 3) rfl (by rw [h_2]; decide) (by rw [h_2, tn_2]; rfl) dX8_copy_32 ?_
          refine lv_astore (pc := 33) (lv' := [(7, .ref (a 50)), (6, .ref (a 48)), (0, .ref (a 0)), (1, .int x1), (2, .int x2), (3, .int x3), (4, .int x4), (5, .int x5)]) hx hb dX8_copy_33 hl (Nat.le_of_ble_eq_true rfl) rfl (fun ls hl => ?_)
          refine lv_aload (pc := 35) hx hb dX8_copy_35 (lv_at hl 1 rfl) ?_
          refine g_get (pc := 37) C fg_X8_136 hP 4 rfl rfl dX8_copy_37 ?_
          refine lv_if_ne (pc := 40) (tgt := 51) hx hb dX8_copy_40 (by decide) (fun hc => ?_) (fun hc => ?_)
          · have hf := (if_neg hc).symm.trans hf
            exact k_X8_copy_b51 C hr hlk hA a x_stale x_finding sheet0_lost sheet0_form sheet0_size sheet0_items sheet1_lost sheet1_form sheet1_size sheet1_items sheet2_lost sheet2_form sheet2_size sheet2_items sheet3_lost sheet3_form sheet3_size sheet3_items r hf H locs ls hP hD hS (lv_sub hl [2] rfl)
          · have hf := (if_pos hc).symm.trans hf
            refine lv_aload (pc := 43) hx hb dX8_copy_43 (lv_at hl 0 rfl) ?_
            refine g_get (pc := 45) C fg_X8_136 hP 6 rfl rfl dX8_copy_45 ?_
            refine lv_if_eq (pc := 48) (tgt := 57) hx hb dX8_copy_48 (by decide) (fun hc => ?_) (fun hc => ?_)
            · have hf := (if_pos hc).symm.trans hf
              refine lv_aload (pc := 57) hx hb dX8_copy_57 (lv_at hl 1 rfl) ?_
              refine g_get (pc := 59) C fg_X8_322 hP 4 rfl rfl dX8_copy_59 ?_
              refine lv_aload (pc := 62) hx hb dX8_copy_62 (lv_at hl 0 rfl) ?_
              refine g_get (pc := 64) C fg_X8_322 hP 6 rfl rfl dX8_copy_64 ?_
              refine lv_icmp_eq (pc := 67) (tgt := 76) hx hb dX8_copy_67 (by decide) (fun hc => ?_) (fun hc => ?_)
              · have hf := (if_pos hc).symm.trans hf
                refine lv_aload (pc := 76) hx hb dX8_copy_76 (lv_at hl 1 rfl) ?_
                refine lv_iload_n (pc := 78) hx hb dX8_copy_78 rfl (lv_at hl 4 rfl) ?_
                refine lv_iload (pc := 79) hx hb dX8_copy_79 (lv_at hl 7 rfl) ?_
                obtain ⟨r31, hq, hf⟩ := bind1_some hf
                refine fin2_i (wl_X8_copy cA a x_stale x_finding sheet0_lost sheet0_form sheet0_size sheet0_items sheet1_lost sheet1_form sheet1_size sheet1_items sheet2_lost sheet2_form sheet2_size sheet2_items sheet3_lost sheet3_form sheet3_size sheet3_items) (run_V (rest := []) (pc := 81) (As := [.int x2, .int x5]) C mf_X8_325 (c_X5_hasItems l D cA (a 48) (a 49) sheet1_lost sheet1_form sheet1_size x2 x5 r31 hq H.size) rfl rfl ⟨(Nat.le_of_ble_eq_true rfl), (Nat.le_of_ble_eq_true rfl)⟩ (preV_of C hP hD [4] rfl (pl_nd pv_86) 0 rfl rfl rfl) rfl hl.1 rfl (Nat.le_of_ble_eq_true rfl) dX8_copy_81 ⟨Nat.zero_le _, Nat.zero_le _⟩) hP hD hS hA [4] [0, 1, 2, 3, 5, 6, 7, 8, 9] rfl rfl rfl rfl pv_86 (fun H locs hP hS => ?_)
                refine lv_if_eq (pc := 84) (tgt := 99) hx hb dX8_copy_84 (by decide) (fun hc => ?_) (fun hc => ?_)
                · have hf := (if_pos hc).symm.trans hf
                  exact k_X8_copy_b99 C hr hlk hA a x_stale x_finding sheet0_lost sheet0_form sheet0_size sheet0_items sheet1_lost sheet1_form sheet1_size sheet1_items sheet2_lost sheet2_form sheet2_size sheet2_items sheet3_lost sheet3_form sheet3_size sheet3_items r hf H locs ls hP hD hS (lv_sub hl [2] rfl)
                · have hf := (if_neg hc).symm.trans hf
                  refine lv_aload (pc := 87) hx hb dX8_copy_87 (lv_at hl 0 rfl) ?_
                  refine lv_iload (pc := 89) hx hb dX8_copy_89 (lv_at hl 6 rfl) ?_
                  refine lv_iload (pc := 91) hx hb dX8_copy_91 (lv_at hl 7 rfl) ?_
                  obtain ⟨r32, hq, hf⟩ := bind1_some hf
                  refine fin2_i (wl_X8_copy cA a x_stale x_finding sheet0_lost sheet0_form sheet0_size sheet0_items sheet1_lost sheet1_form sheet1_size sheet1_items sheet2_lost sheet2_form sheet2_size sheet2_items sheet3_lost sheet3_form sheet3_size sheet3_items) (run_V (rest := []) (pc := 93) (As := [.int x4, .int x5]) C mf_X8_325 (c_X5_hasItems l D cA (a 50) (a 51) sheet2_lost sheet2_form sheet2_size x4 x5 r32 hq H.size) rfl rfl ⟨(Nat.le_of_ble_eq_true rfl), (Nat.le_of_ble_eq_true rfl)⟩ (preV_of C hP hD [6] rfl (pl_nd pv_87) 0 rfl rfl rfl) rfl hl.1 rfl (Nat.le_of_ble_eq_true rfl) dX8_copy_93 ⟨Nat.zero_le _, Nat.zero_le _⟩) hP hD hS hA [6] [0, 1, 2, 3, 4, 5, 7, 8, 9] rfl rfl rfl rfl pv_87 (fun H locs hP hS => ?_)
                  refine lv_if_ne (pc := 96) (tgt := 105) hx hb dX8_copy_96 (by decide) (fun hc => ?_) (fun hc => ?_)
                  · have hf := (if_neg hc).symm.trans hf
                    refine lv_aload (pc := 105) hx hb dX8_copy_105 (lv_at hl 1 rfl) ?_
                    refine g_get (pc := 107) C fg_X8_146 hP 4 rfl rfl dX8_copy_107 ?_
                    refine lv_iload_n (pc := 110) hx hb dX8_copy_110 rfl (lv_at hl 4 rfl) ?_
                    refine lv_aload (pc := 111) hx hb dX8_copy_111 (lv_at hl 0 rfl) ?_
                    refine g_get (pc := 113) C fg_X8_146 hP 6 rfl rfl dX8_copy_113 ?_
                    refine lv_iload (pc := 116) hx hb dX8_copy_116 (lv_at hl 6 rfl) ?_
                    refine lv_iload (pc := 118) hx hb dX8_copy_118 (lv_at hl 7 rfl) ?_
                    obtain ⟨hg, hf⟩ := gd_some hf
                    refine g_acopy (pc := 120) (rest := []) C acl_X8_328 hl.1 hP hD hS 5 7 rfl rfl hg ⟨(Nat.le_of_ble_eq_true rfl), by decide⟩ dX8_copy_120 (fun H locs hP hD hS => ?_)
                    have hP : va_P D classes (wl_X8_copy cA a x_stale x_finding sheet0_lost sheet0_form sheet0_size sheet0_items sheet1_lost sheet1_form sheet1_size sheet1_items sheet2_lost sheet2_form sheet2_size (va_cpy sheet1_items sheet2_items x2.toNatClampNeg x4.toNatClampNeg x5.toNatClampNeg) sheet3_lost sheet3_form sheet3_size sheet3_items) H := hP
                    have hD : va_D (va_A ws0 sz) (wl_X8_copy cA a x_stale x_finding sheet0_lost sheet0_form sheet0_size sheet0_items sheet1_lost sheet1_form sheet1_size sheet1_items sheet2_lost sheet2_form sheet2_size (va_cpy sheet1_items sheet2_items x2.toNatClampNeg x4.toNatClampNeg x5.toNatClampNeg) sheet3_lost sheet3_form sheet3_size sheet3_items) := hD
                    refine lv_iconst (pc := 123) (v := 1) hx hb dX8_copy_123 ic_1 ?_
                    have hf := Option.some.inj hf
                    subst hf
                    exact ret_i C hr hlk hP hS dX8_copy_124
                  · have hf := (if_pos hc).symm.trans hf
                    exact k_X8_copy_b99 C hr hlk hA a x_stale x_finding sheet0_lost sheet0_form sheet0_size sheet0_items sheet1_lost sheet1_form sheet1_size sheet1_items sheet2_lost sheet2_form sheet2_size sheet2_items sheet3_lost sheet3_form sheet3_size sheet3_items r hf H locs ls hP hD hS (lv_sub hl [2] rfl)
              · have hf := (if_neg hc).symm.trans hf
                refine lv_aload_n (pc := 70) hx hb dX8_copy_70 rfl (lv_at hl 2 rfl) ?_
                refine lv_iconst (pc := 71) (v := 4) hx hb dX8_copy_71 ic_4 ?_
                obtain ⟨r33, c34, hq, hf⟩ := bind2_some hf
                refine fin2_i (wl_X8_copy cA a x_stale c34 sheet0_lost sheet0_form sheet0_size sheet0_items sheet1_lost sheet1_form sheet1_size sheet1_items sheet2_lost sheet2_form sheet2_size sheet2_items sheet3_lost sheet3_form sheet3_size sheet3_items) (run_V (rest := []) (pc := 72) (As := [.int (4 : Int32)]) C mf_X8_139 (c_X8_found l D cA a x_stale x_finding (4 : Int32) (r33, c34) hq H.size) rfl rfl ⟨(Nat.le_of_ble_eq_true rfl), (Nat.le_of_ble_eq_true rfl)⟩ (preV_of C hP hD [0] rfl (pl_nd pv_84) 0 rfl rfl rfl) rfl hl.1 rfl (Nat.le_of_ble_eq_true rfl) dX8_copy_72 ⟨Nat.zero_le _, Nat.zero_le _⟩) hP hD hS hA [0] [1, 2, 3, 4, 5, 6, 7, 8, 9] rfl rfl rfl rfl pv_84 (fun H locs hP hS => ?_)
                have hD : va_D (va_A ws0 sz) (wl_X8_copy cA a x_stale c34 sheet0_lost sheet0_form sheet0_size sheet0_items sheet1_lost sheet1_form sheet1_size sheet1_items sheet2_lost sheet2_form sheet2_size sheet2_items sheet3_lost sheet3_form sheet3_size sheet3_items) := vd_a hD rfl
                have hf := Option.some.inj hf
                subst hf
                exact ret_i C hr hlk hP hS dX8_copy_75
            · have hf := (if_neg hc).symm.trans hf
              exact k_X8_copy_b51 C hr hlk hA a x_stale x_finding sheet0_lost sheet0_form sheet0_size sheet0_items sheet1_lost sheet1_form sheet1_size sheet1_items sheet2_lost sheet2_form sheet2_size sheet2_items sheet3_lost sheet3_form sheet3_size sheet3_items r hf H locs ls hP hD hS (lv_sub hl [2] rfl)
        have hf := (if_neg h_2).symm.trans hf
        by_cases h_3 : x3 = (3 : Int32)
        · have hf := (if_pos h_3).symm.trans hf
          refine g_aald (pc := 32) (b := (a 52)) C hP 1 rfl (t0 := 3) rfl (by rw [h_3]; decide) (by rw [h_3, tn_3]; rfl) dX8_copy_32 ?_
          refine lv_astore (pc := 33) (lv' := [(7, .ref (a 52)), (6, .ref (a 48)), (0, .ref (a 0)), (1, .int x1), (2, .int x2), (3, .int x3), (4, .int x4), (5, .int x5)]) hx hb dX8_copy_33 hl (Nat.le_of_ble_eq_true rfl) rfl (fun ls hl => ?_)
          refine lv_aload (pc := 35) hx hb dX8_copy_35 (lv_at hl 1 rfl) ?_
          refine g_get (pc := 37) C fg_X8_136 hP 4 rfl rfl dX8_copy_37 ?_
          refine lv_if_ne (pc := 40) (tgt := 51) hx hb dX8_copy_40 (by decide) (fun hc => ?_) (fun hc => ?_)
          · have hf := (if_neg hc).symm.trans hf
            exact k_X8_copy_b51 C hr hlk hA a x_stale x_finding sheet0_lost sheet0_form sheet0_size sheet0_items sheet1_lost sheet1_form sheet1_size sheet1_items sheet2_lost sheet2_form sheet2_size sheet2_items sheet3_lost sheet3_form sheet3_size sheet3_items r hf H locs ls hP hD hS (lv_sub hl [2] rfl)
          · have hf := (if_pos hc).symm.trans hf
            refine lv_aload (pc := 43) hx hb dX8_copy_43 (lv_at hl 0 rfl) ?_
            refine g_get (pc := 45) C fg_X8_136 hP 8 rfl rfl dX8_copy_45 ?_
            refine lv_if_eq (pc := 48) (tgt := 57) hx hb dX8_copy_48 (by decide) (fun hc => ?_) (fun hc => ?_)
            · have hf := (if_pos hc).symm.trans hf
              refine lv_aload (pc := 57) hx hb dX8_copy_57 (lv_at hl 1 rfl) ?_
              refine g_get (pc := 59) C fg_X8_322 hP 4 rfl rfl dX8_copy_59 ?_
              refine lv_aload (pc := 62) hx hb dX8_copy_62 (lv_at hl 0 rfl) ?_
              refine g_get (pc := 64) C fg_X8_322 hP 8 rfl rfl dX8_copy_64 ?_
              refine lv_icmp_eq (pc := 67) (tgt := 76) hx hb dX8_copy_67 (by decide) (fun hc => ?_) (fun hc => ?_)
              · have hf := (if_pos hc).symm.trans hf
                refine lv_aload (pc := 76) hx hb dX8_copy_76 (lv_at hl 1 rfl) ?_
                refine lv_iload_n (pc := 78) hx hb dX8_copy_78 rfl (lv_at hl 4 rfl) ?_
                refine lv_iload (pc := 79) hx hb dX8_copy_79 (lv_at hl 7 rfl) ?_
                obtain ⟨r35, hq, hf⟩ := bind1_some hf
                refine fin2_i (wl_X8_copy cA a x_stale x_finding sheet0_lost sheet0_form sheet0_size sheet0_items sheet1_lost sheet1_form sheet1_size sheet1_items sheet2_lost sheet2_form sheet2_size sheet2_items sheet3_lost sheet3_form sheet3_size sheet3_items) (run_V (rest := []) (pc := 81) (As := [.int x2, .int x5]) C mf_X8_325 (c_X5_hasItems l D cA (a 48) (a 49) sheet1_lost sheet1_form sheet1_size x2 x5 r35 hq H.size) rfl rfl ⟨(Nat.le_of_ble_eq_true rfl), (Nat.le_of_ble_eq_true rfl)⟩ (preV_of C hP hD [4] rfl (pl_nd pv_86) 0 rfl rfl rfl) rfl hl.1 rfl (Nat.le_of_ble_eq_true rfl) dX8_copy_81 ⟨Nat.zero_le _, Nat.zero_le _⟩) hP hD hS hA [4] [0, 1, 2, 3, 5, 6, 7, 8, 9] rfl rfl rfl rfl pv_86 (fun H locs hP hS => ?_)
                refine lv_if_eq (pc := 84) (tgt := 99) hx hb dX8_copy_84 (by decide) (fun hc => ?_) (fun hc => ?_)
                · have hf := (if_pos hc).symm.trans hf
                  exact k_X8_copy_b99 C hr hlk hA a x_stale x_finding sheet0_lost sheet0_form sheet0_size sheet0_items sheet1_lost sheet1_form sheet1_size sheet1_items sheet2_lost sheet2_form sheet2_size sheet2_items sheet3_lost sheet3_form sheet3_size sheet3_items r hf H locs ls hP hD hS (lv_sub hl [2] rfl)
                · have hf := (if_neg hc).symm.trans hf
                  refine lv_aload (pc := 87) hx hb dX8_copy_87 (lv_at hl 0 rfl) ?_
                  refine lv_iload (pc := 89) hx hb dX8_copy_89 (lv_at hl 6 rfl) ?_
                  refine lv_iload (pc := 91) hx hb dX8_copy_91 (lv_at hl 7 rfl) ?_
                  obtain ⟨r36, hq, hf⟩ := bind1_some hf
                  refine fin2_i (wl_X8_copy cA a x_stale x_finding sheet0_lost sheet0_form sheet0_size sheet0_items sheet1_lost sheet1_form sheet1_size sheet1_items sheet2_lost sheet2_form sheet2_size sheet2_items sheet3_lost sheet3_form sheet3_size sheet3_items) (run_V (rest := []) (pc := 93) (As := [.int x4, .int x5]) C mf_X8_325 (c_X5_hasItems l D cA (a 52) (a 53) sheet3_lost sheet3_form sheet3_size x4 x5 r36 hq H.size) rfl rfl ⟨(Nat.le_of_ble_eq_true rfl), (Nat.le_of_ble_eq_true rfl)⟩ (preV_of C hP hD [8] rfl (pl_nd pv_88) 0 rfl rfl rfl) rfl hl.1 rfl (Nat.le_of_ble_eq_true rfl) dX8_copy_93 ⟨Nat.zero_le _, Nat.zero_le _⟩) hP hD hS hA [8] [0, 1, 2, 3, 4, 5, 6, 7, 9] rfl rfl rfl rfl pv_88 (fun H locs hP hS => ?_)
                  refine lv_if_ne (pc := 96) (tgt := 105) hx hb dX8_copy_96 (by decide) (fun hc => ?_) (fun hc => ?_)
                  · have hf := (if_neg hc).symm.trans hf
                    refine lv_aload (pc := 105) hx hb dX8_copy_105 (lv_at hl 1 rfl) ?_
                    refine g_get (pc := 107) C fg_X8_146 hP 4 rfl rfl dX8_copy_107 ?_
                    refine lv_iload_n (pc := 110) hx hb dX8_copy_110 rfl (lv_at hl 4 rfl) ?_
                    refine lv_aload (pc := 111) hx hb dX8_copy_111 (lv_at hl 0 rfl) ?_
                    refine g_get (pc := 113) C fg_X8_146 hP 8 rfl rfl dX8_copy_113 ?_
                    refine lv_iload (pc := 116) hx hb dX8_copy_116 (lv_at hl 6 rfl) ?_
                    refine lv_iload (pc := 118) hx hb dX8_copy_118 (lv_at hl 7 rfl) ?_
                    obtain ⟨hg, hf⟩ := gd_some hf
                    refine g_acopy (pc := 120) (rest := []) C acl_X8_328 hl.1 hP hD hS 5 9 rfl rfl hg ⟨(Nat.le_of_ble_eq_true rfl), by decide⟩ dX8_copy_120 (fun H locs hP hD hS => ?_)
                    have hP : va_P D classes (wl_X8_copy cA a x_stale x_finding sheet0_lost sheet0_form sheet0_size sheet0_items sheet1_lost sheet1_form sheet1_size sheet1_items sheet2_lost sheet2_form sheet2_size sheet2_items sheet3_lost sheet3_form sheet3_size (va_cpy sheet1_items sheet3_items x2.toNatClampNeg x4.toNatClampNeg x5.toNatClampNeg)) H := hP
                    have hD : va_D (va_A ws0 sz) (wl_X8_copy cA a x_stale x_finding sheet0_lost sheet0_form sheet0_size sheet0_items sheet1_lost sheet1_form sheet1_size sheet1_items sheet2_lost sheet2_form sheet2_size sheet2_items sheet3_lost sheet3_form sheet3_size (va_cpy sheet1_items sheet3_items x2.toNatClampNeg x4.toNatClampNeg x5.toNatClampNeg)) := hD
                    refine lv_iconst (pc := 123) (v := 1) hx hb dX8_copy_123 ic_1 ?_
                    have hf := Option.some.inj hf
                    subst hf
                    exact ret_i C hr hlk hP hS dX8_copy_124
                  · have hf := (if_pos hc).symm.trans hf
                    exact k_X8_copy_b99 C hr hlk hA a x_stale x_finding sheet0_lost sheet0_form sheet0_size sheet0_items sheet1_lost sheet1_form sheet1_size sheet1_items sheet2_lost sheet2_form sheet2_size sheet2_items sheet3_lost sheet3_form sheet3_size sheet3_items r hf H locs ls hP hD hS (lv_sub hl [2] rfl)
              · have hf := (if_neg hc).symm.trans hf
                refine lv_aload_n (pc := 70) hx hb dX8_copy_70 rfl (lv_at hl 2 rfl) ?_
                refine lv_iconst (pc := 71) (v := 4) hx hb dX8_copy_71 ic_4 ?_
                obtain ⟨r37, c38, hq, hf⟩ := bind2_some hf
                refine fin2_i (wl_X8_copy cA a x_stale c38 sheet0_lost sheet0_form sheet0_size sheet0_items sheet1_lost sheet1_form sheet1_size sheet1_items sheet2_lost sheet2_form sheet2_size sheet2_items sheet3_lost sheet3_form sheet3_size sheet3_items) (run_V (rest := []) (pc := 72) (As := [.int (4 : Int32)]) C mf_X8_139 (c_X8_found l D cA a x_stale x_finding (4 : Int32) (r37, c38) hq H.size) rfl rfl ⟨(Nat.le_of_ble_eq_true rfl), (Nat.le_of_ble_eq_true rfl)⟩ (preV_of C hP hD [0] rfl (pl_nd pv_84) 0 rfl rfl rfl) rfl hl.1 rfl (Nat.le_of_ble_eq_true rfl) dX8_copy_72 ⟨Nat.zero_le _, Nat.zero_le _⟩) hP hD hS hA [0] [1, 2, 3, 4, 5, 6, 7, 8, 9] rfl rfl rfl rfl pv_84 (fun H locs hP hS => ?_)
                have hD : va_D (va_A ws0 sz) (wl_X8_copy cA a x_stale c38 sheet0_lost sheet0_form sheet0_size sheet0_items sheet1_lost sheet1_form sheet1_size sheet1_items sheet2_lost sheet2_form sheet2_size sheet2_items sheet3_lost sheet3_form sheet3_size sheet3_items) := vd_a hD rfl
                have hf := Option.some.inj hf
                subst hf
                exact ret_i C hr hlk hP hS dX8_copy_75
            · have hf := (if_neg hc).symm.trans hf
              exact k_X8_copy_b51 C hr hlk hA a x_stale x_finding sheet0_lost sheet0_form sheet0_size sheet0_items sheet1_lost sheet1_form sheet1_size sheet1_items sheet2_lost sheet2_form sheet2_size sheet2_items sheet3_lost sheet3_form sheet3_size sheet3_items r hf H locs ls hP hD hS (lv_sub hl [2] rfl)
        have hf := (if_neg h_3).symm.trans hf
        cases hf
      have hf := (if_neg h_1).symm.trans hf
      by_cases h_2 : x1 = (2 : Int32)
      · have hf := (if_pos h_2).symm.trans hf
        refine g_aald (pc := 24) (b := (a 50)) C hP 1 rfl (t0 := 3) rfl (by rw [h_2]; decide) (by rw [h_2, tn_2]; rfl) dX8_copy_24 ?_
        refine lv_astore (pc := 25) (lv' := [(6, .ref (a 50)), (0, .ref (a 0)), (1, .int x1), (2, .int x2), (3, .int x3), (4, .int x4), (5, .int x5)]) hx hb dX8_copy_25 hl (Nat.le_of_ble_eq_true rfl) rfl (fun ls hl => ?_)
        refine lv_aload_n (pc := 27) hx hb dX8_copy_27 rfl (lv_at hl 1 rfl) ?_
        refine g_get (pc := 28) C fg_X8_77 hP 0 rfl rfl dX8_copy_28 ?_
        refine lv_iload_n (pc := 31) hx hb dX8_copy_31 rfl (lv_at hl 4 rfl) ?_
        by_cases h_0 : x3 = (0 : Int32)
        · have hf := (if_pos h_0).symm.trans hf
          refine g_aald (pc := 32) (b := (a 46)) C hP 1 rfl (t0 := 3) rfl (by rw [h_0]; decide) (by rw [h_0, tn_0]; rfl) dX8_copy_32 ?_
          refine lv_astore (pc := 33) (lv' := [(7, .ref (a 46)), (6, .ref (a 50)), (0, .ref (a 0)), (1, .int x1), (2, .int x2), (3, .int x3), (4, .int x4), (5, .int x5)]) hx hb dX8_copy_33 hl (Nat.le_of_ble_eq_true rfl) rfl (fun ls hl => ?_)
          refine lv_aload (pc := 35) hx hb dX8_copy_35 (lv_at hl 1 rfl) ?_
          refine g_get (pc := 37) C fg_X8_136 hP 6 rfl rfl dX8_copy_37 ?_
          refine lv_if_ne (pc := 40) (tgt := 51) hx hb dX8_copy_40 (by decide) (fun hc => ?_) (fun hc => ?_)
          · have hf := (if_neg hc).symm.trans hf
            exact k_X8_copy_b51 C hr hlk hA a x_stale x_finding sheet0_lost sheet0_form sheet0_size sheet0_items sheet1_lost sheet1_form sheet1_size sheet1_items sheet2_lost sheet2_form sheet2_size sheet2_items sheet3_lost sheet3_form sheet3_size sheet3_items r hf H locs ls hP hD hS (lv_sub hl [2] rfl)
          · have hf := (if_pos hc).symm.trans hf
            refine lv_aload (pc := 43) hx hb dX8_copy_43 (lv_at hl 0 rfl) ?_
            refine g_get (pc := 45) C fg_X8_136 hP 2 rfl rfl dX8_copy_45 ?_
            refine lv_if_eq (pc := 48) (tgt := 57) hx hb dX8_copy_48 (by decide) (fun hc => ?_) (fun hc => ?_)
            · have hf := (if_pos hc).symm.trans hf
              refine lv_aload (pc := 57) hx hb dX8_copy_57 (lv_at hl 1 rfl) ?_
              refine g_get (pc := 59) C fg_X8_322 hP 6 rfl rfl dX8_copy_59 ?_
              refine lv_aload (pc := 62) hx hb dX8_copy_62 (lv_at hl 0 rfl) ?_
              refine g_get (pc := 64) C fg_X8_322 hP 2 rfl rfl dX8_copy_64 ?_
              refine lv_icmp_eq (pc := 67) (tgt := 76) hx hb dX8_copy_67 (by decide) (fun hc => ?_) (fun hc => ?_)
              · have hf := (if_pos hc).symm.trans hf
                refine lv_aload (pc := 76) hx hb dX8_copy_76 (lv_at hl 1 rfl) ?_
                refine lv_iload_n (pc := 78) hx hb dX8_copy_78 rfl (lv_at hl 4 rfl) ?_
                refine lv_iload (pc := 79) hx hb dX8_copy_79 (lv_at hl 7 rfl) ?_
                obtain ⟨r39, hq, hf⟩ := bind1_some hf
                refine fin2_i (wl_X8_copy cA a x_stale x_finding sheet0_lost sheet0_form sheet0_size sheet0_items sheet1_lost sheet1_form sheet1_size sheet1_items sheet2_lost sheet2_form sheet2_size sheet2_items sheet3_lost sheet3_form sheet3_size sheet3_items) (run_V (rest := []) (pc := 81) (As := [.int x2, .int x5]) C mf_X8_325 (c_X5_hasItems l D cA (a 50) (a 51) sheet2_lost sheet2_form sheet2_size x2 x5 r39 hq H.size) rfl rfl ⟨(Nat.le_of_ble_eq_true rfl), (Nat.le_of_ble_eq_true rfl)⟩ (preV_of C hP hD [6] rfl (pl_nd pv_87) 0 rfl rfl rfl) rfl hl.1 rfl (Nat.le_of_ble_eq_true rfl) dX8_copy_81 ⟨Nat.zero_le _, Nat.zero_le _⟩) hP hD hS hA [6] [0, 1, 2, 3, 4, 5, 7, 8, 9] rfl rfl rfl rfl pv_87 (fun H locs hP hS => ?_)
                refine lv_if_eq (pc := 84) (tgt := 99) hx hb dX8_copy_84 (by decide) (fun hc => ?_) (fun hc => ?_)
                · have hf := (if_pos hc).symm.trans hf
                  exact k_X8_copy_b99 C hr hlk hA a x_stale x_finding sheet0_lost sheet0_form sheet0_size sheet0_items sheet1_lost sheet1_form sheet1_size sheet1_items sheet2_lost sheet2_form sheet2_size sheet2_items sheet3_lost sheet3_form sheet3_size sheet3_items r hf H locs ls hP hD hS (lv_sub hl [2] rfl)
                · have hf := (if_neg hc).symm.trans hf
                  refine lv_aload (pc := 87) hx hb dX8_copy_87 (lv_at hl 0 rfl) ?_
                  refine lv_iload (pc := 89) hx hb dX8_copy_89 (lv_at hl 6 rfl) ?_
                  refine lv_iload (pc := 91) hx hb dX8_copy_91 (lv_at hl 7 rfl) ?_
                  obtain ⟨r40, hq, hf⟩ := bind1_some hf
                  refine fin2_i (wl_X8_copy cA a x_stale x_finding sheet0_lost sheet0_form sheet0_size sheet0_items sheet1_lost sheet1_form sheet1_size sheet1_items sheet2_lost sheet2_form sheet2_size sheet2_items sheet3_lost sheet3_form sheet3_size sheet3_items) (run_V (rest := []) (pc := 93) (As := [.int x4, .int x5]) C mf_X8_325 (c_X5_hasItems l D cA (a 46) (a 47) sheet0_lost sheet0_form sheet0_size x4 x5 r40 hq H.size) rfl rfl ⟨(Nat.le_of_ble_eq_true rfl), (Nat.le_of_ble_eq_true rfl)⟩ (preV_of C hP hD [2] rfl (pl_nd pv_85) 0 rfl rfl rfl) rfl hl.1 rfl (Nat.le_of_ble_eq_true rfl) dX8_copy_93 ⟨Nat.zero_le _, Nat.zero_le _⟩) hP hD hS hA [2] [0, 1, 3, 4, 5, 6, 7, 8, 9] rfl rfl rfl rfl pv_85 (fun H locs hP hS => ?_)
                  refine lv_if_ne (pc := 96) (tgt := 105) hx hb dX8_copy_96 (by decide) (fun hc => ?_) (fun hc => ?_)
                  · have hf := (if_neg hc).symm.trans hf
                    refine lv_aload (pc := 105) hx hb dX8_copy_105 (lv_at hl 1 rfl) ?_
                    refine g_get (pc := 107) C fg_X8_146 hP 6 rfl rfl dX8_copy_107 ?_
                    refine lv_iload_n (pc := 110) hx hb dX8_copy_110 rfl (lv_at hl 4 rfl) ?_
                    refine lv_aload (pc := 111) hx hb dX8_copy_111 (lv_at hl 0 rfl) ?_
                    refine g_get (pc := 113) C fg_X8_146 hP 2 rfl rfl dX8_copy_113 ?_
                    refine lv_iload (pc := 116) hx hb dX8_copy_116 (lv_at hl 6 rfl) ?_
                    refine lv_iload (pc := 118) hx hb dX8_copy_118 (lv_at hl 7 rfl) ?_
                    obtain ⟨hg, hf⟩ := gd_some hf
                    refine g_acopy (pc := 120) (rest := []) C acl_X8_328 hl.1 hP hD hS 7 3 rfl rfl hg ⟨(Nat.le_of_ble_eq_true rfl), by decide⟩ dX8_copy_120 (fun H locs hP hD hS => ?_)
                    have hP : va_P D classes (wl_X8_copy cA a x_stale x_finding sheet0_lost sheet0_form sheet0_size (va_cpy sheet2_items sheet0_items x2.toNatClampNeg x4.toNatClampNeg x5.toNatClampNeg) sheet1_lost sheet1_form sheet1_size sheet1_items sheet2_lost sheet2_form sheet2_size sheet2_items sheet3_lost sheet3_form sheet3_size sheet3_items) H := hP
                    have hD : va_D (va_A ws0 sz) (wl_X8_copy cA a x_stale x_finding sheet0_lost sheet0_form sheet0_size (va_cpy sheet2_items sheet0_items x2.toNatClampNeg x4.toNatClampNeg x5.toNatClampNeg) sheet1_lost sheet1_form sheet1_size sheet1_items sheet2_lost sheet2_form sheet2_size sheet2_items sheet3_lost sheet3_form sheet3_size sheet3_items) := hD
                    refine lv_iconst (pc := 123) (v := 1) hx hb dX8_copy_123 ic_1 ?_
                    have hf := Option.some.inj hf
                    subst hf
                    exact ret_i C hr hlk hP hS dX8_copy_124
                  · have hf := (if_pos hc).symm.trans hf
                    exact k_X8_copy_b99 C hr hlk hA a x_stale x_finding sheet0_lost sheet0_form sheet0_size sheet0_items sheet1_lost sheet1_form sheet1_size sheet1_items sheet2_lost sheet2_form sheet2_size sheet2_items sheet3_lost sheet3_form sheet3_size sheet3_items r hf H locs ls hP hD hS (lv_sub hl [2] rfl)
              · have hf := (if_neg hc).symm.trans hf
                refine lv_aload_n (pc := 70) hx hb dX8_copy_70 rfl (lv_at hl 2 rfl) ?_
                refine lv_iconst (pc := 71) (v := 4) hx hb dX8_copy_71 ic_4 ?_
                obtain ⟨r41, c42, hq, hf⟩ := bind2_some hf
                refine fin2_i (wl_X8_copy cA a x_stale c42 sheet0_lost sheet0_form sheet0_size sheet0_items sheet1_lost sheet1_form sheet1_size sheet1_items sheet2_lost sheet2_form sheet2_size sheet2_items sheet3_lost sheet3_form sheet3_size sheet3_items) (run_V (rest := []) (pc := 72) (As := [.int (4 : Int32)]) C mf_X8_139 (c_X8_found l D cA a x_stale x_finding (4 : Int32) (r41, c42) hq H.size) rfl rfl ⟨(Nat.le_of_ble_eq_true rfl), (Nat.le_of_ble_eq_true rfl)⟩ (preV_of C hP hD [0] rfl (pl_nd pv_84) 0 rfl rfl rfl) rfl hl.1 rfl (Nat.le_of_ble_eq_true rfl) dX8_copy_72 ⟨Nat.zero_le _, Nat.zero_le _⟩) hP hD hS hA [0] [1, 2, 3, 4, 5, 6, 7, 8, 9] rfl rfl rfl rfl pv_84 (fun H locs hP hS => ?_)
                have hD : va_D (va_A ws0 sz) (wl_X8_copy cA a x_stale c42 sheet0_lost sheet0_form sheet0_size sheet0_items sheet1_lost sheet1_form sheet1_size sheet1_items sheet2_lost sheet2_form sheet2_size sheet2_items sheet3_lost sheet3_form sheet3_size sheet3_items) := vd_a hD rfl
                have hf := Option.some.inj hf
                subst hf
                exact ret_i C hr hlk hP hS dX8_copy_75
            · have hf := (if_neg hc).symm.trans hf
              exact k_X8_copy_b51 C hr hlk hA a x_stale x_finding sheet0_lost sheet0_form sheet0_size sheet0_items sheet1_lost sheet1_form sheet1_size sheet1_items sheet2_lost sheet2_form sheet2_size sheet2_items sheet3_lost sheet3_form sheet3_size sheet3_items r hf H locs ls hP hD hS (lv_sub hl [2] rfl)
        have hf := (if_neg h_0).symm.trans hf
        by_cases h_1 : x3 = (1 : Int32)
        · have hf := (if_pos h_1).symm.trans hf
          refine g_aald (pc := 32) (b := (a 48)) C hP 1 rfl (t0 := 3) rfl (by rw [h_1]; decide) (by rw [h_1, tn_1]; rfl) dX8_copy_32 ?_
          refine lv_astore (pc := 33) (lv' := [(7, .ref (a 48)), (6, .ref (a 50)), (0, .ref (a 0)), (1, .int x1), (2, .int x2), (3, .int x3), (4, .int x4), (5, .int x5)]) hx hb dX8_copy_33 hl (Nat.le_of_ble_eq_true rfl) rfl (fun ls hl => ?_)
          refine lv_aload (pc := 35) hx hb dX8_copy_35 (lv_at hl 1 rfl) ?_
          refine g_get (pc := 37) C fg_X8_136 hP 6 rfl rfl dX8_copy_37 ?_
          refine lv_if_ne (pc := 40) (tgt := 51) hx hb dX8_copy_40 (by decide) (fun hc => ?_) (fun hc => ?_)
          · have hf := (if_neg hc).symm.trans hf
            exact k_X8_copy_b51 C hr hlk hA a x_stale x_finding sheet0_lost sheet0_form sheet0_size sheet0_items sheet1_lost sheet1_form sheet1_size sheet1_items sheet2_lost sheet2_form sheet2_size sheet2_items sheet3_lost sheet3_form sheet3_size sheet3_items r hf H locs ls hP hD hS (lv_sub hl [2] rfl)
          · have hf := (if_pos hc).symm.trans hf
            refine lv_aload (pc := 43) hx hb dX8_copy_43 (lv_at hl 0 rfl) ?_
            refine g_get (pc := 45) C fg_X8_136 hP 4 rfl rfl dX8_copy_45 ?_
            refine lv_if_eq (pc := 48) (tgt := 57) hx hb dX8_copy_48 (by decide) (fun hc => ?_) (fun hc => ?_)
            · have hf := (if_pos hc).symm.trans hf
              refine lv_aload (pc := 57) hx hb dX8_copy_57 (lv_at hl 1 rfl) ?_
              refine g_get (pc := 59) C fg_X8_322 hP 6 rfl rfl dX8_copy_59 ?_
              refine lv_aload (pc := 62) hx hb dX8_copy_62 (lv_at hl 0 rfl) ?_
              refine g_get (pc := 64) C fg_X8_322 hP 4 rfl rfl dX8_copy_64 ?_
              refine lv_icmp_eq (pc := 67) (tgt := 76) hx hb dX8_copy_67 (by decide) (fun hc => ?_) (fun hc => ?_)
              · have hf := (if_pos hc).symm.trans hf
                refine lv_aload (pc := 76) hx hb dX8_copy_76 (lv_at hl 1 rfl) ?_
                refine lv_iload_n (pc := 78) hx hb dX8_copy_78 rfl (lv_at hl 4 rfl) ?_
                refine lv_iload (pc := 79) hx hb dX8_copy_79 (lv_at hl 7 rfl) ?_
                obtain ⟨r43, hq, hf⟩ := bind1_some hf
                refine fin2_i (wl_X8_copy cA a x_stale x_finding sheet0_lost sheet0_form sheet0_size sheet0_items sheet1_lost sheet1_form sheet1_size sheet1_items sheet2_lost sheet2_form sheet2_size sheet2_items sheet3_lost sheet3_form sheet3_size sheet3_items) (run_V (rest := []) (pc := 81) (As := [.int x2, .int x5]) C mf_X8_325 (c_X5_hasItems l D cA (a 50) (a 51) sheet2_lost sheet2_form sheet2_size x2 x5 r43 hq H.size) rfl rfl ⟨(Nat.le_of_ble_eq_true rfl), (Nat.le_of_ble_eq_true rfl)⟩ (preV_of C hP hD [6] rfl (pl_nd pv_87) 0 rfl rfl rfl) rfl hl.1 rfl (Nat.le_of_ble_eq_true rfl) dX8_copy_81 ⟨Nat.zero_le _, Nat.zero_le _⟩) hP hD hS hA [6] [0, 1, 2, 3, 4, 5, 7, 8, 9] rfl rfl rfl rfl pv_87 (fun H locs hP hS => ?_)
                refine lv_if_eq (pc := 84) (tgt := 99) hx hb dX8_copy_84 (by decide) (fun hc => ?_) (fun hc => ?_)
                · have hf := (if_pos hc).symm.trans hf
                  exact k_X8_copy_b99 C hr hlk hA a x_stale x_finding sheet0_lost sheet0_form sheet0_size sheet0_items sheet1_lost sheet1_form sheet1_size sheet1_items sheet2_lost sheet2_form sheet2_size sheet2_items sheet3_lost sheet3_form sheet3_size sheet3_items r hf H locs ls hP hD hS (lv_sub hl [2] rfl)
                · have hf := (if_neg hc).symm.trans hf
                  refine lv_aload (pc := 87) hx hb dX8_copy_87 (lv_at hl 0 rfl) ?_
                  refine lv_iload (pc := 89) hx hb dX8_copy_89 (lv_at hl 6 rfl) ?_
                  refine lv_iload (pc := 91) hx hb dX8_copy_91 (lv_at hl 7 rfl) ?_
                  obtain ⟨r44, hq, hf⟩ := bind1_some hf
                  refine fin2_i (wl_X8_copy cA a x_stale x_finding sheet0_lost sheet0_form sheet0_size sheet0_items sheet1_lost sheet1_form sheet1_size sheet1_items sheet2_lost sheet2_form sheet2_size sheet2_items sheet3_lost sheet3_form sheet3_size sheet3_items) (run_V (rest := []) (pc := 93) (As := [.int x4, .int x5]) C mf_X8_325 (c_X5_hasItems l D cA (a 48) (a 49) sheet1_lost sheet1_form sheet1_size x4 x5 r44 hq H.size) rfl rfl ⟨(Nat.le_of_ble_eq_true rfl), (Nat.le_of_ble_eq_true rfl)⟩ (preV_of C hP hD [4] rfl (pl_nd pv_86) 0 rfl rfl rfl) rfl hl.1 rfl (Nat.le_of_ble_eq_true rfl) dX8_copy_93 ⟨Nat.zero_le _, Nat.zero_le _⟩) hP hD hS hA [4] [0, 1, 2, 3, 5, 6, 7, 8, 9] rfl rfl rfl rfl pv_86 (fun H locs hP hS => ?_)
                  refine lv_if_ne (pc := 96) (tgt := 105) hx hb dX8_copy_96 (by decide) (fun hc => ?_) (fun hc => ?_)
                  · have hf := (if_neg hc).symm.trans hf
                    refine lv_aload (pc := 105) hx hb dX8_copy_105 (lv_at hl 1 rfl) ?_
                    refine g_get (pc := 107) C fg_X8_146 hP 6 rfl rfl dX8_copy_107 ?_
                    refine lv_iload_n (pc := 110) hx hb dX8_copy_110 rfl (lv_at hl 4 rfl) ?_
                    refine lv_aload (pc := 111) hx hb dX8_copy_111 (lv_at hl 0 rfl) ?_
                    refine g_get (pc := 113) C fg_X8_146 hP 4 rfl rfl dX8_copy_113 ?_
                    refine lv_iload (pc := 116) hx hb dX8_copy_116 (lv_at hl 6 rfl) ?_
                    refine lv_iload (pc := 118) hx hb dX8_copy_118 (lv_at hl 7 rfl) ?_
                    obtain ⟨hg, hf⟩ := gd_some hf
                    refine g_acopy (pc := 120) (rest := []) C acl_X8_328 hl.1 hP hD hS 7 5 rfl rfl hg ⟨(Nat.le_of_ble_eq_true rfl), by decide⟩ dX8_copy_120 (fun H locs hP hD hS => ?_)
                    have hP : va_P D classes (wl_X8_copy cA a x_stale x_finding sheet0_lost sheet0_form sheet0_size sheet0_items sheet1_lost sheet1_form sheet1_size (va_cpy sheet2_items sheet1_items x2.toNatClampNeg x4.toNatClampNeg x5.toNatClampNeg) sheet2_lost sheet2_form sheet2_size sheet2_items sheet3_lost sheet3_form sheet3_size sheet3_items) H := hP
                    have hD : va_D (va_A ws0 sz) (wl_X8_copy cA a x_stale x_finding sheet0_lost sheet0_form sheet0_size sheet0_items sheet1_lost sheet1_form sheet1_size (va_cpy sheet2_items sheet1_items x2.toNatClampNeg x4.toNatClampNeg x5.toNatClampNeg) sheet2_lost sheet2_form sheet2_size sheet2_items sheet3_lost sheet3_form sheet3_size sheet3_items) := hD
                    refine lv_iconst (pc := 123) (v := 1) hx hb dX8_copy_123 ic_1 ?_
                    have hf := Option.some.inj hf
                    subst hf
                    exact ret_i C hr hlk hP hS dX8_copy_124
                  · have hf := (if_pos hc).symm.trans hf
                    exact k_X8_copy_b99 C hr hlk hA a x_stale x_finding sheet0_lost sheet0_form sheet0_size sheet0_items sheet1_lost sheet1_form sheet1_size sheet1_items sheet2_lost sheet2_form sheet2_size sheet2_items sheet3_lost sheet3_form sheet3_size sheet3_items r hf H locs ls hP hD hS (lv_sub hl [2] rfl)
              · have hf := (if_neg hc).symm.trans hf
                refine lv_aload_n (pc := 70) hx hb dX8_copy_70 rfl (lv_at hl 2 rfl) ?_
                refine lv_iconst (pc := 71) (v := 4) hx hb dX8_copy_71 ic_4 ?_
                obtain ⟨r45, c46, hq, hf⟩ := bind2_some hf
                refine fin2_i (wl_X8_copy cA a x_stale c46 sheet0_lost sheet0_form sheet0_size sheet0_items sheet1_lost sheet1_form sheet1_size sheet1_items sheet2_lost sheet2_form sheet2_size sheet2_items sheet3_lost sheet3_form sheet3_size sheet3_items) (run_V (rest := []) (pc := 72) (As := [.int (4 : Int32)]) C mf_X8_139 (c_X8_found l D cA a x_stale x_finding (4 : Int32) (r45, c46) hq H.size) rfl rfl ⟨(Nat.le_of_ble_eq_true rfl), (Nat.le_of_ble_eq_true rfl)⟩ (preV_of C hP hD [0] rfl (pl_nd pv_84) 0 rfl rfl rfl) rfl hl.1 rfl (Nat.le_of_ble_eq_true rfl) dX8_copy_72 ⟨Nat.zero_le _, Nat.zero_le _⟩) hP hD hS hA [0] [1, 2, 3, 4, 5, 6, 7, 8, 9] rfl rfl rfl rfl pv_84 (fun H locs hP hS => ?_)
                have hD : va_D (va_A ws0 sz) (wl_X8_copy cA a x_stale c46 sheet0_lost sheet0_form sheet0_size sheet0_items sheet1_lost sheet1_form sheet1_size sheet1_items sheet2_lost sheet2_form sheet2_size sheet2_items sheet3_lost sheet3_form sheet3_size sheet3_items) := vd_a hD rfl
                have hf := Option.some.inj hf
                subst hf
                exact ret_i C hr hlk hP hS dX8_copy_75
            · have hf := (if_neg hc).symm.trans hf
              exact k_X8_copy_b51 C hr hlk hA a x_stale x_finding sheet0_lost sheet0_form sheet0_size sheet0_items sheet1_lost sheet1_form sheet1_size sheet1_items sheet2_lost sheet2_form sheet2_size sheet2_items sheet3_lost sheet3_form sheet3_size sheet3_items r hf H locs ls hP hD hS (lv_sub hl [2] rfl)
        have hf := (if_neg h_1).symm.trans hf
        by_cases h_2 : x3 = (2 : Int32)
        · have hf := (if_pos h_2).symm.trans hf
          refine g_aald (pc := 32) (b := (a 50)) C hP 1 rfl (t0 := 3) rfl (by rw [h_2]; decide) (by rw [h_2, tn_2]; rfl) dX8_copy_32 ?_
          refine lv_astore (pc := 33) (lv' := [(7, .ref (a 50)), (6, .ref (a 50)), (0, .ref (a 0)), (1, .int x1), (2, .int x2), (3, .int x3), (4, .int x4), (5, .int x5)]) hx hb dX8_copy_33 hl (Nat.le_of_ble_eq_true rfl) rfl (fun ls hl => ?_)
          refine lv_aload (pc := 35) hx hb dX8_copy_35 (lv_at hl 1 rfl) ?_
          refine g_get (pc := 37) C fg_X8_136 hP 6 rfl rfl dX8_copy_37 ?_
          refine lv_if_ne (pc := 40) (tgt := 51) hx hb dX8_copy_40 (by decide) (fun hc => ?_) (fun hc => ?_)
          · have hf := (if_neg hc).symm.trans hf
            exact k_X8_copy_b51 C hr hlk hA a x_stale x_finding sheet0_lost sheet0_form sheet0_size sheet0_items sheet1_lost sheet1_form sheet1_size sheet1_items sheet2_lost sheet2_form sheet2_size sheet2_items sheet3_lost sheet3_form sheet3_size sheet3_items r hf H locs ls hP hD hS (lv_sub hl [2] rfl)
          · have hf := (if_pos hc).symm.trans hf
            refine lv_aload (pc := 43) hx hb dX8_copy_43 (lv_at hl 0 rfl) ?_
            refine g_get (pc := 45) C fg_X8_136 hP 6 rfl rfl dX8_copy_45 ?_
            refine lv_if_eq (pc := 48) (tgt := 57) hx hb dX8_copy_48 (by decide) (fun hc => ?_) (fun hc => ?_)
            · have hf := (if_pos hc).symm.trans hf
              refine lv_aload (pc := 57) hx hb dX8_copy_57 (lv_at hl 1 rfl) ?_
              refine g_get (pc := 59) C fg_X8_322 hP 6 rfl rfl dX8_copy_59 ?_
              refine lv_aload (pc := 62) hx hb dX8_copy_62 (lv_at hl 0 rfl) ?_
              refine g_get (pc := 64) C fg_X8_322 hP 6 rfl rfl dX8_copy_64 ?_
              refine lv_icmp_eq (pc := 67) (tgt := 76) hx hb dX8_copy_67 (by decide) (fun hc => ?_) (fun hc => ?_)
              · have hf := (if_pos hc).symm.trans hf
                refine lv_aload (pc := 76) hx hb dX8_copy_76 (lv_at hl 1 rfl) ?_
                refine lv_iload_n (pc := 78) hx hb dX8_copy_78 rfl (lv_at hl 4 rfl) ?_
                refine lv_iload (pc := 79) hx hb dX8_copy_79 (lv_at hl 7 rfl) ?_
                obtain ⟨r47, hq, hf⟩ := bind1_some hf
                refine fin2_i (wl_X8_copy cA a x_stale x_finding sheet0_lost sheet0_form sheet0_size sheet0_items sheet1_lost sheet1_form sheet1_size sheet1_items sheet2_lost sheet2_form sheet2_size sheet2_items sheet3_lost sheet3_form sheet3_size sheet3_items) (run_V (rest := []) (pc := 81) (As := [.int x2, .int x5]) C mf_X8_325 (c_X5_hasItems l D cA (a 50) (a 51) sheet2_lost sheet2_form sheet2_size x2 x5 r47 hq H.size) rfl rfl ⟨(Nat.le_of_ble_eq_true rfl), (Nat.le_of_ble_eq_true rfl)⟩ (preV_of C hP hD [6] rfl (pl_nd pv_87) 0 rfl rfl rfl) rfl hl.1 rfl (Nat.le_of_ble_eq_true rfl) dX8_copy_81 ⟨Nat.zero_le _, Nat.zero_le _⟩) hP hD hS hA [6] [0, 1, 2, 3, 4, 5, 7, 8, 9] rfl rfl rfl rfl pv_87 (fun H locs hP hS => ?_)
                refine lv_if_eq (pc := 84) (tgt := 99) hx hb dX8_copy_84 (by decide) (fun hc => ?_) (fun hc => ?_)
                · have hf := (if_pos hc).symm.trans hf
                  exact k_X8_copy_b99 C hr hlk hA a x_stale x_finding sheet0_lost sheet0_form sheet0_size sheet0_items sheet1_lost sheet1_form sheet1_size sheet1_items sheet2_lost sheet2_form sheet2_size sheet2_items sheet3_lost sheet3_form sheet3_size sheet3_items r hf H locs ls hP hD hS (lv_sub hl [2] rfl)
                · have hf := (if_neg hc).symm.trans hf
                  refine lv_aload (pc := 87) hx hb dX8_copy_87 (lv_at hl 0 rfl) ?_
                  refine lv_iload (pc := 89) hx hb dX8_copy_89 (lv_at hl 6 rfl) ?_
                  refine lv_iload (pc := 91) hx hb dX8_copy_91 (lv_at hl 7 rfl) ?_
                  obtain ⟨r48, hq, hf⟩ := bind1_some hf
                  refine fin2_i (wl_X8_copy cA a x_stale x_finding sheet0_lost sheet0_form sheet0_size sheet0_items sheet1_lost sheet1_form sheet1_size sheet1_items sheet2_lost sheet2_form sheet2_size sheet2_items sheet3_lost sheet3_form sheet3_size sheet3_items) (run_V (rest := []) (pc := 93) (As := [.int x4, .int x5]) C mf_X8_325 (c_X5_hasItems l D cA (a 50) (a 51) sheet2_lost sheet2_form sheet2_size x4 x5 r48 hq H.size) rfl rfl ⟨(Nat.le_of_ble_eq_true rfl), (Nat.le_of_ble_eq_true rfl)⟩ (preV_of C hP hD [6] rfl (pl_nd pv_87) 0 rfl rfl rfl) rfl hl.1 rfl (Nat.le_of_ble_eq_true rfl) dX8_copy_93 ⟨Nat.zero_le _, Nat.zero_le _⟩) hP hD hS hA [6] [0, 1, 2, 3, 4, 5, 7, 8, 9] rfl rfl rfl rfl pv_87 (fun H locs hP hS => ?_)
                  refine lv_if_ne (pc := 96) (tgt := 105) hx hb dX8_copy_96 (by decide) (fun hc => ?_) (fun hc => ?_)
                  · have hf := (if_neg hc).symm.trans hf
                    refine lv_aload (pc := 105) hx hb dX8_copy_105 (lv_at hl 1 rfl) ?_
                    refine g_get (pc := 107) C fg_X8_146 hP 6 rfl rfl dX8_copy_107 ?_
                    refine lv_iload_n (pc := 110) hx hb dX8_copy_110 rfl (lv_at hl 4 rfl) ?_
                    refine lv_aload (pc := 111) hx hb dX8_copy_111 (lv_at hl 0 rfl) ?_
                    refine g_get (pc := 113) C fg_X8_146 hP 6 rfl rfl dX8_copy_113 ?_
                    refine lv_iload (pc := 116) hx hb dX8_copy_116 (lv_at hl 6 rfl) ?_
                    refine lv_iload (pc := 118) hx hb dX8_copy_118 (lv_at hl 7 rfl) ?_
                    obtain ⟨hg, hf⟩ := gd_some hf
                    refine g_acopy (pc := 120) (rest := []) C acl_X8_328 hl.1 hP hD hS 7 7 rfl rfl hg ⟨(Nat.le_of_ble_eq_true rfl), by decide⟩ dX8_copy_120 (fun H locs hP hD hS => ?_)
                    have hP : va_P D classes (wl_X8_copy cA a x_stale x_finding sheet0_lost sheet0_form sheet0_size sheet0_items sheet1_lost sheet1_form sheet1_size sheet1_items sheet2_lost sheet2_form sheet2_size (va_cpy sheet2_items sheet2_items x2.toNatClampNeg x4.toNatClampNeg x5.toNatClampNeg) sheet3_lost sheet3_form sheet3_size sheet3_items) H := hP
                    have hD : va_D (va_A ws0 sz) (wl_X8_copy cA a x_stale x_finding sheet0_lost sheet0_form sheet0_size sheet0_items sheet1_lost sheet1_form sheet1_size sheet1_items sheet2_lost sheet2_form sheet2_size (va_cpy sheet2_items sheet2_items x2.toNatClampNeg x4.toNatClampNeg x5.toNatClampNeg) sheet3_lost sheet3_form sheet3_size sheet3_items) := hD
                    refine lv_iconst (pc := 123) (v := 1) hx hb dX8_copy_123 ic_1 ?_
                    have hf := Option.some.inj hf
                    subst hf
                    exact ret_i C hr hlk hP hS dX8_copy_124
                  · have hf := (if_pos hc).symm.trans hf
                    exact k_X8_copy_b99 C hr hlk hA a x_stale x_finding sheet0_lost sheet0_form sheet0_size sheet0_items sheet1_lost sheet1_form sheet1_size sheet1_items sheet2_lost sheet2_form sheet2_size sheet2_items sheet3_lost sheet3_form sheet3_size sheet3_items r hf H locs ls hP hD hS (lv_sub hl [2] rfl)
              · have hf := (if_neg hc).symm.trans hf
                refine lv_aload_n (pc := 70) hx hb dX8_copy_70 rfl (lv_at hl 2 rfl) ?_
                refine lv_iconst (pc := 71) (v := 4) hx hb dX8_copy_71 ic_4 ?_
                obtain ⟨r49, c50, hq, hf⟩ := bind2_some hf
                refine fin2_i (wl_X8_copy cA a x_stale c50 sheet0_lost sheet0_form sheet0_size sheet0_items sheet1_lost sheet1_form sheet1_size sheet1_items sheet2_lost sheet2_form sheet2_size sheet2_items sheet3_lost sheet3_form sheet3_size sheet3_items) (run_V (rest := []) (pc := 72) (As := [.int (4 : Int32)]) C mf_X8_139 (c_X8_found l D cA a x_stale x_finding (4 : Int32) (r49, c50) hq H.size) rfl rfl ⟨(Nat.le_of_ble_eq_true rfl), (Nat.le_of_ble_eq_true rfl)⟩ (preV_of C hP hD [0] rfl (pl_nd pv_84) 0 rfl rfl rfl) rfl hl.1 rfl (Nat.le_of_ble_eq_true rfl) dX8_copy_72 ⟨Nat.zero_le _, Nat.zero_le _⟩) hP hD hS hA [0] [1, 2, 3, 4, 5, 6, 7, 8, 9] rfl rfl rfl rfl pv_84 (fun H locs hP hS => ?_)
                have hD : va_D (va_A ws0 sz) (wl_X8_copy cA a x_stale c50 sheet0_lost sheet0_form sheet0_size sheet0_items sheet1_lost sheet1_form sheet1_size sheet1_items sheet2_lost sheet2_form sheet2_size sheet2_items sheet3_lost sheet3_form sheet3_size sheet3_items) := vd_a hD rfl
                have hf := Option.some.inj hf
                subst hf
                exact ret_i C hr hlk hP hS dX8_copy_75
            · have hf := (if_neg hc).symm.trans hf
              exact k_X8_copy_b51 C hr hlk hA a x_stale x_finding sheet0_lost sheet0_form sheet0_size sheet0_items sheet1_lost sheet1_form sheet1_size sheet1_items sheet2_lost sheet2_form sheet2_size sheet2_items sheet3_lost sheet3_form sheet3_size sheet3_items r hf H locs ls hP hD hS (lv_sub hl [2] rfl)
        have hf := (if_neg h_2).symm.trans hf
        by_cases h_3 : x3 = (3 : Int32)
        · have hf := (if_pos h_3).symm.trans hf
          refine g_aald (pc := 32) (b := (a 52)) C hP 1 rfl (t0 := 3) rfl (by rw [h_3]; decide) (by rw [h_3, tn_3]; rfl) dX8_copy_32 ?_
          refine lv_astore (pc := 33) (lv' := [(7, .ref (a 52)), (6, .ref (a 50)), (0, .ref (a 0)), (1, .int x1), (2, .int x2), (3, .int x3), (4, .int x4), (5, .int x5)]) hx hb dX8_copy_33 hl (Nat.le_of_ble_eq_true rfl) rfl (fun ls hl => ?_)
          refine lv_aload (pc := 35) hx hb dX8_copy_35 (lv_at hl 1 rfl) ?_
          refine g_get (pc := 37) C fg_X8_136 hP 6 rfl rfl dX8_copy_37 ?_
          refine lv_if_ne (pc := 40) (tgt := 51) hx hb dX8_copy_40 (by decide) (fun hc => ?_) (fun hc => ?_)
          · have hf := (if_neg hc).symm.trans hf
            exact k_X8_copy_b51 C hr hlk hA a x_stale x_finding sheet0_lost sheet0_form sheet0_size sheet0_items sheet1_lost sheet1_form sheet1_size sheet1_items sheet2_lost sheet2_form sheet2_size sheet2_items sheet3_lost sheet3_form sheet3_size sheet3_items r hf H locs ls hP hD hS (lv_sub hl [2] rfl)
          · have hf := (if_pos hc).symm.trans hf
            refine lv_aload (pc := 43) hx hb dX8_copy_43 (lv_at hl 0 rfl) ?_
            refine g_get (pc := 45) C fg_X8_136 hP 8 rfl rfl dX8_copy_45 ?_
            refine lv_if_eq (pc := 48) (tgt := 57) hx hb dX8_copy_48 (by decide) (fun hc => ?_) (fun hc => ?_)
            · have hf := (if_pos hc).symm.trans hf
              refine lv_aload (pc := 57) hx hb dX8_copy_57 (lv_at hl 1 rfl) ?_
              refine g_get (pc := 59) C fg_X8_322 hP 6 rfl rfl dX8_copy_59 ?_
              refine lv_aload (pc := 62) hx hb dX8_copy_62 (lv_at hl 0 rfl) ?_
              refine g_get (pc := 64) C fg_X8_322 hP 8 rfl rfl dX8_copy_64 ?_
              refine lv_icmp_eq (pc := 67) (tgt := 76) hx hb dX8_copy_67 (by decide) (fun hc => ?_) (fun hc => ?_)
              · have hf := (if_pos hc).symm.trans hf
                refine lv_aload (pc := 76) hx hb dX8_copy_76 (lv_at hl 1 rfl) ?_
                refine lv_iload_n (pc := 78) hx hb dX8_copy_78 rfl (lv_at hl 4 rfl) ?_
                refine lv_iload (pc := 79) hx hb dX8_copy_79 (lv_at hl 7 rfl) ?_
                obtain ⟨r51, hq, hf⟩ := bind1_some hf
                refine fin2_i (wl_X8_copy cA a x_stale x_finding sheet0_lost sheet0_form sheet0_size sheet0_items sheet1_lost sheet1_form sheet1_size sheet1_items sheet2_lost sheet2_form sheet2_size sheet2_items sheet3_lost sheet3_form sheet3_size sheet3_items) (run_V (rest := []) (pc := 81) (As := [.int x2, .int x5]) C mf_X8_325 (c_X5_hasItems l D cA (a 50) (a 51) sheet2_lost sheet2_form sheet2_size x2 x5 r51 hq H.size) rfl rfl ⟨(Nat.le_of_ble_eq_true rfl), (Nat.le_of_ble_eq_true rfl)⟩ (preV_of C hP hD [6] rfl (pl_nd pv_87) 0 rfl rfl rfl) rfl hl.1 rfl (Nat.le_of_ble_eq_true rfl) dX8_copy_81 ⟨Nat.zero_le _, Nat.zero_le _⟩) hP hD hS hA [6] [0, 1, 2, 3, 4, 5, 7, 8, 9] rfl rfl rfl rfl pv_87 (fun H locs hP hS => ?_)
                refine lv_if_eq (pc := 84) (tgt := 99) hx hb dX8_copy_84 (by decide) (fun hc => ?_) (fun hc => ?_)
                · have hf := (if_pos hc).symm.trans hf
                  exact k_X8_copy_b99 C hr hlk hA a x_stale x_finding sheet0_lost sheet0_form sheet0_size sheet0_items sheet1_lost sheet1_form sheet1_size sheet1_items sheet2_lost sheet2_form sheet2_size sheet2_items sheet3_lost sheet3_form sheet3_size sheet3_items r hf H locs ls hP hD hS (lv_sub hl [2] rfl)
                · have hf := (if_neg hc).symm.trans hf
                  refine lv_aload (pc := 87) hx hb dX8_copy_87 (lv_at hl 0 rfl) ?_
                  refine lv_iload (pc := 89) hx hb dX8_copy_89 (lv_at hl 6 rfl) ?_
                  refine lv_iload (pc := 91) hx hb dX8_copy_91 (lv_at hl 7 rfl) ?_
                  obtain ⟨r52, hq, hf⟩ := bind1_some hf
                  refine fin2_i (wl_X8_copy cA a x_stale x_finding sheet0_lost sheet0_form sheet0_size sheet0_items sheet1_lost sheet1_form sheet1_size sheet1_items sheet2_lost sheet2_form sheet2_size sheet2_items sheet3_lost sheet3_form sheet3_size sheet3_items) (run_V (rest := []) (pc := 93) (As := [.int x4, .int x5]) C mf_X8_325 (c_X5_hasItems l D cA (a 52) (a 53) sheet3_lost sheet3_form sheet3_size x4 x5 r52 hq H.size) rfl rfl ⟨(Nat.le_of_ble_eq_true rfl), (Nat.le_of_ble_eq_true rfl)⟩ (preV_of C hP hD [8] rfl (pl_nd pv_88) 0 rfl rfl rfl) rfl hl.1 rfl (Nat.le_of_ble_eq_true rfl) dX8_copy_93 ⟨Nat.zero_le _, Nat.zero_le _⟩) hP hD hS hA [8] [0, 1, 2, 3, 4, 5, 6, 7, 9] rfl rfl rfl rfl pv_88 (fun H locs hP hS => ?_)
                  refine lv_if_ne (pc := 96) (tgt := 105) hx hb dX8_copy_96 (by decide) (fun hc => ?_) (fun hc => ?_)
                  · have hf := (if_neg hc).symm.trans hf
                    refine lv_aload (pc := 105) hx hb dX8_copy_105 (lv_at hl 1 rfl) ?_
                    refine g_get (pc := 107) C fg_X8_146 hP 6 rfl rfl dX8_copy_107 ?_
                    refine lv_iload_n (pc := 110) hx hb dX8_copy_110 rfl (lv_at hl 4 rfl) ?_
                    refine lv_aload (pc := 111) hx hb dX8_copy_111 (lv_at hl 0 rfl) ?_
                    refine g_get (pc := 113) C fg_X8_146 hP 8 rfl rfl dX8_copy_113 ?_
                    refine lv_iload (pc := 116) hx hb dX8_copy_116 (lv_at hl 6 rfl) ?_
                    refine lv_iload (pc := 118) hx hb dX8_copy_118 (lv_at hl 7 rfl) ?_
                    obtain ⟨hg, hf⟩ := gd_some hf
                    refine g_acopy (pc := 120) (rest := []) C acl_X8_328 hl.1 hP hD hS 7 9 rfl rfl hg ⟨(Nat.le_of_ble_eq_true rfl), by decide⟩ dX8_copy_120 (fun H locs hP hD hS => ?_)
                    have hP : va_P D classes (wl_X8_copy cA a x_stale x_finding sheet0_lost sheet0_form sheet0_size sheet0_items sheet1_lost sheet1_form sheet1_size sheet1_items sheet2_lost sheet2_form sheet2_size sheet2_items sheet3_lost sheet3_form sheet3_size (va_cpy sheet2_items sheet3_items x2.toNatClampNeg x4.toNatClampNeg x5.toNatClampNeg)) H := hP
                    have hD : va_D (va_A ws0 sz) (wl_X8_copy cA a x_stale x_finding sheet0_lost sheet0_form sheet0_size sheet0_items sheet1_lost sheet1_form sheet1_size sheet1_items sheet2_lost sheet2_form sheet2_size sheet2_items sheet3_lost sheet3_form sheet3_size (va_cpy sheet2_items sheet3_items x2.toNatClampNeg x4.toNatClampNeg x5.toNatClampNeg)) := hD
                    refine lv_iconst (pc := 123) (v := 1) hx hb dX8_copy_123 ic_1 ?_
                    have hf := Option.some.inj hf
                    subst hf
                    exact ret_i C hr hlk hP hS dX8_copy_124
                  · have hf := (if_pos hc).symm.trans hf
                    exact k_X8_copy_b99 C hr hlk hA a x_stale x_finding sheet0_lost sheet0_form sheet0_size sheet0_items sheet1_lost sheet1_form sheet1_size sheet1_items sheet2_lost sheet2_form sheet2_size sheet2_items sheet3_lost sheet3_form sheet3_size sheet3_items r hf H locs ls hP hD hS (lv_sub hl [2] rfl)
              · have hf := (if_neg hc).symm.trans hf
                refine lv_aload_n (pc := 70) hx hb dX8_copy_70 rfl (lv_at hl 2 rfl) ?_
                refine lv_iconst (pc := 71) (v := 4) hx hb dX8_copy_71 ic_4 ?_
                obtain ⟨r53, c54, hq, hf⟩ := bind2_some hf
                refine fin2_i (wl_X8_copy cA a x_stale c54 sheet0_lost sheet0_form sheet0_size sheet0_items sheet1_lost sheet1_form sheet1_size sheet1_items sheet2_lost sheet2_form sheet2_size sheet2_items sheet3_lost sheet3_form sheet3_size sheet3_items) (run_V (rest := []) (pc := 72) (As := [.int (4 : Int32)]) C mf_X8_139 (c_X8_found l D cA a x_stale x_finding (4 : Int32) (r53, c54) hq H.size) rfl rfl ⟨(Nat.le_of_ble_eq_true rfl), (Nat.le_of_ble_eq_true rfl)⟩ (preV_of C hP hD [0] rfl (pl_nd pv_84) 0 rfl rfl rfl) rfl hl.1 rfl (Nat.le_of_ble_eq_true rfl) dX8_copy_72 ⟨Nat.zero_le _, Nat.zero_le _⟩) hP hD hS hA [0] [1, 2, 3, 4, 5, 6, 7, 8, 9] rfl rfl rfl rfl pv_84 (fun H locs hP hS => ?_)
                have hD : va_D (va_A ws0 sz) (wl_X8_copy cA a x_stale c54 sheet0_lost sheet0_form sheet0_size sheet0_items sheet1_lost sheet1_form sheet1_size sheet1_items sheet2_lost sheet2_form sheet2_size sheet2_items sheet3_lost sheet3_form sheet3_size sheet3_items) := vd_a hD rfl
                have hf := Option.some.inj hf
                subst hf
                exact ret_i C hr hlk hP hS dX8_copy_75
            · have hf := (if_neg hc).symm.trans hf
              exact k_X8_copy_b51 C hr hlk hA a x_stale x_finding sheet0_lost sheet0_form sheet0_size sheet0_items sheet1_lost sheet1_form sheet1_size sheet1_items sheet2_lost sheet2_form sheet2_size sheet2_items sheet3_lost sheet3_form sheet3_size sheet3_items r hf H locs ls hP hD hS (lv_sub hl [2] rfl)
        have hf := (if_neg h_3).symm.trans hf
        cases hf
      have hf := (if_neg h_2).symm.trans hf
      by_cases h_3 : x1 = (3 : Int32)
      · have hf := (if_pos h_3).symm.trans hf
        refine g_aald (pc := 24) (b := (a 52)) C hP 1 rfl (t0 := 3) rfl (by rw [h_3]; decide) (by rw [h_3, tn_3]; rfl) dX8_copy_24 ?_
        refine lv_astore (pc := 25) (lv' := [(6, .ref (a 52)), (0, .ref (a 0)), (1, .int x1), (2, .int x2), (3, .int x3), (4, .int x4), (5, .int x5)]) hx hb dX8_copy_25 hl (Nat.le_of_ble_eq_true rfl) rfl (fun ls hl => ?_)
        refine lv_aload_n (pc := 27) hx hb dX8_copy_27 rfl (lv_at hl 1 rfl) ?_
        refine g_get (pc := 28) C fg_X8_77 hP 0 rfl rfl dX8_copy_28 ?_
        refine lv_iload_n (pc := 31) hx hb dX8_copy_31 rfl (lv_at hl 4 rfl) ?_
        by_cases h_0 : x3 = (0 : Int32)
        · have hf := (if_pos h_0).symm.trans hf
          refine g_aald (pc := 32) (b := (a 46)) C hP 1 rfl (t0 := 3) rfl (by rw [h_0]; decide) (by rw [h_0, tn_0]; rfl) dX8_copy_32 ?_
          refine lv_astore (pc := 33) (lv' := [(7, .ref (a 46)), (6, .ref (a 52)), (0, .ref (a 0)), (1, .int x1), (2, .int x2), (3, .int x3), (4, .int x4), (5, .int x5)]) hx hb dX8_copy_33 hl (Nat.le_of_ble_eq_true rfl) rfl (fun ls hl => ?_)
          refine lv_aload (pc := 35) hx hb dX8_copy_35 (lv_at hl 1 rfl) ?_
          refine g_get (pc := 37) C fg_X8_136 hP 8 rfl rfl dX8_copy_37 ?_
          refine lv_if_ne (pc := 40) (tgt := 51) hx hb dX8_copy_40 (by decide) (fun hc => ?_) (fun hc => ?_)
          · have hf := (if_neg hc).symm.trans hf
            exact k_X8_copy_b51 C hr hlk hA a x_stale x_finding sheet0_lost sheet0_form sheet0_size sheet0_items sheet1_lost sheet1_form sheet1_size sheet1_items sheet2_lost sheet2_form sheet2_size sheet2_items sheet3_lost sheet3_form sheet3_size sheet3_items r hf H locs ls hP hD hS (lv_sub hl [2] rfl)
          · have hf := (if_pos hc).symm.trans hf
            refine lv_aload (pc := 43) hx hb dX8_copy_43 (lv_at hl 0 rfl) ?_
            refine g_get (pc := 45) C fg_X8_136 hP 2 rfl rfl dX8_copy_45 ?_
            refine lv_if_eq (pc := 48) (tgt := 57) hx hb dX8_copy_48 (by decide) (fun hc => ?_) (fun hc => ?_)
            · have hf := (if_pos hc).symm.trans hf
              refine lv_aload (pc := 57) hx hb dX8_copy_57 (lv_at hl 1 rfl) ?_
              refine g_get (pc := 59) C fg_X8_322 hP 8 rfl rfl dX8_copy_59 ?_
              refine lv_aload (pc := 62) hx hb dX8_copy_62 (lv_at hl 0 rfl) ?_
              refine g_get (pc := 64) C fg_X8_322 hP 2 rfl rfl dX8_copy_64 ?_
              refine lv_icmp_eq (pc := 67) (tgt := 76) hx hb dX8_copy_67 (by decide) (fun hc => ?_) (fun hc => ?_)
              · have hf := (if_pos hc).symm.trans hf
                refine lv_aload (pc := 76) hx hb dX8_copy_76 (lv_at hl 1 rfl) ?_
                refine lv_iload_n (pc := 78) hx hb dX8_copy_78 rfl (lv_at hl 4 rfl) ?_
                refine lv_iload (pc := 79) hx hb dX8_copy_79 (lv_at hl 7 rfl) ?_
                obtain ⟨r55, hq, hf⟩ := bind1_some hf
                refine fin2_i (wl_X8_copy cA a x_stale x_finding sheet0_lost sheet0_form sheet0_size sheet0_items sheet1_lost sheet1_form sheet1_size sheet1_items sheet2_lost sheet2_form sheet2_size sheet2_items sheet3_lost sheet3_form sheet3_size sheet3_items) (run_V (rest := []) (pc := 81) (As := [.int x2, .int x5]) C mf_X8_325 (c_X5_hasItems l D cA (a 52) (a 53) sheet3_lost sheet3_form sheet3_size x2 x5 r55 hq H.size) rfl rfl ⟨(Nat.le_of_ble_eq_true rfl), (Nat.le_of_ble_eq_true rfl)⟩ (preV_of C hP hD [8] rfl (pl_nd pv_88) 0 rfl rfl rfl) rfl hl.1 rfl (Nat.le_of_ble_eq_true rfl) dX8_copy_81 ⟨Nat.zero_le _, Nat.zero_le _⟩) hP hD hS hA [8] [0, 1, 2, 3, 4, 5, 6, 7, 9] rfl rfl rfl rfl pv_88 (fun H locs hP hS => ?_)
                refine lv_if_eq (pc := 84) (tgt := 99) hx hb dX8_copy_84 (by decide) (fun hc => ?_) (fun hc => ?_)
                · have hf := (if_pos hc).symm.trans hf
                  exact k_X8_copy_b99 C hr hlk hA a x_stale x_finding sheet0_lost sheet0_form sheet0_size sheet0_items sheet1_lost sheet1_form sheet1_size sheet1_items sheet2_lost sheet2_form sheet2_size sheet2_items sheet3_lost sheet3_form sheet3_size sheet3_items r hf H locs ls hP hD hS (lv_sub hl [2] rfl)
                · have hf := (if_neg hc).symm.trans hf
                  refine lv_aload (pc := 87) hx hb dX8_copy_87 (lv_at hl 0 rfl) ?_
                  refine lv_iload (pc := 89) hx hb dX8_copy_89 (lv_at hl 6 rfl) ?_
                  refine lv_iload (pc := 91) hx hb dX8_copy_91 (lv_at hl 7 rfl) ?_
                  obtain ⟨r56, hq, hf⟩ := bind1_some hf
                  refine fin2_i (wl_X8_copy cA a x_stale x_finding sheet0_lost sheet0_form sheet0_size sheet0_items sheet1_lost sheet1_form sheet1_size sheet1_items sheet2_lost sheet2_form sheet2_size sheet2_items sheet3_lost sheet3_form sheet3_size sheet3_items) (run_V (rest := []) (pc := 93) (As := [.int x4, .int x5]) C mf_X8_325 (c_X5_hasItems l D cA (a 46) (a 47) sheet0_lost sheet0_form sheet0_size x4 x5 r56 hq H.size) rfl rfl ⟨(Nat.le_of_ble_eq_true rfl), (Nat.le_of_ble_eq_true rfl)⟩ (preV_of C hP hD [2] rfl (pl_nd pv_85) 0 rfl rfl rfl) rfl hl.1 rfl (Nat.le_of_ble_eq_true rfl) dX8_copy_93 ⟨Nat.zero_le _, Nat.zero_le _⟩) hP hD hS hA [2] [0, 1, 3, 4, 5, 6, 7, 8, 9] rfl rfl rfl rfl pv_85 (fun H locs hP hS => ?_)
                  refine lv_if_ne (pc := 96) (tgt := 105) hx hb dX8_copy_96 (by decide) (fun hc => ?_) (fun hc => ?_)
                  · have hf := (if_neg hc).symm.trans hf
                    refine lv_aload (pc := 105) hx hb dX8_copy_105 (lv_at hl 1 rfl) ?_
                    refine g_get (pc := 107) C fg_X8_146 hP 8 rfl rfl dX8_copy_107 ?_
                    refine lv_iload_n (pc := 110) hx hb dX8_copy_110 rfl (lv_at hl 4 rfl) ?_
                    refine lv_aload (pc := 111) hx hb dX8_copy_111 (lv_at hl 0 rfl) ?_
                    refine g_get (pc := 113) C fg_X8_146 hP 2 rfl rfl dX8_copy_113 ?_
                    refine lv_iload (pc := 116) hx hb dX8_copy_116 (lv_at hl 6 rfl) ?_
                    refine lv_iload (pc := 118) hx hb dX8_copy_118 (lv_at hl 7 rfl) ?_
                    obtain ⟨hg, hf⟩ := gd_some hf
                    refine g_acopy (pc := 120) (rest := []) C acl_X8_328 hl.1 hP hD hS 9 3 rfl rfl hg ⟨(Nat.le_of_ble_eq_true rfl), by decide⟩ dX8_copy_120 (fun H locs hP hD hS => ?_)
                    have hP : va_P D classes (wl_X8_copy cA a x_stale x_finding sheet0_lost sheet0_form sheet0_size (va_cpy sheet3_items sheet0_items x2.toNatClampNeg x4.toNatClampNeg x5.toNatClampNeg) sheet1_lost sheet1_form sheet1_size sheet1_items sheet2_lost sheet2_form sheet2_size sheet2_items sheet3_lost sheet3_form sheet3_size sheet3_items) H := hP
                    have hD : va_D (va_A ws0 sz) (wl_X8_copy cA a x_stale x_finding sheet0_lost sheet0_form sheet0_size (va_cpy sheet3_items sheet0_items x2.toNatClampNeg x4.toNatClampNeg x5.toNatClampNeg) sheet1_lost sheet1_form sheet1_size sheet1_items sheet2_lost sheet2_form sheet2_size sheet2_items sheet3_lost sheet3_form sheet3_size sheet3_items) := hD
                    refine lv_iconst (pc := 123) (v := 1) hx hb dX8_copy_123 ic_1 ?_
                    have hf := Option.some.inj hf
                    subst hf
                    exact ret_i C hr hlk hP hS dX8_copy_124
                  · have hf := (if_pos hc).symm.trans hf
                    exact k_X8_copy_b99 C hr hlk hA a x_stale x_finding sheet0_lost sheet0_form sheet0_size sheet0_items sheet1_lost sheet1_form sheet1_size sheet1_items sheet2_lost sheet2_form sheet2_size sheet2_items sheet3_lost sheet3_form sheet3_size sheet3_items r hf H locs ls hP hD hS (lv_sub hl [2] rfl)
              · have hf := (if_neg hc).symm.trans hf
                refine lv_aload_n (pc := 70) hx hb dX8_copy_70 rfl (lv_at hl 2 rfl) ?_
                refine lv_iconst (pc := 71) (v := 4) hx hb dX8_copy_71 ic_4 ?_
                obtain ⟨r57, c58, hq, hf⟩ := bind2_some hf
                refine fin2_i (wl_X8_copy cA a x_stale c58 sheet0_lost sheet0_form sheet0_size sheet0_items sheet1_lost sheet1_form sheet1_size sheet1_items sheet2_lost sheet2_form sheet2_size sheet2_items sheet3_lost sheet3_form sheet3_size sheet3_items) (run_V (rest := []) (pc := 72) (As := [.int (4 : Int32)]) C mf_X8_139 (c_X8_found l D cA a x_stale x_finding (4 : Int32) (r57, c58) hq H.size) rfl rfl ⟨(Nat.le_of_ble_eq_true rfl), (Nat.le_of_ble_eq_true rfl)⟩ (preV_of C hP hD [0] rfl (pl_nd pv_84) 0 rfl rfl rfl) rfl hl.1 rfl (Nat.le_of_ble_eq_true rfl) dX8_copy_72 ⟨Nat.zero_le _, Nat.zero_le _⟩) hP hD hS hA [0] [1, 2, 3, 4, 5, 6, 7, 8, 9] rfl rfl rfl rfl pv_84 (fun H locs hP hS => ?_)
                have hD : va_D (va_A ws0 sz) (wl_X8_copy cA a x_stale c58 sheet0_lost sheet0_form sheet0_size sheet0_items sheet1_lost sheet1_form sheet1_size sheet1_items sheet2_lost sheet2_form sheet2_size sheet2_items sheet3_lost sheet3_form sheet3_size sheet3_items) := vd_a hD rfl
                have hf := Option.some.inj hf
                subst hf
                exact ret_i C hr hlk hP hS dX8_copy_75
            · have hf := (if_neg hc).symm.trans hf
              exact k_X8_copy_b51 C hr hlk hA a x_stale x_finding sheet0_lost sheet0_form sheet0_size sheet0_items sheet1_lost sheet1_form sheet1_size sheet1_items sheet2_lost sheet2_form sheet2_size sheet2_items sheet3_lost sheet3_form sheet3_size sheet3_items r hf H locs ls hP hD hS (lv_sub hl [2] rfl)
        have hf := (if_neg h_0).symm.trans hf
        by_cases h_1 : x3 = (1 : Int32)
        · have hf := (if_pos h_1).symm.trans hf
          refine g_aald (pc := 32) (b := (a 48)) C hP 1 rfl (t0 := 3) rfl (by rw [h_1]; decide) (by rw [h_1, tn_1]; rfl) dX8_copy_32 ?_
          refine lv_astore (pc := 33) (lv' := [(7, .ref (a 48)), (6, .ref (a 52)), (0, .ref (a 0)), (1, .int x1), (2, .int x2), (3, .int x3), (4, .int x4), (5, .int x5)]) hx hb dX8_copy_33 hl (Nat.le_of_ble_eq_true rfl) rfl (fun ls hl => ?_)
          refine lv_aload (pc := 35) hx hb dX8_copy_35 (lv_at hl 1 rfl) ?_
          refine g_get (pc := 37) C fg_X8_136 hP 8 rfl rfl dX8_copy_37 ?_
          refine lv_if_ne (pc := 40) (tgt := 51) hx hb dX8_copy_40 (by decide) (fun hc => ?_) (fun hc => ?_)
          · have hf := (if_neg hc).symm.trans hf
            exact k_X8_copy_b51 C hr hlk hA a x_stale x_finding sheet0_lost sheet0_form sheet0_size sheet0_items sheet1_lost sheet1_form sheet1_size sheet1_items sheet2_lost sheet2_form sheet2_size sheet2_items sheet3_lost sheet3_form sheet3_size sheet3_items r hf H locs ls hP hD hS (lv_sub hl [2] rfl)
          · have hf := (if_pos hc).symm.trans hf
            refine lv_aload (pc := 43) hx hb dX8_copy_43 (lv_at hl 0 rfl) ?_
            refine g_get (pc := 45) C fg_X8_136 hP 4 rfl rfl dX8_copy_45 ?_
            refine lv_if_eq (pc := 48) (tgt := 57) hx hb dX8_copy_48 (by decide) (fun hc => ?_) (fun hc => ?_)
            · have hf := (if_pos hc).symm.trans hf
              refine lv_aload (pc := 57) hx hb dX8_copy_57 (lv_at hl 1 rfl) ?_
              refine g_get (pc := 59) C fg_X8_322 hP 8 rfl rfl dX8_copy_59 ?_
              refine lv_aload (pc := 62) hx hb dX8_copy_62 (lv_at hl 0 rfl) ?_
              refine g_get (pc := 64) C fg_X8_322 hP 4 rfl rfl dX8_copy_64 ?_
              refine lv_icmp_eq (pc := 67) (tgt := 76) hx hb dX8_copy_67 (by decide) (fun hc => ?_) (fun hc => ?_)
              · have hf := (if_pos hc).symm.trans hf
                refine lv_aload (pc := 76) hx hb dX8_copy_76 (lv_at hl 1 rfl) ?_
                refine lv_iload_n (pc := 78) hx hb dX8_copy_78 rfl (lv_at hl 4 rfl) ?_
                refine lv_iload (pc := 79) hx hb dX8_copy_79 (lv_at hl 7 rfl) ?_
                obtain ⟨r59, hq, hf⟩ := bind1_some hf
                refine fin2_i (wl_X8_copy cA a x_stale x_finding sheet0_lost sheet0_form sheet0_size sheet0_items sheet1_lost sheet1_form sheet1_size sheet1_items sheet2_lost sheet2_form sheet2_size sheet2_items sheet3_lost sheet3_form sheet3_size sheet3_items) (run_V (rest := []) (pc := 81) (As := [.int x2, .int x5]) C mf_X8_325 (c_X5_hasItems l D cA (a 52) (a 53) sheet3_lost sheet3_form sheet3_size x2 x5 r59 hq H.size) rfl rfl ⟨(Nat.le_of_ble_eq_true rfl), (Nat.le_of_ble_eq_true rfl)⟩ (preV_of C hP hD [8] rfl (pl_nd pv_88) 0 rfl rfl rfl) rfl hl.1 rfl (Nat.le_of_ble_eq_true rfl) dX8_copy_81 ⟨Nat.zero_le _, Nat.zero_le _⟩) hP hD hS hA [8] [0, 1, 2, 3, 4, 5, 6, 7, 9] rfl rfl rfl rfl pv_88 (fun H locs hP hS => ?_)
                refine lv_if_eq (pc := 84) (tgt := 99) hx hb dX8_copy_84 (by decide) (fun hc => ?_) (fun hc => ?_)
                · have hf := (if_pos hc).symm.trans hf
                  exact k_X8_copy_b99 C hr hlk hA a x_stale x_finding sheet0_lost sheet0_form sheet0_size sheet0_items sheet1_lost sheet1_form sheet1_size sheet1_items sheet2_lost sheet2_form sheet2_size sheet2_items sheet3_lost sheet3_form sheet3_size sheet3_items r hf H locs ls hP hD hS (lv_sub hl [2] rfl)
                · have hf := (if_neg hc).symm.trans hf
                  refine lv_aload (pc := 87) hx hb dX8_copy_87 (lv_at hl 0 rfl) ?_
                  refine lv_iload (pc := 89) hx hb dX8_copy_89 (lv_at hl 6 rfl) ?_
                  refine lv_iload (pc := 91) hx hb dX8_copy_91 (lv_at hl 7 rfl) ?_
                  obtain ⟨r60, hq, hf⟩ := bind1_some hf
                  refine fin2_i (wl_X8_copy cA a x_stale x_finding sheet0_lost sheet0_form sheet0_size sheet0_items sheet1_lost sheet1_form sheet1_size sheet1_items sheet2_lost sheet2_form sheet2_size sheet2_items sheet3_lost sheet3_form sheet3_size sheet3_items) (run_V (rest := []) (pc := 93) (As := [.int x4, .int x5]) C mf_X8_325 (c_X5_hasItems l D cA (a 48) (a 49) sheet1_lost sheet1_form sheet1_size x4 x5 r60 hq H.size) rfl rfl ⟨(Nat.le_of_ble_eq_true rfl), (Nat.le_of_ble_eq_true rfl)⟩ (preV_of C hP hD [4] rfl (pl_nd pv_86) 0 rfl rfl rfl) rfl hl.1 rfl (Nat.le_of_ble_eq_true rfl) dX8_copy_93 ⟨Nat.zero_le _, Nat.zero_le _⟩) hP hD hS hA [4] [0, 1, 2, 3, 5, 6, 7, 8, 9] rfl rfl rfl rfl pv_86 (fun H locs hP hS => ?_)
                  refine lv_if_ne (pc := 96) (tgt := 105) hx hb dX8_copy_96 (by decide) (fun hc => ?_) (fun hc => ?_)
                  · have hf := (if_neg hc).symm.trans hf
                    refine lv_aload (pc := 105) hx hb dX8_copy_105 (lv_at hl 1 rfl) ?_
                    refine g_get (pc := 107) C fg_X8_146 hP 8 rfl rfl dX8_copy_107 ?_
                    refine lv_iload_n (pc := 110) hx hb dX8_copy_110 rfl (lv_at hl 4 rfl) ?_
                    refine lv_aload (pc := 111) hx hb dX8_copy_111 (lv_at hl 0 rfl) ?_
                    refine g_get (pc := 113) C fg_X8_146 hP 4 rfl rfl dX8_copy_113 ?_
                    refine lv_iload (pc := 116) hx hb dX8_copy_116 (lv_at hl 6 rfl) ?_
                    refine lv_iload (pc := 118) hx hb dX8_copy_118 (lv_at hl 7 rfl) ?_
                    obtain ⟨hg, hf⟩ := gd_some hf
                    refine g_acopy (pc := 120) (rest := []) C acl_X8_328 hl.1 hP hD hS 9 5 rfl rfl hg ⟨(Nat.le_of_ble_eq_true rfl), by decide⟩ dX8_copy_120 (fun H locs hP hD hS => ?_)
                    have hP : va_P D classes (wl_X8_copy cA a x_stale x_finding sheet0_lost sheet0_form sheet0_size sheet0_items sheet1_lost sheet1_form sheet1_size (va_cpy sheet3_items sheet1_items x2.toNatClampNeg x4.toNatClampNeg x5.toNatClampNeg) sheet2_lost sheet2_form sheet2_size sheet2_items sheet3_lost sheet3_form sheet3_size sheet3_items) H := hP
                    have hD : va_D (va_A ws0 sz) (wl_X8_copy cA a x_stale x_finding sheet0_lost sheet0_form sheet0_size sheet0_items sheet1_lost sheet1_form sheet1_size (va_cpy sheet3_items sheet1_items x2.toNatClampNeg x4.toNatClampNeg x5.toNatClampNeg) sheet2_lost sheet2_form sheet2_size sheet2_items sheet3_lost sheet3_form sheet3_size sheet3_items) := hD
                    refine lv_iconst (pc := 123) (v := 1) hx hb dX8_copy_123 ic_1 ?_
                    have hf := Option.some.inj hf
                    subst hf
                    exact ret_i C hr hlk hP hS dX8_copy_124
                  · have hf := (if_pos hc).symm.trans hf
                    exact k_X8_copy_b99 C hr hlk hA a x_stale x_finding sheet0_lost sheet0_form sheet0_size sheet0_items sheet1_lost sheet1_form sheet1_size sheet1_items sheet2_lost sheet2_form sheet2_size sheet2_items sheet3_lost sheet3_form sheet3_size sheet3_items r hf H locs ls hP hD hS (lv_sub hl [2] rfl)
              · have hf := (if_neg hc).symm.trans hf
                refine lv_aload_n (pc := 70) hx hb dX8_copy_70 rfl (lv_at hl 2 rfl) ?_
                refine lv_iconst (pc := 71) (v := 4) hx hb dX8_copy_71 ic_4 ?_
                obtain ⟨r61, c62, hq, hf⟩ := bind2_some hf
                refine fin2_i (wl_X8_copy cA a x_stale c62 sheet0_lost sheet0_form sheet0_size sheet0_items sheet1_lost sheet1_form sheet1_size sheet1_items sheet2_lost sheet2_form sheet2_size sheet2_items sheet3_lost sheet3_form sheet3_size sheet3_items) (run_V (rest := []) (pc := 72) (As := [.int (4 : Int32)]) C mf_X8_139 (c_X8_found l D cA a x_stale x_finding (4 : Int32) (r61, c62) hq H.size) rfl rfl ⟨(Nat.le_of_ble_eq_true rfl), (Nat.le_of_ble_eq_true rfl)⟩ (preV_of C hP hD [0] rfl (pl_nd pv_84) 0 rfl rfl rfl) rfl hl.1 rfl (Nat.le_of_ble_eq_true rfl) dX8_copy_72 ⟨Nat.zero_le _, Nat.zero_le _⟩) hP hD hS hA [0] [1, 2, 3, 4, 5, 6, 7, 8, 9] rfl rfl rfl rfl pv_84 (fun H locs hP hS => ?_)
                have hD : va_D (va_A ws0 sz) (wl_X8_copy cA a x_stale c62 sheet0_lost sheet0_form sheet0_size sheet0_items sheet1_lost sheet1_form sheet1_size sheet1_items sheet2_lost sheet2_form sheet2_size sheet2_items sheet3_lost sheet3_form sheet3_size sheet3_items) := vd_a hD rfl
                have hf := Option.some.inj hf
                subst hf
                exact ret_i C hr hlk hP hS dX8_copy_75
            · have hf := (if_neg hc).symm.trans hf
              exact k_X8_copy_b51 C hr hlk hA a x_stale x_finding sheet0_lost sheet0_form sheet0_size sheet0_items sheet1_lost sheet1_form sheet1_size sheet1_items sheet2_lost sheet2_form sheet2_size sheet2_items sheet3_lost sheet3_form sheet3_size sheet3_items r hf H locs ls hP hD hS (lv_sub hl [2] rfl)
        have hf := (if_neg h_1).symm.trans hf
        by_cases h_2 : x3 = (2 : Int32)
        · have hf := (if_pos h_2).symm.trans hf
          refine g_aald (pc := 32) (b := (a 50)) C hP 1 rfl (t0 := 3) rfl (by rw [h_2]; decide) (by rw [h_2, tn_2]; rfl) dX8_copy_32 ?_
          refine lv_astore (pc := 33) (lv' := [(7, .ref (a 50)), (6, .ref (a 52)), (0, .ref (a 0)), (1, .int x1), (2, .int x2), (3, .int x3), (4, .int x4), (5, .int x5)]) hx hb dX8_copy_33 hl (Nat.le_of_ble_eq_true rfl) rfl (fun ls hl => ?_)
          refine lv_aload (pc := 35) hx hb dX8_copy_35 (lv_at hl 1 rfl) ?_
          refine g_get (pc := 37) C fg_X8_136 hP 8 rfl rfl dX8_copy_37 ?_
          refine lv_if_ne (pc := 40) (tgt := 51) hx hb dX8_copy_40 (by decide) (fun hc => ?_) (fun hc => ?_)
          · have hf := (if_neg hc).symm.trans hf
            exact k_X8_copy_b51 C hr hlk hA a x_stale x_finding sheet0_lost sheet0_form sheet0_size sheet0_items sheet1_lost sheet1_form sheet1_size sheet1_items sheet2_lost sheet2_form sheet2_size sheet2_items sheet3_lost sheet3_form sheet3_size sheet3_items r hf H locs ls hP hD hS (lv_sub hl [2] rfl)
          · have hf := (if_pos hc).symm.trans hf
            refine lv_aload (pc := 43) hx hb dX8_copy_43 (lv_at hl 0 rfl) ?_
            refine g_get (pc := 45) C fg_X8_136 hP 6 rfl rfl dX8_copy_45 ?_
            refine lv_if_eq (pc := 48) (tgt := 57) hx hb dX8_copy_48 (by decide) (fun hc => ?_) (fun hc => ?_)
            · have hf := (if_pos hc).symm.trans hf
              refine lv_aload (pc := 57) hx hb dX8_copy_57 (lv_at hl 1 rfl) ?_
              refine g_get (pc := 59) C fg_X8_322 hP 8 rfl rfl dX8_copy_59 ?_
              refine lv_aload (pc := 62) hx hb dX8_copy_62 (lv_at hl 0 rfl) ?_
              refine g_get (pc := 64) C fg_X8_322 hP 6 rfl rfl dX8_copy_64 ?_
              refine lv_icmp_eq (pc := 67) (tgt := 76) hx hb dX8_copy_67 (by decide) (fun hc => ?_) (fun hc => ?_)
              · have hf := (if_pos hc).symm.trans hf
                refine lv_aload (pc := 76) hx hb dX8_copy_76 (lv_at hl 1 rfl) ?_
                refine lv_iload_n (pc := 78) hx hb dX8_copy_78 rfl (lv_at hl 4 rfl) ?_
                refine lv_iload (pc := 79) hx hb dX8_copy_79 (lv_at hl 7 rfl) ?_
                obtain ⟨r63, hq, hf⟩ := bind1_some hf
                refine fin2_i (wl_X8_copy cA a x_stale x_finding sheet0_lost sheet0_form sheet0_size sheet0_items sheet1_lost sheet1_form sheet1_size sheet1_items sheet2_lost sheet2_form sheet2_size sheet2_items sheet3_lost sheet3_form sheet3_size sheet3_items) (run_V (rest := []) (pc := 81) (As := [.int x2, .int x5]) C mf_X8_325 (c_X5_hasItems l D cA (a 52) (a 53) sheet3_lost sheet3_form sheet3_size x2 x5 r63 hq H.size) rfl rfl ⟨(Nat.le_of_ble_eq_true rfl), (Nat.le_of_ble_eq_true rfl)⟩ (preV_of C hP hD [8] rfl (pl_nd pv_88) 0 rfl rfl rfl) rfl hl.1 rfl (Nat.le_of_ble_eq_true rfl) dX8_copy_81 ⟨Nat.zero_le _, Nat.zero_le _⟩) hP hD hS hA [8] [0, 1, 2, 3, 4, 5, 6, 7, 9] rfl rfl rfl rfl pv_88 (fun H locs hP hS => ?_)
                refine lv_if_eq (pc := 84) (tgt := 99) hx hb dX8_copy_84 (by decide) (fun hc => ?_) (fun hc => ?_)
                · have hf := (if_pos hc).symm.trans hf
                  exact k_X8_copy_b99 C hr hlk hA a x_stale x_finding sheet0_lost sheet0_form sheet0_size sheet0_items sheet1_lost sheet1_form sheet1_size sheet1_items sheet2_lost sheet2_form sheet2_size sheet2_items sheet3_lost sheet3_form sheet3_size sheet3_items r hf H locs ls hP hD hS (lv_sub hl [2] rfl)
                · have hf := (if_neg hc).symm.trans hf
                  refine lv_aload (pc := 87) hx hb dX8_copy_87 (lv_at hl 0 rfl) ?_
                  refine lv_iload (pc := 89) hx hb dX8_copy_89 (lv_at hl 6 rfl) ?_
                  refine lv_iload (pc := 91) hx hb dX8_copy_91 (lv_at hl 7 rfl) ?_
                  obtain ⟨r64, hq, hf⟩ := bind1_some hf
                  refine fin2_i (wl_X8_copy cA a x_stale x_finding sheet0_lost sheet0_form sheet0_size sheet0_items sheet1_lost sheet1_form sheet1_size sheet1_items sheet2_lost sheet2_form sheet2_size sheet2_items sheet3_lost sheet3_form sheet3_size sheet3_items) (run_V (rest := []) (pc := 93) (As := [.int x4, .int x5]) C mf_X8_325 (c_X5_hasItems l D cA (a 50) (a 51) sheet2_lost sheet2_form sheet2_size x4 x5 r64 hq H.size) rfl rfl ⟨(Nat.le_of_ble_eq_true rfl), (Nat.le_of_ble_eq_true rfl)⟩ (preV_of C hP hD [6] rfl (pl_nd pv_87) 0 rfl rfl rfl) rfl hl.1 rfl (Nat.le_of_ble_eq_true rfl) dX8_copy_93 ⟨Nat.zero_le _, Nat.zero_le _⟩) hP hD hS hA [6] [0, 1, 2, 3, 4, 5, 7, 8, 9] rfl rfl rfl rfl pv_87 (fun H locs hP hS => ?_)
                  refine lv_if_ne (pc := 96) (tgt := 105) hx hb dX8_copy_96 (by decide) (fun hc => ?_) (fun hc => ?_)
                  · have hf := (if_neg hc).symm.trans hf
                    refine lv_aload (pc := 105) hx hb dX8_copy_105 (lv_at hl 1 rfl) ?_
                    refine g_get (pc := 107) C fg_X8_146 hP 8 rfl rfl dX8_copy_107 ?_
                    refine lv_iload_n (pc := 110) hx hb dX8_copy_110 rfl (lv_at hl 4 rfl) ?_
                    refine lv_aload (pc := 111) hx hb dX8_copy_111 (lv_at hl 0 rfl) ?_
                    refine g_get (pc := 113) C fg_X8_146 hP 6 rfl rfl dX8_copy_113 ?_
                    refine lv_iload (pc := 116) hx hb dX8_copy_116 (lv_at hl 6 rfl) ?_
                    refine lv_iload (pc := 118) hx hb dX8_copy_118 (lv_at hl 7 rfl) ?_
                    obtain ⟨hg, hf⟩ := gd_some hf
                    refine g_acopy (pc := 120) (rest := []) C acl_X8_328 hl.1 hP hD hS 9 7 rfl rfl hg ⟨(Nat.le_of_ble_eq_true rfl), by decide⟩ dX8_copy_120 (fun H locs hP hD hS => ?_)
                    have hP : va_P D classes (wl_X8_copy cA a x_stale x_finding sheet0_lost sheet0_form sheet0_size sheet0_items sheet1_lost sheet1_form sheet1_size sheet1_items sheet2_lost sheet2_form sheet2_size (va_cpy sheet3_items sheet2_items x2.toNatClampNeg x4.toNatClampNeg x5.toNatClampNeg) sheet3_lost sheet3_form sheet3_size sheet3_items) H := hP
                    have hD : va_D (va_A ws0 sz) (wl_X8_copy cA a x_stale x_finding sheet0_lost sheet0_form sheet0_size sheet0_items sheet1_lost sheet1_form sheet1_size sheet1_items sheet2_lost sheet2_form sheet2_size (va_cpy sheet3_items sheet2_items x2.toNatClampNeg x4.toNatClampNeg x5.toNatClampNeg) sheet3_lost sheet3_form sheet3_size sheet3_items) := hD
                    refine lv_iconst (pc := 123) (v := 1) hx hb dX8_copy_123 ic_1 ?_
                    have hf := Option.some.inj hf
                    subst hf
                    exact ret_i C hr hlk hP hS dX8_copy_124
                  · have hf := (if_pos hc).symm.trans hf
                    exact k_X8_copy_b99 C hr hlk hA a x_stale x_finding sheet0_lost sheet0_form sheet0_size sheet0_items sheet1_lost sheet1_form sheet1_size sheet1_items sheet2_lost sheet2_form sheet2_size sheet2_items sheet3_lost sheet3_form sheet3_size sheet3_items r hf H locs ls hP hD hS (lv_sub hl [2] rfl)
              · have hf := (if_neg hc).symm.trans hf
                refine lv_aload_n (pc := 70) hx hb dX8_copy_70 rfl (lv_at hl 2 rfl) ?_
                refine lv_iconst (pc := 71) (v := 4) hx hb dX8_copy_71 ic_4 ?_
                obtain ⟨r65, c66, hq, hf⟩ := bind2_some hf
                refine fin2_i (wl_X8_copy cA a x_stale c66 sheet0_lost sheet0_form sheet0_size sheet0_items sheet1_lost sheet1_form sheet1_size sheet1_items sheet2_lost sheet2_form sheet2_size sheet2_items sheet3_lost sheet3_form sheet3_size sheet3_items) (run_V (rest := []) (pc := 72) (As := [.int (4 : Int32)]) C mf_X8_139 (c_X8_found l D cA a x_stale x_finding (4 : Int32) (r65, c66) hq H.size) rfl rfl ⟨(Nat.le_of_ble_eq_true rfl), (Nat.le_of_ble_eq_true rfl)⟩ (preV_of C hP hD [0] rfl (pl_nd pv_84) 0 rfl rfl rfl) rfl hl.1 rfl (Nat.le_of_ble_eq_true rfl) dX8_copy_72 ⟨Nat.zero_le _, Nat.zero_le _⟩) hP hD hS hA [0] [1, 2, 3, 4, 5, 6, 7, 8, 9] rfl rfl rfl rfl pv_84 (fun H locs hP hS => ?_)
                have hD : va_D (va_A ws0 sz) (wl_X8_copy cA a x_stale c66 sheet0_lost sheet0_form sheet0_size sheet0_items sheet1_lost sheet1_form sheet1_size sheet1_items sheet2_lost sheet2_form sheet2_size sheet2_items sheet3_lost sheet3_form sheet3_size sheet3_items) := vd_a hD rfl
                have hf := Option.some.inj hf
                subst hf
                exact ret_i C hr hlk hP hS dX8_copy_75
            · have hf := (if_neg hc).symm.trans hf
              exact k_X8_copy_b51 C hr hlk hA a x_stale x_finding sheet0_lost sheet0_form sheet0_size sheet0_items sheet1_lost sheet1_form sheet1_size sheet1_items sheet2_lost sheet2_form sheet2_size sheet2_items sheet3_lost sheet3_form sheet3_size sheet3_items r hf H locs ls hP hD hS (lv_sub hl [2] rfl)
        have hf := (if_neg h_2).symm.trans hf
        by_cases h_3 : x3 = (3 : Int32)
        · have hf := (if_pos h_3).symm.trans hf
          refine g_aald (pc := 32) (b := (a 52)) C hP 1 rfl (t0 := 3) rfl (by rw [h_3]; decide) (by rw [h_3, tn_3]; rfl) dX8_copy_32 ?_
          refine lv_astore (pc := 33) (lv' := [(7, .ref (a 52)), (6, .ref (a 52)), (0, .ref (a 0)), (1, .int x1), (2, .int x2), (3, .int x3), (4, .int x4), (5, .int x5)]) hx hb dX8_copy_33 hl (Nat.le_of_ble_eq_true rfl) rfl (fun ls hl => ?_)
          refine lv_aload (pc := 35) hx hb dX8_copy_35 (lv_at hl 1 rfl) ?_
          refine g_get (pc := 37) C fg_X8_136 hP 8 rfl rfl dX8_copy_37 ?_
          refine lv_if_ne (pc := 40) (tgt := 51) hx hb dX8_copy_40 (by decide) (fun hc => ?_) (fun hc => ?_)
          · have hf := (if_neg hc).symm.trans hf
            exact k_X8_copy_b51 C hr hlk hA a x_stale x_finding sheet0_lost sheet0_form sheet0_size sheet0_items sheet1_lost sheet1_form sheet1_size sheet1_items sheet2_lost sheet2_form sheet2_size sheet2_items sheet3_lost sheet3_form sheet3_size sheet3_items r hf H locs ls hP hD hS (lv_sub hl [2] rfl)
          · have hf := (if_pos hc).symm.trans hf
            refine lv_aload (pc := 43) hx hb dX8_copy_43 (lv_at hl 0 rfl) ?_
            refine g_get (pc := 45) C fg_X8_136 hP 8 rfl rfl dX8_copy_45 ?_
            refine lv_if_eq (pc := 48) (tgt := 57) hx hb dX8_copy_48 (by decide) (fun hc => ?_) (fun hc => ?_)
            · have hf := (if_pos hc).symm.trans hf
              refine lv_aload (pc := 57) hx hb dX8_copy_57 (lv_at hl 1 rfl) ?_
              refine g_get (pc := 59) C fg_X8_322 hP 8 rfl rfl dX8_copy_59 ?_
              refine lv_aload (pc := 62) hx hb dX8_copy_62 (lv_at hl 0 rfl) ?_
              refine g_get (pc := 64) C fg_X8_322 hP 8 rfl rfl dX8_copy_64 ?_
              refine lv_icmp_eq (pc := 67) (tgt := 76) hx hb dX8_copy_67 (by decide) (fun hc => ?_) (fun hc => ?_)
              · have hf := (if_pos hc).symm.trans hf
                refine lv_aload (pc := 76) hx hb dX8_copy_76 (lv_at hl 1 rfl) ?_
                refine lv_iload_n (pc := 78) hx hb dX8_copy_78 rfl (lv_at hl 4 rfl) ?_
                refine lv_iload (pc := 79) hx hb dX8_copy_79 (lv_at hl 7 rfl) ?_
                obtain ⟨r67, hq, hf⟩ := bind1_some hf
                refine fin2_i (wl_X8_copy cA a x_stale x_finding sheet0_lost sheet0_form sheet0_size sheet0_items sheet1_lost sheet1_form sheet1_size sheet1_items sheet2_lost sheet2_form sheet2_size sheet2_items sheet3_lost sheet3_form sheet3_size sheet3_items) (run_V (rest := []) (pc := 81) (As := [.int x2, .int x5]) C mf_X8_325 (c_X5_hasItems l D cA (a 52) (a 53) sheet3_lost sheet3_form sheet3_size x2 x5 r67 hq H.size) rfl rfl ⟨(Nat.le_of_ble_eq_true rfl), (Nat.le_of_ble_eq_true rfl)⟩ (preV_of C hP hD [8] rfl (pl_nd pv_88) 0 rfl rfl rfl) rfl hl.1 rfl (Nat.le_of_ble_eq_true rfl) dX8_copy_81 ⟨Nat.zero_le _, Nat.zero_le _⟩) hP hD hS hA [8] [0, 1, 2, 3, 4, 5, 6, 7, 9] rfl rfl rfl rfl pv_88 (fun H locs hP hS => ?_)
                refine lv_if_eq (pc := 84) (tgt := 99) hx hb dX8_copy_84 (by decide) (fun hc => ?_) (fun hc => ?_)
                · have hf := (if_pos hc).symm.trans hf
                  exact k_X8_copy_b99 C hr hlk hA a x_stale x_finding sheet0_lost sheet0_form sheet0_size sheet0_items sheet1_lost sheet1_form sheet1_size sheet1_items sheet2_lost sheet2_form sheet2_size sheet2_items sheet3_lost sheet3_form sheet3_size sheet3_items r hf H locs ls hP hD hS (lv_sub hl [2] rfl)
                · have hf := (if_neg hc).symm.trans hf
                  refine lv_aload (pc := 87) hx hb dX8_copy_87 (lv_at hl 0 rfl) ?_
                  refine lv_iload (pc := 89) hx hb dX8_copy_89 (lv_at hl 6 rfl) ?_
                  refine lv_iload (pc := 91) hx hb dX8_copy_91 (lv_at hl 7 rfl) ?_
                  obtain ⟨r68, hq, hf⟩ := bind1_some hf
                  refine fin2_i (wl_X8_copy cA a x_stale x_finding sheet0_lost sheet0_form sheet0_size sheet0_items sheet1_lost sheet1_form sheet1_size sheet1_items sheet2_lost sheet2_form sheet2_size sheet2_items sheet3_lost sheet3_form sheet3_size sheet3_items) (run_V (rest := []) (pc := 93) (As := [.int x4, .int x5]) C mf_X8_325 (c_X5_hasItems l D cA (a 52) (a 53) sheet3_lost sheet3_form sheet3_size x4 x5 r68 hq H.size) rfl rfl ⟨(Nat.le_of_ble_eq_true rfl), (Nat.le_of_ble_eq_true rfl)⟩ (preV_of C hP hD [8] rfl (pl_nd pv_88) 0 rfl rfl rfl) rfl hl.1 rfl (Nat.le_of_ble_eq_true rfl) dX8_copy_93 ⟨Nat.zero_le _, Nat.zero_le _⟩) hP hD hS hA [8] [0, 1, 2, 3, 4, 5, 6, 7, 9] rfl rfl rfl rfl pv_88 (fun H locs hP hS => ?_)
                  refine lv_if_ne (pc := 96) (tgt := 105) hx hb dX8_copy_96 (by decide) (fun hc => ?_) (fun hc => ?_)
                  · have hf := (if_neg hc).symm.trans hf
                    refine lv_aload (pc := 105) hx hb dX8_copy_105 (lv_at hl 1 rfl) ?_
                    refine g_get (pc := 107) C fg_X8_146 hP 8 rfl rfl dX8_copy_107 ?_
                    refine lv_iload_n (pc := 110) hx hb dX8_copy_110 rfl (lv_at hl 4 rfl) ?_
                    refine lv_aload (pc := 111) hx hb dX8_copy_111 (lv_at hl 0 rfl) ?_
                    refine g_get (pc := 113) C fg_X8_146 hP 8 rfl rfl dX8_copy_113 ?_
                    refine lv_iload (pc := 116) hx hb dX8_copy_116 (lv_at hl 6 rfl) ?_
                    refine lv_iload (pc := 118) hx hb dX8_copy_118 (lv_at hl 7 rfl) ?_
                    obtain ⟨hg, hf⟩ := gd_some hf
                    refine g_acopy (pc := 120) (rest := []) C acl_X8_328 hl.1 hP hD hS 9 9 rfl rfl hg ⟨(Nat.le_of_ble_eq_true rfl), by decide⟩ dX8_copy_120 (fun H locs hP hD hS => ?_)
                    have hP : va_P D classes (wl_X8_copy cA a x_stale x_finding sheet0_lost sheet0_form sheet0_size sheet0_items sheet1_lost sheet1_form sheet1_size sheet1_items sheet2_lost sheet2_form sheet2_size sheet2_items sheet3_lost sheet3_form sheet3_size (va_cpy sheet3_items sheet3_items x2.toNatClampNeg x4.toNatClampNeg x5.toNatClampNeg)) H := hP
                    have hD : va_D (va_A ws0 sz) (wl_X8_copy cA a x_stale x_finding sheet0_lost sheet0_form sheet0_size sheet0_items sheet1_lost sheet1_form sheet1_size sheet1_items sheet2_lost sheet2_form sheet2_size sheet2_items sheet3_lost sheet3_form sheet3_size (va_cpy sheet3_items sheet3_items x2.toNatClampNeg x4.toNatClampNeg x5.toNatClampNeg)) := hD
                    refine lv_iconst (pc := 123) (v := 1) hx hb dX8_copy_123 ic_1 ?_
                    have hf := Option.some.inj hf
                    subst hf
                    exact ret_i C hr hlk hP hS dX8_copy_124
                  · have hf := (if_pos hc).symm.trans hf
                    exact k_X8_copy_b99 C hr hlk hA a x_stale x_finding sheet0_lost sheet0_form sheet0_size sheet0_items sheet1_lost sheet1_form sheet1_size sheet1_items sheet2_lost sheet2_form sheet2_size sheet2_items sheet3_lost sheet3_form sheet3_size sheet3_items r hf H locs ls hP hD hS (lv_sub hl [2] rfl)
              · have hf := (if_neg hc).symm.trans hf
                refine lv_aload_n (pc := 70) hx hb dX8_copy_70 rfl (lv_at hl 2 rfl) ?_
                refine lv_iconst (pc := 71) (v := 4) hx hb dX8_copy_71 ic_4 ?_
                obtain ⟨r69, c70, hq, hf⟩ := bind2_some hf
                refine fin2_i (wl_X8_copy cA a x_stale c70 sheet0_lost sheet0_form sheet0_size sheet0_items sheet1_lost sheet1_form sheet1_size sheet1_items sheet2_lost sheet2_form sheet2_size sheet2_items sheet3_lost sheet3_form sheet3_size sheet3_items) (run_V (rest := []) (pc := 72) (As := [.int (4 : Int32)]) C mf_X8_139 (c_X8_found l D cA a x_stale x_finding (4 : Int32) (r69, c70) hq H.size) rfl rfl ⟨(Nat.le_of_ble_eq_true rfl), (Nat.le_of_ble_eq_true rfl)⟩ (preV_of C hP hD [0] rfl (pl_nd pv_84) 0 rfl rfl rfl) rfl hl.1 rfl (Nat.le_of_ble_eq_true rfl) dX8_copy_72 ⟨Nat.zero_le _, Nat.zero_le _⟩) hP hD hS hA [0] [1, 2, 3, 4, 5, 6, 7, 8, 9] rfl rfl rfl rfl pv_84 (fun H locs hP hS => ?_)
                have hD : va_D (va_A ws0 sz) (wl_X8_copy cA a x_stale c70 sheet0_lost sheet0_form sheet0_size sheet0_items sheet1_lost sheet1_form sheet1_size sheet1_items sheet2_lost sheet2_form sheet2_size sheet2_items sheet3_lost sheet3_form sheet3_size sheet3_items) := vd_a hD rfl
                have hf := Option.some.inj hf
                subst hf
                exact ret_i C hr hlk hP hS dX8_copy_75
            · have hf := (if_neg hc).symm.trans hf
              exact k_X8_copy_b51 C hr hlk hA a x_stale x_finding sheet0_lost sheet0_form sheet0_size sheet0_items sheet1_lost sheet1_form sheet1_size sheet1_items sheet2_lost sheet2_form sheet2_size sheet2_items sheet3_lost sheet3_form sheet3_size sheet3_items r hf H locs ls hP hD hS (lv_sub hl [2] rfl)
        have hf := (if_neg h_3).symm.trans hf
        cases hf
      have hf := (if_neg h_3).symm.trans hf
      cases hf
    · have hf := (if_pos hc).symm.trans hf
      refine lv_bipush (pc := 16) (v := (-2)) hx hb dX8_copy_16 bp_m2 ?_
      have hf := Option.some.inj hf
      subst hf
      exact ret_i C hr hlk hP hS dX8_copy_18
set_option maxRecDepth 100000 in
theorem c_X8_copy (l : Launch) (D : va_G) (cA : Nat → ClassId) (a : Nat → Nat) (x_stale : Int32) (x_finding : Int32) (sheet0_lost : Int32) (sheet0_form : Int32) (sheet0_size : Int32) (sheet0_items : Nat → Int32) (sheet1_lost : Int32) (sheet1_form : Int32) (sheet1_size : Int32) (sheet1_items : Nat → Int32) (sheet2_lost : Int32) (sheet2_form : Int32) (sheet2_size : Int32) (sheet2_items : Nat → Int32) (sheet3_lost : Int32) (sheet3_form : Int32) (sheet3_size : Int32) (sheet3_items : Nat → Int32) (x1 : Int32) (x2 : Int32) (x3 : Int32) (x4 : Int32) (x5 : Int32) (r : Int32 × Int32 × (Nat → Int32) × (Nat → Int32) × (Nat → Int32) × (Nat → Int32)) (hf : f_X8_copy x_finding sheet0_lost sheet0_form sheet0_size sheet0_items sheet1_lost sheet1_form sheet1_size sheet1_items sheet2_lost sheet2_form sheet2_size sheet2_items sheet3_lost sheet3_form sheet3_size sheet3_items x1 x2 x3 x4 x5 = some r) (sz : Nat) : Met l yX8_copy (Cond.code yX8_copy cX8_copy 8 (some .int) :: lw_good) rm_X8_copy (PreX D cA [.ref (a 0), .int x1, .int x2, .int x3, .int x4, .int x5] sz (wl_X8_copy cA a x_stale x_finding sheet0_lost sheet0_form sheet0_size sheet0_items sheet1_lost sheet1_form sheet1_size sheet1_items sheet2_lost sheet2_form sheet2_size sheet2_items sheet3_lost sheet3_form sheet3_size sheet3_items)) (PostI D r.1 (wl_X8_copy cA a x_stale x_finding sheet0_lost sheet0_form sheet0_size sheet0_items sheet1_lost sheet1_form sheet1_size sheet1_items sheet2_lost sheet2_form sheet2_size sheet2_items sheet3_lost sheet3_form sheet3_size sheet3_items) (wl_X8_copy cA a x_stale (r.2.1) sheet0_lost sheet0_form sheet0_size (r.2.2.1) sheet1_lost sheet1_form sheet1_size (r.2.2.2.1) sheet2_lost sheet2_form sheet2_size (r.2.2.2.2.1) sheet3_lost sheet3_form sheet3_size (r.2.2.2.2.2)) sz) 0 0 (va_A (wl_X8_copy cA a x_stale x_finding sheet0_lost sheet0_form sheet0_size sheet0_items sheet1_lost sheet1_form sheet1_size sheet1_items sheet2_lost sheet2_form sheet2_size sheet2_items sheet3_lost sheet3_form sheet3_size sheet3_items) sz) :=
  met_of (by decide) (Nat.le_of_ble_eq_true rfl) (fun p e s m args below meth c C hr hlk hA => k_X8_copy C hr hlk hA a x_stale x_finding sheet0_lost sheet0_form sheet0_size sheet0_items sheet1_lost sheet1_form sheet1_size sheet1_items sheet2_lost sheet2_form sheet2_size sheet2_items sheet3_lost sheet3_form sheet3_size sheet3_items x1 x2 x3 x4 x5 r hf)
end
