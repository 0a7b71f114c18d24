abbrev wl_X8_lay (cA : Nat → ClassId) (a : Nat → Nat) (x_stale : Int32) (x_finding : Int32) (sheet0_lost : Int32) (sheet0_form : Int32) (sheet0_size : Int32) (sheet0_items : Nat → Int32) (sheet1_lost : Int32) (sheet1_form : Int32) (sheet1_size : Int32) (sheet1_items : Nat → Int32) (sheet2_lost : Int32) (sheet2_form : Int32) (sheet2_size : Int32) (sheet2_items : Nat → Int32) (sheet3_lost : Int32) (sheet3_form : Int32) (sheet3_size : Int32) (sheet3_items : Nat → Int32) : va_W := [((a 0), .inr (8, [.ref (a 1), .ref (a 6), .ref (a 12), .ref (a 15), .ref (a 19), .ref (a 23), .ref (a 27), .ref (a 34), .ref (a 41), .ref (a 42), .ref (a 44), .ref (a 45), .int x_stale, .int x_finding])), ((a 45), .inl (cA 3, 4, .inr (.inr (.inr (.inr (fun k : Nat => if k = 0 then some (a 46) else if k = 1 then some (a 48) else if k = 2 then some (a 50) else some (a 52))))))), ((a 46), .inr (5, [.ref (a 47), .int sheet0_lost, .int sheet0_form, .int sheet0_size])), ((a 47), .inl (cA 0, 60, .inl sheet0_items)), ((a 48), .inr (5, [.ref (a 49), .int sheet1_lost, .int sheet1_form, .int sheet1_size])), ((a 49), .inl (cA 0, 60, .inl sheet1_items)), ((a 50), .inr (5, [.ref (a 51), .int sheet2_lost, .int sheet2_form, .int sheet2_size])), ((a 51), .inl (cA 0, 60, .inl sheet2_items)), ((a 52), .inr (5, [.ref (a 53), .int sheet3_lost, .int sheet3_form, .int sheet3_size])), ((a 53), .inl (cA 0, 60, .inl sheet3_items))]
abbrev rm_X8_lay : Room := { frames := 1, cells := 0, slots := 0, locals := 22 }
section
variable {p : Program} {l : Launch} {e : Env} {s : State} {m : MethodId} {args : Array Value} {below : List Frame} {meth : Method} {c : Code} {D : va_G} {cA : Nat → ClassId} {ws0 : va_W} {sz : Nat} {A : Nat → Prop} {Q : State → Prop}
def f_X8_lay (x_finding : Int32) (sheet0_lost : Int32) (sheet0_form : Int32) (sheet0_size : Int32) (sheet0_items : Nat → Int32) (sheet1_lost : Int32) (sheet1_form : Int32) (sheet1_size : Int32) (sheet1_items : Nat → Int32) (sheet2_lost : Int32) (sheet2_form : Int32) (sheet2_size : Int32) (sheet2_items : Nat → Int32) (sheet3_lost : Int32) (sheet3_form : Int32) (sheet3_size : Int32) (sheet3_items : Nat → Int32) (x1 : Int32) (x2 : Int32) (x3 : Int32) (x4 : Int32) : Option (Int32 × Int32 × (Nat → Int32) × (Nat → Int32) × (Nat → Int32) × (Nat → Int32)) :=
  bind1 (f_X8_isUpTo x1 (3 : Int32)) (fun r1 => if r1 = 0 then (some ((-2 : Int32), x_finding, sheet0_items, sheet1_items, sheet2_items, sheet3_items)) else (bind1 (f_X8_isUpTo x2 (2 : Int32)) (fun r2 => if r2 = 0 then (some ((-2 : Int32), x_finding, sheet0_items, sheet1_items, sheet2_items, sheet3_items)) else (if x1 = (0 : Int32) then (bind1 (f_X5_wrongWith sheet0_lost sheet0_form sheet0_size x2 x3) (fun r3 => if r3 = 0 then (if x1 = (0 : Int32) then (bind1 (f_X5_keep sheet0_form sheet0_items x3 x4) (fun c4 => some ((1 : Int32), x_finding, c4, sheet1_items, sheet2_items, sheet3_items))) else (if x1 = (1 : Int32) then (bind1 (f_X5_keep sheet1_form sheet1_items x3 x4) (fun c5 => some ((1 : Int32), x_finding, sheet0_items, c5, sheet2_items, sheet3_items))) else (if x1 = (2 : Int32) then (bind1 (f_X5_keep sheet2_form sheet2_items x3 x4) (fun c6 => some ((1 : Int32), x_finding, sheet0_items, sheet1_items, c6, sheet3_items))) else (if x1 = (3 : Int32) then (bind1 (f_X5_keep sheet3_form sheet3_items x3 x4) (fun c7 => some ((1 : Int32), x_finding, sheet0_items, sheet1_items, sheet2_items, c7))) else (none))))) else (bind2 (f_X8_found x_finding r3) (fun r8 c9 => some (r8, c9, sheet0_items, sheet1_items, sheet2_items, sheet3_items))))) else (if x1 = (1 : Int32) then (bind1 (f_X5_wrongWith sheet1_lost sheet1_form sheet1_size x2 x3) (fun r10 => if r10 = 0 then (if x1 = (0 : Int32) then (bind1 (f_X5_keep sheet0_form sheet0_items x3 x4) (fun c11 => some ((1 : Int32), x_finding, c11, sheet1_items, sheet2_items, sheet3_items))) else (if x1 = (1 : Int32) then (bind1 (f_X5_keep sheet1_form sheet1_items x3 x4) (fun c12 => some ((1 : Int32), x_finding, sheet0_items, c12, sheet2_items, sheet3_items))) else (if x1 = (2 : Int32) then (bind1 (f_X5_keep sheet2_form sheet2_items x3 x4) (fun c13 => some ((1 : Int32), x_finding, sheet0_items, sheet1_items, c13, sheet3_items))) else (if x1 = (3 : Int32) then (bind1 (f_X5_keep sheet3_form sheet3_items x3 x4) (fun c14 => some ((1 : Int32), x_finding, sheet0_items, sheet1_items, sheet2_items, c14))) else (none))))) else (bind2 (f_X8_found x_finding r10) (fun r15 c16 => some (r15, c16, sheet0_items, sheet1_items, sheet2_items, sheet3_items))))) else (if x1 = (2 : Int32) then (bind1 (f_X5_wrongWith sheet2_lost sheet2_form sheet2_size x2 x3) (fun r17 => if r17 = 0 then (if x1 = (0 : Int32) then (bind1 (f_X5_keep sheet0_form sheet0_items x3 x4) (fun c18 => some ((1 : Int32), x_finding, c18, sheet1_items, sheet2_items, sheet3_items))) else (if x1 = (1 : Int32) then (bind1 (f_X5_keep sheet1_form sheet1_items x3 x4) (fun c19 => some ((1 : Int32), x_finding, sheet0_items, c19, sheet2_items, sheet3_items))) else (if x1 = (2 : Int32) then (bind1 (f_X5_keep sheet2_form sheet2_items x3 x4) (fun c20 => some ((1 : Int32), x_finding, sheet0_items, sheet1_items, c20, sheet3_items))) else (if x1 = (3 : Int32) then (bind1 (f_X5_keep sheet3_form sheet3_items x3 x4) (fun c21 => some ((1 : Int32), x_finding, sheet0_items, sheet1_items, sheet2_items, c21))) else (none))))) else (bind2 (f_X8_found x_finding r17) (fun r22 c23 => some (r22, c23, sheet0_items, sheet1_items, sheet2_items, sheet3_items))))) else (if x1 = (3 : Int32) then (bind1 (f_X5_wrongWith sheet3_lost sheet3_form sheet3_size x2 x3) (fun r24 => if r24 = 0 then (if x1 = (0 : Int32) then (bind1 (f_X5_keep sheet0_form sheet0_items x3 x4) (fun c25 => some ((1 : Int32), x_finding, c25, sheet1_items, sheet2_items, sheet3_items))) else (if x1 = (1 : Int32) then (bind1 (f_X5_keep sheet1_form sheet1_items x3 x4) (fun c26 => some ((1 : Int32), x_finding, sheet0_items, c26, sheet2_items, sheet3_items))) else (if x1 = (2 : Int32) then (bind1 (f_X5_keep sheet2_form sheet2_items x3 x4) (fun c27 => some ((1 : Int32), x_finding, sheet0_items, sheet1_items, c27, sheet3_items))) else (if x1 = (3 : Int32) then (bind1 (f_X5_keep sheet3_form sheet3_items x3 x4) (fun c28 => some ((1 : Int32), x_finding, sheet0_items, sheet1_items, sheet2_items, c28))) else (none))))) else (bind2 (f_X8_found x_finding r24) (fun r29 c30 => some (r29, c30, sheet0_items, sheet1_items, sheet2_items, sheet3_items))))) else (none))))))))
set_option maxHeartbeats 4000000 in
set_option maxRecDepth 100000 in
theorem k_X8_lay (C : Cx RX8 cX8_lay 6 D cA p s m args c) (hr : meth.sig.returnType = (some .int)) (hlk : meth.locks = false) (hA : ∀ q, s.heap.size ≤ q → va_A ws0 sz q) (a : Nat → Nat) (x_stale : Int32) (x_finding : Int32) (sheet0_lost : Int32) (sheet0_form : Int32) (sheet0_size : Int32) (sheet0_items : Nat → Int32) (sheet1_lost : Int32) (sheet1_form : Int32) (sheet1_size : Int32) (sheet1_items : Nat → Int32) (sheet2_lost : Int32) (sheet2_form : Int32) (sheet2_size : Int32) (sheet2_items : Nat → Int32) (sheet3_lost : Int32) (sheet3_form : Int32) (sheet3_size : Int32) (sheet3_items : Nat → Int32) (x1 : Int32) (x2 : Int32) (x3 : Int32) (x4 : Int32) (r : Int32 × Int32 × (Nat → Int32) × (Nat → Int32) × (Nat → Int32) × (Nat → Int32)) (hf : f_X8_lay x_finding sheet0_lost sheet0_form sheet0_size sheet0_items sheet1_lost sheet1_form sheet1_size sheet1_items sheet2_lost sheet2_form sheet2_size sheet2_items sheet3_lost sheet3_form sheet3_size sheet3_items x1 x2 x3 x4 = some r) : At p l e rm_X8_lay s m args below meth c D (va_A ws0 sz) 0 0 (MQ below (PostI D r.1 ws0 (wl_X8_lay cA a x_stale (r.2.1) sheet0_lost sheet0_form sheet0_size (r.2.2.1) sheet1_lost sheet1_form sheet1_size (r.2.2.2.1) sheet2_lost sheet2_form sheet2_size (r.2.2.2.2.1) sheet3_lost sheet3_form sheet3_size (r.2.2.2.2.2)) sz) args s 0 0 (va_A ws0 sz)) 6 0 (wl_X8_lay cA a x_stale x_finding sheet0_lost sheet0_form sheet0_size sheet0_items sheet1_lost sheet1_form sheet1_size sheet1_items sheet2_lost sheet2_form sheet2_size sheet2_items sheet3_lost sheet3_form sheet3_size sheet3_items) [(0, .ref (a 0)), (1, .int x1), (2, .int x2), (3, .int x3), (4, .int x4)] [] := by
  intro H locs ls hP hD hS hl
  have hx := C.1
  have hb := C.2.1
  have hown := C.2.2.2.1
  have hts := C.2.2.2.2.1
  unfold f_X8_lay at hf
  refine lv_iload_n (pc := 0) hx hb dX8_lay_0 rfl (lv_at hl 1 rfl) ?_
  refine lv_iconst (pc := 1) (v := 3) hx hb dX8_lay_1 ic_3 ?_
  obtain ⟨r1, hq, hf⟩ := bind1_some hf
  refine fin_i (run_S (rest := []) (pc := 2) (As := [.int x1, .int (3 : Int32)]) C mf_X8_90 (c_X8_isUpTo l D cA  x1 (3 : Int32) r1 hq H.size) rfl rfl ⟨(Nat.le_of_ble_eq_true rfl), (Nat.le_of_ble_eq_true rfl)⟩ (preS_of C hP hD [] rfl rfl) rfl hl.1 rfl (Nat.le_of_ble_eq_true rfl) dX8_lay_2 ⟨Nat.zero_le _, Nat.zero_le _⟩) hP hD hS hA [] rfl rfl (fun H locs hP hS => ?_)
  have hP : va_P D classes (wl_X8_lay cA a x_stale x_finding sheet0_lost sheet0_form sheet0_size sheet0_items sheet1_lost sheet1_form sheet1_size sheet1_items sheet2_lost sheet2_form sheet2_size sheet2_items sheet3_lost sheet3_form sheet3_size sheet3_items) H := hP
  have hD : va_D (va_A ws0 sz) (wl_X8_lay cA a x_stale x_finding sheet0_lost sheet0_form sheet0_size sheet0_items sheet1_lost sheet1_form sheet1_size sheet1_items sheet2_lost sheet2_form sheet2_size sheet2_items sheet3_lost sheet3_form sheet3_size sheet3_items) := vd_a hD rfl
  refine lv_if_eq (pc := 5) (tgt := 16) hx hb dX8_lay_5 (by decide) (fun hc => ?_) (fun hc => ?_)
  · have hf := (if_pos hc).symm.trans hf
    refine lv_bipush (pc := 16) (v := (-2)) hx hb dX8_lay_16 bp_m2 ?_
    have hf := Option.some.inj hf
    subst hf
    exact ret_i C hr hlk hP hS dX8_lay_18
  · have hf := (if_neg hc).symm.trans hf
    refine lv_iload_n (pc := 8) hx hb dX8_lay_8 rfl (lv_at hl 2 rfl) ?_
    refine lv_iconst (pc := 9) (v := 2) hx hb dX8_lay_9 ic_2 ?_
    obtain ⟨r2, hq, hf⟩ := bind1_some hf
    refine fin_i (run_S (rest := []) (pc := 10) (As := [.int x2, .int (2 : Int32)]) C mf_X8_90 (c_X8_isUpTo l D cA  x2 (2 : Int32) r2 hq H.size) rfl rfl ⟨(Nat.le_of_ble_eq_true rfl), (Nat.le_of_ble_eq_true rfl)⟩ (preS_of C hP hD [] rfl rfl) rfl hl.1 rfl (Nat.le_of_ble_eq_true rfl) dX8_lay_10 ⟨Nat.zero_le _, Nat.zero_le _⟩) hP hD hS hA [] rfl rfl (fun H locs hP hS => ?_)
    have hP : va_P D classes (wl_X8_lay cA a x_stale x_finding sheet0_lost sheet0_form sheet0_size sheet0_items sheet1_lost sheet1_form sheet1_size sheet1_items sheet2_lost sheet2_form sheet2_size sheet2_items sheet3_lost sheet3_form sheet3_size sheet3_items) H := hP
    have hD : va_D (va_A ws0 sz) (wl_X8_lay cA a x_stale x_finding sheet0_lost sheet0_form sheet0_size sheet0_items sheet1_lost sheet1_form sheet1_size sheet1_items sheet2_lost sheet2_form sheet2_size sheet2_items sheet3_lost sheet3_form sheet3_size sheet3_items) := vd_a hD rfl
    refine lv_if_ne (pc := 13) (tgt := 19) hx hb dX8_lay_13 (by decide) (fun hc => ?_) (fun hc => ?_)
    · have hf := (if_neg hc).symm.trans hf
      refine lv_aload_n (pc := 19) hx hb dX8_lay_19 rfl (lv_at hl 0 rfl) ?_
      refine g_get (pc := 20) C fg_X8_77 hP 0 rfl rfl dX8_lay_20 ?_
      refine lv_iload_n (pc := 23) hx hb dX8_lay_23 rfl (lv_at hl 1 rfl) ?_
      by_cases h_0 : x1 = (0 : Int32)
      · have hf := (if_pos h_0).symm.trans hf
        refine g_aald (pc := 24) (b := (a 46)) C hP 1 rfl (t0 := 3) rfl (by rw [h_0]; decide) (by rw [h_0, tn_0]; rfl) dX8_lay_24 ?_
        refine lv_iload_n (pc := 25) hx hb dX8_lay_25 rfl (lv_at hl 2 rfl) ?_
        refine lv_iload_n (pc := 26) hx hb dX8_lay_26 rfl (lv_at hl 3 rfl) ?_
        obtain ⟨r3, hq, hf⟩ := bind1_some hf
        refine fin_i (run_V (rest := []) (pc := 27) (As := [.int x2, .int x3]) C mf_X8_315 (c_X5_wrongWith l D cA (a 46) (a 47) sheet0_lost sheet0_form sheet0_size x2 x3 r3 hq H.size) rfl rfl ⟨(Nat.le_of_ble_eq_true rfl), (Nat.le_of_ble_eq_true rfl)⟩ (preV_of C hP hD [2] rfl rfl 0 rfl rfl rfl) rfl hl.1 rfl (Nat.le_of_ble_eq_true rfl) dX8_lay_27 ⟨Nat.zero_le _, Nat.zero_le _⟩) hP hD hS hA [2] rfl rfl (fun H locs hP hS => ?_)
        have hP : va_P D classes (wl_X8_lay cA a x_stale x_finding sheet0_lost sheet0_form sheet0_size sheet0_items sheet1_lost sheet1_form sheet1_size sheet1_items sheet2_lost sheet2_form sheet2_size sheet2_items sheet3_lost sheet3_form sheet3_size sheet3_items) H := hP
        have hD : va_D (va_A ws0 sz) (wl_X8_lay cA a x_stale x_finding sheet0_lost sheet0_form sheet0_size sheet0_items sheet1_lost sheet1_form sheet1_size sheet1_items sheet2_lost sheet2_form sheet2_size sheet2_items sheet3_lost sheet3_form sheet3_size sheet3_items) := vd_a hD rfl
        refine lv_istore (pc := 30) (lv' := [(5, .int r3), (0, .ref (a 0)), (1, .int x1), (2, .int x2), (3, .int x3), (4, .int x4)]) hx hb dX8_lay_30 hl (Nat.le_of_ble_eq_true rfl) rfl (fun ls hl => ?_)
        refine lv_iload (pc := 32) hx hb dX8_lay_32 (lv_at hl 0 rfl) ?_
        refine lv_if_eq (pc := 34) (tgt := 44) hx hb dX8_lay_34 (by decide) (fun hc => ?_) (fun hc => ?_)
        · have hf := (if_pos hc).symm.trans hf
          refine lv_aload_n (pc := 44) hx hb dX8_lay_44 rfl (lv_at hl 1 rfl) ?_
          refine g_get (pc := 45) C fg_X8_77 hP 0 rfl rfl dX8_lay_45 ?_
          refine lv_iload_n (pc := 48) hx hb dX8_lay_48 rfl (lv_at hl 2 rfl) ?_
          by_cases h_0 : x1 = (0 : Int32)
          · have hf := (if_pos h_0).symm.trans hf
            refine g_aald (pc := 49) (b := (a 46)) C hP 1 rfl (t0 := 3) rfl (by rw [h_0]; decide) (by rw [h_0, tn_0]; rfl) dX8_lay_49 ?_
            refine lv_iload_n (pc := 50) hx hb dX8_lay_50 rfl (lv_at hl 4 rfl) ?_
            refine lv_iload (pc := 51) hx hb dX8_lay_51 (lv_at hl 5 rfl) ?_
            obtain ⟨c4, hq, hf⟩ := bind1_some hf
            refine fin_v (run_V (rest := []) (pc := 53) (As := [.int x3, .int x4]) C mf_X8_318 (c_X5_keep l D cA (a 46) (a 47) sheet0_lost sheet0_form sheet0_size sheet0_items x3 x4 c4 hq H.size) rfl rfl ⟨(Nat.le_of_ble_eq_true rfl), (Nat.le_of_ble_eq_true rfl)⟩ (preV_of C hP hD [2, 3] rfl rfl 0 rfl rfl rfl) rfl hl.1 rfl (Nat.le_of_ble_eq_true rfl) dX8_lay_53 ⟨Nat.zero_le _, Nat.zero_le _⟩) hP hD hS hA [2, 3] rfl rfl (fun H locs hP hS => ?_)
            have hP : va_P D classes (wl_X8_lay cA a x_stale x_finding sheet0_lost sheet0_form sheet0_size c4 sheet1_lost sheet1_form sheet1_size sheet1_items sheet2_lost sheet2_form sheet2_size sheet2_items sheet3_lost sheet3_form sheet3_size sheet3_items) H := hP
            have hD : va_D (va_A ws0 sz) (wl_X8_lay cA a x_stale x_finding sheet0_lost sheet0_form sheet0_size c4 sheet1_lost sheet1_form sheet1_size sheet1_items sheet2_lost sheet2_form sheet2_size sheet2_items sheet3_lost sheet3_form sheet3_size sheet3_items) := vd_a hD rfl
            refine lv_iconst (pc := 56) (v := 1) hx hb dX8_lay_56 ic_1 ?_
            have hf := Option.some.inj hf
            subst hf
            exact ret_i C hr hlk hP hS dX8_lay_57
          have hf := (if_neg h_0).symm.trans hf
          by_cases h_1 : x1 = (1 : Int32)
          · have hf := (if_pos h_1).symm.trans hf
            refine g_aald (pc := 49) (b := (a 48)) C hP 1 rfl (t0 := 3) rfl (by rw [h_1]; decide) (by rw [h_1, tn_1]; rfl) dX8_lay_49 ?_
            refine lv_iload_n (pc := 50) hx hb dX8_lay_50 rfl (lv_at hl 4 rfl) ?_
            refine lv_iload (pc := 51) hx hb dX8_lay_51 (lv_at hl 5 rfl) ?_
            obtain ⟨c5, hq, hf⟩ := bind1_some hf
            refine fin_v (run_V (rest := []) (pc := 53) (As := [.int x3, .int x4]) C mf_X8_318 (c_X5_keep l D cA (a 48) (a 49) sheet1_lost sheet1_form sheet1_size sheet1_items x3 x4 c5 hq H.size) rfl rfl ⟨(Nat.le_of_ble_eq_true rfl), (Nat.le_of_ble_eq_true rfl)⟩ (preV_of C hP hD [4, 5] rfl rfl 0 rfl rfl rfl) rfl hl.1 rfl (Nat.le_of_ble_eq_true rfl) dX8_lay_53 ⟨Nat.zero_le _, Nat.zero_le _⟩) hP hD hS hA [4, 5] rfl rfl (fun H locs hP hS => ?_)
            have hP : va_P D classes (wl_X8_lay cA a x_stale x_finding sheet0_lost sheet0_form sheet0_size sheet0_items sheet1_lost sheet1_form sheet1_size c5 sheet2_lost sheet2_form sheet2_size sheet2_items sheet3_lost sheet3_form sheet3_size sheet3_items) H := hP
            have hD : va_D (va_A ws0 sz) (wl_X8_lay cA a x_stale x_finding sheet0_lost sheet0_form sheet0_size sheet0_items sheet1_lost sheet1_form sheet1_size c5 sheet2_lost sheet2_form sheet2_size sheet2_items sheet3_lost sheet3_form sheet3_size sheet3_items) := vd_a hD rfl
            refine lv_iconst (pc := 56) (v := 1) hx hb dX8_lay_56 ic_1 ?_
            have hf := Option.some.inj hf
            subst hf
            exact ret_i C hr hlk hP hS dX8_lay_57
          have hf := (if_neg h_1).symm.trans hf
          by_cases h_2 : x1 = (2 : Int32)
          · have hf := (if_pos h_2).symm.trans hf
            refine g_aald (pc := 49) (b := (a 50)) C hP 1 rfl (t0 := 3) rfl (by rw [h_2]; decide) (by rw [h_2, tn_2]; rfl) dX8_lay_49 ?_
            refine lv_iload_n (pc := 50) hx hb dX8_lay_50 rfl (lv_at hl 4 rfl) ?_
            refine lv_iload (pc := 51) hx hb dX8_lay_51 (lv_at hl 5 rfl) ?_
            obtain ⟨c6, hq, hf⟩ := bind1_some hf
            refine fin_v (run_V (rest := []) (pc := 53) (As := [.int x3, .int x4]) C mf_X8_318 (c_X5_keep l D cA (a 50) (a 51) sheet2_lost sheet2_form sheet2_size sheet2_items x3 x4 c6 hq H.size) rfl rfl ⟨(Nat.le_of_ble_eq_true rfl), (Nat.le_of_ble_eq_true rfl)⟩ (preV_of C hP hD [6, 7] rfl rfl 0 rfl rfl rfl) rfl hl.1 rfl (Nat.le_of_ble_eq_true rfl) dX8_lay_53 ⟨Nat.zero_le _, Nat.zero_le _⟩) hP hD hS hA [6, 7] rfl rfl (fun H locs hP hS => ?_)
            have hP : va_P D classes (wl_X8_lay cA a x_stale x_finding sheet0_lost sheet0_form sheet0_size sheet0_items sheet1_lost sheet1_form sheet1_size sheet1_items sheet2_lost sheet2_form sheet2_size c6 sheet3_lost sheet3_form sheet3_size sheet3_items) H := hP
            have hD : va_D (va_A ws0 sz) (wl_X8_lay cA a x_stale x_finding sheet0_lost sheet0_form sheet0_size sheet0_items sheet1_lost sheet1_form sheet1_size sheet1_items sheet2_lost sheet2_form sheet2_size c6 sheet3_lost sheet3_form sheet3_size sheet3_items) := vd_a hD rfl
            refine lv_iconst (pc := 56) (v := 1) hx hb dX8_lay_56 ic_1 ?_
            have hf := Option.some.inj hf
            subst hf
            exact ret_i C hr hlk hP hS dX8_lay_57
          have hf := (if_neg h_2).symm.trans hf
          by_cases h_3 : x1 = (3 : Int32)
          · have hf := (if_pos h_3).symm.trans hf
            refine g_aald (pc := 49) (b := (a 52)) C hP 1 rfl (t0 := 3) rfl (by rw [h_3]; decide) (by rw [h_3, tn_3]; rfl) dX8_lay_49 ?_
            refine lv_iload_n (pc := 50) hx hb dX8_lay_50 rfl (lv_at hl 4 rfl) ?_
            refine lv_iload (pc := 51) hx hb dX8_lay_51 (lv_at hl 5 rfl) ?_
            obtain ⟨c7, hq, hf⟩ := bind1_some hf
            refine fin_v (run_V (rest := []) (pc := 53) (As := [.int x3, .int x4]) C mf_X8_318 (c_X5_keep l D cA (a 52) (a 53) sheet3_lost sheet3_form sheet3_size sheet3_items x3 x4 c7 hq H.size) rfl rfl ⟨(Nat.le_of_ble_eq_true rfl), (Nat.le_of_ble_eq_true rfl)⟩ (preV_of C hP hD [8, 9] rfl rfl 0 rfl rfl rfl) rfl hl.1 rfl (Nat.le_of_ble_eq_true rfl) dX8_lay_53 ⟨Nat.zero_le _, Nat.zero_le _⟩) hP hD hS hA [8, 9] rfl rfl (fun H locs hP hS => ?_)
            have hP : va_P D classes (wl_X8_lay cA a x_stale x_finding sheet0_lost sheet0_form sheet0_size sheet0_items sheet1_lost sheet1_form sheet1_size sheet1_items sheet2_lost sheet2_form sheet2_size sheet2_items sheet3_lost sheet3_form sheet3_size c7) H := hP
            have hD : va_D (va_A ws0 sz) (wl_X8_lay cA a x_stale x_finding sheet0_lost sheet0_form sheet0_size sheet0_items sheet1_lost sheet1_form sheet1_size sheet1_items sheet2_lost sheet2_form sheet2_size sheet2_items sheet3_lost sheet3_form sheet3_size c7) := vd_a hD rfl
            refine lv_iconst (pc := 56) (v := 1) hx hb dX8_lay_56 ic_1 ?_
            have hf := Option.some.inj hf
            subst hf
            exact ret_i C hr hlk hP hS dX8_lay_57
          have hf := (if_neg h_3).symm.trans hf
          cases hf
        · have hf := (if_neg hc).symm.trans hf
          refine lv_aload_n (pc := 37) hx hb dX8_lay_37 rfl (lv_at hl 1 rfl) ?_
          refine lv_iload (pc := 38) hx hb dX8_lay_38 (lv_at hl 0 rfl) ?_
          obtain ⟨r8, c9, hq, hf⟩ := bind2_some hf
          refine fin_i (run_V (rest := []) (pc := 40) (As := [.int r3]) C mf_X8_139 (c_X8_found l D cA a x_stale x_finding r3 (r8, c9) hq H.size) rfl rfl ⟨(Nat.le_of_ble_eq_true rfl), (Nat.le_of_ble_eq_true rfl)⟩ (preV_of C hP hD [0] rfl rfl 0 rfl rfl rfl) rfl hl.1 rfl (Nat.le_of_ble_eq_true rfl) dX8_lay_40 ⟨Nat.zero_le _, Nat.zero_le _⟩) hP hD hS hA [0] rfl rfl (fun H locs hP hS => ?_)
          have hP : va_P D classes (wl_X8_lay cA a x_stale c9 sheet0_lost sheet0_form sheet0_size sheet0_items sheet1_lost sheet1_form sheet1_size sheet1_items sheet2_lost sheet2_form sheet2_size sheet2_items sheet3_lost sheet3_form sheet3_size sheet3_items) H := hP
          have hD : va_D (va_A ws0 sz) (wl_X8_lay cA a x_stale c9 sheet0_lost sheet0_form sheet0_size sheet0_items sheet1_lost sheet1_form sheet1_size sheet1_items sheet2_lost sheet2_form sheet2_size sheet2_items sheet3_lost sheet3_form sheet3_size sheet3_items) := vd_a hD rfl
          have hf := Option.some.inj hf
          subst hf
          exact ret_i C hr hlk hP hS dX8_lay_43
      have hf := (if_neg h_0).symm.trans hf
      by_cases h_1 : x1 = (1 : Int32)
      · have hf := (if_pos h_1).symm.trans hf
        refine g_aald (pc := 24) (b := (a 48)) C hP 1 rfl (t0 := 3) rfl (by rw [h_1]; decide) (by rw [h_1, tn_1]; rfl) dX8_lay_24 ?_
        refine lv_iload_n (pc := 25) hx hb dX8_lay_25 rfl (lv_at hl 2 rfl) ?_
        refine lv_iload_n (pc := 26) hx hb dX8_lay_26 rfl (lv_at hl 3 rfl) ?_
        obtain ⟨r10, hq, hf⟩ := bind1_some hf
        refine fin_i (run_V (rest := []) (pc := 27) (As := [.int x2, .int x3]) C mf_X8_315 (c_X5_wrongWith l D cA (a 48) (a 49) sheet1_lost sheet1_form sheet1_size x2 x3 r10 hq H.size) rfl rfl ⟨(Nat.le_of_ble_eq_true rfl), (Nat.le_of_ble_eq_true rfl)⟩ (preV_of C hP hD [4] rfl rfl 0 rfl rfl rfl) rfl hl.1 rfl (Nat.le_of_ble_eq_true rfl) dX8_lay_27 ⟨Nat.zero_le _, Nat.zero_le _⟩) hP hD hS hA [4] rfl rfl (fun H locs hP hS => ?_)
        have hP : va_P D classes (wl_X8_lay cA a x_stale x_finding sheet0_lost sheet0_form sheet0_size sheet0_items sheet1_lost sheet1_form sheet1_size sheet1_items sheet2_lost sheet2_form sheet2_size sheet2_items sheet3_lost sheet3_form sheet3_size sheet3_items) H := hP
        have hD : va_D (va_A ws0 sz) (wl_X8_lay cA a x_stale x_finding sheet0_lost sheet0_form sheet0_size sheet0_items sheet1_lost sheet1_form sheet1_size sheet1_items sheet2_lost sheet2_form sheet2_size sheet2_items sheet3_lost sheet3_form sheet3_size sheet3_items) := vd_a hD rfl
        refine lv_istore (pc := 30) (lv' := [(5, .int r10), (0, .ref (a 0)), (1, .int x1), (2, .int x2), (3, .int x3), (4, .int x4)]) hx hb dX8_lay_30 hl (Nat.le_of_ble_eq_true rfl) rfl (fun ls hl => ?_)
        refine lv_iload (pc := 32) hx hb dX8_lay_32 (lv_at hl 0 rfl) ?_
        refine lv_if_eq (pc := 34) (tgt := 44) hx hb dX8_lay_34 (by decide) (fun hc => ?_) (fun hc => ?_)
        · have hf := (if_pos hc).symm.trans hf
          refine lv_aload_n (pc := 44) hx hb dX8_lay_44 rfl (lv_at hl 1 rfl) ?_
          refine g_get (pc := 45) C fg_X8_77 hP 0 rfl rfl dX8_lay_45 ?_
          refine lv_iload_n (pc := 48) hx hb dX8_lay_48 rfl (lv_at hl 2 rfl) ?_
          by_cases h_0 : x1 = (0 : Int32)
          · have hf := (if_pos h_0).symm.trans hf
            refine g_aald (pc := 49) (b := (a 46)) C hP 1 rfl (t0 := 3) rfl (by rw [h_0]; decide) (by rw [h_0, tn_0]; rfl) dX8_lay_49 ?_
            refine lv_iload_n (pc := 50) hx hb dX8_lay_50 rfl (lv_at hl 4 rfl) ?_
            refine lv_iload (pc := 51) hx hb dX8_lay_51 (lv_at hl 5 rfl) ?_
            obtain ⟨c11, hq, hf⟩ := bind1_some hf
            refine fin_v (run_V (rest := []) (pc := 53) (As := [.int x3, .int x4]) C mf_X8_318 (c_X5_keep l D cA (a 46) (a 47) sheet0_lost sheet0_form sheet0_size sheet0_items x3 x4 c11 hq H.size) rfl rfl ⟨(Nat.le_of_ble_eq_true rfl), (Nat.le_of_ble_eq_true rfl)⟩ (preV_of C hP hD [2, 3] rfl rfl 0 rfl rfl rfl) rfl hl.1 rfl (Nat.le_of_ble_eq_true rfl) dX8_lay_53 ⟨Nat.zero_le _, Nat.zero_le _⟩) hP hD hS hA [2, 3] rfl rfl (fun H locs hP hS => ?_)
            have hP : va_P D classes (wl_X8_lay cA a x_stale x_finding sheet0_lost sheet0_form sheet0_size c11 sheet1_lost sheet1_form sheet1_size sheet1_items sheet2_lost sheet2_form sheet2_size sheet2_items sheet3_lost sheet3_form sheet3_size sheet3_items) H := hP
            have hD : va_D (va_A ws0 sz) (wl_X8_lay cA a x_stale x_finding sheet0_lost sheet0_form sheet0_size c11 sheet1_lost sheet1_form sheet1_size sheet1_items sheet2_lost sheet2_form sheet2_size sheet2_items sheet3_lost sheet3_form sheet3_size sheet3_items) := vd_a hD rfl
            refine lv_iconst (pc := 56) (v := 1) hx hb dX8_lay_56 ic_1 ?_
            have hf := Option.some.inj hf
            subst hf
            exact ret_i C hr hlk hP hS dX8_lay_57
          have hf := (if_neg h_0).symm.trans hf
          by_cases h_1 : x1 = (1 : Int32)
          · have hf := (if_pos h_1).symm.trans hf
            refine g_aald (pc := 49) (b := (a 48)) C hP 1 rfl (t0 := 3) rfl (by rw [h_1]; decide) (by rw [h_1, tn_1]; rfl) dX8_lay_49 ?_
            refine lv_iload_n (pc := 50) hx hb dX8_lay_50 rfl (lv_at hl 4 rfl) ?_
            refine lv_iload (pc := 51) hx hb dX8_lay_51 (lv_at hl 5 rfl) ?_
            obtain ⟨c12, hq, hf⟩ := bind1_some hf
            refine fin_v (run_V (rest := []) (pc := 53) (As := [.int x3, .int x4]) C mf_X8_318 (c_X5_keep l D cA (a 48) (a 49) sheet1_lost sheet1_form sheet1_size sheet1_items x3 x4 c12 hq H.size) rfl rfl ⟨(Nat.le_of_ble_eq_true rfl), (Nat.le_of_ble_eq_true rfl)⟩ (preV_of C hP hD [4, 5] rfl rfl 0 rfl rfl rfl) rfl hl.1 rfl (Nat.le_of_ble_eq_true rfl) dX8_lay_53 ⟨Nat.zero_le _, Nat.zero_le _⟩) hP hD hS hA [4, 5] rfl rfl (fun H locs hP hS => ?_)
            have hP : va_P D classes (wl_X8_lay cA a x_stale x_finding sheet0_lost sheet0_form sheet0_size sheet0_items sheet1_lost sheet1_form sheet1_size c12 sheet2_lost sheet2_form sheet2_size sheet2_items sheet3_lost sheet3_form sheet3_size sheet3_items) H := hP
            have hD : va_D (va_A ws0 sz) (wl_X8_lay cA a x_stale x_finding sheet0_lost sheet0_form sheet0_size sheet0_items sheet1_lost sheet1_form sheet1_size c12 sheet2_lost sheet2_form sheet2_size sheet2_items sheet3_lost sheet3_form sheet3_size sheet3_items) := vd_a hD rfl
            refine lv_iconst (pc := 56) (v := 1) hx hb dX8_lay_56 ic_1 ?_
            have hf := Option.some.inj hf
            subst hf
            exact ret_i C hr hlk hP hS dX8_lay_57
          have hf := (if_neg h_1).symm.trans hf
          by_cases h_2 : x1 = (2 : Int32)
          · have hf := (if_pos h_2).symm.trans hf
            refine g_aald (pc := 49) (b := (a 50)) C hP 1 rfl (t0 := 3) rfl (by rw [h_2]; decide) (by rw [h_2, tn_2]; rfl) dX8_lay_49 ?_
            refine lv_iload_n (pc := 50) hx hb dX8_lay_50 rfl (lv_at hl 4 rfl) ?_
            refine lv_iload (pc := 51) hx hb dX8_lay_51 (lv_at hl 5 rfl) ?_
            obtain ⟨c13, hq, hf⟩ := bind1_some hf
            refine fin_v (run_V (rest := []) (pc := 53) (As := [.int x3, .int x4]) C mf_X8_318 (c_X5_keep l D cA (a 50) (a 51) sheet2_lost sheet2_form sheet2_size sheet2_items x3 x4 c13 hq H.size) rfl rfl ⟨(Nat.le_of_ble_eq_true rfl), (Nat.le_of_ble_eq_true rfl)⟩ (preV_of C hP hD [6, 7] rfl rfl 0 rfl rfl rfl) rfl hl.1 rfl (Nat.le_of_ble_eq_true rfl) dX8_lay_53 ⟨Nat.zero_le _, Nat.zero_le _⟩) hP hD hS hA [6, 7] rfl rfl (fun H locs hP hS => ?_)
            have hP : va_P D classes (wl_X8_lay cA a x_stale x_finding sheet0_lost sheet0_form sheet0_size sheet0_items sheet1_lost sheet1_form sheet1_size sheet1_items sheet2_lost sheet2_form sheet2_size c13 sheet3_lost sheet3_form sheet3_size sheet3_items) H := hP
            have hD : va_D (va_A ws0 sz) (wl_X8_lay cA a x_stale x_finding sheet0_lost sheet0_form sheet0_size sheet0_items sheet1_lost sheet1_form sheet1_size sheet1_items sheet2_lost sheet2_form sheet2_size c13 sheet3_lost sheet3_form sheet3_size sheet3_items) := vd_a hD rfl
            refine lv_iconst (pc := 56) (v := 1) hx hb dX8_lay_56 ic_1 ?_
            have hf := Option.some.inj hf
            subst hf
            exact ret_i C hr hlk hP hS dX8_lay_57
          have hf := (if_neg h_2).symm.trans hf
          by_cases h_3 : x1 = (3 : Int32)
          · have hf := (if_pos h_3).symm.trans hf
            refine g_aald (pc := 49) (b := (a 52)) C hP 1 rfl (t0 := 3) rfl (by rw [h_3]; decide) (by rw [h_3, tn_3]; rfl) dX8_lay_49 ?_
            refine lv_iload_n (pc := 50) hx hb dX8_lay_50 rfl (lv_at hl 4 rfl) ?_
            refine lv_iload (pc := 51) hx hb dX8_lay_51 (lv_at hl 5 rfl) ?_
            obtain ⟨c14, hq, hf⟩ := bind1_some hf
            refine fin_v (run_V (rest := []) (pc := 53) (As := [.int x3, .int x4]) C mf_X8_318 (c_X5_keep l D cA (a 52) (a 53) sheet3_lost sheet3_form sheet3_size sheet3_items x3 x4 c14 hq H.size) rfl rfl ⟨(Nat.le_of_ble_eq_true rfl), (Nat.le_of_ble_eq_true rfl)⟩ (preV_of C hP hD [8, 9] rfl rfl 0 rfl rfl rfl) rfl hl.1 rfl (Nat.le_of_ble_eq_true rfl) dX8_lay_53 ⟨Nat.zero_le _, Nat.zero_le _⟩) hP hD hS hA [8, 9] rfl rfl (fun H locs hP hS => ?_)
            have hP : va_P D classes (wl_X8_lay cA a x_stale x_finding sheet0_lost sheet0_form sheet0_size sheet0_items sheet1_lost sheet1_form sheet1_size sheet1_items sheet2_lost sheet2_form sheet2_size sheet2_items sheet3_lost sheet3_form sheet3_size c14) H := hP
            have hD : va_D (va_A ws0 sz) (wl_X8_lay cA a x_stale x_finding sheet0_lost sheet0_form sheet0_size sheet0_items sheet1_lost sheet1_form sheet1_size sheet1_items sheet2_lost sheet2_form sheet2_size sheet2_items sheet3_lost sheet3_form sheet3_size c14) := vd_a hD rfl
            refine lv_iconst (pc := 56) (v := 1) hx hb dX8_lay_56 ic_1 ?_
            have hf := Option.some.inj hf
            subst hf
            exact ret_i C hr hlk hP hS dX8_lay_57
          have hf := (if_neg h_3).symm.trans hf
          cases hf
        · have hf := (if_neg hc).symm.trans hf
          refine lv_aload_n (pc := 37) hx hb dX8_lay_37 rfl (lv_at hl 1 rfl) ?_
          refine lv_iload (pc := 38) hx hb dX8_lay_38 (lv_at hl 0 rfl) ?_
          obtain ⟨r15, c16, hq, hf⟩ := bind2_some hf
          refine fin_i (run_V (rest := []) (pc := 40) (As := [.int r10]) C mf_X8_139 (c_X8_found l D cA a x_stale x_finding r10 (r15, c16) hq H.size) rfl rfl ⟨(Nat.le_of_ble_eq_true rfl), (Nat.le_of_ble_eq_true rfl)⟩ (preV_of C hP hD [0] rfl rfl 0 rfl rfl rfl) rfl hl.1 rfl (Nat.le_of_ble_eq_true rfl) dX8_lay_40 ⟨Nat.zero_le _, Nat.zero_le _⟩) hP hD hS hA [0] rfl rfl (fun H locs hP hS => ?_)
          have hP : va_P D classes (wl_X8_lay cA a x_stale c16 sheet0_lost sheet0_form sheet0_size sheet0_items sheet1_lost sheet1_form sheet1_size sheet1_items sheet2_lost sheet2_form sheet2_size sheet2_items sheet3_lost sheet3_form sheet3_size sheet3_items) H := hP
          have hD : va_D (va_A ws0 sz) (wl_X8_lay cA a x_stale c16 sheet0_lost sheet0_form sheet0_size sheet0_items sheet1_lost sheet1_form sheet1_size sheet1_items sheet2_lost sheet2_form sheet2_size sheet2_items sheet3_lost sheet3_form sheet3_size sheet3_items) := vd_a hD rfl
          have hf := Option.some.inj hf
          subst hf
          exact ret_i C hr hlk hP hS dX8_lay_43
      have hf := (if_neg h_1).symm.trans hf
      by_cases h_2 : x1 = (2 : Int32)
      · have hf := (if_pos h_2).symm.trans hf
        refine g_aald (pc := 24) (b := (a 50)) C hP 1 rfl (t0 := 3) rfl (by rw [h_2]; decide) (by rw [h_2, tn_2]; rfl) dX8_lay_24 ?_
        refine lv_iload_n (pc := 25) hx hb dX8_lay_25 rfl (lv_at hl 2 rfl) ?_
        refine lv_iload_n (pc := 26) hx hb dX8_lay_26 rfl (lv_at hl 3 rfl) ?_
        obtain ⟨r17, hq, hf⟩ := bind1_some hf
        refine fin_i (run_V (rest := []) (pc := 27) (As := [.int x2, .int x3]) C mf_X8_315 (c_X5_wrongWith l D cA (a 50) (a 51) sheet2_lost sheet2_form sheet2_size x2 x3 r17 hq H.size) rfl rfl ⟨(Nat.le_of_ble_eq_true rfl), (Nat.le_of_ble_eq_true rfl)⟩ (preV_of C hP hD [6] rfl rfl 0 rfl rfl rfl) rfl hl.1 rfl (Nat.le_of_ble_eq_true rfl) dX8_lay_27 ⟨Nat.zero_le _, Nat.zero_le _⟩) hP hD hS hA [6] rfl rfl (fun H locs hP hS => ?_)
        have hP : va_P D classes (wl_X8_lay cA a x_stale x_finding sheet0_lost sheet0_form sheet0_size sheet0_items sheet1_lost sheet1_form sheet1_size sheet1_items sheet2_lost sheet2_form sheet2_size sheet2_items sheet3_lost sheet3_form sheet3_size sheet3_items) H := hP
        have hD : va_D (va_A ws0 sz) (wl_X8_lay cA a x_stale x_finding sheet0_lost sheet0_form sheet0_size sheet0_items sheet1_lost sheet1_form sheet1_size sheet1_items sheet2_lost sheet2_form sheet2_size sheet2_items sheet3_lost sheet3_form sheet3_size sheet3_items) := vd_a hD rfl
        refine lv_istore (pc := 30) (lv' := [(5, .int r17), (0, .ref (a 0)), (1, .int x1), (2, .int x2), (3, .int x3), (4, .int x4)]) hx hb dX8_lay_30 hl (Nat.le_of_ble_eq_true rfl) rfl (fun ls hl => ?_)
        refine lv_iload (pc := 32) hx hb dX8_lay_32 (lv_at hl 0 rfl) ?_
        refine lv_if_eq (pc := 34) (tgt := 44) hx hb dX8_lay_34 (by decide) (fun hc => ?_) (fun hc => ?_)
        · have hf := (if_pos hc).symm.trans hf
          refine lv_aload_n (pc := 44) hx hb dX8_lay_44 rfl (lv_at hl 1 rfl) ?_
          refine g_get (pc := 45) C fg_X8_77 hP 0 rfl rfl dX8_lay_45 ?_
          refine lv_iload_n (pc := 48) hx hb dX8_lay_48 rfl (lv_at hl 2 rfl) ?_
          by_cases h_0 : x1 = (0 : Int32)
          · have hf := (if_pos h_0).symm.trans hf
            refine g_aald (pc := 49) (b := (a 46)) C hP 1 rfl (t0 := 3) rfl (by rw [h_0]; decide) (by rw [h_0, tn_0]; rfl) dX8_lay_49 ?_
            refine lv_iload_n (pc := 50) hx hb dX8_lay_50 rfl (lv_at hl 4 rfl) ?_
            refine lv_iload (pc := 51) hx hb dX8_lay_51 (lv_at hl 5 rfl) ?_
            obtain ⟨c18, hq, hf⟩ := bind1_some hf
            refine fin_v (run_V (rest := []) (pc := 53) (As := [.int x3, .int x4]) C mf_X8_318 (c_X5_keep l D cA (a 46) (a 47) sheet0_lost sheet0_form sheet0_size sheet0_items x3 x4 c18 hq H.size) rfl rfl ⟨(Nat.le_of_ble_eq_true rfl), (Nat.le_of_ble_eq_true rfl)⟩ (preV_of C hP hD [2, 3] rfl rfl 0 rfl rfl rfl) rfl hl.1 rfl (Nat.le_of_ble_eq_true rfl) dX8_lay_53 ⟨Nat.zero_le _, Nat.zero_le _⟩) hP hD hS hA [2, 3] rfl rfl (fun H locs hP hS => ?_)
            have hP : va_P D classes (wl_X8_lay cA a x_stale x_finding sheet0_lost sheet0_form sheet0_size c18 sheet1_lost sheet1_form sheet1_size sheet1_items sheet2_lost sheet2_form sheet2_size sheet2_items sheet3_lost sheet3_form sheet3_size sheet3_items) H := hP
            have hD : va_D (va_A ws0 sz) (wl_X8_lay cA a x_stale x_finding sheet0_lost sheet0_form sheet0_size c18 sheet1_lost sheet1_form sheet1_size sheet1_items sheet2_lost sheet2_form sheet2_size sheet2_items sheet3_lost sheet3_form sheet3_size sheet3_items) := vd_a hD rfl
            refine lv_iconst (pc := 56) (v := 1) hx hb dX8_lay_56 ic_1 ?_
            have hf := Option.some.inj hf
            subst hf
            exact ret_i C hr hlk hP hS dX8_lay_57
          have hf := (if_neg h_0).symm.trans hf
          by_cases h_1 : x1 = (1 : Int32)
          · have hf := (if_pos h_1).symm.trans hf
            refine g_aald (pc := 49) (b := (a 48)) C hP 1 rfl (t0 := 3) rfl (by rw [h_1]; decide) (by rw [h_1, tn_1]; rfl) dX8_lay_49 ?_
            refine lv_iload_n (pc := 50) hx hb dX8_lay_50 rfl (lv_at hl 4 rfl) ?_
            refine lv_iload (pc := 51) hx hb dX8_lay_51 (lv_at hl 5 rfl) ?_
            obtain ⟨c19, hq, hf⟩ := bind1_some hf
            refine fin_v (run_V (rest := []) (pc := 53) (As := [.int x3, .int x4]) C mf_X8_318 (c_X5_keep l D cA (a 48) (a 49) sheet1_lost sheet1_form sheet1_size sheet1_items x3 x4 c19 hq H.size) rfl rfl ⟨(Nat.le_of_ble_eq_true rfl), (Nat.le_of_ble_eq_true rfl)⟩ (preV_of C hP hD [4, 5] rfl rfl 0 rfl rfl rfl) rfl hl.1 rfl (Nat.le_of_ble_eq_true rfl) dX8_lay_53 ⟨Nat.zero_le _, Nat.zero_le _⟩) hP hD hS hA [4, 5] rfl rfl (fun H locs hP hS => ?_)
            have hP : va_P D classes (wl_X8_lay cA a x_stale x_finding sheet0_lost sheet0_form sheet0_size sheet0_items sheet1_lost sheet1_form sheet1_size c19 sheet2_lost sheet2_form sheet2_size sheet2_items sheet3_lost sheet3_form sheet3_size sheet3_items) H := hP
            have hD : va_D (va_A ws0 sz) (wl_X8_lay cA a x_stale x_finding sheet0_lost sheet0_form sheet0_size sheet0_items sheet1_lost sheet1_form sheet1_size c19 sheet2_lost sheet2_form sheet2_size sheet2_items sheet3_lost sheet3_form sheet3_size sheet3_items) := vd_a hD rfl
            refine lv_iconst (pc := 56) (v := 1) hx hb dX8_lay_56 ic_1 ?_
            have hf := Option.some.inj hf
            subst hf
            exact ret_i C hr hlk hP hS dX8_lay_57
          have hf := (if_neg h_1).symm.trans hf
          by_cases h_2 : x1 = (2 : Int32)
          · have hf := (if_pos h_2).symm.trans hf
            refine g_aald (pc := 49) (b := (a 50)) C hP 1 rfl (t0 := 3) rfl (by rw [h_2]; decide) (by rw [h_2, tn_2]; rfl) dX8_lay_49 ?_
            refine lv_iload_n (pc := 50) hx hb dX8_lay_50 rfl (lv_at hl 4 rfl) ?_
            refine lv_iload (pc := 51) hx hb dX8_lay_51 (lv_at hl 5 rfl) ?_
            obtain ⟨c20, hq, hf⟩ := bind1_some hf
            refine fin_v (run_V (rest := []) (pc := 53) (As := [.int x3, .int x4]) C mf_X8_318 (c_X5_keep l D cA (a 50) (a 51) sheet2_lost sheet2_form sheet2_size sheet2_items x3 x4 c20 hq H.size) rfl rfl ⟨(Nat.le_of_ble_eq_true rfl), (Nat.le_of_ble_eq_true rfl)⟩ (preV_of C hP hD [6, 7] rfl rfl 0 rfl rfl rfl) rfl hl.1 rfl (Nat.le_of_ble_eq_true rfl) dX8_lay_53 ⟨Nat.zero_le _, Nat.zero_le _⟩) hP hD hS hA [6, 7] rfl rfl (fun H locs hP hS => ?_)
            have hP : va_P D classes (wl_X8_lay cA a x_stale x_finding sheet0_lost sheet0_form sheet0_size sheet0_items sheet1_lost sheet1_form sheet1_size sheet1_items sheet2_lost sheet2_form sheet2_size c20 sheet3_lost sheet3_form sheet3_size sheet3_items) H := hP
            have hD : va_D (va_A ws0 sz) (wl_X8_lay cA a x_stale x_finding sheet0_lost sheet0_form sheet0_size sheet0_items sheet1_lost sheet1_form sheet1_size sheet1_items sheet2_lost sheet2_form sheet2_size c20 sheet3_lost sheet3_form sheet3_size sheet3_items) := vd_a hD rfl
            refine lv_iconst (pc := 56) (v := 1) hx hb dX8_lay_56 ic_1 ?_
            have hf := Option.some.inj hf
            subst hf
            exact ret_i C hr hlk hP hS dX8_lay_57
          have hf := (if_neg h_2).symm.trans hf
          by_cases h_3 : x1 = (3 : Int32)
          · have hf := (if_pos h_3).symm.trans hf
            refine g_aald (pc := 49) (b := (a 52)) C hP 1 rfl (t0 := 3) rfl (by rw [h_3]; decide) (by rw [h_3, tn_3]; rfl) dX8_lay_49 ?_
            refine lv_iload_n (pc := 50) hx hb dX8_lay_50 rfl (lv_at hl 4 rfl) ?_
            refine lv_iload (pc := 51) hx hb dX8_lay_51 (lv_at hl 5 rfl) ?_
            obtain ⟨c21, hq, hf⟩ := bind1_some hf
            refine fin_v (run_V (rest := []) (pc := 53) (As := [.int x3, .int x4]) C mf_X8_318 (c_X5_keep l D cA (a 52) (a 53) sheet3_lost sheet3_form sheet3_size sheet3_items x3 x4 c21 hq H.size) rfl rfl ⟨(Nat.le_of_ble_eq_true rfl), (Nat.le_of_ble_eq_true rfl)⟩ (preV_of C hP hD [8, 9] rfl rfl 0 rfl rfl rfl) rfl hl.1 rfl (Nat.le_of_ble_eq_true rfl) dX8_lay_53 ⟨Nat.zero_le _, Nat.zero_le _⟩) hP hD hS hA [8, 9] rfl rfl (fun H locs hP hS => ?_)
            have hP : va_P D classes (wl_X8_lay cA a x_stale x_finding sheet0_lost sheet0_form sheet0_size sheet0_items sheet1_lost sheet1_form sheet1_size sheet1_items sheet2_lost sheet2_form sheet2_size sheet2_items sheet3_lost sheet3_form sheet3_size c21) H := hP
            have hD : va_D (va_A ws0 sz) (wl_X8_lay cA a x_stale x_finding sheet0_lost sheet0_form sheet0_size sheet0_items sheet1_lost sheet1_form sheet1_size sheet1_items sheet2_lost sheet2_form sheet2_size sheet2_items sheet3_lost sheet3_form sheet3_size c21) := vd_a hD rfl
            refine lv_iconst (pc := 56) (v := 1) hx hb dX8_lay_56 ic_1 ?_
            have hf := Option.some.inj hf
            subst hf
            exact ret_i C hr hlk hP hS dX8_lay_57
          have hf := (if_neg h_3).symm.trans hf
          cases hf
        · have hf := (if_neg hc).symm.trans hf
          refine lv_aload_n (pc := 37) hx hb dX8_lay_37 rfl (lv_at hl 1 rfl) ?_
          refine lv_iload (pc := 38) hx hb dX8_lay_38 (lv_at hl 0 rfl) ?_
          obtain ⟨r22, c23, hq, hf⟩ := bind2_some hf
          refine fin_i (run_V (rest := []) (pc := 40) (As := [.int r17]) C mf_X8_139 (c_X8_found l D cA a x_stale x_finding r17 (r22, c23) hq H.size) rfl rfl ⟨(Nat.le_of_ble_eq_true rfl), (Nat.le_of_ble_eq_true rfl)⟩ (preV_of C hP hD [0] rfl rfl 0 rfl rfl rfl) rfl hl.1 rfl (Nat.le_of_ble_eq_true rfl) dX8_lay_40 ⟨Nat.zero_le _, Nat.zero_le _⟩) hP hD hS hA [0] rfl rfl (fun H locs hP hS => ?_)
          have hP : va_P D classes (wl_X8_lay cA a x_stale c23 sheet0_lost sheet0_form sheet0_size sheet0_items sheet1_lost sheet1_form sheet1_size sheet1_items sheet2_lost sheet2_form sheet2_size sheet2_items sheet3_lost sheet3_form sheet3_size sheet3_items) H := hP
          have hD : va_D (va_A ws0 sz) (wl_X8_lay cA a x_stale c23 sheet0_lost sheet0_form sheet0_size sheet0_items sheet1_lost sheet1_form sheet1_size sheet1_items sheet2_lost sheet2_form sheet2_size sheet2_items sheet3_lost sheet3_form sheet3_size sheet3_items) := vd_a hD rfl
          have hf := Option.some.inj hf
          subst hf
          exact ret_i C hr hlk hP hS dX8_lay_43
      have hf := (if_neg h_2).symm.trans hf
      by_cases h_3 : x1 = (3 : Int32)
      · have hf := (if_pos h_3).symm.trans hf
        refine g_aald (pc := 24) (b := (a 52)) C hP 1 rfl (t0 := 3) rfl (by rw [h_3]; decide) (by rw [h_3, tn_3]; rfl) dX8_lay_24 ?_
        refine lv_iload_n (pc := 25) hx hb dX8_lay_25 rfl (lv_at hl 2 rfl) ?_
        refine lv_iload_n (pc := 26) hx hb dX8_lay_26 rfl (lv_at hl 3 rfl) ?_
        obtain ⟨r24, hq, hf⟩ := bind1_some hf
        refine fin_i (run_V (rest := []) (pc := 27) (As := [.int x2, .int x3]) C mf_X8_315 (c_X5_wrongWith l D cA (a 52) (a 53) sheet3_lost sheet3_form sheet3_size x2 x3 r24 hq H.size) rfl rfl ⟨(Nat.le_of_ble_eq_true rfl), (Nat.le_of_ble_eq_true rfl)⟩ (preV_of C hP hD [8] rfl rfl 0 rfl rfl rfl) rfl hl.1 rfl (Nat.le_of_ble_eq_true rfl) dX8_lay_27 ⟨Nat.zero_le _, Nat.zero_le _⟩) hP hD hS hA [8] rfl rfl (fun H locs hP hS => ?_)
        have hP : va_P D classes (wl_X8_lay cA a x_stale x_finding sheet0_lost sheet0_form sheet0_size sheet0_items sheet1_lost sheet1_form sheet1_size sheet1_items sheet2_lost sheet2_form sheet2_size sheet2_items sheet3_lost sheet3_form sheet3_size sheet3_items) H := hP
        have hD : va_D (va_A ws0 sz) (wl_X8_lay cA a x_stale x_finding sheet0_lost sheet0_form sheet0_size sheet0_items sheet1_lost sheet1_form sheet1_size sheet1_items sheet2_lost sheet2_form sheet2_size sheet2_items sheet3_lost sheet3_form sheet3_size sheet3_items) := vd_a hD rfl
        refine lv_istore (pc := 30) (lv' := [(5, .int r24), (0, .ref (a 0)), (1, .int x1), (2, .int x2), (3, .int x3), (4, .int x4)]) hx hb dX8_lay_30 hl (Nat.le_of_ble_eq_true rfl) rfl (fun ls hl => ?_)
        refine lv_iload (pc := 32) hx hb dX8_lay_32 (lv_at hl 0 rfl) ?_
        refine lv_if_eq (pc := 34) (tgt := 44) hx hb dX8_lay_34 (by decide) (fun hc => ?_) (fun hc => ?_)
        · have hf := (if_pos hc).symm.trans hf
          refine lv_aload_n (pc := 44) hx hb dX8_lay_44 rfl (lv_at hl 1 rfl) ?_
          refine g_get (pc := 45) C fg_X8_77 hP 0 rfl rfl dX8_lay_45 ?_
          refine lv_iload_n (pc := 48) hx hb dX8_lay_48 rfl (lv_at hl 2 rfl) ?_
          by_cases h_0 : x1 = (0 : Int32)
          · have hf := (if_pos h_0).symm.trans hf
            refine g_aald (pc := 49) (b := (a 46)) C hP 1 rfl (t0 := 3) rfl (by rw [h_0]; decide) (by rw [h_0, tn_0]; rfl) dX8_lay_49 ?_
            refine lv_iload_n (pc := 50) hx hb dX8_lay_50 rfl (lv_at hl 4 rfl) ?_
            refine lv_iload (pc := 51) hx hb dX8_lay_51 (lv_at hl 5 rfl) ?_
            obtain ⟨c25, hq, hf⟩ := bind1_some hf
            refine fin_v (run_V (rest := []) (pc := 53) (As := [.int x3, .int x4]) C mf_X8_318 (c_X5_keep l D cA (a 46) (a 47) sheet0_lost sheet0_form sheet0_size sheet0_items x3 x4 c25 hq H.size) rfl rfl ⟨(Nat.le_of_ble_eq_true rfl), (Nat.le_of_ble_eq_true rfl)⟩ (preV_of C hP hD [2, 3] rfl rfl 0 rfl rfl rfl) rfl hl.1 rfl (Nat.le_of_ble_eq_true rfl) dX8_lay_53 ⟨Nat.zero_le _, Nat.zero_le _⟩) hP hD hS hA [2, 3] rfl rfl (fun H locs hP hS => ?_)
            have hP : va_P D classes (wl_X8_lay cA a x_stale x_finding sheet0_lost sheet0_form sheet0_size c25 sheet1_lost sheet1_form sheet1_size sheet1_items sheet2_lost sheet2_form sheet2_size sheet2_items sheet3_lost sheet3_form sheet3_size sheet3_items) H := hP
            have hD : va_D (va_A ws0 sz) (wl_X8_lay cA a x_stale x_finding sheet0_lost sheet0_form sheet0_size c25 sheet1_lost sheet1_form sheet1_size sheet1_items sheet2_lost sheet2_form sheet2_size sheet2_items sheet3_lost sheet3_form sheet3_size sheet3_items) := vd_a hD rfl
            refine lv_iconst (pc := 56) (v := 1) hx hb dX8_lay_56 ic_1 ?_
            have hf := Option.some.inj hf
            subst hf
            exact ret_i C hr hlk hP hS dX8_lay_57
          have hf := (if_neg h_0).symm.trans hf
          by_cases h_1 : x1 = (1 : Int32)
          · have hf := (if_pos h_1).symm.trans hf
            refine g_aald (pc := 49) (b := (a 48)) C hP 1 rfl (t0 := 3) rfl (by rw [h_1]; decide) (by rw [h_1, tn_1]; rfl) dX8_lay_49 ?_
            refine lv_iload_n (pc := 50) hx hb dX8_lay_50 rfl (lv_at hl 4 rfl) ?_
            refine lv_iload (pc := 51) hx hb dX8_lay_51 (lv_at hl 5 rfl) ?_
            obtain ⟨c26, hq, hf⟩ := bind1_some hf
            refine fin_v (run_V (rest := []) (pc := 53) (As := [.int x3, .int x4]) C mf_X8_318 (c_X5_keep l D cA (a 48) (a 49) sheet1_lost sheet1_form sheet1_size sheet1_items x3 x4 c26 hq H.size) rfl rfl ⟨(Nat.le_of_ble_eq_true rfl), (Nat.le_of_ble_eq_true rfl)⟩ (preV_of C hP hD [4, 5] rfl rfl 0 rfl rfl rfl) rfl hl.1 rfl (Nat.le_of_ble_eq_true rfl) dX8_lay_53 ⟨Nat.zero_le _, Nat.zero_le _⟩) hP hD hS hA [4, 5] rfl rfl (fun H locs hP hS => ?_)
            have hP : va_P D classes (wl_X8_lay cA a x_stale x_finding sheet0_lost sheet0_form sheet0_size sheet0_items sheet1_lost sheet1_form sheet1_size c26 sheet2_lost sheet2_form sheet2_size sheet2_items sheet3_lost sheet3_form sheet3_size sheet3_items) H := hP
            have hD : va_D (va_A ws0 sz) (wl_X8_lay cA a x_stale x_finding sheet0_lost sheet0_form sheet0_size sheet0_items sheet1_lost sheet1_form sheet1_size c26 sheet2_lost sheet2_form sheet2_size sheet2_items sheet3_lost sheet3_form sheet3_size sheet3_items) := vd_a hD rfl
            refine lv_iconst (pc := 56) (v := 1) hx hb dX8_lay_56 ic_1 ?_
            have hf := Option.some.inj hf
            subst hf
            exact ret_i C hr hlk hP hS dX8_lay_57
          have hf := (if_neg h_1).symm.trans hf
          by_cases h_2 : x1 = (2 : Int32)
          · have hf := (if_pos h_2).symm.trans hf
            refine g_aald (pc := 49) (b := (a 50)) C hP 1 rfl (t0 := 3) rfl (by rw [h_2]; decide) (by rw [h_2, tn_2]; rfl) dX8_lay_49 ?_
            refine lv_iload_n (pc := 50) hx hb dX8_lay_50 rfl (lv_at hl 4 rfl) ?_
            refine lv_iload (pc := 51) hx hb dX8_lay_51 (lv_at hl 5 rfl) ?_
            obtain ⟨c27, hq, hf⟩ := bind1_some hf
            refine fin_v (run_V (rest := []) (pc := 53) (As := [.int x3, .int x4]) C mf_X8_318 (c_X5_keep l D cA (a 50) (a 51) sheet2_lost sheet2_form sheet2_size sheet2_items x3 x4 c27 hq H.size) rfl rfl ⟨(Nat.le_of_ble_eq_true rfl), (Nat.le_of_ble_eq_true rfl)⟩ (preV_of C hP hD [6, 7] rfl rfl 0 rfl rfl rfl) rfl hl.1 rfl (Nat.le_of_ble_eq_true rfl) dX8_lay_53 ⟨Nat.zero_le _, Nat.zero_le _⟩) hP hD hS hA [6, 7] rfl rfl (fun H locs hP hS => ?_)
            have hP : va_P D classes (wl_X8_lay cA a x_stale x_finding sheet0_lost sheet0_form sheet0_size sheet0_items sheet1_lost sheet1_form sheet1_size sheet1_items sheet2_lost sheet2_form sheet2_size c27 sheet3_lost sheet3_form sheet3_size sheet3_items) H := hP
            have hD : va_D (va_A ws0 sz) (wl_X8_lay cA a x_stale x_finding sheet0_lost sheet0_form sheet0_size sheet0_items sheet1_lost sheet1_form sheet1_size sheet1_items sheet2_lost sheet2_form sheet2_size c27 sheet3_lost sheet3_form sheet3_size sheet3_items) := vd_a hD rfl
            refine lv_iconst (pc := 56) (v := 1) hx hb dX8_lay_56 ic_1 ?_
            have hf := Option.some.inj hf
            subst hf
            exact ret_i C hr hlk hP hS dX8_lay_57
          have hf := (if_neg h_2).symm.trans hf
          by_cases h_3 : x1 = (3 : Int32)
          · have hf := (if_pos h_3).symm.trans hf
            refine g_aald (pc := 49) (b := (a 52)) C hP 1 rfl (t0 := 3) rfl (by rw [h_3]; decide) (by rw [h_3, tn_3]; rfl) dX8_lay_49 ?_
            refine lv_iload_n (pc := 50) hx hb dX8_lay_50 rfl (lv_at hl 4 rfl) ?_
            refine lv_iload (pc := 51) hx hb dX8_lay_51 (lv_at hl 5 rfl) ?_
            obtain ⟨c28, hq, hf⟩ := bind1_some hf
            refine fin_v (run_V (rest := []) (pc := 53) (As := [.int x3, .int x4]) C mf_X8_318 (c_X5_keep l D cA (a 52) (a 53) sheet3_lost sheet3_form sheet3_size sheet3_items x3 x4 c28 hq H.size) rfl rfl ⟨(Nat.le_of_ble_eq_true rfl), (Nat.le_of_ble_eq_true rfl)⟩ (preV_of C hP hD [8, 9] rfl rfl 0 rfl rfl rfl) rfl hl.1 rfl (Nat.le_of_ble_eq_true rfl) dX8_lay_53 ⟨Nat.zero_le _, Nat.zero_le _⟩) hP hD hS hA [8, 9] rfl rfl (fun H locs hP hS => ?_)
            have hP : va_P D classes (wl_X8_lay cA a x_stale x_finding sheet0_lost sheet0_form sheet0_size sheet0_items sheet1_lost sheet1_form sheet1_size sheet1_items sheet2_lost sheet2_form sheet2_size sheet2_items sheet3_lost sheet3_form sheet3_size c28) H := hP
            have hD : va_D (va_A ws0 sz) (wl_X8_lay cA a x_stale x_finding sheet0_lost sheet0_form sheet0_size sheet0_items sheet1_lost sheet1_form sheet1_size sheet1_items sheet2_lost sheet2_form sheet2_size sheet2_items sheet3_lost sheet3_form sheet3_size c28) := vd_a hD rfl
            refine lv_iconst (pc := 56) (v := 1) hx hb dX8_lay_56 ic_1 ?_
            have hf := Option.some.inj hf
            subst hf
            exact ret_i C hr hlk hP hS dX8_lay_57
          have hf := (if_neg h_3).symm.trans hf
          cases hf
        · have hf := (if_neg hc).symm.trans hf
          refine lv_aload_n (pc := 37) hx hb dX8_lay_37 rfl (lv_at hl 1 rfl) ?_
          refine lv_iload (pc := 38) hx hb dX8_lay_38 (lv_at hl 0 rfl) ?_
          obtain ⟨r29, c30, hq, hf⟩ := bind2_some hf
          refine fin_i (run_V (rest := []) (pc := 40) (As := [.int r24]) C mf_X8_139 (c_X8_found l D cA a x_stale x_finding r24 (r29, c30) hq H.size) rfl rfl ⟨(Nat.le_of_ble_eq_true rfl), (Nat.le_of_ble_eq_true rfl)⟩ (preV_of C hP hD [0] rfl rfl 0 rfl rfl rfl) rfl hl.1 rfl (Nat.le_of_ble_eq_true rfl) dX8_lay_40 ⟨Nat.zero_le _, Nat.zero_le _⟩) hP hD hS hA [0] rfl rfl (fun H locs hP hS => ?_)
          have hP : va_P D classes (wl_X8_lay cA a x_stale c30 sheet0_lost sheet0_form sheet0_size sheet0_items sheet1_lost sheet1_form sheet1_size sheet1_items sheet2_lost sheet2_form sheet2_size sheet2_items sheet3_lost sheet3_form sheet3_size sheet3_items) H := hP
          have hD : va_D (va_A ws0 sz) (wl_X8_lay cA a x_stale c30 sheet0_lost sheet0_form sheet0_size sheet0_items sheet1_lost sheet1_form sheet1_size sheet1_items sheet2_lost sheet2_form sheet2_size sheet2_items sheet3_lost sheet3_form sheet3_size sheet3_items) := vd_a hD rfl
          have hf := Option.some.inj hf
          subst hf
          exact ret_i C hr hlk hP hS dX8_lay_43
      have hf := (if_neg h_3).symm.trans hf
      cases hf
    · have hf := (if_pos hc).symm.trans hf
      refine lv_bipush (pc := 16) (v := (-2)) hx hb dX8_lay_16 bp_m2 ?_
      have hf := Option.some.inj hf
      subst hf
      exact ret_i C hr hlk hP hS dX8_lay_18
set_option maxRecDepth 100000 in
theorem c_X8_lay (l : Launch) (D : va_G) (cA : Nat → ClassId) (a : Nat → Nat) (x_stale : Int32) (x_finding : Int32) (sheet0_lost : Int32) (sheet0_form : Int32) (sheet0_size : Int32) (sheet0_items : Nat → Int32) (sheet1_lost : Int32) (sheet1_form : Int32) (sheet1_size : Int32) (sheet1_items : Nat → Int32) (sheet2_lost : Int32) (sheet2_form : Int32) (sheet2_size : Int32) (sheet2_items : Nat → Int32) (sheet3_lost : Int32) (sheet3_form : Int32) (sheet3_size : Int32) (sheet3_items : Nat → Int32) (x1 : Int32) (x2 : Int32) (x3 : Int32) (x4 : Int32) (r : Int32 × Int32 × (Nat → Int32) × (Nat → Int32) × (Nat → Int32) × (Nat → Int32)) (hf : f_X8_lay x_finding sheet0_lost sheet0_form sheet0_size sheet0_items sheet1_lost sheet1_form sheet1_size sheet1_items sheet2_lost sheet2_form sheet2_size sheet2_items sheet3_lost sheet3_form sheet3_size sheet3_items x1 x2 x3 x4 = some r) (sz : Nat) : Met l yX8_lay (Cond.code yX8_lay cX8_lay 6 (some .int) :: lw_good) rm_X8_lay (PreX D cA [.ref (a 0), .int x1, .int x2, .int x3, .int x4] sz (wl_X8_lay cA a x_stale x_finding sheet0_lost sheet0_form sheet0_size sheet0_items sheet1_lost sheet1_form sheet1_size sheet1_items sheet2_lost sheet2_form sheet2_size sheet2_items sheet3_lost sheet3_form sheet3_size sheet3_items)) (PostI D r.1 (wl_X8_lay cA a x_stale x_finding sheet0_lost sheet0_form sheet0_size sheet0_items sheet1_lost sheet1_form sheet1_size sheet1_items sheet2_lost sheet2_form sheet2_size sheet2_items sheet3_lost sheet3_form sheet3_size sheet3_items) (wl_X8_lay cA a x_stale (r.2.1) sheet0_lost sheet0_form sheet0_size (r.2.2.1) sheet1_lost sheet1_form sheet1_size (r.2.2.2.1) sheet2_lost sheet2_form sheet2_size (r.2.2.2.2.1) sheet3_lost sheet3_form sheet3_size (r.2.2.2.2.2)) sz) 0 0 (va_A (wl_X8_lay cA a x_stale x_finding sheet0_lost sheet0_form sheet0_size sheet0_items sheet1_lost sheet1_form sheet1_size sheet1_items sheet2_lost sheet2_form sheet2_size sheet2_items sheet3_lost sheet3_form sheet3_size sheet3_items) sz) :=
  met_of (by decide) (Nat.le_of_ble_eq_true rfl) (fun p e s m args below meth c C hr hlk hA => k_X8_lay C hr hlk hA a x_stale x_finding sheet0_lost sheet0_form sheet0_size sheet0_items sheet1_lost sheet1_form sheet1_size sheet1_items sheet2_lost sheet2_form sheet2_size sheet2_items sheet3_lost sheet3_form sheet3_size sheet3_items x1 x2 x3 x4 r hf)
end

abbrev wl_X8_get (cA : Nat → ClassId) (a : Nat → Nat) (x_stale : Int32) (x_finding : Int32) (sheet0_lost : Int32) (sheet0_form : Int32) (sheet0_size : Int32) (sheet0_items : Nat → Int32) (sheet1_lost : Int32) (sheet1_form : Int32) (sheet1_size : Int32) (sheet1_items : Nat → Int32) (sheet2_lost : Int32) (sheet2_form : Int32) (sheet2_size : Int32) (sheet2_items : Nat → Int32) (sheet3_lost : Int32) (sheet3_form : Int32) (sheet3_size : Int32) (sheet3_items : Nat → Int32) : va_W := [((a 0), .inr (8, [.ref (a 1), .ref (a 6), .ref (a 12), .ref (a 15), .ref (a 19), .ref (a 23), .ref (a 27), .ref (a 34), .ref (a 41), .ref (a 42), .ref (a 44), .ref (a 45), .int x_stale, .int x_finding])), ((a 45), .inl (cA 3, 4, .inr (.inr (.inr (.inr (fun k : Nat => if k = 0 then some (a 46) else if k = 1 then some (a 48) else if k = 2 then some (a 50) else some (a 52))))))), ((a 46), .inr (5, [.ref (a 47), .int sheet0_lost, .int sheet0_form, .int sheet0_size])), ((a 47), .inl (cA 0, 60, .inl sheet0_items)), ((a 48), .inr (5, [.ref (a 49), .int sheet1_lost, .int sheet1_form, .int sheet1_size])), ((a 49), .inl (cA 0, 60, .inl sheet1_items)), ((a 50), .inr (5, [.ref (a 51), .int sheet2_lost, .int sheet2_form, .int sheet2_size])), ((a 51), .inl (cA 0, 60, .inl sheet2_items)), ((a 52), .inr (5, [.ref (a 53), .int sheet3_lost, .int sheet3_form, .int sheet3_size])), ((a 53), .inl (cA 0, 60, .inl sheet3_items))]
abbrev rm_X8_get : Room := { frames := 1, cells := 0, slots := 0, locals := 22 }
section
variable {p : Program} {l : Launch} {e : Env} {s : State} {m : MethodId} {args : Array Value} {below : List Frame} {meth : Method} {c : Code} {D : va_G} {cA : Nat → ClassId} {ws0 : va_W} {sz : Nat} {A : Nat → Prop} {Q : State → Prop}
def f_X8_get_b16 (x_finding : Int32) (sheet0_lost : Int32) (sheet0_form : Int32) (sheet0_size : Int32) (sheet0_items : Nat → Int32) (sheet1_lost : Int32) (sheet1_form : Int32) (sheet1_size : Int32) (sheet1_items : Nat → Int32) (sheet2_lost : Int32) (sheet2_form : Int32) (sheet2_size : Int32) (sheet2_items : Nat → Int32) (sheet3_lost : Int32) (sheet3_form : Int32) (sheet3_size : Int32) (sheet3_items : Nat → Int32) : Option (Int32 × Int32) :=
  some ((-2147483648 : Int32), x_finding)
set_option maxHeartbeats 4000000 in
set_option maxRecDepth 100000 in
theorem k_X8_get_b16 (C : Cx RX8 cX8_get 5 D cA p s m args c) (hr : meth.sig.returnType = (some .int)) (hlk : meth.locks = false) (hA : ∀ q, s.heap.size ≤ q → va_A ws0 sz q) (a : Nat → Nat) (x_stale : Int32) (x_finding : Int32) (sheet0_lost : Int32) (sheet0_form : Int32) (sheet0_size : Int32) (sheet0_items : Nat → Int32) (sheet1_lost : Int32) (sheet1_form : Int32) (sheet1_size : Int32) (sheet1_items : Nat → Int32) (sheet2_lost : Int32) (sheet2_form : Int32) (sheet2_size : Int32) (sheet2_items : Nat → Int32) (sheet3_lost : Int32) (sheet3_form : Int32) (sheet3_size : Int32) (sheet3_items : Nat → Int32) (r : Int32 × Int32) (hf : f_X8_get_b16 x_finding sheet0_lost sheet0_form sheet0_size sheet0_items sheet1_lost sheet1_form sheet1_size sheet1_items sheet2_lost sheet2_form sheet2_size sheet2_items sheet3_lost sheet3_form sheet3_size sheet3_items = some r) : At p l e rm_X8_get s m args below meth c D (va_A ws0 sz) 0 0 (MQ below (PostI D r.1 ws0 (wl_X8_get cA a x_stale (r.2) sheet0_lost sheet0_form sheet0_size sheet0_items sheet1_lost sheet1_form sheet1_size sheet1_items sheet2_lost sheet2_form sheet2_size sheet2_items sheet3_lost sheet3_form sheet3_size sheet3_items) sz) args s 0 0 (va_A ws0 sz)) 5 16 (wl_X8_get cA a x_stale x_finding sheet0_lost sheet0_form sheet0_size sheet0_items sheet1_lost sheet1_form sheet1_size sheet1_items sheet2_lost sheet2_form sheet2_size sheet2_items sheet3_lost sheet3_form sheet3_size sheet3_items) [] [] := by
  intro H locs ls hP hD hS hl
  have hx := C.1
  have hb := C.2.1
  have hown := C.2.2.2.1
  have hts := C.2.2.2.2.1
  unfold f_X8_get_b16 at hf
  refine lv_ldcw (pc := 16) hx hb hown (hts _ (lg_in mw_343 rfl)) dX8_get_16 ?_
  have hf := Option.some.inj hf
  subst hf
  exact ret_i C hr hlk hP hS dX8_get_19
def f_X8_get (x_finding : Int32) (sheet0_lost : Int32) (sheet0_form : Int32) (sheet0_size : Int32) (sheet0_items : Nat → Int32) (sheet1_lost : Int32) (sheet1_form : Int32) (sheet1_size : Int32) (sheet1_items : Nat → Int32) (sheet2_lost : Int32) (sheet2_form : Int32) (sheet2_size : Int32) (sheet2_items : Nat → Int32) (sheet3_lost : Int32) (sheet3_form : Int32) (sheet3_size : Int32) (sheet3_items : Nat → Int32) (x1 : Int32) (x2 : Int32) (x3 : Int32) : Option (Int32 × Int32) :=
  bind1 (f_X8_isUpTo x1 (3 : Int32)) (fun r1 => if r1 = 0 then (f_X8_get_b16 x_finding sheet0_lost sheet0_form sheet0_size sheet0_items sheet1_lost sheet1_form sheet1_size sheet1_items sheet2_lost sheet2_form sheet2_size sheet2_items sheet3_lost sheet3_form sheet3_size sheet3_items) else (bind1 (f_X8_isUpTo x2 (2 : Int32)) (fun r2 => if r2 = 0 then (f_X8_get_b16 x_finding sheet0_lost sheet0_form sheet0_size sheet0_items sheet1_lost sheet1_form sheet1_size sheet1_items sheet2_lost sheet2_form sheet2_size sheet2_items sheet3_lost sheet3_form sheet3_size sheet3_items) else (if x1 = (0 : Int32) then (bind1 (f_X5_wrongWith sheet0_lost sheet0_form sheet0_size x2 x3) (fun r3 => if r3 = 0 then (if x1 = (0 : Int32) then (gd (inb x3 60) (some ((sheet0_items x3.toNatClampNeg), x_finding))) else (if x1 = (1 : Int32) then (gd (inb x3 60) (some ((sheet1_items x3.toNatClampNeg), x_finding))) else (if x1 = (2 : Int32) then (gd (inb x3 60) (some ((sheet2_items x3.toNatClampNeg), x_finding))) else (if x1 = (3 : Int32) then (gd (inb x3 60) (some ((sheet3_items x3.toNatClampNeg), x_finding))) else (none))))) else (some ((-2147483648 : Int32), r3)))) else (if x1 = (1 : Int32) then (bind1 (f_X5_wrongWith sheet1_lost sheet1_form sheet1_size x2 x3) (fun r4 => if r4 = 0 then (if x1 = (0 : Int32) then (gd (inb x3 60) (some ((sheet0_items x3.toNatClampNeg), x_finding))) else (if x1 = (1 : Int32) then (gd (inb x3 60) (some ((sheet1_items x3.toNatClampNeg), x_finding))) else (if x1 = (2 : Int32) then (gd (inb x3 60) (some ((sheet2_items x3.toNatClampNeg), x_finding))) else (if x1 = (3 : Int32) then (gd (inb x3 60) (some ((sheet3_items x3.toNatClampNeg), x_finding))) else (none))))) else (some ((-2147483648 : Int32), r4)))) else (if x1 = (2 : Int32) then (bind1 (f_X5_wrongWith sheet2_lost sheet2_form sheet2_size x2 x3) (fun r5 => if r5 = 0 then (if x1 = (0 : Int32) then (gd (inb x3 60) (some ((sheet0_items x3.toNatClampNeg), x_finding))) else (if x1 = (1 : Int32) then (gd (inb x3 60) (some ((sheet1_items x3.toNatClampNeg), x_finding))) else (if x1 = (2 : Int32) then (gd (inb x3 60) (some ((sheet2_items x3.toNatClampNeg), x_finding))) else (if x1 = (3 : Int32) then (gd (inb x3 60) (some ((sheet3_items x3.toNatClampNeg), x_finding))) else (none))))) else (some ((-2147483648 : Int32), r5)))) else (if x1 = (3 : Int32) then (bind1 (f_X5_wrongWith sheet3_lost sheet3_form sheet3_size x2 x3) (fun r6 => if r6 = 0 then (if x1 = (0 : Int32) then (gd (inb x3 60) (some ((sheet0_items x3.toNatClampNeg), x_finding))) else (if x1 = (1 : Int32) then (gd (inb x3 60) (some ((sheet1_items x3.toNatClampNeg), x_finding))) else (if x1 = (2 : Int32) then (gd (inb x3 60) (some ((sheet2_items x3.toNatClampNeg), x_finding))) else (if x1 = (3 : Int32) then (gd (inb x3 60) (some ((sheet3_items x3.toNatClampNeg), x_finding))) else (none))))) else (some ((-2147483648 : Int32), r6)))) else (none))))))))
set_option maxHeartbeats 4000000 in
set_option maxRecDepth 100000 in
theorem k_X8_get (C : Cx RX8 cX8_get 5 D cA p s m args c) (hr : meth.sig.returnType = (some .int)) (hlk : meth.locks = false) (hA : ∀ q, s.heap.size ≤ q → va_A ws0 sz q) (a : Nat → Nat) (x_stale : Int32) (x_finding : Int32) (sheet0_lost : Int32) (sheet0_form : Int32) (sheet0_size : Int32) (sheet0_items : Nat → Int32) (sheet1_lost : Int32) (sheet1_form : Int32) (sheet1_size : Int32) (sheet1_items : Nat → Int32) (sheet2_lost : Int32) (sheet2_form : Int32) (sheet2_size : Int32) (sheet2_items : Nat → Int32) (sheet3_lost : Int32) (sheet3_form : Int32) (sheet3_size : Int32) (sheet3_items : Nat → Int32) (x1 : Int32) (x2 : Int32) (x3 : Int32) (r : Int32 × Int32) (hf : f_X8_get x_finding sheet0_lost sheet0_form sheet0_size sheet0_items sheet1_lost sheet1_form sheet1_size sheet1_items sheet2_lost sheet2_form sheet2_size sheet2_items sheet3_lost sheet3_form sheet3_size sheet3_items x1 x2 x3 = some r) : At p l e rm_X8_get s m args below meth c D (va_A ws0 sz) 0 0 (MQ below (PostI D r.1 ws0 (wl_X8_get cA a x_stale (r.2) sheet0_lost sheet0_form sheet0_size sheet0_items sheet1_lost sheet1_form sheet1_size sheet1_items sheet2_lost sheet2_form sheet2_size sheet2_items sheet3_lost sheet3_form sheet3_size sheet3_items) sz) args s 0 0 (va_A ws0 sz)) 5 0 (wl_X8_get cA a x_stale x_finding sheet0_lost sheet0_form sheet0_size sheet0_items sheet1_lost sheet1_form sheet1_size sheet1_items sheet2_lost sheet2_form sheet2_size sheet2_items sheet3_lost sheet3_form sheet3_size sheet3_items) [(0, .ref (a 0)), (1, .int x1), (2, .int x2), (3, .int x3)] [] := by
  intro H locs ls hP hD hS hl
  have hx := C.1
  have hb := C.2.1
  have hown := C.2.2.2.1
  have hts := C.2.2.2.2.1
  unfold f_X8_get at hf
  refine lv_iload_n (pc := 0) hx hb dX8_get_0 rfl (lv_at hl 1 rfl) ?_
  refine lv_iconst (pc := 1) (v := 3) hx hb dX8_get_1 ic_3 ?_
  obtain ⟨r1, hq, hf⟩ := bind1_some hf
  refine fin_i (run_S (rest := []) (pc := 2) (As := [.int x1, .int (3 : Int32)]) C mf_X8_90 (c_X8_isUpTo l D cA  x1 (3 : Int32) r1 hq H.size) rfl rfl ⟨(Nat.le_of_ble_eq_true rfl), (Nat.le_of_ble_eq_true rfl)⟩ (preS_of C hP hD [] rfl rfl) rfl hl.1 rfl (Nat.le_of_ble_eq_true rfl) dX8_get_2 ⟨Nat.zero_le _, Nat.zero_le _⟩) hP hD hS hA [] rfl rfl (fun H locs hP hS => ?_)
  have hP : va_P D classes (wl_X8_get cA a x_stale x_finding sheet0_lost sheet0_form sheet0_size sheet0_items sheet1_lost sheet1_form sheet1_size sheet1_items sheet2_lost sheet2_form sheet2_size sheet2_items sheet3_lost sheet3_form sheet3_size sheet3_items) H := hP
  have hD : va_D (va_A ws0 sz) (wl_X8_get cA a x_stale x_finding sheet0_lost sheet0_form sheet0_size sheet0_items sheet1_lost sheet1_form sheet1_size sheet1_items sheet2_lost sheet2_form sheet2_size sheet2_items sheet3_lost sheet3_form sheet3_size sheet3_items) := vd_a hD rfl
  refine lv_if_eq (pc := 5) (tgt := 16) hx hb dX8_get_5 (by decide) (fun hc => ?_) (fun hc => ?_)
  · have hf := (if_pos hc).symm.trans hf
    exact k_X8_get_b16 C hr hlk hA a x_stale x_finding sheet0_lost sheet0_form sheet0_size sheet0_items sheet1_lost sheet1_form sheet1_size sheet1_items sheet2_lost sheet2_form sheet2_size sheet2_items sheet3_lost sheet3_form sheet3_size sheet3_items r hf H locs ls hP hD hS (lv_sub hl [] rfl)
  · have hf := (if_neg hc).symm.trans hf
    refine lv_iload_n (pc := 8) hx hb dX8_get_8 rfl (lv_at hl 2 rfl) ?_
    refine lv_iconst (pc := 9) (v := 2) hx hb dX8_get_9 ic_2 ?_
    obtain ⟨r2, hq, hf⟩ := bind1_some hf
    refine fin_i (run_S (rest := []) (pc := 10) (As := [.int x2, .int (2 : Int32)]) C mf_X8_90 (c_X8_isUpTo l D cA  x2 (2 : Int32) r2 hq H.size) rfl rfl ⟨(Nat.le_of_ble_eq_true rfl), (Nat.le_of_ble_eq_true rfl)⟩ (preS_of C hP hD [] rfl rfl) rfl hl.1 rfl (Nat.le_of_ble_eq_true rfl) dX8_get_10 ⟨Nat.zero_le _, Nat.zero_le _⟩) hP hD hS hA [] rfl rfl (fun H locs hP hS => ?_)
    have hP : va_P D classes (wl_X8_get cA a x_stale x_finding sheet0_lost sheet0_form sheet0_size sheet0_items sheet1_lost sheet1_form sheet1_size sheet1_items sheet2_lost sheet2_form sheet2_size sheet2_items sheet3_lost sheet3_form sheet3_size sheet3_items) H := hP
    have hD : va_D (va_A ws0 sz) (wl_X8_get cA a x_stale x_finding sheet0_lost sheet0_form sheet0_size sheet0_items sheet1_lost sheet1_form sheet1_size sheet1_items sheet2_lost sheet2_form sheet2_size sheet2_items sheet3_lost sheet3_form sheet3_size sheet3_items) := vd_a hD rfl
    refine lv_if_ne (pc := 13) (tgt := 20) hx hb dX8_get_13 (by decide) (fun hc => ?_) (fun hc => ?_)
    · have hf := (if_neg hc).symm.trans hf
      refine lv_aload_n (pc := 20) hx hb dX8_get_20 rfl (lv_at hl 0 rfl) ?_
      refine g_get (pc := 21) C fg_X8_77 hP 0 rfl rfl dX8_get_21 ?_
      refine lv_iload_n (pc := 24) hx hb dX8_get_24 rfl (lv_at hl 1 rfl) ?_
      by_cases h_0 : x1 = (0 : Int32)
      · have hf := (if_pos h_0).symm.trans hf
        refine g_aald (pc := 25) (b := (a 46)) C hP 1 rfl (t0 := 3) rfl (by rw [h_0]; decide) (by rw [h_0, tn_0]; rfl) dX8_get_25 ?_
        refine lv_iload_n (pc := 26) hx hb dX8_get_26 rfl (lv_at hl 2 rfl) ?_
        refine lv_iload_n (pc := 27) hx hb dX8_get_27 rfl (lv_at hl 3 rfl) ?_
        obtain ⟨r3, hq, hf⟩ := bind1_some hf
        refine fin_i (run_V (rest := []) (pc := 28) (As := [.int x2, .int x3]) C mf_X8_315 (c_X5_wrongWith l D cA (a 46) (a 47) sheet0_lost sheet0_form sheet0_size x2 x3 r3 hq H.size) rfl rfl ⟨(Nat.le_of_ble_eq_true rfl), (Nat.le_of_ble_eq_true rfl)⟩ (preV_of C hP hD [2] rfl rfl 0 rfl rfl rfl) rfl hl.1 rfl (Nat.le_of_ble_eq_true rfl) dX8_get_28 ⟨Nat.zero_le _, Nat.zero_le _⟩) hP hD hS hA [2] rfl rfl (fun H locs hP hS => ?_)
        have hP : va_P D classes (wl_X8_get cA a x_stale x_finding sheet0_lost sheet0_form sheet0_size sheet0_items sheet1_lost sheet1_form sheet1_size sheet1_items sheet2_lost sheet2_form sheet2_size sheet2_items sheet3_lost sheet3_form sheet3_size sheet3_items) H := hP
        have hD : va_D (va_A ws0 sz) (wl_X8_get cA a x_stale x_finding sheet0_lost sheet0_form sheet0_size sheet0_items sheet1_lost sheet1_form sheet1_size sheet1_items sheet2_lost sheet2_form sheet2_size sheet2_items sheet3_lost sheet3_form sheet3_size sheet3_items) := vd_a hD rfl
        refine lv_istore (pc := 31) (lv' := [(4, .int r3), (0, .ref (a 0)), (1, .int x1), (2, .int x2), (3, .int x3)]) hx hb dX8_get_31 hl (Nat.le_of_ble_eq_true rfl) rfl (fun ls hl => ?_)
        refine lv_iload (pc := 33) hx hb dX8_get_33 (lv_at hl 0 rfl) ?_
        refine lv_if_eq (pc := 35) (tgt := 48) hx hb dX8_get_35 (by decide) (fun hc => ?_) (fun hc => ?_)
        · have hf := (if_pos hc).symm.trans hf
          refine lv_aload_n (pc := 48) hx hb dX8_get_48 rfl (lv_at hl 1 rfl) ?_
          refine g_get (pc := 49) C fg_X8_77 hP 0 rfl rfl dX8_get_49 ?_
          refine lv_iload_n (pc := 52) hx hb dX8_get_52 rfl (lv_at hl 2 rfl) ?_
          by_cases h_0 : x1 = (0 : Int32)
          · have hf := (if_pos h_0).symm.trans hf
            refine g_aald (pc := 53) (b := (a 46)) C hP 1 rfl (t0 := 3) rfl (by rw [h_0]; decide) (by rw [h_0, tn_0]; rfl) dX8_get_53 ?_
            refine g_get (pc := 54) C fg_X8_146 hP 2 rfl rfl dX8_get_54 ?_
            refine lv_iload_n (pc := 57) hx hb dX8_get_57 rfl (lv_at hl 4 rfl) ?_
            obtain ⟨hg, hf⟩ := gd_some hf
            refine g_iald (pc := 58) C hP 3 rfl hg dX8_get_58 ?_
            have hf := Option.some.inj hf
            subst hf
            exact ret_i C hr hlk hP hS dX8_get_59
          have hf := (if_neg h_0).symm.trans hf
          by_cases h_1 : x1 = (1 : Int32)
          · have hf := (if_pos h_1).symm.trans hf
            refine g_aald (pc := 53) (b := (a 48)) C hP 1 rfl (t0 := 3) rfl (by rw [h_1]; decide) (by rw [h_1, tn_1]; rfl) dX8_get_53 ?_
            refine g_get (pc := 54) C fg_X8_146 hP 4 rfl rfl dX8_get_54 ?_
            refine lv_iload_n (pc := 57) hx hb dX8_get_57 rfl (lv_at hl 4 rfl) ?_
            obtain ⟨hg, hf⟩ := gd_some hf
            refine g_iald (pc := 58) C hP 5 rfl hg dX8_get_58 ?_
            have hf := Option.some.inj hf
            subst hf
            exact ret_i C hr hlk hP hS dX8_get_59
          have hf := (if_neg h_1).symm.trans hf
          by_cases h_2 : x1 = (2 : Int32)
          · have hf := (if_pos h_2).symm.trans hf
            refine g_aald (pc := 53) (b := (a 50)) C hP 1 rfl (t0 := 3) rfl (by rw [h_2]; decide) (by rw [h_2, tn_2]; rfl) dX8_get_53 ?_
            refine g_get (pc := 54) C fg_X8_146 hP 6 rfl rfl dX8_get_54 ?_
            refine lv_iload_n (pc := 57) hx hb dX8_get_57 rfl (lv_at hl 4 rfl) ?_
            obtain ⟨hg, hf⟩ := gd_some hf
            refine g_iald (pc := 58) C hP 7 rfl hg dX8_get_58 ?_
            have hf := Option.some.inj hf
            subst hf
            exact ret_i C hr hlk hP hS dX8_get_59
          have hf := (if_neg h_2).symm.trans hf
          by_cases h_3 : x1 = (3 : Int32)
          · have hf := (if_pos h_3).symm.trans hf
            refine g_aald (pc := 53) (b := (a 52)) C hP 1 rfl (t0 := 3) rfl (by rw [h_3]; decide) (by rw [h_3, tn_3]; rfl) dX8_get_53 ?_
            refine g_get (pc := 54) C fg_X8_146 hP 8 rfl rfl dX8_get_54 ?_
            refine lv_iload_n (pc := 57) hx hb dX8_get_57 rfl (lv_at hl 4 rfl) ?_
            obtain ⟨hg, hf⟩ := gd_some hf
            refine g_iald (pc := 58) C hP 9 rfl hg dX8_get_58 ?_
            have hf := Option.some.inj hf
            subst hf
            exact ret_i C hr hlk hP hS dX8_get_59
          have hf := (if_neg h_3).symm.trans hf
          cases hf
        · have hf := (if_neg hc).symm.trans hf
          refine lv_aload_n (pc := 38) hx hb dX8_get_38 rfl (lv_at hl 1 rfl) ?_
          refine lv_iload (pc := 39) hx hb dX8_get_39 (lv_at hl 0 rfl) ?_
          refine g_put (pc := 41) C fg_X8_86 ft_X8_13 hP hD hS 0 rfl rfl rfl (Nat.le_of_ble_eq_true rfl) dX8_get_41 (fun H locs hP hD hS => ?_)
          have hP : va_P D classes (wl_X8_get cA a x_stale r3 sheet0_lost sheet0_form sheet0_size sheet0_items sheet1_lost sheet1_form sheet1_size sheet1_items sheet2_lost sheet2_form sheet2_size sheet2_items sheet3_lost sheet3_form sheet3_size sheet3_items) H := hP
          have hD : va_D (va_A ws0 sz) (wl_X8_get cA a x_stale r3 sheet0_lost sheet0_form sheet0_size sheet0_items sheet1_lost sheet1_form sheet1_size sheet1_items sheet2_lost sheet2_form sheet2_size sheet2_items sheet3_lost sheet3_form sheet3_size sheet3_items) := hD
          refine lv_ldcw (pc := 44) hx hb hown (hts _ (lg_in mw_343 rfl)) dX8_get_44 ?_
          have hf := Option.some.inj hf
          subst hf
          exact ret_i C hr hlk hP hS dX8_get_47
      have hf := (if_neg h_0).symm.trans hf
      by_cases h_1 : x1 = (1 : Int32)
      · have hf := (if_pos h_1).symm.trans hf
        refine g_aald (pc := 25) (b := (a 48)) C hP 1 rfl (t0 := 3) rfl (by rw [h_1]; decide) (by rw [h_1, tn_1]; rfl) dX8_get_25 ?_
        refine lv_iload_n (pc := 26) hx hb dX8_get_26 rfl (lv_at hl 2 rfl) ?_
        refine lv_iload_n (pc := 27) hx hb dX8_get_27 rfl (lv_at hl 3 rfl) ?_
        obtain ⟨r4, hq, hf⟩ := bind1_some hf
        refine fin_i (run_V (rest := []) (pc := 28) (As := [.int x2, .int x3]) C mf_X8_315 (c_X5_wrongWith l D cA (a 48) (a 49) sheet1_lost sheet1_form sheet1_size x2 x3 r4 hq H.size) rfl rfl ⟨(Nat.le_of_ble_eq_true rfl), (Nat.le_of_ble_eq_true rfl)⟩ (preV_of C hP hD [4] rfl rfl 0 rfl rfl rfl) rfl hl.1 rfl (Nat.le_of_ble_eq_true rfl) dX8_get_28 ⟨Nat.zero_le _, Nat.zero_le _⟩) hP hD hS hA [4] rfl rfl (fun H locs hP hS => ?_)
        have hP : va_P D classes (wl_X8_get cA a x_stale x_finding sheet0_lost sheet0_form sheet0_size sheet0_items sheet1_lost sheet1_form sheet1_size sheet1_items sheet2_lost sheet2_form sheet2_size sheet2_items sheet3_lost sheet3_form sheet3_size sheet3_items) H := hP
        have hD : va_D (va_A ws0 sz) (wl_X8_get cA a x_stale x_finding sheet0_lost sheet0_form sheet0_size sheet0_items sheet1_lost sheet1_form sheet1_size sheet1_items sheet2_lost sheet2_form sheet2_size sheet2_items sheet3_lost sheet3_form sheet3_size sheet3_items) := vd_a hD rfl
        refine lv_istore (pc := 31) (lv' := [(4, .int r4), (0, .ref (a 0)), (1, .int x1), (2, .int x2), (3, .int x3)]) hx hb dX8_get_31 hl (Nat.le_of_ble_eq_true rfl) rfl (fun ls hl => ?_)
        refine lv_iload (pc := 33) hx hb dX8_get_33 (lv_at hl 0 rfl) ?_
        refine lv_if_eq (pc := 35) (tgt := 48) hx hb dX8_get_35 (by decide) (fun hc => ?_) (fun hc => ?_)
        · have hf := (if_pos hc).symm.trans hf
          refine lv_aload_n (pc := 48) hx hb dX8_get_48 rfl (lv_at hl 1 rfl) ?_
          refine g_get (pc := 49) C fg_X8_77 hP 0 rfl rfl dX8_get_49 ?_
          refine lv_iload_n (pc := 52) hx hb dX8_get_52 rfl (lv_at hl 2 rfl) ?_
          by_cases h_0 : x1 = (0 : Int32)
          · have hf := (if_pos h_0).symm.trans hf
            refine g_aald (pc := 53) (b := (a 46)) C hP 1 rfl (t0 := 3) rfl (by rw [h_0]; decide) (by rw [h_0, tn_0]; rfl) dX8_get_53 ?_
            refine g_get (pc := 54) C fg_X8_146 hP 2 rfl rfl dX8_get_54 ?_
            refine lv_iload_n (pc := 57) hx hb dX8_get_57 rfl (lv_at hl 4 rfl) ?_
            obtain ⟨hg, hf⟩ := gd_some hf
            refine g_iald (pc := 58) C hP 3 rfl hg dX8_get_58 ?_
            have hf := Option.some.inj hf
            subst hf
            exact ret_i C hr hlk hP hS dX8_get_59
          have hf := (if_neg h_0).symm.trans hf
          by_cases h_1 : x1 = (1 : Int32)
          · have hf := (if_pos h_1).symm.trans hf
            refine g_aald (pc := 53) (b := (a 48)) C hP 1 rfl (t0 := 3) rfl (by rw [h_1]; decide) (by rw [h_1, tn_1]; rfl) dX8_get_53 ?_
            refine g_get (pc := 54) C fg_X8_146 hP 4 rfl rfl dX8_get_54 ?_
            refine lv_iload_n (pc := 57) hx hb dX8_get_57 rfl (lv_at hl 4 rfl) ?_
            obtain ⟨hg, hf⟩ := gd_some hf
            refine g_iald (pc := 58) C hP 5 rfl hg dX8_get_58 ?_
            have hf := Option.some.inj hf
            subst hf
            exact ret_i C hr hlk hP hS dX8_get_59
          have hf := (if_neg h_1).symm.trans hf
          by_cases h_2 : x1 = (2 : Int32)
          · have hf := (if_pos h_2).symm.trans hf
            refine g_aald (pc := 53) (b := (a 50)) C hP 1 rfl (t0 := 3) rfl (by rw [h_2]; decide) (by rw [h_2, tn_2]; rfl) dX8_get_53 ?_
            refine g_get (pc := 54) C fg_X8_146 hP 6 rfl rfl dX8_get_54 ?_
            refine lv_iload_n (pc := 57) hx hb dX8_get_57 rfl (lv_at hl 4 rfl) ?_
            obtain ⟨hg, hf⟩ := gd_some hf
            refine g_iald (pc := 58) C hP 7 rfl hg dX8_get_58 ?_
            have hf := Option.some.inj hf
            subst hf
            exact ret_i C hr hlk hP hS dX8_get_59
          have hf := (if_neg h_2).symm.trans hf
          by_cases h_3 : x1 = (3 : Int32)
          · have hf := (if_pos h_3).symm.trans hf
            refine g_aald (pc := 53) (b := (a 52)) C hP 1 rfl (t0 := 3) rfl (by rw [h_3]; decide) (by rw [h_3, tn_3]; rfl) dX8_get_53 ?_
            refine g_get (pc := 54) C fg_X8_146 hP 8 rfl rfl dX8_get_54 ?_
            refine lv_iload_n (pc := 57) hx hb dX8_get_57 rfl (lv_at hl 4 rfl) ?_
            obtain ⟨hg, hf⟩ := gd_some hf
            refine g_iald (pc := 58) C hP 9 rfl hg dX8_get_58 ?_
            have hf := Option.some.inj hf
            subst hf
            exact ret_i C hr hlk hP hS dX8_get_59
          have hf := (if_neg h_3).symm.trans hf
          cases hf
        · have hf := (if_neg hc).symm.trans hf
          refine lv_aload_n (pc := 38) hx hb dX8_get_38 rfl (lv_at hl 1 rfl) ?_
          refine lv_iload (pc := 39) hx hb dX8_get_39 (lv_at hl 0 rfl) ?_
          refine g_put (pc := 41) C fg_X8_86 ft_X8_13 hP hD hS 0 rfl rfl rfl (Nat.le_of_ble_eq_true rfl) dX8_get_41 (fun H locs hP hD hS => ?_)
          have hP : va_P D classes (wl_X8_get cA a x_stale r4 sheet0_lost sheet0_form sheet0_size sheet0_items sheet1_lost sheet1_form sheet1_size sheet1_items sheet2_lost sheet2_form sheet2_size sheet2_items sheet3_lost sheet3_form sheet3_size sheet3_items) H := hP
          have hD : va_D (va_A ws0 sz) (wl_X8_get cA a x_stale r4 sheet0_lost sheet0_form sheet0_size sheet0_items sheet1_lost sheet1_form sheet1_size sheet1_items sheet2_lost sheet2_form sheet2_size sheet2_items sheet3_lost sheet3_form sheet3_size sheet3_items) := hD
          refine lv_ldcw (pc := 44) hx hb hown (hts _ (lg_in mw_343 rfl)) dX8_get_44 ?_
          have hf := Option.some.inj hf
          subst hf
          exact ret_i C hr hlk hP hS dX8_get_47
      have hf := (if_neg h_1).symm.trans hf
      by_cases h_2 : x1 = (2 : Int32)
      · have hf := (if_pos h_2).symm.trans hf
        refine g_aald (pc := 25) (b := (a 50)) C hP 1 rfl (t0 := 3) rfl (by rw [h_2]; decide) (by rw [h_2, tn_2]; rfl) dX8_get_25 ?_
        refine lv_iload_n (pc := 26) hx hb dX8_get_26 rfl (lv_at hl 2 rfl) ?_
        refine lv_iload_n (pc := 27) hx hb dX8_get_27 rfl (lv_at hl 3 rfl) ?_
        obtain ⟨r5, hq, hf⟩ := bind1_some hf
        refine fin_i (run_V (rest := []) (pc := 28) (As := [.int x2, .int x3]) C mf_X8_315 (c_X5_wrongWith l D cA (a 50) (a 51) sheet2_lost sheet2_form sheet2_size x2 x3 r5 hq H.size) rfl rfl ⟨(Nat.le_of_ble_eq_true rfl), (Nat.le_of_ble_eq_true rfl)⟩ (preV_of C hP hD [6] rfl rfl 0 rfl rfl rfl) rfl hl.1 rfl (Nat.le_of_ble_eq_true rfl) dX8_get_28 ⟨Nat.zero_le _, Nat.zero_le _⟩) hP hD hS hA [6] rfl rfl (fun H locs hP hS => ?_)
        have hP : va_P D classes (wl_X8_get cA a x_stale x_finding sheet0_lost sheet0_form sheet0_size sheet0_items sheet1_lost sheet1_form sheet1_size sheet1_items sheet2_lost sheet2_form sheet2_size sheet2_items sheet3_lost sheet3_form sheet3_size sheet3_items) H := hP
        have hD : va_D (va_A ws0 sz) (wl_X8_get cA a x_stale x_finding sheet0_lost sheet0_form sheet0_size sheet0_items sheet1_lost sheet1_form sheet1_size sheet1_items sheet2_lost sheet2_form sheet2_size sheet2_items sheet3_lost sheet3_form sheet3_size sheet3_items) := vd_a hD rfl
        refine lv_istore (pc := 31) (lv' := [(4, .int r5), (0, .ref (a 0)), (1, .int x1), (2, .int x2), (3, .int x3)]) hx hb dX8_get_31 hl (Nat.le_of_ble_eq_true rfl) rfl (fun ls hl => ?_)
        refine lv_iload (pc := 33) hx hb dX8_get_33 (lv_at hl 0 rfl) ?_
        refine lv_if_eq (pc := 35) (tgt := 48) hx hb dX8_get_35 (by decide) (fun hc => ?_) (fun hc => ?_)
        · have hf := (if_pos hc).symm.trans hf
          refine lv_aload_n (pc := 48) hx hb dX8_get_48 rfl (lv_at hl 1 rfl) ?_
          refine g_get (pc := 49) C fg_X8_77 hP 0 rfl rfl dX8_get_49 ?_
          refine lv_iload_n (pc := 52) hx hb dX8_get_52 rfl (lv_at hl 2 rfl) ?_
          by_cases h_0 : x1 = (0 : Int32)
          · have hf := (if_pos h_0).symm.trans hf
            refine g_aald (pc := 53) (b := (a 46)) C hP 1 rfl (t0 := 3) rfl (by rw [h_0]; decide) (by rw [h_0, tn_0]; rfl) dX8_get_53 ?_
            refine g_get (pc := 54) C fg_X8_146 hP 2 rfl rfl dX8_get_54 ?_
            refine lv_iload_n (pc := 57) hx hb dX8_get_57 rfl (lv_at hl 4 rfl) ?_
            obtain ⟨hg, hf⟩ := gd_some hf
            refine g_iald (pc := 58) C hP 3 rfl hg dX8_get_58 ?_
            have hf := Option.some.inj hf
            subst hf
            exact ret_i C hr hlk hP hS dX8_get_59
          have hf := (if_neg h_0).symm.trans hf
          by_cases h_1 : x1 = (1 : Int32)
          · have hf := (if_pos h_1).symm.trans hf
            refine g_aald (pc := 53) (b := (a 48)) C hP 1 rfl (t0 := 3) rfl (by rw [h_1]; decide) (by rw [h_1, tn_1]; rfl) dX8_get_53 ?_
            refine g_get (pc := 54) C fg_X8_146 hP 4 rfl rfl dX8_get_54 ?_
            refine lv_iload_n (pc := 57) hx hb dX8_get_57 rfl (lv_at hl 4 rfl) ?_
            obtain ⟨hg, hf⟩ := gd_some hf
            refine g_iald (pc := 58) C hP 5 rfl hg dX8_get_58 ?_
            have hf := Option.some.inj hf
            subst hf
            exact ret_i C hr hlk hP hS dX8_get_59
          have hf := (if_neg h_1).symm.trans hf
          by_cases h_2 : x1 = (2 : Int32)
          · have hf := (if_pos h_2).symm.trans hf
            refine g_aald (pc := 53) (b := (a 50)) C hP 1 rfl (t0 := 3) rfl (by rw [h_2]; decide) (by rw [h_2, tn_2]; rfl) dX8_get_53 ?_
            refine g_get (pc := 54) C fg_X8_146 hP 6 rfl rfl dX8_get_54 ?_
            refine lv_iload_n (pc := 57) hx hb dX8_get_57 rfl (lv_at hl 4 rfl) ?_
            obtain ⟨hg, hf⟩ := gd_some hf
            refine g_iald (pc := 58) C hP 7 rfl hg dX8_get_58 ?_
            have hf := Option.some.inj hf
            subst hf
            exact ret_i C hr hlk hP hS dX8_get_59
          have hf := (if_neg h_2).symm.trans hf
          by_cases h_3 : x1 = (3 : Int32)
          · have hf := (if_pos h_3).symm.trans hf
            refine g_aald (pc := 53) (b := (a 52)) C hP 1 rfl (t0 := 3) rfl (by rw [h_3]; decide) (by rw [h_3, tn_3]; rfl) dX8_get_53 ?_
            refine g_get (pc := 54) C fg_X8_146 hP 8 rfl rfl dX8_get_54 ?_
            refine lv_iload_n (pc := 57) hx hb dX8_get_57 rfl (lv_at hl 4 rfl) ?_
            obtain ⟨hg, hf⟩ := gd_some hf
            refine g_iald (pc := 58) C hP 9 rfl hg dX8_get_58 ?_
            have hf := Option.some.inj hf
            subst hf
            exact ret_i C hr hlk hP hS dX8_get_59
          have hf := (if_neg h_3).symm.trans hf
          cases hf
        · have hf := (if_neg hc).symm.trans hf
          refine lv_aload_n (pc := 38) hx hb dX8_get_38 rfl (lv_at hl 1 rfl) ?_
          refine lv_iload (pc := 39) hx hb dX8_get_39 (lv_at hl 0 rfl) ?_
          refine g_put (pc := 41) C fg_X8_86 ft_X8_13 hP hD hS 0 rfl rfl rfl (Nat.le_of_ble_eq_true rfl) dX8_get_41 (fun H locs hP hD hS => ?_)
          have hP : va_P D classes (wl_X8_get cA a x_stale r5 sheet0_lost sheet0_form sheet0_size sheet0_items sheet1_lost sheet1_form sheet1_size sheet1_items sheet2_lost sheet2_form sheet2_size sheet2_items sheet3_lost sheet3_form sheet3_size sheet3_items) H := hP
          have hD : va_D (va_A ws0 sz) (wl_X8_get cA a x_stale r5 sheet0_lost sheet0_form sheet0_size sheet0_items sheet1_lost sheet1_form sheet1_size sheet1_items sheet2_lost sheet2_form sheet2_size sheet2_items sheet3_lost sheet3_form sheet3_size sheet3_items) := hD
          refine lv_ldcw (pc := 44) hx hb hown (hts _ (lg_in mw_343 rfl)) dX8_get_44 ?_
          have hf := Option.some.inj hf
          subst hf
          exact ret_i C hr hlk hP hS dX8_get_47
      have hf := (if_neg h_2).symm.trans hf
      by_cases h_3 : x1 = (3 : Int32)
      · have hf := (if_pos h_3).symm.trans hf
        refine g_aald (pc := 25) (b := (a 52)) C hP 1 rfl (t0 := 3) rfl (by rw [h_3]; decide) (by rw [h_3, tn_3]; rfl) dX8_get_25 ?_
        refine lv_iload_n (pc := 26) hx hb dX8_get_26 rfl (lv_at hl 2 rfl) ?_
        refine lv_iload_n (pc := 27) hx hb dX8_get_27 rfl (lv_at hl 3 rfl) ?_
        obtain ⟨r6, hq, hf⟩ := bind1_some hf
        refine fin_i (run_V (rest := []) (pc := 28) (As := [.int x2, .int x3]) C mf_X8_315 (c_X5_wrongWith l D cA (a 52) (a 53) sheet3_lost sheet3_form sheet3_size x2 x3 r6 hq H.size) rfl rfl ⟨(Nat.le_of_ble_eq_true rfl), (Nat.le_of_ble_eq_true rfl)⟩ (preV_of C hP hD [8] rfl rfl 0 rfl rfl rfl) rfl hl.1 rfl (Nat.le_of_ble_eq_true rfl) dX8_get_28 ⟨Nat.zero_le _, Nat.zero_le _⟩) hP hD hS hA [8] rfl rfl (fun H locs hP hS => ?_)
        have hP : va_P D classes (wl_X8_get cA a x_stale x_finding sheet0_lost sheet0_form sheet0_size sheet0_items sheet1_lost sheet1_form sheet1_size sheet1_items sheet2_lost sheet2_form sheet2_size sheet2_items sheet3_lost sheet3_form sheet3_size sheet3_items) H := hP
        have hD : va_D (va_A ws0 sz) (wl_X8_get cA a x_stale x_finding sheet0_lost sheet0_form sheet0_size sheet0_items sheet1_lost sheet1_form sheet1_size sheet1_items sheet2_lost sheet2_form sheet2_size sheet2_items sheet3_lost sheet3_form sheet3_size sheet3_items) := vd_a hD rfl
        refine lv_istore (pc := 31) (lv' := [(4, .int r6), (0, .ref (a 0)), (1, .int x1), (2, .int x2), (3, .int x3)]) hx hb dX8_get_31 hl (Nat.le_of_ble_eq_true rfl) rfl (fun ls hl => ?_)
        refine lv_iload (pc := 33) hx hb dX8_get_33 (lv_at hl 0 rfl) ?_
        refine lv_if_eq (pc := 35) (tgt := 48) hx hb dX8_get_35 (by decide) (fun hc => ?_) (fun hc => ?_)
        · have hf := (if_pos hc).symm.trans hf
          refine lv_aload_n (pc := 48) hx hb dX8_get_48 rfl (lv_at hl 1 rfl) ?_
          refine g_get (pc := 49) C fg_X8_77 hP 0 rfl rfl dX8_get_49 ?_
          refine lv_iload_n (pc := 52) hx hb dX8_get_52 rfl (lv_at hl 2 rfl) ?_
          by_cases h_0 : x1 = (0 : Int32)
          · have hf := (if_pos h_0).symm.trans hf
            refine g_aald (pc := 53) (b := (a 46)) C hP 1 rfl (t0 := 3) rfl (by rw [h_0]; decide) (by rw [h_0, tn_0]; rfl) dX8_get_53 ?_
            refine g_get (pc := 54) C fg_X8_146 hP 2 rfl rfl dX8_get_54 ?_
            refine lv_iload_n (pc := 57) hx hb dX8_get_57 rfl (lv_at hl 4 rfl) ?_
            obtain ⟨hg, hf⟩ := gd_some hf
            refine g_iald (pc := 58) C hP 3 rfl hg dX8_get_58 ?_
            have hf := Option.some.inj hf
            subst hf
            exact ret_i C hr hlk hP hS dX8_get_59
          have hf := (if_neg h_0).symm.trans hf
          by_cases h_1 : x1 = (1 : Int32)
          · have hf := (if_pos h_1).symm.trans hf
            refine g_aald (pc := 53) (b := (a 48)) C hP 1 rfl (t0 := 3) rfl (by rw [h_1]; decide) (by rw [h_1, tn_1]; rfl) dX8_get_53 ?_
            refine g_get (pc := 54) C fg_X8_146 hP 4 rfl rfl dX8_get_54 ?_
            refine lv_iload_n (pc := 57) hx hb dX8_get_57 rfl (lv_at hl 4 rfl) ?_
            obtain ⟨hg, hf⟩ := gd_some hf
            refine g_iald (pc := 58) C hP 5 rfl hg dX8_get_58 ?_
            have hf := Option.some.inj hf
            subst hf
            exact ret_i C hr hlk hP hS dX8_get_59
          have hf := (if_neg h_1).symm.trans hf
          by_cases h_2 : x1 = (2 : Int32)
          · have hf := (if_pos h_2).symm.trans hf
            refine g_aald (pc := 53) (b := (a 50)) C hP 1 rfl (t0 := 3) rfl (by rw [h_2]; decide) (by rw [h_2, tn_2]; rfl) dX8_get_53 ?_
            refine g_get (pc := 54) C fg_X8_146 hP 6 rfl rfl dX8_get_54 ?_
            refine lv_iload_n (pc := 57) hx hb dX8_get_57 rfl (lv_at hl 4 rfl) ?_
            obtain ⟨hg, hf⟩ := gd_some hf
            refine g_iald (pc := 58) C hP 7 rfl hg dX8_get_58 ?_
            have hf := Option.some.inj hf
            subst hf
            exact ret_i C hr hlk hP hS dX8_get_59
          have hf := (if_neg h_2).symm.trans hf
          by_cases h_3 : x1 = (3 : Int32)
          · have hf := (if_pos h_3).symm.trans hf
            refine g_aald (pc := 53) (b := (a 52)) C hP 1 rfl (t0 := 3) rfl (by rw [h_3]; decide) (by rw [h_3, tn_3]; rfl) dX8_get_53 ?_
            refine g_get (pc := 54) C fg_X8_146 hP 8 rfl rfl dX8_get_54 ?_
            refine lv_iload_n (pc := 57) hx hb dX8_get_57 rfl (lv_at hl 4 rfl) ?_
            obtain ⟨hg, hf⟩ := gd_some hf
            refine g_iald (pc := 58) C hP 9 rfl hg dX8_get_58 ?_
            have hf := Option.some.inj hf
            subst hf
            exact ret_i C hr hlk hP hS dX8_get_59
          have hf := (if_neg h_3).symm.trans hf
          cases hf
        · have hf := (if_neg hc).symm.trans hf
          refine lv_aload_n (pc := 38) hx hb dX8_get_38 rfl (lv_at hl 1 rfl) ?_
          refine lv_iload (pc := 39) hx hb dX8_get_39 (lv_at hl 0 rfl) ?_
          refine g_put (pc := 41) C fg_X8_86 ft_X8_13 hP hD hS 0 rfl rfl rfl (Nat.le_of_ble_eq_true rfl) dX8_get_41 (fun H locs hP hD hS => ?_)
          have hP : va_P D classes (wl_X8_get cA a x_stale r6 sheet0_lost sheet0_form sheet0_size sheet0_items sheet1_lost sheet1_form sheet1_size sheet1_items sheet2_lost sheet2_form sheet2_size sheet2_items sheet3_lost sheet3_form sheet3_size sheet3_items) H := hP
          have hD : va_D (va_A ws0 sz) (wl_X8_get cA a x_stale r6 sheet0_lost sheet0_form sheet0_size sheet0_items sheet1_lost sheet1_form sheet1_size sheet1_items sheet2_lost sheet2_form sheet2_size sheet2_items sheet3_lost sheet3_form sheet3_size sheet3_items) := hD
          refine lv_ldcw (pc := 44) hx hb hown (hts _ (lg_in mw_343 rfl)) dX8_get_44 ?_
          have hf := Option.some.inj hf
          subst hf
          exact ret_i C hr hlk hP hS dX8_get_47
      have hf := (if_neg h_3).symm.trans hf
      cases hf
    · have hf := (if_pos hc).symm.trans hf
      exact k_X8_get_b16 C hr hlk hA a x_stale x_finding sheet0_lost sheet0_form sheet0_size sheet0_items sheet1_lost sheet1_form sheet1_size sheet1_items sheet2_lost sheet2_form sheet2_size sheet2_items sheet3_lost sheet3_form sheet3_size sheet3_items r hf H locs ls hP hD hS (lv_sub hl [] rfl)
set_option maxRecDepth 100000 in
theorem c_X8_get (l : Launch) (D : va_G) (cA : Nat → ClassId) (a : Nat → Nat) (x_stale : Int32) (x_finding : Int32) (sheet0_lost : Int32) (sheet0_form : Int32) (sheet0_size : Int32) (sheet0_items : Nat → Int32) (sheet1_lost : Int32) (sheet1_form : Int32) (sheet1_size : Int32) (sheet1_items : Nat → Int32) (sheet2_lost : Int32) (sheet2_form : Int32) (sheet2_size : Int32) (sheet2_items : Nat → Int32) (sheet3_lost : Int32) (sheet3_form : Int32) (sheet3_size : Int32) (sheet3_items : Nat → Int32) (x1 : Int32) (x2 : Int32) (x3 : Int32) (r : Int32 × Int32) (hf : f_X8_get x_finding sheet0_lost sheet0_form sheet0_size sheet0_items sheet1_lost sheet1_form sheet1_size sheet1_items sheet2_lost sheet2_form sheet2_size sheet2_items sheet3_lost sheet3_form sheet3_size sheet3_items x1 x2 x3 = some r) (sz : Nat) : Met l yX8_get (Cond.code yX8_get cX8_get 5 (some .int) :: lw_good) rm_X8_get (PreX D cA [.ref (a 0), .int x1, .int x2, .int x3] sz (wl_X8_get cA a x_stale x_finding sheet0_lost sheet0_form sheet0_size sheet0_items sheet1_lost sheet1_form sheet1_size sheet1_items sheet2_lost sheet2_form sheet2_size sheet2_items sheet3_lost sheet3_form sheet3_size sheet3_items)) (PostI D r.1 (wl_X8_get cA a x_stale x_finding sheet0_lost sheet0_form sheet0_size sheet0_items sheet1_lost sheet1_form sheet1_size sheet1_items sheet2_lost sheet2_form sheet2_size sheet2_items sheet3_lost sheet3_form sheet3_size sheet3_items) (wl_X8_get cA a x_stale (r.2) sheet0_lost sheet0_form sheet0_size sheet0_items sheet1_lost sheet1_form sheet1_size sheet1_items sheet2_lost sheet2_form sheet2_size sheet2_items sheet3_lost sheet3_form sheet3_size sheet3_items) sz) 0 0 (va_A (wl_X8_get cA a x_stale x_finding sheet0_lost sheet0_form sheet0_size sheet0_items sheet1_lost sheet1_form sheet1_size sheet1_items sheet2_lost sheet2_form sheet2_size sheet2_items sheet3_lost sheet3_form sheet3_size sheet3_items) sz) :=
  met_of (by decide) (Nat.le_of_ble_eq_true rfl) (fun p e s m args below meth c C hr hlk hA => k_X8_get C hr hlk hA a x_stale x_finding sheet0_lost sheet0_form sheet0_size sheet0_items sheet1_lost sheet1_form sheet1_size sheet1_items sheet2_lost sheet2_form sheet2_size sheet2_items sheet3_lost sheet3_form sheet3_size sheet3_items x1 x2 x3 r hf)
end
