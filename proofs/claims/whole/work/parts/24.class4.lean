abbrev wl_X8_roam (cA : Nat → ClassId) (a : Nat → Nat) (x_stale : Int32) (x_finding : Int32) (land_flaw : Int32) (land_cells : Int32) (land_columns : Int32) (land_rows : Int32) (land_kinds : Nat → Int32) (land_ways : Nat → Int32) (land_beside : Nat → Int32) (walks_start : Int32) (walks_frost : Int32) (walks_present : Int32) (walks_raked : Int32) : va_W := [((a 0), .inr (8, [.ref (a 1), .ref (a 6), .ref (a 12), .ref (a 15), .ref (a 19), .ref (a 23), .ref (a 27), .ref (a 34), .ref (a 41), .ref (a 42), .ref (a 44), .ref (a 45), .int x_stale, .int x_finding])), ((a 6), .inr (3, [.ref (a 7), .ref (a 8), .ref (a 9), .ref (a 10), .ref (a 11), .int land_flaw, .int land_cells, .int land_columns, .int land_rows])), ((a 7), .inl (cA 0, 36, .inl land_kinds)), ((a 10), .inl (cA 0, 36, .inl land_ways)), ((a 11), .inl (cA 0, 144, .inl land_beside)), ((a 27), .inr (7, [.ref (a 6), .ref (a 15), .ref (a 19), .ref (a 28), .ref (a 29), .ref (a 30), .ref (a 31), .ref (a 32), .ref (a 33), .int walks_start, .int walks_frost, .int walks_present, .int walks_raked]))]
abbrev rm_X8_roam : Room := { frames := 1, cells := 0, slots := 0, locals := 21 }
section
variable {p : Program} {l : Launch} {e : Env} {s : State} {m : MethodId} {args : Array Value} {below : List Frame} {meth : Method} {c : Code} {D : va_G} {cA : Nat → ClassId} {ws0 : va_W} {sz : Nat} {A : Nat → Prop} {Q : State → Prop}
def f_X8_roam_b124L57 (land_ways : Nat → Int32) (land_beside : Nat → Int32) (x2 : Int32) (x4 : Int32) (x5 : Int32) (x6 : Int64) (x8 : Int32) : Option ((Int32 × Int32 × Int64 × Int32) ⊕ (Int32 × Int64)) :=
  some (.inl (x4, x5, x6, (x8 + 1)))
set_option maxHeartbeats 4000000 in
set_option maxRecDepth 100000 in
theorem k_X8_roam_b124L57 (C : Cx RX8 cX8_roam 10 D cA p s m args c) (hA : ∀ q, s.heap.size ≤ q → A q) (a : Nat → Nat) (x_stale : Int32) (x_finding : Int32) (land_flaw : Int32) (land_cells : Int32) (land_columns : Int32) (land_rows : Int32) (land_kinds : Nat → Int32) (land_ways : Nat → Int32) (land_beside : Nat → Int32) (walks_start : Int32) (walks_frost : Int32) (walks_present : Int32) (walks_raked : Int32) (x2 : Int32) (x3 : Int32) (x4 : Int32) (x5 : Int32) (x6 : Int64) (x8 : Int32) (r : (Int32 × Int32 × Int64 × Int32) ⊕ (Int32 × Int64)) (hf : f_X8_roam_b124L57 land_ways land_beside x2 x4 x5 x6 x8 = some r) (hK : Sum.elim (fun q : Int32 × Int32 × Int64 × Int32 => At p l e rm_X8_roam s m args below meth c D A 0 0 Q 10 57 (wl_X8_roam cA a x_stale x_finding land_flaw land_cells land_columns land_rows land_kinds land_ways land_beside walks_start walks_frost walks_present walks_raked) [(0, .ref (a 0)), (2, .int x2), (3, .int x3), (4, .int (q.1)), (5, .int (q.2.1)), (6, .long (q.2.2.1)), (8, .int (q.2.2.2))] []) (fun q : Int32 × Int64 => At p l e rm_X8_roam s m args below meth c D A 0 0 Q 10 130 (wl_X8_roam cA a x_stale x_finding land_flaw land_cells land_columns land_rows land_kinds land_ways land_beside walks_start walks_frost walks_present walks_raked) [(3, .int x3), (4, .int (q.1)), (6, .long (q.2))] []) r) : At p l e rm_X8_roam s m args below meth c D A 0 0 Q 10 124 (wl_X8_roam cA a x_stale x_finding land_flaw land_cells land_columns land_rows land_kinds land_ways land_beside walks_start walks_frost walks_present walks_raked) [(0, .ref (a 0)), (2, .int x2), (3, .int x3), (4, .int x4), (5, .int x5), (6, .long x6), (8, .int x8)] [] := by
  intro H locs ls hP hD hS hl
  have hx := C.1
  have hb := C.2.1
  have hown := C.2.2.2.1
  have hts := C.2.2.2.2.1
  unfold f_X8_roam_b124L57 at hf
  refine lv_iinc (pc := 124) (v := (x8 + 1)) (lv' := [(8, .int (x8 + 1)), (0, .ref (a 0)), (2, .int x2), (3, .int x3), (4, .int x4), (5, .int x5), (6, .long x6)]) hx hb dX8_roam_124 hl (k := 6) rfl rfl (Nat.le_of_ble_eq_true rfl) rfl (fun ls hl => ?_)
  refine lv_goto (pc := 127) (tgt := 57) hx hb dX8_roam_127 (by decide) ?_
  have hf := Option.some.inj hf
  subst hf
  exact hK H locs ls hP hD hS (lv_sub hl [1, 2, 3, 4, 5, 6, 0] rfl)
def f_X8_roam_L57 (land_ways : Nat → Int32) (land_beside : Nat → Int32) (x2 : Int32) (x4 : Int32) (x5 : Int32) (x6 : Int64) (x8 : Int32) : Option ((Int32 × Int32 × Int64 × Int32) ⊕ (Int32 × Int64)) :=
  if x2 ≤ x8 then (some (.inr (x4, x6))) else (gd (inb x4 36) (letv ((land_ways x4.toNatClampNeg)) (fun v5 => if v5 ≤ 0 then (f_X8_roam_b124L57 land_ways land_beside x2 x4 x5 x6 x8) else (letv ((((1103515245 : Int32) * x5) + (12345 : Int32))) (fun v6 => gd (nz v5) (gd (inb ((x4 * (4 : Int32)) + (((v6.toUInt32 >>> ((16 : Int32).toUInt32 &&& Int32.toUInt32 31)).toInt32) - ((v6.toUInt32 >>> ((16 : Int32).toUInt32 &&& Int32.toUInt32 31)).toInt32) / v5 * v5)) 144) (letv ((land_beside ((x4 * (4 : Int32)) + (((v6.toUInt32 >>> ((16 : Int32).toUInt32 &&& Int32.toUInt32 31)).toInt32) - ((v6.toUInt32 >>> ((16 : Int32).toUInt32 &&& Int32.toUInt32 31)).toInt32) / v5 * v5)).toNatClampNeg)) (fun v7 => letv ((x6 ||| ((1 : Int64) <<< (v7.toInt64 &&& 63)))) (fun v8 => f_X8_roam_b124L57 land_ways land_beside x2 v7 v6 v8 x8)))))))))
set_option maxHeartbeats 4000000 in
set_option maxRecDepth 100000 in
theorem k_X8_roam_L57 (C : Cx RX8 cX8_roam 10 D cA p s m args c) (hA : ∀ q, s.heap.size ≤ q → A q) (a : Nat → Nat) (x_stale : Int32) (x_finding : Int32) (land_flaw : Int32) (land_cells : Int32) (land_columns : Int32) (land_rows : Int32) (land_kinds : Nat → Int32) (land_ways : Nat → Int32) (land_beside : Nat → Int32) (walks_start : Int32) (walks_frost : Int32) (walks_present : Int32) (walks_raked : Int32) (x2 : Int32) (x3 : Int32) (x4 : Int32) (x5 : Int32) (x6 : Int64) (x8 : Int32) (r : (Int32 × Int32 × Int64 × Int32) ⊕ (Int32 × Int64)) (hf : f_X8_roam_L57 land_ways land_beside x2 x4 x5 x6 x8 = some r) (hK : Sum.elim (fun q : Int32 × Int32 × Int64 × Int32 => At p l e rm_X8_roam s m args below meth c D A 0 0 Q 10 57 (wl_X8_roam cA a x_stale x_finding land_flaw land_cells land_columns land_rows land_kinds land_ways land_beside walks_start walks_frost walks_present walks_raked) [(0, .ref (a 0)), (2, .int x2), (3, .int x3), (4, .int (q.1)), (5, .int (q.2.1)), (6, .long (q.2.2.1)), (8, .int (q.2.2.2))] []) (fun q : Int32 × Int64 => At p l e rm_X8_roam s m args below meth c D A 0 0 Q 10 130 (wl_X8_roam cA a x_stale x_finding land_flaw land_cells land_columns land_rows land_kinds land_ways land_beside walks_start walks_frost walks_present walks_raked) [(3, .int x3), (4, .int (q.1)), (6, .long (q.2))] []) r) : At p l e rm_X8_roam s m args below meth c D A 0 0 Q 10 57 (wl_X8_roam cA a x_stale x_finding land_flaw land_cells land_columns land_rows land_kinds land_ways land_beside walks_start walks_frost walks_present walks_raked) [(0, .ref (a 0)), (2, .int x2), (3, .int x3), (4, .int x4), (5, .int x5), (6, .long x6), (8, .int x8)] [] := by
  intro H locs ls hP hD hS hl
  have hx := C.1
  have hb := C.2.1
  have hown := C.2.2.2.1
  have hts := C.2.2.2.2.1
  unfold f_X8_roam_L57 at hf
  refine lv_iload (pc := 57) hx hb dX8_roam_57 (lv_at hl 6 rfl) ?_
  refine lv_iload_n (pc := 59) hx hb dX8_roam_59 rfl (lv_at hl 1 rfl) ?_
  refine lv_icmp_ge (pc := 60) (tgt := 130) hx hb dX8_roam_60 (by decide) (fun hc => ?_) (fun hc => ?_)
  · have hf := (if_pos hc).symm.trans hf
    have hf := Option.some.inj hf
    subst hf
    exact hK H locs ls hP hD hS (lv_sub hl [2, 3, 5] rfl)
  · have hf := (if_neg hc).symm.trans hf
    refine lv_aload_n (pc := 63) hx hb dX8_roam_63 rfl (lv_at hl 0 rfl) ?_
    refine g_get (pc := 64) C fg_X8_21 hP 0 rfl rfl dX8_roam_64 ?_
    refine g_get (pc := 67) C fg_X8_256 hP 1 rfl rfl dX8_roam_67 ?_
    refine lv_iload (pc := 70) hx hb dX8_roam_70 (lv_at hl 3 rfl) ?_
    obtain ⟨hg, hf⟩ := gd_some hf
    refine g_iald (pc := 72) C hP 3 rfl hg dX8_roam_72 ?_
    obtain ⟨v5, e_v5, hf⟩ := letv_some hf
    refine tp_i e_v5 ?_
    refine lv_istore (pc := 73) (lv' := [(9, .int v5), (0, .ref (a 0)), (2, .int x2), (3, .int x3), (4, .int x4), (5, .int x5), (6, .long x6), (8, .int x8)]) hx hb dX8_roam_73 hl (Nat.le_of_ble_eq_true rfl) rfl (fun ls hl => ?_)
    refine lv_iload (pc := 75) hx hb dX8_roam_75 (lv_at hl 0 rfl) ?_
    refine lv_if_le (pc := 77) (tgt := 124) hx hb dX8_roam_77 (by decide) (fun hc => ?_) (fun hc => ?_)
    · have hf := (if_pos hc).symm.trans hf
      exact k_X8_roam_b124L57 C hA a x_stale x_finding land_flaw land_cells land_columns land_rows land_kinds land_ways land_beside walks_start walks_frost walks_present walks_raked x2 x3 x4 x5 x6 x8 r hf hK H locs ls hP hD hS (lv_sub hl [1, 2, 3, 4, 5, 6, 7] rfl)
    · have hf := (if_neg hc).symm.trans hf
      refine lv_ldcw (pc := 80) hx hb hown (hts _ (lg_in mw_300 rfl)) dX8_roam_80 ?_
      refine lv_iload (pc := 83) hx hb dX8_roam_83 (lv_at hl 5 rfl) ?_
      refine lv_imul (pc := 85) hx hb dX8_roam_85 ?_
      refine lv_sipush (pc := 86) (v := 12345) hx hb dX8_roam_86 sp_12345 ?_
      refine lv_iadd (pc := 89) hx hb dX8_roam_89 ?_
      obtain ⟨v6, e_v6, hf⟩ := letv_some hf
      refine tp_i e_v6 ?_
      refine lv_istore (pc := 90) (lv' := [(5, .int v6), (9, .int v5), (0, .ref (a 0)), (2, .int x2), (3, .int x3), (4, .int x4), (6, .long x6), (8, .int x8)]) hx hb dX8_roam_90 hl (Nat.le_of_ble_eq_true rfl) rfl (fun ls hl => ?_)
      refine lv_aload_n (pc := 92) hx hb dX8_roam_92 rfl (lv_at hl 2 rfl) ?_
      refine g_get (pc := 93) C fg_X8_21 hP 0 rfl rfl dX8_roam_93 ?_
      refine g_get (pc := 96) C fg_X8_260 hP 1 rfl rfl dX8_roam_96 ?_
      refine lv_iload (pc := 99) hx hb dX8_roam_99 (lv_at hl 5 rfl) ?_
      refine lv_iconst (pc := 101) (v := 4) hx hb dX8_roam_101 ic_4 ?_
      refine lv_imul (pc := 102) hx hb dX8_roam_102 ?_
      refine lv_iload (pc := 103) hx hb dX8_roam_103 (lv_at hl 0 rfl) ?_
      refine lv_bipush (pc := 105) (v := 16) hx hb dX8_roam_105 bp_16 ?_
      refine lv_iushr (pc := 107) hx hb dX8_roam_107 rfl ?_
      refine lv_iload (pc := 108) hx hb dX8_roam_108 (lv_at hl 1 rfl) ?_
      obtain ⟨hg, hf⟩ := gd_some hf
      refine lv_irem (pc := 110) hx hb dX8_roam_110 (nz_of hg) ?_
      refine lv_iadd (pc := 111) hx hb dX8_roam_111 ?_
      obtain ⟨hg, hf⟩ := gd_some hf
      refine g_iald (pc := 112) C hP 4 rfl hg dX8_roam_112 ?_
      obtain ⟨v7, e_v7, hf⟩ := letv_some hf
      refine tp_i e_v7 ?_
      refine lv_istore (pc := 113) (lv' := [(4, .int v7), (5, .int v6), (9, .int v5), (0, .ref (a 0)), (2, .int x2), (3, .int x3), (6, .long x6), (8, .int x8)]) hx hb dX8_roam_113 hl (Nat.le_of_ble_eq_true rfl) rfl (fun ls hl => ?_)
      refine lv_lload (pc := 115) hx hb dX8_roam_115 (lv_at hl 6 rfl) ?_
      refine lv_lconst (pc := 117) (v := 1) hx hb dX8_roam_117 rfl ?_
      refine lv_iload (pc := 118) hx hb dX8_roam_118 (lv_at hl 0 rfl) ?_
      refine lv_lshl (pc := 120) hx hb dX8_roam_120 rfl ?_
      refine lv_lor (pc := 121) hx hb dX8_roam_121 ?_
      obtain ⟨v8, e_v8, hf⟩ := letv_some hf
      refine tp_l e_v8 ?_
      refine lv_lstore (pc := 122) (lv' := [(6, .long v8), (4, .int v7), (5, .int v6), (9, .int v5), (0, .ref (a 0)), (2, .int x2), (3, .int x3), (8, .int x8)]) hx hb dX8_roam_122 hl (Nat.le_of_ble_eq_true rfl) rfl (fun ls hl => ?_)
      exact k_X8_roam_b124L57 C hA a x_stale x_finding land_flaw land_cells land_columns land_rows land_kinds land_ways land_beside walks_start walks_frost walks_present walks_raked x2 x3 v7 v6 v8 x8 r hf hK H locs ls hP hD hS (lv_sub hl [4, 5, 6, 1, 2, 0, 7] rfl)
theorem kl_X8_roam_L57 (C : Cx RX8 cX8_roam 10 D cA p s m args c) (hA : ∀ q, s.heap.size ≤ q → A q) (a : Nat → Nat) (x_stale : Int32) (x_finding : Int32) (land_flaw : Int32) (land_cells : Int32) (land_columns : Int32) (land_rows : Int32) (land_kinds : Nat → Int32) (land_ways : Nat → Int32) (land_beside : Nat → Int32) (walks_start : Int32) (walks_frost : Int32) (walks_present : Int32) (walks_raked : Int32) (x2 : Int32) (x3 : Int32) : ∀ (n : Nat) (q : Int32 × Int32 × Int64 × Int32) (z : (Int32 × Int64)), loopF (fun q : Int32 × Int32 × Int64 × Int32 => f_X8_roam_L57 land_ways land_beside x2 q.1 q.2.1 q.2.2.1 q.2.2.2) n q = some z → (fun q : Int32 × Int64 => At p l e rm_X8_roam s m args below meth c D A 0 0 Q 10 130 (wl_X8_roam cA a x_stale x_finding land_flaw land_cells land_columns land_rows land_kinds land_ways land_beside walks_start walks_frost walks_present walks_raked) [(3, .int x3), (4, .int (q.1)), (6, .long (q.2))] []) z → At p l e rm_X8_roam s m args below meth c D A 0 0 Q 10 57 (wl_X8_roam cA a x_stale x_finding land_flaw land_cells land_columns land_rows land_kinds land_ways land_beside walks_start walks_frost walks_present walks_raked) [(0, .ref (a 0)), (2, .int x2), (3, .int x3), (4, .int (q.1)), (5, .int (q.2.1)), (6, .long (q.2.2.1)), (8, .int (q.2.2.2))] [] :=
  loop_lem (WP := fun q : Int32 × Int32 × Int64 × Int32 => At p l e rm_X8_roam s m args below meth c D A 0 0 Q 10 57 (wl_X8_roam cA a x_stale x_finding land_flaw land_cells land_columns land_rows land_kinds land_ways land_beside walks_start walks_frost walks_present walks_raked) [(0, .ref (a 0)), (2, .int x2), (3, .int x3), (4, .int (q.1)), (5, .int (q.2.1)), (6, .long (q.2.2.1)), (8, .int (q.2.2.2))] []) (WE := (fun q : Int32 × Int64 => At p l e rm_X8_roam s m args below meth c D A 0 0 Q 10 130 (wl_X8_roam cA a x_stale x_finding land_flaw land_cells land_columns land_rows land_kinds land_ways land_beside walks_start walks_frost walks_present walks_raked) [(3, .int x3), (4, .int (q.1)), (6, .long (q.2))] [])) (fun q r hf hK => k_X8_roam_L57 C hA a x_stale x_finding land_flaw land_cells land_columns land_rows land_kinds land_ways land_beside walks_start walks_frost walks_present walks_raked x2 x3 q.1 q.2.1 q.2.2.1 q.2.2.2 r hf hK)
def f_X8_roam (land_columns : Int32) (land_rows : Int32) (land_kinds : Nat → Int32) (land_ways : Nat → Int32) (land_beside : Nat → Int32) (walks_start : Int32) (x1 : Int32) (x2 : Int32) (x3 : Int32) : Option (Int32) :=
  bind1 (f_X8_isUpTo x2 (60 : Int32)) (fun r1 => if r1 = 0 then (some (-2 : Int32)) else (bind1 (f_X8_isUpTo x3 (1 : Int32)) (fun r2 => if r2 = 0 then (some (-2 : Int32)) else (bind1 (f_X7_firstCell land_columns land_rows land_kinds walks_start) (fun r3 => if r3 = (-1 : Int32) then (if x3 = 0 then (some (-1 : Int32)) else (some (0 : Int32))) else (letv (((1 : Int64) <<< (r3.toInt64 &&& 63))) (fun v4 => bind2 (loopF (fun q : Int32 × Int32 × Int64 × Int32 => f_X8_roam_L57 land_ways land_beside x2 q.1 q.2.1 q.2.2.1 q.2.2.2) FU (r3, x1, v4, (0 : Int32))) (fun u9 u10 => if x3 = 0 then (some u9) else (bind1 (f_J13_bitCount_95d88 u10) (fun r11 => some r11))))))))))
set_option maxHeartbeats 4000000 in
set_option maxRecDepth 100000 in
theorem k_X8_roam (C : Cx RX8 cX8_roam 10 D cA p s m args c) (hr : meth.sig.returnType = (some .int)) (hlk : meth.locks = false) (hA : ∀ q, s.heap.size ≤ q → va_A ws0 sz q) (a : Nat → Nat) (x_stale : Int32) (x_finding : Int32) (land_flaw : Int32) (land_cells : Int32) (land_columns : Int32) (land_rows : Int32) (land_kinds : Nat → Int32) (land_ways : Nat → Int32) (land_beside : Nat → Int32) (walks_start : Int32) (walks_frost : Int32) (walks_present : Int32) (walks_raked : Int32) (x1 : Int32) (x2 : Int32) (x3 : Int32) (r : Int32) (hf : f_X8_roam land_columns land_rows land_kinds land_ways land_beside walks_start x1 x2 x3 = some r) : At p l e rm_X8_roam s m args below meth c D (va_A ws0 sz) 0 0 (MQ below (PostI D r ws0 (wl_X8_roam cA a x_stale x_finding land_flaw land_cells land_columns land_rows land_kinds land_ways land_beside walks_start walks_frost walks_present walks_raked) sz) args s 0 0 (va_A ws0 sz)) 10 0 (wl_X8_roam cA a x_stale x_finding land_flaw land_cells land_columns land_rows land_kinds land_ways land_beside walks_start walks_frost walks_present walks_raked) [(0, .ref (a 0)), (1, .int x1), (2, .int x2), (3, .int x3)] [] := by
  intro H locs ls hP hD hS hl
  have hx := C.1
  have hb := C.2.1
  have hown := C.2.2.2.1
  have hts := C.2.2.2.2.1
  unfold f_X8_roam at hf
  refine lv_iload_n (pc := 0) hx hb dX8_roam_0 rfl (lv_at hl 2 rfl) ?_
  refine lv_bipush (pc := 1) (v := 60) hx hb dX8_roam_1 bp_60 ?_
  obtain ⟨r1, hq, hf⟩ := bind1_some hf
  refine fin2_i (wl_X8_roam cA a x_stale x_finding land_flaw land_cells land_columns land_rows land_kinds land_ways land_beside walks_start walks_frost walks_present walks_raked) (run_S (rest := []) (pc := 3) (As := [.int x2, .int (60 : Int32)]) C mf_X8_90 (c_X8_isUpTo l D cA  x2 (60 : Int32) r1 hq H.size) rfl rfl ⟨(Nat.le_of_ble_eq_true rfl), (Nat.le_of_ble_eq_true rfl)⟩ (preS_of C hP hD [] rfl (pl_nd pv_2)) rfl hl.1 rfl (Nat.le_of_ble_eq_true rfl) dX8_roam_3 ⟨Nat.zero_le _, Nat.zero_le _⟩) hP hD hS hA [] [0, 1, 2, 3, 4, 5] rfl rfl rfl rfl pv_2 (fun H locs hP hS => ?_)
  refine lv_if_eq (pc := 6) (tgt := 17) hx hb dX8_roam_6 (by decide) (fun hc => ?_) (fun hc => ?_)
  · have hf := (if_pos hc).symm.trans hf
    refine lv_bipush (pc := 17) (v := (-2)) hx hb dX8_roam_17 bp_m2 ?_
    have hf := Option.some.inj hf
    subst hf
    exact ret_i C hr hlk hP hS dX8_roam_19
  · have hf := (if_neg hc).symm.trans hf
    refine lv_iload_n (pc := 9) hx hb dX8_roam_9 rfl (lv_at hl 3 rfl) ?_
    refine lv_iconst (pc := 10) (v := 1) hx hb dX8_roam_10 ic_1 ?_
    obtain ⟨r2, hq, hf⟩ := bind1_some hf
    refine fin2_i (wl_X8_roam cA a x_stale x_finding land_flaw land_cells land_columns land_rows land_kinds land_ways land_beside walks_start walks_frost walks_present walks_raked) (run_S (rest := []) (pc := 11) (As := [.int x3, .int (1 : Int32)]) C mf_X8_90 (c_X8_isUpTo l D cA  x3 (1 : Int32) r2 hq H.size) rfl rfl ⟨(Nat.le_of_ble_eq_true rfl), (Nat.le_of_ble_eq_true rfl)⟩ (preS_of C hP hD [] rfl (pl_nd pv_2)) rfl hl.1 rfl (Nat.le_of_ble_eq_true rfl) dX8_roam_11 ⟨Nat.zero_le _, Nat.zero_le _⟩) hP hD hS hA [] [0, 1, 2, 3, 4, 5] rfl rfl rfl rfl pv_2 (fun H locs hP hS => ?_)
    refine lv_if_ne (pc := 14) (tgt := 20) hx hb dX8_roam_14 (by decide) (fun hc => ?_) (fun hc => ?_)
    · have hf := (if_neg hc).symm.trans hf
      refine lv_aload_n (pc := 20) hx hb dX8_roam_20 rfl (lv_at hl 0 rfl) ?_
      refine g_get (pc := 21) C fg_X8_50 hP 0 rfl rfl dX8_roam_21 ?_
      obtain ⟨r3, hq, hf⟩ := bind1_some hf
      refine fin2_i (wl_X8_roam cA a x_stale x_finding land_flaw land_cells land_columns land_rows land_kinds land_ways land_beside walks_start walks_frost walks_present walks_raked) (run_V (rest := []) (pc := 24) (As := []) C mf_X8_252 (c_X7_firstCell l D cA (a 6) (a 7) (a 8) (a 9) (a 10) (a 11) (a 15) (a 19) (a 27) (a 28) (a 29) (a 30) (a 31) (a 32) (a 33) land_flaw land_cells land_columns land_rows land_kinds walks_start walks_frost walks_present walks_raked r3 hq H.size) rfl rfl ⟨(Nat.le_of_ble_eq_true rfl), (Nat.le_of_ble_eq_true rfl)⟩ (preV_of C hP hD [1, 2, 5] rfl (pl_nd pv_78) 2 rfl rfl rfl) rfl hl.1 rfl (Nat.le_of_ble_eq_true rfl) dX8_roam_24 ⟨Nat.zero_le _, Nat.zero_le _⟩) hP hD hS hA [1, 2, 5] [0, 3, 4] rfl rfl rfl rfl pv_78 (fun H locs hP hS => ?_)
      refine lv_istore (pc := 27) (lv' := [(4, .int r3), (0, .ref (a 0)), (1, .int x1), (2, .int x2), (3, .int x3)]) hx hb dX8_roam_27 hl (Nat.le_of_ble_eq_true rfl) rfl (fun ls hl => ?_)
      refine lv_iload (pc := 29) hx hb dX8_roam_29 (lv_at hl 0 rfl) ?_
      refine lv_iconst (pc := 31) (v := (-1)) hx hb dX8_roam_31 ic_m1 ?_
      refine lv_icmp_ne (pc := 32) (tgt := 45) hx hb dX8_roam_32 (by decide) (fun hc => ?_) (fun hc => ?_)
      · have hf := (if_neg hc).symm.trans hf
        refine lv_iload_n (pc := 45) hx hb dX8_roam_45 rfl (lv_at hl 2 rfl) ?_
        refine lv_istore (pc := 46) (lv' := [(5, .int x1), (4, .int r3), (0, .ref (a 0)), (1, .int x1), (2, .int x2), (3, .int x3)]) hx hb dX8_roam_46 hl (Nat.le_of_ble_eq_true rfl) rfl (fun ls hl => ?_)
        refine lv_lconst (pc := 48) (v := 1) hx hb dX8_roam_48 rfl ?_
        refine lv_iload (pc := 49) hx hb dX8_roam_49 (lv_at hl 1 rfl) ?_
        refine lv_lshl (pc := 51) hx hb dX8_roam_51 rfl ?_
        obtain ⟨v4, e_v4, hf⟩ := letv_some hf
        refine tp_l e_v4 ?_
        refine lv_lstore (pc := 52) (lv' := [(6, .long v4), (5, .int x1), (4, .int r3), (0, .ref (a 0)), (1, .int x1), (2, .int x2), (3, .int x3)]) hx hb dX8_roam_52 hl (Nat.le_of_ble_eq_true rfl) rfl (fun ls hl => ?_)
        refine lv_iconst (pc := 54) (v := 0) hx hb dX8_roam_54 ic_0 ?_
        refine lv_istore (pc := 55) (lv' := [(8, .int (0 : Int32)), (6, .long v4), (5, .int x1), (4, .int r3), (0, .ref (a 0)), (1, .int x1), (2, .int x2), (3, .int x3)]) hx hb dX8_roam_55 hl (Nat.le_of_ble_eq_true rfl) rfl (fun ls hl => ?_)
        obtain ⟨u9, u10, hq, hf⟩ := bind2_some hf
        refine kl_X8_roam_L57 C hA a x_stale x_finding land_flaw land_cells land_columns land_rows land_kinds land_ways land_beside walks_start walks_frost walks_present walks_raked x2 x3 FU (r3, x1, v4, (0 : Int32)) _ hq ?_ H locs ls hP hD hS (lv_sub hl [4, 6, 7, 3, 2, 1, 0] rfl)
        intro H locs ls hP hD hS hl
        have hP : va_P D classes (wl_X8_roam cA a x_stale x_finding land_flaw land_cells land_columns land_rows land_kinds land_ways land_beside walks_start walks_frost walks_present walks_raked) H := hP
        have hD : va_D (va_A ws0 sz) (wl_X8_roam cA a x_stale x_finding land_flaw land_cells land_columns land_rows land_kinds land_ways land_beside walks_start walks_frost walks_present walks_raked) := hD
        have hl : lv_has ls 10 [(3, .int x3), (4, .int u9), (6, .long u10)] := hl
        refine lv_iload_n (pc := 130) hx hb dX8_roam_130 rfl (lv_at hl 0 rfl) ?_
        refine lv_if_ne (pc := 131) (tgt := 139) hx hb dX8_roam_131 (by decide) (fun hc => ?_) (fun hc => ?_)
        · have hf := (if_neg hc).symm.trans hf
          refine lv_lload (pc := 139) hx hb dX8_roam_139 (lv_at hl 2 rfl) ?_
          obtain ⟨r11, hq, hf⟩ := bind1_some hf
          refine fin2_i (wl_X8_roam cA a x_stale x_finding land_flaw land_cells land_columns land_rows land_kinds land_ways land_beside walks_start walks_frost walks_present walks_raked) (run_S (rest := []) (pc := 141) (As := [.long u10]) C mf_X8_263 (c_J13_bitCount_95d88 l D cA  u10 r11 hq H.size) rfl rfl ⟨(Nat.le_of_ble_eq_true rfl), (Nat.le_of_ble_eq_true rfl)⟩ (preS_of C hP hD [] rfl (pl_nd pv_2)) rfl hl.1 rfl (Nat.le_of_ble_eq_true rfl) dX8_roam_141 ⟨Nat.zero_le _, Nat.zero_le _⟩) hP hD hS hA [] [0, 1, 2, 3, 4, 5] rfl rfl rfl rfl pv_2 (fun H locs hP hS => ?_)
          have hf := Option.some.inj hf
          subst hf
          exact ret_i C hr hlk hP hS dX8_roam_144
        · have hf := (if_pos hc).symm.trans hf
          refine lv_iload (pc := 134) hx hb dX8_roam_134 (lv_at hl 1 rfl) ?_
          refine lv_goto (pc := 136) (tgt := 144) hx hb dX8_roam_136 (by decide) ?_
          have hf := Option.some.inj hf
          subst hf
          exact ret_i C hr hlk hP hS dX8_roam_144
      · have hf := (if_pos hc).symm.trans hf
        refine lv_iload_n (pc := 35) hx hb dX8_roam_35 rfl (lv_at hl 4 rfl) ?_
        refine lv_if_ne (pc := 36) (tgt := 43) hx hb dX8_roam_36 (by decide) (fun hc => ?_) (fun hc => ?_)
        · have hf := (if_neg hc).symm.trans hf
          refine lv_iconst (pc := 43) (v := 0) hx hb dX8_roam_43 ic_0 ?_
          have hf := Option.some.inj hf
          subst hf
          exact ret_i C hr hlk hP hS dX8_roam_44
        · have hf := (if_pos hc).symm.trans hf
          refine lv_iconst (pc := 39) (v := (-1)) hx hb dX8_roam_39 ic_m1 ?_
          refine lv_goto (pc := 40) (tgt := 44) hx hb dX8_roam_40 (by decide) ?_
          have hf := Option.some.inj hf
          subst hf
          exact ret_i C hr hlk hP hS dX8_roam_44
    · have hf := (if_pos hc).symm.trans hf
      refine lv_bipush (pc := 17) (v := (-2)) hx hb dX8_roam_17 bp_m2 ?_
      have hf := Option.some.inj hf
      subst hf
      exact ret_i C hr hlk hP hS dX8_roam_19
set_option maxRecDepth 100000 in
theorem c_X8_roam (l : Launch) (D : va_G) (cA : Nat → ClassId) (a : Nat → Nat) (x_stale : Int32) (x_finding : Int32) (land_flaw : Int32) (land_cells : Int32) (land_columns : Int32) (land_rows : Int32) (land_kinds : Nat → Int32) (land_ways : Nat → Int32) (land_beside : Nat → Int32) (walks_start : Int32) (walks_frost : Int32) (walks_present : Int32) (walks_raked : Int32) (x1 : Int32) (x2 : Int32) (x3 : Int32) (r : Int32) (hf : f_X8_roam land_columns land_rows land_kinds land_ways land_beside walks_start x1 x2 x3 = some r) (sz : Nat) : Met l yX8_roam (Cond.code yX8_roam cX8_roam 10 (some .int) :: lw_good) rm_X8_roam (PreX D cA [.ref (a 0), .int x1, .int x2, .int x3] sz (wl_X8_roam cA a x_stale x_finding land_flaw land_cells land_columns land_rows land_kinds land_ways land_beside walks_start walks_frost walks_present walks_raked)) (PostI D r (wl_X8_roam cA a x_stale x_finding land_flaw land_cells land_columns land_rows land_kinds land_ways land_beside walks_start walks_frost walks_present walks_raked) (wl_X8_roam cA a x_stale x_finding land_flaw land_cells land_columns land_rows land_kinds land_ways land_beside walks_start walks_frost walks_present walks_raked) sz) 0 0 (va_A (wl_X8_roam cA a x_stale x_finding land_flaw land_cells land_columns land_rows land_kinds land_ways land_beside walks_start walks_frost walks_present walks_raked) sz) :=
  met_of (by decide) (Nat.le_of_ble_eq_true rfl) (fun p e s m args below meth c C hr hlk hA => k_X8_roam C hr hlk hA a x_stale x_finding land_flaw land_cells land_columns land_rows land_kinds land_ways land_beside walks_start walks_frost walks_present walks_raked x1 x2 x3 r hf)
end

abbrev wl_X8_sheet (cA : Nat → ClassId) (a : Nat → Nat) (x_stale : Int32) (x_finding : Int32) (sheet0_lost : Int32) (sheet0_form : Int32) (sheet0_size : Int32) (sheet0_items : Nat → Int32) (sheet1_lost : Int32) (sheet1_form : Int32) (sheet1_size : Int32) (sheet1_items : Nat → Int32) (sheet2_lost : Int32) (sheet2_form : Int32) (sheet2_size : Int32) (sheet2_items : Nat → Int32) (sheet3_lost : Int32) (sheet3_form : Int32) (sheet3_size : Int32) (sheet3_items : Nat → Int32) : va_W := [((a 0), .inr (8, [.ref (a 1), .ref (a 6), .ref (a 12), .ref (a 15), .ref (a 19), .ref (a 23), .ref (a 27), .ref (a 34), .ref (a 41), .ref (a 42), .ref (a 44), .ref (a 45), .int x_stale, .int x_finding])), ((a 45), .inl (cA 3, 4, .inr (.inr (.inr (.inr (fun k : Nat => if k = 0 then some (a 46) else if k = 1 then some (a 48) else if k = 2 then some (a 50) else some (a 52))))))), ((a 46), .inr (5, [.ref (a 47), .int sheet0_lost, .int sheet0_form, .int sheet0_size])), ((a 47), .inl (cA 0, 60, .inl sheet0_items)), ((a 48), .inr (5, [.ref (a 49), .int sheet1_lost, .int sheet1_form, .int sheet1_size])), ((a 49), .inl (cA 0, 60, .inl sheet1_items)), ((a 50), .inr (5, [.ref (a 51), .int sheet2_lost, .int sheet2_form, .int sheet2_size])), ((a 51), .inl (cA 0, 60, .inl sheet2_items)), ((a 52), .inr (5, [.ref (a 53), .int sheet3_lost, .int sheet3_form, .int sheet3_size])), ((a 53), .inl (cA 0, 60, .inl sheet3_items))]
abbrev rm_X8_sheet : Room := { frames := 2, cells := 0, slots := 0, locals := 45 }
section
variable {p : Program} {l : Launch} {e : Env} {s : State} {m : MethodId} {args : Array Value} {below : List Frame} {meth : Method} {c : Code} {D : va_G} {cA : Nat → ClassId} {ws0 : va_W} {sz : Nat} {A : Nat → Prop} {Q : State → Prop}
def f_X8_sheet (x_finding : Int32) (sheet0_lost : Int32) (sheet0_form : Int32) (sheet0_size : Int32) (sheet0_items : Nat → Int32) (sheet1_lost : Int32) (sheet1_form : Int32) (sheet1_size : Int32) (sheet1_items : Nat → Int32) (sheet2_lost : Int32) (sheet2_form : Int32) (sheet2_size : Int32) (sheet2_items : Nat → Int32) (sheet3_lost : Int32) (sheet3_form : Int32) (sheet3_size : Int32) (sheet3_items : Nat → Int32) (x1 : Int32) (x2 : Int32) (x3 : Int32) : Option (Int32 × Int32 × Int32 × Int32 × Int32 × (Nat → Int32) × Int32 × Int32 × Int32 × (Nat → Int32) × Int32 × Int32 × Int32 × (Nat → Int32) × Int32 × Int32 × Int32 × (Nat → Int32)) :=
  bind1 (f_X8_isUpTo x1 (3 : Int32)) (fun r1 => if r1 = 0 then (some ((-2 : Int32), x_finding, sheet0_lost, sheet0_form, sheet0_size, sheet0_items, sheet1_lost, sheet1_form, sheet1_size, sheet1_items, sheet2_lost, sheet2_form, sheet2_size, sheet2_items, sheet3_lost, sheet3_form, sheet3_size, sheet3_items)) else (bind1 (f_X8_isUpTo x2 (2 : Int32)) (fun r2 => if r2 = 0 then (some ((-2 : Int32), x_finding, sheet0_lost, sheet0_form, sheet0_size, sheet0_items, sheet1_lost, sheet1_form, sheet1_size, sheet1_items, sheet2_lost, sheet2_form, sheet2_size, sheet2_items, sheet3_lost, sheet3_form, sheet3_size, sheet3_items)) else (if x3 ≤ (60 : Int32) then (if 0 ≤ x3 then (if x1 = (0 : Int32) then (bind4 (f_X5_begin sheet0_lost sheet0_form sheet0_size sheet0_items x2 x3) (fun c3 c4 c5 c6 => some (x3, x_finding, c3, c4, c5, c6, sheet1_lost, sheet1_form, sheet1_size, sheet1_items, sheet2_lost, sheet2_form, sheet2_size, sheet2_items, sheet3_lost, sheet3_form, sheet3_size, sheet3_items))) else (if x1 = (1 : Int32) then (bind4 (f_X5_begin sheet1_lost sheet1_form sheet1_size sheet1_items x2 x3) (fun c7 c8 c9 c10 => some (x3, x_finding, sheet0_lost, sheet0_form, sheet0_size, sheet0_items, c7, c8, c9, c10, sheet2_lost, sheet2_form, sheet2_size, sheet2_items, sheet3_lost, sheet3_form, sheet3_size, sheet3_items))) else (if x1 = (2 : Int32) then (bind4 (f_X5_begin sheet2_lost sheet2_form sheet2_size sheet2_items x2 x3) (fun c11 c12 c13 c14 => some (x3, x_finding, sheet0_lost, sheet0_form, sheet0_size, sheet0_items, sheet1_lost, sheet1_form, sheet1_size, sheet1_items, c11, c12, c13, c14, sheet3_lost, sheet3_form, sheet3_size, sheet3_items))) else (if x1 = (3 : Int32) then (bind4 (f_X5_begin sheet3_lost sheet3_form sheet3_size sheet3_items x2 x3) (fun c15 c16 c17 c18 => some (x3, x_finding, sheet0_lost, sheet0_form, sheet0_size, sheet0_items, sheet1_lost, sheet1_form, sheet1_size, sheet1_items, sheet2_lost, sheet2_form, sheet2_size, sheet2_items, c15, c16, c17, c18))) else (none))))) else (bind2 (f_X8_found x_finding (5 : Int32)) (fun r19 c20 => some (r19, c20, sheet0_lost, sheet0_form, sheet0_size, sheet0_items, sheet1_lost, sheet1_form, sheet1_size, sheet1_items, sheet2_lost, sheet2_form, sheet2_size, sheet2_items, sheet3_lost, sheet3_form, sheet3_size, sheet3_items)))) else (some ((-2 : Int32), x_finding, sheet0_lost, sheet0_form, sheet0_size, sheet0_items, sheet1_lost, sheet1_form, sheet1_size, sheet1_items, sheet2_lost, sheet2_form, sheet2_size, sheet2_items, sheet3_lost, sheet3_form, sheet3_size, sheet3_items))))))
set_option maxHeartbeats 4000000 in
set_option maxRecDepth 100000 in
theorem k_X8_sheet (C : Cx RX8 cX8_sheet 4 D cA p s m args c) (hr : meth.sig.returnType = (some .int)) (hlk : meth.locks = false) (hA : ∀ q, s.heap.size ≤ q → va_A ws0 sz q) (a : Nat → Nat) (x_stale : Int32) (x_finding : Int32) (sheet0_lost : Int32) (sheet0_form : Int32) (sheet0_size : Int32) (sheet0_items : Nat → Int32) (sheet1_lost : Int32) (sheet1_form : Int32) (sheet1_size : Int32) (sheet1_items : Nat → Int32) (sheet2_lost : Int32) (sheet2_form : Int32) (sheet2_size : Int32) (sheet2_items : Nat → Int32) (sheet3_lost : Int32) (sheet3_form : Int32) (sheet3_size : Int32) (sheet3_items : Nat → Int32) (x1 : Int32) (x2 : Int32) (x3 : Int32) (r : Int32 × Int32 × Int32 × Int32 × Int32 × (Nat → Int32) × Int32 × Int32 × Int32 × (Nat → Int32) × Int32 × Int32 × Int32 × (Nat → Int32) × Int32 × Int32 × Int32 × (Nat → Int32)) (hf : f_X8_sheet x_finding sheet0_lost sheet0_form sheet0_size sheet0_items sheet1_lost sheet1_form sheet1_size sheet1_items sheet2_lost sheet2_form sheet2_size sheet2_items sheet3_lost sheet3_form sheet3_size sheet3_items x1 x2 x3 = some r) : At p l e rm_X8_sheet s m args below meth c D (va_A ws0 sz) 0 0 (MQ below (PostI D r.1 ws0 (wl_X8_sheet cA a x_stale (r.2.1) (r.2.2.1) (r.2.2.2.1) (r.2.2.2.2.1) (r.2.2.2.2.2.1) (r.2.2.2.2.2.2.1) (r.2.2.2.2.2.2.2.1) (r.2.2.2.2.2.2.2.2.1) (r.2.2.2.2.2.2.2.2.2.1) (r.2.2.2.2.2.2.2.2.2.2.1) (r.2.2.2.2.2.2.2.2.2.2.2.1) (r.2.2.2.2.2.2.2.2.2.2.2.2.1) (r.2.2.2.2.2.2.2.2.2.2.2.2.2.1) (r.2.2.2.2.2.2.2.2.2.2.2.2.2.2.1) (r.2.2.2.2.2.2.2.2.2.2.2.2.2.2.2.1) (r.2.2.2.2.2.2.2.2.2.2.2.2.2.2.2.2.1) (r.2.2.2.2.2.2.2.2.2.2.2.2.2.2.2.2.2)) sz) args s 0 0 (va_A ws0 sz)) 4 0 (wl_X8_sheet cA a x_stale x_finding sheet0_lost sheet0_form sheet0_size sheet0_items sheet1_lost sheet1_form sheet1_size sheet1_items sheet2_lost sheet2_form sheet2_size sheet2_items sheet3_lost sheet3_form sheet3_size sheet3_items) [(0, .ref (a 0)), (1, .int x1), (2, .int x2), (3, .int x3)] [] := by
  intro H locs ls hP hD hS hl
  have hx := C.1
  have hb := C.2.1
  have hown := C.2.2.2.1
  have hts := C.2.2.2.2.1
  unfold f_X8_sheet at hf
  refine lv_iload_n (pc := 0) hx hb dX8_sheet_0 rfl (lv_at hl 1 rfl) ?_
  refine lv_iconst (pc := 1) (v := 3) hx hb dX8_sheet_1 ic_3 ?_
  obtain ⟨r1, hq, hf⟩ := bind1_some hf
  refine fin2_i (wl_X8_sheet cA a x_stale x_finding sheet0_lost sheet0_form sheet0_size sheet0_items sheet1_lost sheet1_form sheet1_size sheet1_items sheet2_lost sheet2_form sheet2_size sheet2_items sheet3_lost sheet3_form sheet3_size sheet3_items) (run_S (rest := []) (pc := 2) (As := [.int x1, .int (3 : Int32)]) C mf_X8_90 (c_X8_isUpTo l D cA  x1 (3 : Int32) r1 hq H.size) rfl rfl ⟨(Nat.le_of_ble_eq_true rfl), (Nat.le_of_ble_eq_true rfl)⟩ (preS_of C hP hD [] rfl (pl_nd pv_79)) rfl hl.1 rfl (Nat.le_of_ble_eq_true rfl) dX8_sheet_2 ⟨Nat.zero_le _, Nat.zero_le _⟩) hP hD hS hA [] [0, 1, 2, 3, 4, 5, 6, 7, 8, 9] rfl rfl rfl rfl pv_79 (fun H locs hP hS => ?_)
  refine lv_if_eq (pc := 5) (tgt := 22) hx hb dX8_sheet_5 (by decide) (fun hc => ?_) (fun hc => ?_)
  · have hf := (if_pos hc).symm.trans hf
    refine lv_bipush (pc := 22) (v := (-2)) hx hb dX8_sheet_22 bp_m2 ?_
    have hf := Option.some.inj hf
    subst hf
    exact ret_i C hr hlk hP hS dX8_sheet_24
  · have hf := (if_neg hc).symm.trans hf
    refine lv_iload_n (pc := 8) hx hb dX8_sheet_8 rfl (lv_at hl 2 rfl) ?_
    refine lv_iconst (pc := 9) (v := 2) hx hb dX8_sheet_9 ic_2 ?_
    obtain ⟨r2, hq, hf⟩ := bind1_some hf
    refine fin2_i (wl_X8_sheet cA a x_stale x_finding sheet0_lost sheet0_form sheet0_size sheet0_items sheet1_lost sheet1_form sheet1_size sheet1_items sheet2_lost sheet2_form sheet2_size sheet2_items sheet3_lost sheet3_form sheet3_size sheet3_items) (run_S (rest := []) (pc := 10) (As := [.int x2, .int (2 : Int32)]) C mf_X8_90 (c_X8_isUpTo l D cA  x2 (2 : Int32) r2 hq H.size) rfl rfl ⟨(Nat.le_of_ble_eq_true rfl), (Nat.le_of_ble_eq_true rfl)⟩ (preS_of C hP hD [] rfl (pl_nd pv_79)) rfl hl.1 rfl (Nat.le_of_ble_eq_true rfl) dX8_sheet_10 ⟨Nat.zero_le _, Nat.zero_le _⟩) hP hD hS hA [] [0, 1, 2, 3, 4, 5, 6, 7, 8, 9] rfl rfl rfl rfl pv_79 (fun H locs hP hS => ?_)
    refine lv_if_eq (pc := 13) (tgt := 22) hx hb dX8_sheet_13 (by decide) (fun hc => ?_) (fun hc => ?_)
    · have hf := (if_pos hc).symm.trans hf
      refine lv_bipush (pc := 22) (v := (-2)) hx hb dX8_sheet_22 bp_m2 ?_
      have hf := Option.some.inj hf
      subst hf
      exact ret_i C hr hlk hP hS dX8_sheet_24
    · have hf := (if_neg hc).symm.trans hf
      refine lv_iload_n (pc := 16) hx hb dX8_sheet_16 rfl (lv_at hl 3 rfl) ?_
      refine lv_bipush (pc := 17) (v := 60) hx hb dX8_sheet_17 bp_60 ?_
      refine lv_icmp_le (pc := 19) (tgt := 25) hx hb dX8_sheet_19 (by decide) (fun hc => ?_) (fun hc => ?_)
      · have hf := (if_pos hc).symm.trans hf
        refine lv_iload_n (pc := 25) hx hb dX8_sheet_25 rfl (lv_at hl 3 rfl) ?_
        refine lv_if_ge (pc := 26) (tgt := 35) hx hb dX8_sheet_26 (by decide) (fun hc => ?_) (fun hc => ?_)
        · have hf := (if_pos hc).symm.trans hf
          refine lv_aload_n (pc := 35) hx hb dX8_sheet_35 rfl (lv_at hl 0 rfl) ?_
          refine g_get (pc := 36) C fg_X8_77 hP 0 rfl rfl dX8_sheet_36 ?_
          refine lv_iload_n (pc := 39) hx hb dX8_sheet_39 rfl (lv_at hl 1 rfl) ?_
          by_cases h_0 : x1 = (0 : Int32)
          · have hf := (if_pos h_0).symm.trans hf
            refine g_aald (pc := 40) (b := (a 46)) C hP 1 rfl (t0 := 3) rfl (by rw [h_0]; decide) (by rw [h_0, tn_0]; rfl) dX8_sheet_40 ?_
            refine lv_iload_n (pc := 41) hx hb dX8_sheet_41 rfl (lv_at hl 2 rfl) ?_
            refine lv_iload_n (pc := 42) hx hb dX8_sheet_42 rfl (lv_at hl 3 rfl) ?_
            obtain ⟨c3, c4, c5, c6, hq, hf⟩ := bind4_some hf
            refine fin2_v (wl_X8_sheet cA a x_stale x_finding c3 c4 c5 c6 sheet1_lost sheet1_form sheet1_size sheet1_items sheet2_lost sheet2_form sheet2_size sheet2_items sheet3_lost sheet3_form sheet3_size sheet3_items) (run_V (rest := []) (pc := 43) (As := [.int x2, .int x3]) C mf_X8_311 (c_X5_begin l D cA (a 46) (a 47) sheet0_lost sheet0_form sheet0_size sheet0_items x2 x3 (c3, c4, c5, c6) hq H.size) rfl rfl ⟨(Nat.le_of_ble_eq_true rfl), (Nat.le_of_ble_eq_true rfl)⟩ (preV_of C hP hD [2, 3] rfl (pl_nd pv_80) 0 rfl rfl rfl) rfl hl.1 rfl (Nat.le_of_ble_eq_true rfl) dX8_sheet_43 ⟨Nat.zero_le _, Nat.zero_le _⟩) hP hD hS hA [2, 3] [0, 1, 4, 5, 6, 7, 8, 9] rfl rfl rfl rfl pv_80 (fun H locs hP hS => ?_)
            have hD : va_D (va_A ws0 sz) (wl_X8_sheet cA a x_stale x_finding c3 c4 c5 c6 sheet1_lost sheet1_form sheet1_size sheet1_items sheet2_lost sheet2_form sheet2_size sheet2_items sheet3_lost sheet3_form sheet3_size sheet3_items) := vd_a hD rfl
            refine lv_iload_n (pc := 46) hx hb dX8_sheet_46 rfl (lv_at hl 3 rfl) ?_
            have hf := Option.some.inj hf
            subst hf
            exact ret_i C hr hlk hP hS dX8_sheet_47
          have hf := (if_neg h_0).symm.trans hf
          by_cases h_1 : x1 = (1 : Int32)
          · have hf := (if_pos h_1).symm.trans hf
            refine g_aald (pc := 40) (b := (a 48)) C hP 1 rfl (t0 := 3) rfl (by rw [h_1]; decide) (by rw [h_1, tn_1]; rfl) dX8_sheet_40 ?_
            refine lv_iload_n (pc := 41) hx hb dX8_sheet_41 rfl (lv_at hl 2 rfl) ?_
            refine lv_iload_n (pc := 42) hx hb dX8_sheet_42 rfl (lv_at hl 3 rfl) ?_
            obtain ⟨c7, c8, c9, c10, hq, hf⟩ := bind4_some hf
            refine fin2_v (wl_X8_sheet cA a x_stale x_finding sheet0_lost sheet0_form sheet0_size sheet0_items c7 c8 c9 c10 sheet2_lost sheet2_form sheet2_size sheet2_items sheet3_lost sheet3_form sheet3_size sheet3_items) (run_V (rest := []) (pc := 43) (As := [.int x2, .int x3]) C mf_X8_311 (c_X5_begin l D cA (a 48) (a 49) sheet1_lost sheet1_form sheet1_size sheet1_items x2 x3 (c7, c8, c9, c10) hq H.size) rfl rfl ⟨(Nat.le_of_ble_eq_true rfl), (Nat.le_of_ble_eq_true rfl)⟩ (preV_of C hP hD [4, 5] rfl (pl_nd pv_81) 0 rfl rfl rfl) rfl hl.1 rfl (Nat.le_of_ble_eq_true rfl) dX8_sheet_43 ⟨Nat.zero_le _, Nat.zero_le _⟩) hP hD hS hA [4, 5] [0, 1, 2, 3, 6, 7, 8, 9] rfl rfl rfl rfl pv_81 (fun H locs hP hS => ?_)
            have hD : va_D (va_A ws0 sz) (wl_X8_sheet cA a x_stale x_finding sheet0_lost sheet0_form sheet0_size sheet0_items c7 c8 c9 c10 sheet2_lost sheet2_form sheet2_size sheet2_items sheet3_lost sheet3_form sheet3_size sheet3_items) := vd_a hD rfl
            refine lv_iload_n (pc := 46) hx hb dX8_sheet_46 rfl (lv_at hl 3 rfl) ?_
            have hf := Option.some.inj hf
            subst hf
            exact ret_i C hr hlk hP hS dX8_sheet_47
          have hf := (if_neg h_1).symm.trans hf
          by_cases h_2 : x1 = (2 : Int32)
          · have hf := (if_pos h_2).symm.trans hf
            refine g_aald (pc := 40) (b := (a 50)) C hP 1 rfl (t0 := 3) rfl (by rw [h_2]; decide) (by rw [h_2, tn_2]; rfl) dX8_sheet_40 ?_
            refine lv_iload_n (pc := 41) hx hb dX8_sheet_41 rfl (lv_at hl 2 rfl) ?_
            refine lv_iload_n (pc := 42) hx hb dX8_sheet_42 rfl (lv_at hl 3 rfl) ?_
            obtain ⟨c11, c12, c13, c14, hq, hf⟩ := bind4_some hf
            refine fin2_v (wl_X8_sheet cA a x_stale x_finding sheet0_lost sheet0_form sheet0_size sheet0_items sheet1_lost sheet1_form sheet1_size sheet1_items c11 c12 c13 c14 sheet3_lost sheet3_form sheet3_size sheet3_items) (run_V (rest := []) (pc := 43) (As := [.int x2, .int x3]) C mf_X8_311 (c_X5_begin l D cA (a 50) (a 51) sheet2_lost sheet2_form sheet2_size sheet2_items x2 x3 (c11, c12, c13, c14) hq H.size) rfl rfl ⟨(Nat.le_of_ble_eq_true rfl), (Nat.le_of_ble_eq_true rfl)⟩ (preV_of C hP hD [6, 7] rfl (pl_nd pv_82) 0 rfl rfl rfl) rfl hl.1 rfl (Nat.le_of_ble_eq_true rfl) dX8_sheet_43 ⟨Nat.zero_le _, Nat.zero_le _⟩) hP hD hS hA [6, 7] [0, 1, 2, 3, 4, 5, 8, 9] rfl rfl rfl rfl pv_82 (fun H locs hP hS => ?_)
            have hD : va_D (va_A ws0 sz) (wl_X8_sheet cA a x_stale x_finding sheet0_lost sheet0_form sheet0_size sheet0_items sheet1_lost sheet1_form sheet1_size sheet1_items c11 c12 c13 c14 sheet3_lost sheet3_form sheet3_size sheet3_items) := vd_a hD rfl
            refine lv_iload_n (pc := 46) hx hb dX8_sheet_46 rfl (lv_at hl 3 rfl) ?_
            have hf := Option.some.inj hf
            subst hf
            exact ret_i C hr hlk hP hS dX8_sheet_47
          have hf := (if_neg h_2).symm.trans hf
          by_cases h_3 : x1 = (3 : Int32)
          · have hf := (if_pos h_3).symm.trans hf
            refine g_aald (pc := 40) (b := (a 52)) C hP 1 rfl (t0 := 3) rfl (by rw [h_3]; decide) (by rw [h_3, tn_3]; rfl) dX8_sheet_40 ?_
            refine lv_iload_n (pc := 41) hx hb dX8_sheet_41 rfl (lv_at hl 2 rfl) ?_
            refine lv_iload_n (pc := 42) hx hb dX8_sheet_42 rfl (lv_at hl 3 rfl) ?_
            obtain ⟨c15, c16, c17, c18, hq, hf⟩ := bind4_some hf
            refine fin2_v (wl_X8_sheet cA a x_stale x_finding sheet0_lost sheet0_form sheet0_size sheet0_items sheet1_lost sheet1_form sheet1_size sheet1_items sheet2_lost sheet2_form sheet2_size sheet2_items c15 c16 c17 c18) (run_V (rest := []) (pc := 43) (As := [.int x2, .int x3]) C mf_X8_311 (c_X5_begin l D cA (a 52) (a 53) sheet3_lost sheet3_form sheet3_size sheet3_items x2 x3 (c15, c16, c17, c18) hq H.size) rfl rfl ⟨(Nat.le_of_ble_eq_true rfl), (Nat.le_of_ble_eq_true rfl)⟩ (preV_of C hP hD [8, 9] rfl (pl_nd pv_83) 0 rfl rfl rfl) rfl hl.1 rfl (Nat.le_of_ble_eq_true rfl) dX8_sheet_43 ⟨Nat.zero_le _, Nat.zero_le _⟩) hP hD hS hA [8, 9] [0, 1, 2, 3, 4, 5, 6, 7] rfl rfl rfl rfl pv_83 (fun H locs hP hS => ?_)
            have hD : va_D (va_A ws0 sz) (wl_X8_sheet cA a x_stale x_finding sheet0_lost sheet0_form sheet0_size sheet0_items sheet1_lost sheet1_form sheet1_size sheet1_items sheet2_lost sheet2_form sheet2_size sheet2_items c15 c16 c17 c18) := vd_a hD rfl
            refine lv_iload_n (pc := 46) hx hb dX8_sheet_46 rfl (lv_at hl 3 rfl) ?_
            have hf := Option.some.inj hf
            subst hf
            exact ret_i C hr hlk hP hS dX8_sheet_47
          have hf := (if_neg h_3).symm.trans hf
          cases hf
        · have hf := (if_neg hc).symm.trans hf
          refine lv_aload_n (pc := 29) hx hb dX8_sheet_29 rfl (lv_at hl 0 rfl) ?_
          refine lv_iconst (pc := 30) (v := 5) hx hb dX8_sheet_30 ic_5 ?_
          obtain ⟨r19, c20, hq, hf⟩ := bind2_some hf
          refine fin2_i (wl_X8_sheet cA a x_stale c20 sheet0_lost sheet0_form sheet0_size sheet0_items sheet1_lost sheet1_form sheet1_size sheet1_items sheet2_lost sheet2_form sheet2_size sheet2_items sheet3_lost sheet3_form sheet3_size sheet3_items) (run_V (rest := []) (pc := 31) (As := [.int (5 : Int32)]) C mf_X8_139 (c_X8_found l D cA a x_stale x_finding (5 : Int32) (r19, c20) hq H.size) rfl rfl ⟨(Nat.le_of_ble_eq_true rfl), (Nat.le_of_ble_eq_true rfl)⟩ (preV_of C hP hD [0] rfl (pl_nd pv_84) 0 rfl rfl rfl) rfl hl.1 rfl (Nat.le_of_ble_eq_true rfl) dX8_sheet_31 ⟨Nat.zero_le _, Nat.zero_le _⟩) hP hD hS hA [0] [1, 2, 3, 4, 5, 6, 7, 8, 9] rfl rfl rfl rfl pv_84 (fun H locs hP hS => ?_)
          have hD : va_D (va_A ws0 sz) (wl_X8_sheet cA a x_stale c20 sheet0_lost sheet0_form sheet0_size sheet0_items sheet1_lost sheet1_form sheet1_size sheet1_items sheet2_lost sheet2_form sheet2_size sheet2_items sheet3_lost sheet3_form sheet3_size sheet3_items) := vd_a hD rfl
          have hf := Option.some.inj hf
          subst hf
          exact ret_i C hr hlk hP hS dX8_sheet_34
      · have hf := (if_neg hc).symm.trans hf
        refine lv_bipush (pc := 22) (v := (-2)) hx hb dX8_sheet_22 bp_m2 ?_
        have hf := Option.some.inj hf
        subst hf
        exact ret_i C hr hlk hP hS dX8_sheet_24
set_option maxRecDepth 100000 in
theorem c_X8_sheet (l : Launch) (D : va_G) (cA : Nat → ClassId) (a : Nat → Nat) (x_stale : Int32) (x_finding : Int32) (sheet0_lost : Int32) (sheet0_form : Int32) (sheet0_size : Int32) (sheet0_items : Nat → Int32) (sheet1_lost : Int32) (sheet1_form : Int32) (sheet1_size : Int32) (sheet1_items : Nat → Int32) (sheet2_lost : Int32) (sheet2_form : Int32) (sheet2_size : Int32) (sheet2_items : Nat → Int32) (sheet3_lost : Int32) (sheet3_form : Int32) (sheet3_size : Int32) (sheet3_items : Nat → Int32) (x1 : Int32) (x2 : Int32) (x3 : Int32) (r : Int32 × Int32 × Int32 × Int32 × Int32 × (Nat → Int32) × Int32 × Int32 × Int32 × (Nat → Int32) × Int32 × Int32 × Int32 × (Nat → Int32) × Int32 × Int32 × Int32 × (Nat → Int32)) (hf : f_X8_sheet x_finding sheet0_lost sheet0_form sheet0_size sheet0_items sheet1_lost sheet1_form sheet1_size sheet1_items sheet2_lost sheet2_form sheet2_size sheet2_items sheet3_lost sheet3_form sheet3_size sheet3_items x1 x2 x3 = some r) (sz : Nat) : Met l yX8_sheet (Cond.code yX8_sheet cX8_sheet 4 (some .int) :: lw_good) rm_X8_sheet (PreX D cA [.ref (a 0), .int x1, .int x2, .int x3] sz (wl_X8_sheet cA a x_stale x_finding sheet0_lost sheet0_form sheet0_size sheet0_items sheet1_lost sheet1_form sheet1_size sheet1_items sheet2_lost sheet2_form sheet2_size sheet2_items sheet3_lost sheet3_form sheet3_size sheet3_items)) (PostI D r.1 (wl_X8_sheet cA a x_stale x_finding sheet0_lost sheet0_form sheet0_size sheet0_items sheet1_lost sheet1_form sheet1_size sheet1_items sheet2_lost sheet2_form sheet2_size sheet2_items sheet3_lost sheet3_form sheet3_size sheet3_items) (wl_X8_sheet cA a x_stale (r.2.1) (r.2.2.1) (r.2.2.2.1) (r.2.2.2.2.1) (r.2.2.2.2.2.1) (r.2.2.2.2.2.2.1) (r.2.2.2.2.2.2.2.1) (r.2.2.2.2.2.2.2.2.1) (r.2.2.2.2.2.2.2.2.2.1) (r.2.2.2.2.2.2.2.2.2.2.1) (r.2.2.2.2.2.2.2.2.2.2.2.1) (r.2.2.2.2.2.2.2.2.2.2.2.2.1) (r.2.2.2.2.2.2.2.2.2.2.2.2.2.1) (r.2.2.2.2.2.2.2.2.2.2.2.2.2.2.1) (r.2.2.2.2.2.2.2.2.2.2.2.2.2.2.2.1) (r.2.2.2.2.2.2.2.2.2.2.2.2.2.2.2.2.1) (r.2.2.2.2.2.2.2.2.2.2.2.2.2.2.2.2.2)) sz) 0 0 (va_A (wl_X8_sheet cA a x_stale x_finding sheet0_lost sheet0_form sheet0_size sheet0_items sheet1_lost sheet1_form sheet1_size sheet1_items sheet2_lost sheet2_form sheet2_size sheet2_items sheet3_lost sheet3_form sheet3_size sheet3_items) sz) :=
  met_of (by decide) (Nat.le_of_ble_eq_true rfl) (fun p e s m args below meth c C hr hlk hA => k_X8_sheet C hr hlk hA a x_stale x_finding sheet0_lost sheet0_form sheet0_size sheet0_items sheet1_lost sheet1_form sheet1_size sheet1_items sheet2_lost sheet2_form sheet2_size sheet2_items sheet3_lost sheet3_form sheet3_size sheet3_items x1 x2 x3 r hf)
end

abbrev wl_X8_lose (cA : Nat → ClassId) (a : Nat → Nat) (x_stale : Int32) (x_finding : Int32) (sheet0_lost : Int32) (sheet0_form : Int32) (sheet0_size : Int32) (sheet1_lost : Int32) (sheet1_form : Int32) (sheet1_size : Int32) (sheet2_lost : Int32) (sheet2_form : Int32) (sheet2_size : Int32) (sheet3_lost : Int32) (sheet3_form : Int32) (sheet3_size : Int32) : va_W := [((a 0), .inr (8, [.ref (a 1), .ref (a 6), .ref (a 12), .ref (a 15), .ref (a 19), .ref (a 23), .ref (a 27), .ref (a 34), .ref (a 41), .ref (a 42), .ref (a 44), .ref (a 45), .int x_stale, .int x_finding])), ((a 45), .inl (cA 3, 4, .inr (.inr (.inr (.inr (fun k : Nat => if k = 0 then some (a 46) else if k = 1 then some (a 48) else if k = 2 then some (a 50) else some (a 52))))))), ((a 46), .inr (5, [.ref (a 47), .int sheet0_lost, .int sheet0_form, .int sheet0_size])), ((a 48), .inr (5, [.ref (a 49), .int sheet1_lost, .int sheet1_form, .int sheet1_size])), ((a 50), .inr (5, [.ref (a 51), .int sheet2_lost, .int sheet2_form, .int sheet2_size])), ((a 52), .inr (5, [.ref (a 53), .int sheet3_lost, .int sheet3_form, .int sheet3_size]))]
abbrev rm_X8_lose : Room := { frames := 1, cells := 0, slots := 0, locals := 21 }
section
variable {p : Program} {l : Launch} {e : Env} {s : State} {m : MethodId} {args : Array Value} {below : List Frame} {meth : Method} {c : Code} {D : va_G} {cA : Nat → ClassId} {ws0 : va_W} {sz : Nat} {A : Nat → Prop} {Q : State → Prop}
def f_X8_lose (x_finding : Int32) (sheet0_lost : Int32) (sheet0_size : Int32) (sheet1_lost : Int32) (sheet1_size : Int32) (sheet2_lost : Int32) (sheet2_size : Int32) (sheet3_lost : Int32) (sheet3_size : Int32) (x1 : Int32) : Option (Int32 × Int32 × Int32 × Int32 × Int32 × Int32) :=
  bind1 (f_X8_isUpTo x1 (3 : Int32)) (fun r1 => if r1 = 0 then (some ((-2 : Int32), x_finding, sheet0_lost, sheet1_lost, sheet2_lost, sheet3_lost)) else (if x1 = (0 : Int32) then (if sheet0_lost = 0 then (if x1 = (0 : Int32) then (if x1 = (0 : Int32) then (some (sheet0_size, x_finding, (1 : Int32), sheet1_lost, sheet2_lost, sheet3_lost)) else (if x1 = (1 : Int32) then (some (sheet1_size, x_finding, (1 : Int32), sheet1_lost, sheet2_lost, sheet3_lost)) else (if x1 = (2 : Int32) then (some (sheet2_size, x_finding, (1 : Int32), sheet1_lost, sheet2_lost, sheet3_lost)) else (if x1 = (3 : Int32) then (some (sheet3_size, x_finding, (1 : Int32), sheet1_lost, sheet2_lost, sheet3_lost)) else (none))))) else (if x1 = (1 : Int32) then (if x1 = (0 : Int32) then (some (sheet0_size, x_finding, sheet0_lost, (1 : Int32), sheet2_lost, sheet3_lost)) else (if x1 = (1 : Int32) then (some (sheet1_size, x_finding, sheet0_lost, (1 : Int32), sheet2_lost, sheet3_lost)) else (if x1 = (2 : Int32) then (some (sheet2_size, x_finding, sheet0_lost, (1 : Int32), sheet2_lost, sheet3_lost)) else (if x1 = (3 : Int32) then (some (sheet3_size, x_finding, sheet0_lost, (1 : Int32), sheet2_lost, sheet3_lost)) else (none))))) else (if x1 = (2 : Int32) then (if x1 = (0 : Int32) then (some (sheet0_size, x_finding, sheet0_lost, sheet1_lost, (1 : Int32), sheet3_lost)) else (if x1 = (1 : Int32) then (some (sheet1_size, x_finding, sheet0_lost, sheet1_lost, (1 : Int32), sheet3_lost)) else (if x1 = (2 : Int32) then (some (sheet2_size, x_finding, sheet0_lost, sheet1_lost, (1 : Int32), sheet3_lost)) else (if x1 = (3 : Int32) then (some (sheet3_size, x_finding, sheet0_lost, sheet1_lost, (1 : Int32), sheet3_lost)) else (none))))) else (if x1 = (3 : Int32) then (if x1 = (0 : Int32) then (some (sheet0_size, x_finding, sheet0_lost, sheet1_lost, sheet2_lost, (1 : Int32))) else (if x1 = (1 : Int32) then (some (sheet1_size, x_finding, sheet0_lost, sheet1_lost, sheet2_lost, (1 : Int32))) else (if x1 = (2 : Int32) then (some (sheet2_size, x_finding, sheet0_lost, sheet1_lost, sheet2_lost, (1 : Int32))) else (if x1 = (3 : Int32) then (some (sheet3_size, x_finding, sheet0_lost, sheet1_lost, sheet2_lost, (1 : Int32))) else (none))))) else (none))))) else (bind2 (f_X8_found x_finding (1 : Int32)) (fun r2 c3 => some (r2, c3, sheet0_lost, sheet1_lost, sheet2_lost, sheet3_lost)))) else (if x1 = (1 : Int32) then (if sheet1_lost = 0 then (if x1 = (0 : Int32) then (if x1 = (0 : Int32) then (some (sheet0_size, x_finding, (1 : Int32), sheet1_lost, sheet2_lost, sheet3_lost)) else (if x1 = (1 : Int32) then (some (sheet1_size, x_finding, (1 : Int32), sheet1_lost, sheet2_lost, sheet3_lost)) else (if x1 = (2 : Int32) then (some (sheet2_size, x_finding, (1 : Int32), sheet1_lost, sheet2_lost, sheet3_lost)) else (if x1 = (3 : Int32) then (some (sheet3_size, x_finding, (1 : Int32), sheet1_lost, sheet2_lost, sheet3_lost)) else (none))))) else (if x1 = (1 : Int32) then (if x1 = (0 : Int32) then (some (sheet0_size, x_finding, sheet0_lost, (1 : Int32), sheet2_lost, sheet3_lost)) else (if x1 = (1 : Int32) then (some (sheet1_size, x_finding, sheet0_lost, (1 : Int32), sheet2_lost, sheet3_lost)) else (if x1 = (2 : Int32) then (some (sheet2_size, x_finding, sheet0_lost, (1 : Int32), sheet2_lost, sheet3_lost)) else (if x1 = (3 : Int32) then (some (sheet3_size, x_finding, sheet0_lost, (1 : Int32), sheet2_lost, sheet3_lost)) else (none))))) else (if x1 = (2 : Int32) then (if x1 = (0 : Int32) then (some (sheet0_size, x_finding, sheet0_lost, sheet1_lost, (1 : Int32), sheet3_lost)) else (if x1 = (1 : Int32) then (some (sheet1_size, x_finding, sheet0_lost, sheet1_lost, (1 : Int32), sheet3_lost)) else (if x1 = (2 : Int32) then (some (sheet2_size, x_finding, sheet0_lost, sheet1_lost, (1 : Int32), sheet3_lost)) else (if x1 = (3 : Int32) then (some (sheet3_size, x_finding, sheet0_lost, sheet1_lost, (1 : Int32), sheet3_lost)) else (none))))) else (if x1 = (3 : Int32) then (if x1 = (0 : Int32) then (some (sheet0_size, x_finding, sheet0_lost, sheet1_lost, sheet2_lost, (1 : Int32))) else (if x1 = (1 : Int32) then (some (sheet1_size, x_finding, sheet0_lost, sheet1_lost, sheet2_lost, (1 : Int32))) else (if x1 = (2 : Int32) then (some (sheet2_size, x_finding, sheet0_lost, sheet1_lost, sheet2_lost, (1 : Int32))) else (if x1 = (3 : Int32) then (some (sheet3_size, x_finding, sheet0_lost, sheet1_lost, sheet2_lost, (1 : Int32))) else (none))))) else (none))))) else (bind2 (f_X8_found x_finding (1 : Int32)) (fun r4 c5 => some (r4, c5, sheet0_lost, sheet1_lost, sheet2_lost, sheet3_lost)))) else (if x1 = (2 : Int32) then (if sheet2_lost = 0 then (if x1 = (0 : Int32) then (if x1 = (0 : Int32) then (some (sheet0_size, x_finding, (1 : Int32), sheet1_lost, sheet2_lost, sheet3_lost)) else (if x1 = (1 : Int32) then (some (sheet1_size, x_finding, (1 : Int32), sheet1_lost, sheet2_lost, sheet3_lost)) else (if x1 = (2 : Int32) then (some (sheet2_size, x_finding, (1 : Int32), sheet1_lost, sheet2_lost, sheet3_lost)) else (if x1 = (3 : Int32) then (some (sheet3_size, x_finding, (1 : Int32), sheet1_lost, sheet2_lost, sheet3_lost)) else (none))))) else (if x1 = (1 : Int32) then (if x1 = (0 : Int32) then (some (sheet0_size, x_finding, sheet0_lost, (1 : Int32), sheet2_lost, sheet3_lost)) else (if x1 = (1 : Int32) then (some (sheet1_size, x_finding, sheet0_lost, (1 : Int32), sheet2_lost, sheet3_lost)) else (if x1 = (2 : Int32) then (some (sheet2_size, x_finding, sheet0_lost, (1 : Int32), sheet2_lost, sheet3_lost)) else (if x1 = (3 : Int32) then (some (sheet3_size, x_finding, sheet0_lost, (1 : Int32), sheet2_lost, sheet3_lost)) else (none))))) else (if x1 = (2 : Int32) then (if x1 = (0 : Int32) then (some (sheet0_size, x_finding, sheet0_lost, sheet1_lost, (1 : Int32), sheet3_lost)) else (if x1 = (1 : Int32) then (some (sheet1_size, x_finding, sheet0_lost, sheet1_lost, (1 : Int32), sheet3_lost)) else (if x1 = (2 : Int32) then (some (sheet2_size, x_finding, sheet0_lost, sheet1_lost, (1 : Int32), sheet3_lost)) else (if x1 = (3 : Int32) then (some (sheet3_size, x_finding, sheet0_lost, sheet1_lost, (1 : Int32), sheet3_lost)) else (none))))) else (if x1 = (3 : Int32) then (if x1 = (0 : Int32) then (some (sheet0_size, x_finding, sheet0_lost, sheet1_lost, sheet2_lost, (1 : Int32))) else (if x1 = (1 : Int32) then (some (sheet1_size, x_finding, sheet0_lost, sheet1_lost, sheet2_lost, (1 : Int32))) else (if x1 = (2 : Int32) then (some (sheet2_size, x_finding, sheet0_lost, sheet1_lost, sheet2_lost, (1 : Int32))) else (if x1 = (3 : Int32) then (some (sheet3_size, x_finding, sheet0_lost, sheet1_lost, sheet2_lost, (1 : Int32))) else (none))))) else (none))))) else (bind2 (f_X8_found x_finding (1 : Int32)) (fun r6 c7 => some (r6, c7, sheet0_lost, sheet1_lost, sheet2_lost, sheet3_lost)))) else (if x1 = (3 : Int32) then (if sheet3_lost = 0 then (if x1 = (0 : Int32) then (if x1 = (0 : Int32) then (some (sheet0_size, x_finding, (1 : Int32), sheet1_lost, sheet2_lost, sheet3_lost)) else (if x1 = (1 : Int32) then (some (sheet1_size, x_finding, (1 : Int32), sheet1_lost, sheet2_lost, sheet3_lost)) else (if x1 = (2 : Int32) then (some (sheet2_size, x_finding, (1 : Int32), sheet1_lost, sheet2_lost, sheet3_lost)) else (if x1 = (3 : Int32) then (some (sheet3_size, x_finding, (1 : Int32), sheet1_lost, sheet2_lost, sheet3_lost)) else (none))))) else (if x1 = (1 : Int32) then (if x1 = (0 : Int32) then (some (sheet0_size, x_finding, sheet0_lost, (1 : Int32), sheet2_lost, sheet3_lost)) else (if x1 = (1 : Int32) then (some (sheet1_size, x_finding, sheet0_lost, (1 : Int32), sheet2_lost, sheet3_lost)) else (if x1 = (2 : Int32) then (some (sheet2_size, x_finding, sheet0_lost, (1 : Int32), sheet2_lost, sheet3_lost)) else (if x1 = (3 : Int32) then (some (sheet3_size, x_finding, sheet0_lost, (1 : Int32), sheet2_lost, sheet3_lost)) else (none))))) else (if x1 = (2 : Int32) then (if x1 = (0 : Int32) then (some (sheet0_size, x_finding, sheet0_lost, sheet1_lost, (1 : Int32), sheet3_lost)) else (if x1 = (1 : Int32) then (some (sheet1_size, x_finding, sheet0_lost, sheet1_lost, (1 : Int32), sheet3_lost)) else (if x1 = (2 : Int32) then (some (sheet2_size, x_finding, sheet0_lost, sheet1_lost, (1 : Int32), sheet3_lost)) else (if x1 = (3 : Int32) then (some (sheet3_size, x_finding, sheet0_lost, sheet1_lost, (1 : Int32), sheet3_lost)) else (none))))) else (if x1 = (3 : Int32) then (if x1 = (0 : Int32) then (some (sheet0_size, x_finding, sheet0_lost, sheet1_lost, sheet2_lost, (1 : Int32))) else (if x1 = (1 : Int32) then (some (sheet1_size, x_finding, sheet0_lost, sheet1_lost, sheet2_lost, (1 : Int32))) else (if x1 = (2 : Int32) then (some (sheet2_size, x_finding, sheet0_lost, sheet1_lost, sheet2_lost, (1 : Int32))) else (if x1 = (3 : Int32) then (some (sheet3_size, x_finding, sheet0_lost, sheet1_lost, sheet2_lost, (1 : Int32))) else (none))))) else (none))))) else (bind2 (f_X8_found x_finding (1 : Int32)) (fun r8 c9 => some (r8, c9, sheet0_lost, sheet1_lost, sheet2_lost, sheet3_lost)))) else (none))))))
set_option maxHeartbeats 4000000 in
set_option maxRecDepth 100000 in
theorem k_X8_lose (C : Cx RX8 cX8_lose 2 D cA p s m args c) (hr : meth.sig.returnType = (some .int)) (hlk : meth.locks = false) (hA : ∀ q, s.heap.size ≤ q → va_A ws0 sz q) (a : Nat → Nat) (x_stale : Int32) (x_finding : Int32) (sheet0_lost : Int32) (sheet0_form : Int32) (sheet0_size : Int32) (sheet1_lost : Int32) (sheet1_form : Int32) (sheet1_size : Int32) (sheet2_lost : Int32) (sheet2_form : Int32) (sheet2_size : Int32) (sheet3_lost : Int32) (sheet3_form : Int32) (sheet3_size : Int32) (x1 : Int32) (r : Int32 × Int32 × Int32 × Int32 × Int32 × Int32) (hf : f_X8_lose x_finding sheet0_lost sheet0_size sheet1_lost sheet1_size sheet2_lost sheet2_size sheet3_lost sheet3_size x1 = some r) : At p l e rm_X8_lose s m args below meth c D (va_A ws0 sz) 0 0 (MQ below (PostI D r.1 ws0 (wl_X8_lose cA a x_stale (r.2.1) (r.2.2.1) sheet0_form sheet0_size (r.2.2.2.1) sheet1_form sheet1_size (r.2.2.2.2.1) sheet2_form sheet2_size (r.2.2.2.2.2) sheet3_form sheet3_size) sz) args s 0 0 (va_A ws0 sz)) 2 0 (wl_X8_lose cA a x_stale x_finding sheet0_lost sheet0_form sheet0_size sheet1_lost sheet1_form sheet1_size sheet2_lost sheet2_form sheet2_size sheet3_lost sheet3_form sheet3_size) [(0, .ref (a 0)), (1, .int x1)] [] := by
  intro H locs ls hP hD hS hl
  have hx := C.1
  have hb := C.2.1
  have hown := C.2.2.2.1
  have hts := C.2.2.2.2.1
  unfold f_X8_lose at hf
  refine lv_iload_n (pc := 0) hx hb dX8_lose_0 rfl (lv_at hl 1 rfl) ?_
  refine lv_iconst (pc := 1) (v := 3) hx hb dX8_lose_1 ic_3 ?_
  obtain ⟨r1, hq, hf⟩ := bind1_some hf
  refine fin2_i (wl_X8_lose cA a x_stale x_finding sheet0_lost sheet0_form sheet0_size sheet1_lost sheet1_form sheet1_size sheet2_lost sheet2_form sheet2_size sheet3_lost sheet3_form sheet3_size) (run_S (rest := []) (pc := 2) (As := [.int x1, .int (3 : Int32)]) C mf_X8_90 (c_X8_isUpTo l D cA  x1 (3 : Int32) r1 hq H.size) rfl rfl ⟨(Nat.le_of_ble_eq_true rfl), (Nat.le_of_ble_eq_true rfl)⟩ (preS_of C hP hD [] rfl (pl_nd pv_2)) rfl hl.1 rfl (Nat.le_of_ble_eq_true rfl) dX8_lose_2 ⟨Nat.zero_le _, Nat.zero_le _⟩) hP hD hS hA [] [0, 1, 2, 3, 4, 5] rfl rfl rfl rfl pv_2 (fun H locs hP hS => ?_)
  refine lv_if_ne (pc := 5) (tgt := 11) hx hb dX8_lose_5 (by decide) (fun hc => ?_) (fun hc => ?_)
  · have hf := (if_neg hc).symm.trans hf
    refine lv_aload_n (pc := 11) hx hb dX8_lose_11 rfl (lv_at hl 0 rfl) ?_
    refine g_get (pc := 12) C fg_X8_77 hP 0 rfl rfl dX8_lose_12 ?_
    refine lv_iload_n (pc := 15) hx hb dX8_lose_15 rfl (lv_at hl 1 rfl) ?_
    by_cases h_0 : x1 = (0 : Int32)
    · have hf := (if_pos h_0).symm.trans hf
      refine g_aald (pc := 16) (b := (a 46)) C hP 1 rfl (t0 := 3) rfl (by rw [h_0]; decide) (by rw [h_0, tn_0]; rfl) dX8_lose_16 ?_
      refine g_get (pc := 17) C fg_X8_136 hP 2 rfl rfl dX8_lose_17 ?_
      refine lv_if_eq (pc := 20) (tgt := 29) hx hb dX8_lose_20 (by decide) (fun hc => ?_) (fun hc => ?_)
      · have hf := (if_pos hc).symm.trans hf
        refine lv_aload_n (pc := 29) hx hb dX8_lose_29 rfl (lv_at hl 0 rfl) ?_
        refine g_get (pc := 30) C fg_X8_77 hP 0 rfl rfl dX8_lose_30 ?_
        refine lv_iload_n (pc := 33) hx hb dX8_lose_33 rfl (lv_at hl 1 rfl) ?_
        by_cases h_0 : x1 = (0 : Int32)
        · have hf := (if_pos h_0).symm.trans hf
          refine g_aald (pc := 34) (b := (a 46)) C hP 1 rfl (t0 := 3) rfl (by rw [h_0]; decide) (by rw [h_0, tn_0]; rfl) dX8_lose_34 ?_
          refine lv_iconst (pc := 35) (v := 1) hx hb dX8_lose_35 ic_1 ?_
          refine g_put (pc := 36) C fg_X8_136 ft_X5_1 hP hD hS 2 rfl (by decide) rfl (Nat.le_of_ble_eq_true rfl) dX8_lose_36 (fun H locs hP hD hS => ?_)
          have hP : va_P D classes (wl_X8_lose cA a x_stale x_finding (1 : Int32) sheet0_form sheet0_size sheet1_lost sheet1_form sheet1_size sheet2_lost sheet2_form sheet2_size sheet3_lost sheet3_form sheet3_size) H := hP
          have hD : va_D (va_A ws0 sz) (wl_X8_lose cA a x_stale x_finding (1 : Int32) sheet0_form sheet0_size sheet1_lost sheet1_form sheet1_size sheet2_lost sheet2_form sheet2_size sheet3_lost sheet3_form sheet3_size) := hD
          refine lv_aload_n (pc := 39) hx hb dX8_lose_39 rfl (lv_at hl 0 rfl) ?_
          refine g_get (pc := 40) C fg_X8_77 hP 0 rfl rfl dX8_lose_40 ?_
          refine lv_iload_n (pc := 43) hx hb dX8_lose_43 rfl (lv_at hl 1 rfl) ?_
          by_cases h_0 : x1 = (0 : Int32)
          · have hf := (if_pos h_0).symm.trans hf
            refine g_aald (pc := 44) (b := (a 46)) C hP 1 rfl (t0 := 3) rfl (by rw [h_0]; decide) (by rw [h_0, tn_0]; rfl) dX8_lose_44 ?_
            refine g_get (pc := 45) C fg_X8_143 hP 2 rfl rfl dX8_lose_45 ?_
            have hf := Option.some.inj hf
            subst hf
            exact ret_i C hr hlk hP hS dX8_lose_48
          have hf := (if_neg h_0).symm.trans hf
          by_cases h_1 : x1 = (1 : Int32)
          · have hf := (if_pos h_1).symm.trans hf
            refine g_aald (pc := 44) (b := (a 48)) C hP 1 rfl (t0 := 3) rfl (by rw [h_1]; decide) (by rw [h_1, tn_1]; rfl) dX8_lose_44 ?_
            refine g_get (pc := 45) C fg_X8_143 hP 3 rfl rfl dX8_lose_45 ?_
            have hf := Option.some.inj hf
            subst hf
            exact ret_i C hr hlk hP hS dX8_lose_48
          have hf := (if_neg h_1).symm.trans hf
          by_cases h_2 : x1 = (2 : Int32)
          · have hf := (if_pos h_2).symm.trans hf
            refine g_aald (pc := 44) (b := (a 50)) C hP 1 rfl (t0 := 3) rfl (by rw [h_2]; decide) (by rw [h_2, tn_2]; rfl) dX8_lose_44 ?_
            refine g_get (pc := 45) C fg_X8_143 hP 4 rfl rfl dX8_lose_45 ?_
            have hf := Option.some.inj hf
            subst hf
            exact ret_i C hr hlk hP hS dX8_lose_48
          have hf := (if_neg h_2).symm.trans hf
          by_cases h_3 : x1 = (3 : Int32)
          · have hf := (if_pos h_3).symm.trans hf
            refine g_aald (pc := 44) (b := (a 52)) C hP 1 rfl (t0 := 3) rfl (by rw [h_3]; decide) (by rw [h_3, tn_3]; rfl) dX8_lose_44 ?_
            refine g_get (pc := 45) C fg_X8_143 hP 5 rfl rfl dX8_lose_45 ?_
            have hf := Option.some.inj hf
            subst hf
            exact ret_i C hr hlk hP hS dX8_lose_48
          have hf := (if_neg h_3).symm.trans hf
          cases hf
        have hf := (if_neg h_0).symm.trans hf
        by_cases h_1 : x1 = (1 : Int32)
        · have hf := (if_pos h_1).symm.trans hf
          refine g_aald (pc := 34) (b := (a 48)) C hP 1 rfl (t0 := 3) rfl (by rw [h_1]; decide) (by rw [h_1, tn_1]; rfl) dX8_lose_34 ?_
          refine lv_iconst (pc := 35) (v := 1) hx hb dX8_lose_35 ic_1 ?_
          refine g_put (pc := 36) C fg_X8_136 ft_X5_1 hP hD hS 3 rfl (by decide) rfl (Nat.le_of_ble_eq_true rfl) dX8_lose_36 (fun H locs hP hD hS => ?_)
          have hP : va_P D classes (wl_X8_lose cA a x_stale x_finding sheet0_lost sheet0_form sheet0_size (1 : Int32) sheet1_form sheet1_size sheet2_lost sheet2_form sheet2_size sheet3_lost sheet3_form sheet3_size) H := hP
          have hD : va_D (va_A ws0 sz) (wl_X8_lose cA a x_stale x_finding sheet0_lost sheet0_form sheet0_size (1 : Int32) sheet1_form sheet1_size sheet2_lost sheet2_form sheet2_size sheet3_lost sheet3_form sheet3_size) := hD
          refine lv_aload_n (pc := 39) hx hb dX8_lose_39 rfl (lv_at hl 0 rfl) ?_
          refine g_get (pc := 40) C fg_X8_77 hP 0 rfl rfl dX8_lose_40 ?_
          refine lv_iload_n (pc := 43) hx hb dX8_lose_43 rfl (lv_at hl 1 rfl) ?_
          by_cases h_0 : x1 = (0 : Int32)
          · have hf := (if_pos h_0).symm.trans hf
            refine g_aald (pc := 44) (b := (a 46)) C hP 1 rfl (t0 := 3) rfl (by rw [h_0]; decide) (by rw [h_0, tn_0]; rfl) dX8_lose_44 ?_
            refine g_get (pc := 45) C fg_X8_143 hP 2 rfl rfl dX8_lose_45 ?_
            have hf := Option.some.inj hf
            subst hf
            exact ret_i C hr hlk hP hS dX8_lose_48
          have hf := (if_neg h_0).symm.trans hf
          by_cases h_1 : x1 = (1 : Int32)
          · have hf := (if_pos h_1).symm.trans hf
            refine g_aald (pc := 44) (b := (a 48)) C hP 1 rfl (t0 := 3) rfl (by rw [h_1]; decide) (by rw [h_1, tn_1]; rfl) dX8_lose_44 ?_
            refine g_get (pc := 45) C fg_X8_143 hP 3 rfl rfl dX8_lose_45 ?_
            have hf := Option.some.inj hf
            subst hf
            exact ret_i C hr hlk hP hS dX8_lose_48
          have hf := (if_neg h_1).symm.trans hf
          by_cases h_2 : x1 = (2 : Int32)
          · have hf := (if_pos h_2).symm.trans hf
            refine g_aald (pc := 44) (b := (a 50)) C hP 1 rfl (t0 := 3) rfl (by rw [h_2]; decide) (by rw [h_2, tn_2]; rfl) dX8_lose_44 ?_
            refine g_get (pc := 45) C fg_X8_143 hP 4 rfl rfl dX8_lose_45 ?_
            have hf := Option.some.inj hf
            subst hf
            exact ret_i C hr hlk hP hS dX8_lose_48
          have hf := (if_neg h_2).symm.trans hf
          by_cases h_3 : x1 = (3 : Int32)
          · have hf := (if_pos h_3).symm.trans hf
            refine g_aald (pc := 44) (b := (a 52)) C hP 1 rfl (t0 := 3) rfl (by rw [h_3]; decide) (by rw [h_3, tn_3]; rfl) dX8_lose_44 ?_
            refine g_get (pc := 45) C fg_X8_143 hP 5 rfl rfl dX8_lose_45 ?_
            have hf := Option.some.inj hf
            subst hf
            exact ret_i C hr hlk hP hS dX8_lose_48
          have hf := (if_neg h_3).symm.trans hf
          cases hf
        have hf := (if_neg h_1).symm.trans hf
        by_cases h_2 : x1 = (2 : Int32)
        · have hf := (if_pos h_2).symm.trans hf
          refine g_aald (pc := 34) (b := (a 50)) C hP 1 rfl (t0 := 3) rfl (by rw [h_2]; decide) (by rw [h_2, tn_2]; rfl) dX8_lose_34 ?_
          refine lv_iconst (pc := 35) (v := 1) hx hb dX8_lose_35 ic_1 ?_
          refine g_put (pc := 36) C fg_X8_136 ft_X5_1 hP hD hS 4 rfl (by decide) rfl (Nat.le_of_ble_eq_true rfl) dX8_lose_36 (fun H locs hP hD hS => ?_)
          have hP : va_P D classes (wl_X8_lose cA a x_stale x_finding sheet0_lost sheet0_form sheet0_size sheet1_lost sheet1_form sheet1_size (1 : Int32) sheet2_form sheet2_size sheet3_lost sheet3_form sheet3_size) H := hP
          have hD : va_D (va_A ws0 sz) (wl_X8_lose cA a x_stale x_finding sheet0_lost sheet0_form sheet0_size sheet1_lost sheet1_form sheet1_size (1 : Int32) sheet2_form sheet2_size sheet3_lost sheet3_form sheet3_size) := hD
          refine lv_aload_n (pc := 39) hx hb dX8_lose_39 rfl (lv_at hl 0 rfl) ?_
          refine g_get (pc := 40) C fg_X8_77 hP 0 rfl rfl dX8_lose_40 ?_
          refine lv_iload_n (pc := 43) hx hb dX8_lose_43 rfl (lv_at hl 1 rfl) ?_
          by_cases h_0 : x1 = (0 : Int32)
          · have hf := (if_pos h_0).symm.trans hf
            refine g_aald (pc := 44) (b := (a 46)) C hP 1 rfl (t0 := 3) rfl (by rw [h_0]; decide) (by rw [h_0, tn_0]; rfl) dX8_lose_44 ?_
            refine g_get (pc := 45) C fg_X8_143 hP 2 rfl rfl dX8_lose_45 ?_
            have hf := Option.some.inj hf
            subst hf
            exact ret_i C hr hlk hP hS dX8_lose_48
          have hf := (if_neg h_0).symm.trans hf
          by_cases h_1 : x1 = (1 : Int32)
          · have hf := (if_pos h_1).symm.trans hf
            refine g_aald (pc := 44) (b := (a 48)) C hP 1 rfl (t0 := 3) rfl (by rw [h_1]; decide) (by rw [h_1, tn_1]; rfl) dX8_lose_44 ?_
            refine g_get (pc := 45) C fg_X8_143 hP 3 rfl rfl dX8_lose_45 ?_
            have hf := Option.some.inj hf
            subst hf
            exact ret_i C hr hlk hP hS dX8_lose_48
          have hf := (if_neg h_1).symm.trans hf
          by_cases h_2 : x1 = (2 : Int32)
          · have hf := (if_pos h_2).symm.trans hf
            refine g_aald (pc := 44) (b := (a 50)) C hP 1 rfl (t0 := 3) rfl (by rw [h_2]; decide) (by rw [h_2, tn_2]; rfl) dX8_lose_44 ?_
            refine g_get (pc := 45) C fg_X8_143 hP 4 rfl rfl dX8_lose_45 ?_
            have hf := Option.some.inj hf
            subst hf
            exact ret_i C hr hlk hP hS dX8_lose_48
          have hf := (if_neg h_2).symm.trans hf
          by_cases h_3 : x1 = (3 : Int32)
          · have hf := (if_pos h_3).symm.trans hf
            refine g_aald (pc := 44) (b := (a 52)) C hP 1 rfl (t0 := 3) rfl (by rw [h_3]; decide) (by rw [h_3, tn_3]; rfl) dX8_lose_44 ?_
            refine g_get (pc := 45) C fg_X8_143 hP 5 rfl rfl dX8_lose_45 ?_
            have hf := Option.some.inj hf
            subst hf
            exact ret_i C hr hlk hP hS dX8_lose_48
          have hf := (if_neg h_3).symm.trans hf
          cases hf
        have hf := (if_neg h_2).symm.trans hf
        by_cases h_3 : x1 = (3 : Int32)
        · have hf := (if_pos h_3).symm.trans hf
          refine g_aald (pc := 34) (b := (a 52)) C hP 1 rfl (t0 := 3) rfl (by rw [h_3]; decide) (by rw [h_3, tn_3]; rfl) dX8_lose_34 ?_
          refine lv_iconst (pc := 35) (v := 1) hx hb dX8_lose_35 ic_1 ?_
          refine g_put (pc := 36) C fg_X8_136 ft_X5_1 hP hD hS 5 rfl (by decide) rfl (Nat.le_of_ble_eq_true rfl) dX8_lose_36 (fun H locs hP hD hS => ?_)
          have hP : va_P D classes (wl_X8_lose cA a x_stale x_finding sheet0_lost sheet0_form sheet0_size sheet1_lost sheet1_form sheet1_size sheet2_lost sheet2_form sheet2_size (1 : Int32) sheet3_form sheet3_size) H := hP
          have hD : va_D (va_A ws0 sz) (wl_X8_lose cA a x_stale x_finding sheet0_lost sheet0_form sheet0_size sheet1_lost sheet1_form sheet1_size sheet2_lost sheet2_form sheet2_size (1 : Int32) sheet3_form sheet3_size) := hD
          refine lv_aload_n (pc := 39) hx hb dX8_lose_39 rfl (lv_at hl 0 rfl) ?_
          refine g_get (pc := 40) C fg_X8_77 hP 0 rfl rfl dX8_lose_40 ?_
          refine lv_iload_n (pc := 43) hx hb dX8_lose_43 rfl (lv_at hl 1 rfl) ?_
          by_cases h_0 : x1 = (0 : Int32)
          · have hf := (if_pos h_0).symm.trans hf
            refine g_aald (pc := 44) (b := (a 46)) C hP 1 rfl (t0 := 3) rfl (by rw [h_0]; decide) (by rw [h_0, tn_0]; rfl) dX8_lose_44 ?_
            refine g_get (pc := 45) C fg_X8_143 hP 2 rfl rfl dX8_lose_45 ?_
            have hf := Option.some.inj hf
            subst hf
            exact ret_i C hr hlk hP hS dX8_lose_48
          have hf := (if_neg h_0).symm.trans hf
          by_cases h_1 : x1 = (1 : Int32)
          · have hf := (if_pos h_1).symm.trans hf
            refine g_aald (pc := 44) (b := (a 48)) C hP 1 rfl (t0 := 3) rfl (by rw [h_1]; decide) (by rw [h_1, tn_1]; rfl) dX8_lose_44 ?_
            refine g_get (pc := 45) C fg_X8_143 hP 3 rfl rfl dX8_lose_45 ?_
            have hf := Option.some.inj hf
            subst hf
            exact ret_i C hr hlk hP hS dX8_lose_48
          have hf := (if_neg h_1).symm.trans hf
          by_cases h_2 : x1 = (2 : Int32)
          · have hf := (if_pos h_2).symm.trans hf
            refine g_aald (pc := 44) (b := (a 50)) C hP 1 rfl (t0 := 3) rfl (by rw [h_2]; decide) (by rw [h_2, tn_2]; rfl) dX8_lose_44 ?_
            refine g_get (pc := 45) C fg_X8_143 hP 4 rfl rfl dX8_lose_45 ?_
            have hf := Option.some.inj hf
            subst hf
            exact ret_i C hr hlk hP hS dX8_lose_48
          have hf := (if_neg h_2).symm.trans hf
          by_cases h_3 : x1 = (3 : Int32)
          · have hf := (if_pos h_3).symm.trans hf
            refine g_aald (pc := 44) (b := (a 52)) C hP 1 rfl (t0 := 3) rfl (by rw [h_3]; decide) (by rw [h_3, tn_3]; rfl) dX8_lose_44 ?_
            refine g_get (pc := 45) C fg_X8_143 hP 5 rfl rfl dX8_lose_45 ?_
            have hf := Option.some.inj hf
            subst hf
            exact ret_i C hr hlk hP hS dX8_lose_48
          have hf := (if_neg h_3).symm.trans hf
          cases hf
        have hf := (if_neg h_3).symm.trans hf
        cases hf
      · have hf := (if_neg hc).symm.trans hf
        refine lv_aload_n (pc := 23) hx hb dX8_lose_23 rfl (lv_at hl 0 rfl) ?_
        refine lv_iconst (pc := 24) (v := 1) hx hb dX8_lose_24 ic_1 ?_
        obtain ⟨r2, c3, hq, hf⟩ := bind2_some hf
        refine fin2_i (wl_X8_lose cA a x_stale c3 sheet0_lost sheet0_form sheet0_size sheet1_lost sheet1_form sheet1_size sheet2_lost sheet2_form sheet2_size sheet3_lost sheet3_form sheet3_size) (run_V (rest := []) (pc := 25) (As := [.int (1 : Int32)]) C mf_X8_139 (c_X8_found l D cA a x_stale x_finding (1 : Int32) (r2, c3) hq H.size) rfl rfl ⟨(Nat.le_of_ble_eq_true rfl), (Nat.le_of_ble_eq_true rfl)⟩ (preV_of C hP hD [0] rfl (pl_nd pv_3) 0 rfl rfl rfl) rfl hl.1 rfl (Nat.le_of_ble_eq_true rfl) dX8_lose_25 ⟨Nat.zero_le _, Nat.zero_le _⟩) hP hD hS hA [0] [1, 2, 3, 4, 5] rfl rfl rfl rfl pv_3 (fun H locs hP hS => ?_)
        have hD : va_D (va_A ws0 sz) (wl_X8_lose cA a x_stale c3 sheet0_lost sheet0_form sheet0_size sheet1_lost sheet1_form sheet1_size sheet2_lost sheet2_form sheet2_size sheet3_lost sheet3_form sheet3_size) := vd_a hD rfl
        have hf := Option.some.inj hf
        subst hf
        exact ret_i C hr hlk hP hS dX8_lose_28
    have hf := (if_neg h_0).symm.trans hf
    by_cases h_1 : x1 = (1 : Int32)
    · have hf := (if_pos h_1).symm.trans hf
      refine g_aald (pc := 16) (b := (a 48)) C hP 1 rfl (t0 := 3) rfl (by rw [h_1]; decide) (by rw [h_1, tn_1]; rfl) dX8_lose_16 ?_
      refine g_get (pc := 17) C fg_X8_136 hP 3 rfl rfl dX8_lose_17 ?_
      refine lv_if_eq (pc := 20) (tgt := 29) hx hb dX8_lose_20 (by decide) (fun hc => ?_) (fun hc => ?_)
      · have hf := (if_pos hc).symm.trans hf
        refine lv_aload_n (pc := 29) hx hb dX8_lose_29 rfl (lv_at hl 0 rfl) ?_
        refine g_get (pc := 30) C fg_X8_77 hP 0 rfl rfl dX8_lose_30 ?_
        refine lv_iload_n (pc := 33) hx hb dX8_lose_33 rfl (lv_at hl 1 rfl) ?_
        by_cases h_0 : x1 = (0 : Int32)
        · have hf := (if_pos h_0).symm.trans hf
          refine g_aald (pc := 34) (b := (a 46)) C hP 1 rfl (t0 := 3) rfl (by rw [h_0]; decide) (by rw [h_0, tn_0]; rfl) dX8_lose_34 ?_
          refine lv_iconst (pc := 35) (v := 1) hx hb dX8_lose_35 ic_1 ?_
          refine g_put (pc := 36) C fg_X8_136 ft_X5_1 hP hD hS 2 rfl (by decide) rfl (Nat.le_of_ble_eq_true rfl) dX8_lose_36 (fun H locs hP hD hS => ?_)
          have hP : va_P D classes (wl_X8_lose cA a x_stale x_finding (1 : Int32) sheet0_form sheet0_size sheet1_lost sheet1_form sheet1_size sheet2_lost sheet2_form sheet2_size sheet3_lost sheet3_form sheet3_size) H := hP
          have hD : va_D (va_A ws0 sz) (wl_X8_lose cA a x_stale x_finding (1 : Int32) sheet0_form sheet0_size sheet1_lost sheet1_form sheet1_size sheet2_lost sheet2_form sheet2_size sheet3_lost sheet3_form sheet3_size) := hD
          refine lv_aload_n (pc := 39) hx hb dX8_lose_39 rfl (lv_at hl 0 rfl) ?_
          refine g_get (pc := 40) C fg_X8_77 hP 0 rfl rfl dX8_lose_40 ?_
          refine lv_iload_n (pc := 43) hx hb dX8_lose_43 rfl (lv_at hl 1 rfl) ?_
          by_cases h_0 : x1 = (0 : Int32)
          · have hf := (if_pos h_0).symm.trans hf
            refine g_aald (pc := 44) (b := (a 46)) C hP 1 rfl (t0 := 3) rfl (by rw [h_0]; decide) (by rw [h_0, tn_0]; rfl) dX8_lose_44 ?_
            refine g_get (pc := 45) C fg_X8_143 hP 2 rfl rfl dX8_lose_45 ?_
            have hf := Option.some.inj hf
            subst hf
            exact ret_i C hr hlk hP hS dX8_lose_48
          have hf := (if_neg h_0).symm.trans hf
          by_cases h_1 : x1 = (1 : Int32)
          · have hf := (if_pos h_1).symm.trans hf
            refine g_aald (pc := 44) (b := (a 48)) C hP 1 rfl (t0 := 3) rfl (by rw [h_1]; decide) (by rw [h_1, tn_1]; rfl) dX8_lose_44 ?_
            refine g_get (pc := 45) C fg_X8_143 hP 3 rfl rfl dX8_lose_45 ?_
            have hf := Option.some.inj hf
            subst hf
            exact ret_i C hr hlk hP hS dX8_lose_48
          have hf := (if_neg h_1).symm.trans hf
          by_cases h_2 : x1 = (2 : Int32)
          · have hf := (if_pos h_2).symm.trans hf
            refine g_aald (pc := 44) (b := (a 50)) C hP 1 rfl (t0 := 3) rfl (by rw [h_2]; decide) (by rw [h_2, tn_2]; rfl) dX8_lose_44 ?_
            refine g_get (pc := 45) C fg_X8_143 hP 4 rfl rfl dX8_lose_45 ?_
            have hf := Option.some.inj hf
            subst hf
            exact ret_i C hr hlk hP hS dX8_lose_48
          have hf := (if_neg h_2).symm.trans hf
          by_cases h_3 : x1 = (3 : Int32)
          · have hf := (if_pos h_3).symm.trans hf
            refine g_aald (pc := 44) (b := (a 52)) C hP 1 rfl (t0 := 3) rfl (by rw [h_3]; decide) (by rw [h_3, tn_3]; rfl) dX8_lose_44 ?_
            refine g_get (pc := 45) C fg_X8_143 hP 5 rfl rfl dX8_lose_45 ?_
            have hf := Option.some.inj hf
            subst hf
            exact ret_i C hr hlk hP hS dX8_lose_48
          have hf := (if_neg h_3).symm.trans hf
          cases hf
        have hf := (if_neg h_0).symm.trans hf
        by_cases h_1 : x1 = (1 : Int32)
        · have hf := (if_pos h_1).symm.trans hf
          refine g_aald (pc := 34) (b := (a 48)) C hP 1 rfl (t0 := 3) rfl (by rw [h_1]; decide) (by rw [h_1, tn_1]; rfl) dX8_lose_34 ?_
          refine lv_iconst (pc := 35) (v := 1) hx hb dX8_lose_35 ic_1 ?_
          refine g_put (pc := 36) C fg_X8_136 ft_X5_1 hP hD hS 3 rfl (by decide) rfl (Nat.le_of_ble_eq_true rfl) dX8_lose_36 (fun H locs hP hD hS => ?_)
          have hP : va_P D classes (wl_X8_lose cA a x_stale x_finding sheet0_lost sheet0_form sheet0_size (1 : Int32) sheet1_form sheet1_size sheet2_lost sheet2_form sheet2_size sheet3_lost sheet3_form sheet3_size) H := hP
          have hD : va_D (va_A ws0 sz) (wl_X8_lose cA a x_stale x_finding sheet0_lost sheet0_form sheet0_size (1 : Int32) sheet1_form sheet1_size sheet2_lost sheet2_form sheet2_size sheet3_lost sheet3_form sheet3_size) := hD
          refine lv_aload_n (pc := 39) hx hb dX8_lose_39 rfl (lv_at hl 0 rfl) ?_
          refine g_get (pc := 40) C fg_X8_77 hP 0 rfl rfl dX8_lose_40 ?_
          refine lv_iload_n (pc := 43) hx hb dX8_lose_43 rfl (lv_at hl 1 rfl) ?_
          by_cases h_0 : x1 = (0 : Int32)
          · have hf := (if_pos h_0).symm.trans hf
            refine g_aald (pc := 44) (b := (a 46)) C hP 1 rfl (t0 := 3) rfl (by rw [h_0]; decide) (by rw [h_0, tn_0]; rfl) dX8_lose_44 ?_
            refine g_get (pc := 45) C fg_X8_143 hP 2 rfl rfl dX8_lose_45 ?_
            have hf := Option.some.inj hf
            subst hf
            exact ret_i C hr hlk hP hS dX8_lose_48
          have hf := (if_neg h_0).symm.trans hf
          by_cases h_1 : x1 = (1 : Int32)
          · have hf := (if_pos h_1).symm.trans hf
            refine g_aald (pc := 44) (b := (a 48)) C hP 1 rfl (t0 := 3) rfl (by rw [h_1]; decide) (by rw [h_1, tn_1]; rfl) dX8_lose_44 ?_
            refine g_get (pc := 45) C fg_X8_143 hP 3 rfl rfl dX8_lose_45 ?_
            have hf := Option.some.inj hf
            subst hf
            exact ret_i C hr hlk hP hS dX8_lose_48
          have hf := (if_neg h_1).symm.trans hf
          by_cases h_2 : x1 = (2 : Int32)
          · have hf := (if_pos h_2).symm.trans hf
            refine g_aald (pc := 44) (b := (a 50)) C hP 1 rfl (t0 := 3) rfl (by rw [h_2]; decide) (by rw [h_2, tn_2]; rfl) dX8_lose_44 ?_
            refine g_get (pc := 45) C fg_X8_143 hP 4 rfl rfl dX8_lose_45 ?_
            have hf := Option.some.inj hf
            subst hf
            exact ret_i C hr hlk hP hS dX8_lose_48
          have hf := (if_neg h_2).symm.trans hf
          by_cases h_3 : x1 = (3 : Int32)
          · have hf := (if_pos h_3).symm.trans hf
            refine g_aald (pc := 44) (b := (a 52)) C hP 1 rfl (t0 := 3) rfl (by rw [h_3]; decide) (by rw [h_3, tn_3]; rfl) dX8_lose_44 ?_
            refine g_get (pc := 45) C fg_X8_143 hP 5 rfl rfl dX8_lose_45 ?_
            have hf := Option.some.inj hf
            subst hf
            exact ret_i C hr hlk hP hS dX8_lose_48
          have hf := (if_neg h_3).symm.trans hf
          cases hf
        have hf := (if_neg h_1).symm.trans hf
        by_cases h_2 : x1 = (2 : Int32)
        · have hf := (if_pos h_2).symm.trans hf
          refine g_aald (pc := 34) (b := (a 50)) C hP 1 rfl (t0 := 3) rfl (by rw [h_2]; decide) (by rw [h_2, tn_2]; rfl) dX8_lose_34 ?_
          refine lv_iconst (pc := 35) (v := 1) hx hb dX8_lose_35 ic_1 ?_
          refine g_put (pc := 36) C fg_X8_136 ft_X5_1 hP hD hS 4 rfl (by decide) rfl (Nat.le_of_ble_eq_true rfl) dX8_lose_36 (fun H locs hP hD hS => ?_)
          have hP : va_P D classes (wl_X8_lose cA a x_stale x_finding sheet0_lost sheet0_form sheet0_size sheet1_lost sheet1_form sheet1_size (1 : Int32) sheet2_form sheet2_size sheet3_lost sheet3_form sheet3_size) H := hP
          have hD : va_D (va_A ws0 sz) (wl_X8_lose cA a x_stale x_finding sheet0_lost sheet0_form sheet0_size sheet1_lost sheet1_form sheet1_size (1 : Int32) sheet2_form sheet2_size sheet3_lost sheet3_form sheet3_size) := hD
          refine lv_aload_n (pc := 39) hx hb dX8_lose_39 rfl (lv_at hl 0 rfl) ?_
          refine g_get (pc := 40) C fg_X8_77 hP 0 rfl rfl dX8_lose_40 ?_
          refine lv_iload_n (pc := 43) hx hb dX8_lose_43 rfl (lv_at hl 1 rfl) ?_
          by_cases h_0 : x1 = (0 : Int32)
          · have hf := (if_pos h_0).symm.trans hf
            refine g_aald (pc := 44) (b := (a 46)) C hP 1 rfl (t0 := 3) rfl (by rw [h_0]; decide) (by rw [h_0, tn_0]; rfl) dX8_lose_44 ?_
            refine g_get (pc := 45) C fg_X8_143 hP 2 rfl rfl dX8_lose_45 ?_
            have hf := Option.some.inj hf
            subst hf
            exact ret_i C hr hlk hP hS dX8_lose_48
          have hf := (if_neg h_0).symm.trans hf
          by_cases h_1 : x1 = (1 : Int32)
          · have hf := (if_pos h_1).symm.trans hf
            refine g_aald (pc := 44) (b := (a 48)) C hP 1 rfl (t0 := 3) rfl (by rw [h_1]; decide) (by rw [h_1, tn_1]; rfl) dX8_lose_44 ?_
            refine g_get (pc := 45) C fg_X8_143 hP 3 rfl rfl dX8_lose_45 ?_
            have hf := Option.some.inj hf
            subst hf
            exact ret_i C hr hlk hP hS dX8_lose_48
          have hf := (if_neg h_1).symm.trans hf
          by_cases h_2 : x1 = (2 : Int32)
          · have hf := (if_pos h_2).symm.trans hf
            refine g_aald (pc := 44) (b := (a 50)) C hP 1 rfl (t0 := 3) rfl (by rw [h_2]; decide) (by rw [h_2, tn_2]; rfl) dX8_lose_44 ?_
            refine g_get (pc := 45) C fg_X8_143 hP 4 rfl rfl dX8_lose_45 ?_
            have hf := Option.some.inj hf
            subst hf
            exact ret_i C hr hlk hP hS dX8_lose_48
          have hf := (if_neg h_2).symm.trans hf
          by_cases h_3 : x1 = (3 : Int32)
          · have hf := (if_pos h_3).symm.trans hf
            refine g_aald (pc := 44) (b := (a 52)) C hP 1 rfl (t0 := 3) rfl (by rw [h_3]; decide) (by rw [h_3, tn_3]; rfl) dX8_lose_44 ?_
            refine g_get (pc := 45) C fg_X8_143 hP 5 rfl rfl dX8_lose_45 ?_
            have hf := Option.some.inj hf
            subst hf
            exact ret_i C hr hlk hP hS dX8_lose_48
          have hf := (if_neg h_3).symm.trans hf
          cases hf
        have hf := (if_neg h_2).symm.trans hf
        by_cases h_3 : x1 = (3 : Int32)
        · have hf := (if_pos h_3).symm.trans hf
          refine g_aald (pc := 34) (b := (a 52)) C hP 1 rfl (t0 := 3) rfl (by rw [h_3]; decide) (by rw [h_3, tn_3]; rfl) dX8_lose_34 ?_
          refine lv_iconst (pc := 35) (v := 1) hx hb dX8_lose_35 ic_1 ?_
          refine g_put (pc := 36) C fg_X8_136 ft_X5_1 hP hD hS 5 rfl (by decide) rfl (Nat.le_of_ble_eq_true rfl) dX8_lose_36 (fun H locs hP hD hS => ?_)
          have hP : va_P D classes (wl_X8_lose cA a x_stale x_finding sheet0_lost sheet0_form sheet0_size sheet1_lost sheet1_form sheet1_size sheet2_lost sheet2_form sheet2_size (1 : Int32) sheet3_form sheet3_size) H := hP
          have hD : va_D (va_A ws0 sz) (wl_X8_lose cA a x_stale x_finding sheet0_lost sheet0_form sheet0_size sheet1_lost sheet1_form sheet1_size sheet2_lost sheet2_form sheet2_size (1 : Int32) sheet3_form sheet3_size) := hD
          refine lv_aload_n (pc := 39) hx hb dX8_lose_39 rfl (lv_at hl 0 rfl) ?_
          refine g_get (pc := 40) C fg_X8_77 hP 0 rfl rfl dX8_lose_40 ?_
          refine lv_iload_n (pc := 43) hx hb dX8_lose_43 rfl (lv_at hl 1 rfl) ?_
          by_cases h_0 : x1 = (0 : Int32)
          · have hf := (if_pos h_0).symm.trans hf
            refine g_aald (pc := 44) (b := (a 46)) C hP 1 rfl (t0 := 3) rfl (by rw [h_0]; decide) (by rw [h_0, tn_0]; rfl) dX8_lose_44 ?_
            refine g_get (pc := 45) C fg_X8_143 hP 2 rfl rfl dX8_lose_45 ?_
            have hf := Option.some.inj hf
            subst hf
            exact ret_i C hr hlk hP hS dX8_lose_48
          have hf := (if_neg h_0).symm.trans hf
          by_cases h_1 : x1 = (1 : Int32)
          · have hf := (if_pos h_1).symm.trans hf
            refine g_aald (pc := 44) (b := (a 48)) C hP 1 rfl (t0 := 3) rfl (by rw [h_1]; decide) (by rw [h_1, tn_1]; rfl) dX8_lose_44 ?_
            refine g_get (pc := 45) C fg_X8_143 hP 3 rfl rfl dX8_lose_45 ?_
            have hf := Option.some.inj hf
            subst hf
            exact ret_i C hr hlk hP hS dX8_lose_48
          have hf := (if_neg h_1).symm.trans hf
          by_cases h_2 : x1 = (2 : Int32)
          · have hf := (if_pos h_2).symm.trans hf
            refine g_aald (pc := 44) (b := (a 50)) C hP 1 rfl (t0 := 3) rfl (by rw [h_2]; decide) (by rw [h_2, tn_2]; rfl) dX8_lose_44 ?_
            refine g_get (pc := 45) C fg_X8_143 hP 4 rfl rfl dX8_lose_45 ?_
            have hf := Option.some.inj hf
            subst hf
            exact ret_i C hr hlk hP hS dX8_lose_48
          have hf := (if_neg h_2).symm.trans hf
          by_cases h_3 : x1 = (3 : Int32)
          · have hf := (if_pos h_3).symm.trans hf
            refine g_aald (pc := 44) (b := (a 52)) C hP 1 rfl (t0 := 3) rfl (by rw [h_3]; decide) (by rw [h_3, tn_3]; rfl) dX8_lose_44 ?_
            refine g_get (pc := 45) C fg_X8_143 hP 5 rfl rfl dX8_lose_45 ?_
            have hf := Option.some.inj hf
            subst hf
            exact ret_i C hr hlk hP hS dX8_lose_48
          have hf := (if_neg h_3).symm.trans hf
          cases hf
        have hf := (if_neg h_3).symm.trans hf
        cases hf
      · have hf := (if_neg hc).symm.trans hf
        refine lv_aload_n (pc := 23) hx hb dX8_lose_23 rfl (lv_at hl 0 rfl) ?_
        refine lv_iconst (pc := 24) (v := 1) hx hb dX8_lose_24 ic_1 ?_
        obtain ⟨r4, c5, hq, hf⟩ := bind2_some hf
        refine fin2_i (wl_X8_lose cA a x_stale c5 sheet0_lost sheet0_form sheet0_size sheet1_lost sheet1_form sheet1_size sheet2_lost sheet2_form sheet2_size sheet3_lost sheet3_form sheet3_size) (run_V (rest := []) (pc := 25) (As := [.int (1 : Int32)]) C mf_X8_139 (c_X8_found l D cA a x_stale x_finding (1 : Int32) (r4, c5) hq H.size) rfl rfl ⟨(Nat.le_of_ble_eq_true rfl), (Nat.le_of_ble_eq_true rfl)⟩ (preV_of C hP hD [0] rfl (pl_nd pv_3) 0 rfl rfl rfl) rfl hl.1 rfl (Nat.le_of_ble_eq_true rfl) dX8_lose_25 ⟨Nat.zero_le _, Nat.zero_le _⟩) hP hD hS hA [0] [1, 2, 3, 4, 5] rfl rfl rfl rfl pv_3 (fun H locs hP hS => ?_)
        have hD : va_D (va_A ws0 sz) (wl_X8_lose cA a x_stale c5 sheet0_lost sheet0_form sheet0_size sheet1_lost sheet1_form sheet1_size sheet2_lost sheet2_form sheet2_size sheet3_lost sheet3_form sheet3_size) := vd_a hD rfl
        have hf := Option.some.inj hf
        subst hf
        exact ret_i C hr hlk hP hS dX8_lose_28
    have hf := (if_neg h_1).symm.trans hf
    by_cases h_2 : x1 = (2 : Int32)
    · have hf := (if_pos h_2).symm.trans hf
      refine g_aald (pc := 16) (b := (a 50)) C hP 1 rfl (t0 := 3) rfl (by rw [h_2]; decide) (by rw [h_2, tn_2]; rfl) dX8_lose_16 ?_
      refine g_get (pc := 17) C fg_X8_136 hP 4 rfl rfl dX8_lose_17 ?_
      refine lv_if_eq (pc := 20) (tgt := 29) hx hb dX8_lose_20 (by decide) (fun hc => ?_) (fun hc => ?_)
      · have hf := (if_pos hc).symm.trans hf
        refine lv_aload_n (pc := 29) hx hb dX8_lose_29 rfl (lv_at hl 0 rfl) ?_
        refine g_get (pc := 30) C fg_X8_77 hP 0 rfl rfl dX8_lose_30 ?_
        refine lv_iload_n (pc := 33) hx hb dX8_lose_33 rfl (lv_at hl 1 rfl) ?_
        by_cases h_0 : x1 = (0 : Int32)
        · have hf := (if_pos h_0).symm.trans hf
          refine g_aald (pc := 34) (b := (a 46)) C hP 1 rfl (t0 := 3) rfl (by rw [h_0]; decide) (by rw [h_0, tn_0]; rfl) dX8_lose_34 ?_
          refine lv_iconst (pc := 35) (v := 1) hx hb dX8_lose_35 ic_1 ?_
          refine g_put (pc := 36) C fg_X8_136 ft_X5_1 hP hD hS 2 rfl (by decide) rfl (Nat.le_of_ble_eq_true rfl) dX8_lose_36 (fun H locs hP hD hS => ?_)
          have hP : va_P D classes (wl_X8_lose cA a x_stale x_finding (1 : Int32) sheet0_form sheet0_size sheet1_lost sheet1_form sheet1_size sheet2_lost sheet2_form sheet2_size sheet3_lost sheet3_form sheet3_size) H := hP
          have hD : va_D (va_A ws0 sz) (wl_X8_lose cA a x_stale x_finding (1 : Int32) sheet0_form sheet0_size sheet1_lost sheet1_form sheet1_size sheet2_lost sheet2_form sheet2_size sheet3_lost sheet3_form sheet3_size) := hD
          refine lv_aload_n (pc := 39) hx hb dX8_lose_39 rfl (lv_at hl 0 rfl) ?_
          refine g_get (pc := 40) C fg_X8_77 hP 0 rfl rfl dX8_lose_40 ?_
          refine lv_iload_n (pc := 43) hx hb dX8_lose_43 rfl (lv_at hl 1 rfl) ?_
          by_cases h_0 : x1 = (0 : Int32)
          · have hf := (if_pos h_0).symm.trans hf
            refine g_aald (pc := 44) (b := (a 46)) C hP 1 rfl (t0 := 3) rfl (by rw [h_0]; decide) (by rw [h_0, tn_0]; rfl) dX8_lose_44 ?_
            refine g_get (pc := 45) C fg_X8_143 hP 2 rfl rfl dX8_lose_45 ?_
            have hf := Option.some.inj hf
            subst hf
            exact ret_i C hr hlk hP hS dX8_lose_48
          have hf := (if_neg h_0).symm.trans hf
          by_cases h_1 : x1 = (1 : Int32)
          · have hf := (if_pos h_1).symm.trans hf
            refine g_aald (pc := 44) (b := (a 48)) C hP 1 rfl (t0 := 3) rfl (by rw [h_1]; decide) (by rw [h_1, tn_1]; rfl) dX8_lose_44 ?_
            refine g_get (pc := 45) C fg_X8_143 hP 3 rfl rfl dX8_lose_45 ?_
            have hf := Option.some.inj hf
            subst hf
            exact ret_i C hr hlk hP hS dX8_lose_48
          have hf := (if_neg h_1).symm.trans hf
          by_cases h_2 : x1 = (2 : Int32)
          · have hf := (if_pos h_2).symm.trans hf
            refine g_aald (pc := 44) (b := (a 50)) C hP 1 rfl (t0 := 3) rfl (by rw [h_2]; decide) (by rw [h_2, tn_2]; rfl) dX8_lose_44 ?_
            refine g_get (pc := 45) C fg_X8_143 hP 4 rfl rfl dX8_lose_45 ?_
            have hf := Option.some.inj hf
            subst hf
            exact ret_i C hr hlk hP hS dX8_lose_48
          have hf := (if_neg h_2).symm.trans hf
          by_cases h_3 : x1 = (3 : Int32)
          · have hf := (if_pos h_3).symm.trans hf
            refine g_aald (pc := 44) (b := (a 52)) C hP 1 rfl (t0 := 3) rfl (by rw [h_3]; decide) (by rw [h_3, tn_3]; rfl) dX8_lose_44 ?_
            refine g_get (pc := 45) C fg_X8_143 hP 5 rfl rfl dX8_lose_45 ?_
            have hf := Option.some.inj hf
            subst hf
            exact ret_i C hr hlk hP hS dX8_lose_48
          have hf := (if_neg h_3).symm.trans hf
          cases hf
        have hf := (if_neg h_0).symm.trans hf
        by_cases h_1 : x1 = (1 : Int32)
        · have hf := (if_pos h_1).symm.trans hf
          refine g_aald (pc := 34) (b := (a 48)) C hP 1 rfl (t0 := 3) rfl (by rw [h_1]; decide) (by rw [h_1, tn_1]; rfl) dX8_lose_34 ?_
          refine lv_iconst (pc := 35) (v := 1) hx hb dX8_lose_35 ic_1 ?_
          refine g_put (pc := 36) C fg_X8_136 ft_X5_1 hP hD hS 3 rfl (by decide) rfl (Nat.le_of_ble_eq_true rfl) dX8_lose_36 (fun H locs hP hD hS => ?_)
          have hP : va_P D classes (wl_X8_lose cA a x_stale x_finding sheet0_lost sheet0_form sheet0_size (1 : Int32) sheet1_form sheet1_size sheet2_lost sheet2_form sheet2_size sheet3_lost sheet3_form sheet3_size) H := hP
          have hD : va_D (va_A ws0 sz) (wl_X8_lose cA a x_stale x_finding sheet0_lost sheet0_form sheet0_size (1 : Int32) sheet1_form sheet1_size sheet2_lost sheet2_form sheet2_size sheet3_lost sheet3_form sheet3_size) := hD
          refine lv_aload_n (pc := 39) hx hb dX8_lose_39 rfl (lv_at hl 0 rfl) ?_
          refine g_get (pc := 40) C fg_X8_77 hP 0 rfl rfl dX8_lose_40 ?_
          refine lv_iload_n (pc := 43) hx hb dX8_lose_43 rfl (lv_at hl 1 rfl) ?_
          by_cases h_0 : x1 = (0 : Int32)
          · have hf := (if_pos h_0).symm.trans hf
            refine g_aald (pc := 44) (b := (a 46)) C hP 1 rfl (t0 := 3) rfl (by rw [h_0]; decide) (by rw [h_0, tn_0]; rfl) dX8_lose_44 ?_
            refine g_get (pc := 45) C fg_X8_143 hP 2 rfl rfl dX8_lose_45 ?_
            have hf := Option.some.inj hf
            subst hf
            exact ret_i C hr hlk hP hS dX8_lose_48
          have hf := (if_neg h_0).symm.trans hf
          by_cases h_1 : x1 = (1 : Int32)
          · have hf := (if_pos h_1).symm.trans hf
            refine g_aald (pc := 44) (b := (a 48)) C hP 1 rfl (t0 := 3) rfl (by rw [h_1]; decide) (by rw [h_1, tn_1]; rfl) dX8_lose_44 ?_
            refine g_get (pc := 45) C fg_X8_143 hP 3 rfl rfl dX8_lose_45 ?_
            have hf := Option.some.inj hf
            subst hf
            exact ret_i C hr hlk hP hS dX8_lose_48
          have hf := (if_neg h_1).symm.trans hf
          by_cases h_2 : x1 = (2 : Int32)
          · have hf := (if_pos h_2).symm.trans hf
            refine g_aald (pc := 44) (b := (a 50)) C hP 1 rfl (t0 := 3) rfl (by rw [h_2]; decide) (by rw [h_2, tn_2]; rfl) dX8_lose_44 ?_
            refine g_get (pc := 45) C fg_X8_143 hP 4 rfl rfl dX8_lose_45 ?_
            have hf := Option.some.inj hf
            subst hf
            exact ret_i C hr hlk hP hS dX8_lose_48
          have hf := (if_neg h_2).symm.trans hf
          by_cases h_3 : x1 = (3 : Int32)
          · have hf := (if_pos h_3).symm.trans hf
            refine g_aald (pc := 44) (b := (a 52)) C hP 1 rfl (t0 := 3) rfl (by rw [h_3]; decide) (by rw [h_3, tn_3]; rfl) dX8_lose_44 ?_
            refine g_get (pc := 45) C fg_X8_143 hP 5 rfl rfl dX8_lose_45 ?_
            have hf := Option.some.inj hf
            subst hf
            exact ret_i C hr hlk hP hS dX8_lose_48
          have hf := (if_neg h_3).symm.trans hf
          cases hf
        have hf := (if_neg h_1).symm.trans hf
        by_cases h_2 : x1 = (2 : Int32)
        · have hf := (if_pos h_2).symm.trans hf
          refine g_aald (pc := 34) (b := (a 50)) C hP 1 rfl (t0 := 3) rfl (by rw [h_2]; decide) (by rw [h_2, tn_2]; rfl) dX8_lose_34 ?_
          refine lv_iconst (pc := 35) (v := 1) hx hb dX8_lose_35 ic_1 ?_
          refine g_put (pc := 36) C fg_X8_136 ft_X5_1 hP hD hS 4 rfl (by decide) rfl (Nat.le_of_ble_eq_true rfl) dX8_lose_36 (fun H locs hP hD hS => ?_)
          have hP : va_P D classes (wl_X8_lose cA a x_stale x_finding sheet0_lost sheet0_form sheet0_size sheet1_lost sheet1_form sheet1_size (1 : Int32) sheet2_form sheet2_size sheet3_lost sheet3_form sheet3_size) H := hP
          have hD : va_D (va_A ws0 sz) (wl_X8_lose cA a x_stale x_finding sheet0_lost sheet0_form sheet0_size sheet1_lost sheet1_form sheet1_size (1 : Int32) sheet2_form sheet2_size sheet3_lost sheet3_form sheet3_size) := hD
          refine lv_aload_n (pc := 39) hx hb dX8_lose_39 rfl (lv_at hl 0 rfl) ?_
          refine g_get (pc := 40) C fg_X8_77 hP 0 rfl rfl dX8_lose_40 ?_
          refine lv_iload_n (pc := 43) hx hb dX8_lose_43 rfl (lv_at hl 1 rfl) ?_
          by_cases h_0 : x1 = (0 : Int32)
          · have hf := (if_pos h_0).symm.trans hf
            refine g_aald (pc := 44) (b := (a 46)) C hP 1 rfl (t0 := 3) rfl (by rw [h_0]; decide) (by rw [h_0, tn_0]; rfl) dX8_lose_44 ?_
            refine g_get (pc := 45) C fg_X8_143 hP 2 rfl rfl dX8_lose_45 ?_
            have hf := Option.some.inj hf
            subst hf
            exact ret_i C hr hlk hP hS dX8_lose_48
          have hf := (if_neg h_0).symm.trans hf
          by_cases h_1 : x1 = (1 : Int32)
          · have hf := (if_pos h_1).symm.trans hf
            refine g_aald (pc := 44) (b := (a 48)) C hP 1 rfl (t0 := 3) rfl (by rw [h_1]; decide) (by rw [h_1, tn_1]; rfl) dX8_lose_44 ?_
            refine g_get (pc := 45) C fg_X8_143 hP 3 rfl rfl dX8_lose_45 ?_
            have hf := Option.some.inj hf
            subst hf
            exact ret_i C hr hlk hP hS dX8_lose_48
          have hf := (if_neg h_1).symm.trans hf
          by_cases h_2 : x1 = (2 : Int32)
          · have hf := (if_pos h_2).symm.trans hf
            refine g_aald (pc := 44) (b := (a 50)) C hP 1 rfl (t0 := 3) rfl (by rw [h_2]; decide) (by rw [h_2, tn_2]; rfl) dX8_lose_44 ?_
            refine g_get (pc := 45) C fg_X8_143 hP 4 rfl rfl dX8_lose_45 ?_
            have hf := Option.some.inj hf
            subst hf
            exact ret_i C hr hlk hP hS dX8_lose_48
          have hf := (if_neg h_2).symm.trans hf
          by_cases h_3 : x1 = (3 : Int32)
          · have hf := (if_pos h_3).symm.trans hf
            refine g_aald (pc := 44) (b := (a 52)) C hP 1 rfl (t0 := 3) rfl (by rw [h_3]; decide) (by rw [h_3, tn_3]; rfl) dX8_lose_44 ?_
            refine g_get (pc := 45) C fg_X8_143 hP 5 rfl rfl dX8_lose_45 ?_
            have hf := Option.some.inj hf
            subst hf
            exact ret_i C hr hlk hP hS dX8_lose_48
          have hf := (if_neg h_3).symm.trans hf
          cases hf
        have hf := (if_neg h_2).symm.trans hf
        by_cases h_3 : x1 = (3 : Int32)
        · have hf := (if_pos h_3).symm.trans hf
          refine g_aald (pc := 34) (b := (a 52)) C hP 1 rfl (t0 := 3) rfl (by rw [h_3]; decide) (by rw [h_3, tn_3]; rfl) dX8_lose_34 ?_
          refine lv_iconst (pc := 35) (v := 1) hx hb dX8_lose_35 ic_1 ?_
          refine g_put (pc := 36) C fg_X8_136 ft_X5_1 hP hD hS 5 rfl (by decide) rfl (Nat.le_of_ble_eq_true rfl) dX8_lose_36 (fun H locs hP hD hS => ?_)
          have hP : va_P D classes (wl_X8_lose cA a x_stale x_finding sheet0_lost sheet0_form sheet0_size sheet1_lost sheet1_form sheet1_size sheet2_lost sheet2_form sheet2_size (1 : Int32) sheet3_form sheet3_size) H := hP
          have hD : va_D (va_A ws0 sz) (wl_X8_lose cA a x_stale x_finding sheet0_lost sheet0_form sheet0_size sheet1_lost sheet1_form sheet1_size sheet2_lost sheet2_form sheet2_size (1 : Int32) sheet3_form sheet3_size) := hD
          refine lv_aload_n (pc := 39) hx hb dX8_lose_39 rfl (lv_at hl 0 rfl) ?_
          refine g_get (pc := 40) C fg_X8_77 hP 0 rfl rfl dX8_lose_40 ?_
          refine lv_iload_n (pc := 43) hx hb dX8_lose_43 rfl (lv_at hl 1 rfl) ?_
          by_cases h_0 : x1 = (0 : Int32)
          · have hf := (if_pos h_0).symm.trans hf
            refine g_aald (pc := 44) (b := (a 46)) C hP 1 rfl (t0 := 3) rfl (by rw [h_0]; decide) (by rw [h_0, tn_0]; rfl) dX8_lose_44 ?_
            refine g_get (pc := 45) C fg_X8_143 hP 2 rfl rfl dX8_lose_45 ?_
            have hf := Option.some.inj hf
            subst hf
            exact ret_i C hr hlk hP hS dX8_lose_48
          have hf := (if_neg h_0).symm.trans hf
          by_cases h_1 : x1 = (1 : Int32)
          · have hf := (if_pos h_1).symm.trans hf
            refine g_aald (pc := 44) (b := (a 48)) C hP 1 rfl (t0 := 3) rfl (by rw [h_1]; decide) (by rw [h_1, tn_1]; rfl) dX8_lose_44 ?_
            refine g_get (pc := 45) C fg_X8_143 hP 3 rfl rfl dX8_lose_45 ?_
            have hf := Option.some.inj hf
            subst hf
            exact ret_i C hr hlk hP hS dX8_lose_48
          have hf := (if_neg h_1).symm.trans hf
          by_cases h_2 : x1 = (2 : Int32)
          · have hf := (if_pos h_2).symm.trans hf
            refine g_aald (pc := 44) (b := (a 50)) C hP 1 rfl (t0 := 3) rfl (by rw [h_2]; decide) (by rw [h_2, tn_2]; rfl) dX8_lose_44 ?_
            refine g_get (pc := 45) C fg_X8_143 hP 4 rfl rfl dX8_lose_45 ?_
            have hf := Option.some.inj hf
            subst hf
            exact ret_i C hr hlk hP hS dX8_lose_48
          have hf := (if_neg h_2).symm.trans hf
          by_cases h_3 : x1 = (3 : Int32)
          · have hf := (if_pos h_3).symm.trans hf
            refine g_aald (pc := 44) (b := (a 52)) C hP 1 rfl (t0 := 3) rfl (by rw [h_3]; decide) (by rw [h_3, tn_3]; rfl) dX8_lose_44 ?_
            refine g_get (pc := 45) C fg_X8_143 hP 5 rfl rfl dX8_lose_45 ?_
            have hf := Option.some.inj hf
            subst hf
            exact ret_i C hr hlk hP hS dX8_lose_48
          have hf := (if_neg h_3).symm.trans hf
          cases hf
        have hf := (if_neg h_3).symm.trans hf
        cases hf
      · have hf := (if_neg hc).symm.trans hf
        refine lv_aload_n (pc := 23) hx hb dX8_lose_23 rfl (lv_at hl 0 rfl) ?_
        refine lv_iconst (pc := 24) (v := 1) hx hb dX8_lose_24 ic_1 ?_
        obtain ⟨r6, c7, hq, hf⟩ := bind2_some hf
        refine fin2_i (wl_X8_lose cA a x_stale c7 sheet0_lost sheet0_form sheet0_size sheet1_lost sheet1_form sheet1_size sheet2_lost sheet2_form sheet2_size sheet3_lost sheet3_form sheet3_size) (run_V (rest := []) (pc := 25) (As := [.int (1 : Int32)]) C mf_X8_139 (c_X8_found l D cA a x_stale x_finding (1 : Int32) (r6, c7) hq H.size) rfl rfl ⟨(Nat.le_of_ble_eq_true rfl), (Nat.le_of_ble_eq_true rfl)⟩ (preV_of C hP hD [0] rfl (pl_nd pv_3) 0 rfl rfl rfl) rfl hl.1 rfl (Nat.le_of_ble_eq_true rfl) dX8_lose_25 ⟨Nat.zero_le _, Nat.zero_le _⟩) hP hD hS hA [0] [1, 2, 3, 4, 5] rfl rfl rfl rfl pv_3 (fun H locs hP hS => ?_)
        have hD : va_D (va_A ws0 sz) (wl_X8_lose cA a x_stale c7 sheet0_lost sheet0_form sheet0_size sheet1_lost sheet1_form sheet1_size sheet2_lost sheet2_form sheet2_size sheet3_lost sheet3_form sheet3_size) := vd_a hD rfl
        have hf := Option.some.inj hf
        subst hf
        exact ret_i C hr hlk hP hS dX8_lose_28
    have hf := (if_neg h_2).symm.trans hf
    by_cases h_3 : x1 = (3 : Int32)
    · have hf := (if_pos h_3).symm.trans hf
      refine g_aald (pc := 16) (b := (a 52)) C hP 1 rfl (t0 := 3) rfl (by rw [h_3]; decide) (by rw [h_3, tn_3]; rfl) dX8_lose_16 ?_
      refine g_get (pc := 17) C fg_X8_136 hP 5 rfl rfl dX8_lose_17 ?_
      refine lv_if_eq (pc := 20) (tgt := 29) hx hb dX8_lose_20 (by decide) (fun hc => ?_) (fun hc => ?_)
      · have hf := (if_pos hc).symm.trans hf
        refine lv_aload_n (pc := 29) hx hb dX8_lose_29 rfl (lv_at hl 0 rfl) ?_
        refine g_get (pc := 30) C fg_X8_77 hP 0 rfl rfl dX8_lose_30 ?_
        refine lv_iload_n (pc := 33) hx hb dX8_lose_33 rfl (lv_at hl 1 rfl) ?_
        by_cases h_0 : x1 = (0 : Int32)
        · have hf := (if_pos h_0).symm.trans hf
          refine g_aald (pc := 34) (b := (a 46)) C hP 1 rfl (t0 := 3) rfl (by rw [h_0]; decide) (by rw [h_0, tn_0]; rfl) dX8_lose_34 ?_
          refine lv_iconst (pc := 35) (v := 1) hx hb dX8_lose_35 ic_1 ?_
          refine g_put (pc := 36) C fg_X8_136 ft_X5_1 hP hD hS 2 rfl (by decide) rfl (Nat.le_of_ble_eq_true rfl) dX8_lose_36 (fun H locs hP hD hS => ?_)
          have hP : va_P D classes (wl_X8_lose cA a x_stale x_finding (1 : Int32) sheet0_form sheet0_size sheet1_lost sheet1_form sheet1_size sheet2_lost sheet2_form sheet2_size sheet3_lost sheet3_form sheet3_size) H := hP
          have hD : va_D (va_A ws0 sz) (wl_X8_lose cA a x_stale x_finding (1 : Int32) sheet0_form sheet0_size sheet1_lost sheet1_form sheet1_size sheet2_lost sheet2_form sheet2_size sheet3_lost sheet3_form sheet3_size) := hD
          refine lv_aload_n (pc := 39) hx hb dX8_lose_39 rfl (lv_at hl 0 rfl) ?_
          refine g_get (pc := 40) C fg_X8_77 hP 0 rfl rfl dX8_lose_40 ?_
          refine lv_iload_n (pc := 43) hx hb dX8_lose_43 rfl (lv_at hl 1 rfl) ?_
          by_cases h_0 : x1 = (0 : Int32)
          · have hf := (if_pos h_0).symm.trans hf
            refine g_aald (pc := 44) (b := (a 46)) C hP 1 rfl (t0 := 3) rfl (by rw [h_0]; decide) (by rw [h_0, tn_0]; rfl) dX8_lose_44 ?_
            refine g_get (pc := 45) C fg_X8_143 hP 2 rfl rfl dX8_lose_45 ?_
            have hf := Option.some.inj hf
            subst hf
            exact ret_i C hr hlk hP hS dX8_lose_48
          have hf := (if_neg h_0).symm.trans hf
          by_cases h_1 : x1 = (1 : Int32)
          · have hf := (if_pos h_1).symm.trans hf
            refine g_aald (pc := 44) (b := (a 48)) C hP 1 rfl (t0 := 3) rfl (by rw [h_1]; decide) (by rw [h_1, tn_1]; rfl) dX8_lose_44 ?_
            refine g_get (pc := 45) C fg_X8_143 hP 3 rfl rfl dX8_lose_45 ?_
            have hf := Option.some.inj hf
            subst hf
            exact ret_i C hr hlk hP hS dX8_lose_48
          have hf := (if_neg h_1).symm.trans hf
          by_cases h_2 : x1 = (2 : Int32)
          · have hf := (if_pos h_2).symm.trans hf
            refine g_aald (pc := 44) (b := (a 50)) C hP 1 rfl (t0 := 3) rfl (by rw [h_2]; decide) (by rw [h_2, tn_2]; rfl) dX8_lose_44 ?_
            refine g_get (pc := 45) C fg_X8_143 hP 4 rfl rfl dX8_lose_45 ?_
            have hf := Option.some.inj hf
            subst hf
            exact ret_i C hr hlk hP hS dX8_lose_48
          have hf := (if_neg h_2).symm.trans hf
          by_cases h_3 : x1 = (3 : Int32)
          · have hf := (if_pos h_3).symm.trans hf
            refine g_aald (pc := 44) (b := (a 52)) C hP 1 rfl (t0 := 3) rfl (by rw [h_3]; decide) (by rw [h_3, tn_3]; rfl) dX8_lose_44 ?_
            refine g_get (pc := 45) C fg_X8_143 hP 5 rfl rfl dX8_lose_45 ?_
            have hf := Option.some.inj hf
            subst hf
            exact ret_i C hr hlk hP hS dX8_lose_48
          have hf := (if_neg h_3).symm.trans hf
          cases hf
        have hf := (if_neg h_0).symm.trans hf
        by_cases h_1 : x1 = (1 : Int32)
        · have hf := (if_pos h_1).symm.trans hf
          refine g_aald (pc := 34) (b := (a 48)) C hP 1 rfl (t0 := 3) rfl (by rw [h_1]; decide) (by rw [h_1, tn_1]; rfl) dX8_lose_34 ?_
          refine lv_iconst (pc := 35) (v := 1) hx hb dX8_lose_35 ic_1 ?_
          refine g_put (pc := 36) C fg_X8_136 ft_X5_1 hP hD hS 3 rfl (by decide) rfl (Nat.le_of_ble_eq_true rfl) dX8_lose_36 (fun H locs hP hD hS => ?_)
          have hP : va_P D classes (wl_X8_lose cA a x_stale x_finding sheet0_lost sheet0_form sheet0_size (1 : Int32) sheet1_form sheet1_size sheet2_lost sheet2_form sheet2_size sheet3_lost sheet3_form sheet3_size) H := hP
          have hD : va_D (va_A ws0 sz) (wl_X8_lose cA a x_stale x_finding sheet0_lost sheet0_form sheet0_size (1 : Int32) sheet1_form sheet1_size sheet2_lost sheet2_form sheet2_size sheet3_lost sheet3_form sheet3_size) := hD
          refine lv_aload_n (pc := 39) hx hb dX8_lose_39 rfl (lv_at hl 0 rfl) ?_
          refine g_get (pc := 40) C fg_X8_77 hP 0 rfl rfl dX8_lose_40 ?_
          refine lv_iload_n (pc := 43) hx hb dX8_lose_43 rfl (lv_at hl 1 rfl) ?_
          by_cases h_0 : x1 = (0 : Int32)
          · have hf := (if_pos h_0).symm.trans hf
            refine g_aald (pc := 44) (b := (a 46)) C hP 1 rfl (t0 := 3) rfl (by rw [h_0]; decide) (by rw [h_0, tn_0]; rfl) dX8_lose_44 ?_
            refine g_get (pc := 45) C fg_X8_143 hP 2 rfl rfl dX8_lose_45 ?_
            have hf := Option.some.inj hf
            subst hf
            exact ret_i C hr hlk hP hS dX8_lose_48
          have hf := (if_neg h_0).symm.trans hf
          by_cases h_1 : x1 = (1 : Int32)
          · have hf := (if_pos h_1).symm.trans hf
            refine g_aald (pc := 44) (b := (a 48)) C hP 1 rfl (t0 := 3) rfl (by rw [h_1]; decide) (by rw [h_1, tn_1]; rfl) dX8_lose_44 ?_
            refine g_get (pc := 45) C fg_X8_143 hP 3 rfl rfl dX8_lose_45 ?_
            have hf := Option.some.inj hf
            subst hf
            exact ret_i C hr hlk hP hS dX8_lose_48
          have hf := (if_neg h_1).symm.trans hf
          by_cases h_2 : x1 = (2 : Int32)
          · have hf := (if_pos h_2).symm.trans hf
            refine g_aald (pc := 44) (b := (a 50)) C hP 1 rfl (t0 := 3) rfl (by rw [h_2]; decide) (by rw [h_2, tn_2]; rfl) dX8_lose_44 ?_
            refine g_get (pc := 45) C fg_X8_143 hP 4 rfl rfl dX8_lose_45 ?_
            have hf := Option.some.inj hf
            subst hf
            exact ret_i C hr hlk hP hS dX8_lose_48
          have hf := (if_neg h_2).symm.trans hf
          by_cases h_3 : x1 = (3 : Int32)
          · have hf := (if_pos h_3).symm.trans hf
            refine g_aald (pc := 44) (b := (a 52)) C hP 1 rfl (t0 := 3) rfl (by rw [h_3]; decide) (by rw [h_3, tn_3]; rfl) dX8_lose_44 ?_
            refine g_get (pc := 45) C fg_X8_143 hP 5 rfl rfl dX8_lose_45 ?_
            have hf := Option.some.inj hf
            subst hf
            exact ret_i C hr hlk hP hS dX8_lose_48
          have hf := (if_neg h_3).symm.trans hf
          cases hf
        have hf := (if_neg h_1).symm.trans hf
        by_cases h_2 : x1 = (2 : Int32)
        · have hf := (if_pos h_2).symm.trans hf
          refine g_aald (pc := 34) (b := (a 50)) C hP 1 rfl (t0 := 3) rfl (by rw [h_2]; decide) (by rw [h_2, tn_2]; rfl) dX8_lose_34 ?_
          refine lv_iconst (pc := 35) (v := 1) hx hb dX8_lose_35 ic_1 ?_
          refine g_put (pc := 36) C fg_X8_136 ft_X5_1 hP hD hS 4 rfl (by decide) rfl (Nat.le_of_ble_eq_true rfl) dX8_lose_36 (fun H locs hP hD hS => ?_)
          have hP : va_P D classes (wl_X8_lose cA a x_stale x_finding sheet0_lost sheet0_form sheet0_size sheet1_lost sheet1_form sheet1_size (1 : Int32) sheet2_form sheet2_size sheet3_lost sheet3_form sheet3_size) H := hP
          have hD : va_D (va_A ws0 sz) (wl_X8_lose cA a x_stale x_finding sheet0_lost sheet0_form sheet0_size sheet1_lost sheet1_form sheet1_size (1 : Int32) sheet2_form sheet2_size sheet3_lost sheet3_form sheet3_size) := hD
          refine lv_aload_n (pc := 39) hx hb dX8_lose_39 rfl (lv_at hl 0 rfl) ?_
          refine g_get (pc := 40) C fg_X8_77 hP 0 rfl rfl dX8_lose_40 ?_
          refine lv_iload_n (pc := 43) hx hb dX8_lose_43 rfl (lv_at hl 1 rfl) ?_
          by_cases h_0 : x1 = (0 : Int32)
          · have hf := (if_pos h_0).symm.trans hf
            refine g_aald (pc := 44) (b := (a 46)) C hP 1 rfl (t0 := 3) rfl (by rw [h_0]; decide) (by rw [h_0, tn_0]; rfl) dX8_lose_44 ?_
            refine g_get (pc := 45) C fg_X8_143 hP 2 rfl rfl dX8_lose_45 ?_
            have hf := Option.some.inj hf
            subst hf
            exact ret_i C hr hlk hP hS dX8_lose_48
          have hf := (if_neg h_0).symm.trans hf
          by_cases h_1 : x1 = (1 : Int32)
          · have hf := (if_pos h_1).symm.trans hf
            refine g_aald (pc := 44) (b := (a 48)) C hP 1 rfl (t0 := 3) rfl (by rw [h_1]; decide) (by rw [h_1, tn_1]; rfl) dX8_lose_44 ?_
            refine g_get (pc := 45) C fg_X8_143 hP 3 rfl rfl dX8_lose_45 ?_
            have hf := Option.some.inj hf
            subst hf
            exact ret_i C hr hlk hP hS dX8_lose_48
          have hf := (if_neg h_1).symm.trans hf
          by_cases h_2 : x1 = (2 : Int32)
          · have hf := (if_pos h_2).symm.trans hf
            refine g_aald (pc := 44) (b := (a 50)) C hP 1 rfl (t0 := 3) rfl (by rw [h_2]; decide) (by rw [h_2, tn_2]; rfl) dX8_lose_44 ?_
            refine g_get (pc := 45) C fg_X8_143 hP 4 rfl rfl dX8_lose_45 ?_
            have hf := Option.some.inj hf
            subst hf
            exact ret_i C hr hlk hP hS dX8_lose_48
          have hf := (if_neg h_2).symm.trans hf
          by_cases h_3 : x1 = (3 : Int32)
          · have hf := (if_pos h_3).symm.trans hf
            refine g_aald (pc := 44) (b := (a 52)) C hP 1 rfl (t0 := 3) rfl (by rw [h_3]; decide) (by rw [h_3, tn_3]; rfl) dX8_lose_44 ?_
            refine g_get (pc := 45) C fg_X8_143 hP 5 rfl rfl dX8_lose_45 ?_
            have hf := Option.some.inj hf
            subst hf
            exact ret_i C hr hlk hP hS dX8_lose_48
          have hf := (if_neg h_3).symm.trans hf
          cases hf
        have hf := (if_neg h_2).symm.trans hf
        by_cases h_3 : x1 = (3 : Int32)
        · have hf := (if_pos h_3).symm.trans hf
          refine g_aald (pc := 34) (b := (a 52)) C hP 1 rfl (t0 := 3) rfl (by rw [h_3]; decide) (by rw [h_3, tn_3]; rfl) dX8_lose_34 ?_
          refine lv_iconst (pc := 35) (v := 1) hx hb dX8_lose_35 ic_1 ?_
          refine g_put (pc := 36) C fg_X8_136 ft_X5_1 hP hD hS 5 rfl (by decide) rfl (Nat.le_of_ble_eq_true rfl) dX8_lose_36 (fun H locs hP hD hS => ?_)
          have hP : va_P D classes (wl_X8_lose cA a x_stale x_finding sheet0_lost sheet0_form sheet0_size sheet1_lost sheet1_form sheet1_size sheet2_lost sheet2_form sheet2_size (1 : Int32) sheet3_form sheet3_size) H := hP
          have hD : va_D (va_A ws0 sz) (wl_X8_lose cA a x_stale x_finding sheet0_lost sheet0_form sheet0_size sheet1_lost sheet1_form sheet1_size sheet2_lost sheet2_form sheet2_size (1 : Int32) sheet3_form sheet3_size) := hD
          refine lv_aload_n (pc := 39) hx hb dX8_lose_39 rfl (lv_at hl 0 rfl) ?_
          refine g_get (pc := 40) C fg_X8_77 hP 0 rfl rfl dX8_lose_40 ?_
          refine lv_iload_n (pc := 43) hx hb dX8_lose_43 rfl (lv_at hl 1 rfl) ?_
          by_cases h_0 : x1 = (0 : Int32)
          · have hf := (if_pos h_0).symm.trans hf
            refine g_aald (pc := 44) (b := (a 46)) C hP 1 rfl (t0 := 3) rfl (by rw [h_0]; decide) (by rw [h_0, tn_0]; rfl) dX8_lose_44 ?_
            refine g_get (pc := 45) C fg_X8_143 hP 2 rfl rfl dX8_lose_45 ?_
            have hf := Option.some.inj hf
            subst hf
            exact ret_i C hr hlk hP hS dX8_lose_48
          have hf := (if_neg h_0).symm.trans hf
          by_cases h_1 : x1 = (1 : Int32)
          · have hf := (if_pos h_1).symm.trans hf
            refine g_aald (pc := 44) (b := (a 48)) C hP 1 rfl (t0 := 3) rfl (by rw [h_1]; decide) (by rw [h_1, tn_1]; rfl) dX8_lose_44 ?_
            refine g_get (pc := 45) C fg_X8_143 hP 3 rfl rfl dX8_lose_45 ?_
            have hf := Option.some.inj hf
            subst hf
            exact ret_i C hr hlk hP hS dX8_lose_48
          have hf := (if_neg h_1).symm.trans hf
          by_cases h_2 : x1 = (2 : Int32)
          · have hf := (if_pos h_2).symm.trans hf
            refine g_aald (pc := 44) (b := (a 50)) C hP 1 rfl (t0 := 3) rfl (by rw [h_2]; decide) (by rw [h_2, tn_2]; rfl) dX8_lose_44 ?_
            refine g_get (pc := 45) C fg_X8_143 hP 4 rfl rfl dX8_lose_45 ?_
            have hf := Option.some.inj hf
            subst hf
            exact ret_i C hr hlk hP hS dX8_lose_48
          have hf := (if_neg h_2).symm.trans hf
          by_cases h_3 : x1 = (3 : Int32)
          · have hf := (if_pos h_3).symm.trans hf
            refine g_aald (pc := 44) (b := (a 52)) C hP 1 rfl (t0 := 3) rfl (by rw [h_3]; decide) (by rw [h_3, tn_3]; rfl) dX8_lose_44 ?_
            refine g_get (pc := 45) C fg_X8_143 hP 5 rfl rfl dX8_lose_45 ?_
            have hf := Option.some.inj hf
            subst hf
            exact ret_i C hr hlk hP hS dX8_lose_48
          have hf := (if_neg h_3).symm.trans hf
          cases hf
        have hf := (if_neg h_3).symm.trans hf
        cases hf
      · have hf := (if_neg hc).symm.trans hf
        refine lv_aload_n (pc := 23) hx hb dX8_lose_23 rfl (lv_at hl 0 rfl) ?_
        refine lv_iconst (pc := 24) (v := 1) hx hb dX8_lose_24 ic_1 ?_
        obtain ⟨r8, c9, hq, hf⟩ := bind2_some hf
        refine fin2_i (wl_X8_lose cA a x_stale c9 sheet0_lost sheet0_form sheet0_size sheet1_lost sheet1_form sheet1_size sheet2_lost sheet2_form sheet2_size sheet3_lost sheet3_form sheet3_size) (run_V (rest := []) (pc := 25) (As := [.int (1 : Int32)]) C mf_X8_139 (c_X8_found l D cA a x_stale x_finding (1 : Int32) (r8, c9) hq H.size) rfl rfl ⟨(Nat.le_of_ble_eq_true rfl), (Nat.le_of_ble_eq_true rfl)⟩ (preV_of C hP hD [0] rfl (pl_nd pv_3) 0 rfl rfl rfl) rfl hl.1 rfl (Nat.le_of_ble_eq_true rfl) dX8_lose_25 ⟨Nat.zero_le _, Nat.zero_le _⟩) hP hD hS hA [0] [1, 2, 3, 4, 5] rfl rfl rfl rfl pv_3 (fun H locs hP hS => ?_)
        have hD : va_D (va_A ws0 sz) (wl_X8_lose cA a x_stale c9 sheet0_lost sheet0_form sheet0_size sheet1_lost sheet1_form sheet1_size sheet2_lost sheet2_form sheet2_size sheet3_lost sheet3_form sheet3_size) := vd_a hD rfl
        have hf := Option.some.inj hf
        subst hf
        exact ret_i C hr hlk hP hS dX8_lose_28
    have hf := (if_neg h_3).symm.trans hf
    cases hf
  · have hf := (if_pos hc).symm.trans hf
    refine lv_bipush (pc := 8) (v := (-2)) hx hb dX8_lose_8 bp_m2 ?_
    have hf := Option.some.inj hf
    subst hf
    exact ret_i C hr hlk hP hS dX8_lose_10
set_option maxRecDepth 100000 in
theorem c_X8_lose (l : Launch) (D : va_G) (cA : Nat → ClassId) (a : Nat → Nat) (x_stale : Int32) (x_finding : Int32) (sheet0_lost : Int32) (sheet0_form : Int32) (sheet0_size : Int32) (sheet1_lost : Int32) (sheet1_form : Int32) (sheet1_size : Int32) (sheet2_lost : Int32) (sheet2_form : Int32) (sheet2_size : Int32) (sheet3_lost : Int32) (sheet3_form : Int32) (sheet3_size : Int32) (x1 : Int32) (r : Int32 × Int32 × Int32 × Int32 × Int32 × Int32) (hf : f_X8_lose x_finding sheet0_lost sheet0_size sheet1_lost sheet1_size sheet2_lost sheet2_size sheet3_lost sheet3_size x1 = some r) (sz : Nat) : Met l yX8_lose (Cond.code yX8_lose cX8_lose 2 (some .int) :: lw_good) rm_X8_lose (PreX D cA [.ref (a 0), .int x1] sz (wl_X8_lose cA a x_stale x_finding sheet0_lost sheet0_form sheet0_size sheet1_lost sheet1_form sheet1_size sheet2_lost sheet2_form sheet2_size sheet3_lost sheet3_form sheet3_size)) (PostI D r.1 (wl_X8_lose cA a x_stale x_finding sheet0_lost sheet0_form sheet0_size sheet1_lost sheet1_form sheet1_size sheet2_lost sheet2_form sheet2_size sheet3_lost sheet3_form sheet3_size) (wl_X8_lose cA a x_stale (r.2.1) (r.2.2.1) sheet0_form sheet0_size (r.2.2.2.1) sheet1_form sheet1_size (r.2.2.2.2.1) sheet2_form sheet2_size (r.2.2.2.2.2) sheet3_form sheet3_size) sz) 0 0 (va_A (wl_X8_lose cA a x_stale x_finding sheet0_lost sheet0_form sheet0_size sheet1_lost sheet1_form sheet1_size sheet2_lost sheet2_form sheet2_size sheet3_lost sheet3_form sheet3_size) sz) :=
  met_of (by decide) (Nat.le_of_ble_eq_true rfl) (fun p e s m args below meth c C hr hlk hA => k_X8_lose C hr hlk hA a x_stale x_finding sheet0_lost sheet0_form sheet0_size sheet1_lost sheet1_form sheet1_size sheet2_lost sheet2_form sheet2_size sheet3_lost sheet3_form sheet3_size x1 r hf)
end

abbrev wl_X8_lay (cA : Nat → ClassId) (a : Nat → Nat) (x_stale : Int32) (x_finding : Int32) (sheet0_lost : Int32) (sheet0_form : Int32) (sheet0_size : Int32) (sheet0_items : Nat → Int32) (sheet1_lost : Int32) (sheet1_form : Int32) (sheet1_size : Int32) (sheet1_items : Nat → Int32) (sheet2_lost : Int32) (sheet2_form : Int32) (sheet2_size : Int32) (sheet2_items : Nat → Int32) (sheet3_lost : Int32) (sheet3_form : Int32) (sheet3_size : Int32) (sheet3_items : Nat → Int32) : va_W := [((a 0), .inr (8, [.ref (a 1), .ref (a 6), .ref (a 12), .ref (a 15), .ref (a 19), .ref (a 23), .ref (a 27), .ref (a 34), .ref (a 41), .ref (a 42), .ref (a 44), .ref (a 45), .int x_stale, .int x_finding])), ((a 45), .inl (cA 3, 4, .inr (.inr (.inr (.inr (fun k : Nat => if k = 0 then some (a 46) else if k = 1 then some (a 48) else if k = 2 then some (a 50) else some (a 52))))))), ((a 46), .inr (5, [.ref (a 47), .int sheet0_lost, .int sheet0_form, .int sheet0_size])), ((a 47), .inl (cA 0, 60, .inl sheet0_items)), ((a 48), .inr (5, [.ref (a 49), .int sheet1_lost, .int sheet1_form, .int sheet1_size])), ((a 49), .inl (cA 0, 60, .inl sheet1_items)), ((a 50), .inr (5, [.ref (a 51), .int sheet2_lost, .int sheet2_form, .int sheet2_size])), ((a 51), .inl (cA 0, 60, .inl sheet2_items)), ((a 52), .inr (5, [.ref (a 53), .int sheet3_lost, .int sheet3_form, .int sheet3_size])), ((a 53), .inl (cA 0, 60, .inl sheet3_items))]
abbrev rm_X8_lay : Room := { frames := 1, cells := 0, slots := 0, locals := 22 }
section
variable {p : Program} {l : Launch} {e : Env} {s : State} {m : MethodId} {args : Array Value} {below : List Frame} {meth : Method} {c : Code} {D : va_G} {cA : Nat → ClassId} {ws0 : va_W} {sz : Nat} {A : Nat → Prop} {Q : State → Prop}
def f_X8_lay (x_finding : Int32) (sheet0_lost : Int32) (sheet0_form : Int32) (sheet0_size : Int32) (sheet0_items : Nat → Int32) (sheet1_lost : Int32) (sheet1_form : Int32) (sheet1_size : Int32) (sheet1_items : Nat → Int32) (sheet2_lost : Int32) (sheet2_form : Int32) (sheet2_size : Int32) (sheet2_items : Nat → Int32) (sheet3_lost : Int32) (sheet3_form : Int32) (sheet3_size : Int32) (sheet3_items : Nat → Int32) (x1 : Int32) (x2 : Int32) (x3 : Int32) (x4 : Int32) : Option (Int32 × Int32 × (Nat → Int32) × (Nat → Int32) × (Nat → Int32) × (Nat → Int32)) :=
  bind1 (f_X8_isUpTo x1 (3 : Int32)) (fun r1 => if r1 = 0 then (some ((-2 : Int32), x_finding, sheet0_items, sheet1_items, sheet2_items, sheet3_items)) else (bind1 (f_X8_isUpTo x2 (2 : Int32)) (fun r2 => if r2 = 0 then (some ((-2 : Int32), x_finding, sheet0_items, sheet1_items, sheet2_items, sheet3_items)) else (if x1 = (0 : Int32) then (bind1 (f_X5_wrongWith sheet0_lost sheet0_form sheet0_size x2 x3) (fun r3 => if r3 = 0 then (if x1 = (0 : Int32) then (bind1 (f_X5_keep sheet0_form sheet0_items x3 x4) (fun c4 => some ((1 : Int32), x_finding, c4, sheet1_items, sheet2_items, sheet3_items))) else (if x1 = (1 : Int32) then (bind1 (f_X5_keep sheet1_form sheet1_items x3 x4) (fun c5 => some ((1 : Int32), x_finding, sheet0_items, c5, sheet2_items, sheet3_items))) else (if x1 = (2 : Int32) then (bind1 (f_X5_keep sheet2_form sheet2_items x3 x4) (fun c6 => some ((1 : Int32), x_finding, sheet0_items, sheet1_items, c6, sheet3_items))) else (if x1 = (3 : Int32) then (bind1 (f_X5_keep sheet3_form sheet3_items x3 x4) (fun c7 => some ((1 : Int32), x_finding, sheet0_items, sheet1_items, sheet2_items, c7))) else (none))))) else (bind2 (f_X8_found x_finding r3) (fun r8 c9 => some (r8, c9, sheet0_items, sheet1_items, sheet2_items, sheet3_items))))) else (if x1 = (1 : Int32) then (bind1 (f_X5_wrongWith sheet1_lost sheet1_form sheet1_size x2 x3) (fun r10 => if r10 = 0 then (if x1 = (0 : Int32) then (bind1 (f_X5_keep sheet0_form sheet0_items x3 x4) (fun c11 => some ((1 : Int32), x_finding, c11, sheet1_items, sheet2_items, sheet3_items))) else (if x1 = (1 : Int32) then (bind1 (f_X5_keep sheet1_form sheet1_items x3 x4) (fun c12 => some ((1 : Int32), x_finding, sheet0_items, c12, sheet2_items, sheet3_items))) else (if x1 = (2 : Int32) then (bind1 (f_X5_keep sheet2_form sheet2_items x3 x4) (fun c13 => some ((1 : Int32), x_finding, sheet0_items, sheet1_items, c13, sheet3_items))) else (if x1 = (3 : Int32) then (bind1 (f_X5_keep sheet3_form sheet3_items x3 x4) (fun c14 => some ((1 : Int32), x_finding, sheet0_items, sheet1_items, sheet2_items, c14))) else (none))))) else (bind2 (f_X8_found x_finding r10) (fun r15 c16 => some (r15, c16, sheet0_items, sheet1_items, sheet2_items, sheet3_items))))) else (if x1 = (2 : Int32) then (bind1 (f_X5_wrongWith sheet2_lost sheet2_form sheet2_size x2 x3) (fun r17 => if r17 = 0 then (if x1 = (0 : Int32) then (bind1 (f_X5_keep sheet0_form sheet0_items x3 x4) (fun c18 => some ((1 : Int32), x_finding, c18, sheet1_items, sheet2_items, sheet3_items))) else (if x1 = (1 : Int32) then (bind1 (f_X5_keep sheet1_form sheet1_items x3 x4) (fun c19 => some ((1 : Int32), x_finding, sheet0_items, c19, sheet2_items, sheet3_items))) else (if x1 = (2 : Int32) then (bind1 (f_X5_keep sheet2_form sheet2_items x3 x4) (fun c20 => some ((1 : Int32), x_finding, sheet0_items, sheet1_items, c20, sheet3_items))) else (if x1 = (3 : Int32) then (bind1 (f_X5_keep sheet3_form sheet3_items x3 x4) (fun c21 => some ((1 : Int32), x_finding, sheet0_items, sheet1_items, sheet2_items, c21))) else (none))))) else (bind2 (f_X8_found x_finding r17) (fun r22 c23 => some (r22, c23, sheet0_items, sheet1_items, sheet2_items, sheet3_items))))) else (if x1 = (3 : Int32) then (bind1 (f_X5_wrongWith sheet3_lost sheet3_form sheet3_size x2 x3) (fun r24 => if r24 = 0 then (if x1 = (0 : Int32) then (bind1 (f_X5_keep sheet0_form sheet0_items x3 x4) (fun c25 => some ((1 : Int32), x_finding, c25, sheet1_items, sheet2_items, sheet3_items))) else (if x1 = (1 : Int32) then (bind1 (f_X5_keep sheet1_form sheet1_items x3 x4) (fun c26 => some ((1 : Int32), x_finding, sheet0_items, c26, sheet2_items, sheet3_items))) else (if x1 = (2 : Int32) then (bind1 (f_X5_keep sheet2_form sheet2_items x3 x4) (fun c27 => some ((1 : Int32), x_finding, sheet0_items, sheet1_items, c27, sheet3_items))) else (if x1 = (3 : Int32) then (bind1 (f_X5_keep sheet3_form sheet3_items x3 x4) (fun c28 => some ((1 : Int32), x_finding, sheet0_items, sheet1_items, sheet2_items, c28))) else (none))))) else (bind2 (f_X8_found x_finding r24) (fun r29 c30 => some (r29, c30, sheet0_items, sheet1_items, sheet2_items, sheet3_items))))) else (none))))))))
set_option maxHeartbeats 4000000 in
set_option maxRecDepth 100000 in
theorem k_X8_lay (C : Cx RX8 cX8_lay 6 D cA p s m args c) (hr : meth.sig.returnType = (some .int)) (hlk : meth.locks = false) (hA : ∀ q, s.heap.size ≤ q → va_A ws0 sz q) (a : Nat → Nat) (x_stale : Int32) (x_finding : Int32) (sheet0_lost : Int32) (sheet0_form : Int32) (sheet0_size : Int32) (sheet0_items : Nat → Int32) (sheet1_lost : Int32) (sheet1_form : Int32) (sheet1_size : Int32) (sheet1_items : Nat → Int32) (sheet2_lost : Int32) (sheet2_form : Int32) (sheet2_size : Int32) (sheet2_items : Nat → Int32) (sheet3_lost : Int32) (sheet3_form : Int32) (sheet3_size : Int32) (sheet3_items : Nat → Int32) (x1 : Int32) (x2 : Int32) (x3 : Int32) (x4 : Int32) (r : Int32 × Int32 × (Nat → Int32) × (Nat → Int32) × (Nat → Int32) × (Nat → Int32)) (hf : f_X8_lay x_finding sheet0_lost sheet0_form sheet0_size sheet0_items sheet1_lost sheet1_form sheet1_size sheet1_items sheet2_lost sheet2_form sheet2_size sheet2_items sheet3_lost sheet3_form sheet3_size sheet3_items x1 x2 x3 x4 = some r) : At p l e rm_X8_lay s m args below meth c D (va_A ws0 sz) 0 0 (MQ below (PostI D r.1 ws0 (wl_X8_lay cA a x_stale (r.2.1) sheet0_lost sheet0_form sheet0_size (r.2.2.1) sheet1_lost sheet1_form sheet1_size (r.2.2.2.1) sheet2_lost sheet2_form sheet2_size (r.2.2.2.2.1) sheet3_lost sheet3_form sheet3_size (r.2.2.2.2.2)) sz) args s 0 0 (va_A ws0 sz)) 6 0 (wl_X8_lay cA a x_stale x_finding sheet0_lost sheet0_form sheet0_size sheet0_items sheet1_lost sheet1_form sheet1_size sheet1_items sheet2_lost sheet2_form sheet2_size sheet2_items sheet3_lost sheet3_form sheet3_size sheet3_items) [(0, .ref (a 0)), (1, .int x1), (2, .int x2), (3, .int x3), (4, .int x4)] [] := by
  intro H locs ls hP hD hS hl
  have hx := C.1
  have hb := C.2.1
  have hown := C.2.2.2.1
  have hts := C.2.2.2.2.1
  unfold f_X8_lay at hf
  refine lv_iload_n (pc := 0) hx hb dX8_lay_0 rfl (lv_at hl 1 rfl) ?_
  refine lv_iconst (pc := 1) (v := 3) hx hb dX8_lay_1 ic_3 ?_
  obtain ⟨r1, hq, hf⟩ := bind1_some hf
  refine fin2_i (wl_X8_lay cA a x_stale x_finding sheet0_lost sheet0_form sheet0_size sheet0_items sheet1_lost sheet1_form sheet1_size sheet1_items sheet2_lost sheet2_form sheet2_size sheet2_items sheet3_lost sheet3_form sheet3_size sheet3_items) (run_S (rest := []) (pc := 2) (As := [.int x1, .int (3 : Int32)]) C mf_X8_90 (c_X8_isUpTo l D cA  x1 (3 : Int32) r1 hq H.size) rfl rfl ⟨(Nat.le_of_ble_eq_true rfl), (Nat.le_of_ble_eq_true rfl)⟩ (preS_of C hP hD [] rfl (pl_nd pv_79)) rfl hl.1 rfl (Nat.le_of_ble_eq_true rfl) dX8_lay_2 ⟨Nat.zero_le _, Nat.zero_le _⟩) hP hD hS hA [] [0, 1, 2, 3, 4, 5, 6, 7, 8, 9] rfl rfl rfl rfl pv_79 (fun H locs hP hS => ?_)
  refine lv_if_eq (pc := 5) (tgt := 16) hx hb dX8_lay_5 (by decide) (fun hc => ?_) (fun hc => ?_)
  · have hf := (if_pos hc).symm.trans hf
    refine lv_bipush (pc := 16) (v := (-2)) hx hb dX8_lay_16 bp_m2 ?_
    have hf := Option.some.inj hf
    subst hf
    exact ret_i C hr hlk hP hS dX8_lay_18
  · have hf := (if_neg hc).symm.trans hf
    refine lv_iload_n (pc := 8) hx hb dX8_lay_8 rfl (lv_at hl 2 rfl) ?_
    refine lv_iconst (pc := 9) (v := 2) hx hb dX8_lay_9 ic_2 ?_
    obtain ⟨r2, hq, hf⟩ := bind1_some hf
    refine fin2_i (wl_X8_lay cA a x_stale x_finding sheet0_lost sheet0_form sheet0_size sheet0_items sheet1_lost sheet1_form sheet1_size sheet1_items sheet2_lost sheet2_form sheet2_size sheet2_items sheet3_lost sheet3_form sheet3_size sheet3_items) (run_S (rest := []) (pc := 10) (As := [.int x2, .int (2 : Int32)]) C mf_X8_90 (c_X8_isUpTo l D cA  x2 (2 : Int32) r2 hq H.size) rfl rfl ⟨(Nat.le_of_ble_eq_true rfl), (Nat.le_of_ble_eq_true rfl)⟩ (preS_of C hP hD [] rfl (pl_nd pv_79)) rfl hl.1 rfl (Nat.le_of_ble_eq_true rfl) dX8_lay_10 ⟨Nat.zero_le _, Nat.zero_le _⟩) hP hD hS hA [] [0, 1, 2, 3, 4, 5, 6, 7, 8, 9] rfl rfl rfl rfl pv_79 (fun H locs hP hS => ?_)
    refine lv_if_ne (pc := 13) (tgt := 19) hx hb dX8_lay_13 (by decide) (fun hc => ?_) (fun hc => ?_)
    · have hf := (if_neg hc).symm.trans hf
      refine lv_aload_n (pc := 19) hx hb dX8_lay_19 rfl (lv_at hl 0 rfl) ?_
      refine g_get (pc := 20) C fg_X8_77 hP 0 rfl rfl dX8_lay_20 ?_
      refine lv_iload_n (pc := 23) hx hb dX8_lay_23 rfl (lv_at hl 1 rfl) ?_
      by_cases h_0 : x1 = (0 : Int32)
      · have hf := (if_pos h_0).symm.trans hf
        refine g_aald (pc := 24) (b := (a 46)) C hP 1 rfl (t0 := 3) rfl (by rw [h_0]; decide) (by rw [h_0, tn_0]; rfl) dX8_lay_24 ?_
        refine lv_iload_n (pc := 25) hx hb dX8_lay_25 rfl (lv_at hl 2 rfl) ?_
        refine lv_iload_n (pc := 26) hx hb dX8_lay_26 rfl (lv_at hl 3 rfl) ?_
        obtain ⟨r3, hq, hf⟩ := bind1_some hf
        refine fin2_i (wl_X8_lay cA a x_stale x_finding sheet0_lost sheet0_form sheet0_size sheet0_items sheet1_lost sheet1_form sheet1_size sheet1_items sheet2_lost sheet2_form sheet2_size sheet2_items sheet3_lost sheet3_form sheet3_size sheet3_items) (run_V (rest := []) (pc := 27) (As := [.int x2, .int x3]) C mf_X8_315 (c_X5_wrongWith l D cA (a 46) (a 47) sheet0_lost sheet0_form sheet0_size x2 x3 r3 hq H.size) rfl rfl ⟨(Nat.le_of_ble_eq_true rfl), (Nat.le_of_ble_eq_true rfl)⟩ (preV_of C hP hD [2] rfl (pl_nd pv_85) 0 rfl rfl rfl) rfl hl.1 rfl (Nat.le_of_ble_eq_true rfl) dX8_lay_27 ⟨Nat.zero_le _, Nat.zero_le _⟩) hP hD hS hA [2] [0, 1, 3, 4, 5, 6, 7, 8, 9] rfl rfl rfl rfl pv_85 (fun H locs hP hS => ?_)
        refine lv_istore (pc := 30) (lv' := [(5, .int r3), (0, .ref (a 0)), (1, .int x1), (2, .int x2), (3, .int x3), (4, .int x4)]) hx hb dX8_lay_30 hl (Nat.le_of_ble_eq_true rfl) rfl (fun ls hl => ?_)
        refine lv_iload (pc := 32) hx hb dX8_lay_32 (lv_at hl 0 rfl) ?_
        refine lv_if_eq (pc := 34) (tgt := 44) hx hb dX8_lay_34 (by decide) (fun hc => ?_) (fun hc => ?_)
        · have hf := (if_pos hc).symm.trans hf
          refine lv_aload_n (pc := 44) hx hb dX8_lay_44 rfl (lv_at hl 1 rfl) ?_
          refine g_get (pc := 45) C fg_X8_77 hP 0 rfl rfl dX8_lay_45 ?_
          refine lv_iload_n (pc := 48) hx hb dX8_lay_48 rfl (lv_at hl 2 rfl) ?_
          by_cases h_0 : x1 = (0 : Int32)
          · have hf := (if_pos h_0).symm.trans hf
            refine g_aald (pc := 49) (b := (a 46)) C hP 1 rfl (t0 := 3) rfl (by rw [h_0]; decide) (by rw [h_0, tn_0]; rfl) dX8_lay_49 ?_
            refine lv_iload_n (pc := 50) hx hb dX8_lay_50 rfl (lv_at hl 4 rfl) ?_
            refine lv_iload (pc := 51) hx hb dX8_lay_51 (lv_at hl 5 rfl) ?_
            obtain ⟨c4, hq, hf⟩ := bind1_some hf
            refine fin2_v (wl_X8_lay cA a x_stale x_finding sheet0_lost sheet0_form sheet0_size c4 sheet1_lost sheet1_form sheet1_size sheet1_items sheet2_lost sheet2_form sheet2_size sheet2_items sheet3_lost sheet3_form sheet3_size sheet3_items) (run_V (rest := []) (pc := 53) (As := [.int x3, .int x4]) C mf_X8_318 (c_X5_keep l D cA (a 46) (a 47) sheet0_lost sheet0_form sheet0_size sheet0_items x3 x4 c4 hq H.size) rfl rfl ⟨(Nat.le_of_ble_eq_true rfl), (Nat.le_of_ble_eq_true rfl)⟩ (preV_of C hP hD [2, 3] rfl (pl_nd pv_80) 0 rfl rfl rfl) rfl hl.1 rfl (Nat.le_of_ble_eq_true rfl) dX8_lay_53 ⟨Nat.zero_le _, Nat.zero_le _⟩) hP hD hS hA [2, 3] [0, 1, 4, 5, 6, 7, 8, 9] rfl rfl rfl rfl pv_80 (fun H locs hP hS => ?_)
            have hD : va_D (va_A ws0 sz) (wl_X8_lay cA a x_stale x_finding sheet0_lost sheet0_form sheet0_size c4 sheet1_lost sheet1_form sheet1_size sheet1_items sheet2_lost sheet2_form sheet2_size sheet2_items sheet3_lost sheet3_form sheet3_size sheet3_items) := vd_a hD rfl
            refine lv_iconst (pc := 56) (v := 1) hx hb dX8_lay_56 ic_1 ?_
            have hf := Option.some.inj hf
            subst hf
            exact ret_i C hr hlk hP hS dX8_lay_57
          have hf := (if_neg h_0).symm.trans hf
          by_cases h_1 : x1 = (1 : Int32)
          · have hf := (if_pos h_1).symm.trans hf
            refine g_aald (pc := 49) (b := (a 48)) C hP 1 rfl (t0 := 3) rfl (by rw [h_1]; decide) (by rw [h_1, tn_1]; rfl) dX8_lay_49 ?_
            refine lv_iload_n (pc := 50) hx hb dX8_lay_50 rfl (lv_at hl 4 rfl) ?_
            refine lv_iload (pc := 51) hx hb dX8_lay_51 (lv_at hl 5 rfl) ?_
            obtain ⟨c5, hq, hf⟩ := bind1_some hf
            refine fin2_v (wl_X8_lay cA a x_stale x_finding sheet0_lost sheet0_form sheet0_size sheet0_items sheet1_lost sheet1_form sheet1_size c5 sheet2_lost sheet2_form sheet2_size sheet2_items sheet3_lost sheet3_form sheet3_size sheet3_items) (run_V (rest := []) (pc := 53) (As := [.int x3, .int x4]) C mf_X8_318 (c_X5_keep l D cA (a 48) (a 49) sheet1_lost sheet1_form sheet1_size sheet1_items x3 x4 c5 hq H.size) rfl rfl ⟨(Nat.le_of_ble_eq_true rfl), (Nat.le_of_ble_eq_true rfl)⟩ (preV_of C hP hD [4, 5] rfl (pl_nd pv_81) 0 rfl rfl rfl) rfl hl.1 rfl (Nat.le_of_ble_eq_true rfl) dX8_lay_53 ⟨Nat.zero_le _, Nat.zero_le _⟩) hP hD hS hA [4, 5] [0, 1, 2, 3, 6, 7, 8, 9] rfl rfl rfl rfl pv_81 (fun H locs hP hS => ?_)
            have hD : va_D (va_A ws0 sz) (wl_X8_lay cA a x_stale x_finding sheet0_lost sheet0_form sheet0_size sheet0_items sheet1_lost sheet1_form sheet1_size c5 sheet2_lost sheet2_form sheet2_size sheet2_items sheet3_lost sheet3_form sheet3_size sheet3_items) := vd_a hD rfl
            refine lv_iconst (pc := 56) (v := 1) hx hb dX8_lay_56 ic_1 ?_
            have hf := Option.some.inj hf
            subst hf
            exact ret_i C hr hlk hP hS dX8_lay_57
          have hf := (if_neg h_1).symm.trans hf
          by_cases h_2 : x1 = (2 : Int32)
          · have hf := (if_pos h_2).symm.trans hf
            refine g_aald (pc := 49) (b := (a 50)) C hP 1 rfl (t0 := 3) rfl (by rw [h_2]; decide) (by rw [h_2, tn_2]; rfl) dX8_lay_49 ?_
            refine lv_iload_n (pc := 50) hx hb dX8_lay_50 rfl (lv_at hl 4 rfl) ?_
            refine lv_iload (pc := 51) hx hb dX8_lay_51 (lv_at hl 5 rfl) ?_
            obtain ⟨c6, hq, hf⟩ := bind1_some hf
            refine fin2_v (wl_X8_lay cA a x_stale x_finding sheet0_lost sheet0_form sheet0_size sheet0_items sheet1_lost sheet1_form sheet1_size sheet1_items sheet2_lost sheet2_form sheet2_size c6 sheet3_lost sheet3_form sheet3_size sheet3_items) (run_V (rest := []) (pc := 53) (As := [.int x3, .int x4]) C mf_X8_318 (c_X5_keep l D cA (a 50) (a 51) sheet2_lost sheet2_form sheet2_size sheet2_items x3 x4 c6 hq H.size) rfl rfl ⟨(Nat.le_of_ble_eq_true rfl), (Nat.le_of_ble_eq_true rfl)⟩ (preV_of C hP hD [6, 7] rfl (pl_nd pv_82) 0 rfl rfl rfl) rfl hl.1 rfl (Nat.le_of_ble_eq_true rfl) dX8_lay_53 ⟨Nat.zero_le _, Nat.zero_le _⟩) hP hD hS hA [6, 7] [0, 1, 2, 3, 4, 5, 8, 9] rfl rfl rfl rfl pv_82 (fun H locs hP hS => ?_)
            have hD : va_D (va_A ws0 sz) (wl_X8_lay cA a x_stale x_finding sheet0_lost sheet0_form sheet0_size sheet0_items sheet1_lost sheet1_form sheet1_size sheet1_items sheet2_lost sheet2_form sheet2_size c6 sheet3_lost sheet3_form sheet3_size sheet3_items) := vd_a hD rfl
            refine lv_iconst (pc := 56) (v := 1) hx hb dX8_lay_56 ic_1 ?_
            have hf := Option.some.inj hf
            subst hf
            exact ret_i C hr hlk hP hS dX8_lay_57
          have hf := (if_neg h_2).symm.trans hf
          by_cases h_3 : x1 = (3 : Int32)
          · have hf := (if_pos h_3).symm.trans hf
            refine g_aald (pc := 49) (b := (a 52)) C hP 1 rfl (t0 := 3) rfl (by rw [h_3]; decide) (by rw [h_3, tn_3]; rfl) dX8_lay_49 ?_
            refine lv_iload_n (pc := 50) hx hb dX8_lay_50 rfl (lv_at hl 4 rfl) ?_
            refine lv_iload (pc := 51) hx hb dX8_lay_51 (lv_at hl 5 rfl) ?_
            obtain ⟨c7, hq, hf⟩ := bind1_some hf
            refine fin2_v (wl_X8_lay cA a x_stale x_finding sheet0_lost sheet0_form sheet0_size sheet0_items sheet1_lost sheet1_form sheet1_size sheet1_items sheet2_lost sheet2_form sheet2_size sheet2_items sheet3_lost sheet3_form sheet3_size c7) (run_V (rest := []) (pc := 53) (As := [.int x3, .int x4]) C mf_X8_318 (c_X5_keep l D cA (a 52) (a 53) sheet3_lost sheet3_form sheet3_size sheet3_items x3 x4 c7 hq H.size) rfl rfl ⟨(Nat.le_of_ble_eq_true rfl), (Nat.le_of_ble_eq_true rfl)⟩ (preV_of C hP hD [8, 9] rfl (pl_nd pv_83) 0 rfl rfl rfl) rfl hl.1 rfl (Nat.le_of_ble_eq_true rfl) dX8_lay_53 ⟨Nat.zero_le _, Nat.zero_le _⟩) hP hD hS hA [8, 9] [0, 1, 2, 3, 4, 5, 6, 7] rfl rfl rfl rfl pv_83 (fun H locs hP hS => ?_)
            have hD : va_D (va_A ws0 sz) (wl_X8_lay cA a x_stale x_finding sheet0_lost sheet0_form sheet0_size sheet0_items sheet1_lost sheet1_form sheet1_size sheet1_items sheet2_lost sheet2_form sheet2_size sheet2_items sheet3_lost sheet3_form sheet3_size c7) := vd_a hD rfl
            refine lv_iconst (pc := 56) (v := 1) hx hb dX8_lay_56 ic_1 ?_
            have hf := Option.some.inj hf
            subst hf
            exact ret_i C hr hlk hP hS dX8_lay_57
          have hf := (if_neg h_3).symm.trans hf
          cases hf
        · have hf := (if_neg hc).symm.trans hf
          refine lv_aload_n (pc := 37) hx hb dX8_lay_37 rfl (lv_at hl 1 rfl) ?_
          refine lv_iload (pc := 38) hx hb dX8_lay_38 (lv_at hl 0 rfl) ?_
          obtain ⟨r8, c9, hq, hf⟩ := bind2_some hf
          refine fin2_i (wl_X8_lay cA a x_stale c9 sheet0_lost sheet0_form sheet0_size sheet0_items sheet1_lost sheet1_form sheet1_size sheet1_items sheet2_lost sheet2_form sheet2_size sheet2_items sheet3_lost sheet3_form sheet3_size sheet3_items) (run_V (rest := []) (pc := 40) (As := [.int r3]) C mf_X8_139 (c_X8_found l D cA a x_stale x_finding r3 (r8, c9) hq H.size) rfl rfl ⟨(Nat.le_of_ble_eq_true rfl), (Nat.le_of_ble_eq_true rfl)⟩ (preV_of C hP hD [0] rfl (pl_nd pv_84) 0 rfl rfl rfl) rfl hl.1 rfl (Nat.le_of_ble_eq_true rfl) dX8_lay_40 ⟨Nat.zero_le _, Nat.zero_le _⟩) hP hD hS hA [0] [1, 2, 3, 4, 5, 6, 7, 8, 9] rfl rfl rfl rfl pv_84 (fun H locs hP hS => ?_)
          have hD : va_D (va_A ws0 sz) (wl_X8_lay cA a x_stale c9 sheet0_lost sheet0_form sheet0_size sheet0_items sheet1_lost sheet1_form sheet1_size sheet1_items sheet2_lost sheet2_form sheet2_size sheet2_items sheet3_lost sheet3_form sheet3_size sheet3_items) := vd_a hD rfl
          have hf := Option.some.inj hf
          subst hf
          exact ret_i C hr hlk hP hS dX8_lay_43
      have hf := (if_neg h_0).symm.trans hf
      by_cases h_1 : x1 = (1 : Int32)
      · have hf := (if_pos h_1).symm.trans hf
        refine g_aald (pc := 24) (b := (a 48)) C hP 1 rfl (t0 := 3) rfl (by rw [h_1]; decide) (by rw [h_1, tn_1]; rfl) dX8_lay_24 ?_
        refine lv_iload_n (pc := 25) hx hb dX8_lay_25 rfl (lv_at hl 2 rfl) ?_
        refine lv_iload_n (pc := 26) hx hb dX8_lay_26 rfl (lv_at hl 3 rfl) ?_
        obtain ⟨r10, hq, hf⟩ := bind1_some hf
        refine fin2_i (wl_X8_lay cA a x_stale x_finding sheet0_lost sheet0_form sheet0_size sheet0_items sheet1_lost sheet1_form sheet1_size sheet1_items sheet2_lost sheet2_form sheet2_size sheet2_items sheet3_lost sheet3_form sheet3_size sheet3_items) (run_V (rest := []) (pc := 27) (As := [.int x2, .int x3]) C mf_X8_315 (c_X5_wrongWith l D cA (a 48) (a 49) sheet1_lost sheet1_form sheet1_size x2 x3 r10 hq H.size) rfl rfl ⟨(Nat.le_of_ble_eq_true rfl), (Nat.le_of_ble_eq_true rfl)⟩ (preV_of C hP hD [4] rfl (pl_nd pv_86) 0 rfl rfl rfl) rfl hl.1 rfl (Nat.le_of_ble_eq_true rfl) dX8_lay_27 ⟨Nat.zero_le _, Nat.zero_le _⟩) hP hD hS hA [4] [0, 1, 2, 3, 5, 6, 7, 8, 9] rfl rfl rfl rfl pv_86 (fun H locs hP hS => ?_)
        refine lv_istore (pc := 30) (lv' := [(5, .int r10), (0, .ref (a 0)), (1, .int x1), (2, .int x2), (3, .int x3), (4, .int x4)]) hx hb dX8_lay_30 hl (Nat.le_of_ble_eq_true rfl) rfl (fun ls hl => ?_)
        refine lv_iload (pc := 32) hx hb dX8_lay_32 (lv_at hl 0 rfl) ?_
        refine lv_if_eq (pc := 34) (tgt := 44) hx hb dX8_lay_34 (by decide) (fun hc => ?_) (fun hc => ?_)
        · have hf := (if_pos hc).symm.trans hf
          refine lv_aload_n (pc := 44) hx hb dX8_lay_44 rfl (lv_at hl 1 rfl) ?_
          refine g_get (pc := 45) C fg_X8_77 hP 0 rfl rfl dX8_lay_45 ?_
          refine lv_iload_n (pc := 48) hx hb dX8_lay_48 rfl (lv_at hl 2 rfl) ?_
          by_cases h_0 : x1 = (0 : Int32)
          · have hf := (if_pos h_0).symm.trans hf
            refine g_aald (pc := 49) (b := (a 46)) C hP 1 rfl (t0 := 3) rfl (by rw [h_0]; decide) (by rw [h_0, tn_0]; rfl) dX8_lay_49 ?_
            refine lv_iload_n (pc := 50) hx hb dX8_lay_50 rfl (lv_at hl 4 rfl) ?_
            refine lv_iload (pc := 51) hx hb dX8_lay_51 (lv_at hl 5 rfl) ?_
            obtain ⟨c11, hq, hf⟩ := bind1_some hf
            refine fin2_v (wl_X8_lay cA a x_stale x_finding sheet0_lost sheet0_form sheet0_size c11 sheet1_lost sheet1_form sheet1_size sheet1_items sheet2_lost sheet2_form sheet2_size sheet2_items sheet3_lost sheet3_form sheet3_size sheet3_items) (run_V (rest := []) (pc := 53) (As := [.int x3, .int x4]) C mf_X8_318 (c_X5_keep l D cA (a 46) (a 47) sheet0_lost sheet0_form sheet0_size sheet0_items x3 x4 c11 hq H.size) rfl rfl ⟨(Nat.le_of_ble_eq_true rfl), (Nat.le_of_ble_eq_true rfl)⟩ (preV_of C hP hD [2, 3] rfl (pl_nd pv_80) 0 rfl rfl rfl) rfl hl.1 rfl (Nat.le_of_ble_eq_true rfl) dX8_lay_53 ⟨Nat.zero_le _, Nat.zero_le _⟩) hP hD hS hA [2, 3] [0, 1, 4, 5, 6, 7, 8, 9] rfl rfl rfl rfl pv_80 (fun H locs hP hS => ?_)
            have hD : va_D (va_A ws0 sz) (wl_X8_lay cA a x_stale x_finding sheet0_lost sheet0_form sheet0_size c11 sheet1_lost sheet1_form sheet1_size sheet1_items sheet2_lost sheet2_form sheet2_size sheet2_items sheet3_lost sheet3_form sheet3_size sheet3_items) := vd_a hD rfl
            refine lv_iconst (pc := 56) (v := 1) hx hb dX8_lay_56 ic_1 ?_
            have hf := Option.some.inj hf
            subst hf
            exact ret_i C hr hlk hP hS dX8_lay_57
          have hf := (if_neg h_0).symm.trans hf
          by_cases h_1 : x1 = (1 : Int32)
          · have hf := (if_pos h_1).symm.trans hf
            refine g_aald (pc := 49) (b := (a 48)) C hP 1 rfl (t0 := 3) rfl (by rw [h_1]; decide) (by rw [h_1, tn_1]; rfl) dX8_lay_49 ?_
            refine lv_iload_n (pc := 50) hx hb dX8_lay_50 rfl (lv_at hl 4 rfl) ?_
            refine lv_iload (pc := 51) hx hb dX8_lay_51 (lv_at hl 5 rfl) ?_
            obtain ⟨c12, hq, hf⟩ := bind1_some hf
            refine fin2_v (wl_X8_lay cA a x_stale x_finding sheet0_lost sheet0_form sheet0_size sheet0_items sheet1_lost sheet1_form sheet1_size c12 sheet2_lost sheet2_form sheet2_size sheet2_items sheet3_lost sheet3_form sheet3_size sheet3_items) (run_V (rest := []) (pc := 53) (As := [.int x3, .int x4]) C mf_X8_318 (c_X5_keep l D cA (a 48) (a 49) sheet1_lost sheet1_form sheet1_size sheet1_items x3 x4 c12 hq H.size) rfl rfl ⟨(Nat.le_of_ble_eq_true rfl), (Nat.le_of_ble_eq_true rfl)⟩ (preV_of C hP hD [4, 5] rfl (pl_nd pv_81) 0 rfl rfl rfl) rfl hl.1 rfl (Nat.le_of_ble_eq_true rfl) dX8_lay_53 ⟨Nat.zero_le _, Nat.zero_le _⟩) hP hD hS hA [4, 5] [0, 1, 2, 3, 6, 7, 8, 9] rfl rfl rfl rfl pv_81 (fun H locs hP hS => ?_)
            have hD : va_D (va_A ws0 sz) (wl_X8_lay cA a x_stale x_finding sheet0_lost sheet0_form sheet0_size sheet0_items sheet1_lost sheet1_form sheet1_size c12 sheet2_lost sheet2_form sheet2_size sheet2_items sheet3_lost sheet3_form sheet3_size sheet3_items) := vd_a hD rfl
            refine lv_iconst (pc := 56) (v := 1) hx hb dX8_lay_56 ic_1 ?_
            have hf := Option.some.inj hf
            subst hf
            exact ret_i C hr hlk hP hS dX8_lay_57
          have hf := (if_neg h_1).symm.trans hf
          by_cases h_2 : x1 = (2 : Int32)
          · have hf := (if_pos h_2).symm.trans hf
            refine g_aald (pc := 49) (b := (a 50)) C hP 1 rfl (t0 := 3) rfl (by rw [h_2]; decide) (by rw [h_2, tn_2]; rfl) dX8_lay_49 ?_
            refine lv_iload_n (pc := 50) hx hb dX8_lay_50 rfl (lv_at hl 4 rfl) ?_
            refine lv_iload (pc := 51) hx hb dX8_lay_51 (lv_at hl 5 rfl) ?_
            obtain ⟨c13, hq, hf⟩ := bind1_some hf
            refine fin2_v (wl_X8_lay cA a x_stale x_finding sheet0_lost sheet0_form sheet0_size sheet0_items sheet1_lost sheet1_form sheet1_size sheet1_items sheet2_lost sheet2_form sheet2_size c13 sheet3_lost sheet3_form sheet3_size sheet3_items) (run_V (rest := []) (pc := 53) (As := [.int x3, .int x4]) C mf_X8_318 (c_X5_keep l D cA (a 50) (a 51) sheet2_lost sheet2_form sheet2_size sheet2_items x3 x4 c13 hq H.size) rfl rfl ⟨(Nat.le_of_ble_eq_true rfl), (Nat.le_of_ble_eq_true rfl)⟩ (preV_of C hP hD [6, 7] rfl (pl_nd pv_82) 0 rfl rfl rfl) rfl hl.1 rfl (Nat.le_of_ble_eq_true rfl) dX8_lay_53 ⟨Nat.zero_le _, Nat.zero_le _⟩) hP hD hS hA [6, 7] [0, 1, 2, 3, 4, 5, 8, 9] rfl rfl rfl rfl pv_82 (fun H locs hP hS => ?_)
            have hD : va_D (va_A ws0 sz) (wl_X8_lay cA a x_stale x_finding sheet0_lost sheet0_form sheet0_size sheet0_items sheet1_lost sheet1_form sheet1_size sheet1_items sheet2_lost sheet2_form sheet2_size c13 sheet3_lost sheet3_form sheet3_size sheet3_items) := vd_a hD rfl
            refine lv_iconst (pc := 56) (v := 1) hx hb dX8_lay_56 ic_1 ?_
            have hf := Option.some.inj hf
            subst hf
            exact ret_i C hr hlk hP hS dX8_lay_57
          have hf := (if_neg h_2).symm.trans hf
          by_cases h_3 : x1 = (3 : Int32)
          · have hf := (if_pos h_3).symm.trans hf
            refine g_aald (pc := 49) (b := (a 52)) C hP 1 rfl (t0 := 3) rfl (by rw [h_3]; decide) (by rw [h_3, tn_3]; rfl) dX8_lay_49 ?_
            refine lv_iload_n (pc := 50) hx hb dX8_lay_50 rfl (lv_at hl 4 rfl) ?_
            refine lv_iload (pc := 51) hx hb dX8_lay_51 (lv_at hl 5 rfl) ?_
            obtain ⟨c14, hq, hf⟩ := bind1_some hf
            refine fin2_v (wl_X8_lay cA a x_stale x_finding sheet0_lost sheet0_form sheet0_size sheet0_items sheet1_lost sheet1_form sheet1_size sheet1_items sheet2_lost sheet2_form sheet2_size sheet2_items sheet3_lost sheet3_form sheet3_size c14) (run_V (rest := []) (pc := 53) (As := [.int x3, .int x4]) C mf_X8_318 (c_X5_keep l D cA (a 52) (a 53) sheet3_lost sheet3_form sheet3_size sheet3_items x3 x4 c14 hq H.size) rfl rfl ⟨(Nat.le_of_ble_eq_true rfl), (Nat.le_of_ble_eq_true rfl)⟩ (preV_of C hP hD [8, 9] rfl (pl_nd pv_83) 0 rfl rfl rfl) rfl hl.1 rfl (Nat.le_of_ble_eq_true rfl) dX8_lay_53 ⟨Nat.zero_le _, Nat.zero_le _⟩) hP hD hS hA [8, 9] [0, 1, 2, 3, 4, 5, 6, 7] rfl rfl rfl rfl pv_83 (fun H locs hP hS => ?_)
            have hD : va_D (va_A ws0 sz) (wl_X8_lay cA a x_stale x_finding sheet0_lost sheet0_form sheet0_size sheet0_items sheet1_lost sheet1_form sheet1_size sheet1_items sheet2_lost sheet2_form sheet2_size sheet2_items sheet3_lost sheet3_form sheet3_size c14) := vd_a hD rfl
            refine lv_iconst (pc := 56) (v := 1) hx hb dX8_lay_56 ic_1 ?_
            have hf := Option.some.inj hf
            subst hf
            exact ret_i C hr hlk hP hS dX8_lay_57
          have hf := (if_neg h_3).symm.trans hf
          cases hf
        · have hf := (if_neg hc).symm.trans hf
          refine lv_aload_n (pc := 37) hx hb dX8_lay_37 rfl (lv_at hl 1 rfl) ?_
          refine lv_iload (pc := 38) hx hb dX8_lay_38 (lv_at hl 0 rfl) ?_
          obtain ⟨r15, c16, hq, hf⟩ := bind2_some hf
          refine fin2_i (wl_X8_lay cA a x_stale c16 sheet0_lost sheet0_form sheet0_size sheet0_items sheet1_lost sheet1_form sheet1_size sheet1_items sheet2_lost sheet2_form sheet2_size sheet2_items sheet3_lost sheet3_form sheet3_size sheet3_items) (run_V (rest := []) (pc := 40) (As := [.int r10]) C mf_X8_139 (c_X8_found l D cA a x_stale x_finding r10 (r15, c16) hq H.size) rfl rfl ⟨(Nat.le_of_ble_eq_true rfl), (Nat.le_of_ble_eq_true rfl)⟩ (preV_of C hP hD [0] rfl (pl_nd pv_84) 0 rfl rfl rfl) rfl hl.1 rfl (Nat.le_of_ble_eq_true rfl) dX8_lay_40 ⟨Nat.zero_le _, Nat.zero_le _⟩) hP hD hS hA [0] [1, 2, 3, 4, 5, 6, 7, 8, 9] rfl rfl rfl rfl pv_84 (fun H locs hP hS => ?_)
          have hD : va_D (va_A ws0 sz) (wl_X8_lay cA a x_stale c16 sheet0_lost sheet0_form sheet0_size sheet0_items sheet1_lost sheet1_form sheet1_size sheet1_items sheet2_lost sheet2_form sheet2_size sheet2_items sheet3_lost sheet3_form sheet3_size sheet3_items) := vd_a hD rfl
          have hf := Option.some.inj hf
          subst hf
          exact ret_i C hr hlk hP hS dX8_lay_43
      have hf := (if_neg h_1).symm.trans hf
      by_cases h_2 : x1 = (2 : Int32)
      · have hf := (if_pos h_2).symm.trans hf
        refine g_aald (pc := 24) (b := (a 50)) C hP 1 rfl (t0 := 3) rfl (by rw [h_2]; decide) (by rw [h_2, tn_2]; rfl) dX8_lay_24 ?_
        refine lv_iload_n (pc := 25) hx hb dX8_lay_25 rfl (lv_at hl 2 rfl) ?_
        refine lv_iload_n (pc := 26) hx hb dX8_lay_26 rfl (lv_at hl 3 rfl) ?_
        obtain ⟨r17, hq, hf⟩ := bind1_some hf
        refine fin2_i (wl_X8_lay cA a x_stale x_finding sheet0_lost sheet0_form sheet0_size sheet0_items sheet1_lost sheet1_form sheet1_size sheet1_items sheet2_lost sheet2_form sheet2_size sheet2_items sheet3_lost sheet3_form sheet3_size sheet3_items) (run_V (rest := []) (pc := 27) (As := [.int x2, .int x3]) C mf_X8_315 (c_X5_wrongWith l D cA (a 50) (a 51) sheet2_lost sheet2_form sheet2_size x2 x3 r17 hq H.size) rfl rfl ⟨(Nat.le_of_ble_eq_true rfl), (Nat.le_of_ble_eq_true rfl)⟩ (preV_of C hP hD [6] rfl (pl_nd pv_87) 0 rfl rfl rfl) rfl hl.1 rfl (Nat.le_of_ble_eq_true rfl) dX8_lay_27 ⟨Nat.zero_le _, Nat.zero_le _⟩) hP hD hS hA [6] [0, 1, 2, 3, 4, 5, 7, 8, 9] rfl rfl rfl rfl pv_87 (fun H locs hP hS => ?_)
        refine lv_istore (pc := 30) (lv' := [(5, .int r17), (0, .ref (a 0)), (1, .int x1), (2, .int x2), (3, .int x3), (4, .int x4)]) hx hb dX8_lay_30 hl (Nat.le_of_ble_eq_true rfl) rfl (fun ls hl => ?_)
        refine lv_iload (pc := 32) hx hb dX8_lay_32 (lv_at hl 0 rfl) ?_
        refine lv_if_eq (pc := 34) (tgt := 44) hx hb dX8_lay_34 (by decide) (fun hc => ?_) (fun hc => ?_)
        · have hf := (if_pos hc).symm.trans hf
          refine lv_aload_n (pc := 44) hx hb dX8_lay_44 rfl (lv_at hl 1 rfl) ?_
          refine g_get (pc := 45) C fg_X8_77 hP 0 rfl rfl dX8_lay_45 ?_
          refine lv_iload_n (pc := 48) hx hb dX8_lay_48 rfl (lv_at hl 2 rfl) ?_
          by_cases h_0 : x1 = (0 : Int32)
          · have hf := (if_pos h_0).symm.trans hf
            refine g_aald (pc := 49) (b := (a 46)) C hP 1 rfl (t0 := 3) rfl (by rw [h_0]; decide) (by rw [h_0, tn_0]; rfl) dX8_lay_49 ?_
            refine lv_iload_n (pc := 50) hx hb dX8_lay_50 rfl (lv_at hl 4 rfl) ?_
            refine lv_iload (pc := 51) hx hb dX8_lay_51 (lv_at hl 5 rfl) ?_
            obtain ⟨c18, hq, hf⟩ := bind1_some hf
            refine fin2_v (wl_X8_lay cA a x_stale x_finding sheet0_lost sheet0_form sheet0_size c18 sheet1_lost sheet1_form sheet1_size sheet1_items sheet2_lost sheet2_form sheet2_size sheet2_items sheet3_lost sheet3_form sheet3_size sheet3_items) (run_V (rest := []) (pc := 53) (As := [.int x3, .int x4]) C mf_X8_318 (c_X5_keep l D cA (a 46) (a 47) sheet0_lost sheet0_form sheet0_size sheet0_items x3 x4 c18 hq H.size) rfl rfl ⟨(Nat.le_of_ble_eq_true rfl), (Nat.le_of_ble_eq_true rfl)⟩ (preV_of C hP hD [2, 3] rfl (pl_nd pv_80) 0 rfl rfl rfl) rfl hl.1 rfl (Nat.le_of_ble_eq_true rfl) dX8_lay_53 ⟨Nat.zero_le _, Nat.zero_le _⟩) hP hD hS hA [2, 3] [0, 1, 4, 5, 6, 7, 8, 9] rfl rfl rfl rfl pv_80 (fun H locs hP hS => ?_)
            have hD : va_D (va_A ws0 sz) (wl_X8_lay cA a x_stale x_finding sheet0_lost sheet0_form sheet0_size c18 sheet1_lost sheet1_form sheet1_size sheet1_items sheet2_lost sheet2_form sheet2_size sheet2_items sheet3_lost sheet3_form sheet3_size sheet3_items) := vd_a hD rfl
            refine lv_iconst (pc := 56) (v := 1) hx hb dX8_lay_56 ic_1 ?_
            have hf := Option.some.inj hf
            subst hf
            exact ret_i C hr hlk hP hS dX8_lay_57
          have hf := (if_neg h_0).symm.trans hf
          by_cases h_1 : x1 = (1 : Int32)
          · have hf := (if_pos h_1).symm.trans hf
            refine g_aald (pc := 49) (b := (a 48)) C hP 1 rfl (t0 := 3) rfl (by rw [h_1]; decide) (by rw [h_1, tn_1]; rfl) dX8_lay_49 ?_
            refine lv_iload_n (pc := 50) hx hb dX8_lay_50 rfl (lv_at hl 4 rfl) ?_
            refine lv_iload (pc := 51) hx hb dX8_lay_51 (lv_at hl 5 rfl) ?_
            obtain ⟨c19, hq, hf⟩ := bind1_some hf
            refine fin2_v (wl_X8_lay cA a x_stale x_finding sheet0_lost sheet0_form sheet0_size sheet0_items sheet1_lost sheet1_form sheet1_size c19 sheet2_lost sheet2_form sheet2_size sheet2_items sheet3_lost sheet3_form sheet3_size sheet3_items) (run_V (rest := []) (pc := 53) (As := [.int x3, .int x4]) C mf_X8_318 (c_X5_keep l D cA (a 48) (a 49) sheet1_lost sheet1_form sheet1_size sheet1_items x3 x4 c19 hq H.size) rfl rfl ⟨(Nat.le_of_ble_eq_true rfl), (Nat.le_of_ble_eq_true rfl)⟩ (preV_of C hP hD [4, 5] rfl (pl_nd pv_81) 0 rfl rfl rfl) rfl hl.1 rfl (Nat.le_of_ble_eq_true rfl) dX8_lay_53 ⟨Nat.zero_le _, Nat.zero_le _⟩) hP hD hS hA [4, 5] [0, 1, 2, 3, 6, 7, 8, 9] rfl rfl rfl rfl pv_81 (fun H locs hP hS => ?_)
            have hD : va_D (va_A ws0 sz) (wl_X8_lay cA a x_stale x_finding sheet0_lost sheet0_form sheet0_size sheet0_items sheet1_lost sheet1_form sheet1_size c19 sheet2_lost sheet2_form sheet2_size sheet2_items sheet3_lost sheet3_form sheet3_size sheet3_items) := vd_a hD rfl
            refine lv_iconst (pc := 56) (v := 1) hx hb dX8_lay_56 ic_1 ?_
            have hf := Option.some.inj hf
            subst hf
            exact ret_i C hr hlk hP hS dX8_lay_57
          have hf := (if_neg h_1).symm.trans hf
          by_cases h_2 : x1 = (2 : Int32)
          · have hf := (if_pos h_2).symm.trans hf
            refine g_aald (pc := 49) (b := (a 50)) C hP 1 rfl (t0 := 3) rfl (by rw [h_2]; decide) (by rw [h_2, tn_2]; rfl) dX8_lay_49 ?_
            refine lv_iload_n (pc := 50) hx hb dX8_lay_50 rfl (lv_at hl 4 rfl) ?_
            refine lv_iload (pc := 51) hx hb dX8_lay_51 (lv_at hl 5 rfl) ?_
            obtain ⟨c20, hq, hf⟩ := bind1_some hf
            refine fin2_v (wl_X8_lay cA a x_stale x_finding sheet0_lost sheet0_form sheet0_size sheet0_items sheet1_lost sheet1_form sheet1_size sheet1_items sheet2_lost sheet2_form sheet2_size c20 sheet3_lost sheet3_form sheet3_size sheet3_items) (run_V (rest := []) (pc := 53) (As := [.int x3, .int x4]) C mf_X8_318 (c_X5_keep l D cA (a 50) (a 51) sheet2_lost sheet2_form sheet2_size sheet2_items x3 x4 c20 hq H.size) rfl rfl ⟨(Nat.le_of_ble_eq_true rfl), (Nat.le_of_ble_eq_true rfl)⟩ (preV_of C hP hD [6, 7] rfl (pl_nd pv_82) 0 rfl rfl rfl) rfl hl.1 rfl (Nat.le_of_ble_eq_true rfl) dX8_lay_53 ⟨Nat.zero_le _, Nat.zero_le _⟩) hP hD hS hA [6, 7] [0, 1, 2, 3, 4, 5, 8, 9] rfl rfl rfl rfl pv_82 (fun H locs hP hS => ?_)
            have hD : va_D (va_A ws0 sz) (wl_X8_lay cA a x_stale x_finding sheet0_lost sheet0_form sheet0_size sheet0_items sheet1_lost sheet1_form sheet1_size sheet1_items sheet2_lost sheet2_form sheet2_size c20 sheet3_lost sheet3_form sheet3_size sheet3_items) := vd_a hD rfl
            refine lv_iconst (pc := 56) (v := 1) hx hb dX8_lay_56 ic_1 ?_
            have hf := Option.some.inj hf
            subst hf
            exact ret_i C hr hlk hP hS dX8_lay_57
          have hf := (if_neg h_2).symm.trans hf
          by_cases h_3 : x1 = (3 : Int32)
          · have hf := (if_pos h_3).symm.trans hf
            refine g_aald (pc := 49) (b := (a 52)) C hP 1 rfl (t0 := 3) rfl (by rw [h_3]; decide) (by rw [h_3, tn_3]; rfl) dX8_lay_49 ?_
            refine lv_iload_n (pc := 50) hx hb dX8_lay_50 rfl (lv_at hl 4 rfl) ?_
            refine lv_iload (pc := 51) hx hb dX8_lay_51 (lv_at hl 5 rfl) ?_
            obtain ⟨c21, hq, hf⟩ := bind1_some hf
            refine fin2_v (wl_X8_lay cA a x_stale x_finding sheet0_lost sheet0_form sheet0_size sheet0_items sheet1_lost sheet1_form sheet1_size sheet1_items sheet2_lost sheet2_form sheet2_size sheet2_items sheet3_lost sheet3_form sheet3_size c21) (run_V (rest := []) (pc := 53) (As := [.int x3, .int x4]) C mf_X8_318 (c_X5_keep l D cA (a 52) (a 53) sheet3_lost sheet3_form sheet3_size sheet3_items x3 x4 c21 hq H.size) rfl rfl ⟨(Nat.le_of_ble_eq_true rfl), (Nat.le_of_ble_eq_true rfl)⟩ (preV_of C hP hD [8, 9] rfl (pl_nd pv_83) 0 rfl rfl rfl) rfl hl.1 rfl (Nat.le_of_ble_eq_true rfl) dX8_lay_53 ⟨Nat.zero_le _, Nat.zero_le _⟩) hP hD hS hA [8, 9] [0, 1, 2, 3, 4, 5, 6, 7] rfl rfl rfl rfl pv_83 (fun H locs hP hS => ?_)
            have hD : va_D (va_A ws0 sz) (wl_X8_lay cA a x_stale x_finding sheet0_lost sheet0_form sheet0_size sheet0_items sheet1_lost sheet1_form sheet1_size sheet1_items sheet2_lost sheet2_form sheet2_size sheet2_items sheet3_lost sheet3_form sheet3_size c21) := vd_a hD rfl
            refine lv_iconst (pc := 56) (v := 1) hx hb dX8_lay_56 ic_1 ?_
            have hf := Option.some.inj hf
            subst hf
            exact ret_i C hr hlk hP hS dX8_lay_57
          have hf := (if_neg h_3).symm.trans hf
          cases hf
        · have hf := (if_neg hc).symm.trans hf
          refine lv_aload_n (pc := 37) hx hb dX8_lay_37 rfl (lv_at hl 1 rfl) ?_
          refine lv_iload (pc := 38) hx hb dX8_lay_38 (lv_at hl 0 rfl) ?_
          obtain ⟨r22, c23, hq, hf⟩ := bind2_some hf
          refine fin2_i (wl_X8_lay cA a x_stale c23 sheet0_lost sheet0_form sheet0_size sheet0_items sheet1_lost sheet1_form sheet1_size sheet1_items sheet2_lost sheet2_form sheet2_size sheet2_items sheet3_lost sheet3_form sheet3_size sheet3_items) (run_V (rest := []) (pc := 40) (As := [.int r17]) C mf_X8_139 (c_X8_found l D cA a x_stale x_finding r17 (r22, c23) hq H.size) rfl rfl ⟨(Nat.le_of_ble_eq_true rfl), (Nat.le_of_ble_eq_true rfl)⟩ (preV_of C hP hD [0] rfl (pl_nd pv_84) 0 rfl rfl rfl) rfl hl.1 rfl (Nat.le_of_ble_eq_true rfl) dX8_lay_40 ⟨Nat.zero_le _, Nat.zero_le _⟩) hP hD hS hA [0] [1, 2, 3, 4, 5, 6, 7, 8, 9] rfl rfl rfl rfl pv_84 (fun H locs hP hS => ?_)
          have hD : va_D (va_A ws0 sz) (wl_X8_lay cA a x_stale c23 sheet0_lost sheet0_form sheet0_size sheet0_items sheet1_lost sheet1_form sheet1_size sheet1_items sheet2_lost sheet2_form sheet2_size sheet2_items sheet3_lost sheet3_form sheet3_size sheet3_items) := vd_a hD rfl
          have hf := Option.some.inj hf
          subst hf
          exact ret_i C hr hlk hP hS dX8_lay_43
      have hf := (if_neg h_2).symm.trans hf
      by_cases h_3 : x1 = (3 : Int32)
      · have hf := (if_pos h_3).symm.trans hf
        refine g_aald (pc := 24) (b := (a 52)) C hP 1 rfl (t0 := 3) rfl (by rw [h_3]; decide) (by rw [h_3, tn_3]; rfl) dX8_lay_24 ?_
        refine lv_iload_n (pc := 25) hx hb dX8_lay_25 rfl (lv_at hl 2 rfl) ?_
        refine lv_iload_n (pc := 26) hx hb dX8_lay_26 rfl (lv_at hl 3 rfl) ?_
        obtain ⟨r24, hq, hf⟩ := bind1_some hf
        refine fin2_i (wl_X8_lay cA a x_stale x_finding sheet0_lost sheet0_form sheet0_size sheet0_items sheet1_lost sheet1_form sheet1_size sheet1_items sheet2_lost sheet2_form sheet2_size sheet2_items sheet3_lost sheet3_form sheet3_size sheet3_items) (run_V (rest := []) (pc := 27) (As := [.int x2, .int x3]) C mf_X8_315 (c_X5_wrongWith l D cA (a 52) (a 53) sheet3_lost sheet3_form sheet3_size x2 x3 r24 hq H.size) rfl rfl ⟨(Nat.le_of_ble_eq_true rfl), (Nat.le_of_ble_eq_true rfl)⟩ (preV_of C hP hD [8] rfl (pl_nd pv_88) 0 rfl rfl rfl) rfl hl.1 rfl (Nat.le_of_ble_eq_true rfl) dX8_lay_27 ⟨Nat.zero_le _, Nat.zero_le _⟩) hP hD hS hA [8] [0, 1, 2, 3, 4, 5, 6, 7, 9] rfl rfl rfl rfl pv_88 (fun H locs hP hS => ?_)
        refine lv_istore (pc := 30) (lv' := [(5, .int r24), (0, .ref (a 0)), (1, .int x1), (2, .int x2), (3, .int x3), (4, .int x4)]) hx hb dX8_lay_30 hl (Nat.le_of_ble_eq_true rfl) rfl (fun ls hl => ?_)
        refine lv_iload (pc := 32) hx hb dX8_lay_32 (lv_at hl 0 rfl) ?_
        refine lv_if_eq (pc := 34) (tgt := 44) hx hb dX8_lay_34 (by decide) (fun hc => ?_) (fun hc => ?_)
        · have hf := (if_pos hc).symm.trans hf
          refine lv_aload_n (pc := 44) hx hb dX8_lay_44 rfl (lv_at hl 1 rfl) ?_
          refine g_get (pc := 45) C fg_X8_77 hP 0 rfl rfl dX8_lay_45 ?_
          refine lv_iload_n (pc := 48) hx hb dX8_lay_48 rfl (lv_at hl 2 rfl) ?_
          by_cases h_0 : x1 = (0 : Int32)
          · have hf := (if_pos h_0).symm.trans hf
            refine g_aald (pc := 49) (b := (a 46)) C hP 1 rfl (t0 := 3) rfl (by rw [h_0]; decide) (by rw [h_0, tn_0]; rfl) dX8_lay_49 ?_
            refine lv_iload_n (pc := 50) hx hb dX8_lay_50 rfl (lv_at hl 4 rfl) ?_
            refine lv_iload (pc := 51) hx hb dX8_lay_51 (lv_at hl 5 rfl) ?_
            obtain ⟨c25, hq, hf⟩ := bind1_some hf
            refine fin2_v (wl_X8_lay cA a x_stale x_finding sheet0_lost sheet0_form sheet0_size c25 sheet1_lost sheet1_form sheet1_size sheet1_items sheet2_lost sheet2_form sheet2_size sheet2_items sheet3_lost sheet3_form sheet3_size sheet3_items) (run_V (rest := []) (pc := 53) (As := [.int x3, .int x4]) C mf_X8_318 (c_X5_keep l D cA (a 46) (a 47) sheet0_lost sheet0_form sheet0_size sheet0_items x3 x4 c25 hq H.size) rfl rfl ⟨(Nat.le_of_ble_eq_true rfl), (Nat.le_of_ble_eq_true rfl)⟩ (preV_of C hP hD [2, 3] rfl (pl_nd pv_80) 0 rfl rfl rfl) rfl hl.1 rfl (Nat.le_of_ble_eq_true rfl) dX8_lay_53 ⟨Nat.zero_le _, Nat.zero_le _⟩) hP hD hS hA [2, 3] [0, 1, 4, 5, 6, 7, 8, 9] rfl rfl rfl rfl pv_80 (fun H locs hP hS => ?_)
            have hD : va_D (va_A ws0 sz) (wl_X8_lay cA a x_stale x_finding sheet0_lost sheet0_form sheet0_size c25 sheet1_lost sheet1_form sheet1_size sheet1_items sheet2_lost sheet2_form sheet2_size sheet2_items sheet3_lost sheet3_form sheet3_size sheet3_items) := vd_a hD rfl
            refine lv_iconst (pc := 56) (v := 1) hx hb dX8_lay_56 ic_1 ?_
            have hf := Option.some.inj hf
            subst hf
            exact ret_i C hr hlk hP hS dX8_lay_57
          have hf := (if_neg h_0).symm.trans hf
          by_cases h_1 : x1 = (1 : Int32)
          · have hf := (if_pos h_1).symm.trans hf
            refine g_aald (pc := 49) (b := (a 48)) C hP 1 rfl (t0 := 3) rfl (by rw [h_1]; decide) (by rw [h_1, tn_1]; rfl) dX8_lay_49 ?_
            refine lv_iload_n (pc := 50) hx hb dX8_lay_50 rfl (lv_at hl 4 rfl) ?_
            refine lv_iload (pc := 51) hx hb dX8_lay_51 (lv_at hl 5 rfl) ?_
            obtain ⟨c26, hq, hf⟩ := bind1_some hf
            refine fin2_v (wl_X8_lay cA a x_stale x_finding sheet0_lost sheet0_form sheet0_size sheet0_items sheet1_lost sheet1_form sheet1_size c26 sheet2_lost sheet2_form sheet2_size sheet2_items sheet3_lost sheet3_form sheet3_size sheet3_items) (run_V (rest := []) (pc := 53) (As := [.int x3, .int x4]) C mf_X8_318 (c_X5_keep l D cA (a 48) (a 49) sheet1_lost sheet1_form sheet1_size sheet1_items x3 x4 c26 hq H.size) rfl rfl ⟨(Nat.le_of_ble_eq_true rfl), (Nat.le_of_ble_eq_true rfl)⟩ (preV_of C hP hD [4, 5] rfl (pl_nd pv_81) 0 rfl rfl rfl) rfl hl.1 rfl (Nat.le_of_ble_eq_true rfl) dX8_lay_53 ⟨Nat.zero_le _, Nat.zero_le _⟩) hP hD hS hA [4, 5] [0, 1, 2, 3, 6, 7, 8, 9] rfl rfl rfl rfl pv_81 (fun H locs hP hS => ?_)
            have hD : va_D (va_A ws0 sz) (wl_X8_lay cA a x_stale x_finding sheet0_lost sheet0_form sheet0_size sheet0_items sheet1_lost sheet1_form sheet1_size c26 sheet2_lost sheet2_form sheet2_size sheet2_items sheet3_lost sheet3_form sheet3_size sheet3_items) := vd_a hD rfl
            refine lv_iconst (pc := 56) (v := 1) hx hb dX8_lay_56 ic_1 ?_
            have hf := Option.some.inj hf
            subst hf
            exact ret_i C hr hlk hP hS dX8_lay_57
          have hf := (if_neg h_1).symm.trans hf
          by_cases h_2 : x1 = (2 : Int32)
          · have hf := (if_pos h_2).symm.trans hf
            refine g_aald (pc := 49) (b := (a 50)) C hP 1 rfl (t0 := 3) rfl (by rw [h_2]; decide) (by rw [h_2, tn_2]; rfl) dX8_lay_49 ?_
            refine lv_iload_n (pc := 50) hx hb dX8_lay_50 rfl (lv_at hl 4 rfl) ?_
            refine lv_iload (pc := 51) hx hb dX8_lay_51 (lv_at hl 5 rfl) ?_
            obtain ⟨c27, hq, hf⟩ := bind1_some hf
            refine fin2_v (wl_X8_lay cA a x_stale x_finding sheet0_lost sheet0_form sheet0_size sheet0_items sheet1_lost sheet1_form sheet1_size sheet1_items sheet2_lost sheet2_form sheet2_size c27 sheet3_lost sheet3_form sheet3_size sheet3_items) (run_V (rest := []) (pc := 53) (As := [.int x3, .int x4]) C mf_X8_318 (c_X5_keep l D cA (a 50) (a 51) sheet2_lost sheet2_form sheet2_size sheet2_items x3 x4 c27 hq H.size) rfl rfl ⟨(Nat.le_of_ble_eq_true rfl), (Nat.le_of_ble_eq_true rfl)⟩ (preV_of C hP hD [6, 7] rfl (pl_nd pv_82) 0 rfl rfl rfl) rfl hl.1 rfl (Nat.le_of_ble_eq_true rfl) dX8_lay_53 ⟨Nat.zero_le _, Nat.zero_le _⟩) hP hD hS hA [6, 7] [0, 1, 2, 3, 4, 5, 8, 9] rfl rfl rfl rfl pv_82 (fun H locs hP hS => ?_)
            have hD : va_D (va_A ws0 sz) (wl_X8_lay cA a x_stale x_finding sheet0_lost sheet0_form sheet0_size sheet0_items sheet1_lost sheet1_form sheet1_size sheet1_items sheet2_lost sheet2_form sheet2_size c27 sheet3_lost sheet3_form sheet3_size sheet3_items) := vd_a hD rfl
            refine lv_iconst (pc := 56) (v := 1) hx hb dX8_lay_56 ic_1 ?_
            have hf := Option.some.inj hf
            subst hf
            exact ret_i C hr hlk hP hS dX8_lay_57
          have hf := (if_neg h_2).symm.trans hf
          by_cases h_3 : x1 = (3 : Int32)
          · have hf := (if_pos h_3).symm.trans hf
            refine g_aald (pc := 49) (b := (a 52)) C hP 1 rfl (t0 := 3) rfl (by rw [h_3]; decide) (by rw [h_3, tn_3]; rfl) dX8_lay_49 ?_
            refine lv_iload_n (pc := 50) hx hb dX8_lay_50 rfl (lv_at hl 4 rfl) ?_
            refine lv_iload (pc := 51) hx hb dX8_lay_51 (lv_at hl 5 rfl) ?_
            obtain ⟨c28, hq, hf⟩ := bind1_some hf
            refine fin2_v (wl_X8_lay cA a x_stale x_finding sheet0_lost sheet0_form sheet0_size sheet0_items sheet1_lost sheet1_form sheet1_size sheet1_items sheet2_lost sheet2_form sheet2_size sheet2_items sheet3_lost sheet3_form sheet3_size c28) (run_V (rest := []) (pc := 53) (As := [.int x3, .int x4]) C mf_X8_318 (c_X5_keep l D cA (a 52) (a 53) sheet3_lost sheet3_form sheet3_size sheet3_items x3 x4 c28 hq H.size) rfl rfl ⟨(Nat.le_of_ble_eq_true rfl), (Nat.le_of_ble_eq_true rfl)⟩ (preV_of C hP hD [8, 9] rfl (pl_nd pv_83) 0 rfl rfl rfl) rfl hl.1 rfl (Nat.le_of_ble_eq_true rfl) dX8_lay_53 ⟨Nat.zero_le _, Nat.zero_le _⟩) hP hD hS hA [8, 9] [0, 1, 2, 3, 4, 5, 6, 7] rfl rfl rfl rfl pv_83 (fun H locs hP hS => ?_)
            have hD : va_D (va_A ws0 sz) (wl_X8_lay cA a x_stale x_finding sheet0_lost sheet0_form sheet0_size sheet0_items sheet1_lost sheet1_form sheet1_size sheet1_items sheet2_lost sheet2_form sheet2_size sheet2_items sheet3_lost sheet3_form sheet3_size c28) := vd_a hD rfl
            refine lv_iconst (pc := 56) (v := 1) hx hb dX8_lay_56 ic_1 ?_
            have hf := Option.some.inj hf
            subst hf
            exact ret_i C hr hlk hP hS dX8_lay_57
          have hf := (if_neg h_3).symm.trans hf
          cases hf
        · have hf := (if_neg hc).symm.trans hf
          refine lv_aload_n (pc := 37) hx hb dX8_lay_37 rfl (lv_at hl 1 rfl) ?_
          refine lv_iload (pc := 38) hx hb dX8_lay_38 (lv_at hl 0 rfl) ?_
          obtain ⟨r29, c30, hq, hf⟩ := bind2_some hf
          refine fin2_i (wl_X8_lay cA a x_stale c30 sheet0_lost sheet0_form sheet0_size sheet0_items sheet1_lost sheet1_form sheet1_size sheet1_items sheet2_lost sheet2_form sheet2_size sheet2_items sheet3_lost sheet3_form sheet3_size sheet3_items) (run_V (rest := []) (pc := 40) (As := [.int r24]) C mf_X8_139 (c_X8_found l D cA a x_stale x_finding r24 (r29, c30) hq H.size) rfl rfl ⟨(Nat.le_of_ble_eq_true rfl), (Nat.le_of_ble_eq_true rfl)⟩ (preV_of C hP hD [0] rfl (pl_nd pv_84) 0 rfl rfl rfl) rfl hl.1 rfl (Nat.le_of_ble_eq_true rfl) dX8_lay_40 ⟨Nat.zero_le _, Nat.zero_le _⟩) hP hD hS hA [0] [1, 2, 3, 4, 5, 6, 7, 8, 9] rfl rfl rfl rfl pv_84 (fun H locs hP hS => ?_)
          have hD : va_D (va_A ws0 sz) (wl_X8_lay cA a x_stale c30 sheet0_lost sheet0_form sheet0_size sheet0_items sheet1_lost sheet1_form sheet1_size sheet1_items sheet2_lost sheet2_form sheet2_size sheet2_items sheet3_lost sheet3_form sheet3_size sheet3_items) := vd_a hD rfl
          have hf := Option.some.inj hf
          subst hf
          exact ret_i C hr hlk hP hS dX8_lay_43
      have hf := (if_neg h_3).symm.trans hf
      cases hf
    · have hf := (if_pos hc).symm.trans hf
      refine lv_bipush (pc := 16) (v := (-2)) hx hb dX8_lay_16 bp_m2 ?_
      have hf := Option.some.inj hf
      subst hf
      exact ret_i C hr hlk hP hS dX8_lay_18
set_option maxRecDepth 100000 in
theorem c_X8_lay (l : Launch) (D : va_G) (cA : Nat → ClassId) (a : Nat → Nat) (x_stale : Int32) (x_finding : Int32) (sheet0_lost : Int32) (sheet0_form : Int32) (sheet0_size : Int32) (sheet0_items : Nat → Int32) (sheet1_lost : Int32) (sheet1_form : Int32) (sheet1_size : Int32) (sheet1_items : Nat → Int32) (sheet2_lost : Int32) (sheet2_form : Int32) (sheet2_size : Int32) (sheet2_items : Nat → Int32) (sheet3_lost : Int32) (sheet3_form : Int32) (sheet3_size : Int32) (sheet3_items : Nat → Int32) (x1 : Int32) (x2 : Int32) (x3 : Int32) (x4 : Int32) (r : Int32 × Int32 × (Nat → Int32) × (Nat → Int32) × (Nat → Int32) × (Nat → Int32)) (hf : f_X8_lay x_finding sheet0_lost sheet0_form sheet0_size sheet0_items sheet1_lost sheet1_form sheet1_size sheet1_items sheet2_lost sheet2_form sheet2_size sheet2_items sheet3_lost sheet3_form sheet3_size sheet3_items x1 x2 x3 x4 = some r) (sz : Nat) : Met l yX8_lay (Cond.code yX8_lay cX8_lay 6 (some .int) :: lw_good) rm_X8_lay (PreX D cA [.ref (a 0), .int x1, .int x2, .int x3, .int x4] sz (wl_X8_lay cA a x_stale x_finding sheet0_lost sheet0_form sheet0_size sheet0_items sheet1_lost sheet1_form sheet1_size sheet1_items sheet2_lost sheet2_form sheet2_size sheet2_items sheet3_lost sheet3_form sheet3_size sheet3_items)) (PostI D r.1 (wl_X8_lay cA a x_stale x_finding sheet0_lost sheet0_form sheet0_size sheet0_items sheet1_lost sheet1_form sheet1_size sheet1_items sheet2_lost sheet2_form sheet2_size sheet2_items sheet3_lost sheet3_form sheet3_size sheet3_items) (wl_X8_lay cA a x_stale (r.2.1) sheet0_lost sheet0_form sheet0_size (r.2.2.1) sheet1_lost sheet1_form sheet1_size (r.2.2.2.1) sheet2_lost sheet2_form sheet2_size (r.2.2.2.2.1) sheet3_lost sheet3_form sheet3_size (r.2.2.2.2.2)) sz) 0 0 (va_A (wl_X8_lay cA a x_stale x_finding sheet0_lost sheet0_form sheet0_size sheet0_items sheet1_lost sheet1_form sheet1_size sheet1_items sheet2_lost sheet2_form sheet2_size sheet2_items sheet3_lost sheet3_form sheet3_size sheet3_items) sz) :=
  met_of (by decide) (Nat.le_of_ble_eq_true rfl) (fun p e s m args below meth c C hr hlk hA => k_X8_lay C hr hlk hA a x_stale x_finding sheet0_lost sheet0_form sheet0_size sheet0_items sheet1_lost sheet1_form sheet1_size sheet1_items sheet2_lost sheet2_form sheet2_size sheet2_items sheet3_lost sheet3_form sheet3_size sheet3_items x1 x2 x3 x4 r hf)
end

abbrev wl_X8_get (cA : Nat → ClassId) (a : Nat → Nat) (x_stale : Int32) (x_finding : Int32) (sheet0_lost : Int32) (sheet0_form : Int32) (sheet0_size : Int32) (sheet0_items : Nat → Int32) (sheet1_lost : Int32) (sheet1_form : Int32) (sheet1_size : Int32) (sheet1_items : Nat → Int32) (sheet2_lost : Int32) (sheet2_form : Int32) (sheet2_size : Int32) (sheet2_items : Nat → Int32) (sheet3_lost : Int32) (sheet3_form : Int32) (sheet3_size : Int32) (sheet3_items : Nat → Int32) : va_W := [((a 0), .inr (8, [.ref (a 1), .ref (a 6), .ref (a 12), .ref (a 15), .ref (a 19), .ref (a 23), .ref (a 27), .ref (a 34), .ref (a 41), .ref (a 42), .ref (a 44), .ref (a 45), .int x_stale, .int x_finding])), ((a 45), .inl (cA 3, 4, .inr (.inr (.inr (.inr (fun k : Nat => if k = 0 then some (a 46) else if k = 1 then some (a 48) else if k = 2 then some (a 50) else some (a 52))))))), ((a 46), .inr (5, [.ref (a 47), .int sheet0_lost, .int sheet0_form, .int sheet0_size])), ((a 47), .inl (cA 0, 60, .inl sheet0_items)), ((a 48), .inr (5, [.ref (a 49), .int sheet1_lost, .int sheet1_form, .int sheet1_size])), ((a 49), .inl (cA 0, 60, .inl sheet1_items)), ((a 50), .inr (5, [.ref (a 51), .int sheet2_lost, .int sheet2_form, .int sheet2_size])), ((a 51), .inl (cA 0, 60, .inl sheet2_items)), ((a 52), .inr (5, [.ref (a 53), .int sheet3_lost, .int sheet3_form, .int sheet3_size])), ((a 53), .inl (cA 0, 60, .inl sheet3_items))]
abbrev rm_X8_get : Room := { frames := 1, cells := 0, slots := 0, locals := 22 }
section
variable {p : Program} {l : Launch} {e : Env} {s : State} {m : MethodId} {args : Array Value} {below : List Frame} {meth : Method} {c : Code} {D : va_G} {cA : Nat → ClassId} {ws0 : va_W} {sz : Nat} {A : Nat → Prop} {Q : State → Prop}
def f_X8_get_b16 (x_finding : Int32) (sheet0_lost : Int32) (sheet0_form : Int32) (sheet0_size : Int32) (sheet0_items : Nat → Int32) (sheet1_lost : Int32) (sheet1_form : Int32) (sheet1_size : Int32) (sheet1_items : Nat → Int32) (sheet2_lost : Int32) (sheet2_form : Int32) (sheet2_size : Int32) (sheet2_items : Nat → Int32) (sheet3_lost : Int32) (sheet3_form : Int32) (sheet3_size : Int32) (sheet3_items : Nat → Int32) : Option (Int32 × Int32) :=
  some ((-2147483648 : Int32), x_finding)
set_option maxHeartbeats 4000000 in
set_option maxRecDepth 100000 in
theorem k_X8_get_b16 (C : Cx RX8 cX8_get 5 D cA p s m args c) (hr : meth.sig.returnType = (some .int)) (hlk : meth.locks = false) (hA : ∀ q, s.heap.size ≤ q → va_A ws0 sz q) (a : Nat → Nat) (x_stale : Int32) (x_finding : Int32) (sheet0_lost : Int32) (sheet0_form : Int32) (sheet0_size : Int32) (sheet0_items : Nat → Int32) (sheet1_lost : Int32) (sheet1_form : Int32) (sheet1_size : Int32) (sheet1_items : Nat → Int32) (sheet2_lost : Int32) (sheet2_form : Int32) (sheet2_size : Int32) (sheet2_items : Nat → Int32) (sheet3_lost : Int32) (sheet3_form : Int32) (sheet3_size : Int32) (sheet3_items : Nat → Int32) (r : Int32 × Int32) (hf : f_X8_get_b16 x_finding sheet0_lost sheet0_form sheet0_size sheet0_items sheet1_lost sheet1_form sheet1_size sheet1_items sheet2_lost sheet2_form sheet2_size sheet2_items sheet3_lost sheet3_form sheet3_size sheet3_items = some r) : At p l e rm_X8_get s m args below meth c D (va_A ws0 sz) 0 0 (MQ below (PostI D r.1 ws0 (wl_X8_get cA a x_stale (r.2) sheet0_lost sheet0_form sheet0_size sheet0_items sheet1_lost sheet1_form sheet1_size sheet1_items sheet2_lost sheet2_form sheet2_size sheet2_items sheet3_lost sheet3_form sheet3_size sheet3_items) sz) args s 0 0 (va_A ws0 sz)) 5 16 (wl_X8_get cA a x_stale x_finding sheet0_lost sheet0_form sheet0_size sheet0_items sheet1_lost sheet1_form sheet1_size sheet1_items sheet2_lost sheet2_form sheet2_size sheet2_items sheet3_lost sheet3_form sheet3_size sheet3_items) [] [] := by
  intro H locs ls hP hD hS hl
  have hx := C.1
  have hb := C.2.1
  have hown := C.2.2.2.1
  have hts := C.2.2.2.2.1
  unfold f_X8_get_b16 at hf
  refine lv_ldcw (pc := 16) hx hb hown (hts _ (lg_in mw_343 rfl)) dX8_get_16 ?_
  have hf := Option.some.inj hf
  subst hf
  exact ret_i C hr hlk hP hS dX8_get_19
def f_X8_get (x_finding : Int32) (sheet0_lost : Int32) (sheet0_form : Int32) (sheet0_size : Int32) (sheet0_items : Nat → Int32) (sheet1_lost : Int32) (sheet1_form : Int32) (sheet1_size : Int32) (sheet1_items : Nat → Int32) (sheet2_lost : Int32) (sheet2_form : Int32) (sheet2_size : Int32) (sheet2_items : Nat → Int32) (sheet3_lost : Int32) (sheet3_form : Int32) (sheet3_size : Int32) (sheet3_items : Nat → Int32) (x1 : Int32) (x2 : Int32) (x3 : Int32) : Option (Int32 × Int32) :=
  bind1 (f_X8_isUpTo x1 (3 : Int32)) (fun r1 => if r1 = 0 then (f_X8_get_b16 x_finding sheet0_lost sheet0_form sheet0_size sheet0_items sheet1_lost sheet1_form sheet1_size sheet1_items sheet2_lost sheet2_form sheet2_size sheet2_items sheet3_lost sheet3_form sheet3_size sheet3_items) else (bind1 (f_X8_isUpTo x2 (2 : Int32)) (fun r2 => if r2 = 0 then (f_X8_get_b16 x_finding sheet0_lost sheet0_form sheet0_size sheet0_items sheet1_lost sheet1_form sheet1_size sheet1_items sheet2_lost sheet2_form sheet2_size sheet2_items sheet3_lost sheet3_form sheet3_size sheet3_items) else (if x1 = (0 : Int32) then (bind1 (f_X5_wrongWith sheet0_lost sheet0_form sheet0_size x2 x3) (fun r3 => if r3 = 0 then (if x1 = (0 : Int32) then (gd (inb x3 60) (some ((sheet0_items x3.toNatClampNeg), x_finding))) else (if x1 = (1 : Int32) then (gd (inb x3 60) (some ((sheet1_items x3.toNatClampNeg), x_finding))) else (if x1 = (2 : Int32) then (gd (inb x3 60) (some ((sheet2_items x3.toNatClampNeg), x_finding))) else (if x1 = (3 : Int32) then (gd (inb x3 60) (some ((sheet3_items x3.toNatClampNeg), x_finding))) else (none))))) else (some ((-2147483648 : Int32), r3)))) else (if x1 = (1 : Int32) then (bind1 (f_X5_wrongWith sheet1_lost sheet1_form sheet1_size x2 x3) (fun r4 => if r4 = 0 then (if x1 = (0 : Int32) then (gd (inb x3 60) (some ((sheet0_items x3.toNatClampNeg), x_finding))) else (if x1 = (1 : Int32) then (gd (inb x3 60) (some ((sheet1_items x3.toNatClampNeg), x_finding))) else (if x1 = (2 : Int32) then (gd (inb x3 60) (some ((sheet2_items x3.toNatClampNeg), x_finding))) else (if x1 = (3 : Int32) then (gd (inb x3 60) (some ((sheet3_items x3.toNatClampNeg), x_finding))) else (none))))) else (some ((-2147483648 : Int32), r4)))) else (if x1 = (2 : Int32) then (bind1 (f_X5_wrongWith sheet2_lost sheet2_form sheet2_size x2 x3) (fun r5 => if r5 = 0 then (if x1 = (0 : Int32) then (gd (inb x3 60) (some ((sheet0_items x3.toNatClampNeg), x_finding))) else (if x1 = (1 : Int32) then (gd (inb x3 60) (some ((sheet1_items x3.toNatClampNeg), x_finding))) else (if x1 = (2 : Int32) then (gd (inb x3 60) (some ((sheet2_items x3.toNatClampNeg), x_finding))) else (if x1 = (3 : Int32) then (gd (inb x3 60) (some ((sheet3_items x3.toNatClampNeg), x_finding))) else (none))))) else (some ((-2147483648 : Int32), r5)))) else (if x1 = (3 : Int32) then (bind1 (f_X5_wrongWith sheet3_lost sheet3_form sheet3_size x2 x3) (fun r6 => if r6 = 0 then (if x1 = (0 : Int32) then (gd (inb x3 60) (some ((sheet0_items x3.toNatClampNeg), x_finding))) else (if x1 = (1 : Int32) then (gd (inb x3 60) (some ((sheet1_items x3.toNatClampNeg), x_finding))) else (if x1 = (2 : Int32) then (gd (inb x3 60) (some ((sheet2_items x3.toNatClampNeg), x_finding))) else (if x1 = (3 : Int32) then (gd (inb x3 60) (some ((sheet3_items x3.toNatClampNeg), x_finding))) else (none))))) else (some ((-2147483648 : Int32), r6)))) else (none))))))))
set_option maxHeartbeats 4000000 in
set_option maxRecDepth 100000 in
theorem k_X8_get (C : Cx RX8 cX8_get 5 D cA p s m args c) (hr : meth.sig.returnType = (some .int)) (hlk : meth.locks = false) (hA : ∀ q, s.heap.size ≤ q → va_A ws0 sz q) (a : Nat → Nat) (x_stale : Int32) (x_finding : Int32) (sheet0_lost : Int32) (sheet0_form : Int32) (sheet0_size : Int32) (sheet0_items : Nat → Int32) (sheet1_lost : Int32) (sheet1_form : Int32) (sheet1_size : Int32) (sheet1_items : Nat → Int32) (sheet2_lost : Int32) (sheet2_form : Int32) (sheet2_size : Int32) (sheet2_items : Nat → Int32) (sheet3_lost : Int32) (sheet3_form : Int32) (sheet3_size : Int32) (sheet3_items : Nat → Int32) (x1 : Int32) (x2 : Int32) (x3 : Int32) (r : Int32 × Int32) (hf : f_X8_get x_finding sheet0_lost sheet0_form sheet0_size sheet0_items sheet1_lost sheet1_form sheet1_size sheet1_items sheet2_lost sheet2_form sheet2_size sheet2_items sheet3_lost sheet3_form sheet3_size sheet3_items x1 x2 x3 = some r) : At p l e rm_X8_get s m args below meth c D (va_A ws0 sz) 0 0 (MQ below (PostI D r.1 ws0 (wl_X8_get cA a x_stale (r.2) sheet0_lost sheet0_form sheet0_size sheet0_items sheet1_lost sheet1_form sheet1_size sheet1_items sheet2_lost sheet2_form sheet2_size sheet2_items sheet3_lost sheet3_form sheet3_size sheet3_items) sz) args s 0 0 (va_A ws0 sz)) 5 0 (wl_X8_get cA a x_stale x_finding sheet0_lost sheet0_form sheet0_size sheet0_items sheet1_lost sheet1_form sheet1_size sheet1_items sheet2_lost sheet2_form sheet2_size sheet2_items sheet3_lost sheet3_form sheet3_size sheet3_items) [(0, .ref (a 0)), (1, .int x1), (2, .int x2), (3, .int x3)] [] := by
  intro H locs ls hP hD hS hl
  have hx := C.1
  have hb := C.2.1
  have hown := C.2.2.2.1
  have hts := C.2.2.2.2.1
  unfold f_X8_get at hf
  refine lv_iload_n (pc := 0) hx hb dX8_get_0 rfl (lv_at hl 1 rfl) ?_
  refine lv_iconst (pc := 1) (v := 3) hx hb dX8_get_1 ic_3 ?_
  obtain ⟨r1, hq, hf⟩ := bind1_some hf
  refine fin2_i (wl_X8_get cA a x_stale x_finding sheet0_lost sheet0_form sheet0_size sheet0_items sheet1_lost sheet1_form sheet1_size sheet1_items sheet2_lost sheet2_form sheet2_size sheet2_items sheet3_lost sheet3_form sheet3_size sheet3_items) (run_S (rest := []) (pc := 2) (As := [.int x1, .int (3 : Int32)]) C mf_X8_90 (c_X8_isUpTo l D cA  x1 (3 : Int32) r1 hq H.size) rfl rfl ⟨(Nat.le_of_ble_eq_true rfl), (Nat.le_of_ble_eq_true rfl)⟩ (preS_of C hP hD [] rfl (pl_nd pv_79)) rfl hl.1 rfl (Nat.le_of_ble_eq_true rfl) dX8_get_2 ⟨Nat.zero_le _, Nat.zero_le _⟩) hP hD hS hA [] [0, 1, 2, 3, 4, 5, 6, 7, 8, 9] rfl rfl rfl rfl pv_79 (fun H locs hP hS => ?_)
  refine lv_if_eq (pc := 5) (tgt := 16) hx hb dX8_get_5 (by decide) (fun hc => ?_) (fun hc => ?_)
  · have hf := (if_pos hc).symm.trans hf
    exact k_X8_get_b16 C hr hlk hA a x_stale x_finding sheet0_lost sheet0_form sheet0_size sheet0_items sheet1_lost sheet1_form sheet1_size sheet1_items sheet2_lost sheet2_form sheet2_size sheet2_items sheet3_lost sheet3_form sheet3_size sheet3_items r hf H locs ls hP hD hS (lv_sub hl [] rfl)
  · have hf := (if_neg hc).symm.trans hf
    refine lv_iload_n (pc := 8) hx hb dX8_get_8 rfl (lv_at hl 2 rfl) ?_
    refine lv_iconst (pc := 9) (v := 2) hx hb dX8_get_9 ic_2 ?_
    obtain ⟨r2, hq, hf⟩ := bind1_some hf
    refine fin2_i (wl_X8_get cA a x_stale x_finding sheet0_lost sheet0_form sheet0_size sheet0_items sheet1_lost sheet1_form sheet1_size sheet1_items sheet2_lost sheet2_form sheet2_size sheet2_items sheet3_lost sheet3_form sheet3_size sheet3_items) (run_S (rest := []) (pc := 10) (As := [.int x2, .int (2 : Int32)]) C mf_X8_90 (c_X8_isUpTo l D cA  x2 (2 : Int32) r2 hq H.size) rfl rfl ⟨(Nat.le_of_ble_eq_true rfl), (Nat.le_of_ble_eq_true rfl)⟩ (preS_of C hP hD [] rfl (pl_nd pv_79)) rfl hl.1 rfl (Nat.le_of_ble_eq_true rfl) dX8_get_10 ⟨Nat.zero_le _, Nat.zero_le _⟩) hP hD hS hA [] [0, 1, 2, 3, 4, 5, 6, 7, 8, 9] rfl rfl rfl rfl pv_79 (fun H locs hP hS => ?_)
    refine lv_if_ne (pc := 13) (tgt := 20) hx hb dX8_get_13 (by decide) (fun hc => ?_) (fun hc => ?_)
    · have hf := (if_neg hc).symm.trans hf
      refine lv_aload_n (pc := 20) hx hb dX8_get_20 rfl (lv_at hl 0 rfl) ?_
      refine g_get (pc := 21) C fg_X8_77 hP 0 rfl rfl dX8_get_21 ?_
      refine lv_iload_n (pc := 24) hx hb dX8_get_24 rfl (lv_at hl 1 rfl) ?_
      by_cases h_0 : x1 = (0 : Int32)
      · have hf := (if_pos h_0).symm.trans hf
        refine g_aald (pc := 25) (b := (a 46)) C hP 1 rfl (t0 := 3) rfl (by rw [h_0]; decide) (by rw [h_0, tn_0]; rfl) dX8_get_25 ?_
        refine lv_iload_n (pc := 26) hx hb dX8_get_26 rfl (lv_at hl 2 rfl) ?_
        refine lv_iload_n (pc := 27) hx hb dX8_get_27 rfl (lv_at hl 3 rfl) ?_
        obtain ⟨r3, hq, hf⟩ := bind1_some hf
        refine fin2_i (wl_X8_get cA a x_stale x_finding sheet0_lost sheet0_form sheet0_size sheet0_items sheet1_lost sheet1_form sheet1_size sheet1_items sheet2_lost sheet2_form sheet2_size sheet2_items sheet3_lost sheet3_form sheet3_size sheet3_items) (run_V (rest := []) (pc := 28) (As := [.int x2, .int x3]) C mf_X8_315 (c_X5_wrongWith l D cA (a 46) (a 47) sheet0_lost sheet0_form sheet0_size x2 x3 r3 hq H.size) rfl rfl ⟨(Nat.le_of_ble_eq_true rfl), (Nat.le_of_ble_eq_true rfl)⟩ (preV_of C hP hD [2] rfl (pl_nd pv_85) 0 rfl rfl rfl) rfl hl.1 rfl (Nat.le_of_ble_eq_true rfl) dX8_get_28 ⟨Nat.zero_le _, Nat.zero_le _⟩) hP hD hS hA [2] [0, 1, 3, 4, 5, 6, 7, 8, 9] rfl rfl rfl rfl pv_85 (fun H locs hP hS => ?_)
        refine lv_istore (pc := 31) (lv' := [(4, .int r3), (0, .ref (a 0)), (1, .int x1), (2, .int x2), (3, .int x3)]) hx hb dX8_get_31 hl (Nat.le_of_ble_eq_true rfl) rfl (fun ls hl => ?_)
        refine lv_iload (pc := 33) hx hb dX8_get_33 (lv_at hl 0 rfl) ?_
        refine lv_if_eq (pc := 35) (tgt := 48) hx hb dX8_get_35 (by decide) (fun hc => ?_) (fun hc => ?_)
        · have hf := (if_pos hc).symm.trans hf
          refine lv_aload_n (pc := 48) hx hb dX8_get_48 rfl (lv_at hl 1 rfl) ?_
          refine g_get (pc := 49) C fg_X8_77 hP 0 rfl rfl dX8_get_49 ?_
          refine lv_iload_n (pc := 52) hx hb dX8_get_52 rfl (lv_at hl 2 rfl) ?_
          by_cases h_0 : x1 = (0 : Int32)
          · have hf := (if_pos h_0).symm.trans hf
            refine g_aald (pc := 53) (b := (a 46)) C hP 1 rfl (t0 := 3) rfl (by rw [h_0]; decide) (by rw [h_0, tn_0]; rfl) dX8_get_53 ?_
            refine g_get (pc := 54) C fg_X8_146 hP 2 rfl rfl dX8_get_54 ?_
            refine lv_iload_n (pc := 57) hx hb dX8_get_57 rfl (lv_at hl 4 rfl) ?_
            obtain ⟨hg, hf⟩ := gd_some hf
            refine g_iald (pc := 58) C hP 3 rfl hg dX8_get_58 ?_
            have hf := Option.some.inj hf
            subst hf
            exact ret_i C hr hlk hP hS dX8_get_59
          have hf := (if_neg h_0).symm.trans hf
          by_cases h_1 : x1 = (1 : Int32)
          · have hf := (if_pos h_1).symm.trans hf
            refine g_aald (pc := 53) (b := (a 48)) C hP 1 rfl (t0 := 3) rfl (by rw [h_1]; decide) (by rw [h_1, tn_1]; rfl) dX8_get_53 ?_
            refine g_get (pc := 54) C fg_X8_146 hP 4 rfl rfl dX8_get_54 ?_
            refine lv_iload_n (pc := 57) hx hb dX8_get_57 rfl (lv_at hl 4 rfl) ?_
            obtain ⟨hg, hf⟩ := gd_some hf
            refine g_iald (pc := 58) C hP 5 rfl hg dX8_get_58 ?_
            have hf := Option.some.inj hf
            subst hf
            exact ret_i C hr hlk hP hS dX8_get_59
          have hf := (if_neg h_1).symm.trans hf
          by_cases h_2 : x1 = (2 : Int32)
          · have hf := (if_pos h_2).symm.trans hf
            refine g_aald (pc := 53) (b := (a 50)) C hP 1 rfl (t0 := 3) rfl (by rw [h_2]; decide) (by rw [h_2, tn_2]; rfl) dX8_get_53 ?_
            refine g_get (pc := 54) C fg_X8_146 hP 6 rfl rfl dX8_get_54 ?_
            refine lv_iload_n (pc := 57) hx hb dX8_get_57 rfl (lv_at hl 4 rfl) ?_
            obtain ⟨hg, hf⟩ := gd_some hf
            refine g_iald (pc := 58) C hP 7 rfl hg dX8_get_58 ?_
            have hf := Option.some.inj hf
            subst hf
            exact ret_i C hr hlk hP hS dX8_get_59
          have hf := (if_neg h_2).symm.trans hf
          by_cases h_3 : x1 = (3 : Int32)
          · have hf := (if_pos h_3).symm.trans hf
            refine g_aald (pc := 53) (b := (a 52)) C hP 1 rfl (t0 := 3) rfl (by rw [h_3]; decide) (by rw [h_3, tn_3]; rfl) dX8_get_53 ?_
            refine g_get (pc := 54) C fg_X8_146 hP 8 rfl rfl dX8_get_54 ?_
            refine lv_iload_n (pc := 57) hx hb dX8_get_57 rfl (lv_at hl 4 rfl) ?_
            obtain ⟨hg, hf⟩ := gd_some hf
            refine g_iald (pc := 58) C hP 9 rfl hg dX8_get_58 ?_
            have hf := Option.some.inj hf
            subst hf
            exact ret_i C hr hlk hP hS dX8_get_59
          have hf := (if_neg h_3).symm.trans hf
          cases hf
        · have hf := (if_neg hc).symm.trans hf
          refine lv_aload_n (pc := 38) hx hb dX8_get_38 rfl (lv_at hl 1 rfl) ?_
          refine lv_iload (pc := 39) hx hb dX8_get_39 (lv_at hl 0 rfl) ?_
          refine g_put (pc := 41) C fg_X8_86 ft_X8_13 hP hD hS 0 rfl rfl rfl (Nat.le_of_ble_eq_true rfl) dX8_get_41 (fun H locs hP hD hS => ?_)
          have hP : va_P D classes (wl_X8_get cA a x_stale r3 sheet0_lost sheet0_form sheet0_size sheet0_items sheet1_lost sheet1_form sheet1_size sheet1_items sheet2_lost sheet2_form sheet2_size sheet2_items sheet3_lost sheet3_form sheet3_size sheet3_items) H := hP
          have hD : va_D (va_A ws0 sz) (wl_X8_get cA a x_stale r3 sheet0_lost sheet0_form sheet0_size sheet0_items sheet1_lost sheet1_form sheet1_size sheet1_items sheet2_lost sheet2_form sheet2_size sheet2_items sheet3_lost sheet3_form sheet3_size sheet3_items) := hD
          refine lv_ldcw (pc := 44) hx hb hown (hts _ (lg_in mw_343 rfl)) dX8_get_44 ?_
          have hf := Option.some.inj hf
          subst hf
          exact ret_i C hr hlk hP hS dX8_get_47
      have hf := (if_neg h_0).symm.trans hf
      by_cases h_1 : x1 = (1 : Int32)
      · have hf := (if_pos h_1).symm.trans hf
        refine g_aald (pc := 25) (b := (a 48)) C hP 1 rfl (t0 := 3) rfl (by rw [h_1]; decide) (by rw [h_1, tn_1]; rfl) dX8_get_25 ?_
        refine lv_iload_n (pc := 26) hx hb dX8_get_26 rfl (lv_at hl 2 rfl) ?_
        refine lv_iload_n (pc := 27) hx hb dX8_get_27 rfl (lv_at hl 3 rfl) ?_
        obtain ⟨r4, hq, hf⟩ := bind1_some hf
        refine fin2_i (wl_X8_get cA a x_stale x_finding sheet0_lost sheet0_form sheet0_size sheet0_items sheet1_lost sheet1_form sheet1_size sheet1_items sheet2_lost sheet2_form sheet2_size sheet2_items sheet3_lost sheet3_form sheet3_size sheet3_items) (run_V (rest := []) (pc := 28) (As := [.int x2, .int x3]) C mf_X8_315 (c_X5_wrongWith l D cA (a 48) (a 49) sheet1_lost sheet1_form sheet1_size x2 x3 r4 hq H.size) rfl rfl ⟨(Nat.le_of_ble_eq_true rfl), (Nat.le_of_ble_eq_true rfl)⟩ (preV_of C hP hD [4] rfl (pl_nd pv_86) 0 rfl rfl rfl) rfl hl.1 rfl (Nat.le_of_ble_eq_true rfl) dX8_get_28 ⟨Nat.zero_le _, Nat.zero_le _⟩) hP hD hS hA [4] [0, 1, 2, 3, 5, 6, 7, 8, 9] rfl rfl rfl rfl pv_86 (fun H locs hP hS => ?_)
        refine lv_istore (pc := 31) (lv' := [(4, .int r4), (0, .ref (a 0)), (1, .int x1), (2, .int x2), (3, .int x3)]) hx hb dX8_get_31 hl (Nat.le_of_ble_eq_true rfl) rfl (fun ls hl => ?_)
        refine lv_iload (pc := 33) hx hb dX8_get_33 (lv_at hl 0 rfl) ?_
        refine lv_if_eq (pc := 35) (tgt := 48) hx hb dX8_get_35 (by decide) (fun hc => ?_) (fun hc => ?_)
        · have hf := (if_pos hc).symm.trans hf
          refine lv_aload_n (pc := 48) hx hb dX8_get_48 rfl (lv_at hl 1 rfl) ?_
          refine g_get (pc := 49) C fg_X8_77 hP 0 rfl rfl dX8_get_49 ?_
          refine lv_iload_n (pc := 52) hx hb dX8_get_52 rfl (lv_at hl 2 rfl) ?_
          by_cases h_0 : x1 = (0 : Int32)
          · have hf := (if_pos h_0).symm.trans hf
            refine g_aald (pc := 53) (b := (a 46)) C hP 1 rfl (t0 := 3) rfl (by rw [h_0]; decide) (by rw [h_0, tn_0]; rfl) dX8_get_53 ?_
            refine g_get (pc := 54) C fg_X8_146 hP 2 rfl rfl dX8_get_54 ?_
            refine lv_iload_n (pc := 57) hx hb dX8_get_57 rfl (lv_at hl 4 rfl) ?_
            obtain ⟨hg, hf⟩ := gd_some hf
            refine g_iald (pc := 58) C hP 3 rfl hg dX8_get_58 ?_
            have hf := Option.some.inj hf
            subst hf
            exact ret_i C hr hlk hP hS dX8_get_59
          have hf := (if_neg h_0).symm.trans hf
          by_cases h_1 : x1 = (1 : Int32)
          · have hf := (if_pos h_1).symm.trans hf
            refine g_aald (pc := 53) (b := (a 48)) C hP 1 rfl (t0 := 3) rfl (by rw [h_1]; decide) (by rw [h_1, tn_1]; rfl) dX8_get_53 ?_
            refine g_get (pc := 54) C fg_X8_146 hP 4 rfl rfl dX8_get_54 ?_
            refine lv_iload_n (pc := 57) hx hb dX8_get_57 rfl (lv_at hl 4 rfl) ?_
            obtain ⟨hg, hf⟩ := gd_some hf
            refine g_iald (pc := 58) C hP 5 rfl hg dX8_get_58 ?_
            have hf := Option.some.inj hf
            subst hf
            exact ret_i C hr hlk hP hS dX8_get_59
          have hf := (if_neg h_1).symm.trans hf
          by_cases h_2 : x1 = (2 : Int32)
          · have hf := (if_pos h_2).symm.trans hf
            refine g_aald (pc := 53) (b := (a 50)) C hP 1 rfl (t0 := 3) rfl (by rw [h_2]; decide) (by rw [h_2, tn_2]; rfl) dX8_get_53 ?_
            refine g_get (pc := 54) C fg_X8_146 hP 6 rfl rfl dX8_get_54 ?_
            refine lv_iload_n (pc := 57) hx hb dX8_get_57 rfl (lv_at hl 4 rfl) ?_
            obtain ⟨hg, hf⟩ := gd_some hf
            refine g_iald (pc := 58) C hP 7 rfl hg dX8_get_58 ?_
            have hf := Option.some.inj hf
            subst hf
            exact ret_i C hr hlk hP hS dX8_get_59
          have hf := (if_neg h_2).symm.trans hf
          by_cases h_3 : x1 = (3 : Int32)
          · have hf := (if_pos h_3).symm.trans hf
            refine g_aald (pc := 53) (b := (a 52)) C hP 1 rfl (t0 := 3) rfl (by rw [h_3]; decide) (by rw [h_3, tn_3]; rfl) dX8_get_53 ?_
            refine g_get (pc := 54) C fg_X8_146 hP 8 rfl rfl dX8_get_54 ?_
            refine lv_iload_n (pc := 57) hx hb dX8_get_57 rfl (lv_at hl 4 rfl) ?_
            obtain ⟨hg, hf⟩ := gd_some hf
            refine g_iald (pc := 58) C hP 9 rfl hg dX8_get_58 ?_
            have hf := Option.some.inj hf
            subst hf
            exact ret_i C hr hlk hP hS dX8_get_59
          have hf := (if_neg h_3).symm.trans hf
          cases hf
        · have hf := (if_neg hc).symm.trans hf
          refine lv_aload_n (pc := 38) hx hb dX8_get_38 rfl (lv_at hl 1 rfl) ?_
          refine lv_iload (pc := 39) hx hb dX8_get_39 (lv_at hl 0 rfl) ?_
          refine g_put (pc := 41) C fg_X8_86 ft_X8_13 hP hD hS 0 rfl rfl rfl (Nat.le_of_ble_eq_true rfl) dX8_get_41 (fun H locs hP hD hS => ?_)
          have hP : va_P D classes (wl_X8_get cA a x_stale r4 sheet0_lost sheet0_form sheet0_size sheet0_items sheet1_lost sheet1_form sheet1_size sheet1_items sheet2_lost sheet2_form sheet2_size sheet2_items sheet3_lost sheet3_form sheet3_size sheet3_items) H := hP
          have hD : va_D (va_A ws0 sz) (wl_X8_get cA a x_stale r4 sheet0_lost sheet0_form sheet0_size sheet0_items sheet1_lost sheet1_form sheet1_size sheet1_items sheet2_lost sheet2_form sheet2_size sheet2_items sheet3_lost sheet3_form sheet3_size sheet3_items) := hD
          refine lv_ldcw (pc := 44) hx hb hown (hts _ (lg_in mw_343 rfl)) dX8_get_44 ?_
          have hf := Option.some.inj hf
          subst hf
          exact ret_i C hr hlk hP hS dX8_get_47
      have hf := (if_neg h_1).symm.trans hf
      by_cases h_2 : x1 = (2 : Int32)
      · have hf := (if_pos h_2).symm.trans hf
        refine g_aald (pc := 25) (b := (a 50)) C hP 1 rfl (t0 := 3) rfl (by rw [h_2]; decide) (by rw [h_2, tn_2]; rfl) dX8_get_25 ?_
        refine lv_iload_n (pc := 26) hx hb dX8_get_26 rfl (lv_at hl 2 rfl) ?_
        refine lv_iload_n (pc := 27) hx hb dX8_get_27 rfl (lv_at hl 3 rfl) ?_
        obtain ⟨r5, hq, hf⟩ := bind1_some hf
        refine fin2_i (wl_X8_get cA a x_stale x_finding sheet0_lost sheet0_form sheet0_size sheet0_items sheet1_lost sheet1_form sheet1_size sheet1_items sheet2_lost sheet2_form sheet2_size sheet2_items sheet3_lost sheet3_form sheet3_size sheet3_items) (run_V (rest := []) (pc := 28) (As := [.int x2, .int x3]) C mf_X8_315 (c_X5_wrongWith l D cA (a 50) (a 51) sheet2_lost sheet2_form sheet2_size x2 x3 r5 hq H.size) rfl rfl ⟨(Nat.le_of_ble_eq_true rfl), (Nat.le_of_ble_eq_true rfl)⟩ (preV_of C hP hD [6] rfl (pl_nd pv_87) 0 rfl rfl rfl) rfl hl.1 rfl (Nat.le_of_ble_eq_true rfl) dX8_get_28 ⟨Nat.zero_le _, Nat.zero_le _⟩) hP hD hS hA [6] [0, 1, 2, 3, 4, 5, 7, 8, 9] rfl rfl rfl rfl pv_87 (fun H locs hP hS => ?_)
        refine lv_istore (pc := 31) (lv' := [(4, .int r5), (0, .ref (a 0)), (1, .int x1), (2, .int x2), (3, .int x3)]) hx hb dX8_get_31 hl (Nat.le_of_ble_eq_true rfl) rfl (fun ls hl => ?_)
        refine lv_iload (pc := 33) hx hb dX8_get_33 (lv_at hl 0 rfl) ?_
        refine lv_if_eq (pc := 35) (tgt := 48) hx hb dX8_get_35 (by decide) (fun hc => ?_) (fun hc => ?_)
        · have hf := (if_pos hc).symm.trans hf
          refine lv_aload_n (pc := 48) hx hb dX8_get_48 rfl (lv_at hl 1 rfl) ?_
          refine g_get (pc := 49) C fg_X8_77 hP 0 rfl rfl dX8_get_49 ?_
          refine lv_iload_n (pc := 52) hx hb dX8_get_52 rfl (lv_at hl 2 rfl) ?_
          by_cases h_0 : x1 = (0 : Int32)
          · have hf := (if_pos h_0).symm.trans hf
            refine g_aald (pc := 53) (b := (a 46)) C hP 1 rfl (t0 := 3) rfl (by rw [h_0]; decide) (by rw [h_0, tn_0]; rfl) dX8_get_53 ?_
            refine g_get (pc := 54) C fg_X8_146 hP 2 rfl rfl dX8_get_54 ?_
            refine lv_iload_n (pc := 57) hx hb dX8_get_57 rfl (lv_at hl 4 rfl) ?_
            obtain ⟨hg, hf⟩ := gd_some hf
            refine g_iald (pc := 58) C hP 3 rfl hg dX8_get_58 ?_
            have hf := Option.some.inj hf
            subst hf
            exact ret_i C hr hlk hP hS dX8_get_59
          have hf := (if_neg h_0).symm.trans hf
          by_cases h_1 : x1 = (1 : Int32)
          · have hf := (if_pos h_1).symm.trans hf
            refine g_aald (pc := 53) (b := (a 48)) C hP 1 rfl (t0 := 3) rfl (by rw [h_1]; decide) (by rw [h_1, tn_1]; rfl) dX8_get_53 ?_
            refine g_get (pc := 54) C fg_X8_146 hP 4 rfl rfl dX8_get_54 ?_
            refine lv_iload_n (pc := 57) hx hb dX8_get_57 rfl (lv_at hl 4 rfl) ?_
            obtain ⟨hg, hf⟩ := gd_some hf
            refine g_iald (pc := 58) C hP 5 rfl hg dX8_get_58 ?_
            have hf := Option.some.inj hf
            subst hf
            exact ret_i C hr hlk hP hS dX8_get_59
          have hf := (if_neg h_1).symm.trans hf
          by_cases h_2 : x1 = (2 : Int32)
          · have hf := (if_pos h_2).symm.trans hf
            refine g_aald (pc := 53) (b := (a 50)) C hP 1 rfl (t0 := 3) rfl (by rw [h_2]; decide) (by rw [h_2, tn_2]; rfl) dX8_get_53 ?_
            refine g_get (pc := 54) C fg_X8_146 hP 6 rfl rfl dX8_get_54 ?_
            refine lv_iload_n (pc := 57) hx hb dX8_get_57 rfl (lv_at hl 4 rfl) ?_
            obtain ⟨hg, hf⟩ := gd_some hf
            refine g_iald (pc := 58) C hP 7 rfl hg dX8_get_58 ?_
            have hf := Option.some.inj hf
            subst hf
            exact ret_i C hr hlk hP hS dX8_get_59
          have hf := (if_neg h_2).symm.trans hf
          by_cases h_3 : x1 = (3 : Int32)
          · have hf := (if_pos h_3).symm.trans hf
            refine g_aald (pc := 53) (b := (a 52)) C hP 1 rfl (t0 := 3) rfl (by rw [h_3]; decide) (by rw [h_3, tn_3]; rfl) dX8_get_53 ?_
            refine g_get (pc := 54) C fg_X8_146 hP 8 rfl rfl dX8_get_54 ?_
            refine lv_iload_n (pc := 57) hx hb dX8_get_57 rfl (lv_at hl 4 rfl) ?_
            obtain ⟨hg, hf⟩ := gd_some hf
            refine g_iald (pc := 58) C hP 9 rfl hg dX8_get_58 ?_
            have hf := Option.some.inj hf
            subst hf
            exact ret_i C hr hlk hP hS dX8_get_59
          have hf := (if_neg h_3).symm.trans hf
          cases hf
        · have hf := (if_neg hc).symm.trans hf
          refine lv_aload_n (pc := 38) hx hb dX8_get_38 rfl (lv_at hl 1 rfl) ?_
          refine lv_iload (pc := 39) hx hb dX8_get_39 (lv_at hl 0 rfl) ?_
          refine g_put (pc := 41) C fg_X8_86 ft_X8_13 hP hD hS 0 rfl rfl rfl (Nat.le_of_ble_eq_true rfl) dX8_get_41 (fun H locs hP hD hS => ?_)
          have hP : va_P D classes (wl_X8_get cA a x_stale r5 sheet0_lost sheet0_form sheet0_size sheet0_items sheet1_lost sheet1_form sheet1_size sheet1_items sheet2_lost sheet2_form sheet2_size sheet2_items sheet3_lost sheet3_form sheet3_size sheet3_items) H := hP
          have hD : va_D (va_A ws0 sz) (wl_X8_get cA a x_stale r5 sheet0_lost sheet0_form sheet0_size sheet0_items sheet1_lost sheet1_form sheet1_size sheet1_items sheet2_lost sheet2_form sheet2_size sheet2_items sheet3_lost sheet3_form sheet3_size sheet3_items) := hD
          refine lv_ldcw (pc := 44) hx hb hown (hts _ (lg_in mw_343 rfl)) dX8_get_44 ?_
          have hf := Option.some.inj hf
          subst hf
          exact ret_i C hr hlk hP hS dX8_get_47
      have hf := (if_neg h_2).symm.trans hf
      by_cases h_3 : x1 = (3 : Int32)
      · have hf := (if_pos h_3).symm.trans hf
        refine g_aald (pc := 25) (b := (a 52)) C hP 1 rfl (t0 := 3) rfl (by rw [h_3]; decide) (by rw [h_3, tn_3]; rfl) dX8_get_25 ?_
        refine lv_iload_n (pc := 26) hx hb dX8_get_26 rfl (lv_at hl 2 rfl) ?_
        refine lv_iload_n (pc := 27) hx hb dX8_get_27 rfl (lv_at hl 3 rfl) ?_
        obtain ⟨r6, hq, hf⟩ := bind1_some hf
        refine fin2_i (wl_X8_get cA a x_stale x_finding sheet0_lost sheet0_form sheet0_size sheet0_items sheet1_lost sheet1_form sheet1_size sheet1_items sheet2_lost sheet2_form sheet2_size sheet2_items sheet3_lost sheet3_form sheet3_size sheet3_items) (run_V (rest := []) (pc := 28) (As := [.int x2, .int x3]) C mf_X8_315 (c_X5_wrongWith l D cA (a 52) (a 53) sheet3_lost sheet3_form sheet3_size x2 x3 r6 hq H.size) rfl rfl ⟨(Nat.le_of_ble_eq_true rfl), (Nat.le_of_ble_eq_true rfl)⟩ (preV_of C hP hD [8] rfl (pl_nd pv_88) 0 rfl rfl rfl) rfl hl.1 rfl (Nat.le_of_ble_eq_true rfl) dX8_get_28 ⟨Nat.zero_le _, Nat.zero_le _⟩) hP hD hS hA [8] [0, 1, 2, 3, 4, 5, 6, 7, 9] rfl rfl rfl rfl pv_88 (fun H locs hP hS => ?_)
        refine lv_istore (pc := 31) (lv' := [(4, .int r6), (0, .ref (a 0)), (1, .int x1), (2, .int x2), (3, .int x3)]) hx hb dX8_get_31 hl (Nat.le_of_ble_eq_true rfl) rfl (fun ls hl => ?_)
        refine lv_iload (pc := 33) hx hb dX8_get_33 (lv_at hl 0 rfl) ?_
        refine lv_if_eq (pc := 35) (tgt := 48) hx hb dX8_get_35 (by decide) (fun hc => ?_) (fun hc => ?_)
        · have hf := (if_pos hc).symm.trans hf
          refine lv_aload_n (pc := 48) hx hb dX8_get_48 rfl (lv_at hl 1 rfl) ?_
          refine g_get (pc := 49) C fg_X8_77 hP 0 rfl rfl dX8_get_49 ?_
          refine lv_iload_n (pc := 52) hx hb dX8_get_52 rfl (lv_at hl 2 rfl) ?_
          by_cases h_0 : x1 = (0 : Int32)
          · have hf := (if_pos h_0).symm.trans hf
            refine g_aald (pc := 53) (b := (a 46)) C hP 1 rfl (t0 := 3) rfl (by rw [h_0]; decide) (by rw [h_0, tn_0]; rfl) dX8_get_53 ?_
            refine g_get (pc := 54) C fg_X8_146 hP 2 rfl rfl dX8_get_54 ?_
            refine lv_iload_n (pc := 57) hx hb dX8_get_57 rfl (lv_at hl 4 rfl) ?_
            obtain ⟨hg, hf⟩ := gd_some hf
            refine g_iald (pc := 58) C hP 3 rfl hg dX8_get_58 ?_
            have hf := Option.some.inj hf
            subst hf
            exact ret_i C hr hlk hP hS dX8_get_59
          have hf := (if_neg h_0).symm.trans hf
          by_cases h_1 : x1 = (1 : Int32)
          · have hf := (if_pos h_1).symm.trans hf
            refine g_aald (pc := 53) (b := (a 48)) C hP 1 rfl (t0 := 3) rfl (by rw [h_1]; decide) (by rw [h_1, tn_1]; rfl) dX8_get_53 ?_
            refine g_get (pc := 54) C fg_X8_146 hP 4 rfl rfl dX8_get_54 ?_
            refine lv_iload_n (pc := 57) hx hb dX8_get_57 rfl (lv_at hl 4 rfl) ?_
            obtain ⟨hg, hf⟩ := gd_some hf
            refine g_iald (pc := 58) C hP 5 rfl hg dX8_get_58 ?_
            have hf := Option.some.inj hf
            subst hf
            exact ret_i C hr hlk hP hS dX8_get_59
          have hf := (if_neg h_1).symm.trans hf
          by_cases h_2 : x1 = (2 : Int32)
          · have hf := (if_pos h_2).symm.trans hf
            refine g_aald (pc := 53) (b := (a 50)) C hP 1 rfl (t0 := 3) rfl (by rw [h_2]; decide) (by rw [h_2, tn_2]; rfl) dX8_get_53 ?_
            refine g_get (pc := 54) C fg_X8_146 hP 6 rfl rfl dX8_get_54 ?_
            refine lv_iload_n (pc := 57) hx hb dX8_get_57 rfl (lv_at hl 4 rfl) ?_
            obtain ⟨hg, hf⟩ := gd_some hf
            refine g_iald (pc := 58) C hP 7 rfl hg dX8_get_58 ?_
            have hf := Option.some.inj hf
            subst hf
            exact ret_i C hr hlk hP hS dX8_get_59
          have hf := (if_neg h_2).symm.trans hf
          by_cases h_3 : x1 = (3 : Int32)
          · have hf := (if_pos h_3).symm.trans hf
            refine g_aald (pc := 53) (b := (a 52)) C hP 1 rfl (t0 := 3) rfl (by rw [h_3]; decide) (by rw [h_3, tn_3]; rfl) dX8_get_53 ?_
            refine g_get (pc := 54) C fg_X8_146 hP 8 rfl rfl dX8_get_54 ?_
            refine lv_iload_n (pc := 57) hx hb dX8_get_57 rfl (lv_at hl 4 rfl) ?_
            obtain ⟨hg, hf⟩ := gd_some hf
            refine g_iald (pc := 58) C hP 9 rfl hg dX8_get_58 ?_
            have hf := Option.some.inj hf
            subst hf
            exact ret_i C hr hlk hP hS dX8_get_59
          have hf := (if_neg h_3).symm.trans hf
          cases hf
        · have hf := (if_neg hc).symm.trans hf
          refine lv_aload_n (pc := 38) hx hb dX8_get_38 rfl (lv_at hl 1 rfl) ?_
          refine lv_iload (pc := 39) hx hb dX8_get_39 (lv_at hl 0 rfl) ?_
          refine g_put (pc := 41) C fg_X8_86 ft_X8_13 hP hD hS 0 rfl rfl rfl (Nat.le_of_ble_eq_true rfl) dX8_get_41 (fun H locs hP hD hS => ?_)
          have hP : va_P D classes (wl_X8_get cA a x_stale r6 sheet0_lost sheet0_form sheet0_size sheet0_items sheet1_lost sheet1_form sheet1_size sheet1_items sheet2_lost sheet2_form sheet2_size sheet2_items sheet3_lost sheet3_form sheet3_size sheet3_items) H := hP
          have hD : va_D (va_A ws0 sz) (wl_X8_get cA a x_stale r6 sheet0_lost sheet0_form sheet0_size sheet0_items sheet1_lost sheet1_form sheet1_size sheet1_items sheet2_lost sheet2_form sheet2_size sheet2_items sheet3_lost sheet3_form sheet3_size sheet3_items) := hD
          refine lv_ldcw (pc := 44) hx hb hown (hts _ (lg_in mw_343 rfl)) dX8_get_44 ?_
          have hf := Option.some.inj hf
          subst hf
          exact ret_i C hr hlk hP hS dX8_get_47
      have hf := (if_neg h_3).symm.trans hf
      cases hf
    · have hf := (if_pos hc).symm.trans hf
      exact k_X8_get_b16 C hr hlk hA a x_stale x_finding sheet0_lost sheet0_form sheet0_size sheet0_items sheet1_lost sheet1_form sheet1_size sheet1_items sheet2_lost sheet2_form sheet2_size sheet2_items sheet3_lost sheet3_form sheet3_size sheet3_items r hf H locs ls hP hD hS (lv_sub hl [] rfl)
set_option maxRecDepth 100000 in
theorem c_X8_get (l : Launch) (D : va_G) (cA : Nat → ClassId) (a : Nat → Nat) (x_stale : Int32) (x_finding : Int32) (sheet0_lost : Int32) (sheet0_form : Int32) (sheet0_size : Int32) (sheet0_items : Nat → Int32) (sheet1_lost : Int32) (sheet1_form : Int32) (sheet1_size : Int32) (sheet1_items : Nat → Int32) (sheet2_lost : Int32) (sheet2_form : Int32) (sheet2_size : Int32) (sheet2_items : Nat → Int32) (sheet3_lost : Int32) (sheet3_form : Int32) (sheet3_size : Int32) (sheet3_items : Nat → Int32) (x1 : Int32) (x2 : Int32) (x3 : Int32) (r : Int32 × Int32) (hf : f_X8_get x_finding sheet0_lost sheet0_form sheet0_size sheet0_items sheet1_lost sheet1_form sheet1_size sheet1_items sheet2_lost sheet2_form sheet2_size sheet2_items sheet3_lost sheet3_form sheet3_size sheet3_items x1 x2 x3 = some r) (sz : Nat) : Met l yX8_get (Cond.code yX8_get cX8_get 5 (some .int) :: lw_good) rm_X8_get (PreX D cA [.ref (a 0), .int x1, .int x2, .int x3] sz (wl_X8_get cA a x_stale x_finding sheet0_lost sheet0_form sheet0_size sheet0_items sheet1_lost sheet1_form sheet1_size sheet1_items sheet2_lost sheet2_form sheet2_size sheet2_items sheet3_lost sheet3_form sheet3_size sheet3_items)) (PostI D r.1 (wl_X8_get cA a x_stale x_finding sheet0_lost sheet0_form sheet0_size sheet0_items sheet1_lost sheet1_form sheet1_size sheet1_items sheet2_lost sheet2_form sheet2_size sheet2_items sheet3_lost sheet3_form sheet3_size sheet3_items) (wl_X8_get cA a x_stale (r.2) sheet0_lost sheet0_form sheet0_size sheet0_items sheet1_lost sheet1_form sheet1_size sheet1_items sheet2_lost sheet2_form sheet2_size sheet2_items sheet3_lost sheet3_form sheet3_size sheet3_items) sz) 0 0 (va_A (wl_X8_get cA a x_stale x_finding sheet0_lost sheet0_form sheet0_size sheet0_items sheet1_lost sheet1_form sheet1_size sheet1_items sheet2_lost sheet2_form sheet2_size sheet2_items sheet3_lost sheet3_form sheet3_size sheet3_items) sz) :=
  met_of (by decide) (Nat.le_of_ble_eq_true rfl) (fun p e s m args below meth c C hr hlk hA => k_X8_get C hr hlk hA a x_stale x_finding sheet0_lost sheet0_form sheet0_size sheet0_items sheet1_lost sheet1_form sheet1_size sheet1_items sheet2_lost sheet2_form sheet2_size sheet2_items sheet3_lost sheet3_form sheet3_size sheet3_items x1 x2 x3 r hf)
end
