abbrev rm_X8_isUpTo : Room := { frames := 0, cells := 0, slots := 0, locals := 0 }
section
variable {p : Program} {l : Launch} {e : Env} {s : State} {m : MethodId} {args : Array Value} {below : List Frame} {meth : Method} {c : Code} {D : va_G} {cA : Nat → ClassId} {ws0 : va_W} {sz : Nat} {A : Nat → Prop} {Q : State → Prop}
def f_X8_isUpTo (x0 : Int32) (x1 : Int32) : Option (Int32) :=
  if x0 < 0 then (some (0 : Int32)) else (if x1 < x0 then (some (0 : Int32)) else (some (1 : Int32)))
set_option maxHeartbeats 4000000 in
set_option maxRecDepth 100000 in
theorem k_X8_isUpTo (C : Cx RX8 cX8_isUpTo 2 D cA p s m args c) (hr : meth.sig.returnType = (some .boolean)) (hlk : meth.locks = false) (hA : ∀ q, s.heap.size ≤ q → va_A ws0 sz q) (x0 : Int32) (x1 : Int32) (r : Int32) (hf : f_X8_isUpTo x0 x1 = some r) : At p l e rm_X8_isUpTo s m args below meth c D (va_A ws0 sz) 0 0 (MQ below (PostI D r ws0 ([] : va_W) sz) args s 0 0 (va_A ws0 sz)) 2 0 ([] : va_W) [(0, .int x0), (1, .int x1)] [] := by
  intro H locs ls hP hD hS hl
  have hx := C.1
  have hb := C.2.1
  have hown := C.2.2.2.1
  have hts := C.2.2.2.2.1
  unfold f_X8_isUpTo at hf
  refine lv_iload_n (pc := 0) hx hb dX8_isUpTo_0 rfl (lv_at hl 0 rfl) ?_
  refine lv_if_lt (pc := 1) (tgt := 13) hx hb dX8_isUpTo_1 (by decide) (fun hc => ?_) (fun hc => ?_)
  · have hf := (if_pos hc).symm.trans hf
    refine lv_iconst (pc := 13) (v := 0) hx hb dX8_isUpTo_13 ic_0 ?_
    cases hf
    exact ret_z C hr hlk (by decide) hP hS dX8_isUpTo_14
  · have hf := (if_neg hc).symm.trans hf
    refine lv_iload_n (pc := 4) hx hb dX8_isUpTo_4 rfl (lv_at hl 0 rfl) ?_
    refine lv_iload_n (pc := 5) hx hb dX8_isUpTo_5 rfl (lv_at hl 1 rfl) ?_
    refine lv_icmp_gt (pc := 6) (tgt := 13) hx hb dX8_isUpTo_6 (by decide) (fun hc => ?_) (fun hc => ?_)
    · have hf := (if_pos hc).symm.trans hf
      refine lv_iconst (pc := 13) (v := 0) hx hb dX8_isUpTo_13 ic_0 ?_
      cases hf
      exact ret_z C hr hlk (by decide) hP hS dX8_isUpTo_14
    · have hf := (if_neg hc).symm.trans hf
      refine lv_iconst (pc := 9) (v := 1) hx hb dX8_isUpTo_9 ic_1 ?_
      refine lv_goto (pc := 10) (tgt := 14) hx hb dX8_isUpTo_10 (by decide) ?_
      cases hf
      exact ret_z C hr hlk (by decide) hP hS dX8_isUpTo_14
set_option maxRecDepth 100000 in
theorem c_X8_isUpTo (l : Launch) (D : va_G) (cA : Nat → ClassId) (x0 : Int32) (x1 : Int32) (r : Int32) (hf : f_X8_isUpTo x0 x1 = some r) (sz : Nat) : Met l yX8_isUpTo (Cond.code yX8_isUpTo cX8_isUpTo 2 (some .boolean) :: lw_good) rm_X8_isUpTo (PreX D cA [.int x0, .int x1] sz ([] : va_W)) (PostI D r ([] : va_W) ([] : va_W) sz) 0 0 (va_A ([] : va_W) sz) :=
  met_of (by decide) (Nat.le_of_ble_eq_true rfl) (fun p e s m args below meth c C hr hlk hA => k_X8_isUpTo C hr hlk hA x0 x1 r hf)
end

abbrev wl_X7_choose (cA : Nat → ClassId) (a_land a_land_kinds a_land_rowAt a_land_columnAt a_land_ways a_land_beside a_bowls a_dogs a_W a_W_steady a_W_fresh a_W_track a_W_gone a_W_trodden a_W_lines : Nat) (land_flaw : Int32) (land_cells : Int32) (land_columns : Int32) (land_rows : Int32) (land_ways : Nat → Int32) (land_beside : Nat → Int32) (W_start : Int32) (W_frost : Int32) (W_present : Int32) (W_raked : Int32) (W_steady : Nat → Int32) (W_fresh : Nat → Int32) : va_W := [(a_land, .inr (3, [.ref a_land_kinds, .ref a_land_rowAt, .ref a_land_columnAt, .ref a_land_ways, .ref a_land_beside, .int land_flaw, .int land_cells, .int land_columns, .int land_rows])), (a_land_ways, .inl (cA 0, 36, .inl land_ways)), (a_land_beside, .inl (cA 0, 144, .inl land_beside)), (a_W, .inr (7, [.ref a_land, .ref a_bowls, .ref a_dogs, .ref a_W_steady, .ref a_W_fresh, .ref a_W_track, .ref a_W_gone, .ref a_W_trodden, .ref a_W_lines, .int W_start, .int W_frost, .int W_present, .int W_raked])), (a_W_steady, .inl (cA 0, 36, .inl W_steady)), (a_W_fresh, .inl (cA 0, 36, .inl W_fresh))]
abbrev rm_X7_choose : Room := { frames := 0, cells := 0, slots := 0, locals := 0 }
section
variable {p : Program} {l : Launch} {e : Env} {s : State} {m : MethodId} {args : Array Value} {below : List Frame} {meth : Method} {c : Code} {D : va_G} {cA : Nat → ClassId} {ws0 : va_W} {sz : Nat} {A : Nat → Prop} {Q : State → Prop}
def f_X7_choose_b104L9 (land_ways : Nat → Int32) (land_beside : Nat → Int32) (W_steady : Nat → Int32) (W_fresh : Nat → Int32) (x1 : Int32) (x2 : Int32) (x3 : Int64) (x5 : Int32) (x6 : Int32) (x7 : Int32) : Option ((Int32 × Int32 × Int32) ⊕ (Int32)) :=
  some (.inl (x5, x6, (x7 + 1)))
set_option maxHeartbeats 4000000 in
set_option maxRecDepth 100000 in
theorem k_X7_choose_b104L9 (C : Cx RX7 cX7_choose 10 D cA p s m args c) (hA : ∀ q, s.heap.size ≤ q → A q) (a_land a_land_kinds a_land_rowAt a_land_columnAt a_land_ways a_land_beside a_bowls a_dogs a_W a_W_steady a_W_fresh a_W_track a_W_gone a_W_trodden a_W_lines : Nat) (land_flaw : Int32) (land_cells : Int32) (land_columns : Int32) (land_rows : Int32) (land_ways : Nat → Int32) (land_beside : Nat → Int32) (W_start : Int32) (W_frost : Int32) (W_present : Int32) (W_raked : Int32) (W_steady : Nat → Int32) (W_fresh : Nat → Int32) (x1 : Int32) (x2 : Int32) (x3 : Int64) (x5 : Int32) (x6 : Int32) (x7 : Int32) (r : (Int32 × Int32 × Int32) ⊕ (Int32)) (hf : f_X7_choose_b104L9 land_ways land_beside W_steady W_fresh x1 x2 x3 x5 x6 x7 = some r) (hK : Sum.elim (fun q : Int32 × Int32 × Int32 => At p l e rm_X7_choose s m args below meth c D A 0 0 Q 10 9 (wl_X7_choose cA a_land a_land_kinds a_land_rowAt a_land_columnAt a_land_ways a_land_beside a_bowls a_dogs a_W a_W_steady a_W_fresh a_W_track a_W_gone a_W_trodden a_W_lines land_flaw land_cells land_columns land_rows land_ways land_beside W_start W_frost W_present W_raked W_steady W_fresh) [(0, .ref a_W), (1, .int x1), (2, .int x2), (3, .long x3), (5, .int (q.1)), (6, .int (q.2.1)), (7, .int (q.2.2))] []) (fun q : Int32 => At p l e rm_X7_choose s m args below meth c D A 0 0 Q 10 110 (wl_X7_choose cA a_land a_land_kinds a_land_rowAt a_land_columnAt a_land_ways a_land_beside a_bowls a_dogs a_W a_W_steady a_W_fresh a_W_track a_W_gone a_W_trodden a_W_lines land_flaw land_cells land_columns land_rows land_ways land_beside W_start W_frost W_present W_raked W_steady W_fresh) [(2, .int x2), (5, .int q)] []) r) : At p l e rm_X7_choose s m args below meth c D A 0 0 Q 10 104 (wl_X7_choose cA a_land a_land_kinds a_land_rowAt a_land_columnAt a_land_ways a_land_beside a_bowls a_dogs a_W a_W_steady a_W_fresh a_W_track a_W_gone a_W_trodden a_W_lines land_flaw land_cells land_columns land_rows land_ways land_beside W_start W_frost W_present W_raked W_steady W_fresh) [(0, .ref a_W), (1, .int x1), (2, .int x2), (3, .long x3), (5, .int x5), (6, .int x6), (7, .int x7)] [] := by
  intro H locs ls hP hD hS hl
  have hx := C.1
  have hb := C.2.1
  have hown := C.2.2.2.1
  have hts := C.2.2.2.2.1
  unfold f_X7_choose_b104L9 at hf
  refine lv_iinc (pc := 104) (v := (x7 + 1)) (lv' := [(7, .int (x7 + 1)), (0, .ref a_W), (1, .int x1), (2, .int x2), (3, .long x3), (5, .int x5), (6, .int x6)]) hx hb dX7_choose_104 hl (k := 6) rfl rfl (Nat.le_of_ble_eq_true rfl) rfl (fun ls hl => ?_)
  refine lv_goto (pc := 107) (tgt := 9) hx hb dX7_choose_107 (by decide) ?_
  cases hf
  exact hK H locs ls hP hD hS (lv_sub hl [1, 2, 3, 4, 5, 6, 0] rfl)
def f_X7_choose_b96L9 (land_ways : Nat → Int32) (land_beside : Nat → Int32) (W_steady : Nat → Int32) (W_fresh : Nat → Int32) (x1 : Int32) (x2 : Int32) (x3 : Int64) (x7 : Int32) (x8 : Int32) (x9 : Int32) : Option ((Int32 × Int32 × Int32) ⊕ (Int32)) :=
  f_X7_choose_b104L9 land_ways land_beside W_steady W_fresh x1 x2 x3 x8 x9 x7
set_option maxHeartbeats 4000000 in
set_option maxRecDepth 100000 in
theorem k_X7_choose_b96L9 (C : Cx RX7 cX7_choose 10 D cA p s m args c) (hA : ∀ q, s.heap.size ≤ q → A q) (a_land a_land_kinds a_land_rowAt a_land_columnAt a_land_ways a_land_beside a_bowls a_dogs a_W a_W_steady a_W_fresh a_W_track a_W_gone a_W_trodden a_W_lines : Nat) (land_flaw : Int32) (land_cells : Int32) (land_columns : Int32) (land_rows : Int32) (land_ways : Nat → Int32) (land_beside : Nat → Int32) (W_start : Int32) (W_frost : Int32) (W_present : Int32) (W_raked : Int32) (W_steady : Nat → Int32) (W_fresh : Nat → Int32) (x1 : Int32) (x2 : Int32) (x3 : Int64) (x7 : Int32) (x8 : Int32) (x9 : Int32) (r : (Int32 × Int32 × Int32) ⊕ (Int32)) (hf : f_X7_choose_b96L9 land_ways land_beside W_steady W_fresh x1 x2 x3 x7 x8 x9 = some r) (hK : Sum.elim (fun q : Int32 × Int32 × Int32 => At p l e rm_X7_choose s m args below meth c D A 0 0 Q 10 9 (wl_X7_choose cA a_land a_land_kinds a_land_rowAt a_land_columnAt a_land_ways a_land_beside a_bowls a_dogs a_W a_W_steady a_W_fresh a_W_track a_W_gone a_W_trodden a_W_lines land_flaw land_cells land_columns land_rows land_ways land_beside W_start W_frost W_present W_raked W_steady W_fresh) [(0, .ref a_W), (1, .int x1), (2, .int x2), (3, .long x3), (5, .int (q.1)), (6, .int (q.2.1)), (7, .int (q.2.2))] []) (fun q : Int32 => At p l e rm_X7_choose s m args below meth c D A 0 0 Q 10 110 (wl_X7_choose cA a_land a_land_kinds a_land_rowAt a_land_columnAt a_land_ways a_land_beside a_bowls a_dogs a_W a_W_steady a_W_fresh a_W_track a_W_gone a_W_trodden a_W_lines land_flaw land_cells land_columns land_rows land_ways land_beside W_start W_frost W_present W_raked W_steady W_fresh) [(2, .int x2), (5, .int q)] []) r) : At p l e rm_X7_choose s m args below meth c D A 0 0 Q 10 96 (wl_X7_choose cA a_land a_land_kinds a_land_rowAt a_land_columnAt a_land_ways a_land_beside a_bowls a_dogs a_W a_W_steady a_W_fresh a_W_track a_W_gone a_W_trodden a_W_lines land_flaw land_cells land_columns land_rows land_ways land_beside W_start W_frost W_present W_raked W_steady W_fresh) [(0, .ref a_W), (1, .int x1), (2, .int x2), (3, .long x3), (7, .int x7), (8, .int x8), (9, .int x9)] [] := by
  intro H locs ls hP hD hS hl
  have hx := C.1
  have hb := C.2.1
  have hown := C.2.2.2.1
  have hts := C.2.2.2.2.1
  unfold f_X7_choose_b96L9 at hf
  refine lv_iload (pc := 96) hx hb dX7_choose_96 (lv_at hl 5 rfl) ?_
  refine lv_istore (pc := 98) (lv' := [(5, .int x8), (0, .ref a_W), (1, .int x1), (2, .int x2), (3, .long x3), (7, .int x7), (8, .int x8), (9, .int x9)]) hx hb dX7_choose_98 hl (Nat.le_of_ble_eq_true rfl) rfl (fun ls hl => ?_)
  refine lv_iload (pc := 100) hx hb dX7_choose_100 (lv_at hl 7 rfl) ?_
  refine lv_istore (pc := 102) (lv' := [(6, .int x9), (5, .int x8), (0, .ref a_W), (1, .int x1), (2, .int x2), (3, .long x3), (7, .int x7), (8, .int x8), (9, .int x9)]) hx hb dX7_choose_102 hl (Nat.le_of_ble_eq_true rfl) rfl (fun ls hl => ?_)
  exact k_X7_choose_b104L9 C hA a_land a_land_kinds a_land_rowAt a_land_columnAt a_land_ways a_land_beside a_bowls a_dogs a_W a_W_steady a_W_fresh a_W_track a_W_gone a_W_trodden a_W_lines land_flaw land_cells land_columns land_rows land_ways land_beside W_start W_frost W_present W_raked W_steady W_fresh x1 x2 x3 x8 x9 x7 r hf hK H locs ls hP hD hS (lv_sub hl [2, 3, 4, 5, 1, 0, 6] rfl)
def f_X7_choose_b75L9 (land_ways : Nat → Int32) (land_beside : Nat → Int32) (W_steady : Nat → Int32) (W_fresh : Nat → Int32) (x1 : Int32) (x2 : Int32) (x3 : Int64) (x5 : Int32) (x6 : Int32) (x7 : Int32) (x8 : Int32) (s0 : Int32) : Option ((Int32 × Int32 × Int32) ⊕ (Int32)) :=
  if x8 = x2 then (f_X7_choose_b104L9 land_ways land_beside W_steady W_fresh x1 x2 x3 x5 x6 x7) else (if x5 = (-1 : Int32) then (f_X7_choose_b96L9 land_ways land_beside W_steady W_fresh x1 x2 x3 x7 x8 s0) else (if s0 ≤ x6 then (f_X7_choose_b104L9 land_ways land_beside W_steady W_fresh x1 x2 x3 x5 x6 x7) else (f_X7_choose_b96L9 land_ways land_beside W_steady W_fresh x1 x2 x3 x7 x8 s0)))
set_option maxHeartbeats 4000000 in
set_option maxRecDepth 100000 in
theorem k_X7_choose_b75L9 (C : Cx RX7 cX7_choose 10 D cA p s m args c) (hA : ∀ q, s.heap.size ≤ q → A q) (a_land a_land_kinds a_land_rowAt a_land_columnAt a_land_ways a_land_beside a_bowls a_dogs a_W a_W_steady a_W_fresh a_W_track a_W_gone a_W_trodden a_W_lines : Nat) (land_flaw : Int32) (land_cells : Int32) (land_columns : Int32) (land_rows : Int32) (land_ways : Nat → Int32) (land_beside : Nat → Int32) (W_start : Int32) (W_frost : Int32) (W_present : Int32) (W_raked : Int32) (W_steady : Nat → Int32) (W_fresh : Nat → Int32) (x1 : Int32) (x2 : Int32) (x3 : Int64) (x5 : Int32) (x6 : Int32) (x7 : Int32) (x8 : Int32) (s0 : Int32) (r : (Int32 × Int32 × Int32) ⊕ (Int32)) (hf : f_X7_choose_b75L9 land_ways land_beside W_steady W_fresh x1 x2 x3 x5 x6 x7 x8 s0 = some r) (hK : Sum.elim (fun q : Int32 × Int32 × Int32 => At p l e rm_X7_choose s m args below meth c D A 0 0 Q 10 9 (wl_X7_choose cA a_land a_land_kinds a_land_rowAt a_land_columnAt a_land_ways a_land_beside a_bowls a_dogs a_W a_W_steady a_W_fresh a_W_track a_W_gone a_W_trodden a_W_lines land_flaw land_cells land_columns land_rows land_ways land_beside W_start W_frost W_present W_raked W_steady W_fresh) [(0, .ref a_W), (1, .int x1), (2, .int x2), (3, .long x3), (5, .int (q.1)), (6, .int (q.2.1)), (7, .int (q.2.2))] []) (fun q : Int32 => At p l e rm_X7_choose s m args below meth c D A 0 0 Q 10 110 (wl_X7_choose cA a_land a_land_kinds a_land_rowAt a_land_columnAt a_land_ways a_land_beside a_bowls a_dogs a_W a_W_steady a_W_fresh a_W_track a_W_gone a_W_trodden a_W_lines land_flaw land_cells land_columns land_rows land_ways land_beside W_start W_frost W_present W_raked W_steady W_fresh) [(2, .int x2), (5, .int q)] []) r) : At p l e rm_X7_choose s m args below meth c D A 0 0 Q 10 75 (wl_X7_choose cA a_land a_land_kinds a_land_rowAt a_land_columnAt a_land_ways a_land_beside a_bowls a_dogs a_W a_W_steady a_W_fresh a_W_track a_W_gone a_W_trodden a_W_lines land_flaw land_cells land_columns land_rows land_ways land_beside W_start W_frost W_present W_raked W_steady W_fresh) [(0, .ref a_W), (1, .int x1), (2, .int x2), (3, .long x3), (5, .int x5), (6, .int x6), (7, .int x7), (8, .int x8)] [.int s0] := by
  intro H locs ls hP hD hS hl
  have hx := C.1
  have hb := C.2.1
  have hown := C.2.2.2.1
  have hts := C.2.2.2.2.1
  unfold f_X7_choose_b75L9 at hf
  refine lv_istore (pc := 75) (lv' := [(9, .int s0), (0, .ref a_W), (1, .int x1), (2, .int x2), (3, .long x3), (5, .int x5), (6, .int x6), (7, .int x7), (8, .int x8)]) hx hb dX7_choose_75 hl (Nat.le_of_ble_eq_true rfl) rfl (fun ls hl => ?_)
  refine lv_iload (pc := 77) hx hb dX7_choose_77 (lv_at hl 8 rfl) ?_
  refine lv_iload_n (pc := 79) hx hb dX7_choose_79 rfl (lv_at hl 3 rfl) ?_
  refine lv_icmp_eq (pc := 80) (tgt := 104) hx hb dX7_choose_80 (by decide) (fun hc => ?_) (fun hc => ?_)
  · have hf := (if_pos hc).symm.trans hf
    exact k_X7_choose_b104L9 C hA a_land a_land_kinds a_land_rowAt a_land_columnAt a_land_ways a_land_beside a_bowls a_dogs a_W a_W_steady a_W_fresh a_W_track a_W_gone a_W_trodden a_W_lines land_flaw land_cells land_columns land_rows land_ways land_beside W_start W_frost W_present W_raked W_steady W_fresh x1 x2 x3 x5 x6 x7 r hf hK H locs ls hP hD hS (lv_sub hl [1, 2, 3, 4, 5, 6, 7] rfl)
  · have hf := (if_neg hc).symm.trans hf
    refine lv_iload (pc := 83) hx hb dX7_choose_83 (lv_at hl 5 rfl) ?_
    refine lv_iconst (pc := 85) (v := (-1)) hx hb dX7_choose_85 ic_m1 ?_
    refine lv_icmp_eq (pc := 86) (tgt := 96) hx hb dX7_choose_86 (by decide) (fun hc => ?_) (fun hc => ?_)
    · have hf := (if_pos hc).symm.trans hf
      exact k_X7_choose_b96L9 C hA a_land a_land_kinds a_land_rowAt a_land_columnAt a_land_ways a_land_beside a_bowls a_dogs a_W a_W_steady a_W_fresh a_W_track a_W_gone a_W_trodden a_W_lines land_flaw land_cells land_columns land_rows land_ways land_beside W_start W_frost W_present W_raked W_steady W_fresh x1 x2 x3 x7 x8 s0 r hf hK H locs ls hP hD hS (lv_sub hl [1, 2, 3, 4, 7, 8, 0] rfl)
    · have hf := (if_neg hc).symm.trans hf
      refine lv_iload (pc := 89) hx hb dX7_choose_89 (lv_at hl 0 rfl) ?_
      refine lv_iload (pc := 91) hx hb dX7_choose_91 (lv_at hl 6 rfl) ?_
      refine lv_icmp_le (pc := 93) (tgt := 104) hx hb dX7_choose_93 (by decide) (fun hc => ?_) (fun hc => ?_)
      · have hf := (if_pos hc).symm.trans hf
        exact k_X7_choose_b104L9 C hA a_land a_land_kinds a_land_rowAt a_land_columnAt a_land_ways a_land_beside a_bowls a_dogs a_W a_W_steady a_W_fresh a_W_track a_W_gone a_W_trodden a_W_lines land_flaw land_cells land_columns land_rows land_ways land_beside W_start W_frost W_present W_raked W_steady W_fresh x1 x2 x3 x5 x6 x7 r hf hK H locs ls hP hD hS (lv_sub hl [1, 2, 3, 4, 5, 6, 7] rfl)
      · have hf := (if_neg hc).symm.trans hf
        exact k_X7_choose_b96L9 C hA a_land a_land_kinds a_land_rowAt a_land_columnAt a_land_ways a_land_beside a_bowls a_dogs a_W a_W_steady a_W_fresh a_W_track a_W_gone a_W_trodden a_W_lines land_flaw land_cells land_columns land_rows land_ways land_beside W_start W_frost W_present W_raked W_steady W_fresh x1 x2 x3 x7 x8 s0 r hf hK H locs ls hP hD hS (lv_sub hl [1, 2, 3, 4, 7, 8, 0] rfl)
def f_X7_choose_L9 (land_ways : Nat → Int32) (land_beside : Nat → Int32) (W_steady : Nat → Int32) (W_fresh : Nat → Int32) (x1 : Int32) (x2 : Int32) (x3 : Int64) (x5 : Int32) (x6 : Int32) (x7 : Int32) : Option ((Int32 × Int32 × Int32) ⊕ (Int32)) :=
  gd (inb x1 36) (if (land_ways x1.toNatClampNeg) ≤ x7 then (some (.inr x5)) else (gd (inb ((x1 * (4 : Int32)) + x7) 144) (letv ((land_beside ((x1 * (4 : Int32)) + x7).toNatClampNeg)) (fun v1 => if (lg_cmp (((x3.toUInt64 >>> (v1.toInt64.toUInt64 &&& Int64.toUInt64 63)).toInt64) &&& (1 : Int64)) (1 : Int64)) = 0 then (gd (inb v1 36) (f_X7_choose_b75L9 land_ways land_beside W_steady W_fresh x1 x2 x3 x5 x6 x7 v1 (W_steady v1.toNatClampNeg))) else (gd (inb v1 36) (gd (inb v1 36) (f_X7_choose_b75L9 land_ways land_beside W_steady W_fresh x1 x2 x3 x5 x6 x7 v1 ((W_steady v1.toNatClampNeg) + (W_fresh v1.toNatClampNeg)))))))))
set_option maxHeartbeats 4000000 in
set_option maxRecDepth 100000 in
theorem k_X7_choose_L9 (C : Cx RX7 cX7_choose 10 D cA p s m args c) (hA : ∀ q, s.heap.size ≤ q → A q) (a_land a_land_kinds a_land_rowAt a_land_columnAt a_land_ways a_land_beside a_bowls a_dogs a_W a_W_steady a_W_fresh a_W_track a_W_gone a_W_trodden a_W_lines : Nat) (land_flaw : Int32) (land_cells : Int32) (land_columns : Int32) (land_rows : Int32) (land_ways : Nat → Int32) (land_beside : Nat → Int32) (W_start : Int32) (W_frost : Int32) (W_present : Int32) (W_raked : Int32) (W_steady : Nat → Int32) (W_fresh : Nat → Int32) (x1 : Int32) (x2 : Int32) (x3 : Int64) (x5 : Int32) (x6 : Int32) (x7 : Int32) (r : (Int32 × Int32 × Int32) ⊕ (Int32)) (hf : f_X7_choose_L9 land_ways land_beside W_steady W_fresh x1 x2 x3 x5 x6 x7 = some r) (hK : Sum.elim (fun q : Int32 × Int32 × Int32 => At p l e rm_X7_choose s m args below meth c D A 0 0 Q 10 9 (wl_X7_choose cA a_land a_land_kinds a_land_rowAt a_land_columnAt a_land_ways a_land_beside a_bowls a_dogs a_W a_W_steady a_W_fresh a_W_track a_W_gone a_W_trodden a_W_lines land_flaw land_cells land_columns land_rows land_ways land_beside W_start W_frost W_present W_raked W_steady W_fresh) [(0, .ref a_W), (1, .int x1), (2, .int x2), (3, .long x3), (5, .int (q.1)), (6, .int (q.2.1)), (7, .int (q.2.2))] []) (fun q : Int32 => At p l e rm_X7_choose s m args below meth c D A 0 0 Q 10 110 (wl_X7_choose cA a_land a_land_kinds a_land_rowAt a_land_columnAt a_land_ways a_land_beside a_bowls a_dogs a_W a_W_steady a_W_fresh a_W_track a_W_gone a_W_trodden a_W_lines land_flaw land_cells land_columns land_rows land_ways land_beside W_start W_frost W_present W_raked W_steady W_fresh) [(2, .int x2), (5, .int q)] []) r) : At p l e rm_X7_choose s m args below meth c D A 0 0 Q 10 9 (wl_X7_choose cA a_land a_land_kinds a_land_rowAt a_land_columnAt a_land_ways a_land_beside a_bowls a_dogs a_W a_W_steady a_W_fresh a_W_track a_W_gone a_W_trodden a_W_lines land_flaw land_cells land_columns land_rows land_ways land_beside W_start W_frost W_present W_raked W_steady W_fresh) [(0, .ref a_W), (1, .int x1), (2, .int x2), (3, .long x3), (5, .int x5), (6, .int x6), (7, .int x7)] [] := by
  intro H locs ls hP hD hS hl
  have hx := C.1
  have hb := C.2.1
  have hown := C.2.2.2.1
  have hts := C.2.2.2.2.1
  unfold f_X7_choose_L9 at hf
  refine lv_iload (pc := 9) hx hb dX7_choose_9 (lv_at hl 6 rfl) ?_
  refine lv_aload_n (pc := 11) hx hb dX7_choose_11 rfl (lv_at hl 0 rfl) ?_
  refine g_get (pc := 12) C fg_X7_44 hP 3 rfl rfl dX7_choose_12 ?_
  refine g_get (pc := 15) C fg_X7_108 hP 0 rfl rfl dX7_choose_15 ?_
  refine lv_iload_n (pc := 18) hx hb dX7_choose_18 rfl (lv_at hl 1 rfl) ?_
  obtain ⟨hg, hf⟩ := gd_some hf
  refine g_iald (pc := 19) C hP 1 rfl hg dX7_choose_19 ?_
  refine lv_icmp_ge (pc := 20) (tgt := 110) hx hb dX7_choose_20 (by decide) (fun hc => ?_) (fun hc => ?_)
  · have hf := (if_pos hc).symm.trans hf
    cases hf
    exact hK H locs ls hP hD hS (lv_sub hl [2, 4] rfl)
  · have hf := (if_neg hc).symm.trans hf
    refine lv_aload_n (pc := 23) hx hb dX7_choose_23 rfl (lv_at hl 0 rfl) ?_
    refine g_get (pc := 24) C fg_X7_44 hP 3 rfl rfl dX7_choose_24 ?_
    refine g_get (pc := 27) C fg_X7_111 hP 0 rfl rfl dX7_choose_27 ?_
    refine lv_iload_n (pc := 30) hx hb dX7_choose_30 rfl (lv_at hl 1 rfl) ?_
    refine lv_iconst (pc := 31) (v := 4) hx hb dX7_choose_31 ic_4 ?_
    refine lv_imul (pc := 32) hx hb dX7_choose_32 ?_
    refine lv_iload (pc := 33) hx hb dX7_choose_33 (lv_at hl 6 rfl) ?_
    refine lv_iadd (pc := 35) hx hb dX7_choose_35 ?_
    obtain ⟨hg, hf⟩ := gd_some hf
    refine g_iald (pc := 36) C hP 2 rfl hg dX7_choose_36 ?_
    obtain ⟨v1, e_v1, hf⟩ := letv_some hf
    refine tp_i e_v1 ?_
    refine lv_istore (pc := 37) (lv' := [(8, .int v1), (0, .ref a_W), (1, .int x1), (2, .int x2), (3, .long x3), (5, .int x5), (6, .int x6), (7, .int x7)]) hx hb dX7_choose_37 hl (Nat.le_of_ble_eq_true rfl) rfl (fun ls hl => ?_)
    refine lv_lload_n (pc := 39) hx hb dX7_choose_39 rfl (lv_at hl 4 rfl) ?_
    refine lv_iload (pc := 40) hx hb dX7_choose_40 (lv_at hl 0 rfl) ?_
    refine lv_lushr (pc := 42) hx hb dX7_choose_42 rfl ?_
    refine lv_lconst (pc := 43) (v := 1) hx hb dX7_choose_43 rfl ?_
    refine lv_land (pc := 44) hx hb dX7_choose_44 ?_
    refine lv_lconst (pc := 45) (v := 1) hx hb dX7_choose_45 rfl ?_
    refine W.lcmp (pc := 46) hx hb dX7_choose_46 ?_
    refine lv_if_ne (pc := 47) (tgt := 60) hx hb dX7_choose_47 (by decide) (fun hc => ?_) (fun hc => ?_)
    · have hf := (if_neg hc).symm.trans hf
      refine lv_aload_n (pc := 60) hx hb dX7_choose_60 rfl (lv_at hl 1 rfl) ?_
      refine g_get (pc := 61) C fg_X7_9 hP 3 rfl rfl dX7_choose_61 ?_
      refine lv_iload (pc := 64) hx hb dX7_choose_64 (lv_at hl 0 rfl) ?_
      obtain ⟨hg, hf⟩ := gd_some hf
      refine g_iald (pc := 66) C hP 4 rfl hg dX7_choose_66 ?_
      refine lv_aload_n (pc := 67) hx hb dX7_choose_67 rfl (lv_at hl 1 rfl) ?_
      refine g_get (pc := 68) C fg_X7_15 hP 3 rfl rfl dX7_choose_68 ?_
      refine lv_iload (pc := 71) hx hb dX7_choose_71 (lv_at hl 0 rfl) ?_
      obtain ⟨hg, hf⟩ := gd_some hf
      refine g_iald (pc := 73) C hP 5 rfl hg dX7_choose_73 ?_
      refine lv_iadd (pc := 74) hx hb dX7_choose_74 ?_
      exact k_X7_choose_b75L9 C hA a_land a_land_kinds a_land_rowAt a_land_columnAt a_land_ways a_land_beside a_bowls a_dogs a_W a_W_steady a_W_fresh a_W_track a_W_gone a_W_trodden a_W_lines land_flaw land_cells land_columns land_rows land_ways land_beside W_start W_frost W_present W_raked W_steady W_fresh x1 x2 x3 x5 x6 x7 v1 ((W_steady v1.toNatClampNeg) + (W_fresh v1.toNatClampNeg)) r hf hK H locs ls hP hD hS (lv_sub hl [1, 2, 3, 4, 5, 6, 7, 0] rfl)
    · have hf := (if_pos hc).symm.trans hf
      refine lv_aload_n (pc := 50) hx hb dX7_choose_50 rfl (lv_at hl 1 rfl) ?_
      refine g_get (pc := 51) C fg_X7_9 hP 3 rfl rfl dX7_choose_51 ?_
      refine lv_iload (pc := 54) hx hb dX7_choose_54 (lv_at hl 0 rfl) ?_
      obtain ⟨hg, hf⟩ := gd_some hf
      refine g_iald (pc := 56) C hP 4 rfl hg dX7_choose_56 ?_
      refine lv_goto (pc := 57) (tgt := 75) hx hb dX7_choose_57 (by decide) ?_
      exact k_X7_choose_b75L9 C hA a_land a_land_kinds a_land_rowAt a_land_columnAt a_land_ways a_land_beside a_bowls a_dogs a_W a_W_steady a_W_fresh a_W_track a_W_gone a_W_trodden a_W_lines land_flaw land_cells land_columns land_rows land_ways land_beside W_start W_frost W_present W_raked W_steady W_fresh x1 x2 x3 x5 x6 x7 v1 (W_steady v1.toNatClampNeg) r hf hK H locs ls hP hD hS (lv_sub hl [1, 2, 3, 4, 5, 6, 7, 0] rfl)
theorem kl_X7_choose_L9 (C : Cx RX7 cX7_choose 10 D cA p s m args c) (hA : ∀ q, s.heap.size ≤ q → A q) (a_land a_land_kinds a_land_rowAt a_land_columnAt a_land_ways a_land_beside a_bowls a_dogs a_W a_W_steady a_W_fresh a_W_track a_W_gone a_W_trodden a_W_lines : Nat) (land_flaw : Int32) (land_cells : Int32) (land_columns : Int32) (land_rows : Int32) (land_ways : Nat → Int32) (land_beside : Nat → Int32) (W_start : Int32) (W_frost : Int32) (W_present : Int32) (W_raked : Int32) (W_steady : Nat → Int32) (W_fresh : Nat → Int32) (x1 : Int32) (x2 : Int32) (x3 : Int64) : ∀ (n : Nat) (q : Int32 × Int32 × Int32) (z : (Int32)), loopF (fun q : Int32 × Int32 × Int32 => f_X7_choose_L9 land_ways land_beside W_steady W_fresh x1 x2 x3 q.1 q.2.1 q.2.2) n q = some z → (fun q : Int32 => At p l e rm_X7_choose s m args below meth c D A 0 0 Q 10 110 (wl_X7_choose cA a_land a_land_kinds a_land_rowAt a_land_columnAt a_land_ways a_land_beside a_bowls a_dogs a_W a_W_steady a_W_fresh a_W_track a_W_gone a_W_trodden a_W_lines land_flaw land_cells land_columns land_rows land_ways land_beside W_start W_frost W_present W_raked W_steady W_fresh) [(2, .int x2), (5, .int q)] []) z → At p l e rm_X7_choose s m args below meth c D A 0 0 Q 10 9 (wl_X7_choose cA a_land a_land_kinds a_land_rowAt a_land_columnAt a_land_ways a_land_beside a_bowls a_dogs a_W a_W_steady a_W_fresh a_W_track a_W_gone a_W_trodden a_W_lines land_flaw land_cells land_columns land_rows land_ways land_beside W_start W_frost W_present W_raked W_steady W_fresh) [(0, .ref a_W), (1, .int x1), (2, .int x2), (3, .long x3), (5, .int (q.1)), (6, .int (q.2.1)), (7, .int (q.2.2))] [] :=
  loop_lem (WP := fun q : Int32 × Int32 × Int32 => At p l e rm_X7_choose s m args below meth c D A 0 0 Q 10 9 (wl_X7_choose cA a_land a_land_kinds a_land_rowAt a_land_columnAt a_land_ways a_land_beside a_bowls a_dogs a_W a_W_steady a_W_fresh a_W_track a_W_gone a_W_trodden a_W_lines land_flaw land_cells land_columns land_rows land_ways land_beside W_start W_frost W_present W_raked W_steady W_fresh) [(0, .ref a_W), (1, .int x1), (2, .int x2), (3, .long x3), (5, .int (q.1)), (6, .int (q.2.1)), (7, .int (q.2.2))] []) (WE := (fun q : Int32 => At p l e rm_X7_choose s m args below meth c D A 0 0 Q 10 110 (wl_X7_choose cA a_land a_land_kinds a_land_rowAt a_land_columnAt a_land_ways a_land_beside a_bowls a_dogs a_W a_W_steady a_W_fresh a_W_track a_W_gone a_W_trodden a_W_lines land_flaw land_cells land_columns land_rows land_ways land_beside W_start W_frost W_present W_raked W_steady W_fresh) [(2, .int x2), (5, .int q)] [])) (fun q r hf hK => k_X7_choose_L9 C hA a_land a_land_kinds a_land_rowAt a_land_columnAt a_land_ways a_land_beside a_bowls a_dogs a_W a_W_steady a_W_fresh a_W_track a_W_gone a_W_trodden a_W_lines land_flaw land_cells land_columns land_rows land_ways land_beside W_start W_frost W_present W_raked W_steady W_fresh x1 x2 x3 q.1 q.2.1 q.2.2 r hf hK)
def f_X7_choose (land_ways : Nat → Int32) (land_beside : Nat → Int32) (W_steady : Nat → Int32) (W_fresh : Nat → Int32) (x1 : Int32) (x2 : Int32) (x3 : Int64) : Option (Int32) :=
  bind1 (loopF (fun q : Int32 × Int32 × Int32 => f_X7_choose_L9 land_ways land_beside W_steady W_fresh x1 x2 x3 q.1 q.2.1 q.2.2) FU ((-1 : Int32), (0 : Int32), (0 : Int32))) (fun u2 => if u2 = (-1 : Int32) then (some x2) else (some u2))
set_option maxHeartbeats 4000000 in
set_option maxRecDepth 100000 in
theorem k_X7_choose (C : Cx RX7 cX7_choose 10 D cA p s m args c) (hr : meth.sig.returnType = (some .int)) (hlk : meth.locks = false) (hA : ∀ q, s.heap.size ≤ q → va_A ws0 sz q) (a_land a_land_kinds a_land_rowAt a_land_columnAt a_land_ways a_land_beside a_bowls a_dogs a_W a_W_steady a_W_fresh a_W_track a_W_gone a_W_trodden a_W_lines : Nat) (land_flaw : Int32) (land_cells : Int32) (land_columns : Int32) (land_rows : Int32) (land_ways : Nat → Int32) (land_beside : Nat → Int32) (W_start : Int32) (W_frost : Int32) (W_present : Int32) (W_raked : Int32) (W_steady : Nat → Int32) (W_fresh : Nat → Int32) (x1 : Int32) (x2 : Int32) (x3 : Int64) (r : Int32) (hf : f_X7_choose land_ways land_beside W_steady W_fresh x1 x2 x3 = some r) : At p l e rm_X7_choose s m args below meth c D (va_A ws0 sz) 0 0 (MQ below (PostI D r ws0 (wl_X7_choose cA a_land a_land_kinds a_land_rowAt a_land_columnAt a_land_ways a_land_beside a_bowls a_dogs a_W a_W_steady a_W_fresh a_W_track a_W_gone a_W_trodden a_W_lines land_flaw land_cells land_columns land_rows land_ways land_beside W_start W_frost W_present W_raked W_steady W_fresh) sz) args s 0 0 (va_A ws0 sz)) 10 0 (wl_X7_choose cA a_land a_land_kinds a_land_rowAt a_land_columnAt a_land_ways a_land_beside a_bowls a_dogs a_W a_W_steady a_W_fresh a_W_track a_W_gone a_W_trodden a_W_lines land_flaw land_cells land_columns land_rows land_ways land_beside W_start W_frost W_present W_raked W_steady W_fresh) [(0, .ref a_W), (1, .int x1), (2, .int x2), (3, .long x3)] [] := by
  intro H locs ls hP hD hS hl
  have hx := C.1
  have hb := C.2.1
  have hown := C.2.2.2.1
  have hts := C.2.2.2.2.1
  unfold f_X7_choose at hf
  refine lv_iconst (pc := 0) (v := (-1)) hx hb dX7_choose_0 ic_m1 ?_
  refine lv_istore (pc := 1) (lv' := [(5, .int (-1 : Int32)), (0, .ref a_W), (1, .int x1), (2, .int x2), (3, .long x3)]) hx hb dX7_choose_1 hl (Nat.le_of_ble_eq_true rfl) rfl (fun ls hl => ?_)
  refine lv_iconst (pc := 3) (v := 0) hx hb dX7_choose_3 ic_0 ?_
  refine lv_istore (pc := 4) (lv' := [(6, .int (0 : Int32)), (5, .int (-1 : Int32)), (0, .ref a_W), (1, .int x1), (2, .int x2), (3, .long x3)]) hx hb dX7_choose_4 hl (Nat.le_of_ble_eq_true rfl) rfl (fun ls hl => ?_)
  refine lv_iconst (pc := 6) (v := 0) hx hb dX7_choose_6 ic_0 ?_
  refine lv_istore (pc := 7) (lv' := [(7, .int (0 : Int32)), (6, .int (0 : Int32)), (5, .int (-1 : Int32)), (0, .ref a_W), (1, .int x1), (2, .int x2), (3, .long x3)]) hx hb dX7_choose_7 hl (Nat.le_of_ble_eq_true rfl) rfl (fun ls hl => ?_)
  obtain ⟨u2, hq, hf⟩ := bind1_some hf
  refine kl_X7_choose_L9 C hA a_land a_land_kinds a_land_rowAt a_land_columnAt a_land_ways a_land_beside a_bowls a_dogs a_W a_W_steady a_W_fresh a_W_track a_W_gone a_W_trodden a_W_lines land_flaw land_cells land_columns land_rows land_ways land_beside W_start W_frost W_present W_raked W_steady W_fresh x1 x2 x3 FU ((-1 : Int32), (0 : Int32), (0 : Int32)) _ hq ?_ H locs ls hP hD hS (lv_sub hl [3, 4, 5, 6, 2, 1, 0] rfl)
  intro H locs ls hP hD hS hl
  have hP : va_P D classes (wl_X7_choose cA a_land a_land_kinds a_land_rowAt a_land_columnAt a_land_ways a_land_beside a_bowls a_dogs a_W a_W_steady a_W_fresh a_W_track a_W_gone a_W_trodden a_W_lines land_flaw land_cells land_columns land_rows land_ways land_beside W_start W_frost W_present W_raked W_steady W_fresh) H := hP
  have hD : va_D (va_A ws0 sz) (wl_X7_choose cA a_land a_land_kinds a_land_rowAt a_land_columnAt a_land_ways a_land_beside a_bowls a_dogs a_W a_W_steady a_W_fresh a_W_track a_W_gone a_W_trodden a_W_lines land_flaw land_cells land_columns land_rows land_ways land_beside W_start W_frost W_present W_raked W_steady W_fresh) := hD
  have hl : lv_has ls 10 [(2, .int x2), (5, .int u2)] := hl
  refine lv_iload (pc := 110) hx hb dX7_choose_110 (lv_at hl 1 rfl) ?_
  refine lv_iconst (pc := 112) (v := (-1)) hx hb dX7_choose_112 ic_m1 ?_
  refine lv_icmp_ne (pc := 113) (tgt := 120) hx hb dX7_choose_113 (by decide) (fun hc => ?_) (fun hc => ?_)
  · have hf := (if_neg hc).symm.trans hf
    refine lv_iload (pc := 120) hx hb dX7_choose_120 (lv_at hl 1 rfl) ?_
    cases hf
    exact ret_i C hr hlk hP hS dX7_choose_122
  · have hf := (if_pos hc).symm.trans hf
    refine lv_iload_n (pc := 116) hx hb dX7_choose_116 rfl (lv_at hl 0 rfl) ?_
    refine lv_goto (pc := 117) (tgt := 122) hx hb dX7_choose_117 (by decide) ?_
    cases hf
    exact ret_i C hr hlk hP hS dX7_choose_122
set_option maxRecDepth 100000 in
theorem c_X7_choose (l : Launch) (D : va_G) (cA : Nat → ClassId) (a_land a_land_kinds a_land_rowAt a_land_columnAt a_land_ways a_land_beside a_bowls a_dogs a_W a_W_steady a_W_fresh a_W_track a_W_gone a_W_trodden a_W_lines : Nat) (land_flaw : Int32) (land_cells : Int32) (land_columns : Int32) (land_rows : Int32) (land_ways : Nat → Int32) (land_beside : Nat → Int32) (W_start : Int32) (W_frost : Int32) (W_present : Int32) (W_raked : Int32) (W_steady : Nat → Int32) (W_fresh : Nat → Int32) (x1 : Int32) (x2 : Int32) (x3 : Int64) (r : Int32) (hf : f_X7_choose land_ways land_beside W_steady W_fresh x1 x2 x3 = some r) (sz : Nat) : Met l yX7_choose (Cond.code yX7_choose cX7_choose 10 (some .int) :: lw_good) rm_X7_choose (PreX D cA [.ref a_W, .int x1, .int x2, .long x3] sz (wl_X7_choose cA a_land a_land_kinds a_land_rowAt a_land_columnAt a_land_ways a_land_beside a_bowls a_dogs a_W a_W_steady a_W_fresh a_W_track a_W_gone a_W_trodden a_W_lines land_flaw land_cells land_columns land_rows land_ways land_beside W_start W_frost W_present W_raked W_steady W_fresh)) (PostI D r (wl_X7_choose cA a_land a_land_kinds a_land_rowAt a_land_columnAt a_land_ways a_land_beside a_bowls a_dogs a_W a_W_steady a_W_fresh a_W_track a_W_gone a_W_trodden a_W_lines land_flaw land_cells land_columns land_rows land_ways land_beside W_start W_frost W_present W_raked W_steady W_fresh) (wl_X7_choose cA a_land a_land_kinds a_land_rowAt a_land_columnAt a_land_ways a_land_beside a_bowls a_dogs a_W a_W_steady a_W_fresh a_W_track a_W_gone a_W_trodden a_W_lines land_flaw land_cells land_columns land_rows land_ways land_beside W_start W_frost W_present W_raked W_steady W_fresh) sz) 0 0 (va_A (wl_X7_choose cA a_land a_land_kinds a_land_rowAt a_land_columnAt a_land_ways a_land_beside a_bowls a_dogs a_W a_W_steady a_W_fresh a_W_track a_W_gone a_W_trodden a_W_lines land_flaw land_cells land_columns land_rows land_ways land_beside W_start W_frost W_present W_raked W_steady W_fresh) sz) :=
  met_of (by decide) (Nat.le_of_ble_eq_true rfl) (fun p e s m args below meth c C hr hlk hA => k_X7_choose C hr hlk hA a_land a_land_kinds a_land_rowAt a_land_columnAt a_land_ways a_land_beside a_bowls a_dogs a_W a_W_steady a_W_fresh a_W_track a_W_gone a_W_trodden a_W_lines land_flaw land_cells land_columns land_rows land_ways land_beside W_start W_frost W_present W_raked W_steady W_fresh x1 x2 x3 r hf)
end
