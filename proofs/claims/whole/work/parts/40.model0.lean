abbrev rm_X9_in : Room := { frames := 0, cells := 0, slots := 0, locals := 0 }
section
variable {p : Program} {l : Launch} {e : Env} {s : State} {m : MethodId} {args : Array Value} {below : List Frame} {meth : Method} {c : Code} {D : va_G} {cA : Nat → ClassId} {ws0 : va_W} {sz : Nat} {A : Nat → Prop} {Q : State → Prop}
def f_X9_in (x0 : Int64) (x2 : Int64) (x4 : Int64) : Option (Int32) :=
  if (lg_cmp x0 x2) < 0 then (some (0 : Int32)) else (if 0 < (lg_cmp x0 x4) then (some (0 : Int32)) else (some (1 : Int32)))
set_option maxHeartbeats 4000000 in
set_option maxRecDepth 100000 in
theorem k_X9_in (C : Cx RX9 cX9_in 6 D cA p s m args c) (hr : meth.sig.returnType = (some .boolean)) (hlk : meth.locks = false) (hA : ∀ q, s.heap.size ≤ q → va_A ws0 sz q) (x0 : Int64) (x2 : Int64) (x4 : Int64) (r : Int32) (hf : f_X9_in x0 x2 x4 = some r) : At p l e rm_X9_in s m args below meth c D (va_A ws0 sz) 0 0 (MQ below (PostI D r ws0 ([] : va_W) sz) args s 0 0 (va_A ws0 sz)) 6 0 ([] : va_W) [(0, .long x0), (2, .long x2), (4, .long x4)] [] := by
  intro H locs ls hP hD hS hl
  have hx := C.1
  have hb := C.2.1
  have hown := C.2.2.2.1
  have hts := C.2.2.2.2.1
  unfold f_X9_in at hf
  refine lv_lload_n (pc := 0) hx hb dX9_in_0 rfl (lv_at hl 0 rfl) ?_
  refine lv_lload_n (pc := 1) hx hb dX9_in_1 rfl (lv_at hl 1 rfl) ?_
  refine W.lcmp (pc := 2) hx hb dX9_in_2 ?_
  refine lv_if_lt (pc := 3) (tgt := 17) hx hb dX9_in_3 (by decide) (fun hc => ?_) (fun hc => ?_)
  · have hf := (if_pos hc).symm.trans hf
    refine lv_iconst (pc := 17) (v := 0) hx hb dX9_in_17 ic_0 ?_
    have hf := Option.some.inj hf
    subst hf
    exact ret_z C hr hlk isz_0 hP hS dX9_in_18
  · have hf := (if_neg hc).symm.trans hf
    refine lv_lload_n (pc := 6) hx hb dX9_in_6 rfl (lv_at hl 0 rfl) ?_
    refine lv_lload (pc := 7) hx hb dX9_in_7 (lv_at hl 2 rfl) ?_
    refine W.lcmp (pc := 9) hx hb dX9_in_9 ?_
    refine lv_if_gt (pc := 10) (tgt := 17) hx hb dX9_in_10 (by decide) (fun hc => ?_) (fun hc => ?_)
    · have hf := (if_pos hc).symm.trans hf
      refine lv_iconst (pc := 17) (v := 0) hx hb dX9_in_17 ic_0 ?_
      have hf := Option.some.inj hf
      subst hf
      exact ret_z C hr hlk isz_0 hP hS dX9_in_18
    · have hf := (if_neg hc).symm.trans hf
      refine lv_iconst (pc := 13) (v := 1) hx hb dX9_in_13 ic_1 ?_
      refine lv_goto (pc := 14) (tgt := 18) hx hb dX9_in_14 (by decide) ?_
      have hf := Option.some.inj hf
      subst hf
      exact ret_z C hr hlk isz_1 hP hS dX9_in_18
set_option maxRecDepth 100000 in
theorem c_X9_in (l : Launch) (D : va_G) (cA : Nat → ClassId) (x0 : Int64) (x2 : Int64) (x4 : Int64) (r : Int32) (hf : f_X9_in x0 x2 x4 = some r) (sz : Nat) : Met l yX9_in (Cond.code yX9_in cX9_in 6 (some .boolean) :: lw_good) rm_X9_in (PreX D cA [.long x0, .long x2, .long x4] sz ([] : va_W)) (PostI D r ([] : va_W) ([] : va_W) sz) 0 0 (va_A ([] : va_W) sz) :=
  met_of (by decide) (Nat.le_of_ble_eq_true rfl) (fun p e s m args below meth c C hr hlk hA => k_X9_in C hr hlk hA x0 x2 x4 r hf)
end

abbrev rm_X9_no : Room := { frames := 0, cells := 0, slots := 0, locals := 0 }
section
variable {p : Program} {l : Launch} {e : Env} {s : State} {m : MethodId} {args : Array Value} {below : List Frame} {meth : Method} {c : Code} {D : va_G} {cA : Nat → ClassId} {ws0 : va_W} {sz : Nat} {A : Nat → Prop} {Q : State → Prop}
def f_X9_no (x0 : Int32) : Option (Int64) :=
  some ((-9223372036854775808 : Int64) - (x0.toInt64))
set_option maxHeartbeats 4000000 in
set_option maxRecDepth 100000 in
theorem k_X9_no (C : Cx RX9 cX9_no 1 D cA p s m args c) (hr : meth.sig.returnType = (some .long)) (hlk : meth.locks = false) (hA : ∀ q, s.heap.size ≤ q → va_A ws0 sz q) (x0 : Int32) (r : Int64) (hf : f_X9_no x0 = some r) : At p l e rm_X9_no s m args below meth c D (va_A ws0 sz) 0 0 (MQ below (PostL D r ws0 ([] : va_W) sz) args s 0 0 (va_A ws0 sz)) 1 0 ([] : va_W) [(0, .int x0)] [] := by
  intro H locs ls hP hD hS hl
  have hx := C.1
  have hb := C.2.1
  have hown := C.2.2.2.1
  have hts := C.2.2.2.2.1
  unfold f_X9_no at hf
  refine lv_ldc2 (pc := 0) hx hb hown (hts _ (lg_in mw_455 rfl)) dX9_no_0 ?_
  refine lv_iload_n (pc := 3) hx hb dX9_no_3 rfl (lv_at hl 0 rfl) ?_
  refine lv_i2l (pc := 4) hx hb dX9_no_4 rfl ?_
  refine lv_lsub (pc := 5) hx hb dX9_no_5 ?_
  have hf := Option.some.inj hf
  subst hf
  exact ret_l C hr hlk hP hS dX9_no_6
set_option maxRecDepth 100000 in
theorem c_X9_no (l : Launch) (D : va_G) (cA : Nat → ClassId) (x0 : Int32) (r : Int64) (hf : f_X9_no x0 = some r) (sz : Nat) : Met l yX9_no (Cond.code yX9_no cX9_no 1 (some .long) :: lw_good) rm_X9_no (PreX D cA [.int x0] sz ([] : va_W)) (PostL D r ([] : va_W) ([] : va_W) sz) 0 0 (va_A ([] : va_W) sz) :=
  met_of (by decide) (Nat.le_of_ble_eq_true rfl) (fun p e s m args below meth c C hr hlk hA => k_X9_no C hr hlk hA x0 r hf)
end

abbrev rm_X9_isTwo : Room := { frames := 1, cells := 0, slots := 0, locals := 25 }
section
variable {p : Program} {l : Launch} {e : Env} {s : State} {m : MethodId} {args : Array Value} {below : List Frame} {meth : Method} {c : Code} {D : va_G} {cA : Nat → ClassId} {ws0 : va_W} {sz : Nat} {A : Nat → Prop} {Q : State → Prop}
def f_X9_isTwo (x0 : Int32) : Option (Int32) :=
  bind1 (f_X9_in (x0.toInt64) (0 : Int64) (1 : Int64)) (fun r1 => gd (isz r1) (some r1))
set_option maxHeartbeats 4000000 in
set_option maxRecDepth 100000 in
theorem k_X9_isTwo (C : Cx RX9 cX9_isTwo 1 D cA p s m args c) (hr : meth.sig.returnType = (some .boolean)) (hlk : meth.locks = false) (hA : ∀ q, s.heap.size ≤ q → va_A ws0 sz q) (x0 : Int32) (r : Int32) (hf : f_X9_isTwo x0 = some r) : At p l e rm_X9_isTwo s m args below meth c D (va_A ws0 sz) 0 0 (MQ below (PostI D r ws0 ([] : va_W) sz) args s 0 0 (va_A ws0 sz)) 1 0 ([] : va_W) [(0, .int x0)] [] := by
  intro H locs ls hP hD hS hl
  have hx := C.1
  have hb := C.2.1
  have hown := C.2.2.2.1
  have hts := C.2.2.2.2.1
  unfold f_X9_isTwo at hf
  refine lv_iload_n (pc := 0) hx hb dX9_isTwo_0 rfl (lv_at hl 0 rfl) ?_
  refine lv_i2l (pc := 1) hx hb dX9_isTwo_1 rfl ?_
  refine lv_lconst (pc := 2) (v := 0) hx hb dX9_isTwo_2 rfl ?_
  refine lv_lconst (pc := 3) (v := 1) hx hb dX9_isTwo_3 rfl ?_
  obtain ⟨r1, hq, hf⟩ := bind1_some hf
  refine fin2_i ([] : va_W) (run_S (rest := []) (pc := 4) (As := [.long (x0.toInt64), .long (0 : Int64), .long (1 : Int64)]) C mf_X9_60 (c_X9_in l D cA  (x0.toInt64) (0 : Int64) (1 : Int64) r1 hq H.size) rfl rfl ⟨(Nat.le_of_ble_eq_true rfl), (Nat.le_of_ble_eq_true rfl)⟩ (preS_of C hP hD [] rfl (pl_nd pv_26)) rfl hl.1 rfl (Nat.le_of_ble_eq_true rfl) dX9_isTwo_4 ⟨Nat.zero_le _, Nat.zero_le _⟩) hP hD hS hA [] [] rfl rfl rfl rfl pv_26 (fun H locs hP hS => ?_)
  obtain ⟨hg, hf⟩ := gd_some hf
  have hf := Option.some.inj hf
  subst hf
  exact ret_z C hr hlk hg hP hS dX9_isTwo_7
set_option maxRecDepth 100000 in
theorem c_X9_isTwo (l : Launch) (D : va_G) (cA : Nat → ClassId) (x0 : Int32) (r : Int32) (hf : f_X9_isTwo x0 = some r) (sz : Nat) : Met l yX9_isTwo (Cond.code yX9_isTwo cX9_isTwo 1 (some .boolean) :: lw_good) rm_X9_isTwo (PreX D cA [.int x0] sz ([] : va_W)) (PostI D r ([] : va_W) ([] : va_W) sz) 0 0 (va_A ([] : va_W) sz) :=
  met_of (by decide) (Nat.le_of_ble_eq_true rfl) (fun p e s m args below meth c C hr hlk hA => k_X9_isTwo C hr hlk hA x0 r hf)
end

abbrev rm_X9_isIn : Room := { frames := 0, cells := 0, slots := 0, locals := 0 }
section
variable {p : Program} {l : Launch} {e : Env} {s : State} {m : MethodId} {args : Array Value} {below : List Frame} {meth : Method} {c : Code} {D : va_G} {cA : Nat → ClassId} {ws0 : va_W} {sz : Nat} {A : Nat → Prop} {Q : State → Prop}
def f_X9_isIn (x0 : Int32) (x1 : Int32) : Option (Int32) :=
  if ((x0 >>> (x1 &&& 31)) &&& (1 : Int32)) = (1 : Int32) then (some (1 : Int32)) else (some (0 : Int32))
set_option maxHeartbeats 4000000 in
set_option maxRecDepth 100000 in
theorem k_X9_isIn (C : Cx RX9 cX9_isIn 2 D cA p s m args c) (hr : meth.sig.returnType = (some .boolean)) (hlk : meth.locks = false) (hA : ∀ q, s.heap.size ≤ q → va_A ws0 sz q) (x0 : Int32) (x1 : Int32) (r : Int32) (hf : f_X9_isIn x0 x1 = some r) : At p l e rm_X9_isIn s m args below meth c D (va_A ws0 sz) 0 0 (MQ below (PostI D r ws0 ([] : va_W) sz) args s 0 0 (va_A ws0 sz)) 2 0 ([] : va_W) [(0, .int x0), (1, .int x1)] [] := by
  intro H locs ls hP hD hS hl
  have hx := C.1
  have hb := C.2.1
  have hown := C.2.2.2.1
  have hts := C.2.2.2.2.1
  unfold f_X9_isIn at hf
  refine lv_iload_n (pc := 0) hx hb dX9_isIn_0 rfl (lv_at hl 0 rfl) ?_
  refine lv_iload_n (pc := 1) hx hb dX9_isIn_1 rfl (lv_at hl 1 rfl) ?_
  refine lv_ishr (pc := 2) hx hb dX9_isIn_2 ?_
  refine lv_iconst (pc := 3) (v := 1) hx hb dX9_isIn_3 ic_1 ?_
  refine lv_iand (pc := 4) hx hb dX9_isIn_4 ?_
  refine lv_iconst (pc := 5) (v := 1) hx hb dX9_isIn_5 ic_1 ?_
  refine lv_icmp_ne (pc := 6) (tgt := 13) hx hb dX9_isIn_6 (by decide) (fun hc => ?_) (fun hc => ?_)
  · have hf := (if_neg hc).symm.trans hf
    refine lv_iconst (pc := 13) (v := 0) hx hb dX9_isIn_13 ic_0 ?_
    have hf := Option.some.inj hf
    subst hf
    exact ret_z C hr hlk isz_0 hP hS dX9_isIn_14
  · have hf := (if_pos hc).symm.trans hf
    refine lv_iconst (pc := 9) (v := 1) hx hb dX9_isIn_9 ic_1 ?_
    refine lv_goto (pc := 10) (tgt := 14) hx hb dX9_isIn_10 (by decide) ?_
    have hf := Option.some.inj hf
    subst hf
    exact ret_z C hr hlk isz_1 hP hS dX9_isIn_14
set_option maxRecDepth 100000 in
theorem c_X9_isIn (l : Launch) (D : va_G) (cA : Nat → ClassId) (x0 : Int32) (x1 : Int32) (r : Int32) (hf : f_X9_isIn x0 x1 = some r) (sz : Nat) : Met l yX9_isIn (Cond.code yX9_isIn cX9_isIn 2 (some .boolean) :: lw_good) rm_X9_isIn (PreX D cA [.int x0, .int x1] sz ([] : va_W)) (PostI D r ([] : va_W) ([] : va_W) sz) 0 0 (va_A ([] : va_W) sz) :=
  met_of (by decide) (Nat.le_of_ble_eq_true rfl) (fun p e s m args below meth c C hr hlk hA => k_X9_isIn C hr hlk hA x0 x1 r hf)
end

abbrev rm_X9_lesser : Room := { frames := 0, cells := 0, slots := 0, locals := 0 }
section
variable {p : Program} {l : Launch} {e : Env} {s : State} {m : MethodId} {args : Array Value} {below : List Frame} {meth : Method} {c : Code} {D : va_G} {cA : Nat → ClassId} {ws0 : va_W} {sz : Nat} {A : Nat → Prop} {Q : State → Prop}
def f_X9_lesser (x0 : Int32) (x1 : Int32) : Option (Int32) :=
  if x1 ≤ x0 then (some x1) else (some x0)
set_option maxHeartbeats 4000000 in
set_option maxRecDepth 100000 in
theorem k_X9_lesser (C : Cx RX9 cX9_lesser 2 D cA p s m args c) (hr : meth.sig.returnType = (some .int)) (hlk : meth.locks = false) (hA : ∀ q, s.heap.size ≤ q → va_A ws0 sz q) (x0 : Int32) (x1 : Int32) (r : Int32) (hf : f_X9_lesser x0 x1 = some r) : At p l e rm_X9_lesser s m args below meth c D (va_A ws0 sz) 0 0 (MQ below (PostI D r ws0 ([] : va_W) sz) args s 0 0 (va_A ws0 sz)) 2 0 ([] : va_W) [(0, .int x0), (1, .int x1)] [] := by
  intro H locs ls hP hD hS hl
  have hx := C.1
  have hb := C.2.1
  have hown := C.2.2.2.1
  have hts := C.2.2.2.2.1
  unfold f_X9_lesser at hf
  refine lv_iload_n (pc := 0) hx hb dX9_lesser_0 rfl (lv_at hl 0 rfl) ?_
  refine lv_iload_n (pc := 1) hx hb dX9_lesser_1 rfl (lv_at hl 1 rfl) ?_
  refine lv_icmp_ge (pc := 2) (tgt := 9) hx hb dX9_lesser_2 (by decide) (fun hc => ?_) (fun hc => ?_)
  · have hf := (if_pos hc).symm.trans hf
    refine lv_iload_n (pc := 9) hx hb dX9_lesser_9 rfl (lv_at hl 1 rfl) ?_
    have hf := Option.some.inj hf
    subst hf
    exact ret_i C hr hlk hP hS dX9_lesser_10
  · have hf := (if_neg hc).symm.trans hf
    refine lv_iload_n (pc := 5) hx hb dX9_lesser_5 rfl (lv_at hl 0 rfl) ?_
    refine lv_goto (pc := 6) (tgt := 10) hx hb dX9_lesser_6 (by decide) ?_
    have hf := Option.some.inj hf
    subst hf
    exact ret_i C hr hlk hP hS dX9_lesser_10
set_option maxRecDepth 100000 in
theorem c_X9_lesser (l : Launch) (D : va_G) (cA : Nat → ClassId) (x0 : Int32) (x1 : Int32) (r : Int32) (hf : f_X9_lesser x0 x1 = some r) (sz : Nat) : Met l yX9_lesser (Cond.code yX9_lesser cX9_lesser 2 (some .int) :: lw_good) rm_X9_lesser (PreX D cA [.int x0, .int x1] sz ([] : va_W)) (PostI D r ([] : va_W) ([] : va_W) sz) 0 0 (va_A ([] : va_W) sz) :=
  met_of (by decide) (Nat.le_of_ble_eq_true rfl) (fun p e s m args below meth c C hr hlk hA => k_X9_lesser C hr hlk hA x0 x1 r hf)
end

abbrev rm_X9_part : Room := { frames := 0, cells := 0, slots := 0, locals := 0 }
section
variable {p : Program} {l : Launch} {e : Env} {s : State} {m : MethodId} {args : Array Value} {below : List Frame} {meth : Method} {c : Code} {D : va_G} {cA : Nat → ClassId} {ws0 : va_W} {sz : Nat} {A : Nat → Prop} {Q : State → Prop}
def f_X9_part_L6 (x5 : Int64) (x7 : Int64) : Option ((Int64 × Int64) ⊕ (Int64)) :=
  if (lg_cmp x7 (0 : Int64)) = 0 then (some (.inr x5)) else (gd (nzL x7) (letv ((x5 - x5 / x7 * x7)) (fun v1 => some (.inl (x7, v1)))))
set_option maxHeartbeats 4000000 in
set_option maxRecDepth 100000 in
theorem k_X9_part_L6 (C : Cx RX9 cX9_part 11 D cA p s m args c) (hA : ∀ q, s.heap.size ≤ q → A q) (x0 : Int64) (x2 : Int64) (x4 : Int32) (x5 : Int64) (x7 : Int64) (r : (Int64 × Int64) ⊕ (Int64)) (hf : f_X9_part_L6 x5 x7 = some r) (hK : Sum.elim (fun q : Int64 × Int64 => At p l e rm_X9_part s m args below meth c D A 0 0 Q 11 6 ([] : va_W) [(0, .long x0), (2, .long x2), (4, .int x4), (5, .long (q.1)), (7, .long (q.2))] []) (fun q : Int64 => At p l e rm_X9_part s m args below meth c D A 0 0 Q 11 31 ([] : va_W) [(0, .long x0), (2, .long x2), (4, .int x4), (5, .long q)] []) r) : At p l e rm_X9_part s m args below meth c D A 0 0 Q 11 6 ([] : va_W) [(0, .long x0), (2, .long x2), (4, .int x4), (5, .long x5), (7, .long x7)] [] := by
  intro H locs ls hP hD hS hl
  have hx := C.1
  have hb := C.2.1
  have hown := C.2.2.2.1
  have hts := C.2.2.2.2.1
  unfold f_X9_part_L6 at hf
  refine lv_lload (pc := 6) hx hb dX9_part_6 (lv_at hl 4 rfl) ?_
  refine lv_lconst (pc := 8) (v := 0) hx hb dX9_part_8 rfl ?_
  refine W.lcmp (pc := 9) hx hb dX9_part_9 ?_
  refine lv_if_eq (pc := 10) (tgt := 31) hx hb dX9_part_10 (by decide) (fun hc => ?_) (fun hc => ?_)
  · have hf := (if_pos hc).symm.trans hf
    have hf := Option.some.inj hf
    subst hf
    exact hK H locs ls hP hD hS (lv_sub hl [0, 1, 2, 3] rfl)
  · have hf := (if_neg hc).symm.trans hf
    refine lv_lload (pc := 13) hx hb dX9_part_13 (lv_at hl 3 rfl) ?_
    refine lv_lload (pc := 15) hx hb dX9_part_15 (lv_at hl 4 rfl) ?_
    obtain ⟨hg, hf⟩ := gd_some hf
    refine lv_lrem (pc := 17) hx hb dX9_part_17 (nzL_of hg) ?_
    obtain ⟨v1, e_v1, hf⟩ := letv_some hf
    refine tp_l e_v1 ?_
    refine lv_lstore (pc := 18) (lv' := [(9, .long v1), (0, .long x0), (2, .long x2), (4, .int x4), (5, .long x5), (7, .long x7)]) hx hb dX9_part_18 hl (Nat.le_of_ble_eq_true rfl) rfl (fun ls hl => ?_)
    refine lv_lload (pc := 20) hx hb dX9_part_20 (lv_at hl 5 rfl) ?_
    refine lv_lstore (pc := 22) (lv' := [(5, .long x7), (9, .long v1), (0, .long x0), (2, .long x2), (4, .int x4), (7, .long x7)]) hx hb dX9_part_22 hl (Nat.le_of_ble_eq_true rfl) rfl (fun ls hl => ?_)
    refine lv_lload (pc := 24) hx hb dX9_part_24 (lv_at hl 1 rfl) ?_
    refine lv_lstore (pc := 26) (lv' := [(7, .long v1), (5, .long x7), (9, .long v1), (0, .long x0), (2, .long x2), (4, .int x4)]) hx hb dX9_part_26 hl (Nat.le_of_ble_eq_true rfl) rfl (fun ls hl => ?_)
    refine lv_goto (pc := 28) (tgt := 6) hx hb dX9_part_28 (by decide) ?_
    have hf := Option.some.inj hf
    subst hf
    exact hK H locs ls hP hD hS (lv_sub hl [3, 4, 5, 1, 0] rfl)
theorem kl_X9_part_L6 (C : Cx RX9 cX9_part 11 D cA p s m args c) (hA : ∀ q, s.heap.size ≤ q → A q) (x0 : Int64) (x2 : Int64) (x4 : Int32) : ∀ (n : Nat) (q : Int64 × Int64) (z : (Int64)), loopF (fun q : Int64 × Int64 => f_X9_part_L6 q.1 q.2) n q = some z → (fun q : Int64 => At p l e rm_X9_part s m args below meth c D A 0 0 Q 11 31 ([] : va_W) [(0, .long x0), (2, .long x2), (4, .int x4), (5, .long q)] []) z → At p l e rm_X9_part s m args below meth c D A 0 0 Q 11 6 ([] : va_W) [(0, .long x0), (2, .long x2), (4, .int x4), (5, .long (q.1)), (7, .long (q.2))] [] :=
  loop_lem (WP := fun q : Int64 × Int64 => At p l e rm_X9_part s m args below meth c D A 0 0 Q 11 6 ([] : va_W) [(0, .long x0), (2, .long x2), (4, .int x4), (5, .long (q.1)), (7, .long (q.2))] []) (WE := (fun q : Int64 => At p l e rm_X9_part s m args below meth c D A 0 0 Q 11 31 ([] : va_W) [(0, .long x0), (2, .long x2), (4, .int x4), (5, .long q)] [])) (fun q r hf hK => k_X9_part_L6 C hA x0 x2 x4 q.1 q.2 r hf hK)
def f_X9_part_b41 (x5 : Int64) (s0 : Int64) : Option (Int64) :=
  gd (nzL x5) (some (s0 / x5))
set_option maxHeartbeats 4000000 in
set_option maxRecDepth 100000 in
theorem k_X9_part_b41 (C : Cx RX9 cX9_part 11 D cA p s m args c) (hr : meth.sig.returnType = (some .long)) (hlk : meth.locks = false) (hA : ∀ q, s.heap.size ≤ q → va_A ws0 sz q) (x5 : Int64) (s0 : Int64) (r : Int64) (hf : f_X9_part_b41 x5 s0 = some r) : At p l e rm_X9_part s m args below meth c D (va_A ws0 sz) 0 0 (MQ below (PostL D r ws0 ([] : va_W) sz) args s 0 0 (va_A ws0 sz)) 11 41 ([] : va_W) [(5, .long x5)] [.long s0] := by
  intro H locs ls hP hD hS hl
  have hx := C.1
  have hb := C.2.1
  have hown := C.2.2.2.1
  have hts := C.2.2.2.2.1
  unfold f_X9_part_b41 at hf
  refine lv_lload (pc := 41) hx hb dX9_part_41 (lv_at hl 0 rfl) ?_
  obtain ⟨hg, hf⟩ := gd_some hf
  refine lv_ldiv (pc := 43) hx hb dX9_part_43 (nzL_of hg) ?_
  have hf := Option.some.inj hf
  subst hf
  exact ret_l C hr hlk hP hS dX9_part_44
def f_X9_part (x0 : Int64) (x2 : Int64) (x4 : Int32) : Option (Int64) :=
  bind1 (loopF (fun q : Int64 × Int64 => f_X9_part_L6 q.1 q.2) FU (x0, x2)) (fun u2 => if x4 = 0 then (f_X9_part_b41 u2 x0) else (f_X9_part_b41 u2 x2))
set_option maxHeartbeats 4000000 in
set_option maxRecDepth 100000 in
theorem k_X9_part (C : Cx RX9 cX9_part 11 D cA p s m args c) (hr : meth.sig.returnType = (some .long)) (hlk : meth.locks = false) (hA : ∀ q, s.heap.size ≤ q → va_A ws0 sz q) (x0 : Int64) (x2 : Int64) (x4 : Int32) (r : Int64) (hf : f_X9_part x0 x2 x4 = some r) : At p l e rm_X9_part s m args below meth c D (va_A ws0 sz) 0 0 (MQ below (PostL D r ws0 ([] : va_W) sz) args s 0 0 (va_A ws0 sz)) 11 0 ([] : va_W) [(0, .long x0), (2, .long x2), (4, .int x4)] [] := by
  intro H locs ls hP hD hS hl
  have hx := C.1
  have hb := C.2.1
  have hown := C.2.2.2.1
  have hts := C.2.2.2.2.1
  unfold f_X9_part at hf
  refine lv_lload_n (pc := 0) hx hb dX9_part_0 rfl (lv_at hl 0 rfl) ?_
  refine lv_lstore (pc := 1) (lv' := [(5, .long x0), (0, .long x0), (2, .long x2), (4, .int x4)]) hx hb dX9_part_1 hl (Nat.le_of_ble_eq_true rfl) rfl (fun ls hl => ?_)
  refine lv_lload_n (pc := 3) hx hb dX9_part_3 rfl (lv_at hl 2 rfl) ?_
  refine lv_lstore (pc := 4) (lv' := [(7, .long x2), (5, .long x0), (0, .long x0), (2, .long x2), (4, .int x4)]) hx hb dX9_part_4 hl (Nat.le_of_ble_eq_true rfl) rfl (fun ls hl => ?_)
  obtain ⟨u2, hq, hf⟩ := bind1_some hf
  refine kl_X9_part_L6 C hA x0 x2 x4 FU (x0, x2) _ hq ?_ H locs ls hP hD hS (lv_sub hl [2, 3, 4, 1, 0] rfl)
  intro H locs ls hP hD hS hl
  have hP : va_P D classes ([] : va_W) H := hP
  have hD : va_D (va_A ws0 sz) ([] : va_W) := hD
  have hl : lv_has ls 11 [(0, .long x0), (2, .long x2), (4, .int x4), (5, .long u2)] := hl
  refine lv_iload (pc := 31) hx hb dX9_part_31 (lv_at hl 2 rfl) ?_
  refine lv_if_ne (pc := 33) (tgt := 40) hx hb dX9_part_33 (by decide) (fun hc => ?_) (fun hc => ?_)
  · have hf := (if_neg hc).symm.trans hf
    refine lv_lload_n (pc := 40) hx hb dX9_part_40 rfl (lv_at hl 1 rfl) ?_
    exact k_X9_part_b41 C hr hlk hA u2 x2 r hf H locs ls hP hD hS (lv_sub hl [3] rfl)
  · have hf := (if_pos hc).symm.trans hf
    refine lv_lload_n (pc := 36) hx hb dX9_part_36 rfl (lv_at hl 0 rfl) ?_
    refine lv_goto (pc := 37) (tgt := 41) hx hb dX9_part_37 (by decide) ?_
    exact k_X9_part_b41 C hr hlk hA u2 x0 r hf H locs ls hP hD hS (lv_sub hl [3] rfl)
set_option maxRecDepth 100000 in
theorem c_X9_part (l : Launch) (D : va_G) (cA : Nat → ClassId) (x0 : Int64) (x2 : Int64) (x4 : Int32) (r : Int64) (hf : f_X9_part x0 x2 x4 = some r) (sz : Nat) : Met l yX9_part (Cond.code yX9_part cX9_part 11 (some .long) :: lw_good) rm_X9_part (PreX D cA [.long x0, .long x2, .int x4] sz ([] : va_W)) (PostL D r ([] : va_W) ([] : va_W) sz) 0 0 (va_A ([] : va_W) sz) :=
  met_of (by decide) (Nat.le_of_ble_eq_true rfl) (fun p e s m args below meth c C hr hlk hA => k_X9_part C hr hlk hA x0 x2 x4 r hf)
end

abbrev wl_X9_finds (cA : Nat → ClassId) (b : Nat → Nat) (m_latest : Int32) (m_cells : Int32) (m_wide : Int32) (m_houses : Int32) (m_bowls : Int32) (m_dogs : Int32) (m_gone : Int32) (m_sights : Int32) (m_drawn : Int32) : va_W := [((b 0), .inr (9, [.ref (b 1), .ref (b 2), .ref (b 3), .ref (b 4), .int m_latest, .ref (b 5), .ref (b 6), .int m_cells, .int m_wide, .ref (b 7), .int m_houses, .ref (b 8), .ref (b 9), .int m_bowls, .ref (b 10), .int m_dogs, .ref (b 11), .int m_gone, .ref (b 12), .ref (b 13), .ref (b 14), .int m_sights, .ref (b 15), .ref (b 16), .int m_drawn]))]
abbrev rm_X9_finds : Room := { frames := 0, cells := 0, slots := 0, locals := 0 }
section
variable {p : Program} {l : Launch} {e : Env} {s : State} {m : MethodId} {args : Array Value} {below : List Frame} {meth : Method} {c : Code} {D : va_G} {cA : Nat → ClassId} {ws0 : va_W} {sz : Nat} {A : Nat → Prop} {Q : State → Prop}
def f_X9_finds (m_latest : Int32) (x1 : Int32) : Option (Int32 × Int32) :=
  some (((-10 : Int32) - x1), x1)
set_option maxHeartbeats 4000000 in
set_option maxRecDepth 100000 in
theorem k_X9_finds (C : Cx RX9 cX9_finds 2 D cA p s m args c) (hr : meth.sig.returnType = (some .int)) (hlk : meth.locks = false) (hA : ∀ q, s.heap.size ≤ q → va_A ws0 sz q) (b : Nat → Nat) (m_latest : Int32) (m_cells : Int32) (m_wide : Int32) (m_houses : Int32) (m_bowls : Int32) (m_dogs : Int32) (m_gone : Int32) (m_sights : Int32) (m_drawn : Int32) (x1 : Int32) (r : Int32 × Int32) (hf : f_X9_finds m_latest x1 = some r) : At p l e rm_X9_finds s m args below meth c D (va_A ws0 sz) 0 0 (MQ below (PostI D r.1 ws0 (wl_X9_finds cA b (r.2) m_cells m_wide m_houses m_bowls m_dogs m_gone m_sights m_drawn) sz) args s 0 0 (va_A ws0 sz)) 2 0 (wl_X9_finds cA b m_latest m_cells m_wide m_houses m_bowls m_dogs m_gone m_sights m_drawn) [(0, .ref (b 0)), (1, .int x1)] [] := by
  intro H locs ls hP hD hS hl
  have hx := C.1
  have hb := C.2.1
  have hown := C.2.2.2.1
  have hts := C.2.2.2.2.1
  unfold f_X9_finds at hf
  refine lv_aload_n (pc := 0) hx hb dX9_finds_0 rfl (lv_at hl 0 rfl) ?_
  refine lv_iload_n (pc := 1) hx hb dX9_finds_1 rfl (lv_at hl 1 rfl) ?_
  refine g_put (pc := 2) C fg_X9_64 ft_X9_4 hP hD hS 0 rfl rfl rfl (Nat.le_of_ble_eq_true rfl) dX9_finds_2 (fun H locs hP hD hS => ?_)
  have hP : va_P D classes (wl_X9_finds cA b x1 m_cells m_wide m_houses m_bowls m_dogs m_gone m_sights m_drawn) H := hP
  have hD : va_D (va_A ws0 sz) (wl_X9_finds cA b x1 m_cells m_wide m_houses m_bowls m_dogs m_gone m_sights m_drawn) := hD
  refine lv_bipush (pc := 5) (v := (-10)) hx hb dX9_finds_5 bp_m10 ?_
  refine lv_iload_n (pc := 7) hx hb dX9_finds_7 rfl (lv_at hl 1 rfl) ?_
  refine lv_isub (pc := 8) hx hb dX9_finds_8 ?_
  have hf := Option.some.inj hf
  subst hf
  exact ret_i C hr hlk hP hS dX9_finds_9
set_option maxRecDepth 100000 in
theorem c_X9_finds (l : Launch) (D : va_G) (cA : Nat → ClassId) (b : Nat → Nat) (m_latest : Int32) (m_cells : Int32) (m_wide : Int32) (m_houses : Int32) (m_bowls : Int32) (m_dogs : Int32) (m_gone : Int32) (m_sights : Int32) (m_drawn : Int32) (x1 : Int32) (r : Int32 × Int32) (hf : f_X9_finds m_latest x1 = some r) (sz : Nat) : Met l yX9_finds (Cond.code yX9_finds cX9_finds 2 (some .int) :: lw_good) rm_X9_finds (PreX D cA [.ref (b 0), .int x1] sz (wl_X9_finds cA b m_latest m_cells m_wide m_houses m_bowls m_dogs m_gone m_sights m_drawn)) (PostI D r.1 (wl_X9_finds cA b m_latest m_cells m_wide m_houses m_bowls m_dogs m_gone m_sights m_drawn) (wl_X9_finds cA b (r.2) m_cells m_wide m_houses m_bowls m_dogs m_gone m_sights m_drawn) sz) 0 0 (va_A (wl_X9_finds cA b m_latest m_cells m_wide m_houses m_bowls m_dogs m_gone m_sights m_drawn) sz) :=
  met_of (by decide) (Nat.le_of_ble_eq_true rfl) (fun p e s m args below meth c C hr hlk hA => k_X9_finds C hr hlk hA b m_latest m_cells m_wide m_houses m_bowls m_dogs m_gone m_sights m_drawn x1 r hf)
end

abbrev rm_X9_isSheet : Room := { frames := 1, cells := 0, slots := 0, locals := 25 }
section
variable {p : Program} {l : Launch} {e : Env} {s : State} {m : MethodId} {args : Array Value} {below : List Frame} {meth : Method} {c : Code} {D : va_G} {cA : Nat → ClassId} {ws0 : va_W} {sz : Nat} {A : Nat → Prop} {Q : State → Prop}
def f_X9_isSheet (x0 : Int32) : Option (Int32) :=
  bind1 (f_X9_in (x0.toInt64) (0 : Int64) (3 : Int64)) (fun r1 => gd (isz r1) (some r1))
set_option maxHeartbeats 4000000 in
set_option maxRecDepth 100000 in
theorem k_X9_isSheet (C : Cx RX9 cX9_isSheet 1 D cA p s m args c) (hr : meth.sig.returnType = (some .boolean)) (hlk : meth.locks = false) (hA : ∀ q, s.heap.size ≤ q → va_A ws0 sz q) (x0 : Int32) (r : Int32) (hf : f_X9_isSheet x0 = some r) : At p l e rm_X9_isSheet s m args below meth c D (va_A ws0 sz) 0 0 (MQ below (PostI D r ws0 ([] : va_W) sz) args s 0 0 (va_A ws0 sz)) 1 0 ([] : va_W) [(0, .int x0)] [] := by
  intro H locs ls hP hD hS hl
  have hx := C.1
  have hb := C.2.1
  have hown := C.2.2.2.1
  have hts := C.2.2.2.2.1
  unfold f_X9_isSheet at hf
  refine lv_iload_n (pc := 0) hx hb dX9_isSheet_0 rfl (lv_at hl 0 rfl) ?_
  refine lv_i2l (pc := 1) hx hb dX9_isSheet_1 rfl ?_
  refine lv_lconst (pc := 2) (v := 0) hx hb dX9_isSheet_2 rfl ?_
  refine lv_ldc2 (pc := 3) hx hb hown (hts _ (lg_in mw_461 rfl)) dX9_isSheet_3 ?_
  obtain ⟨r1, hq, hf⟩ := bind1_some hf
  refine fin2_i ([] : va_W) (run_S (rest := []) (pc := 6) (As := [.long (x0.toInt64), .long (0 : Int64), .long (3 : Int64)]) C mf_X9_60 (c_X9_in l D cA  (x0.toInt64) (0 : Int64) (3 : Int64) r1 hq H.size) rfl rfl ⟨(Nat.le_of_ble_eq_true rfl), (Nat.le_of_ble_eq_true rfl)⟩ (preS_of C hP hD [] rfl (pl_nd pv_26)) rfl hl.1 rfl (Nat.le_of_ble_eq_true rfl) dX9_isSheet_6 ⟨Nat.zero_le _, Nat.zero_le _⟩) hP hD hS hA [] [] rfl rfl rfl rfl pv_26 (fun H locs hP hS => ?_)
  obtain ⟨hg, hf⟩ := gd_some hf
  have hf := Option.some.inj hf
  subst hf
  exact ret_z C hr hlk hg hP hS dX9_isSheet_9
set_option maxRecDepth 100000 in
theorem c_X9_isSheet (l : Launch) (D : va_G) (cA : Nat → ClassId) (x0 : Int32) (r : Int32) (hf : f_X9_isSheet x0 = some r) (sz : Nat) : Met l yX9_isSheet (Cond.code yX9_isSheet cX9_isSheet 1 (some .boolean) :: lw_good) rm_X9_isSheet (PreX D cA [.int x0] sz ([] : va_W)) (PostI D r ([] : va_W) ([] : va_W) sz) 0 0 (va_A ([] : va_W) sz) :=
  met_of (by decide) (Nat.le_of_ble_eq_true rfl) (fun p e s m args below meth c C hr hlk hA => k_X9_isSheet C hr hlk hA x0 r hf)
end

abbrev wl_X9_sheet (cA : Nat → ClassId) (b : Nat → Nat) (m_latest : Int32) (m_cells : Int32) (m_wide : Int32) (m_houses : Int32) (m_bowls : Int32) (m_dogs : Int32) (m_gone : Int32) (m_sights : Int32) (m_drawn : Int32) (m_forms : Nat → Int32) (m_sizes : Nat → Int32) (m_items : Nat → Int32) : va_W := [((b 0), .inr (9, [.ref (b 1), .ref (b 2), .ref (b 3), .ref (b 4), .int m_latest, .ref (b 5), .ref (b 6), .int m_cells, .int m_wide, .ref (b 7), .int m_houses, .ref (b 8), .ref (b 9), .int m_bowls, .ref (b 10), .int m_dogs, .ref (b 11), .int m_gone, .ref (b 12), .ref (b 13), .ref (b 14), .int m_sights, .ref (b 15), .ref (b 16), .int m_drawn])), ((b 1), .inl (cA 0, 4, .inl m_forms)), ((b 2), .inl (cA 0, 4, .inl m_sizes)), ((b 3), .inl (cA 0, 240, .inl m_items))]
abbrev rm_X9_sheet : Room := { frames := 2, cells := 0, slots := 0, locals := 45 }
section
variable {p : Program} {l : Launch} {e : Env} {s : State} {m : MethodId} {args : Array Value} {below : List Frame} {meth : Method} {c : Code} {D : va_G} {cA : Nat → ClassId} {ws0 : va_W} {sz : Nat} {A : Nat → Prop} {Q : State → Prop}
def f_X9_sheet_L55 (x1 : Int32) (x3 : Int32) (x4 : Int32) (m_items : Nat → Int32) : Option ((Int32 × (Nat → Int32)) ⊕ ((Nat → Int32))) :=
  if x3 ≤ x4 then (some (.inr m_items)) else (gd (inb (((60 : Int32) * x1) + x4) 240) (some (.inl ((x4 + 1), (upd m_items (((60 : Int32) * x1) + x4).toNatClampNeg (0 : Int32))))))
set_option maxHeartbeats 4000000 in
set_option maxRecDepth 100000 in
theorem k_X9_sheet_L55 (C : Cx RX9 cX9_sheet 5 D cA p s m args c) (hA : ∀ q, s.heap.size ≤ q → A q) (b : Nat → Nat) (m_latest : Int32) (m_cells : Int32) (m_wide : Int32) (m_houses : Int32) (m_bowls : Int32) (m_dogs : Int32) (m_gone : Int32) (m_sights : Int32) (m_drawn : Int32) (m_forms : Nat → Int32) (m_sizes : Nat → Int32) (x1 : Int32) (x3 : Int32) (x4 : Int32) (m_items : Nat → Int32) (r : (Int32 × (Nat → Int32)) ⊕ ((Nat → Int32))) (hf : f_X9_sheet_L55 x1 x3 x4 m_items = some r) (hK : Sum.elim (fun q : Int32 × (Nat → Int32) => At p l e rm_X9_sheet s m args below meth c D A 0 0 Q 5 55 (wl_X9_sheet cA b m_latest m_cells m_wide m_houses m_bowls m_dogs m_gone m_sights m_drawn m_forms m_sizes (q.2)) [(0, .ref (b 0)), (1, .int x1), (3, .int x3), (4, .int (q.1))] []) (fun q : (Nat → Int32) => At p l e rm_X9_sheet s m args below meth c D A 0 0 Q 5 80 (wl_X9_sheet cA b m_latest m_cells m_wide m_houses m_bowls m_dogs m_gone m_sights m_drawn m_forms m_sizes q) [(3, .int x3)] []) r) : At p l e rm_X9_sheet s m args below meth c D A 0 0 Q 5 55 (wl_X9_sheet cA b m_latest m_cells m_wide m_houses m_bowls m_dogs m_gone m_sights m_drawn m_forms m_sizes m_items) [(0, .ref (b 0)), (1, .int x1), (3, .int x3), (4, .int x4)] [] := by
  intro H locs ls hP hD hS hl
  have hx := C.1
  have hb := C.2.1
  have hown := C.2.2.2.1
  have hts := C.2.2.2.2.1
  unfold f_X9_sheet_L55 at hf
  refine lv_iload (pc := 55) hx hb dX9_sheet_55 (lv_at hl 3 rfl) ?_
  refine lv_iload_n (pc := 57) hx hb dX9_sheet_57 rfl (lv_at hl 2 rfl) ?_
  refine lv_icmp_ge (pc := 58) (tgt := 80) hx hb dX9_sheet_58 (by decide) (fun hc => ?_) (fun hc => ?_)
  · have hf := (if_pos hc).symm.trans hf
    have hf := Option.some.inj hf
    subst hf
    exact hK H locs ls hP hD hS (lv_sub hl [2] rfl)
  · have hf := (if_neg hc).symm.trans hf
    refine lv_aload_n (pc := 61) hx hb dX9_sheet_61 rfl (lv_at hl 0 rfl) ?_
    refine g_get (pc := 62) C fg_X9_16 hP 0 rfl rfl dX9_sheet_62 ?_
    refine lv_bipush (pc := 65) (v := 60) hx hb dX9_sheet_65 bp_60 ?_
    refine lv_iload_n (pc := 67) hx hb dX9_sheet_67 rfl (lv_at hl 1 rfl) ?_
    refine lv_imul (pc := 68) hx hb dX9_sheet_68 ?_
    refine lv_iload (pc := 69) hx hb dX9_sheet_69 (lv_at hl 3 rfl) ?_
    refine lv_iadd (pc := 71) hx hb dX9_sheet_71 ?_
    refine lv_iconst (pc := 72) (v := 0) hx hb dX9_sheet_72 ic_0 ?_
    obtain ⟨hg, hf⟩ := gd_some hf
    refine g_iast (pc := 73) C hP hD hS 3 rfl hg dX9_sheet_73 (fun H locs hP hD hS => ?_)
    have hP : va_P D classes (wl_X9_sheet cA b m_latest m_cells m_wide m_houses m_bowls m_dogs m_gone m_sights m_drawn m_forms m_sizes (upd m_items (((60 : Int32) * x1) + x4).toNatClampNeg (0 : Int32))) H := hP
    have hD : va_D A (wl_X9_sheet cA b m_latest m_cells m_wide m_houses m_bowls m_dogs m_gone m_sights m_drawn m_forms m_sizes (upd m_items (((60 : Int32) * x1) + x4).toNatClampNeg (0 : Int32))) := hD
    refine lv_iinc (pc := 74) (v := (x4 + 1)) (lv' := [(4, .int (x4 + 1)), (0, .ref (b 0)), (1, .int x1), (3, .int x3)]) hx hb dX9_sheet_74 hl (k := 3) rfl rfl (Nat.le_of_ble_eq_true rfl) rfl (fun ls hl => ?_)
    refine lv_goto (pc := 77) (tgt := 55) hx hb dX9_sheet_77 (by decide) ?_
    have hf := Option.some.inj hf
    subst hf
    exact hK H locs ls hP hD hS (lv_sub hl [1, 2, 3, 0] rfl)
theorem kl_X9_sheet_L55 (C : Cx RX9 cX9_sheet 5 D cA p s m args c) (hA : ∀ q, s.heap.size ≤ q → A q) (b : Nat → Nat) (m_latest : Int32) (m_cells : Int32) (m_wide : Int32) (m_houses : Int32) (m_bowls : Int32) (m_dogs : Int32) (m_gone : Int32) (m_sights : Int32) (m_drawn : Int32) (m_forms : Nat → Int32) (m_sizes : Nat → Int32) (x1 : Int32) (x3 : Int32) : ∀ (n : Nat) (q : Int32 × (Nat → Int32)) (z : ((Nat → Int32))), loopF (fun q : Int32 × (Nat → Int32) => f_X9_sheet_L55 x1 x3 q.1 q.2) n q = some z → (fun q : (Nat → Int32) => At p l e rm_X9_sheet s m args below meth c D A 0 0 Q 5 80 (wl_X9_sheet cA b m_latest m_cells m_wide m_houses m_bowls m_dogs m_gone m_sights m_drawn m_forms m_sizes q) [(3, .int x3)] []) z → At p l e rm_X9_sheet s m args below meth c D A 0 0 Q 5 55 (wl_X9_sheet cA b m_latest m_cells m_wide m_houses m_bowls m_dogs m_gone m_sights m_drawn m_forms m_sizes (q.2)) [(0, .ref (b 0)), (1, .int x1), (3, .int x3), (4, .int (q.1))] [] :=
  loop_lem (WP := fun q : Int32 × (Nat → Int32) => At p l e rm_X9_sheet s m args below meth c D A 0 0 Q 5 55 (wl_X9_sheet cA b m_latest m_cells m_wide m_houses m_bowls m_dogs m_gone m_sights m_drawn m_forms m_sizes (q.2)) [(0, .ref (b 0)), (1, .int x1), (3, .int x3), (4, .int (q.1))] []) (WE := (fun q : (Nat → Int32) => At p l e rm_X9_sheet s m args below meth c D A 0 0 Q 5 80 (wl_X9_sheet cA b m_latest m_cells m_wide m_houses m_bowls m_dogs m_gone m_sights m_drawn m_forms m_sizes q) [(3, .int x3)] [])) (fun q r hf hK => k_X9_sheet_L55 C hA b m_latest m_cells m_wide m_houses m_bowls m_dogs m_gone m_sights m_drawn m_forms m_sizes x1 x3 q.1 q.2 r hf hK)
def f_X9_sheet (m_latest : Int32) (m_forms : Nat → Int32) (m_sizes : Nat → Int32) (m_items : Nat → Int32) (x1 : Int32) (x2 : Int32) (x3 : Int32) : Option (Int32 × Int32 × (Nat → Int32) × (Nat → Int32) × (Nat → Int32)) :=
  bind1 (f_X9_isSheet x1) (fun r1 => if r1 = 0 then (some ((-2 : Int32), m_latest, m_forms, m_sizes, m_items)) else (bind1 (f_X9_in (x2.toInt64) (0 : Int64) (2 : Int64)) (fun r2 => if r2 = 0 then (some ((-2 : Int32), m_latest, m_forms, m_sizes, m_items)) else (if x3 ≤ (60 : Int32) then (if 0 ≤ x3 then (gd (inb x1 4) (gd (inb x1 4) (bind1 (loopF (fun q : Int32 × (Nat → Int32) => f_X9_sheet_L55 x1 x3 q.1 q.2) FU ((0 : Int32), m_items)) (fun u3 => some (x3, m_latest, (upd m_forms x1.toNatClampNeg x2), (upd m_sizes x1.toNatClampNeg x3), u3))))) else (bind2 (f_X9_finds m_latest (5 : Int32)) (fun r4 c5 => some (r4, c5, m_forms, m_sizes, m_items)))) else (some ((-2 : Int32), m_latest, m_forms, m_sizes, m_items))))))
set_option maxHeartbeats 4000000 in
set_option maxRecDepth 100000 in
theorem k_X9_sheet (C : Cx RX9 cX9_sheet 5 D cA p s m args c) (hr : meth.sig.returnType = (some .int)) (hlk : meth.locks = false) (hA : ∀ q, s.heap.size ≤ q → va_A ws0 sz q) (b : Nat → Nat) (m_latest : Int32) (m_cells : Int32) (m_wide : Int32) (m_houses : Int32) (m_bowls : Int32) (m_dogs : Int32) (m_gone : Int32) (m_sights : Int32) (m_drawn : Int32) (m_forms : Nat → Int32) (m_sizes : Nat → Int32) (m_items : Nat → Int32) (x1 : Int32) (x2 : Int32) (x3 : Int32) (r : Int32 × Int32 × (Nat → Int32) × (Nat → Int32) × (Nat → Int32)) (hf : f_X9_sheet m_latest m_forms m_sizes m_items x1 x2 x3 = some r) : At p l e rm_X9_sheet s m args below meth c D (va_A ws0 sz) 0 0 (MQ below (PostI D r.1 ws0 (wl_X9_sheet cA b (r.2.1) m_cells m_wide m_houses m_bowls m_dogs m_gone m_sights m_drawn (r.2.2.1) (r.2.2.2.1) (r.2.2.2.2)) sz) args s 0 0 (va_A ws0 sz)) 5 0 (wl_X9_sheet cA b m_latest m_cells m_wide m_houses m_bowls m_dogs m_gone m_sights m_drawn m_forms m_sizes m_items) [(0, .ref (b 0)), (1, .int x1), (2, .int x2), (3, .int x3)] [] := by
  intro H locs ls hP hD hS hl
  have hx := C.1
  have hb := C.2.1
  have hown := C.2.2.2.1
  have hts := C.2.2.2.2.1
  unfold f_X9_sheet at hf
  refine lv_iload_n (pc := 0) hx hb dX9_sheet_0 rfl (lv_at hl 1 rfl) ?_
  obtain ⟨r1, hq, hf⟩ := bind1_some hf
  refine fin2_i (wl_X9_sheet cA b m_latest m_cells m_wide m_houses m_bowls m_dogs m_gone m_sights m_drawn m_forms m_sizes m_items) (run_S (rest := []) (pc := 1) (As := [.int x1]) C mf_X9_70 (c_X9_isSheet l D cA  x1 r1 hq H.size) rfl rfl ⟨(Nat.le_of_ble_eq_true rfl), (Nat.le_of_ble_eq_true rfl)⟩ (preS_of C hP hD [] rfl (pl_nd pv_25)) rfl hl.1 rfl (Nat.le_of_ble_eq_true rfl) dX9_sheet_1 ⟨Nat.zero_le _, Nat.zero_le _⟩) hP hD hS hA [] [0, 1, 2, 3] rfl rfl rfl rfl pv_25 (fun H locs hP hS => ?_)
  refine lv_if_eq (pc := 4) (tgt := 25) hx hb dX9_sheet_4 (by decide) (fun hc => ?_) (fun hc => ?_)
  · have hf := (if_pos hc).symm.trans hf
    refine lv_bipush (pc := 25) (v := (-2)) hx hb dX9_sheet_25 bp_m2 ?_
    have hf := Option.some.inj hf
    subst hf
    exact ret_i C hr hlk hP hS dX9_sheet_27
  · have hf := (if_neg hc).symm.trans hf
    refine lv_iload_n (pc := 7) hx hb dX9_sheet_7 rfl (lv_at hl 2 rfl) ?_
    refine lv_i2l (pc := 8) hx hb dX9_sheet_8 rfl ?_
    refine lv_lconst (pc := 9) (v := 0) hx hb dX9_sheet_9 rfl ?_
    refine lv_ldc2 (pc := 10) hx hb hown (hts _ (lg_in mw_465 rfl)) dX9_sheet_10 ?_
    obtain ⟨r2, hq, hf⟩ := bind1_some hf
    refine fin2_i (wl_X9_sheet cA b m_latest m_cells m_wide m_houses m_bowls m_dogs m_gone m_sights m_drawn m_forms m_sizes m_items) (run_S (rest := []) (pc := 13) (As := [.long (x2.toInt64), .long (0 : Int64), .long (2 : Int64)]) C mf_X9_60 (c_X9_in l D cA  (x2.toInt64) (0 : Int64) (2 : Int64) r2 hq H.size) rfl rfl ⟨(Nat.le_of_ble_eq_true rfl), (Nat.le_of_ble_eq_true rfl)⟩ (preS_of C hP hD [] rfl (pl_nd pv_25)) rfl hl.1 rfl (Nat.le_of_ble_eq_true rfl) dX9_sheet_13 ⟨Nat.zero_le _, Nat.zero_le _⟩) hP hD hS hA [] [0, 1, 2, 3] rfl rfl rfl rfl pv_25 (fun H locs hP hS => ?_)
    refine lv_if_eq (pc := 16) (tgt := 25) hx hb dX9_sheet_16 (by decide) (fun hc => ?_) (fun hc => ?_)
    · have hf := (if_pos hc).symm.trans hf
      refine lv_bipush (pc := 25) (v := (-2)) hx hb dX9_sheet_25 bp_m2 ?_
      have hf := Option.some.inj hf
      subst hf
      exact ret_i C hr hlk hP hS dX9_sheet_27
    · have hf := (if_neg hc).symm.trans hf
      refine lv_iload_n (pc := 19) hx hb dX9_sheet_19 rfl (lv_at hl 3 rfl) ?_
      refine lv_bipush (pc := 20) (v := 60) hx hb dX9_sheet_20 bp_60 ?_
      refine lv_icmp_le (pc := 22) (tgt := 28) hx hb dX9_sheet_22 (by decide) (fun hc => ?_) (fun hc => ?_)
      · have hf := (if_pos hc).symm.trans hf
        refine lv_iload_n (pc := 28) hx hb dX9_sheet_28 rfl (lv_at hl 3 rfl) ?_
        refine lv_if_ge (pc := 29) (tgt := 38) hx hb dX9_sheet_29 (by decide) (fun hc => ?_) (fun hc => ?_)
        · have hf := (if_pos hc).symm.trans hf
          refine lv_aload_n (pc := 38) hx hb dX9_sheet_38 rfl (lv_at hl 0 rfl) ?_
          refine g_get (pc := 39) C fg_X9_7 hP 0 rfl rfl dX9_sheet_39 ?_
          refine lv_iload_n (pc := 42) hx hb dX9_sheet_42 rfl (lv_at hl 1 rfl) ?_
          refine lv_iload_n (pc := 43) hx hb dX9_sheet_43 rfl (lv_at hl 2 rfl) ?_
          obtain ⟨hg, hf⟩ := gd_some hf
          refine g_iast (pc := 44) C hP hD hS 1 rfl hg dX9_sheet_44 (fun H locs hP hD hS => ?_)
          have hP : va_P D classes (wl_X9_sheet cA b m_latest m_cells m_wide m_houses m_bowls m_dogs m_gone m_sights m_drawn (upd m_forms x1.toNatClampNeg x2) m_sizes m_items) H := hP
          have hD : va_D (va_A ws0 sz) (wl_X9_sheet cA b m_latest m_cells m_wide m_houses m_bowls m_dogs m_gone m_sights m_drawn (upd m_forms x1.toNatClampNeg x2) m_sizes m_items) := hD
          refine lv_aload_n (pc := 45) hx hb dX9_sheet_45 rfl (lv_at hl 0 rfl) ?_
          refine g_get (pc := 46) C fg_X9_13 hP 0 rfl rfl dX9_sheet_46 ?_
          refine lv_iload_n (pc := 49) hx hb dX9_sheet_49 rfl (lv_at hl 1 rfl) ?_
          refine lv_iload_n (pc := 50) hx hb dX9_sheet_50 rfl (lv_at hl 3 rfl) ?_
          obtain ⟨hg, hf⟩ := gd_some hf
          refine g_iast (pc := 51) C hP hD hS 2 rfl hg dX9_sheet_51 (fun H locs hP hD hS => ?_)
          have hP : va_P D classes (wl_X9_sheet cA b m_latest m_cells m_wide m_houses m_bowls m_dogs m_gone m_sights m_drawn (upd m_forms x1.toNatClampNeg x2) (upd m_sizes x1.toNatClampNeg x3) m_items) H := hP
          have hD : va_D (va_A ws0 sz) (wl_X9_sheet cA b m_latest m_cells m_wide m_houses m_bowls m_dogs m_gone m_sights m_drawn (upd m_forms x1.toNatClampNeg x2) (upd m_sizes x1.toNatClampNeg x3) m_items) := hD
          refine lv_iconst (pc := 52) (v := 0) hx hb dX9_sheet_52 ic_0 ?_
          refine lv_istore (pc := 53) (lv' := [(4, .int (0 : Int32)), (0, .ref (b 0)), (1, .int x1), (2, .int x2), (3, .int x3)]) hx hb dX9_sheet_53 hl (Nat.le_of_ble_eq_true rfl) rfl (fun ls hl => ?_)
          obtain ⟨u3, hq, hf⟩ := bind1_some hf
          refine kl_X9_sheet_L55 C hA b m_latest m_cells m_wide m_houses m_bowls m_dogs m_gone m_sights m_drawn (upd m_forms x1.toNatClampNeg x2) (upd m_sizes x1.toNatClampNeg x3) x1 x3 FU ((0 : Int32), m_items) _ hq ?_ H locs ls hP hD hS (lv_sub hl [1, 2, 4, 0] rfl)
          intro H locs ls hP hD hS hl
          have hP : va_P D classes (wl_X9_sheet cA b m_latest m_cells m_wide m_houses m_bowls m_dogs m_gone m_sights m_drawn (upd m_forms x1.toNatClampNeg x2) (upd m_sizes x1.toNatClampNeg x3) u3) H := hP
          have hD : va_D (va_A ws0 sz) (wl_X9_sheet cA b m_latest m_cells m_wide m_houses m_bowls m_dogs m_gone m_sights m_drawn (upd m_forms x1.toNatClampNeg x2) (upd m_sizes x1.toNatClampNeg x3) u3) := hD
          have hl : lv_has ls 5 [(3, .int x3)] := hl
          refine lv_iload_n (pc := 80) hx hb dX9_sheet_80 rfl (lv_at hl 0 rfl) ?_
          have hf := Option.some.inj hf
          subst hf
          exact ret_i C hr hlk hP hS dX9_sheet_81
        · have hf := (if_neg hc).symm.trans hf
          refine lv_aload_n (pc := 32) hx hb dX9_sheet_32 rfl (lv_at hl 0 rfl) ?_
          refine lv_iconst (pc := 33) (v := 5) hx hb dX9_sheet_33 ic_5 ?_
          obtain ⟨r4, c5, hq, hf⟩ := bind2_some hf
          refine fin2_i (wl_X9_sheet cA b c5 m_cells m_wide m_houses m_bowls m_dogs m_gone m_sights m_drawn m_forms m_sizes m_items) (run_V (rest := []) (pc := 34) (As := [.int (5 : Int32)]) C mf_X9_76 (c_X9_finds l D cA b m_latest m_cells m_wide m_houses m_bowls m_dogs m_gone m_sights m_drawn (5 : Int32) (r4, c5) hq H.size) rfl rfl ⟨(Nat.le_of_ble_eq_true rfl), (Nat.le_of_ble_eq_true rfl)⟩ (preV_of C hP hD [0] rfl (pl_nd pv_119) 0 rfl rfl rfl) rfl hl.1 rfl (Nat.le_of_ble_eq_true rfl) dX9_sheet_34 ⟨Nat.zero_le _, Nat.zero_le _⟩) hP hD hS hA [0] [1, 2, 3] rfl rfl rfl rfl pv_119 (fun H locs hP hS => ?_)
          have hD : va_D (va_A ws0 sz) (wl_X9_sheet cA b c5 m_cells m_wide m_houses m_bowls m_dogs m_gone m_sights m_drawn m_forms m_sizes m_items) := vd_a hD rfl
          have hf := Option.some.inj hf
          subst hf
          exact ret_i C hr hlk hP hS dX9_sheet_37
      · have hf := (if_neg hc).symm.trans hf
        refine lv_bipush (pc := 25) (v := (-2)) hx hb dX9_sheet_25 bp_m2 ?_
        have hf := Option.some.inj hf
        subst hf
        exact ret_i C hr hlk hP hS dX9_sheet_27
set_option maxRecDepth 100000 in
theorem c_X9_sheet (l : Launch) (D : va_G) (cA : Nat → ClassId) (b : Nat → Nat) (m_latest : Int32) (m_cells : Int32) (m_wide : Int32) (m_houses : Int32) (m_bowls : Int32) (m_dogs : Int32) (m_gone : Int32) (m_sights : Int32) (m_drawn : Int32) (m_forms : Nat → Int32) (m_sizes : Nat → Int32) (m_items : Nat → Int32) (x1 : Int32) (x2 : Int32) (x3 : Int32) (r : Int32 × Int32 × (Nat → Int32) × (Nat → Int32) × (Nat → Int32)) (hf : f_X9_sheet m_latest m_forms m_sizes m_items x1 x2 x3 = some r) (sz : Nat) : Met l yX9_sheet (Cond.code yX9_sheet cX9_sheet 5 (some .int) :: lw_good) rm_X9_sheet (PreX D cA [.ref (b 0), .int x1, .int x2, .int x3] sz (wl_X9_sheet cA b m_latest m_cells m_wide m_houses m_bowls m_dogs m_gone m_sights m_drawn m_forms m_sizes m_items)) (PostI D r.1 (wl_X9_sheet cA b m_latest m_cells m_wide m_houses m_bowls m_dogs m_gone m_sights m_drawn m_forms m_sizes m_items) (wl_X9_sheet cA b (r.2.1) m_cells m_wide m_houses m_bowls m_dogs m_gone m_sights m_drawn (r.2.2.1) (r.2.2.2.1) (r.2.2.2.2)) sz) 0 0 (va_A (wl_X9_sheet cA b m_latest m_cells m_wide m_houses m_bowls m_dogs m_gone m_sights m_drawn m_forms m_sizes m_items) sz) :=
  met_of (by decide) (Nat.le_of_ble_eq_true rfl) (fun p e s m args below meth c C hr hlk hA => k_X9_sheet C hr hlk hA b m_latest m_cells m_wide m_houses m_bowls m_dogs m_gone m_sights m_drawn m_forms m_sizes m_items x1 x2 x3 r hf)
end

abbrev wl_X9_lose (cA : Nat → ClassId) (b : Nat → Nat) (m_latest : Int32) (m_cells : Int32) (m_wide : Int32) (m_houses : Int32) (m_bowls : Int32) (m_dogs : Int32) (m_gone : Int32) (m_sights : Int32) (m_drawn : Int32) (m_forms : Nat → Int32) (m_sizes : Nat → Int32) : va_W := [((b 0), .inr (9, [.ref (b 1), .ref (b 2), .ref (b 3), .ref (b 4), .int m_latest, .ref (b 5), .ref (b 6), .int m_cells, .int m_wide, .ref (b 7), .int m_houses, .ref (b 8), .ref (b 9), .int m_bowls, .ref (b 10), .int m_dogs, .ref (b 11), .int m_gone, .ref (b 12), .ref (b 13), .ref (b 14), .int m_sights, .ref (b 15), .ref (b 16), .int m_drawn])), ((b 1), .inl (cA 0, 4, .inl m_forms)), ((b 2), .inl (cA 0, 4, .inl m_sizes))]
abbrev rm_X9_lose : Room := { frames := 2, cells := 0, slots := 0, locals := 45 }
section
variable {p : Program} {l : Launch} {e : Env} {s : State} {m : MethodId} {args : Array Value} {below : List Frame} {meth : Method} {c : Code} {D : va_G} {cA : Nat → ClassId} {ws0 : va_W} {sz : Nat} {A : Nat → Prop} {Q : State → Prop}
def f_X9_lose (m_latest : Int32) (m_forms : Nat → Int32) (m_sizes : Nat → Int32) (x1 : Int32) : Option (Int32 × Int32 × (Nat → Int32)) :=
  bind1 (f_X9_isSheet x1) (fun r1 => if r1 = 0 then (some ((-2 : Int32), m_latest, m_forms)) else (gd (inb x1 4) (if 0 ≤ (m_forms x1.toNatClampNeg) then (gd (inb x1 4) (gd (inb x1 4) (some ((m_sizes x1.toNatClampNeg), m_latest, (upd m_forms x1.toNatClampNeg (-1 : Int32)))))) else (bind2 (f_X9_finds m_latest (1 : Int32)) (fun r2 c3 => some (r2, c3, m_forms))))))
set_option maxHeartbeats 4000000 in
set_option maxRecDepth 100000 in
theorem k_X9_lose (C : Cx RX9 cX9_lose 2 D cA p s m args c) (hr : meth.sig.returnType = (some .int)) (hlk : meth.locks = false) (hA : ∀ q, s.heap.size ≤ q → va_A ws0 sz q) (b : Nat → Nat) (m_latest : Int32) (m_cells : Int32) (m_wide : Int32) (m_houses : Int32) (m_bowls : Int32) (m_dogs : Int32) (m_gone : Int32) (m_sights : Int32) (m_drawn : Int32) (m_forms : Nat → Int32) (m_sizes : Nat → Int32) (x1 : Int32) (r : Int32 × Int32 × (Nat → Int32)) (hf : f_X9_lose m_latest m_forms m_sizes x1 = some r) : At p l e rm_X9_lose s m args below meth c D (va_A ws0 sz) 0 0 (MQ below (PostI D r.1 ws0 (wl_X9_lose cA b (r.2.1) m_cells m_wide m_houses m_bowls m_dogs m_gone m_sights m_drawn (r.2.2) m_sizes) sz) args s 0 0 (va_A ws0 sz)) 2 0 (wl_X9_lose cA b m_latest m_cells m_wide m_houses m_bowls m_dogs m_gone m_sights m_drawn m_forms m_sizes) [(0, .ref (b 0)), (1, .int x1)] [] := by
  intro H locs ls hP hD hS hl
  have hx := C.1
  have hb := C.2.1
  have hown := C.2.2.2.1
  have hts := C.2.2.2.2.1
  unfold f_X9_lose at hf
  refine lv_iload_n (pc := 0) hx hb dX9_lose_0 rfl (lv_at hl 1 rfl) ?_
  obtain ⟨r1, hq, hf⟩ := bind1_some hf
  refine fin2_i (wl_X9_lose cA b m_latest m_cells m_wide m_houses m_bowls m_dogs m_gone m_sights m_drawn m_forms m_sizes) (run_S (rest := []) (pc := 1) (As := [.int x1]) C mf_X9_70 (c_X9_isSheet l D cA  x1 r1 hq H.size) rfl rfl ⟨(Nat.le_of_ble_eq_true rfl), (Nat.le_of_ble_eq_true rfl)⟩ (preS_of C hP hD [] rfl (pl_nd pv_23)) rfl hl.1 rfl (Nat.le_of_ble_eq_true rfl) dX9_lose_1 ⟨Nat.zero_le _, Nat.zero_le _⟩) hP hD hS hA [] [0, 1, 2] rfl rfl rfl rfl pv_23 (fun H locs hP hS => ?_)
  refine lv_if_ne (pc := 4) (tgt := 10) hx hb dX9_lose_4 (by decide) (fun hc => ?_) (fun hc => ?_)
  · have hf := (if_neg hc).symm.trans hf
    refine lv_aload_n (pc := 10) hx hb dX9_lose_10 rfl (lv_at hl 0 rfl) ?_
    refine g_get (pc := 11) C fg_X9_7 hP 0 rfl rfl dX9_lose_11 ?_
    refine lv_iload_n (pc := 14) hx hb dX9_lose_14 rfl (lv_at hl 1 rfl) ?_
    obtain ⟨hg, hf⟩ := gd_some hf
    refine g_iald (pc := 15) C hP 1 rfl hg dX9_lose_15 ?_
    refine lv_if_ge (pc := 16) (tgt := 25) hx hb dX9_lose_16 (by decide) (fun hc => ?_) (fun hc => ?_)
    · have hf := (if_pos hc).symm.trans hf
      refine lv_aload_n (pc := 25) hx hb dX9_lose_25 rfl (lv_at hl 0 rfl) ?_
      refine g_get (pc := 26) C fg_X9_7 hP 0 rfl rfl dX9_lose_26 ?_
      refine lv_iload_n (pc := 29) hx hb dX9_lose_29 rfl (lv_at hl 1 rfl) ?_
      refine lv_iconst (pc := 30) (v := (-1)) hx hb dX9_lose_30 ic_m1 ?_
      obtain ⟨hg, hf⟩ := gd_some hf
      refine g_iast (pc := 31) C hP hD hS 1 rfl hg dX9_lose_31 (fun H locs hP hD hS => ?_)
      have hP : va_P D classes (wl_X9_lose cA b m_latest m_cells m_wide m_houses m_bowls m_dogs m_gone m_sights m_drawn (upd m_forms x1.toNatClampNeg (-1 : Int32)) m_sizes) H := hP
      have hD : va_D (va_A ws0 sz) (wl_X9_lose cA b m_latest m_cells m_wide m_houses m_bowls m_dogs m_gone m_sights m_drawn (upd m_forms x1.toNatClampNeg (-1 : Int32)) m_sizes) := hD
      refine lv_aload_n (pc := 32) hx hb dX9_lose_32 rfl (lv_at hl 0 rfl) ?_
      refine g_get (pc := 33) C fg_X9_13 hP 0 rfl rfl dX9_lose_33 ?_
      refine lv_iload_n (pc := 36) hx hb dX9_lose_36 rfl (lv_at hl 1 rfl) ?_
      obtain ⟨hg, hf⟩ := gd_some hf
      refine g_iald (pc := 37) C hP 2 rfl hg dX9_lose_37 ?_
      have hf := Option.some.inj hf
      subst hf
      exact ret_i C hr hlk hP hS dX9_lose_38
    · have hf := (if_neg hc).symm.trans hf
      refine lv_aload_n (pc := 19) hx hb dX9_lose_19 rfl (lv_at hl 0 rfl) ?_
      refine lv_iconst (pc := 20) (v := 1) hx hb dX9_lose_20 ic_1 ?_
      obtain ⟨r2, c3, hq, hf⟩ := bind2_some hf
      refine fin2_i (wl_X9_lose cA b c3 m_cells m_wide m_houses m_bowls m_dogs m_gone m_sights m_drawn m_forms m_sizes) (run_V (rest := []) (pc := 21) (As := [.int (1 : Int32)]) C mf_X9_76 (c_X9_finds l D cA b m_latest m_cells m_wide m_houses m_bowls m_dogs m_gone m_sights m_drawn (1 : Int32) (r2, c3) hq H.size) rfl rfl ⟨(Nat.le_of_ble_eq_true rfl), (Nat.le_of_ble_eq_true rfl)⟩ (preV_of C hP hD [0] rfl (pl_nd pv_120) 0 rfl rfl rfl) rfl hl.1 rfl (Nat.le_of_ble_eq_true rfl) dX9_lose_21 ⟨Nat.zero_le _, Nat.zero_le _⟩) hP hD hS hA [0] [1, 2] rfl rfl rfl rfl pv_120 (fun H locs hP hS => ?_)
      have hD : va_D (va_A ws0 sz) (wl_X9_lose cA b c3 m_cells m_wide m_houses m_bowls m_dogs m_gone m_sights m_drawn m_forms m_sizes) := vd_a hD rfl
      have hf := Option.some.inj hf
      subst hf
      exact ret_i C hr hlk hP hS dX9_lose_24
  · have hf := (if_pos hc).symm.trans hf
    refine lv_bipush (pc := 7) (v := (-2)) hx hb dX9_lose_7 bp_m2 ?_
    have hf := Option.some.inj hf
    subst hf
    exact ret_i C hr hlk hP hS dX9_lose_9
set_option maxRecDepth 100000 in
theorem c_X9_lose (l : Launch) (D : va_G) (cA : Nat → ClassId) (b : Nat → Nat) (m_latest : Int32) (m_cells : Int32) (m_wide : Int32) (m_houses : Int32) (m_bowls : Int32) (m_dogs : Int32) (m_gone : Int32) (m_sights : Int32) (m_drawn : Int32) (m_forms : Nat → Int32) (m_sizes : Nat → Int32) (x1 : Int32) (r : Int32 × Int32 × (Nat → Int32)) (hf : f_X9_lose m_latest m_forms m_sizes x1 = some r) (sz : Nat) : Met l yX9_lose (Cond.code yX9_lose cX9_lose 2 (some .int) :: lw_good) rm_X9_lose (PreX D cA [.ref (b 0), .int x1] sz (wl_X9_lose cA b m_latest m_cells m_wide m_houses m_bowls m_dogs m_gone m_sights m_drawn m_forms m_sizes)) (PostI D r.1 (wl_X9_lose cA b m_latest m_cells m_wide m_houses m_bowls m_dogs m_gone m_sights m_drawn m_forms m_sizes) (wl_X9_lose cA b (r.2.1) m_cells m_wide m_houses m_bowls m_dogs m_gone m_sights m_drawn (r.2.2) m_sizes) sz) 0 0 (va_A (wl_X9_lose cA b m_latest m_cells m_wide m_houses m_bowls m_dogs m_gone m_sights m_drawn m_forms m_sizes) sz) :=
  met_of (by decide) (Nat.le_of_ble_eq_true rfl) (fun p e s m args below meth c C hr hlk hA => k_X9_lose C hr hlk hA b m_latest m_cells m_wide m_houses m_bowls m_dogs m_gone m_sights m_drawn m_forms m_sizes x1 r hf)
end

abbrev wl_X9_lacks (cA : Nat → ClassId) (b : Nat → Nat) (m_latest : Int32) (m_cells : Int32) (m_wide : Int32) (m_houses : Int32) (m_bowls : Int32) (m_dogs : Int32) (m_gone : Int32) (m_sights : Int32) (m_drawn : Int32) (m_forms : Nat → Int32) (m_sizes : Nat → Int32) : va_W := [((b 0), .inr (9, [.ref (b 1), .ref (b 2), .ref (b 3), .ref (b 4), .int m_latest, .ref (b 5), .ref (b 6), .int m_cells, .int m_wide, .ref (b 7), .int m_houses, .ref (b 8), .ref (b 9), .int m_bowls, .ref (b 10), .int m_dogs, .ref (b 11), .int m_gone, .ref (b 12), .ref (b 13), .ref (b 14), .int m_sights, .ref (b 15), .ref (b 16), .int m_drawn])), ((b 1), .inl (cA 0, 4, .inl m_forms)), ((b 2), .inl (cA 0, 4, .inl m_sizes))]
abbrev rm_X9_lacks : Room := { frames := 1, cells := 0, slots := 0, locals := 25 }
section
variable {p : Program} {l : Launch} {e : Env} {s : State} {m : MethodId} {args : Array Value} {below : List Frame} {meth : Method} {c : Code} {D : va_G} {cA : Nat → ClassId} {ws0 : va_W} {sz : Nat} {A : Nat → Prop} {Q : State → Prop}
def f_X9_lacks (m_latest : Int32) (m_forms : Nat → Int32) (m_sizes : Nat → Int32) (x1 : Int32) (x2 : Int32) (x3 : Int32) : Option (Int32 × Int32) :=
  gd (inb x1 4) (if 0 ≤ (m_forms x1.toNatClampNeg) then (gd (inb x1 4) (if (m_forms x1.toNatClampNeg) = x2 then (gd (inb x1 4) (bind1 (f_X9_in (x3.toInt64) (0 : Int64) (((m_sizes x1.toNatClampNeg) - (1 : Int32)).toInt64)) (fun r1 => if r1 = 0 then (bind2 (f_X9_finds m_latest (2 : Int32)) (fun r2 c3 => some (r2, c3))) else (some ((0 : Int32), m_latest))))) else (bind2 (f_X9_finds m_latest (3 : Int32)) (fun r4 c5 => some (r4, c5))))) else (bind2 (f_X9_finds m_latest (1 : Int32)) (fun r6 c7 => some (r6, c7))))
set_option maxHeartbeats 4000000 in
set_option maxRecDepth 100000 in
theorem k_X9_lacks (C : Cx RX9 cX9_lacks 4 D cA p s m args c) (hr : meth.sig.returnType = (some .int)) (hlk : meth.locks = false) (hA : ∀ q, s.heap.size ≤ q → va_A ws0 sz q) (b : Nat → Nat) (m_latest : Int32) (m_cells : Int32) (m_wide : Int32) (m_houses : Int32) (m_bowls : Int32) (m_dogs : Int32) (m_gone : Int32) (m_sights : Int32) (m_drawn : Int32) (m_forms : Nat → Int32) (m_sizes : Nat → Int32) (x1 : Int32) (x2 : Int32) (x3 : Int32) (r : Int32 × Int32) (hf : f_X9_lacks m_latest m_forms m_sizes x1 x2 x3 = some r) : At p l e rm_X9_lacks s m args below meth c D (va_A ws0 sz) 0 0 (MQ below (PostI D r.1 ws0 (wl_X9_lacks cA b (r.2) m_cells m_wide m_houses m_bowls m_dogs m_gone m_sights m_drawn m_forms m_sizes) sz) args s 0 0 (va_A ws0 sz)) 4 0 (wl_X9_lacks cA b m_latest m_cells m_wide m_houses m_bowls m_dogs m_gone m_sights m_drawn m_forms m_sizes) [(0, .ref (b 0)), (1, .int x1), (2, .int x2), (3, .int x3)] [] := by
  intro H locs ls hP hD hS hl
  have hx := C.1
  have hb := C.2.1
  have hown := C.2.2.2.1
  have hts := C.2.2.2.2.1
  unfold f_X9_lacks at hf
  refine lv_aload_n (pc := 0) hx hb dX9_lacks_0 rfl (lv_at hl 0 rfl) ?_
  refine g_get (pc := 1) C fg_X9_7 hP 0 rfl rfl dX9_lacks_1 ?_
  refine lv_iload_n (pc := 4) hx hb dX9_lacks_4 rfl (lv_at hl 1 rfl) ?_
  obtain ⟨hg, hf⟩ := gd_some hf
  refine g_iald (pc := 5) C hP 1 rfl hg dX9_lacks_5 ?_
  refine lv_if_ge (pc := 6) (tgt := 15) hx hb dX9_lacks_6 (by decide) (fun hc => ?_) (fun hc => ?_)
  · have hf := (if_pos hc).symm.trans hf
    refine lv_aload_n (pc := 15) hx hb dX9_lacks_15 rfl (lv_at hl 0 rfl) ?_
    refine g_get (pc := 16) C fg_X9_7 hP 0 rfl rfl dX9_lacks_16 ?_
    refine lv_iload_n (pc := 19) hx hb dX9_lacks_19 rfl (lv_at hl 1 rfl) ?_
    obtain ⟨hg, hf⟩ := gd_some hf
    refine g_iald (pc := 20) C hP 1 rfl hg dX9_lacks_20 ?_
    refine lv_iload_n (pc := 21) hx hb dX9_lacks_21 rfl (lv_at hl 2 rfl) ?_
    refine lv_icmp_eq (pc := 22) (tgt := 31) hx hb dX9_lacks_22 (by decide) (fun hc => ?_) (fun hc => ?_)
    · have hf := (if_pos hc).symm.trans hf
      refine lv_iload_n (pc := 31) hx hb dX9_lacks_31 rfl (lv_at hl 3 rfl) ?_
      refine lv_i2l (pc := 32) hx hb dX9_lacks_32 rfl ?_
      refine lv_lconst (pc := 33) (v := 0) hx hb dX9_lacks_33 rfl ?_
      refine lv_aload_n (pc := 34) hx hb dX9_lacks_34 rfl (lv_at hl 0 rfl) ?_
      refine g_get (pc := 35) C fg_X9_13 hP 0 rfl rfl dX9_lacks_35 ?_
      refine lv_iload_n (pc := 38) hx hb dX9_lacks_38 rfl (lv_at hl 1 rfl) ?_
      obtain ⟨hg, hf⟩ := gd_some hf
      refine g_iald (pc := 39) C hP 2 rfl hg dX9_lacks_39 ?_
      refine lv_iconst (pc := 40) (v := 1) hx hb dX9_lacks_40 ic_1 ?_
      refine lv_isub (pc := 41) hx hb dX9_lacks_41 ?_
      refine lv_i2l (pc := 42) hx hb dX9_lacks_42 rfl ?_
      obtain ⟨r1, hq, hf⟩ := bind1_some hf
      refine fin2_i (wl_X9_lacks cA b m_latest m_cells m_wide m_houses m_bowls m_dogs m_gone m_sights m_drawn m_forms m_sizes) (run_S (rest := []) (pc := 43) (As := [.long (x3.toInt64), .long (0 : Int64), .long (((m_sizes x1.toNatClampNeg) - (1 : Int32)).toInt64)]) C mf_X9_60 (c_X9_in l D cA  (x3.toInt64) (0 : Int64) (((m_sizes x1.toNatClampNeg) - (1 : Int32)).toInt64) r1 hq H.size) rfl rfl ⟨(Nat.le_of_ble_eq_true rfl), (Nat.le_of_ble_eq_true rfl)⟩ (preS_of C hP hD [] rfl (pl_nd pv_23)) rfl hl.1 rfl (Nat.le_of_ble_eq_true rfl) dX9_lacks_43 ⟨Nat.zero_le _, Nat.zero_le _⟩) hP hD hS hA [] [0, 1, 2] rfl rfl rfl rfl pv_23 (fun H locs hP hS => ?_)
      refine lv_if_eq (pc := 46) (tgt := 53) hx hb dX9_lacks_46 (by decide) (fun hc => ?_) (fun hc => ?_)
      · have hf := (if_pos hc).symm.trans hf
        refine lv_aload_n (pc := 53) hx hb dX9_lacks_53 rfl (lv_at hl 0 rfl) ?_
        refine lv_iconst (pc := 54) (v := 2) hx hb dX9_lacks_54 ic_2 ?_
        obtain ⟨r2, c3, hq, hf⟩ := bind2_some hf
        refine fin2_i (wl_X9_lacks cA b c3 m_cells m_wide m_houses m_bowls m_dogs m_gone m_sights m_drawn m_forms m_sizes) (run_V (rest := []) (pc := 55) (As := [.int (2 : Int32)]) C mf_X9_76 (c_X9_finds l D cA b m_latest m_cells m_wide m_houses m_bowls m_dogs m_gone m_sights m_drawn (2 : Int32) (r2, c3) hq H.size) rfl rfl ⟨(Nat.le_of_ble_eq_true rfl), (Nat.le_of_ble_eq_true rfl)⟩ (preV_of C hP hD [0] rfl (pl_nd pv_120) 0 rfl rfl rfl) rfl hl.1 rfl (Nat.le_of_ble_eq_true rfl) dX9_lacks_55 ⟨Nat.zero_le _, Nat.zero_le _⟩) hP hD hS hA [0] [1, 2] rfl rfl rfl rfl pv_120 (fun H locs hP hS => ?_)
        have hD : va_D (va_A ws0 sz) (wl_X9_lacks cA b c3 m_cells m_wide m_houses m_bowls m_dogs m_gone m_sights m_drawn m_forms m_sizes) := vd_a hD rfl
        have hf := Option.some.inj hf
        subst hf
        exact ret_i C hr hlk hP hS dX9_lacks_58
      · have hf := (if_neg hc).symm.trans hf
        refine lv_iconst (pc := 49) (v := 0) hx hb dX9_lacks_49 ic_0 ?_
        refine lv_goto (pc := 50) (tgt := 58) hx hb dX9_lacks_50 (by decide) ?_
        have hf := Option.some.inj hf
        subst hf
        exact ret_i C hr hlk hP hS dX9_lacks_58
    · have hf := (if_neg hc).symm.trans hf
      refine lv_aload_n (pc := 25) hx hb dX9_lacks_25 rfl (lv_at hl 0 rfl) ?_
      refine lv_iconst (pc := 26) (v := 3) hx hb dX9_lacks_26 ic_3 ?_
      obtain ⟨r4, c5, hq, hf⟩ := bind2_some hf
      refine fin2_i (wl_X9_lacks cA b c5 m_cells m_wide m_houses m_bowls m_dogs m_gone m_sights m_drawn m_forms m_sizes) (run_V (rest := []) (pc := 27) (As := [.int (3 : Int32)]) C mf_X9_76 (c_X9_finds l D cA b m_latest m_cells m_wide m_houses m_bowls m_dogs m_gone m_sights m_drawn (3 : Int32) (r4, c5) hq H.size) rfl rfl ⟨(Nat.le_of_ble_eq_true rfl), (Nat.le_of_ble_eq_true rfl)⟩ (preV_of C hP hD [0] rfl (pl_nd pv_120) 0 rfl rfl rfl) rfl hl.1 rfl (Nat.le_of_ble_eq_true rfl) dX9_lacks_27 ⟨Nat.zero_le _, Nat.zero_le _⟩) hP hD hS hA [0] [1, 2] rfl rfl rfl rfl pv_120 (fun H locs hP hS => ?_)
      have hD : va_D (va_A ws0 sz) (wl_X9_lacks cA b c5 m_cells m_wide m_houses m_bowls m_dogs m_gone m_sights m_drawn m_forms m_sizes) := vd_a hD rfl
      have hf := Option.some.inj hf
      subst hf
      exact ret_i C hr hlk hP hS dX9_lacks_30
  · have hf := (if_neg hc).symm.trans hf
    refine lv_aload_n (pc := 9) hx hb dX9_lacks_9 rfl (lv_at hl 0 rfl) ?_
    refine lv_iconst (pc := 10) (v := 1) hx hb dX9_lacks_10 ic_1 ?_
    obtain ⟨r6, c7, hq, hf⟩ := bind2_some hf
    refine fin2_i (wl_X9_lacks cA b c7 m_cells m_wide m_houses m_bowls m_dogs m_gone m_sights m_drawn m_forms m_sizes) (run_V (rest := []) (pc := 11) (As := [.int (1 : Int32)]) C mf_X9_76 (c_X9_finds l D cA b m_latest m_cells m_wide m_houses m_bowls m_dogs m_gone m_sights m_drawn (1 : Int32) (r6, c7) hq H.size) rfl rfl ⟨(Nat.le_of_ble_eq_true rfl), (Nat.le_of_ble_eq_true rfl)⟩ (preV_of C hP hD [0] rfl (pl_nd pv_120) 0 rfl rfl rfl) rfl hl.1 rfl (Nat.le_of_ble_eq_true rfl) dX9_lacks_11 ⟨Nat.zero_le _, Nat.zero_le _⟩) hP hD hS hA [0] [1, 2] rfl rfl rfl rfl pv_120 (fun H locs hP hS => ?_)
    have hD : va_D (va_A ws0 sz) (wl_X9_lacks cA b c7 m_cells m_wide m_houses m_bowls m_dogs m_gone m_sights m_drawn m_forms m_sizes) := vd_a hD rfl
    have hf := Option.some.inj hf
    subst hf
    exact ret_i C hr hlk hP hS dX9_lacks_14
set_option maxRecDepth 100000 in
theorem c_X9_lacks (l : Launch) (D : va_G) (cA : Nat → ClassId) (b : Nat → Nat) (m_latest : Int32) (m_cells : Int32) (m_wide : Int32) (m_houses : Int32) (m_bowls : Int32) (m_dogs : Int32) (m_gone : Int32) (m_sights : Int32) (m_drawn : Int32) (m_forms : Nat → Int32) (m_sizes : Nat → Int32) (x1 : Int32) (x2 : Int32) (x3 : Int32) (r : Int32 × Int32) (hf : f_X9_lacks m_latest m_forms m_sizes x1 x2 x3 = some r) (sz : Nat) : Met l yX9_lacks (Cond.code yX9_lacks cX9_lacks 4 (some .int) :: lw_good) rm_X9_lacks (PreX D cA [.ref (b 0), .int x1, .int x2, .int x3] sz (wl_X9_lacks cA b m_latest m_cells m_wide m_houses m_bowls m_dogs m_gone m_sights m_drawn m_forms m_sizes)) (PostI D r.1 (wl_X9_lacks cA b m_latest m_cells m_wide m_houses m_bowls m_dogs m_gone m_sights m_drawn m_forms m_sizes) (wl_X9_lacks cA b (r.2) m_cells m_wide m_houses m_bowls m_dogs m_gone m_sights m_drawn m_forms m_sizes) sz) 0 0 (va_A (wl_X9_lacks cA b m_latest m_cells m_wide m_houses m_bowls m_dogs m_gone m_sights m_drawn m_forms m_sizes) sz) :=
  met_of (by decide) (Nat.le_of_ble_eq_true rfl) (fun p e s m args below meth c C hr hlk hA => k_X9_lacks C hr hlk hA b m_latest m_cells m_wide m_houses m_bowls m_dogs m_gone m_sights m_drawn m_forms m_sizes x1 x2 x3 r hf)
end

abbrev rm_X9_cut : Room := { frames := 0, cells := 0, slots := 0, locals := 0 }
section
variable {p : Program} {l : Launch} {e : Env} {s : State} {m : MethodId} {args : Array Value} {below : List Frame} {meth : Method} {c : Code} {D : va_G} {cA : Nat → ClassId} {ws0 : va_W} {sz : Nat} {A : Nat → Prop} {Q : State → Prop}
def f_X9_cut (x0 : Int32) (x1 : Int32) : Option (Int32) :=
  if x0 = 0 then (some (x1.toInt8.toInt32)) else (if x0 = (1 : Int32) then (some (x1.toInt16.toInt32)) else (some x1))
set_option maxHeartbeats 4000000 in
set_option maxRecDepth 100000 in
theorem k_X9_cut (C : Cx RX9 cX9_cut 2 D cA p s m args c) (hr : meth.sig.returnType = (some .int)) (hlk : meth.locks = false) (hA : ∀ q, s.heap.size ≤ q → va_A ws0 sz q) (x0 : Int32) (x1 : Int32) (r : Int32) (hf : f_X9_cut x0 x1 = some r) : At p l e rm_X9_cut s m args below meth c D (va_A ws0 sz) 0 0 (MQ below (PostI D r ws0 ([] : va_W) sz) args s 0 0 (va_A ws0 sz)) 2 0 ([] : va_W) [(0, .int x0), (1, .int x1)] [] := by
  intro H locs ls hP hD hS hl
  have hx := C.1
  have hb := C.2.1
  have hown := C.2.2.2.1
  have hts := C.2.2.2.2.1
  unfold f_X9_cut at hf
  refine lv_iload_n (pc := 0) hx hb dX9_cut_0 rfl (lv_at hl 0 rfl) ?_
  refine lv_if_ne (pc := 1) (tgt := 9) hx hb dX9_cut_1 (by decide) (fun hc => ?_) (fun hc => ?_)
  · have hf := (if_neg hc).symm.trans hf
    refine lv_iload_n (pc := 9) hx hb dX9_cut_9 rfl (lv_at hl 0 rfl) ?_
    refine lv_iconst (pc := 10) (v := 1) hx hb dX9_cut_10 ic_1 ?_
    refine lv_icmp_ne (pc := 11) (tgt := 19) hx hb dX9_cut_11 (by decide) (fun hc => ?_) (fun hc => ?_)
    · have hf := (if_neg hc).symm.trans hf
      refine lv_iload_n (pc := 19) hx hb dX9_cut_19 rfl (lv_at hl 1 rfl) ?_
      have hf := Option.some.inj hf
      subst hf
      exact ret_i C hr hlk hP hS dX9_cut_20
    · have hf := (if_pos hc).symm.trans hf
      refine lv_iload_n (pc := 14) hx hb dX9_cut_14 rfl (lv_at hl 1 rfl) ?_
      refine lv_i2s (pc := 15) hx hb dX9_cut_15 rfl ?_
      refine lv_goto (pc := 16) (tgt := 20) hx hb dX9_cut_16 (by decide) ?_
      have hf := Option.some.inj hf
      subst hf
      exact ret_i C hr hlk hP hS dX9_cut_20
  · have hf := (if_pos hc).symm.trans hf
    refine lv_iload_n (pc := 4) hx hb dX9_cut_4 rfl (lv_at hl 1 rfl) ?_
    refine lv_i2b (pc := 5) hx hb dX9_cut_5 rfl ?_
    refine lv_goto (pc := 6) (tgt := 20) hx hb dX9_cut_6 (by decide) ?_
    have hf := Option.some.inj hf
    subst hf
    exact ret_i C hr hlk hP hS dX9_cut_20
set_option maxRecDepth 100000 in
theorem c_X9_cut (l : Launch) (D : va_G) (cA : Nat → ClassId) (x0 : Int32) (x1 : Int32) (r : Int32) (hf : f_X9_cut x0 x1 = some r) (sz : Nat) : Met l yX9_cut (Cond.code yX9_cut cX9_cut 2 (some .int) :: lw_good) rm_X9_cut (PreX D cA [.int x0, .int x1] sz ([] : va_W)) (PostI D r ([] : va_W) ([] : va_W) sz) 0 0 (va_A ([] : va_W) sz) :=
  met_of (by decide) (Nat.le_of_ble_eq_true rfl) (fun p e s m args below meth c C hr hlk hA => k_X9_cut C hr hlk hA x0 x1 r hf)
end

abbrev wl_X9_lay (cA : Nat → ClassId) (b : Nat → Nat) (m_latest : Int32) (m_cells : Int32) (m_wide : Int32) (m_houses : Int32) (m_bowls : Int32) (m_dogs : Int32) (m_gone : Int32) (m_sights : Int32) (m_drawn : Int32) (m_forms : Nat → Int32) (m_sizes : Nat → Int32) (m_items : Nat → Int32) : va_W := [((b 0), .inr (9, [.ref (b 1), .ref (b 2), .ref (b 3), .ref (b 4), .int m_latest, .ref (b 5), .ref (b 6), .int m_cells, .int m_wide, .ref (b 7), .int m_houses, .ref (b 8), .ref (b 9), .int m_bowls, .ref (b 10), .int m_dogs, .ref (b 11), .int m_gone, .ref (b 12), .ref (b 13), .ref (b 14), .int m_sights, .ref (b 15), .ref (b 16), .int m_drawn])), ((b 1), .inl (cA 0, 4, .inl m_forms)), ((b 2), .inl (cA 0, 4, .inl m_sizes)), ((b 3), .inl (cA 0, 240, .inl m_items))]
abbrev rm_X9_lay : Room := { frames := 2, cells := 0, slots := 0, locals := 48 }
section
variable {p : Program} {l : Launch} {e : Env} {s : State} {m : MethodId} {args : Array Value} {below : List Frame} {meth : Method} {c : Code} {D : va_G} {cA : Nat → ClassId} {ws0 : va_W} {sz : Nat} {A : Nat → Prop} {Q : State → Prop}
def f_X9_lay (m_latest : Int32) (m_forms : Nat → Int32) (m_sizes : Nat → Int32) (m_items : Nat → Int32) (x1 : Int32) (x2 : Int32) (x3 : Int32) (x4 : Int32) : Option (Int32 × Int32 × (Nat → Int32)) :=
  bind1 (f_X9_isSheet x1) (fun r1 => if r1 = 0 then (some ((-2 : Int32), m_latest, m_items)) else (bind1 (f_X9_in (x2.toInt64) (0 : Int64) (2 : Int64)) (fun r2 => if r2 = 0 then (some ((-2 : Int32), m_latest, m_items)) else (bind2 (f_X9_lacks m_latest m_forms m_sizes x1 x2 x3) (fun r3 c4 => if r3 = 0 then (bind1 (f_X9_cut x2 x4) (fun r5 => gd (inb (((60 : Int32) * x1) + x3) 240) (some ((1 : Int32), c4, (upd m_items (((60 : Int32) * x1) + x3).toNatClampNeg r5))))) else (some (r3, c4, m_items)))))))
set_option maxHeartbeats 4000000 in
set_option maxRecDepth 100000 in
theorem k_X9_lay (C : Cx RX9 cX9_lay 6 D cA p s m args c) (hr : meth.sig.returnType = (some .int)) (hlk : meth.locks = false) (hA : ∀ q, s.heap.size ≤ q → va_A ws0 sz q) (b : Nat → Nat) (m_latest : Int32) (m_cells : Int32) (m_wide : Int32) (m_houses : Int32) (m_bowls : Int32) (m_dogs : Int32) (m_gone : Int32) (m_sights : Int32) (m_drawn : Int32) (m_forms : Nat → Int32) (m_sizes : Nat → Int32) (m_items : Nat → Int32) (x1 : Int32) (x2 : Int32) (x3 : Int32) (x4 : Int32) (r : Int32 × Int32 × (Nat → Int32)) (hf : f_X9_lay m_latest m_forms m_sizes m_items x1 x2 x3 x4 = some r) : At p l e rm_X9_lay s m args below meth c D (va_A ws0 sz) 0 0 (MQ below (PostI D r.1 ws0 (wl_X9_lay cA b (r.2.1) m_cells m_wide m_houses m_bowls m_dogs m_gone m_sights m_drawn m_forms m_sizes (r.2.2)) sz) args s 0 0 (va_A ws0 sz)) 6 0 (wl_X9_lay cA b m_latest m_cells m_wide m_houses m_bowls m_dogs m_gone m_sights m_drawn m_forms m_sizes m_items) [(0, .ref (b 0)), (1, .int x1), (2, .int x2), (3, .int x3), (4, .int x4)] [] := by
  intro H locs ls hP hD hS hl
  have hx := C.1
  have hb := C.2.1
  have hown := C.2.2.2.1
  have hts := C.2.2.2.2.1
  unfold f_X9_lay at hf
  refine lv_iload_n (pc := 0) hx hb dX9_lay_0 rfl (lv_at hl 1 rfl) ?_
  obtain ⟨r1, hq, hf⟩ := bind1_some hf
  refine fin2_i (wl_X9_lay cA b m_latest m_cells m_wide m_houses m_bowls m_dogs m_gone m_sights m_drawn m_forms m_sizes m_items) (run_S (rest := []) (pc := 1) (As := [.int x1]) C mf_X9_70 (c_X9_isSheet l D cA  x1 r1 hq H.size) rfl rfl ⟨(Nat.le_of_ble_eq_true rfl), (Nat.le_of_ble_eq_true rfl)⟩ (preS_of C hP hD [] rfl (pl_nd pv_25)) rfl hl.1 rfl (Nat.le_of_ble_eq_true rfl) dX9_lay_1 ⟨Nat.zero_le _, Nat.zero_le _⟩) hP hD hS hA [] [0, 1, 2, 3] rfl rfl rfl rfl pv_25 (fun H locs hP hS => ?_)
  refine lv_if_eq (pc := 4) (tgt := 19) hx hb dX9_lay_4 (by decide) (fun hc => ?_) (fun hc => ?_)
  · have hf := (if_pos hc).symm.trans hf
    refine lv_bipush (pc := 19) (v := (-2)) hx hb dX9_lay_19 bp_m2 ?_
    have hf := Option.some.inj hf
    subst hf
    exact ret_i C hr hlk hP hS dX9_lay_21
  · have hf := (if_neg hc).symm.trans hf
    refine lv_iload_n (pc := 7) hx hb dX9_lay_7 rfl (lv_at hl 2 rfl) ?_
    refine lv_i2l (pc := 8) hx hb dX9_lay_8 rfl ?_
    refine lv_lconst (pc := 9) (v := 0) hx hb dX9_lay_9 rfl ?_
    refine lv_ldc2 (pc := 10) hx hb hown (hts _ (lg_in mw_465 rfl)) dX9_lay_10 ?_
    obtain ⟨r2, hq, hf⟩ := bind1_some hf
    refine fin2_i (wl_X9_lay cA b m_latest m_cells m_wide m_houses m_bowls m_dogs m_gone m_sights m_drawn m_forms m_sizes m_items) (run_S (rest := []) (pc := 13) (As := [.long (x2.toInt64), .long (0 : Int64), .long (2 : Int64)]) C mf_X9_60 (c_X9_in l D cA  (x2.toInt64) (0 : Int64) (2 : Int64) r2 hq H.size) rfl rfl ⟨(Nat.le_of_ble_eq_true rfl), (Nat.le_of_ble_eq_true rfl)⟩ (preS_of C hP hD [] rfl (pl_nd pv_25)) rfl hl.1 rfl (Nat.le_of_ble_eq_true rfl) dX9_lay_13 ⟨Nat.zero_le _, Nat.zero_le _⟩) hP hD hS hA [] [0, 1, 2, 3] rfl rfl rfl rfl pv_25 (fun H locs hP hS => ?_)
    refine lv_if_ne (pc := 16) (tgt := 22) hx hb dX9_lay_16 (by decide) (fun hc => ?_) (fun hc => ?_)
    · have hf := (if_neg hc).symm.trans hf
      refine lv_aload_n (pc := 22) hx hb dX9_lay_22 rfl (lv_at hl 0 rfl) ?_
      refine lv_iload_n (pc := 23) hx hb dX9_lay_23 rfl (lv_at hl 1 rfl) ?_
      refine lv_iload_n (pc := 24) hx hb dX9_lay_24 rfl (lv_at hl 2 rfl) ?_
      refine lv_iload_n (pc := 25) hx hb dX9_lay_25 rfl (lv_at hl 3 rfl) ?_
      obtain ⟨r3, c4, hq, hf⟩ := bind2_some hf
      refine fin2_i (wl_X9_lay cA b c4 m_cells m_wide m_houses m_bowls m_dogs m_gone m_sights m_drawn m_forms m_sizes m_items) (run_V (rest := []) (pc := 26) (As := [.int x1, .int x2, .int x3]) C mf_X9_80 (c_X9_lacks l D cA b m_latest m_cells m_wide m_houses m_bowls m_dogs m_gone m_sights m_drawn m_forms m_sizes x1 x2 x3 (r3, c4) hq H.size) rfl rfl ⟨(Nat.le_of_ble_eq_true rfl), (Nat.le_of_ble_eq_true rfl)⟩ (preV_of C hP hD [0, 1, 2] rfl (pl_nd pv_121) 0 rfl rfl rfl) rfl hl.1 rfl (Nat.le_of_ble_eq_true rfl) dX9_lay_26 ⟨Nat.zero_le _, Nat.zero_le _⟩) hP hD hS hA [0, 1, 2] [3] rfl rfl rfl rfl pv_121 (fun H locs hP hS => ?_)
      have hD : va_D (va_A ws0 sz) (wl_X9_lay cA b c4 m_cells m_wide m_houses m_bowls m_dogs m_gone m_sights m_drawn m_forms m_sizes m_items) := vd_a hD rfl
      refine lv_istore (pc := 29) (lv' := [(5, .int r3), (0, .ref (b 0)), (1, .int x1), (2, .int x2), (3, .int x3), (4, .int x4)]) hx hb dX9_lay_29 hl (Nat.le_of_ble_eq_true rfl) rfl (fun ls hl => ?_)
      refine lv_iload (pc := 31) hx hb dX9_lay_31 (lv_at hl 0 rfl) ?_
      refine lv_if_eq (pc := 33) (tgt := 39) hx hb dX9_lay_33 (by decide) (fun hc => ?_) (fun hc => ?_)
      · have hf := (if_pos hc).symm.trans hf
        refine lv_aload_n (pc := 39) hx hb dX9_lay_39 rfl (lv_at hl 1 rfl) ?_
        refine g_get (pc := 40) C fg_X9_16 hP 0 rfl rfl dX9_lay_40 ?_
        refine lv_bipush (pc := 43) (v := 60) hx hb dX9_lay_43 bp_60 ?_
        refine lv_iload_n (pc := 45) hx hb dX9_lay_45 rfl (lv_at hl 2 rfl) ?_
        refine lv_imul (pc := 46) hx hb dX9_lay_46 ?_
        refine lv_iload_n (pc := 47) hx hb dX9_lay_47 rfl (lv_at hl 4 rfl) ?_
        refine lv_iadd (pc := 48) hx hb dX9_lay_48 ?_
        refine lv_iload_n (pc := 49) hx hb dX9_lay_49 rfl (lv_at hl 3 rfl) ?_
        refine lv_iload (pc := 50) hx hb dX9_lay_50 (lv_at hl 5 rfl) ?_
        obtain ⟨r5, hq, hf⟩ := bind1_some hf
        refine fin2_i (wl_X9_lay cA b c4 m_cells m_wide m_houses m_bowls m_dogs m_gone m_sights m_drawn m_forms m_sizes m_items) (run_S (rest := [.int (((60 : Int32) * x1) + x3), .ref (b 3)]) (pc := 52) (As := [.int x2, .int x4]) C mf_X9_84 (c_X9_cut l D cA  x2 x4 r5 hq H.size) rfl rfl ⟨(Nat.le_of_ble_eq_true rfl), (Nat.le_of_ble_eq_true rfl)⟩ (preS_of C hP hD [] rfl (pl_nd pv_25)) rfl hl.1 rfl (Nat.le_of_ble_eq_true rfl) dX9_lay_52 ⟨Nat.zero_le _, Nat.zero_le _⟩) hP hD hS hA [] [0, 1, 2, 3] rfl rfl rfl rfl pv_25 (fun H locs hP hS => ?_)
        obtain ⟨hg, hf⟩ := gd_some hf
        refine g_iast (pc := 55) C hP hD hS 3 rfl hg dX9_lay_55 (fun H locs hP hD hS => ?_)
        have hP : va_P D classes (wl_X9_lay cA b c4 m_cells m_wide m_houses m_bowls m_dogs m_gone m_sights m_drawn m_forms m_sizes (upd m_items (((60 : Int32) * x1) + x3).toNatClampNeg r5)) H := hP
        have hD : va_D (va_A ws0 sz) (wl_X9_lay cA b c4 m_cells m_wide m_houses m_bowls m_dogs m_gone m_sights m_drawn m_forms m_sizes (upd m_items (((60 : Int32) * x1) + x3).toNatClampNeg r5)) := hD
        refine lv_iconst (pc := 56) (v := 1) hx hb dX9_lay_56 ic_1 ?_
        have hf := Option.some.inj hf
        subst hf
        exact ret_i C hr hlk hP hS dX9_lay_57
      · have hf := (if_neg hc).symm.trans hf
        refine lv_iload (pc := 36) hx hb dX9_lay_36 (lv_at hl 0 rfl) ?_
        have hf := Option.some.inj hf
        subst hf
        exact ret_i C hr hlk hP hS dX9_lay_38
    · have hf := (if_pos hc).symm.trans hf
      refine lv_bipush (pc := 19) (v := (-2)) hx hb dX9_lay_19 bp_m2 ?_
      have hf := Option.some.inj hf
      subst hf
      exact ret_i C hr hlk hP hS dX9_lay_21
set_option maxRecDepth 100000 in
theorem c_X9_lay (l : Launch) (D : va_G) (cA : Nat → ClassId) (b : Nat → Nat) (m_latest : Int32) (m_cells : Int32) (m_wide : Int32) (m_houses : Int32) (m_bowls : Int32) (m_dogs : Int32) (m_gone : Int32) (m_sights : Int32) (m_drawn : Int32) (m_forms : Nat → Int32) (m_sizes : Nat → Int32) (m_items : Nat → Int32) (x1 : Int32) (x2 : Int32) (x3 : Int32) (x4 : Int32) (r : Int32 × Int32 × (Nat → Int32)) (hf : f_X9_lay m_latest m_forms m_sizes m_items x1 x2 x3 x4 = some r) (sz : Nat) : Met l yX9_lay (Cond.code yX9_lay cX9_lay 6 (some .int) :: lw_good) rm_X9_lay (PreX D cA [.ref (b 0), .int x1, .int x2, .int x3, .int x4] sz (wl_X9_lay cA b m_latest m_cells m_wide m_houses m_bowls m_dogs m_gone m_sights m_drawn m_forms m_sizes m_items)) (PostI D r.1 (wl_X9_lay cA b m_latest m_cells m_wide m_houses m_bowls m_dogs m_gone m_sights m_drawn m_forms m_sizes m_items) (wl_X9_lay cA b (r.2.1) m_cells m_wide m_houses m_bowls m_dogs m_gone m_sights m_drawn m_forms m_sizes (r.2.2)) sz) 0 0 (va_A (wl_X9_lay cA b m_latest m_cells m_wide m_houses m_bowls m_dogs m_gone m_sights m_drawn m_forms m_sizes m_items) sz) :=
  met_of (by decide) (Nat.le_of_ble_eq_true rfl) (fun p e s m args below meth c C hr hlk hA => k_X9_lay C hr hlk hA b m_latest m_cells m_wide m_houses m_bowls m_dogs m_gone m_sights m_drawn m_forms m_sizes m_items x1 x2 x3 x4 r hf)
end

abbrev wl_X9_get (cA : Nat → ClassId) (b : Nat → Nat) (m_latest : Int32) (m_cells : Int32) (m_wide : Int32) (m_houses : Int32) (m_bowls : Int32) (m_dogs : Int32) (m_gone : Int32) (m_sights : Int32) (m_drawn : Int32) (m_forms : Nat → Int32) (m_sizes : Nat → Int32) (m_items : Nat → Int32) : va_W := [((b 0), .inr (9, [.ref (b 1), .ref (b 2), .ref (b 3), .ref (b 4), .int m_latest, .ref (b 5), .ref (b 6), .int m_cells, .int m_wide, .ref (b 7), .int m_houses, .ref (b 8), .ref (b 9), .int m_bowls, .ref (b 10), .int m_dogs, .ref (b 11), .int m_gone, .ref (b 12), .ref (b 13), .ref (b 14), .int m_sights, .ref (b 15), .ref (b 16), .int m_drawn])), ((b 1), .inl (cA 0, 4, .inl m_forms)), ((b 2), .inl (cA 0, 4, .inl m_sizes)), ((b 3), .inl (cA 0, 240, .inl m_items))]
abbrev rm_X9_get : Room := { frames := 2, cells := 0, slots := 0, locals := 48 }
section
variable {p : Program} {l : Launch} {e : Env} {s : State} {m : MethodId} {args : Array Value} {below : List Frame} {meth : Method} {c : Code} {D : va_G} {cA : Nat → ClassId} {ws0 : va_W} {sz : Nat} {A : Nat → Prop} {Q : State → Prop}
def f_X9_get_b29 (m_latest : Int32) (m_forms : Nat → Int32) (m_sizes : Nat → Int32) (m_items : Nat → Int32) : Option (Int32 × Int32) :=
  some ((-2147483648 : Int32), m_latest)
set_option maxHeartbeats 4000000 in
set_option maxRecDepth 100000 in
theorem k_X9_get_b29 (C : Cx RX9 cX9_get 4 D cA p s m args c) (hr : meth.sig.returnType = (some .int)) (hlk : meth.locks = false) (hA : ∀ q, s.heap.size ≤ q → va_A ws0 sz q) (b : Nat → Nat) (m_latest : Int32) (m_cells : Int32) (m_wide : Int32) (m_houses : Int32) (m_bowls : Int32) (m_dogs : Int32) (m_gone : Int32) (m_sights : Int32) (m_drawn : Int32) (m_forms : Nat → Int32) (m_sizes : Nat → Int32) (m_items : Nat → Int32) (r : Int32 × Int32) (hf : f_X9_get_b29 m_latest m_forms m_sizes m_items = some r) : At p l e rm_X9_get s m args below meth c D (va_A ws0 sz) 0 0 (MQ below (PostI D r.1 ws0 (wl_X9_get cA b (r.2) m_cells m_wide m_houses m_bowls m_dogs m_gone m_sights m_drawn m_forms m_sizes m_items) sz) args s 0 0 (va_A ws0 sz)) 4 29 (wl_X9_get cA b m_latest m_cells m_wide m_houses m_bowls m_dogs m_gone m_sights m_drawn m_forms m_sizes m_items) [] [] := by
  intro H locs ls hP hD hS hl
  have hx := C.1
  have hb := C.2.1
  have hown := C.2.2.2.1
  have hts := C.2.2.2.2.1
  unfold f_X9_get_b29 at hf
  refine lv_ldc (pc := 29) hx hb hown (hts _ (lg_in mw_477 rfl)) dX9_get_29 ?_
  have hf := Option.some.inj hf
  subst hf
  exact ret_i C hr hlk hP hS dX9_get_31
def f_X9_get (m_latest : Int32) (m_forms : Nat → Int32) (m_sizes : Nat → Int32) (m_items : Nat → Int32) (x1 : Int32) (x2 : Int32) (x3 : Int32) : Option (Int32 × Int32) :=
  bind1 (f_X9_isSheet x1) (fun r1 => if r1 = 0 then (f_X9_get_b29 m_latest m_forms m_sizes m_items) else (bind1 (f_X9_in (x2.toInt64) (0 : Int64) (2 : Int64)) (fun r2 => if r2 = 0 then (f_X9_get_b29 m_latest m_forms m_sizes m_items) else (bind2 (f_X9_lacks m_latest m_forms m_sizes x1 x2 x3) (fun r3 c4 => if r3 = 0 then (gd (inb (((60 : Int32) * x1) + x3) 240) (some ((m_items (((60 : Int32) * x1) + x3).toNatClampNeg), c4))) else (f_X9_get_b29 c4 m_forms m_sizes m_items))))))
set_option maxHeartbeats 4000000 in
set_option maxRecDepth 100000 in
theorem k_X9_get (C : Cx RX9 cX9_get 4 D cA p s m args c) (hr : meth.sig.returnType = (some .int)) (hlk : meth.locks = false) (hA : ∀ q, s.heap.size ≤ q → va_A ws0 sz q) (b : Nat → Nat) (m_latest : Int32) (m_cells : Int32) (m_wide : Int32) (m_houses : Int32) (m_bowls : Int32) (m_dogs : Int32) (m_gone : Int32) (m_sights : Int32) (m_drawn : Int32) (m_forms : Nat → Int32) (m_sizes : Nat → Int32) (m_items : Nat → Int32) (x1 : Int32) (x2 : Int32) (x3 : Int32) (r : Int32 × Int32) (hf : f_X9_get m_latest m_forms m_sizes m_items x1 x2 x3 = some r) : At p l e rm_X9_get s m args below meth c D (va_A ws0 sz) 0 0 (MQ below (PostI D r.1 ws0 (wl_X9_get cA b (r.2) m_cells m_wide m_houses m_bowls m_dogs m_gone m_sights m_drawn m_forms m_sizes m_items) sz) args s 0 0 (va_A ws0 sz)) 4 0 (wl_X9_get cA b m_latest m_cells m_wide m_houses m_bowls m_dogs m_gone m_sights m_drawn m_forms m_sizes m_items) [(0, .ref (b 0)), (1, .int x1), (2, .int x2), (3, .int x3)] [] := by
  intro H locs ls hP hD hS hl
  have hx := C.1
  have hb := C.2.1
  have hown := C.2.2.2.1
  have hts := C.2.2.2.2.1
  unfold f_X9_get at hf
  refine lv_iload_n (pc := 0) hx hb dX9_get_0 rfl (lv_at hl 1 rfl) ?_
  obtain ⟨r1, hq, hf⟩ := bind1_some hf
  refine fin2_i (wl_X9_get cA b m_latest m_cells m_wide m_houses m_bowls m_dogs m_gone m_sights m_drawn m_forms m_sizes m_items) (run_S (rest := []) (pc := 1) (As := [.int x1]) C mf_X9_70 (c_X9_isSheet l D cA  x1 r1 hq H.size) rfl rfl ⟨(Nat.le_of_ble_eq_true rfl), (Nat.le_of_ble_eq_true rfl)⟩ (preS_of C hP hD [] rfl (pl_nd pv_25)) rfl hl.1 rfl (Nat.le_of_ble_eq_true rfl) dX9_get_1 ⟨Nat.zero_le _, Nat.zero_le _⟩) hP hD hS hA [] [0, 1, 2, 3] rfl rfl rfl rfl pv_25 (fun H locs hP hS => ?_)
  refine lv_if_eq (pc := 4) (tgt := 29) hx hb dX9_get_4 (by decide) (fun hc => ?_) (fun hc => ?_)
  · have hf := (if_pos hc).symm.trans hf
    exact k_X9_get_b29 C hr hlk hA b m_latest m_cells m_wide m_houses m_bowls m_dogs m_gone m_sights m_drawn m_forms m_sizes m_items r hf H locs ls hP hD hS (lv_sub hl [] rfl)
  · have hf := (if_neg hc).symm.trans hf
    refine lv_iload_n (pc := 7) hx hb dX9_get_7 rfl (lv_at hl 2 rfl) ?_
    refine lv_i2l (pc := 8) hx hb dX9_get_8 rfl ?_
    refine lv_lconst (pc := 9) (v := 0) hx hb dX9_get_9 rfl ?_
    refine lv_ldc2 (pc := 10) hx hb hown (hts _ (lg_in mw_465 rfl)) dX9_get_10 ?_
    obtain ⟨r2, hq, hf⟩ := bind1_some hf
    refine fin2_i (wl_X9_get cA b m_latest m_cells m_wide m_houses m_bowls m_dogs m_gone m_sights m_drawn m_forms m_sizes m_items) (run_S (rest := []) (pc := 13) (As := [.long (x2.toInt64), .long (0 : Int64), .long (2 : Int64)]) C mf_X9_60 (c_X9_in l D cA  (x2.toInt64) (0 : Int64) (2 : Int64) r2 hq H.size) rfl rfl ⟨(Nat.le_of_ble_eq_true rfl), (Nat.le_of_ble_eq_true rfl)⟩ (preS_of C hP hD [] rfl (pl_nd pv_25)) rfl hl.1 rfl (Nat.le_of_ble_eq_true rfl) dX9_get_13 ⟨Nat.zero_le _, Nat.zero_le _⟩) hP hD hS hA [] [0, 1, 2, 3] rfl rfl rfl rfl pv_25 (fun H locs hP hS => ?_)
    refine lv_if_eq (pc := 16) (tgt := 29) hx hb dX9_get_16 (by decide) (fun hc => ?_) (fun hc => ?_)
    · have hf := (if_pos hc).symm.trans hf
      exact k_X9_get_b29 C hr hlk hA b m_latest m_cells m_wide m_houses m_bowls m_dogs m_gone m_sights m_drawn m_forms m_sizes m_items r hf H locs ls hP hD hS (lv_sub hl [] rfl)
    · have hf := (if_neg hc).symm.trans hf
      refine lv_aload_n (pc := 19) hx hb dX9_get_19 rfl (lv_at hl 0 rfl) ?_
      refine lv_iload_n (pc := 20) hx hb dX9_get_20 rfl (lv_at hl 1 rfl) ?_
      refine lv_iload_n (pc := 21) hx hb dX9_get_21 rfl (lv_at hl 2 rfl) ?_
      refine lv_iload_n (pc := 22) hx hb dX9_get_22 rfl (lv_at hl 3 rfl) ?_
      obtain ⟨r3, c4, hq, hf⟩ := bind2_some hf
      refine fin2_i (wl_X9_get cA b c4 m_cells m_wide m_houses m_bowls m_dogs m_gone m_sights m_drawn m_forms m_sizes m_items) (run_V (rest := []) (pc := 23) (As := [.int x1, .int x2, .int x3]) C mf_X9_80 (c_X9_lacks l D cA b m_latest m_cells m_wide m_houses m_bowls m_dogs m_gone m_sights m_drawn m_forms m_sizes x1 x2 x3 (r3, c4) hq H.size) rfl rfl ⟨(Nat.le_of_ble_eq_true rfl), (Nat.le_of_ble_eq_true rfl)⟩ (preV_of C hP hD [0, 1, 2] rfl (pl_nd pv_121) 0 rfl rfl rfl) rfl hl.1 rfl (Nat.le_of_ble_eq_true rfl) dX9_get_23 ⟨Nat.zero_le _, Nat.zero_le _⟩) hP hD hS hA [0, 1, 2] [3] rfl rfl rfl rfl pv_121 (fun H locs hP hS => ?_)
      have hD : va_D (va_A ws0 sz) (wl_X9_get cA b c4 m_cells m_wide m_houses m_bowls m_dogs m_gone m_sights m_drawn m_forms m_sizes m_items) := vd_a hD rfl
      refine lv_if_eq (pc := 26) (tgt := 32) hx hb dX9_get_26 (by decide) (fun hc => ?_) (fun hc => ?_)
      · have hf := (if_pos hc).symm.trans hf
        refine lv_aload_n (pc := 32) hx hb dX9_get_32 rfl (lv_at hl 0 rfl) ?_
        refine g_get (pc := 33) C fg_X9_16 hP 0 rfl rfl dX9_get_33 ?_
        refine lv_bipush (pc := 36) (v := 60) hx hb dX9_get_36 bp_60 ?_
        refine lv_iload_n (pc := 38) hx hb dX9_get_38 rfl (lv_at hl 1 rfl) ?_
        refine lv_imul (pc := 39) hx hb dX9_get_39 ?_
        refine lv_iload_n (pc := 40) hx hb dX9_get_40 rfl (lv_at hl 3 rfl) ?_
        refine lv_iadd (pc := 41) hx hb dX9_get_41 ?_
        obtain ⟨hg, hf⟩ := gd_some hf
        refine g_iald (pc := 42) C hP 3 rfl hg dX9_get_42 ?_
        have hf := Option.some.inj hf
        subst hf
        exact ret_i C hr hlk hP hS dX9_get_43
      · have hf := (if_neg hc).symm.trans hf
        exact k_X9_get_b29 C hr hlk hA b c4 m_cells m_wide m_houses m_bowls m_dogs m_gone m_sights m_drawn m_forms m_sizes m_items r hf H locs ls hP hD hS (lv_sub hl [] rfl)
set_option maxRecDepth 100000 in
theorem c_X9_get (l : Launch) (D : va_G) (cA : Nat → ClassId) (b : Nat → Nat) (m_latest : Int32) (m_cells : Int32) (m_wide : Int32) (m_houses : Int32) (m_bowls : Int32) (m_dogs : Int32) (m_gone : Int32) (m_sights : Int32) (m_drawn : Int32) (m_forms : Nat → Int32) (m_sizes : Nat → Int32) (m_items : Nat → Int32) (x1 : Int32) (x2 : Int32) (x3 : Int32) (r : Int32 × Int32) (hf : f_X9_get m_latest m_forms m_sizes m_items x1 x2 x3 = some r) (sz : Nat) : Met l yX9_get (Cond.code yX9_get cX9_get 4 (some .int) :: lw_good) rm_X9_get (PreX D cA [.ref (b 0), .int x1, .int x2, .int x3] sz (wl_X9_get cA b m_latest m_cells m_wide m_houses m_bowls m_dogs m_gone m_sights m_drawn m_forms m_sizes m_items)) (PostI D r.1 (wl_X9_get cA b m_latest m_cells m_wide m_houses m_bowls m_dogs m_gone m_sights m_drawn m_forms m_sizes m_items) (wl_X9_get cA b (r.2) m_cells m_wide m_houses m_bowls m_dogs m_gone m_sights m_drawn m_forms m_sizes m_items) sz) 0 0 (va_A (wl_X9_get cA b m_latest m_cells m_wide m_houses m_bowls m_dogs m_gone m_sights m_drawn m_forms m_sizes m_items) sz) :=
  met_of (by decide) (Nat.le_of_ble_eq_true rfl) (fun p e s m args below meth c C hr hlk hA => k_X9_get C hr hlk hA b m_latest m_cells m_wide m_houses m_bowls m_dogs m_gone m_sights m_drawn m_forms m_sizes m_items x1 x2 x3 r hf)
end

abbrev wl_X9_copy (cA : Nat → ClassId) (b : Nat → Nat) (m_latest : Int32) (m_cells : Int32) (m_wide : Int32) (m_houses : Int32) (m_bowls : Int32) (m_dogs : Int32) (m_gone : Int32) (m_sights : Int32) (m_drawn : Int32) (m_forms : Nat → Int32) (m_sizes : Nat → Int32) (m_items : Nat → Int32) (m_moved : Nat → Int32) : va_W := [((b 0), .inr (9, [.ref (b 1), .ref (b 2), .ref (b 3), .ref (b 4), .int m_latest, .ref (b 5), .ref (b 6), .int m_cells, .int m_wide, .ref (b 7), .int m_houses, .ref (b 8), .ref (b 9), .int m_bowls, .ref (b 10), .int m_dogs, .ref (b 11), .int m_gone, .ref (b 12), .ref (b 13), .ref (b 14), .int m_sights, .ref (b 15), .ref (b 16), .int m_drawn])), ((b 1), .inl (cA 0, 4, .inl m_forms)), ((b 2), .inl (cA 0, 4, .inl m_sizes)), ((b 3), .inl (cA 0, 240, .inl m_items)), ((b 4), .inl (cA 0, 60, .inl m_moved))]
abbrev rm_X9_copy : Room := { frames := 2, cells := 0, slots := 0, locals := 45 }
section
variable {p : Program} {l : Launch} {e : Env} {s : State} {m : MethodId} {args : Array Value} {below : List Frame} {meth : Method} {c : Code} {D : va_G} {cA : Nat → ClassId} {ws0 : va_W} {sz : Nat} {A : Nat → Prop} {Q : State → Prop}
def f_X9_copy_b35 (m_latest : Int32) (m_forms : Nat → Int32) (m_sizes : Nat → Int32) (m_items : Nat → Int32) (m_moved : Nat → Int32) : Option (Int32 × Int32 × (Nat → Int32) × (Nat → Int32)) :=
  bind2 (f_X9_finds m_latest (1 : Int32)) (fun r3 c4 => some (r3, c4, m_items, m_moved))
set_option maxHeartbeats 4000000 in
set_option maxRecDepth 100000 in
theorem k_X9_copy_b35 (C : Cx RX9 cX9_copy 7 D cA p s m args c) (hr : meth.sig.returnType = (some .int)) (hlk : meth.locks = false) (hA : ∀ q, s.heap.size ≤ q → va_A ws0 sz q) (b : Nat → Nat) (m_latest : Int32) (m_cells : Int32) (m_wide : Int32) (m_houses : Int32) (m_bowls : Int32) (m_dogs : Int32) (m_gone : Int32) (m_sights : Int32) (m_drawn : Int32) (m_forms : Nat → Int32) (m_sizes : Nat → Int32) (m_items : Nat → Int32) (m_moved : Nat → Int32) (r : Int32 × Int32 × (Nat → Int32) × (Nat → Int32)) (hf : f_X9_copy_b35 m_latest m_forms m_sizes m_items m_moved = some r) : At p l e rm_X9_copy s m args below meth c D (va_A ws0 sz) 0 0 (MQ below (PostI D r.1 ws0 (wl_X9_copy cA b (r.2.1) m_cells m_wide m_houses m_bowls m_dogs m_gone m_sights m_drawn m_forms m_sizes (r.2.2.1) (r.2.2.2)) sz) args s 0 0 (va_A ws0 sz)) 7 35 (wl_X9_copy cA b m_latest m_cells m_wide m_houses m_bowls m_dogs m_gone m_sights m_drawn m_forms m_sizes m_items m_moved) [(0, .ref (b 0))] [] := by
  intro H locs ls hP hD hS hl
  have hx := C.1
  have hb := C.2.1
  have hown := C.2.2.2.1
  have hts := C.2.2.2.2.1
  unfold f_X9_copy_b35 at hf
  refine lv_aload_n (pc := 35) hx hb dX9_copy_35 rfl (lv_at hl 0 rfl) ?_
  refine lv_iconst (pc := 36) (v := 1) hx hb dX9_copy_36 ic_1 ?_
  obtain ⟨r3, c4, hq, hf⟩ := bind2_some hf
  refine fin2_i (wl_X9_copy cA b c4 m_cells m_wide m_houses m_bowls m_dogs m_gone m_sights m_drawn m_forms m_sizes m_items m_moved) (run_V (rest := []) (pc := 37) (As := [.int (1 : Int32)]) C mf_X9_76 (c_X9_finds l D cA b m_latest m_cells m_wide m_houses m_bowls m_dogs m_gone m_sights m_drawn (1 : Int32) (r3, c4) hq H.size) rfl rfl ⟨(Nat.le_of_ble_eq_true rfl), (Nat.le_of_ble_eq_true rfl)⟩ (preV_of C hP hD [0] rfl (pl_nd pv_122) 0 rfl rfl rfl) rfl hl.1 rfl (Nat.le_of_ble_eq_true rfl) dX9_copy_37 ⟨Nat.zero_le _, Nat.zero_le _⟩) hP hD hS hA [0] [1, 2, 3, 4] rfl rfl rfl rfl pv_122 (fun H locs hP hS => ?_)
  have hD : va_D (va_A ws0 sz) (wl_X9_copy cA b c4 m_cells m_wide m_houses m_bowls m_dogs m_gone m_sights m_drawn m_forms m_sizes m_items m_moved) := vd_a hD rfl
  have hf := Option.some.inj hf
  subst hf
  exact ret_i C hr hlk hP hS dX9_copy_40
def f_X9_copy_b111 (m_latest : Int32) (m_forms : Nat → Int32) (m_sizes : Nat → Int32) (m_items : Nat → Int32) (m_moved : Nat → Int32) : Option (Int32 × Int32 × (Nat → Int32) × (Nat → Int32)) :=
  bind2 (f_X9_finds m_latest (2 : Int32)) (fun r5 c6 => some (r5, c6, m_items, m_moved))
set_option maxHeartbeats 4000000 in
set_option maxRecDepth 100000 in
theorem k_X9_copy_b111 (C : Cx RX9 cX9_copy 7 D cA p s m args c) (hr : meth.sig.returnType = (some .int)) (hlk : meth.locks = false) (hA : ∀ q, s.heap.size ≤ q → va_A ws0 sz q) (b : Nat → Nat) (m_latest : Int32) (m_cells : Int32) (m_wide : Int32) (m_houses : Int32) (m_bowls : Int32) (m_dogs : Int32) (m_gone : Int32) (m_sights : Int32) (m_drawn : Int32) (m_forms : Nat → Int32) (m_sizes : Nat → Int32) (m_items : Nat → Int32) (m_moved : Nat → Int32) (r : Int32 × Int32 × (Nat → Int32) × (Nat → Int32)) (hf : f_X9_copy_b111 m_latest m_forms m_sizes m_items m_moved = some r) : At p l e rm_X9_copy s m args below meth c D (va_A ws0 sz) 0 0 (MQ below (PostI D r.1 ws0 (wl_X9_copy cA b (r.2.1) m_cells m_wide m_houses m_bowls m_dogs m_gone m_sights m_drawn m_forms m_sizes (r.2.2.1) (r.2.2.2)) sz) args s 0 0 (va_A ws0 sz)) 7 111 (wl_X9_copy cA b m_latest m_cells m_wide m_houses m_bowls m_dogs m_gone m_sights m_drawn m_forms m_sizes m_items m_moved) [(0, .ref (b 0))] [] := by
  intro H locs ls hP hD hS hl
  have hx := C.1
  have hb := C.2.1
  have hown := C.2.2.2.1
  have hts := C.2.2.2.2.1
  unfold f_X9_copy_b111 at hf
  refine lv_aload_n (pc := 111) hx hb dX9_copy_111 rfl (lv_at hl 0 rfl) ?_
  refine lv_iconst (pc := 112) (v := 2) hx hb dX9_copy_112 ic_2 ?_
  obtain ⟨r5, c6, hq, hf⟩ := bind2_some hf
  refine fin2_i (wl_X9_copy cA b c6 m_cells m_wide m_houses m_bowls m_dogs m_gone m_sights m_drawn m_forms m_sizes m_items m_moved) (run_V (rest := []) (pc := 113) (As := [.int (2 : Int32)]) C mf_X9_76 (c_X9_finds l D cA b m_latest m_cells m_wide m_houses m_bowls m_dogs m_gone m_sights m_drawn (2 : Int32) (r5, c6) hq H.size) rfl rfl ⟨(Nat.le_of_ble_eq_true rfl), (Nat.le_of_ble_eq_true rfl)⟩ (preV_of C hP hD [0] rfl (pl_nd pv_122) 0 rfl rfl rfl) rfl hl.1 rfl (Nat.le_of_ble_eq_true rfl) dX9_copy_113 ⟨Nat.zero_le _, Nat.zero_le _⟩) hP hD hS hA [0] [1, 2, 3, 4] rfl rfl rfl rfl pv_122 (fun H locs hP hS => ?_)
  have hD : va_D (va_A ws0 sz) (wl_X9_copy cA b c6 m_cells m_wide m_houses m_bowls m_dogs m_gone m_sights m_drawn m_forms m_sizes m_items m_moved) := vd_a hD rfl
  have hf := Option.some.inj hf
  subst hf
  exact ret_i C hr hlk hP hS dX9_copy_116
def f_X9_copy_L120 (m_items : Nat → Int32) (x1 : Int32) (x2 : Int32) (x5 : Int32) (x6 : Int32) (m_moved : Nat → Int32) : Option ((Int32 × (Nat → Int32)) ⊕ ((Nat → Int32))) :=
  if x5 ≤ x6 then (some (.inr m_moved)) else (gd (inb ((((60 : Int32) * x1) + x2) + x6) 240) (letv ((m_items ((((60 : Int32) * x1) + x2) + x6).toNatClampNeg)) (fun v7 => gd (inb x6 60) (some (.inl ((x6 + 1), (upd m_moved x6.toNatClampNeg v7)))))))
set_option maxHeartbeats 4000000 in
set_option maxRecDepth 100000 in
theorem k_X9_copy_L120 (C : Cx RX9 cX9_copy 7 D cA p s m args c) (hA : ∀ q, s.heap.size ≤ q → A q) (b : Nat → Nat) (m_latest : Int32) (m_cells : Int32) (m_wide : Int32) (m_houses : Int32) (m_bowls : Int32) (m_dogs : Int32) (m_gone : Int32) (m_sights : Int32) (m_drawn : Int32) (m_forms : Nat → Int32) (m_sizes : Nat → Int32) (m_items : Nat → Int32) (x1 : Int32) (x2 : Int32) (x3 : Int32) (x4 : Int32) (x5 : Int32) (x6 : Int32) (m_moved : Nat → Int32) (r : (Int32 × (Nat → Int32)) ⊕ ((Nat → Int32))) (hf : f_X9_copy_L120 m_items x1 x2 x5 x6 m_moved = some r) (hK : Sum.elim (fun q : Int32 × (Nat → Int32) => At p l e rm_X9_copy s m args below meth c D A 0 0 Q 7 120 (wl_X9_copy cA b m_latest m_cells m_wide m_houses m_bowls m_dogs m_gone m_sights m_drawn m_forms m_sizes m_items (q.2)) [(0, .ref (b 0)), (1, .int x1), (2, .int x2), (3, .int x3), (4, .int x4), (5, .int x5), (6, .int (q.1))] []) (fun q : (Nat → Int32) => At p l e rm_X9_copy s m args below meth c D A 0 0 Q 7 154 (wl_X9_copy cA b m_latest m_cells m_wide m_houses m_bowls m_dogs m_gone m_sights m_drawn m_forms m_sizes m_items q) [(0, .ref (b 0)), (3, .int x3), (4, .int x4), (5, .int x5)] []) r) : At p l e rm_X9_copy s m args below meth c D A 0 0 Q 7 120 (wl_X9_copy cA b m_latest m_cells m_wide m_houses m_bowls m_dogs m_gone m_sights m_drawn m_forms m_sizes m_items m_moved) [(0, .ref (b 0)), (1, .int x1), (2, .int x2), (3, .int x3), (4, .int x4), (5, .int x5), (6, .int x6)] [] := by
  intro H locs ls hP hD hS hl
  have hx := C.1
  have hb := C.2.1
  have hown := C.2.2.2.1
  have hts := C.2.2.2.2.1
  unfold f_X9_copy_L120 at hf
  refine lv_iload (pc := 120) hx hb dX9_copy_120 (lv_at hl 6 rfl) ?_
  refine lv_iload (pc := 122) hx hb dX9_copy_122 (lv_at hl 5 rfl) ?_
  refine lv_icmp_ge (pc := 124) (tgt := 154) hx hb dX9_copy_124 (by decide) (fun hc => ?_) (fun hc => ?_)
  · have hf := (if_pos hc).symm.trans hf
    have hf := Option.some.inj hf
    subst hf
    exact hK H locs ls hP hD hS (lv_sub hl [0, 3, 4, 5] rfl)
  · have hf := (if_neg hc).symm.trans hf
    refine lv_aload_n (pc := 127) hx hb dX9_copy_127 rfl (lv_at hl 0 rfl) ?_
    refine g_get (pc := 128) C fg_X9_19 hP 0 rfl rfl dX9_copy_128 ?_
    refine lv_iload (pc := 131) hx hb dX9_copy_131 (lv_at hl 6 rfl) ?_
    refine lv_aload_n (pc := 133) hx hb dX9_copy_133 rfl (lv_at hl 0 rfl) ?_
    refine g_get (pc := 134) C fg_X9_16 hP 0 rfl rfl dX9_copy_134 ?_
    refine lv_bipush (pc := 137) (v := 60) hx hb dX9_copy_137 bp_60 ?_
    refine lv_iload_n (pc := 139) hx hb dX9_copy_139 rfl (lv_at hl 1 rfl) ?_
    refine lv_imul (pc := 140) hx hb dX9_copy_140 ?_
    refine lv_iload_n (pc := 141) hx hb dX9_copy_141 rfl (lv_at hl 2 rfl) ?_
    refine lv_iadd (pc := 142) hx hb dX9_copy_142 ?_
    refine lv_iload (pc := 143) hx hb dX9_copy_143 (lv_at hl 6 rfl) ?_
    refine lv_iadd (pc := 145) hx hb dX9_copy_145 ?_
    obtain ⟨hg, hf⟩ := gd_some hf
    refine g_iald (pc := 146) C hP 3 rfl hg dX9_copy_146 ?_
    obtain ⟨v7, e_v7, hf⟩ := letv_some hf
    refine tp_i e_v7 ?_
    obtain ⟨hg, hf⟩ := gd_some hf
    refine g_iast (pc := 147) C hP hD hS 4 rfl hg dX9_copy_147 (fun H locs hP hD hS => ?_)
    have hP : va_P D classes (wl_X9_copy cA b m_latest m_cells m_wide m_houses m_bowls m_dogs m_gone m_sights m_drawn m_forms m_sizes m_items (upd m_moved x6.toNatClampNeg v7)) H := hP
    have hD : va_D A (wl_X9_copy cA b m_latest m_cells m_wide m_houses m_bowls m_dogs m_gone m_sights m_drawn m_forms m_sizes m_items (upd m_moved x6.toNatClampNeg v7)) := hD
    refine lv_iinc (pc := 148) (v := (x6 + 1)) (lv' := [(6, .int (x6 + 1)), (0, .ref (b 0)), (1, .int x1), (2, .int x2), (3, .int x3), (4, .int x4), (5, .int x5)]) hx hb dX9_copy_148 hl (k := 6) rfl rfl (Nat.le_of_ble_eq_true rfl) rfl (fun ls hl => ?_)
    refine lv_goto (pc := 151) (tgt := 120) hx hb dX9_copy_151 (by decide) ?_
    have hf := Option.some.inj hf
    subst hf
    exact hK H locs ls hP hD hS (lv_sub hl [1, 2, 3, 4, 5, 6, 0] rfl)
theorem kl_X9_copy_L120 (C : Cx RX9 cX9_copy 7 D cA p s m args c) (hA : ∀ q, s.heap.size ≤ q → A q) (b : Nat → Nat) (m_latest : Int32) (m_cells : Int32) (m_wide : Int32) (m_houses : Int32) (m_bowls : Int32) (m_dogs : Int32) (m_gone : Int32) (m_sights : Int32) (m_drawn : Int32) (m_forms : Nat → Int32) (m_sizes : Nat → Int32) (m_items : Nat → Int32) (x1 : Int32) (x2 : Int32) (x3 : Int32) (x4 : Int32) (x5 : Int32) : ∀ (n : Nat) (q : Int32 × (Nat → Int32)) (z : ((Nat → Int32))), loopF (fun q : Int32 × (Nat → Int32) => f_X9_copy_L120 m_items x1 x2 x5 q.1 q.2) n q = some z → (fun q : (Nat → Int32) => At p l e rm_X9_copy s m args below meth c D A 0 0 Q 7 154 (wl_X9_copy cA b m_latest m_cells m_wide m_houses m_bowls m_dogs m_gone m_sights m_drawn m_forms m_sizes m_items q) [(0, .ref (b 0)), (3, .int x3), (4, .int x4), (5, .int x5)] []) z → At p l e rm_X9_copy s m args below meth c D A 0 0 Q 7 120 (wl_X9_copy cA b m_latest m_cells m_wide m_houses m_bowls m_dogs m_gone m_sights m_drawn m_forms m_sizes m_items (q.2)) [(0, .ref (b 0)), (1, .int x1), (2, .int x2), (3, .int x3), (4, .int x4), (5, .int x5), (6, .int (q.1))] [] :=
  loop_lem (WP := fun q : Int32 × (Nat → Int32) => At p l e rm_X9_copy s m args below meth c D A 0 0 Q 7 120 (wl_X9_copy cA b m_latest m_cells m_wide m_houses m_bowls m_dogs m_gone m_sights m_drawn m_forms m_sizes m_items (q.2)) [(0, .ref (b 0)), (1, .int x1), (2, .int x2), (3, .int x3), (4, .int x4), (5, .int x5), (6, .int (q.1))] []) (WE := (fun q : (Nat → Int32) => At p l e rm_X9_copy s m args below meth c D A 0 0 Q 7 154 (wl_X9_copy cA b m_latest m_cells m_wide m_houses m_bowls m_dogs m_gone m_sights m_drawn m_forms m_sizes m_items q) [(0, .ref (b 0)), (3, .int x3), (4, .int x4), (5, .int x5)] [])) (fun q r hf hK => k_X9_copy_L120 C hA b m_latest m_cells m_wide m_houses m_bowls m_dogs m_gone m_sights m_drawn m_forms m_sizes m_items x1 x2 x3 x4 x5 q.1 q.2 r hf hK)
def f_X9_copy_L157 (m_moved : Nat → Int32) (x3 : Int32) (x4 : Int32) (x5 : Int32) (x6 : Int32) (m_items : Nat → Int32) : Option ((Int32 × (Nat → Int32)) ⊕ ((Nat → Int32))) :=
  if x5 ≤ x6 then (some (.inr m_items)) else (gd (inb x6 60) (letv ((m_moved x6.toNatClampNeg)) (fun v9 => gd (inb ((((60 : Int32) * x3) + x4) + x6) 240) (some (.inl ((x6 + 1), (upd m_items ((((60 : Int32) * x3) + x4) + x6).toNatClampNeg v9)))))))
set_option maxHeartbeats 4000000 in
set_option maxRecDepth 100000 in
theorem k_X9_copy_L157 (C : Cx RX9 cX9_copy 7 D cA p s m args c) (hA : ∀ q, s.heap.size ≤ q → A q) (b : Nat → Nat) (m_latest : Int32) (m_cells : Int32) (m_wide : Int32) (m_houses : Int32) (m_bowls : Int32) (m_dogs : Int32) (m_gone : Int32) (m_sights : Int32) (m_drawn : Int32) (m_forms : Nat → Int32) (m_sizes : Nat → Int32) (m_moved : Nat → Int32) (x3 : Int32) (x4 : Int32) (x5 : Int32) (x6 : Int32) (m_items : Nat → Int32) (r : (Int32 × (Nat → Int32)) ⊕ ((Nat → Int32))) (hf : f_X9_copy_L157 m_moved x3 x4 x5 x6 m_items = some r) (hK : Sum.elim (fun q : Int32 × (Nat → Int32) => At p l e rm_X9_copy s m args below meth c D A 0 0 Q 7 157 (wl_X9_copy cA b m_latest m_cells m_wide m_houses m_bowls m_dogs m_gone m_sights m_drawn m_forms m_sizes (q.2) m_moved) [(0, .ref (b 0)), (3, .int x3), (4, .int x4), (5, .int x5), (6, .int (q.1))] []) (fun q : (Nat → Int32) => At p l e rm_X9_copy s m args below meth c D A 0 0 Q 7 192 (wl_X9_copy cA b m_latest m_cells m_wide m_houses m_bowls m_dogs m_gone m_sights m_drawn m_forms m_sizes q m_moved) [] []) r) : At p l e rm_X9_copy s m args below meth c D A 0 0 Q 7 157 (wl_X9_copy cA b m_latest m_cells m_wide m_houses m_bowls m_dogs m_gone m_sights m_drawn m_forms m_sizes m_items m_moved) [(0, .ref (b 0)), (3, .int x3), (4, .int x4), (5, .int x5), (6, .int x6)] [] := by
  intro H locs ls hP hD hS hl
  have hx := C.1
  have hb := C.2.1
  have hown := C.2.2.2.1
  have hts := C.2.2.2.2.1
  unfold f_X9_copy_L157 at hf
  refine lv_iload (pc := 157) hx hb dX9_copy_157 (lv_at hl 4 rfl) ?_
  refine lv_iload (pc := 159) hx hb dX9_copy_159 (lv_at hl 3 rfl) ?_
  refine lv_icmp_ge (pc := 161) (tgt := 192) hx hb dX9_copy_161 (by decide) (fun hc => ?_) (fun hc => ?_)
  · have hf := (if_pos hc).symm.trans hf
    have hf := Option.some.inj hf
    subst hf
    exact hK H locs ls hP hD hS (lv_sub hl [] rfl)
  · have hf := (if_neg hc).symm.trans hf
    refine lv_aload_n (pc := 164) hx hb dX9_copy_164 rfl (lv_at hl 0 rfl) ?_
    refine g_get (pc := 165) C fg_X9_16 hP 0 rfl rfl dX9_copy_165 ?_
    refine lv_bipush (pc := 168) (v := 60) hx hb dX9_copy_168 bp_60 ?_
    refine lv_iload_n (pc := 170) hx hb dX9_copy_170 rfl (lv_at hl 1 rfl) ?_
    refine lv_imul (pc := 171) hx hb dX9_copy_171 ?_
    refine lv_iload (pc := 172) hx hb dX9_copy_172 (lv_at hl 2 rfl) ?_
    refine lv_iadd (pc := 174) hx hb dX9_copy_174 ?_
    refine lv_iload (pc := 175) hx hb dX9_copy_175 (lv_at hl 4 rfl) ?_
    refine lv_iadd (pc := 177) hx hb dX9_copy_177 ?_
    refine lv_aload_n (pc := 178) hx hb dX9_copy_178 rfl (lv_at hl 0 rfl) ?_
    refine g_get (pc := 179) C fg_X9_19 hP 0 rfl rfl dX9_copy_179 ?_
    refine lv_iload (pc := 182) hx hb dX9_copy_182 (lv_at hl 4 rfl) ?_
    obtain ⟨hg, hf⟩ := gd_some hf
    refine g_iald (pc := 184) C hP 4 rfl hg dX9_copy_184 ?_
    obtain ⟨v9, e_v9, hf⟩ := letv_some hf
    refine tp_i e_v9 ?_
    obtain ⟨hg, hf⟩ := gd_some hf
    refine g_iast (pc := 185) C hP hD hS 3 rfl hg dX9_copy_185 (fun H locs hP hD hS => ?_)
    have hP : va_P D classes (wl_X9_copy cA b m_latest m_cells m_wide m_houses m_bowls m_dogs m_gone m_sights m_drawn m_forms m_sizes (upd m_items ((((60 : Int32) * x3) + x4) + x6).toNatClampNeg v9) m_moved) H := hP
    have hD : va_D A (wl_X9_copy cA b m_latest m_cells m_wide m_houses m_bowls m_dogs m_gone m_sights m_drawn m_forms m_sizes (upd m_items ((((60 : Int32) * x3) + x4) + x6).toNatClampNeg v9) m_moved) := hD
    refine lv_iinc (pc := 186) (v := (x6 + 1)) (lv' := [(6, .int (x6 + 1)), (0, .ref (b 0)), (3, .int x3), (4, .int x4), (5, .int x5)]) hx hb dX9_copy_186 hl (k := 4) rfl rfl (Nat.le_of_ble_eq_true rfl) rfl (fun ls hl => ?_)
    refine lv_goto (pc := 189) (tgt := 157) hx hb dX9_copy_189 (by decide) ?_
    have hf := Option.some.inj hf
    subst hf
    exact hK H locs ls hP hD hS (lv_sub hl [1, 2, 3, 4, 0] rfl)
theorem kl_X9_copy_L157 (C : Cx RX9 cX9_copy 7 D cA p s m args c) (hA : ∀ q, s.heap.size ≤ q → A q) (b : Nat → Nat) (m_latest : Int32) (m_cells : Int32) (m_wide : Int32) (m_houses : Int32) (m_bowls : Int32) (m_dogs : Int32) (m_gone : Int32) (m_sights : Int32) (m_drawn : Int32) (m_forms : Nat → Int32) (m_sizes : Nat → Int32) (m_moved : Nat → Int32) (x3 : Int32) (x4 : Int32) (x5 : Int32) : ∀ (n : Nat) (q : Int32 × (Nat → Int32)) (z : ((Nat → Int32))), loopF (fun q : Int32 × (Nat → Int32) => f_X9_copy_L157 m_moved x3 x4 x5 q.1 q.2) n q = some z → (fun q : (Nat → Int32) => At p l e rm_X9_copy s m args below meth c D A 0 0 Q 7 192 (wl_X9_copy cA b m_latest m_cells m_wide m_houses m_bowls m_dogs m_gone m_sights m_drawn m_forms m_sizes q m_moved) [] []) z → At p l e rm_X9_copy s m args below meth c D A 0 0 Q 7 157 (wl_X9_copy cA b m_latest m_cells m_wide m_houses m_bowls m_dogs m_gone m_sights m_drawn m_forms m_sizes (q.2) m_moved) [(0, .ref (b 0)), (3, .int x3), (4, .int x4), (5, .int x5), (6, .int (q.1))] [] :=
  loop_lem (WP := fun q : Int32 × (Nat → Int32) => At p l e rm_X9_copy s m args below meth c D A 0 0 Q 7 157 (wl_X9_copy cA b m_latest m_cells m_wide m_houses m_bowls m_dogs m_gone m_sights m_drawn m_forms m_sizes (q.2) m_moved) [(0, .ref (b 0)), (3, .int x3), (4, .int x4), (5, .int x5), (6, .int (q.1))] []) (WE := (fun q : (Nat → Int32) => At p l e rm_X9_copy s m args below meth c D A 0 0 Q 7 192 (wl_X9_copy cA b m_latest m_cells m_wide m_houses m_bowls m_dogs m_gone m_sights m_drawn m_forms m_sizes q m_moved) [] [])) (fun q r hf hK => k_X9_copy_L157 C hA b m_latest m_cells m_wide m_houses m_bowls m_dogs m_gone m_sights m_drawn m_forms m_sizes m_moved x3 x4 x5 q.1 q.2 r hf hK)
def f_X9_copy (m_latest : Int32) (m_forms : Nat → Int32) (m_sizes : Nat → Int32) (m_items : Nat → Int32) (m_moved : Nat → Int32) (x1 : Int32) (x2 : Int32) (x3 : Int32) (x4 : Int32) (x5 : Int32) : Option (Int32 × Int32 × (Nat → Int32) × (Nat → Int32)) :=
  bind1 (f_X9_isSheet x1) (fun r1 => if r1 = 0 then (some ((-2 : Int32), m_latest, m_items, m_moved)) else (bind1 (f_X9_isSheet x3) (fun r2 => if r2 = 0 then (some ((-2 : Int32), m_latest, m_items, m_moved)) else (gd (inb x1 4) (if (m_forms x1.toNatClampNeg) < 0 then (f_X9_copy_b35 m_latest m_forms m_sizes m_items m_moved) else (gd (inb x3 4) (if 0 ≤ (m_forms x3.toNatClampNeg) then (gd (inb x1 4) (gd (inb x3 4) (if (m_forms x1.toNatClampNeg) = (m_forms x3.toNatClampNeg) then (if x2 < 0 then (f_X9_copy_b111 m_latest m_forms m_sizes m_items m_moved) else (if x4 < 0 then (f_X9_copy_b111 m_latest m_forms m_sizes m_items m_moved) else (if x5 < 0 then (f_X9_copy_b111 m_latest m_forms m_sizes m_items m_moved) else (gd (inb x1 4) (if 0 < (lg_cmp ((x2.toInt64) + (x5.toInt64)) ((m_sizes x1.toNatClampNeg).toInt64)) then (f_X9_copy_b111 m_latest m_forms m_sizes m_items m_moved) else (gd (inb x3 4) (if (lg_cmp ((x4.toInt64) + (x5.toInt64)) ((m_sizes x3.toNatClampNeg).toInt64)) ≤ 0 then (bind1 (loopF (fun q : Int32 × (Nat → Int32) => f_X9_copy_L120 m_items x1 x2 x5 q.1 q.2) FU ((0 : Int32), m_moved)) (fun u8 => bind1 (loopF (fun q : Int32 × (Nat → Int32) => f_X9_copy_L157 u8 x3 x4 x5 q.1 q.2) FU ((0 : Int32), m_items)) (fun u10 => some ((1 : Int32), m_latest, u10, u8)))) else (f_X9_copy_b111 m_latest m_forms m_sizes m_items m_moved)))))))) else (bind2 (f_X9_finds m_latest (4 : Int32)) (fun r11 c12 => some (r11, c12, m_items, m_moved)))))) else (f_X9_copy_b35 m_latest m_forms m_sizes m_items m_moved))))))))
set_option maxHeartbeats 4000000 in
set_option maxRecDepth 100000 in
theorem k_X9_copy (C : Cx RX9 cX9_copy 7 D cA p s m args c) (hr : meth.sig.returnType = (some .int)) (hlk : meth.locks = false) (hA : ∀ q, s.heap.size ≤ q → va_A ws0 sz q) (b : Nat → Nat) (m_latest : Int32) (m_cells : Int32) (m_wide : Int32) (m_houses : Int32) (m_bowls : Int32) (m_dogs : Int32) (m_gone : Int32) (m_sights : Int32) (m_drawn : Int32) (m_forms : Nat → Int32) (m_sizes : Nat → Int32) (m_items : Nat → Int32) (m_moved : Nat → Int32) (x1 : Int32) (x2 : Int32) (x3 : Int32) (x4 : Int32) (x5 : Int32) (r : Int32 × Int32 × (Nat → Int32) × (Nat → Int32)) (hf : f_X9_copy m_latest m_forms m_sizes m_items m_moved x1 x2 x3 x4 x5 = some r) : At p l e rm_X9_copy s m args below meth c D (va_A ws0 sz) 0 0 (MQ below (PostI D r.1 ws0 (wl_X9_copy cA b (r.2.1) m_cells m_wide m_houses m_bowls m_dogs m_gone m_sights m_drawn m_forms m_sizes (r.2.2.1) (r.2.2.2)) sz) args s 0 0 (va_A ws0 sz)) 7 0 (wl_X9_copy cA b m_latest m_cells m_wide m_houses m_bowls m_dogs m_gone m_sights m_drawn m_forms m_sizes m_items m_moved) [(0, .ref (b 0)), (1, .int x1), (2, .int x2), (3, .int x3), (4, .int x4), (5, .int x5)] [] := by
  intro H locs ls hP hD hS hl
  have hx := C.1
  have hb := C.2.1
  have hown := C.2.2.2.1
  have hts := C.2.2.2.2.1
  unfold f_X9_copy at hf
  refine lv_iload_n (pc := 0) hx hb dX9_copy_0 rfl (lv_at hl 1 rfl) ?_
  obtain ⟨r1, hq, hf⟩ := bind1_some hf
  refine fin2_i (wl_X9_copy cA b m_latest m_cells m_wide m_houses m_bowls m_dogs m_gone m_sights m_drawn m_forms m_sizes m_items m_moved) (run_S (rest := []) (pc := 1) (As := [.int x1]) C mf_X9_70 (c_X9_isSheet l D cA  x1 r1 hq H.size) rfl rfl ⟨(Nat.le_of_ble_eq_true rfl), (Nat.le_of_ble_eq_true rfl)⟩ (preS_of C hP hD [] rfl (pl_nd pv_27)) rfl hl.1 rfl (Nat.le_of_ble_eq_true rfl) dX9_copy_1 ⟨Nat.zero_le _, Nat.zero_le _⟩) hP hD hS hA [] [0, 1, 2, 3, 4] rfl rfl rfl rfl pv_27 (fun H locs hP hS => ?_)
  refine lv_if_eq (pc := 4) (tgt := 14) hx hb dX9_copy_4 (by decide) (fun hc => ?_) (fun hc => ?_)
  · have hf := (if_pos hc).symm.trans hf
    refine lv_bipush (pc := 14) (v := (-2)) hx hb dX9_copy_14 bp_m2 ?_
    have hf := Option.some.inj hf
    subst hf
    exact ret_i C hr hlk hP hS dX9_copy_16
  · have hf := (if_neg hc).symm.trans hf
    refine lv_iload_n (pc := 7) hx hb dX9_copy_7 rfl (lv_at hl 3 rfl) ?_
    obtain ⟨r2, hq, hf⟩ := bind1_some hf
    refine fin2_i (wl_X9_copy cA b m_latest m_cells m_wide m_houses m_bowls m_dogs m_gone m_sights m_drawn m_forms m_sizes m_items m_moved) (run_S (rest := []) (pc := 8) (As := [.int x3]) C mf_X9_70 (c_X9_isSheet l D cA  x3 r2 hq H.size) rfl rfl ⟨(Nat.le_of_ble_eq_true rfl), (Nat.le_of_ble_eq_true rfl)⟩ (preS_of C hP hD [] rfl (pl_nd pv_27)) rfl hl.1 rfl (Nat.le_of_ble_eq_true rfl) dX9_copy_8 ⟨Nat.zero_le _, Nat.zero_le _⟩) hP hD hS hA [] [0, 1, 2, 3, 4] rfl rfl rfl rfl pv_27 (fun H locs hP hS => ?_)
    refine lv_if_ne (pc := 11) (tgt := 17) hx hb dX9_copy_11 (by decide) (fun hc => ?_) (fun hc => ?_)
    · have hf := (if_neg hc).symm.trans hf
      refine lv_aload_n (pc := 17) hx hb dX9_copy_17 rfl (lv_at hl 0 rfl) ?_
      refine g_get (pc := 18) C fg_X9_7 hP 0 rfl rfl dX9_copy_18 ?_
      refine lv_iload_n (pc := 21) hx hb dX9_copy_21 rfl (lv_at hl 1 rfl) ?_
      obtain ⟨hg, hf⟩ := gd_some hf
      refine g_iald (pc := 22) C hP 1 rfl hg dX9_copy_22 ?_
      refine lv_if_lt (pc := 23) (tgt := 35) hx hb dX9_copy_23 (by decide) (fun hc => ?_) (fun hc => ?_)
      · have hf := (if_pos hc).symm.trans hf
        exact k_X9_copy_b35 C hr hlk hA b m_latest m_cells m_wide m_houses m_bowls m_dogs m_gone m_sights m_drawn m_forms m_sizes m_items m_moved r hf H locs ls hP hD hS (lv_sub hl [0] rfl)
      · have hf := (if_neg hc).symm.trans hf
        refine lv_aload_n (pc := 26) hx hb dX9_copy_26 rfl (lv_at hl 0 rfl) ?_
        refine g_get (pc := 27) C fg_X9_7 hP 0 rfl rfl dX9_copy_27 ?_
        refine lv_iload_n (pc := 30) hx hb dX9_copy_30 rfl (lv_at hl 3 rfl) ?_
        obtain ⟨hg, hf⟩ := gd_some hf
        refine g_iald (pc := 31) C hP 1 rfl hg dX9_copy_31 ?_
        refine lv_if_ge (pc := 32) (tgt := 41) hx hb dX9_copy_32 (by decide) (fun hc => ?_) (fun hc => ?_)
        · have hf := (if_pos hc).symm.trans hf
          refine lv_aload_n (pc := 41) hx hb dX9_copy_41 rfl (lv_at hl 0 rfl) ?_
          refine g_get (pc := 42) C fg_X9_7 hP 0 rfl rfl dX9_copy_42 ?_
          refine lv_iload_n (pc := 45) hx hb dX9_copy_45 rfl (lv_at hl 1 rfl) ?_
          obtain ⟨hg, hf⟩ := gd_some hf
          refine g_iald (pc := 46) C hP 1 rfl hg dX9_copy_46 ?_
          refine lv_aload_n (pc := 47) hx hb dX9_copy_47 rfl (lv_at hl 0 rfl) ?_
          refine g_get (pc := 48) C fg_X9_7 hP 0 rfl rfl dX9_copy_48 ?_
          refine lv_iload_n (pc := 51) hx hb dX9_copy_51 rfl (lv_at hl 3 rfl) ?_
          obtain ⟨hg, hf⟩ := gd_some hf
          refine g_iald (pc := 52) C hP 1 rfl hg dX9_copy_52 ?_
          refine lv_icmp_eq (pc := 53) (tgt := 62) hx hb dX9_copy_53 (by decide) (fun hc => ?_) (fun hc => ?_)
          · have hf := (if_pos hc).symm.trans hf
            refine lv_iload_n (pc := 62) hx hb dX9_copy_62 rfl (lv_at hl 2 rfl) ?_
            refine lv_if_lt (pc := 63) (tgt := 111) hx hb dX9_copy_63 (by decide) (fun hc => ?_) (fun hc => ?_)
            · have hf := (if_pos hc).symm.trans hf
              exact k_X9_copy_b111 C hr hlk hA b m_latest m_cells m_wide m_houses m_bowls m_dogs m_gone m_sights m_drawn m_forms m_sizes m_items m_moved r hf H locs ls hP hD hS (lv_sub hl [0] rfl)
            · have hf := (if_neg hc).symm.trans hf
              refine lv_iload (pc := 66) hx hb dX9_copy_66 (lv_at hl 4 rfl) ?_
              refine lv_if_lt (pc := 68) (tgt := 111) hx hb dX9_copy_68 (by decide) (fun hc => ?_) (fun hc => ?_)
              · have hf := (if_pos hc).symm.trans hf
                exact k_X9_copy_b111 C hr hlk hA b m_latest m_cells m_wide m_houses m_bowls m_dogs m_gone m_sights m_drawn m_forms m_sizes m_items m_moved r hf H locs ls hP hD hS (lv_sub hl [0] rfl)
              · have hf := (if_neg hc).symm.trans hf
                refine lv_iload (pc := 71) hx hb dX9_copy_71 (lv_at hl 5 rfl) ?_
                refine lv_if_lt (pc := 73) (tgt := 111) hx hb dX9_copy_73 (by decide) (fun hc => ?_) (fun hc => ?_)
                · have hf := (if_pos hc).symm.trans hf
                  exact k_X9_copy_b111 C hr hlk hA b m_latest m_cells m_wide m_houses m_bowls m_dogs m_gone m_sights m_drawn m_forms m_sizes m_items m_moved r hf H locs ls hP hD hS (lv_sub hl [0] rfl)
                · have hf := (if_neg hc).symm.trans hf
                  refine lv_iload_n (pc := 76) hx hb dX9_copy_76 rfl (lv_at hl 2 rfl) ?_
                  refine lv_i2l (pc := 77) hx hb dX9_copy_77 rfl ?_
                  refine lv_iload (pc := 78) hx hb dX9_copy_78 (lv_at hl 5 rfl) ?_
                  refine lv_i2l (pc := 80) hx hb dX9_copy_80 rfl ?_
                  refine lv_ladd (pc := 81) hx hb dX9_copy_81 ?_
                  refine lv_aload_n (pc := 82) hx hb dX9_copy_82 rfl (lv_at hl 0 rfl) ?_
                  refine g_get (pc := 83) C fg_X9_13 hP 0 rfl rfl dX9_copy_83 ?_
                  refine lv_iload_n (pc := 86) hx hb dX9_copy_86 rfl (lv_at hl 1 rfl) ?_
                  obtain ⟨hg, hf⟩ := gd_some hf
                  refine g_iald (pc := 87) C hP 2 rfl hg dX9_copy_87 ?_
                  refine lv_i2l (pc := 88) hx hb dX9_copy_88 rfl ?_
                  refine W.lcmp (pc := 89) hx hb dX9_copy_89 ?_
                  refine lv_if_gt (pc := 90) (tgt := 111) hx hb dX9_copy_90 (by decide) (fun hc => ?_) (fun hc => ?_)
                  · have hf := (if_pos hc).symm.trans hf
                    exact k_X9_copy_b111 C hr hlk hA b m_latest m_cells m_wide m_houses m_bowls m_dogs m_gone m_sights m_drawn m_forms m_sizes m_items m_moved r hf H locs ls hP hD hS (lv_sub hl [0] rfl)
                  · have hf := (if_neg hc).symm.trans hf
                    refine lv_iload (pc := 93) hx hb dX9_copy_93 (lv_at hl 4 rfl) ?_
                    refine lv_i2l (pc := 95) hx hb dX9_copy_95 rfl ?_
                    refine lv_iload (pc := 96) hx hb dX9_copy_96 (lv_at hl 5 rfl) ?_
                    refine lv_i2l (pc := 98) hx hb dX9_copy_98 rfl ?_
                    refine lv_ladd (pc := 99) hx hb dX9_copy_99 ?_
                    refine lv_aload_n (pc := 100) hx hb dX9_copy_100 rfl (lv_at hl 0 rfl) ?_
                    refine g_get (pc := 101) C fg_X9_13 hP 0 rfl rfl dX9_copy_101 ?_
                    refine lv_iload_n (pc := 104) hx hb dX9_copy_104 rfl (lv_at hl 3 rfl) ?_
                    obtain ⟨hg, hf⟩ := gd_some hf
                    refine g_iald (pc := 105) C hP 2 rfl hg dX9_copy_105 ?_
                    refine lv_i2l (pc := 106) hx hb dX9_copy_106 rfl ?_
                    refine W.lcmp (pc := 107) hx hb dX9_copy_107 ?_
                    refine lv_if_le (pc := 108) (tgt := 117) hx hb dX9_copy_108 (by decide) (fun hc => ?_) (fun hc => ?_)
                    · have hf := (if_pos hc).symm.trans hf
                      refine lv_iconst (pc := 117) (v := 0) hx hb dX9_copy_117 ic_0 ?_
                      refine lv_istore (pc := 118) (lv' := [(6, .int (0 : Int32)), (0, .ref (b 0)), (1, .int x1), (2, .int x2), (3, .int x3), (4, .int x4), (5, .int x5)]) hx hb dX9_copy_118 hl (Nat.le_of_ble_eq_true rfl) rfl (fun ls hl => ?_)
                      obtain ⟨u8, hq, hf⟩ := bind1_some hf
                      refine kl_X9_copy_L120 C hA b m_latest m_cells m_wide m_houses m_bowls m_dogs m_gone m_sights m_drawn m_forms m_sizes m_items x1 x2 x3 x4 x5 FU ((0 : Int32), m_moved) _ hq ?_ H locs ls hP hD hS (lv_sub hl [1, 2, 3, 4, 5, 6, 0] rfl)
                      intro H locs ls hP hD hS hl
                      have hP : va_P D classes (wl_X9_copy cA b m_latest m_cells m_wide m_houses m_bowls m_dogs m_gone m_sights m_drawn m_forms m_sizes m_items u8) H := hP
                      have hD : va_D (va_A ws0 sz) (wl_X9_copy cA b m_latest m_cells m_wide m_houses m_bowls m_dogs m_gone m_sights m_drawn m_forms m_sizes m_items u8) := hD
                      have hl : lv_has ls 7 [(0, .ref (b 0)), (3, .int x3), (4, .int x4), (5, .int x5)] := hl
                      refine lv_iconst (pc := 154) (v := 0) hx hb dX9_copy_154 ic_0 ?_
                      refine lv_istore (pc := 155) (lv' := [(6, .int (0 : Int32)), (0, .ref (b 0)), (3, .int x3), (4, .int x4), (5, .int x5)]) hx hb dX9_copy_155 hl (Nat.le_of_ble_eq_true rfl) rfl (fun ls hl => ?_)
                      obtain ⟨u10, hq, hf⟩ := bind1_some hf
                      refine kl_X9_copy_L157 C hA b m_latest m_cells m_wide m_houses m_bowls m_dogs m_gone m_sights m_drawn m_forms m_sizes u8 x3 x4 x5 FU ((0 : Int32), m_items) _ hq ?_ H locs ls hP hD hS (lv_sub hl [1, 2, 3, 4, 0] rfl)
                      intro H locs ls hP hD hS hl
                      have hP : va_P D classes (wl_X9_copy cA b m_latest m_cells m_wide m_houses m_bowls m_dogs m_gone m_sights m_drawn m_forms m_sizes u10 u8) H := hP
                      have hD : va_D (va_A ws0 sz) (wl_X9_copy cA b m_latest m_cells m_wide m_houses m_bowls m_dogs m_gone m_sights m_drawn m_forms m_sizes u10 u8) := hD
                      have hl : lv_has ls 7 [] := hl
                      refine lv_iconst (pc := 192) (v := 1) hx hb dX9_copy_192 ic_1 ?_
                      have hf := Option.some.inj hf
                      subst hf
                      exact ret_i C hr hlk hP hS dX9_copy_193
                    · have hf := (if_neg hc).symm.trans hf
                      exact k_X9_copy_b111 C hr hlk hA b m_latest m_cells m_wide m_houses m_bowls m_dogs m_gone m_sights m_drawn m_forms m_sizes m_items m_moved r hf H locs ls hP hD hS (lv_sub hl [0] rfl)
          · have hf := (if_neg hc).symm.trans hf
            refine lv_aload_n (pc := 56) hx hb dX9_copy_56 rfl (lv_at hl 0 rfl) ?_
            refine lv_iconst (pc := 57) (v := 4) hx hb dX9_copy_57 ic_4 ?_
            obtain ⟨r11, c12, hq, hf⟩ := bind2_some hf
            refine fin2_i (wl_X9_copy cA b c12 m_cells m_wide m_houses m_bowls m_dogs m_gone m_sights m_drawn m_forms m_sizes m_items m_moved) (run_V (rest := []) (pc := 58) (As := [.int (4 : Int32)]) C mf_X9_76 (c_X9_finds l D cA b m_latest m_cells m_wide m_houses m_bowls m_dogs m_gone m_sights m_drawn (4 : Int32) (r11, c12) hq H.size) rfl rfl ⟨(Nat.le_of_ble_eq_true rfl), (Nat.le_of_ble_eq_true rfl)⟩ (preV_of C hP hD [0] rfl (pl_nd pv_122) 0 rfl rfl rfl) rfl hl.1 rfl (Nat.le_of_ble_eq_true rfl) dX9_copy_58 ⟨Nat.zero_le _, Nat.zero_le _⟩) hP hD hS hA [0] [1, 2, 3, 4] rfl rfl rfl rfl pv_122 (fun H locs hP hS => ?_)
            have hD : va_D (va_A ws0 sz) (wl_X9_copy cA b c12 m_cells m_wide m_houses m_bowls m_dogs m_gone m_sights m_drawn m_forms m_sizes m_items m_moved) := vd_a hD rfl
            have hf := Option.some.inj hf
            subst hf
            exact ret_i C hr hlk hP hS dX9_copy_61
        · have hf := (if_neg hc).symm.trans hf
          exact k_X9_copy_b35 C hr hlk hA b m_latest m_cells m_wide m_houses m_bowls m_dogs m_gone m_sights m_drawn m_forms m_sizes m_items m_moved r hf H locs ls hP hD hS (lv_sub hl [0] rfl)
    · have hf := (if_pos hc).symm.trans hf
      refine lv_bipush (pc := 14) (v := (-2)) hx hb dX9_copy_14 bp_m2 ?_
      have hf := Option.some.inj hf
      subst hf
      exact ret_i C hr hlk hP hS dX9_copy_16
set_option maxRecDepth 100000 in
theorem c_X9_copy (l : Launch) (D : va_G) (cA : Nat → ClassId) (b : Nat → Nat) (m_latest : Int32) (m_cells : Int32) (m_wide : Int32) (m_houses : Int32) (m_bowls : Int32) (m_dogs : Int32) (m_gone : Int32) (m_sights : Int32) (m_drawn : Int32) (m_forms : Nat → Int32) (m_sizes : Nat → Int32) (m_items : Nat → Int32) (m_moved : Nat → Int32) (x1 : Int32) (x2 : Int32) (x3 : Int32) (x4 : Int32) (x5 : Int32) (r : Int32 × Int32 × (Nat → Int32) × (Nat → Int32)) (hf : f_X9_copy m_latest m_forms m_sizes m_items m_moved x1 x2 x3 x4 x5 = some r) (sz : Nat) : Met l yX9_copy (Cond.code yX9_copy cX9_copy 7 (some .int) :: lw_good) rm_X9_copy (PreX D cA [.ref (b 0), .int x1, .int x2, .int x3, .int x4, .int x5] sz (wl_X9_copy cA b m_latest m_cells m_wide m_houses m_bowls m_dogs m_gone m_sights m_drawn m_forms m_sizes m_items m_moved)) (PostI D r.1 (wl_X9_copy cA b m_latest m_cells m_wide m_houses m_bowls m_dogs m_gone m_sights m_drawn m_forms m_sizes m_items m_moved) (wl_X9_copy cA b (r.2.1) m_cells m_wide m_houses m_bowls m_dogs m_gone m_sights m_drawn m_forms m_sizes (r.2.2.1) (r.2.2.2)) sz) 0 0 (va_A (wl_X9_copy cA b m_latest m_cells m_wide m_houses m_bowls m_dogs m_gone m_sights m_drawn m_forms m_sizes m_items m_moved) sz) :=
  met_of (by decide) (Nat.le_of_ble_eq_true rfl) (fun p e s m args below meth c C hr hlk hA => k_X9_copy C hr hlk hA b m_latest m_cells m_wide m_houses m_bowls m_dogs m_gone m_sights m_drawn m_forms m_sizes m_items m_moved x1 x2 x3 x4 x5 r hf)
end

abbrev wl_X9_type (cA : Nat → ClassId) (b : Nat → Nat) (m_latest : Int32) (m_cells : Int32) (m_wide : Int32) (m_houses : Int32) (m_bowls : Int32) (m_dogs : Int32) (m_gone : Int32) (m_sights : Int32) (m_drawn : Int32) (m_bytes : Nat → Int32) (m_typed : Nat → Int32) : va_W := [((b 0), .inr (9, [.ref (b 1), .ref (b 2), .ref (b 3), .ref (b 4), .int m_latest, .ref (b 5), .ref (b 6), .int m_cells, .int m_wide, .ref (b 7), .int m_houses, .ref (b 8), .ref (b 9), .int m_bowls, .ref (b 10), .int m_dogs, .ref (b 11), .int m_gone, .ref (b 12), .ref (b 13), .ref (b 14), .int m_sights, .ref (b 15), .ref (b 16), .int m_drawn])), ((b 5), .inl (cA 0, 84, .inl m_bytes)), ((b 6), .inl (cA 0, 2, .inl m_typed))]
abbrev rm_X9_type : Room := { frames := 2, cells := 0, slots := 0, locals := 45 }
section
variable {p : Program} {l : Launch} {e : Env} {s : State} {m : MethodId} {args : Array Value} {below : List Frame} {meth : Method} {c : Code} {D : va_G} {cA : Nat → ClassId} {ws0 : va_W} {sz : Nat} {A : Nat → Prop} {Q : State → Prop}
def f_X9_type_b39 (m_bytes : Nat → Int32) (m_typed : Nat → Int32) (x1 : Int32) (x2 : Int32) (s0 : Int32) (s1 : Int32) : Option (Int32 × (Nat → Int32) × (Nat → Int32)) :=
  if s1 = s0 then (some ((-4 : Int32), m_bytes, m_typed)) else (gd (inb x1 2) (gd (inb (((42 : Int32) * x1) + (m_typed x1.toNatClampNeg)) 84) (gd (inb x1 2) (letv (((m_typed x1.toNatClampNeg) + (1 : Int32))) (fun v3 => gd (inb x1 2) (gd (inb x1 2) (some (((upd m_typed x1.toNatClampNeg v3) x1.toNatClampNeg), (upd m_bytes (((42 : Int32) * x1) + (m_typed x1.toNatClampNeg)).toNatClampNeg x2), (upd m_typed x1.toNatClampNeg v3)))))))))
set_option maxHeartbeats 4000000 in
set_option maxRecDepth 100000 in
theorem k_X9_type_b39 (C : Cx RX9 cX9_type 3 D cA p s m args c) (hr : meth.sig.returnType = (some .int)) (hlk : meth.locks = false) (hA : ∀ q, s.heap.size ≤ q → va_A ws0 sz q) (b : Nat → Nat) (m_latest : Int32) (m_cells : Int32) (m_wide : Int32) (m_houses : Int32) (m_bowls : Int32) (m_dogs : Int32) (m_gone : Int32) (m_sights : Int32) (m_drawn : Int32) (m_bytes : Nat → Int32) (m_typed : Nat → Int32) (x1 : Int32) (x2 : Int32) (s0 : Int32) (s1 : Int32) (r : Int32 × (Nat → Int32) × (Nat → Int32)) (hf : f_X9_type_b39 m_bytes m_typed x1 x2 s0 s1 = some r) : At p l e rm_X9_type s m args below meth c D (va_A ws0 sz) 0 0 (MQ below (PostI D r.1 ws0 (wl_X9_type cA b m_latest m_cells m_wide m_houses m_bowls m_dogs m_gone m_sights m_drawn (r.2.1) (r.2.2)) sz) args s 0 0 (va_A ws0 sz)) 3 39 (wl_X9_type cA b m_latest m_cells m_wide m_houses m_bowls m_dogs m_gone m_sights m_drawn m_bytes m_typed) [(0, .ref (b 0)), (1, .int x1), (2, .int x2)] [.int s0, .int s1] := by
  intro H locs ls hP hD hS hl
  have hx := C.1
  have hb := C.2.1
  have hown := C.2.2.2.1
  have hts := C.2.2.2.2.1
  unfold f_X9_type_b39 at hf
  refine lv_icmp_ne (pc := 39) (tgt := 45) hx hb dX9_type_39 (by decide) (fun hc => ?_) (fun hc => ?_)
  · have hf := (if_neg hc).symm.trans hf
    refine lv_aload_n (pc := 45) hx hb dX9_type_45 rfl (lv_at hl 0 rfl) ?_
    refine g_get (pc := 46) C fg_X9_22 hP 0 rfl rfl dX9_type_46 ?_
    refine lv_bipush (pc := 49) (v := 42) hx hb dX9_type_49 bp_42 ?_
    refine lv_iload_n (pc := 51) hx hb dX9_type_51 rfl (lv_at hl 1 rfl) ?_
    refine lv_imul (pc := 52) hx hb dX9_type_52 ?_
    refine lv_aload_n (pc := 53) hx hb dX9_type_53 rfl (lv_at hl 0 rfl) ?_
    refine g_get (pc := 54) C fg_X9_25 hP 0 rfl rfl dX9_type_54 ?_
    refine lv_iload_n (pc := 57) hx hb dX9_type_57 rfl (lv_at hl 1 rfl) ?_
    obtain ⟨hg, hf⟩ := gd_some hf
    refine g_iald (pc := 58) C hP 2 rfl hg dX9_type_58 ?_
    refine lv_iadd (pc := 59) hx hb dX9_type_59 ?_
    refine lv_iload_n (pc := 60) hx hb dX9_type_60 rfl (lv_at hl 2 rfl) ?_
    obtain ⟨hg, hf⟩ := gd_some hf
    refine g_iast (pc := 61) C hP hD hS 1 rfl hg dX9_type_61 (fun H locs hP hD hS => ?_)
    have hP : va_P D classes (wl_X9_type cA b m_latest m_cells m_wide m_houses m_bowls m_dogs m_gone m_sights m_drawn (upd m_bytes (((42 : Int32) * x1) + (m_typed x1.toNatClampNeg)).toNatClampNeg x2) m_typed) H := hP
    have hD : va_D (va_A ws0 sz) (wl_X9_type cA b m_latest m_cells m_wide m_houses m_bowls m_dogs m_gone m_sights m_drawn (upd m_bytes (((42 : Int32) * x1) + (m_typed x1.toNatClampNeg)).toNatClampNeg x2) m_typed) := hD
    refine lv_aload_n (pc := 62) hx hb dX9_type_62 rfl (lv_at hl 0 rfl) ?_
    refine g_get (pc := 63) C fg_X9_25 hP 0 rfl rfl dX9_type_63 ?_
    refine lv_iload_n (pc := 66) hx hb dX9_type_66 rfl (lv_at hl 1 rfl) ?_
    refine lv_dup2_11 (pc := 67) hx hb dX9_type_67 rfl rfl ?_
    obtain ⟨hg, hf⟩ := gd_some hf
    refine g_iald (pc := 68) C hP 2 rfl hg dX9_type_68 ?_
    refine lv_iconst (pc := 69) (v := 1) hx hb dX9_type_69 ic_1 ?_
    refine lv_iadd (pc := 70) hx hb dX9_type_70 ?_
    obtain ⟨v3, e_v3, hf⟩ := letv_some hf
    refine tp_i e_v3 ?_
    obtain ⟨hg, hf⟩ := gd_some hf
    refine g_iast (pc := 71) C hP hD hS 2 rfl hg dX9_type_71 (fun H locs hP hD hS => ?_)
    have hP : va_P D classes (wl_X9_type cA b m_latest m_cells m_wide m_houses m_bowls m_dogs m_gone m_sights m_drawn (upd m_bytes (((42 : Int32) * x1) + (m_typed x1.toNatClampNeg)).toNatClampNeg x2) (upd m_typed x1.toNatClampNeg v3)) H := hP
    have hD : va_D (va_A ws0 sz) (wl_X9_type cA b m_latest m_cells m_wide m_houses m_bowls m_dogs m_gone m_sights m_drawn (upd m_bytes (((42 : Int32) * x1) + (m_typed x1.toNatClampNeg)).toNatClampNeg x2) (upd m_typed x1.toNatClampNeg v3)) := hD
    refine lv_aload_n (pc := 72) hx hb dX9_type_72 rfl (lv_at hl 0 rfl) ?_
    refine g_get (pc := 73) C fg_X9_25 hP 0 rfl rfl dX9_type_73 ?_
    refine lv_iload_n (pc := 76) hx hb dX9_type_76 rfl (lv_at hl 1 rfl) ?_
    obtain ⟨hg, hf⟩ := gd_some hf
    refine g_iald (pc := 77) C hP 2 rfl hg dX9_type_77 ?_
    have hf := Option.some.inj hf
    subst hf
    exact ret_i C hr hlk hP hS dX9_type_78
  · have hf := (if_pos hc).symm.trans hf
    refine lv_bipush (pc := 42) (v := (-4)) hx hb dX9_type_42 bp_m4 ?_
    have hf := Option.some.inj hf
    subst hf
    exact ret_i C hr hlk hP hS dX9_type_44
def f_X9_type (m_bytes : Nat → Int32) (m_typed : Nat → Int32) (x1 : Int32) (x2 : Int32) : Option (Int32 × (Nat → Int32) × (Nat → Int32)) :=
  bind1 (f_X9_isTwo x1) (fun r1 => if r1 = 0 then (some ((-2 : Int32), m_bytes, m_typed)) else (bind1 (f_X9_in (x2.toInt64) (0 : Int64) (255 : Int64)) (fun r2 => if r2 = 0 then (some ((-2 : Int32), m_bytes, m_typed)) else (gd (inb x1 2) (if x1 = 0 then (f_X9_type_b39 m_bytes m_typed x1 x2 (41 : Int32) (m_typed x1.toNatClampNeg)) else (f_X9_type_b39 m_bytes m_typed x1 x2 (31 : Int32) (m_typed x1.toNatClampNeg)))))))
set_option maxHeartbeats 4000000 in
set_option maxRecDepth 100000 in
theorem k_X9_type (C : Cx RX9 cX9_type 3 D cA p s m args c) (hr : meth.sig.returnType = (some .int)) (hlk : meth.locks = false) (hA : ∀ q, s.heap.size ≤ q → va_A ws0 sz q) (b : Nat → Nat) (m_latest : Int32) (m_cells : Int32) (m_wide : Int32) (m_houses : Int32) (m_bowls : Int32) (m_dogs : Int32) (m_gone : Int32) (m_sights : Int32) (m_drawn : Int32) (m_bytes : Nat → Int32) (m_typed : Nat → Int32) (x1 : Int32) (x2 : Int32) (r : Int32 × (Nat → Int32) × (Nat → Int32)) (hf : f_X9_type m_bytes m_typed x1 x2 = some r) : At p l e rm_X9_type s m args below meth c D (va_A ws0 sz) 0 0 (MQ below (PostI D r.1 ws0 (wl_X9_type cA b m_latest m_cells m_wide m_houses m_bowls m_dogs m_gone m_sights m_drawn (r.2.1) (r.2.2)) sz) args s 0 0 (va_A ws0 sz)) 3 0 (wl_X9_type cA b m_latest m_cells m_wide m_houses m_bowls m_dogs m_gone m_sights m_drawn m_bytes m_typed) [(0, .ref (b 0)), (1, .int x1), (2, .int x2)] [] := by
  intro H locs ls hP hD hS hl
  have hx := C.1
  have hb := C.2.1
  have hown := C.2.2.2.1
  have hts := C.2.2.2.2.1
  unfold f_X9_type at hf
  refine lv_iload_n (pc := 0) hx hb dX9_type_0 rfl (lv_at hl 1 rfl) ?_
  obtain ⟨r1, hq, hf⟩ := bind1_some hf
  refine fin2_i (wl_X9_type cA b m_latest m_cells m_wide m_houses m_bowls m_dogs m_gone m_sights m_drawn m_bytes m_typed) (run_S (rest := []) (pc := 1) (As := [.int x1]) C mf_X9_89 (c_X9_isTwo l D cA  x1 r1 hq H.size) rfl rfl ⟨(Nat.le_of_ble_eq_true rfl), (Nat.le_of_ble_eq_true rfl)⟩ (preS_of C hP hD [] rfl (pl_nd pv_23)) rfl hl.1 rfl (Nat.le_of_ble_eq_true rfl) dX9_type_1 ⟨Nat.zero_le _, Nat.zero_le _⟩) hP hD hS hA [] [0, 1, 2] rfl rfl rfl rfl pv_23 (fun H locs hP hS => ?_)
  refine lv_if_eq (pc := 4) (tgt := 19) hx hb dX9_type_4 (by decide) (fun hc => ?_) (fun hc => ?_)
  · have hf := (if_pos hc).symm.trans hf
    refine lv_bipush (pc := 19) (v := (-2)) hx hb dX9_type_19 bp_m2 ?_
    have hf := Option.some.inj hf
    subst hf
    exact ret_i C hr hlk hP hS dX9_type_21
  · have hf := (if_neg hc).symm.trans hf
    refine lv_iload_n (pc := 7) hx hb dX9_type_7 rfl (lv_at hl 2 rfl) ?_
    refine lv_i2l (pc := 8) hx hb dX9_type_8 rfl ?_
    refine lv_lconst (pc := 9) (v := 0) hx hb dX9_type_9 rfl ?_
    refine lv_ldc2 (pc := 10) hx hb hown (hts _ (lg_in mw_481 rfl)) dX9_type_10 ?_
    obtain ⟨r2, hq, hf⟩ := bind1_some hf
    refine fin2_i (wl_X9_type cA b m_latest m_cells m_wide m_houses m_bowls m_dogs m_gone m_sights m_drawn m_bytes m_typed) (run_S (rest := []) (pc := 13) (As := [.long (x2.toInt64), .long (0 : Int64), .long (255 : Int64)]) C mf_X9_60 (c_X9_in l D cA  (x2.toInt64) (0 : Int64) (255 : Int64) r2 hq H.size) rfl rfl ⟨(Nat.le_of_ble_eq_true rfl), (Nat.le_of_ble_eq_true rfl)⟩ (preS_of C hP hD [] rfl (pl_nd pv_23)) rfl hl.1 rfl (Nat.le_of_ble_eq_true rfl) dX9_type_13 ⟨Nat.zero_le _, Nat.zero_le _⟩) hP hD hS hA [] [0, 1, 2] rfl rfl rfl rfl pv_23 (fun H locs hP hS => ?_)
    refine lv_if_ne (pc := 16) (tgt := 22) hx hb dX9_type_16 (by decide) (fun hc => ?_) (fun hc => ?_)
    · have hf := (if_neg hc).symm.trans hf
      refine lv_aload_n (pc := 22) hx hb dX9_type_22 rfl (lv_at hl 0 rfl) ?_
      refine g_get (pc := 23) C fg_X9_25 hP 0 rfl rfl dX9_type_23 ?_
      refine lv_iload_n (pc := 26) hx hb dX9_type_26 rfl (lv_at hl 1 rfl) ?_
      obtain ⟨hg, hf⟩ := gd_some hf
      refine g_iald (pc := 27) C hP 2 rfl hg dX9_type_27 ?_
      refine lv_iload_n (pc := 28) hx hb dX9_type_28 rfl (lv_at hl 1 rfl) ?_
      refine lv_if_ne (pc := 29) (tgt := 37) hx hb dX9_type_29 (by decide) (fun hc => ?_) (fun hc => ?_)
      · have hf := (if_neg hc).symm.trans hf
        refine lv_bipush (pc := 37) (v := 31) hx hb dX9_type_37 bp_31 ?_
        exact k_X9_type_b39 C hr hlk hA b m_latest m_cells m_wide m_houses m_bowls m_dogs m_gone m_sights m_drawn m_bytes m_typed x1 x2 (31 : Int32) (m_typed x1.toNatClampNeg) r hf H locs ls hP hD hS hl
      · have hf := (if_pos hc).symm.trans hf
        refine lv_bipush (pc := 32) (v := 41) hx hb dX9_type_32 bp_41 ?_
        refine lv_goto (pc := 34) (tgt := 39) hx hb dX9_type_34 (by decide) ?_
        exact k_X9_type_b39 C hr hlk hA b m_latest m_cells m_wide m_houses m_bowls m_dogs m_gone m_sights m_drawn m_bytes m_typed x1 x2 (41 : Int32) (m_typed x1.toNatClampNeg) r hf H locs ls hP hD hS hl
    · have hf := (if_pos hc).symm.trans hf
      refine lv_bipush (pc := 19) (v := (-2)) hx hb dX9_type_19 bp_m2 ?_
      have hf := Option.some.inj hf
      subst hf
      exact ret_i C hr hlk hP hS dX9_type_21
set_option maxRecDepth 100000 in
theorem c_X9_type (l : Launch) (D : va_G) (cA : Nat → ClassId) (b : Nat → Nat) (m_latest : Int32) (m_cells : Int32) (m_wide : Int32) (m_houses : Int32) (m_bowls : Int32) (m_dogs : Int32) (m_gone : Int32) (m_sights : Int32) (m_drawn : Int32) (m_bytes : Nat → Int32) (m_typed : Nat → Int32) (x1 : Int32) (x2 : Int32) (r : Int32 × (Nat → Int32) × (Nat → Int32)) (hf : f_X9_type m_bytes m_typed x1 x2 = some r) (sz : Nat) : Met l yX9_type (Cond.code yX9_type cX9_type 3 (some .int) :: lw_good) rm_X9_type (PreX D cA [.ref (b 0), .int x1, .int x2] sz (wl_X9_type cA b m_latest m_cells m_wide m_houses m_bowls m_dogs m_gone m_sights m_drawn m_bytes m_typed)) (PostI D r.1 (wl_X9_type cA b m_latest m_cells m_wide m_houses m_bowls m_dogs m_gone m_sights m_drawn m_bytes m_typed) (wl_X9_type cA b m_latest m_cells m_wide m_houses m_bowls m_dogs m_gone m_sights m_drawn (r.2.1) (r.2.2)) sz) 0 0 (va_A (wl_X9_type cA b m_latest m_cells m_wide m_houses m_bowls m_dogs m_gone m_sights m_drawn m_bytes m_typed) sz) :=
  met_of (by decide) (Nat.le_of_ble_eq_true rfl) (fun p e s m args below meth c C hr hlk hA => k_X9_type C hr hlk hA b m_latest m_cells m_wide m_houses m_bowls m_dogs m_gone m_sights m_drawn m_bytes m_typed x1 x2 r hf)
end

abbrev wl_X9_wipe (cA : Nat → ClassId) (b : Nat → Nat) (m_latest : Int32) (m_cells : Int32) (m_wide : Int32) (m_houses : Int32) (m_bowls : Int32) (m_dogs : Int32) (m_gone : Int32) (m_sights : Int32) (m_drawn : Int32) (m_typed : Nat → Int32) : va_W := [((b 0), .inr (9, [.ref (b 1), .ref (b 2), .ref (b 3), .ref (b 4), .int m_latest, .ref (b 5), .ref (b 6), .int m_cells, .int m_wide, .ref (b 7), .int m_houses, .ref (b 8), .ref (b 9), .int m_bowls, .ref (b 10), .int m_dogs, .ref (b 11), .int m_gone, .ref (b 12), .ref (b 13), .ref (b 14), .int m_sights, .ref (b 15), .ref (b 16), .int m_drawn])), ((b 6), .inl (cA 0, 2, .inl m_typed))]
abbrev rm_X9_wipe : Room := { frames := 2, cells := 0, slots := 0, locals := 45 }
section
variable {p : Program} {l : Launch} {e : Env} {s : State} {m : MethodId} {args : Array Value} {below : List Frame} {meth : Method} {c : Code} {D : va_G} {cA : Nat → ClassId} {ws0 : va_W} {sz : Nat} {A : Nat → Prop} {Q : State → Prop}
def f_X9_wipe (m_typed : Nat → Int32) (x1 : Int32) : Option (Int32 × (Nat → Int32)) :=
  bind1 (f_X9_isTwo x1) (fun r1 => if r1 = 0 then (some ((-2 : Int32), m_typed)) else (gd (inb x1 2) (letv ((m_typed x1.toNatClampNeg)) (fun v2 => gd (inb x1 2) (some (v2, (upd m_typed x1.toNatClampNeg (0 : Int32))))))))
set_option maxHeartbeats 4000000 in
set_option maxRecDepth 100000 in
theorem k_X9_wipe (C : Cx RX9 cX9_wipe 3 D cA p s m args c) (hr : meth.sig.returnType = (some .int)) (hlk : meth.locks = false) (hA : ∀ q, s.heap.size ≤ q → va_A ws0 sz q) (b : Nat → Nat) (m_latest : Int32) (m_cells : Int32) (m_wide : Int32) (m_houses : Int32) (m_bowls : Int32) (m_dogs : Int32) (m_gone : Int32) (m_sights : Int32) (m_drawn : Int32) (m_typed : Nat → Int32) (x1 : Int32) (r : Int32 × (Nat → Int32)) (hf : f_X9_wipe m_typed x1 = some r) : At p l e rm_X9_wipe s m args below meth c D (va_A ws0 sz) 0 0 (MQ below (PostI D r.1 ws0 (wl_X9_wipe cA b m_latest m_cells m_wide m_houses m_bowls m_dogs m_gone m_sights m_drawn (r.2)) sz) args s 0 0 (va_A ws0 sz)) 3 0 (wl_X9_wipe cA b m_latest m_cells m_wide m_houses m_bowls m_dogs m_gone m_sights m_drawn m_typed) [(0, .ref (b 0)), (1, .int x1)] [] := by
  intro H locs ls hP hD hS hl
  have hx := C.1
  have hb := C.2.1
  have hown := C.2.2.2.1
  have hts := C.2.2.2.2.1
  unfold f_X9_wipe at hf
  refine lv_iload_n (pc := 0) hx hb dX9_wipe_0 rfl (lv_at hl 1 rfl) ?_
  obtain ⟨r1, hq, hf⟩ := bind1_some hf
  refine fin2_i (wl_X9_wipe cA b m_latest m_cells m_wide m_houses m_bowls m_dogs m_gone m_sights m_drawn m_typed) (run_S (rest := []) (pc := 1) (As := [.int x1]) C mf_X9_89 (c_X9_isTwo l D cA  x1 r1 hq H.size) rfl rfl ⟨(Nat.le_of_ble_eq_true rfl), (Nat.le_of_ble_eq_true rfl)⟩ (preS_of C hP hD [] rfl (pl_nd pv_0)) rfl hl.1 rfl (Nat.le_of_ble_eq_true rfl) dX9_wipe_1 ⟨Nat.zero_le _, Nat.zero_le _⟩) hP hD hS hA [] [0, 1] rfl rfl rfl rfl pv_0 (fun H locs hP hS => ?_)
  refine lv_if_ne (pc := 4) (tgt := 10) hx hb dX9_wipe_4 (by decide) (fun hc => ?_) (fun hc => ?_)
  · have hf := (if_neg hc).symm.trans hf
    refine lv_aload_n (pc := 10) hx hb dX9_wipe_10 rfl (lv_at hl 0 rfl) ?_
    refine g_get (pc := 11) C fg_X9_25 hP 0 rfl rfl dX9_wipe_11 ?_
    refine lv_iload_n (pc := 14) hx hb dX9_wipe_14 rfl (lv_at hl 1 rfl) ?_
    obtain ⟨hg, hf⟩ := gd_some hf
    refine g_iald (pc := 15) C hP 1 rfl hg dX9_wipe_15 ?_
    obtain ⟨v2, e_v2, hf⟩ := letv_some hf
    refine tp_i e_v2 ?_
    refine lv_istore_n (pc := 16) (lv' := [(2, .int v2), (0, .ref (b 0)), (1, .int x1)]) hx hb dX9_wipe_16 rfl hl (Nat.le_of_ble_eq_true rfl) rfl (fun ls hl => ?_)
    refine lv_aload_n (pc := 17) hx hb dX9_wipe_17 rfl (lv_at hl 1 rfl) ?_
    refine g_get (pc := 18) C fg_X9_25 hP 0 rfl rfl dX9_wipe_18 ?_
    refine lv_iload_n (pc := 21) hx hb dX9_wipe_21 rfl (lv_at hl 2 rfl) ?_
    refine lv_iconst (pc := 22) (v := 0) hx hb dX9_wipe_22 ic_0 ?_
    obtain ⟨hg, hf⟩ := gd_some hf
    refine g_iast (pc := 23) C hP hD hS 1 rfl hg dX9_wipe_23 (fun H locs hP hD hS => ?_)
    have hP : va_P D classes (wl_X9_wipe cA b m_latest m_cells m_wide m_houses m_bowls m_dogs m_gone m_sights m_drawn (upd m_typed x1.toNatClampNeg (0 : Int32))) H := hP
    have hD : va_D (va_A ws0 sz) (wl_X9_wipe cA b m_latest m_cells m_wide m_houses m_bowls m_dogs m_gone m_sights m_drawn (upd m_typed x1.toNatClampNeg (0 : Int32))) := hD
    refine lv_iload_n (pc := 24) hx hb dX9_wipe_24 rfl (lv_at hl 0 rfl) ?_
    have hf := Option.some.inj hf
    subst hf
    exact ret_i C hr hlk hP hS dX9_wipe_25
  · have hf := (if_pos hc).symm.trans hf
    refine lv_bipush (pc := 7) (v := (-2)) hx hb dX9_wipe_7 bp_m2 ?_
    have hf := Option.some.inj hf
    subst hf
    exact ret_i C hr hlk hP hS dX9_wipe_9
set_option maxRecDepth 100000 in
theorem c_X9_wipe (l : Launch) (D : va_G) (cA : Nat → ClassId) (b : Nat → Nat) (m_latest : Int32) (m_cells : Int32) (m_wide : Int32) (m_houses : Int32) (m_bowls : Int32) (m_dogs : Int32) (m_gone : Int32) (m_sights : Int32) (m_drawn : Int32) (m_typed : Nat → Int32) (x1 : Int32) (r : Int32 × (Nat → Int32)) (hf : f_X9_wipe m_typed x1 = some r) (sz : Nat) : Met l yX9_wipe (Cond.code yX9_wipe cX9_wipe 3 (some .int) :: lw_good) rm_X9_wipe (PreX D cA [.ref (b 0), .int x1] sz (wl_X9_wipe cA b m_latest m_cells m_wide m_houses m_bowls m_dogs m_gone m_sights m_drawn m_typed)) (PostI D r.1 (wl_X9_wipe cA b m_latest m_cells m_wide m_houses m_bowls m_dogs m_gone m_sights m_drawn m_typed) (wl_X9_wipe cA b m_latest m_cells m_wide m_houses m_bowls m_dogs m_gone m_sights m_drawn (r.2)) sz) 0 0 (va_A (wl_X9_wipe cA b m_latest m_cells m_wide m_houses m_bowls m_dogs m_gone m_sights m_drawn m_typed) sz) :=
  met_of (by decide) (Nat.le_of_ble_eq_true rfl) (fun p e s m args below meth c C hr hlk hA => k_X9_wipe C hr hlk hA b m_latest m_cells m_wide m_houses m_bowls m_dogs m_gone m_sights m_drawn m_typed x1 r hf)
end

abbrev wl_X9_undo (cA : Nat → ClassId) (b : Nat → Nat) (m_latest : Int32) (m_cells : Int32) (m_wide : Int32) (m_houses : Int32) (m_bowls : Int32) (m_dogs : Int32) (m_gone : Int32) (m_sights : Int32) (m_drawn : Int32) (m_typed : Nat → Int32) : va_W := [((b 0), .inr (9, [.ref (b 1), .ref (b 2), .ref (b 3), .ref (b 4), .int m_latest, .ref (b 5), .ref (b 6), .int m_cells, .int m_wide, .ref (b 7), .int m_houses, .ref (b 8), .ref (b 9), .int m_bowls, .ref (b 10), .int m_dogs, .ref (b 11), .int m_gone, .ref (b 12), .ref (b 13), .ref (b 14), .int m_sights, .ref (b 15), .ref (b 16), .int m_drawn])), ((b 6), .inl (cA 0, 2, .inl m_typed))]
abbrev rm_X9_undo : Room := { frames := 2, cells := 0, slots := 0, locals := 45 }
section
variable {p : Program} {l : Launch} {e : Env} {s : State} {m : MethodId} {args : Array Value} {below : List Frame} {meth : Method} {c : Code} {D : va_G} {cA : Nat → ClassId} {ws0 : va_W} {sz : Nat} {A : Nat → Prop} {Q : State → Prop}
def f_X9_undo (m_typed : Nat → Int32) (x1 : Int32) : Option (Int32 × (Nat → Int32)) :=
  bind1 (f_X9_isTwo x1) (fun r1 => if r1 = 0 then (some ((-2 : Int32), m_typed)) else (gd (inb x1 2) (if (m_typed x1.toNatClampNeg) = 0 then (some ((-3 : Int32), m_typed)) else (gd (inb x1 2) (letv (((m_typed x1.toNatClampNeg) - (1 : Int32))) (fun v2 => gd (inb x1 2) (gd (inb x1 2) (some (((upd m_typed x1.toNatClampNeg v2) x1.toNatClampNeg), (upd m_typed x1.toNatClampNeg v2))))))))))
set_option maxHeartbeats 4000000 in
set_option maxRecDepth 100000 in
theorem k_X9_undo (C : Cx RX9 cX9_undo 2 D cA p s m args c) (hr : meth.sig.returnType = (some .int)) (hlk : meth.locks = false) (hA : ∀ q, s.heap.size ≤ q → va_A ws0 sz q) (b : Nat → Nat) (m_latest : Int32) (m_cells : Int32) (m_wide : Int32) (m_houses : Int32) (m_bowls : Int32) (m_dogs : Int32) (m_gone : Int32) (m_sights : Int32) (m_drawn : Int32) (m_typed : Nat → Int32) (x1 : Int32) (r : Int32 × (Nat → Int32)) (hf : f_X9_undo m_typed x1 = some r) : At p l e rm_X9_undo s m args below meth c D (va_A ws0 sz) 0 0 (MQ below (PostI D r.1 ws0 (wl_X9_undo cA b m_latest m_cells m_wide m_houses m_bowls m_dogs m_gone m_sights m_drawn (r.2)) sz) args s 0 0 (va_A ws0 sz)) 2 0 (wl_X9_undo cA b m_latest m_cells m_wide m_houses m_bowls m_dogs m_gone m_sights m_drawn m_typed) [(0, .ref (b 0)), (1, .int x1)] [] := by
  intro H locs ls hP hD hS hl
  have hx := C.1
  have hb := C.2.1
  have hown := C.2.2.2.1
  have hts := C.2.2.2.2.1
  unfold f_X9_undo at hf
  refine lv_iload_n (pc := 0) hx hb dX9_undo_0 rfl (lv_at hl 1 rfl) ?_
  obtain ⟨r1, hq, hf⟩ := bind1_some hf
  refine fin2_i (wl_X9_undo cA b m_latest m_cells m_wide m_houses m_bowls m_dogs m_gone m_sights m_drawn m_typed) (run_S (rest := []) (pc := 1) (As := [.int x1]) C mf_X9_89 (c_X9_isTwo l D cA  x1 r1 hq H.size) rfl rfl ⟨(Nat.le_of_ble_eq_true rfl), (Nat.le_of_ble_eq_true rfl)⟩ (preS_of C hP hD [] rfl (pl_nd pv_0)) rfl hl.1 rfl (Nat.le_of_ble_eq_true rfl) dX9_undo_1 ⟨Nat.zero_le _, Nat.zero_le _⟩) hP hD hS hA [] [0, 1] rfl rfl rfl rfl pv_0 (fun H locs hP hS => ?_)
  refine lv_if_ne (pc := 4) (tgt := 10) hx hb dX9_undo_4 (by decide) (fun hc => ?_) (fun hc => ?_)
  · have hf := (if_neg hc).symm.trans hf
    refine lv_aload_n (pc := 10) hx hb dX9_undo_10 rfl (lv_at hl 0 rfl) ?_
    refine g_get (pc := 11) C fg_X9_25 hP 0 rfl rfl dX9_undo_11 ?_
    refine lv_iload_n (pc := 14) hx hb dX9_undo_14 rfl (lv_at hl 1 rfl) ?_
    obtain ⟨hg, hf⟩ := gd_some hf
    refine g_iald (pc := 15) C hP 1 rfl hg dX9_undo_15 ?_
    refine lv_if_ne (pc := 16) (tgt := 22) hx hb dX9_undo_16 (by decide) (fun hc => ?_) (fun hc => ?_)
    · have hf := (if_neg hc).symm.trans hf
      refine lv_aload_n (pc := 22) hx hb dX9_undo_22 rfl (lv_at hl 0 rfl) ?_
      refine g_get (pc := 23) C fg_X9_25 hP 0 rfl rfl dX9_undo_23 ?_
      refine lv_iload_n (pc := 26) hx hb dX9_undo_26 rfl (lv_at hl 1 rfl) ?_
      refine lv_dup2_11 (pc := 27) hx hb dX9_undo_27 rfl rfl ?_
      obtain ⟨hg, hf⟩ := gd_some hf
      refine g_iald (pc := 28) C hP 1 rfl hg dX9_undo_28 ?_
      refine lv_iconst (pc := 29) (v := 1) hx hb dX9_undo_29 ic_1 ?_
      refine lv_isub (pc := 30) hx hb dX9_undo_30 ?_
      obtain ⟨v2, e_v2, hf⟩ := letv_some hf
      refine tp_i e_v2 ?_
      obtain ⟨hg, hf⟩ := gd_some hf
      refine g_iast (pc := 31) C hP hD hS 1 rfl hg dX9_undo_31 (fun H locs hP hD hS => ?_)
      have hP : va_P D classes (wl_X9_undo cA b m_latest m_cells m_wide m_houses m_bowls m_dogs m_gone m_sights m_drawn (upd m_typed x1.toNatClampNeg v2)) H := hP
      have hD : va_D (va_A ws0 sz) (wl_X9_undo cA b m_latest m_cells m_wide m_houses m_bowls m_dogs m_gone m_sights m_drawn (upd m_typed x1.toNatClampNeg v2)) := hD
      refine lv_aload_n (pc := 32) hx hb dX9_undo_32 rfl (lv_at hl 0 rfl) ?_
      refine g_get (pc := 33) C fg_X9_25 hP 0 rfl rfl dX9_undo_33 ?_
      refine lv_iload_n (pc := 36) hx hb dX9_undo_36 rfl (lv_at hl 1 rfl) ?_
      obtain ⟨hg, hf⟩ := gd_some hf
      refine g_iald (pc := 37) C hP 1 rfl hg dX9_undo_37 ?_
      have hf := Option.some.inj hf
      subst hf
      exact ret_i C hr hlk hP hS dX9_undo_38
    · have hf := (if_pos hc).symm.trans hf
      refine lv_bipush (pc := 19) (v := (-3)) hx hb dX9_undo_19 bp_m3 ?_
      have hf := Option.some.inj hf
      subst hf
      exact ret_i C hr hlk hP hS dX9_undo_21
  · have hf := (if_pos hc).symm.trans hf
    refine lv_bipush (pc := 7) (v := (-2)) hx hb dX9_undo_7 bp_m2 ?_
    have hf := Option.some.inj hf
    subst hf
    exact ret_i C hr hlk hP hS dX9_undo_9
set_option maxRecDepth 100000 in
theorem c_X9_undo (l : Launch) (D : va_G) (cA : Nat → ClassId) (b : Nat → Nat) (m_latest : Int32) (m_cells : Int32) (m_wide : Int32) (m_houses : Int32) (m_bowls : Int32) (m_dogs : Int32) (m_gone : Int32) (m_sights : Int32) (m_drawn : Int32) (m_typed : Nat → Int32) (x1 : Int32) (r : Int32 × (Nat → Int32)) (hf : f_X9_undo m_typed x1 = some r) (sz : Nat) : Met l yX9_undo (Cond.code yX9_undo cX9_undo 2 (some .int) :: lw_good) rm_X9_undo (PreX D cA [.ref (b 0), .int x1] sz (wl_X9_undo cA b m_latest m_cells m_wide m_houses m_bowls m_dogs m_gone m_sights m_drawn m_typed)) (PostI D r.1 (wl_X9_undo cA b m_latest m_cells m_wide m_houses m_bowls m_dogs m_gone m_sights m_drawn m_typed) (wl_X9_undo cA b m_latest m_cells m_wide m_houses m_bowls m_dogs m_gone m_sights m_drawn (r.2)) sz) 0 0 (va_A (wl_X9_undo cA b m_latest m_cells m_wide m_houses m_bowls m_dogs m_gone m_sights m_drawn m_typed) sz) :=
  met_of (by decide) (Nat.le_of_ble_eq_true rfl) (fun p e s m args below meth c C hr hlk hA => k_X9_undo C hr hlk hA b m_latest m_cells m_wide m_houses m_bowls m_dogs m_gone m_sights m_drawn m_typed x1 r hf)
end

abbrev rm_X9_cellOf : Room := { frames := 0, cells := 0, slots := 0, locals := 0 }
section
variable {p : Program} {l : Launch} {e : Env} {s : State} {m : MethodId} {args : Array Value} {below : List Frame} {meth : Method} {c : Code} {D : va_G} {cA : Nat → ClassId} {ws0 : va_W} {sz : Nat} {A : Nat → Prop} {Q : State → Prop}
def f_X9_cellOf (x0 : Int32) : Option (Int32) :=
  if x0 = (46 : Int32) then (some (0 : Int32)) else (if x0 = (35 : Int32) then (some (1 : Int32)) else (if x0 = (108 : Int32) then (some (2 : Int32)) else (if x0 = (119 : Int32) then (some (3 : Int32)) else (some (-9 : Int32)))))
set_option maxHeartbeats 4000000 in
set_option maxRecDepth 100000 in
theorem k_X9_cellOf (C : Cx RX9 cX9_cellOf 1 D cA p s m args c) (hr : meth.sig.returnType = (some .int)) (hlk : meth.locks = false) (hA : ∀ q, s.heap.size ≤ q → va_A ws0 sz q) (x0 : Int32) (r : Int32) (hf : f_X9_cellOf x0 = some r) : At p l e rm_X9_cellOf s m args below meth c D (va_A ws0 sz) 0 0 (MQ below (PostI D r ws0 ([] : va_W) sz) args s 0 0 (va_A ws0 sz)) 1 0 ([] : va_W) [(0, .int x0)] [] := by
  intro H locs ls hP hD hS hl
  have hx := C.1
  have hb := C.2.1
  have hown := C.2.2.2.1
  have hts := C.2.2.2.2.1
  unfold f_X9_cellOf at hf
  refine lv_iload_n (pc := 0) hx hb dX9_cellOf_0 rfl (lv_at hl 0 rfl) ?_
  refine lv_bipush (pc := 1) (v := 46) hx hb dX9_cellOf_1 bp_46 ?_
  refine lv_icmp_ne (pc := 3) (tgt := 10) hx hb dX9_cellOf_3 (by decide) (fun hc => ?_) (fun hc => ?_)
  · have hf := (if_neg hc).symm.trans hf
    refine lv_iload_n (pc := 10) hx hb dX9_cellOf_10 rfl (lv_at hl 0 rfl) ?_
    refine lv_bipush (pc := 11) (v := 35) hx hb dX9_cellOf_11 bp_35 ?_
    refine lv_icmp_ne (pc := 13) (tgt := 20) hx hb dX9_cellOf_13 (by decide) (fun hc => ?_) (fun hc => ?_)
    · have hf := (if_neg hc).symm.trans hf
      refine lv_iload_n (pc := 20) hx hb dX9_cellOf_20 rfl (lv_at hl 0 rfl) ?_
      refine lv_bipush (pc := 21) (v := 108) hx hb dX9_cellOf_21 bp_108 ?_
      refine lv_icmp_ne (pc := 23) (tgt := 30) hx hb dX9_cellOf_23 (by decide) (fun hc => ?_) (fun hc => ?_)
      · have hf := (if_neg hc).symm.trans hf
        refine lv_iload_n (pc := 30) hx hb dX9_cellOf_30 rfl (lv_at hl 0 rfl) ?_
        refine lv_bipush (pc := 31) (v := 119) hx hb dX9_cellOf_31 bp_119 ?_
        refine lv_icmp_ne (pc := 33) (tgt := 40) hx hb dX9_cellOf_33 (by decide) (fun hc => ?_) (fun hc => ?_)
        · have hf := (if_neg hc).symm.trans hf
          refine lv_bipush (pc := 40) (v := (-9)) hx hb dX9_cellOf_40 bp_m9 ?_
          have hf := Option.some.inj hf
          subst hf
          exact ret_i C hr hlk hP hS dX9_cellOf_42
        · have hf := (if_pos hc).symm.trans hf
          refine lv_iconst (pc := 36) (v := 3) hx hb dX9_cellOf_36 ic_3 ?_
          refine lv_goto (pc := 37) (tgt := 42) hx hb dX9_cellOf_37 (by decide) ?_
          have hf := Option.some.inj hf
          subst hf
          exact ret_i C hr hlk hP hS dX9_cellOf_42
      · have hf := (if_pos hc).symm.trans hf
        refine lv_iconst (pc := 26) (v := 2) hx hb dX9_cellOf_26 ic_2 ?_
        refine lv_goto (pc := 27) (tgt := 42) hx hb dX9_cellOf_27 (by decide) ?_
        have hf := Option.some.inj hf
        subst hf
        exact ret_i C hr hlk hP hS dX9_cellOf_42
    · have hf := (if_pos hc).symm.trans hf
      refine lv_iconst (pc := 16) (v := 1) hx hb dX9_cellOf_16 ic_1 ?_
      refine lv_goto (pc := 17) (tgt := 42) hx hb dX9_cellOf_17 (by decide) ?_
      have hf := Option.some.inj hf
      subst hf
      exact ret_i C hr hlk hP hS dX9_cellOf_42
  · have hf := (if_pos hc).symm.trans hf
    refine lv_iconst (pc := 6) (v := 0) hx hb dX9_cellOf_6 ic_0 ?_
    refine lv_goto (pc := 7) (tgt := 42) hx hb dX9_cellOf_7 (by decide) ?_
    have hf := Option.some.inj hf
    subst hf
    exact ret_i C hr hlk hP hS dX9_cellOf_42
set_option maxRecDepth 100000 in
theorem c_X9_cellOf (l : Launch) (D : va_G) (cA : Nat → ClassId) (x0 : Int32) (r : Int32) (hf : f_X9_cellOf x0 = some r) (sz : Nat) : Met l yX9_cellOf (Cond.code yX9_cellOf cX9_cellOf 1 (some .int) :: lw_good) rm_X9_cellOf (PreX D cA [.int x0] sz ([] : va_W)) (PostI D r ([] : va_W) ([] : va_W) sz) 0 0 (va_A ([] : va_W) sz) :=
  met_of (by decide) (Nat.le_of_ble_eq_true rfl) (fun p e s m args below meth c C hr hlk hA => k_X9_cellOf C hr hlk hA x0 r hf)
end

abbrev wl_X9_torn (cA : Nat → ClassId) (b : Nat → Nat) (m_latest : Int32) (m_cells : Int32) (m_wide : Int32) (m_houses : Int32) (m_bowls : Int32) (m_dogs : Int32) (m_gone : Int32) (m_sights : Int32) (m_drawn : Int32) : va_W := [((b 0), .inr (9, [.ref (b 1), .ref (b 2), .ref (b 3), .ref (b 4), .int m_latest, .ref (b 5), .ref (b 6), .int m_cells, .int m_wide, .ref (b 7), .int m_houses, .ref (b 8), .ref (b 9), .int m_bowls, .ref (b 10), .int m_dogs, .ref (b 11), .int m_gone, .ref (b 12), .ref (b 13), .ref (b 14), .int m_sights, .ref (b 15), .ref (b 16), .int m_drawn]))]
abbrev rm_X9_torn : Room := { frames := 0, cells := 0, slots := 0, locals := 0 }
section
variable {p : Program} {l : Launch} {e : Env} {s : State} {m : MethodId} {args : Array Value} {below : List Frame} {meth : Method} {c : Code} {D : va_G} {cA : Nat → ClassId} {ws0 : va_W} {sz : Nat} {A : Nat → Prop} {Q : State → Prop}
def f_X9_torn (m_cells : Int32) (m_wide : Int32) (x1 : Int32) : Option (Int32 × Int32 × Int32) :=
  some (x1, (0 : Int32), (0 : Int32))
set_option maxHeartbeats 4000000 in
set_option maxRecDepth 100000 in
theorem k_X9_torn (C : Cx RX9 cX9_torn 2 D cA p s m args c) (hr : meth.sig.returnType = (some .int)) (hlk : meth.locks = false) (hA : ∀ q, s.heap.size ≤ q → va_A ws0 sz q) (b : Nat → Nat) (m_latest : Int32) (m_cells : Int32) (m_wide : Int32) (m_houses : Int32) (m_bowls : Int32) (m_dogs : Int32) (m_gone : Int32) (m_sights : Int32) (m_drawn : Int32) (x1 : Int32) (r : Int32 × Int32 × Int32) (hf : f_X9_torn m_cells m_wide x1 = some r) : At p l e rm_X9_torn s m args below meth c D (va_A ws0 sz) 0 0 (MQ below (PostI D r.1 ws0 (wl_X9_torn cA b m_latest (r.2.1) (r.2.2) m_houses m_bowls m_dogs m_gone m_sights m_drawn) sz) args s 0 0 (va_A ws0 sz)) 2 0 (wl_X9_torn cA b m_latest m_cells m_wide m_houses m_bowls m_dogs m_gone m_sights m_drawn) [(0, .ref (b 0)), (1, .int x1)] [] := by
  intro H locs ls hP hD hS hl
  have hx := C.1
  have hb := C.2.1
  have hown := C.2.2.2.1
  have hts := C.2.2.2.2.1
  unfold f_X9_torn at hf
  refine lv_aload_n (pc := 0) hx hb dX9_torn_0 rfl (lv_at hl 0 rfl) ?_
  refine lv_iconst (pc := 1) (v := 0) hx hb dX9_torn_1 ic_0 ?_
  refine g_put (pc := 2) C fg_X9_94 ft_X9_7 hP hD hS 0 rfl rfl rfl (Nat.le_of_ble_eq_true rfl) dX9_torn_2 (fun H locs hP hD hS => ?_)
  have hP : va_P D classes (wl_X9_torn cA b m_latest (0 : Int32) m_wide m_houses m_bowls m_dogs m_gone m_sights m_drawn) H := hP
  have hD : va_D (va_A ws0 sz) (wl_X9_torn cA b m_latest (0 : Int32) m_wide m_houses m_bowls m_dogs m_gone m_sights m_drawn) := hD
  refine lv_aload_n (pc := 5) hx hb dX9_torn_5 rfl (lv_at hl 0 rfl) ?_
  refine lv_iconst (pc := 6) (v := 0) hx hb dX9_torn_6 ic_0 ?_
  refine g_put (pc := 7) C fg_X9_97 ft_X9_8 hP hD hS 0 rfl rfl rfl (Nat.le_of_ble_eq_true rfl) dX9_torn_7 (fun H locs hP hD hS => ?_)
  have hP : va_P D classes (wl_X9_torn cA b m_latest (0 : Int32) (0 : Int32) m_houses m_bowls m_dogs m_gone m_sights m_drawn) H := hP
  have hD : va_D (va_A ws0 sz) (wl_X9_torn cA b m_latest (0 : Int32) (0 : Int32) m_houses m_bowls m_dogs m_gone m_sights m_drawn) := hD
  refine lv_iload_n (pc := 10) hx hb dX9_torn_10 rfl (lv_at hl 1 rfl) ?_
  have hf := Option.some.inj hf
  subst hf
  exact ret_i C hr hlk hP hS dX9_torn_11
set_option maxRecDepth 100000 in
theorem c_X9_torn (l : Launch) (D : va_G) (cA : Nat → ClassId) (b : Nat → Nat) (m_latest : Int32) (m_cells : Int32) (m_wide : Int32) (m_houses : Int32) (m_bowls : Int32) (m_dogs : Int32) (m_gone : Int32) (m_sights : Int32) (m_drawn : Int32) (x1 : Int32) (r : Int32 × Int32 × Int32) (hf : f_X9_torn m_cells m_wide x1 = some r) (sz : Nat) : Met l yX9_torn (Cond.code yX9_torn cX9_torn 2 (some .int) :: lw_good) rm_X9_torn (PreX D cA [.ref (b 0), .int x1] sz (wl_X9_torn cA b m_latest m_cells m_wide m_houses m_bowls m_dogs m_gone m_sights m_drawn)) (PostI D r.1 (wl_X9_torn cA b m_latest m_cells m_wide m_houses m_bowls m_dogs m_gone m_sights m_drawn) (wl_X9_torn cA b m_latest (r.2.1) (r.2.2) m_houses m_bowls m_dogs m_gone m_sights m_drawn) sz) 0 0 (va_A (wl_X9_torn cA b m_latest m_cells m_wide m_houses m_bowls m_dogs m_gone m_sights m_drawn) sz) :=
  met_of (by decide) (Nat.le_of_ble_eq_true rfl) (fun p e s m args below meth c C hr hlk hA => k_X9_torn C hr hlk hA b m_latest m_cells m_wide m_houses m_bowls m_dogs m_gone m_sights m_drawn x1 r hf)
end

abbrev wl_X9_readsLand (cA : Nat → ClassId) (b : Nat → Nat) (m_latest : Int32) (m_cells : Int32) (m_wide : Int32) (m_houses : Int32) (m_bowls : Int32) (m_dogs : Int32) (m_gone : Int32) (m_sights : Int32) (m_drawn : Int32) (m_bytes : Nat → Int32) (m_typed : Nat → Int32) (m_cell : Nat → Int32) : va_W := [((b 0), .inr (9, [.ref (b 1), .ref (b 2), .ref (b 3), .ref (b 4), .int m_latest, .ref (b 5), .ref (b 6), .int m_cells, .int m_wide, .ref (b 7), .int m_houses, .ref (b 8), .ref (b 9), .int m_bowls, .ref (b 10), .int m_dogs, .ref (b 11), .int m_gone, .ref (b 12), .ref (b 13), .ref (b 14), .int m_sights, .ref (b 15), .ref (b 16), .int m_drawn])), ((b 5), .inl (cA 0, 84, .inl m_bytes)), ((b 6), .inl (cA 0, 2, .inl m_typed)), ((b 7), .inl (cA 0, 36, .inl m_cell))]
abbrev rm_X9_readsLand : Room := { frames := 1, cells := 0, slots := 0, locals := 21 }
section
variable {p : Program} {l : Launch} {e : Env} {s : State} {m : MethodId} {args : Array Value} {below : List Frame} {meth : Method} {c : Code} {D : va_G} {cA : Nat → ClassId} {ws0 : va_W} {sz : Nat} {A : Nat → Prop} {Q : State → Prop}
def f_X9_readsLand_b156L24 (m_cells : Int32) (m_wide : Int32) (m_bytes : Nat → Int32) (m_cell : Nat → Int32) (x1 : Int32) (x2 : Int32) (x3 : Int32) (x4 : Int32) : Option ((Int32 × Int32 × Int32 × Int32 × Int32 × (Nat → Int32)) ⊕ ((Int32 × Int32 × Int32 × (Nat → Int32)) ⊕ ((Int32 × Int32 × Int32 × (Nat → Int32)) ⊕ (Int32 × Int32 × Int32 × (Nat → Int32))))) :=
  some (.inl (x2, x3, (x4 + 1), m_cells, m_wide, m_cell))
set_option maxHeartbeats 4000000 in
set_option maxRecDepth 100000 in
theorem k_X9_readsLand_b156L24 (C : Cx RX9 cX9_readsLand 7 D cA p s m args c) (hA : ∀ q, s.heap.size ≤ q → A q) (b : Nat → Nat) (m_latest : Int32) (m_cells : Int32) (m_wide : Int32) (m_houses : Int32) (m_bowls : Int32) (m_dogs : Int32) (m_gone : Int32) (m_sights : Int32) (m_drawn : Int32) (m_bytes : Nat → Int32) (m_typed : Nat → Int32) (m_cell : Nat → Int32) (x1 : Int32) (x2 : Int32) (x3 : Int32) (x4 : Int32) (r : (Int32 × Int32 × Int32 × Int32 × Int32 × (Nat → Int32)) ⊕ ((Int32 × Int32 × Int32 × (Nat → Int32)) ⊕ ((Int32 × Int32 × Int32 × (Nat → Int32)) ⊕ (Int32 × Int32 × Int32 × (Nat → Int32))))) (hf : f_X9_readsLand_b156L24 m_cells m_wide m_bytes m_cell x1 x2 x3 x4 = some r) (hK : Sum.elim (fun q : Int32 × Int32 × Int32 × Int32 × Int32 × (Nat → Int32) => At p l e rm_X9_readsLand s m args below meth c D A 0 0 Q 7 24 (wl_X9_readsLand cA b m_latest (q.2.2.2.1) (q.2.2.2.2.1) m_houses m_bowls m_dogs m_gone m_sights m_drawn m_bytes m_typed (q.2.2.2.2.2)) [(0, .ref (b 0)), (1, .int x1), (2, .int (q.1)), (3, .int (q.2.1)), (4, .int (q.2.2.1))] []) (Sum.elim (fun q : Int32 × Int32 × Int32 × (Nat → Int32) => At p l e rm_X9_readsLand s m args below meth c D A 0 0 Q 7 65 (wl_X9_readsLand cA b m_latest (q.2.1) (q.2.2.1) m_houses m_bowls m_dogs m_gone m_sights m_drawn m_bytes m_typed (q.2.2.2)) [(0, .ref (b 0)), (4, .int (q.1))] []) (Sum.elim (fun q : Int32 × Int32 × Int32 × (Nat → Int32) => At p l e rm_X9_readsLand s m args below meth c D A 0 0 Q 7 125 (wl_X9_readsLand cA b m_latest (q.2.1) (q.2.2.1) m_houses m_bowls m_dogs m_gone m_sights m_drawn m_bytes m_typed (q.2.2.2)) [(0, .ref (b 0)), (4, .int (q.1))] []) (fun q : Int32 × Int32 × Int32 × (Nat → Int32) => At p l e rm_X9_readsLand s m args below meth c D A 0 0 Q 7 162 (wl_X9_readsLand cA b m_latest (q.2.1) (q.2.2.1) m_houses m_bowls m_dogs m_gone m_sights m_drawn m_bytes m_typed (q.2.2.2)) [(0, .ref (b 0)), (1, .int x1), (3, .int (q.1))] []))) r) : At p l e rm_X9_readsLand s m args below meth c D A 0 0 Q 7 156 (wl_X9_readsLand cA b m_latest m_cells m_wide m_houses m_bowls m_dogs m_gone m_sights m_drawn m_bytes m_typed m_cell) [(0, .ref (b 0)), (1, .int x1), (2, .int x2), (3, .int x3), (4, .int x4)] [] := by
  intro H locs ls hP hD hS hl
  have hx := C.1
  have hb := C.2.1
  have hown := C.2.2.2.1
  have hts := C.2.2.2.2.1
  unfold f_X9_readsLand_b156L24 at hf
  refine lv_iinc (pc := 156) (v := (x4 + 1)) (lv' := [(4, .int (x4 + 1)), (0, .ref (b 0)), (1, .int x1), (2, .int x2), (3, .int x3)]) hx hb dX9_readsLand_156 hl (k := 4) rfl rfl (Nat.le_of_ble_eq_true rfl) rfl (fun ls hl => ?_)
  refine lv_goto (pc := 159) (tgt := 24) hx hb dX9_readsLand_159 (by decide) ?_
  have hf := Option.some.inj hf
  subst hf
  exact hK H locs ls hP hD hS (lv_sub hl [1, 2, 3, 4, 0] rfl)
def f_X9_readsLand_b122L24 (m_cells : Int32) (m_wide : Int32) (m_bytes : Nat → Int32) (m_cell : Nat → Int32) (x1 : Int32) (x2 : Int32) (x3 : Int32) (x4 : Int32) (x6 : Int32) (s0 : Int32) (s1 : Int32) : Option ((Int32 × Int32 × Int32 × Int32 × Int32 × (Nat → Int32)) ⊕ ((Int32 × Int32 × Int32 × (Nat → Int32)) ⊕ ((Int32 × Int32 × Int32 × (Nat → Int32)) ⊕ (Int32 × Int32 × Int32 × (Nat → Int32))))) :=
  if s1 = s0 then (some (.inr (.inr (.inl (x4, m_cells, m_wide, m_cell))))) else (gd (inb m_cells 36) (letv ((m_cells + (1 : Int32))) (fun v4 => f_X9_readsLand_b156L24 v4 m_wide m_bytes (upd m_cell m_cells.toNatClampNeg x6) x1 x2 (x3 + 1) x4)))
set_option maxHeartbeats 4000000 in
set_option maxRecDepth 100000 in
theorem k_X9_readsLand_b122L24 (C : Cx RX9 cX9_readsLand 7 D cA p s m args c) (hA : ∀ q, s.heap.size ≤ q → A q) (b : Nat → Nat) (m_latest : Int32) (m_cells : Int32) (m_wide : Int32) (m_houses : Int32) (m_bowls : Int32) (m_dogs : Int32) (m_gone : Int32) (m_sights : Int32) (m_drawn : Int32) (m_bytes : Nat → Int32) (m_typed : Nat → Int32) (m_cell : Nat → Int32) (x1 : Int32) (x2 : Int32) (x3 : Int32) (x4 : Int32) (x6 : Int32) (s0 : Int32) (s1 : Int32) (r : (Int32 × Int32 × Int32 × Int32 × Int32 × (Nat → Int32)) ⊕ ((Int32 × Int32 × Int32 × (Nat → Int32)) ⊕ ((Int32 × Int32 × Int32 × (Nat → Int32)) ⊕ (Int32 × Int32 × Int32 × (Nat → Int32))))) (hf : f_X9_readsLand_b122L24 m_cells m_wide m_bytes m_cell x1 x2 x3 x4 x6 s0 s1 = some r) (hK : Sum.elim (fun q : Int32 × Int32 × Int32 × Int32 × Int32 × (Nat → Int32) => At p l e rm_X9_readsLand s m args below meth c D A 0 0 Q 7 24 (wl_X9_readsLand cA b m_latest (q.2.2.2.1) (q.2.2.2.2.1) m_houses m_bowls m_dogs m_gone m_sights m_drawn m_bytes m_typed (q.2.2.2.2.2)) [(0, .ref (b 0)), (1, .int x1), (2, .int (q.1)), (3, .int (q.2.1)), (4, .int (q.2.2.1))] []) (Sum.elim (fun q : Int32 × Int32 × Int32 × (Nat → Int32) => At p l e rm_X9_readsLand s m args below meth c D A 0 0 Q 7 65 (wl_X9_readsLand cA b m_latest (q.2.1) (q.2.2.1) m_houses m_bowls m_dogs m_gone m_sights m_drawn m_bytes m_typed (q.2.2.2)) [(0, .ref (b 0)), (4, .int (q.1))] []) (Sum.elim (fun q : Int32 × Int32 × Int32 × (Nat → Int32) => At p l e rm_X9_readsLand s m args below meth c D A 0 0 Q 7 125 (wl_X9_readsLand cA b m_latest (q.2.1) (q.2.2.1) m_houses m_bowls m_dogs m_gone m_sights m_drawn m_bytes m_typed (q.2.2.2)) [(0, .ref (b 0)), (4, .int (q.1))] []) (fun q : Int32 × Int32 × Int32 × (Nat → Int32) => At p l e rm_X9_readsLand s m args below meth c D A 0 0 Q 7 162 (wl_X9_readsLand cA b m_latest (q.2.1) (q.2.2.1) m_houses m_bowls m_dogs m_gone m_sights m_drawn m_bytes m_typed (q.2.2.2)) [(0, .ref (b 0)), (1, .int x1), (3, .int (q.1))] []))) r) : At p l e rm_X9_readsLand s m args below meth c D A 0 0 Q 7 122 (wl_X9_readsLand cA b m_latest m_cells m_wide m_houses m_bowls m_dogs m_gone m_sights m_drawn m_bytes m_typed m_cell) [(0, .ref (b 0)), (1, .int x1), (2, .int x2), (3, .int x3), (4, .int x4), (6, .int x6)] [.int s0, .int s1] := by
  intro H locs ls hP hD hS hl
  have hx := C.1
  have hb := C.2.1
  have hown := C.2.2.2.1
  have hts := C.2.2.2.2.1
  unfold f_X9_readsLand_b122L24 at hf
  refine lv_icmp_ne (pc := 122) (tgt := 132) hx hb dX9_readsLand_122 (by decide) (fun hc => ?_) (fun hc => ?_)
  · have hf := (if_neg hc).symm.trans hf
    refine lv_aload_n (pc := 132) hx hb dX9_readsLand_132 rfl (lv_at hl 0 rfl) ?_
    refine g_get (pc := 133) C fg_X9_28 hP 0 rfl rfl dX9_readsLand_133 ?_
    refine lv_aload_n (pc := 136) hx hb dX9_readsLand_136 rfl (lv_at hl 0 rfl) ?_
    refine g_get (pc := 137) C fg_X9_94 hP 0 rfl rfl dX9_readsLand_137 ?_
    refine lv_iload (pc := 140) hx hb dX9_readsLand_140 (lv_at hl 5 rfl) ?_
    obtain ⟨hg, hf⟩ := gd_some hf
    refine g_iast (pc := 142) C hP hD hS 3 rfl hg dX9_readsLand_142 (fun H locs hP hD hS => ?_)
    have hP : va_P D classes (wl_X9_readsLand cA b m_latest m_cells m_wide m_houses m_bowls m_dogs m_gone m_sights m_drawn m_bytes m_typed (upd m_cell m_cells.toNatClampNeg x6)) H := hP
    have hD : va_D A (wl_X9_readsLand cA b m_latest m_cells m_wide m_houses m_bowls m_dogs m_gone m_sights m_drawn m_bytes m_typed (upd m_cell m_cells.toNatClampNeg x6)) := hD
    refine lv_aload_n (pc := 143) hx hb dX9_readsLand_143 rfl (lv_at hl 0 rfl) ?_
    refine lv_dup (pc := 144) hx hb dX9_readsLand_144 rfl ?_
    refine g_get (pc := 145) C fg_X9_94 hP 0 rfl rfl dX9_readsLand_145 ?_
    refine lv_iconst (pc := 148) (v := 1) hx hb dX9_readsLand_148 ic_1 ?_
    refine lv_iadd (pc := 149) hx hb dX9_readsLand_149 ?_
    obtain ⟨v4, e_v4, hf⟩ := letv_some hf
    refine tp_i e_v4 ?_
    refine g_put (pc := 150) C fg_X9_94 ft_X9_7 hP hD hS 0 rfl rfl rfl (Nat.le_of_ble_eq_true rfl) dX9_readsLand_150 (fun H locs hP hD hS => ?_)
    have hP : va_P D classes (wl_X9_readsLand cA b m_latest v4 m_wide m_houses m_bowls m_dogs m_gone m_sights m_drawn m_bytes m_typed (upd m_cell m_cells.toNatClampNeg x6)) H := hP
    have hD : va_D A (wl_X9_readsLand cA b m_latest v4 m_wide m_houses m_bowls m_dogs m_gone m_sights m_drawn m_bytes m_typed (upd m_cell m_cells.toNatClampNeg x6)) := hD
    refine lv_iinc (pc := 153) (v := (x3 + 1)) (lv' := [(3, .int (x3 + 1)), (0, .ref (b 0)), (1, .int x1), (2, .int x2), (4, .int x4), (6, .int x6)]) hx hb dX9_readsLand_153 hl (k := 3) rfl rfl (Nat.le_of_ble_eq_true rfl) rfl (fun ls hl => ?_)
    exact k_X9_readsLand_b156L24 C hA b m_latest v4 m_wide m_houses m_bowls m_dogs m_gone m_sights m_drawn m_bytes m_typed (upd m_cell m_cells.toNatClampNeg x6) x1 x2 (x3 + 1) x4 r hf hK H locs ls hP hD hS (lv_sub hl [1, 2, 3, 0, 4] rfl)
  · have hf := (if_pos hc).symm.trans hf
    have hf := Option.some.inj hf
    subst hf
    exact hK H locs ls hP hD hS (lv_sub hl [0, 4] rfl)
def f_X9_readsLand_b72L24 (m_cells : Int32) (m_wide : Int32) (m_bytes : Nat → Int32) (m_cell : Nat → Int32) (x1 : Int32) (x2 : Int32) (x3 : Int32) (x4 : Int32) : Option ((Int32 × Int32 × Int32 × Int32 × Int32 × (Nat → Int32)) ⊕ ((Int32 × Int32 × Int32 × (Nat → Int32)) ⊕ ((Int32 × Int32 × Int32 × (Nat → Int32)) ⊕ (Int32 × Int32 × Int32 × (Nat → Int32))))) :=
  f_X9_readsLand_b156L24 m_cells x3 m_bytes m_cell x1 (x2 + 1) (0 : Int32) x4
set_option maxHeartbeats 4000000 in
set_option maxRecDepth 100000 in
theorem k_X9_readsLand_b72L24 (C : Cx RX9 cX9_readsLand 7 D cA p s m args c) (hA : ∀ q, s.heap.size ≤ q → A q) (b : Nat → Nat) (m_latest : Int32) (m_cells : Int32) (m_wide : Int32) (m_houses : Int32) (m_bowls : Int32) (m_dogs : Int32) (m_gone : Int32) (m_sights : Int32) (m_drawn : Int32) (m_bytes : Nat → Int32) (m_typed : Nat → Int32) (m_cell : Nat → Int32) (x1 : Int32) (x2 : Int32) (x3 : Int32) (x4 : Int32) (r : (Int32 × Int32 × Int32 × Int32 × Int32 × (Nat → Int32)) ⊕ ((Int32 × Int32 × Int32 × (Nat → Int32)) ⊕ ((Int32 × Int32 × Int32 × (Nat → Int32)) ⊕ (Int32 × Int32 × Int32 × (Nat → Int32))))) (hf : f_X9_readsLand_b72L24 m_cells m_wide m_bytes m_cell x1 x2 x3 x4 = some r) (hK : Sum.elim (fun q : Int32 × Int32 × Int32 × Int32 × Int32 × (Nat → Int32) => At p l e rm_X9_readsLand s m args below meth c D A 0 0 Q 7 24 (wl_X9_readsLand cA b m_latest (q.2.2.2.1) (q.2.2.2.2.1) m_houses m_bowls m_dogs m_gone m_sights m_drawn m_bytes m_typed (q.2.2.2.2.2)) [(0, .ref (b 0)), (1, .int x1), (2, .int (q.1)), (3, .int (q.2.1)), (4, .int (q.2.2.1))] []) (Sum.elim (fun q : Int32 × Int32 × Int32 × (Nat → Int32) => At p l e rm_X9_readsLand s m args below meth c D A 0 0 Q 7 65 (wl_X9_readsLand cA b m_latest (q.2.1) (q.2.2.1) m_houses m_bowls m_dogs m_gone m_sights m_drawn m_bytes m_typed (q.2.2.2)) [(0, .ref (b 0)), (4, .int (q.1))] []) (Sum.elim (fun q : Int32 × Int32 × Int32 × (Nat → Int32) => At p l e rm_X9_readsLand s m args below meth c D A 0 0 Q 7 125 (wl_X9_readsLand cA b m_latest (q.2.1) (q.2.2.1) m_houses m_bowls m_dogs m_gone m_sights m_drawn m_bytes m_typed (q.2.2.2)) [(0, .ref (b 0)), (4, .int (q.1))] []) (fun q : Int32 × Int32 × Int32 × (Nat → Int32) => At p l e rm_X9_readsLand s m args below meth c D A 0 0 Q 7 162 (wl_X9_readsLand cA b m_latest (q.2.1) (q.2.2.1) m_houses m_bowls m_dogs m_gone m_sights m_drawn m_bytes m_typed (q.2.2.2)) [(0, .ref (b 0)), (1, .int x1), (3, .int (q.1))] []))) r) : At p l e rm_X9_readsLand s m args below meth c D A 0 0 Q 7 72 (wl_X9_readsLand cA b m_latest m_cells m_wide m_houses m_bowls m_dogs m_gone m_sights m_drawn m_bytes m_typed m_cell) [(0, .ref (b 0)), (1, .int x1), (2, .int x2), (3, .int x3), (4, .int x4)] [] := by
  intro H locs ls hP hD hS hl
  have hx := C.1
  have hb := C.2.1
  have hown := C.2.2.2.1
  have hts := C.2.2.2.2.1
  unfold f_X9_readsLand_b72L24 at hf
  refine lv_aload_n (pc := 72) hx hb dX9_readsLand_72 rfl (lv_at hl 0 rfl) ?_
  refine lv_iload_n (pc := 73) hx hb dX9_readsLand_73 rfl (lv_at hl 3 rfl) ?_
  refine g_put (pc := 74) C fg_X9_97 ft_X9_8 hP hD hS 0 rfl rfl rfl (Nat.le_of_ble_eq_true rfl) dX9_readsLand_74 (fun H locs hP hD hS => ?_)
  have hP : va_P D classes (wl_X9_readsLand cA b m_latest m_cells x3 m_houses m_bowls m_dogs m_gone m_sights m_drawn m_bytes m_typed m_cell) H := hP
  have hD : va_D A (wl_X9_readsLand cA b m_latest m_cells x3 m_houses m_bowls m_dogs m_gone m_sights m_drawn m_bytes m_typed m_cell) := hD
  refine lv_iconst (pc := 77) (v := 0) hx hb dX9_readsLand_77 ic_0 ?_
  refine lv_istore_n (pc := 78) (lv' := [(3, .int (0 : Int32)), (0, .ref (b 0)), (1, .int x1), (2, .int x2), (4, .int x4)]) hx hb dX9_readsLand_78 rfl hl (Nat.le_of_ble_eq_true rfl) rfl (fun ls hl => ?_)
  refine lv_iinc (pc := 79) (v := (x2 + 1)) (lv' := [(2, .int (x2 + 1)), (3, .int (0 : Int32)), (0, .ref (b 0)), (1, .int x1), (4, .int x4)]) hx hb dX9_readsLand_79 hl (k := 3) rfl rfl (Nat.le_of_ble_eq_true rfl) rfl (fun ls hl => ?_)
  refine lv_goto (pc := 82) (tgt := 156) hx hb dX9_readsLand_82 (by decide) ?_
  exact k_X9_readsLand_b156L24 C hA b m_latest m_cells x3 m_houses m_bowls m_dogs m_gone m_sights m_drawn m_bytes m_typed m_cell x1 (x2 + 1) (0 : Int32) x4 r hf hK H locs ls hP hD hS (lv_sub hl [2, 3, 0, 1, 4] rfl)
def f_X9_readsLand_L24 (m_bytes : Nat → Int32) (x1 : Int32) (x2 : Int32) (x3 : Int32) (x4 : Int32) (m_cells : Int32) (m_wide : Int32) (m_cell : Nat → Int32) : Option ((Int32 × Int32 × Int32 × Int32 × Int32 × (Nat → Int32)) ⊕ ((Int32 × Int32 × Int32 × (Nat → Int32)) ⊕ ((Int32 × Int32 × Int32 × (Nat → Int32)) ⊕ (Int32 × Int32 × Int32 × (Nat → Int32))))) :=
  if x1 ≤ x4 then (some (.inr (.inr (.inr (x3, m_cells, m_wide, m_cell))))) else (gd (inb x4 84) (letv ((m_bytes x4.toNatClampNeg)) (fun v2 => if v2 = (59 : Int32) then (if x3 = 0 then (some (.inr (.inl (x4, m_cells, m_wide, m_cell)))) else (if m_wide ≤ 0 then (f_X9_readsLand_b72L24 m_cells m_wide m_bytes m_cell x1 x2 x3 x4) else (if m_wide ≤ x3 then (f_X9_readsLand_b72L24 m_cells m_wide m_bytes m_cell x1 x2 x3 x4) else (some (.inr (.inl (x4, m_cells, m_wide, m_cell))))))) else (bind1 (f_X9_cellOf v2) (fun r3 => if r3 = (-9 : Int32) then (some (.inr (.inr (.inl (x4, m_cells, m_wide, m_cell))))) else (if x2 = (6 : Int32) then (some (.inr (.inr (.inl (x4, m_cells, m_wide, m_cell))))) else (if m_wide = 0 then (f_X9_readsLand_b122L24 m_cells m_wide m_bytes m_cell x1 x2 x3 x4 r3 (6 : Int32) x3) else (f_X9_readsLand_b122L24 m_cells m_wide m_bytes m_cell x1 x2 x3 x4 r3 m_wide x3))))))))
set_option maxHeartbeats 4000000 in
set_option maxRecDepth 100000 in
theorem k_X9_readsLand_L24 (C : Cx RX9 cX9_readsLand 7 D cA p s m args c) (hA : ∀ q, s.heap.size ≤ q → A q) (b : Nat → Nat) (m_latest : Int32) (m_houses : Int32) (m_bowls : Int32) (m_dogs : Int32) (m_gone : Int32) (m_sights : Int32) (m_drawn : Int32) (m_bytes : Nat → Int32) (m_typed : Nat → Int32) (x1 : Int32) (x2 : Int32) (x3 : Int32) (x4 : Int32) (m_cells : Int32) (m_wide : Int32) (m_cell : Nat → Int32) (r : (Int32 × Int32 × Int32 × Int32 × Int32 × (Nat → Int32)) ⊕ ((Int32 × Int32 × Int32 × (Nat → Int32)) ⊕ ((Int32 × Int32 × Int32 × (Nat → Int32)) ⊕ (Int32 × Int32 × Int32 × (Nat → Int32))))) (hf : f_X9_readsLand_L24 m_bytes x1 x2 x3 x4 m_cells m_wide m_cell = some r) (hK : Sum.elim (fun q : Int32 × Int32 × Int32 × Int32 × Int32 × (Nat → Int32) => At p l e rm_X9_readsLand s m args below meth c D A 0 0 Q 7 24 (wl_X9_readsLand cA b m_latest (q.2.2.2.1) (q.2.2.2.2.1) m_houses m_bowls m_dogs m_gone m_sights m_drawn m_bytes m_typed (q.2.2.2.2.2)) [(0, .ref (b 0)), (1, .int x1), (2, .int (q.1)), (3, .int (q.2.1)), (4, .int (q.2.2.1))] []) (Sum.elim (fun q : Int32 × Int32 × Int32 × (Nat → Int32) => At p l e rm_X9_readsLand s m args below meth c D A 0 0 Q 7 65 (wl_X9_readsLand cA b m_latest (q.2.1) (q.2.2.1) m_houses m_bowls m_dogs m_gone m_sights m_drawn m_bytes m_typed (q.2.2.2)) [(0, .ref (b 0)), (4, .int (q.1))] []) (Sum.elim (fun q : Int32 × Int32 × Int32 × (Nat → Int32) => At p l e rm_X9_readsLand s m args below meth c D A 0 0 Q 7 125 (wl_X9_readsLand cA b m_latest (q.2.1) (q.2.2.1) m_houses m_bowls m_dogs m_gone m_sights m_drawn m_bytes m_typed (q.2.2.2)) [(0, .ref (b 0)), (4, .int (q.1))] []) (fun q : Int32 × Int32 × Int32 × (Nat → Int32) => At p l e rm_X9_readsLand s m args below meth c D A 0 0 Q 7 162 (wl_X9_readsLand cA b m_latest (q.2.1) (q.2.2.1) m_houses m_bowls m_dogs m_gone m_sights m_drawn m_bytes m_typed (q.2.2.2)) [(0, .ref (b 0)), (1, .int x1), (3, .int (q.1))] []))) r) : At p l e rm_X9_readsLand s m args below meth c D A 0 0 Q 7 24 (wl_X9_readsLand cA b m_latest m_cells m_wide m_houses m_bowls m_dogs m_gone m_sights m_drawn m_bytes m_typed m_cell) [(0, .ref (b 0)), (1, .int x1), (2, .int x2), (3, .int x3), (4, .int x4)] [] := by
  intro H locs ls hP hD hS hl
  have hx := C.1
  have hb := C.2.1
  have hown := C.2.2.2.1
  have hts := C.2.2.2.2.1
  unfold f_X9_readsLand_L24 at hf
  refine lv_iload (pc := 24) hx hb dX9_readsLand_24 (lv_at hl 4 rfl) ?_
  refine lv_iload_n (pc := 26) hx hb dX9_readsLand_26 rfl (lv_at hl 1 rfl) ?_
  refine lv_icmp_ge (pc := 27) (tgt := 162) hx hb dX9_readsLand_27 (by decide) (fun hc => ?_) (fun hc => ?_)
  · have hf := (if_pos hc).symm.trans hf
    have hf := Option.some.inj hf
    subst hf
    exact hK H locs ls hP hD hS (lv_sub hl [0, 1, 3] rfl)
  · have hf := (if_neg hc).symm.trans hf
    refine lv_aload_n (pc := 30) hx hb dX9_readsLand_30 rfl (lv_at hl 0 rfl) ?_
    refine g_get (pc := 31) C fg_X9_22 hP 0 rfl rfl dX9_readsLand_31 ?_
    refine lv_iload (pc := 34) hx hb dX9_readsLand_34 (lv_at hl 4 rfl) ?_
    obtain ⟨hg, hf⟩ := gd_some hf
    refine g_iald (pc := 36) C hP 1 rfl hg dX9_readsLand_36 ?_
    obtain ⟨v2, e_v2, hf⟩ := letv_some hf
    refine tp_i e_v2 ?_
    refine lv_istore (pc := 37) (lv' := [(5, .int v2), (0, .ref (b 0)), (1, .int x1), (2, .int x2), (3, .int x3), (4, .int x4)]) hx hb dX9_readsLand_37 hl (Nat.le_of_ble_eq_true rfl) rfl (fun ls hl => ?_)
    refine lv_iload (pc := 39) hx hb dX9_readsLand_39 (lv_at hl 0 rfl) ?_
    refine lv_bipush (pc := 41) (v := 59) hx hb dX9_readsLand_41 bp_59 ?_
    refine lv_icmp_ne (pc := 43) (tgt := 85) hx hb dX9_readsLand_43 (by decide) (fun hc => ?_) (fun hc => ?_)
    · have hf := (if_neg hc).symm.trans hf
      refine lv_iload (pc := 85) hx hb dX9_readsLand_85 (lv_at hl 0 rfl) ?_
      obtain ⟨r3, hq, hf⟩ := bind1_some hf
      refine fin2_i (wl_X9_readsLand cA b m_latest m_cells m_wide m_houses m_bowls m_dogs m_gone m_sights m_drawn m_bytes m_typed m_cell) (run_S (rest := []) (pc := 87) (As := [.int v2]) C mf_X9_103 (c_X9_cellOf l D cA  v2 r3 hq H.size) rfl rfl ⟨(Nat.le_of_ble_eq_true rfl), (Nat.le_of_ble_eq_true rfl)⟩ (preS_of C hP hD [] rfl (pl_nd pv_25)) rfl hl.1 rfl (Nat.le_of_ble_eq_true rfl) dX9_readsLand_87 ⟨Nat.zero_le _, Nat.zero_le _⟩) hP hD hS hA [] [0, 1, 2, 3] rfl rfl rfl rfl pv_25 (fun H locs hP hS => ?_)
      refine lv_istore (pc := 90) (lv' := [(6, .int r3), (5, .int v2), (0, .ref (b 0)), (1, .int x1), (2, .int x2), (3, .int x3), (4, .int x4)]) hx hb dX9_readsLand_90 hl (Nat.le_of_ble_eq_true rfl) rfl (fun ls hl => ?_)
      refine lv_iload (pc := 92) hx hb dX9_readsLand_92 (lv_at hl 0 rfl) ?_
      refine lv_bipush (pc := 94) (v := (-9)) hx hb dX9_readsLand_94 bp_m9 ?_
      refine lv_icmp_eq (pc := 96) (tgt := 125) hx hb dX9_readsLand_96 (by decide) (fun hc => ?_) (fun hc => ?_)
      · have hf := (if_pos hc).symm.trans hf
        have hf := Option.some.inj hf
        subst hf
        exact hK H locs ls hP hD hS (lv_sub hl [2, 6] rfl)
      · have hf := (if_neg hc).symm.trans hf
        refine lv_iload_n (pc := 99) hx hb dX9_readsLand_99 rfl (lv_at hl 4 rfl) ?_
        refine lv_bipush (pc := 100) (v := 6) hx hb dX9_readsLand_100 bp_6 ?_
        refine lv_icmp_eq (pc := 102) (tgt := 125) hx hb dX9_readsLand_102 (by decide) (fun hc => ?_) (fun hc => ?_)
        · have hf := (if_pos hc).symm.trans hf
          have hf := Option.some.inj hf
          subst hf
          exact hK H locs ls hP hD hS (lv_sub hl [2, 6] rfl)
        · have hf := (if_neg hc).symm.trans hf
          refine lv_iload_n (pc := 105) hx hb dX9_readsLand_105 rfl (lv_at hl 5 rfl) ?_
          refine lv_aload_n (pc := 106) hx hb dX9_readsLand_106 rfl (lv_at hl 2 rfl) ?_
          refine g_get (pc := 107) C fg_X9_97 hP 0 rfl rfl dX9_readsLand_107 ?_
          refine lv_if_ne (pc := 110) (tgt := 118) hx hb dX9_readsLand_110 (by decide) (fun hc => ?_) (fun hc => ?_)
          · have hf := (if_neg hc).symm.trans hf
            refine lv_aload_n (pc := 118) hx hb dX9_readsLand_118 rfl (lv_at hl 2 rfl) ?_
            refine g_get (pc := 119) C fg_X9_97 hP 0 rfl rfl dX9_readsLand_119 ?_
            exact k_X9_readsLand_b122L24 C hA b m_latest m_cells m_wide m_houses m_bowls m_dogs m_gone m_sights m_drawn m_bytes m_typed m_cell x1 x2 x3 x4 r3 m_wide x3 r hf hK H locs ls hP hD hS (lv_sub hl [2, 3, 4, 5, 6, 0] rfl)
          · have hf := (if_pos hc).symm.trans hf
            refine lv_bipush (pc := 113) (v := 6) hx hb dX9_readsLand_113 bp_6 ?_
            refine lv_goto (pc := 115) (tgt := 122) hx hb dX9_readsLand_115 (by decide) ?_
            exact k_X9_readsLand_b122L24 C hA b m_latest m_cells m_wide m_houses m_bowls m_dogs m_gone m_sights m_drawn m_bytes m_typed m_cell x1 x2 x3 x4 r3 (6 : Int32) x3 r hf hK H locs ls hP hD hS (lv_sub hl [2, 3, 4, 5, 6, 0] rfl)
    · have hf := (if_pos hc).symm.trans hf
      refine lv_iload_n (pc := 46) hx hb dX9_readsLand_46 rfl (lv_at hl 4 rfl) ?_
      refine lv_if_eq (pc := 47) (tgt := 65) hx hb dX9_readsLand_47 (by decide) (fun hc => ?_) (fun hc => ?_)
      · have hf := (if_pos hc).symm.trans hf
        have hf := Option.some.inj hf
        subst hf
        exact hK H locs ls hP hD hS (lv_sub hl [1, 5] rfl)
      · have hf := (if_neg hc).symm.trans hf
        refine lv_aload_n (pc := 50) hx hb dX9_readsLand_50 rfl (lv_at hl 1 rfl) ?_
        refine g_get (pc := 51) C fg_X9_97 hP 0 rfl rfl dX9_readsLand_51 ?_
        refine lv_if_le (pc := 54) (tgt := 72) hx hb dX9_readsLand_54 (by decide) (fun hc => ?_) (fun hc => ?_)
        · have hf := (if_pos hc).symm.trans hf
          exact k_X9_readsLand_b72L24 C hA b m_latest m_cells m_wide m_houses m_bowls m_dogs m_gone m_sights m_drawn m_bytes m_typed m_cell x1 x2 x3 x4 r hf hK H locs ls hP hD hS (lv_sub hl [1, 2, 3, 4, 5] rfl)
        · have hf := (if_neg hc).symm.trans hf
          refine lv_iload_n (pc := 57) hx hb dX9_readsLand_57 rfl (lv_at hl 4 rfl) ?_
          refine lv_aload_n (pc := 58) hx hb dX9_readsLand_58 rfl (lv_at hl 1 rfl) ?_
          refine g_get (pc := 59) C fg_X9_97 hP 0 rfl rfl dX9_readsLand_59 ?_
          refine lv_icmp_ge (pc := 62) (tgt := 72) hx hb dX9_readsLand_62 (by decide) (fun hc => ?_) (fun hc => ?_)
          · have hf := (if_pos hc).symm.trans hf
            exact k_X9_readsLand_b72L24 C hA b m_latest m_cells m_wide m_houses m_bowls m_dogs m_gone m_sights m_drawn m_bytes m_typed m_cell x1 x2 x3 x4 r hf hK H locs ls hP hD hS (lv_sub hl [1, 2, 3, 4, 5] rfl)
          · have hf := (if_neg hc).symm.trans hf
            have hf := Option.some.inj hf
            subst hf
            exact hK H locs ls hP hD hS (lv_sub hl [1, 5] rfl)
theorem kl_X9_readsLand_L24 (C : Cx RX9 cX9_readsLand 7 D cA p s m args c) (hA : ∀ q, s.heap.size ≤ q → A q) (b : Nat → Nat) (m_latest : Int32) (m_houses : Int32) (m_bowls : Int32) (m_dogs : Int32) (m_gone : Int32) (m_sights : Int32) (m_drawn : Int32) (m_bytes : Nat → Int32) (m_typed : Nat → Int32) (x1 : Int32) : ∀ (n : Nat) (q : Int32 × Int32 × Int32 × Int32 × Int32 × (Nat → Int32)) (z : ((Int32 × Int32 × Int32 × (Nat → Int32)) ⊕ ((Int32 × Int32 × Int32 × (Nat → Int32)) ⊕ (Int32 × Int32 × Int32 × (Nat → Int32))))), loopF (fun q : Int32 × Int32 × Int32 × Int32 × Int32 × (Nat → Int32) => f_X9_readsLand_L24 m_bytes x1 q.1 q.2.1 q.2.2.1 q.2.2.2.1 q.2.2.2.2.1 q.2.2.2.2.2) n q = some z → (Sum.elim (fun q : Int32 × Int32 × Int32 × (Nat → Int32) => At p l e rm_X9_readsLand s m args below meth c D A 0 0 Q 7 65 (wl_X9_readsLand cA b m_latest (q.2.1) (q.2.2.1) m_houses m_bowls m_dogs m_gone m_sights m_drawn m_bytes m_typed (q.2.2.2)) [(0, .ref (b 0)), (4, .int (q.1))] []) (Sum.elim (fun q : Int32 × Int32 × Int32 × (Nat → Int32) => At p l e rm_X9_readsLand s m args below meth c D A 0 0 Q 7 125 (wl_X9_readsLand cA b m_latest (q.2.1) (q.2.2.1) m_houses m_bowls m_dogs m_gone m_sights m_drawn m_bytes m_typed (q.2.2.2)) [(0, .ref (b 0)), (4, .int (q.1))] []) (fun q : Int32 × Int32 × Int32 × (Nat → Int32) => At p l e rm_X9_readsLand s m args below meth c D A 0 0 Q 7 162 (wl_X9_readsLand cA b m_latest (q.2.1) (q.2.2.1) m_houses m_bowls m_dogs m_gone m_sights m_drawn m_bytes m_typed (q.2.2.2)) [(0, .ref (b 0)), (1, .int x1), (3, .int (q.1))] []))) z → At p l e rm_X9_readsLand s m args below meth c D A 0 0 Q 7 24 (wl_X9_readsLand cA b m_latest (q.2.2.2.1) (q.2.2.2.2.1) m_houses m_bowls m_dogs m_gone m_sights m_drawn m_bytes m_typed (q.2.2.2.2.2)) [(0, .ref (b 0)), (1, .int x1), (2, .int (q.1)), (3, .int (q.2.1)), (4, .int (q.2.2.1))] [] :=
  loop_lem (WP := fun q : Int32 × Int32 × Int32 × Int32 × Int32 × (Nat → Int32) => At p l e rm_X9_readsLand s m args below meth c D A 0 0 Q 7 24 (wl_X9_readsLand cA b m_latest (q.2.2.2.1) (q.2.2.2.2.1) m_houses m_bowls m_dogs m_gone m_sights m_drawn m_bytes m_typed (q.2.2.2.2.2)) [(0, .ref (b 0)), (1, .int x1), (2, .int (q.1)), (3, .int (q.2.1)), (4, .int (q.2.2.1))] []) (WE := (Sum.elim (fun q : Int32 × Int32 × Int32 × (Nat → Int32) => At p l e rm_X9_readsLand s m args below meth c D A 0 0 Q 7 65 (wl_X9_readsLand cA b m_latest (q.2.1) (q.2.2.1) m_houses m_bowls m_dogs m_gone m_sights m_drawn m_bytes m_typed (q.2.2.2)) [(0, .ref (b 0)), (4, .int (q.1))] []) (Sum.elim (fun q : Int32 × Int32 × Int32 × (Nat → Int32) => At p l e rm_X9_readsLand s m args below meth c D A 0 0 Q 7 125 (wl_X9_readsLand cA b m_latest (q.2.1) (q.2.2.1) m_houses m_bowls m_dogs m_gone m_sights m_drawn m_bytes m_typed (q.2.2.2)) [(0, .ref (b 0)), (4, .int (q.1))] []) (fun q : Int32 × Int32 × Int32 × (Nat → Int32) => At p l e rm_X9_readsLand s m args below meth c D A 0 0 Q 7 162 (wl_X9_readsLand cA b m_latest (q.2.1) (q.2.2.1) m_houses m_bowls m_dogs m_gone m_sights m_drawn m_bytes m_typed (q.2.2.2)) [(0, .ref (b 0)), (1, .int x1), (3, .int (q.1))] [])))) (fun q r hf hK => k_X9_readsLand_L24 C hA b m_latest m_houses m_bowls m_dogs m_gone m_sights m_drawn m_bytes m_typed x1 q.1 q.2.1 q.2.2.1 q.2.2.2.1 q.2.2.2.2.1 q.2.2.2.2.2 r hf hK)
def f_X9_readsLand_b194 (m_cells : Int32) (m_wide : Int32) (m_bytes : Nat → Int32) (m_typed : Nat → Int32) (m_cell : Nat → Int32) (s0 : Int32) : Option (Int32 × Int32 × Int32 × (Nat → Int32)) :=
  some ((-1 : Int32), m_cells, s0, m_cell)
set_option maxHeartbeats 4000000 in
set_option maxRecDepth 100000 in
theorem k_X9_readsLand_b194 (C : Cx RX9 cX9_readsLand 7 D cA p s m args c) (hr : meth.sig.returnType = (some .int)) (hlk : meth.locks = false) (hA : ∀ q, s.heap.size ≤ q → va_A ws0 sz q) (b : Nat → Nat) (m_latest : Int32) (m_cells : Int32) (m_wide : Int32) (m_houses : Int32) (m_bowls : Int32) (m_dogs : Int32) (m_gone : Int32) (m_sights : Int32) (m_drawn : Int32) (m_bytes : Nat → Int32) (m_typed : Nat → Int32) (m_cell : Nat → Int32) (s0 : Int32) (r : Int32 × Int32 × Int32 × (Nat → Int32)) (hf : f_X9_readsLand_b194 m_cells m_wide m_bytes m_typed m_cell s0 = some r) : At p l e rm_X9_readsLand s m args below meth c D (va_A ws0 sz) 0 0 (MQ below (PostI D r.1 ws0 (wl_X9_readsLand cA b m_latest (r.2.1) (r.2.2.1) m_houses m_bowls m_dogs m_gone m_sights m_drawn m_bytes m_typed (r.2.2.2)) sz) args s 0 0 (va_A ws0 sz)) 7 194 (wl_X9_readsLand cA b m_latest m_cells m_wide m_houses m_bowls m_dogs m_gone m_sights m_drawn m_bytes m_typed m_cell) [] [.int s0, .ref (b 0)] := by
  intro H locs ls hP hD hS hl
  have hx := C.1
  have hb := C.2.1
  have hown := C.2.2.2.1
  have hts := C.2.2.2.2.1
  unfold f_X9_readsLand_b194 at hf
  refine g_put (pc := 194) C fg_X9_97 ft_X9_8 hP hD hS 0 rfl rfl rfl (Nat.le_of_ble_eq_true rfl) dX9_readsLand_194 (fun H locs hP hD hS => ?_)
  have hP : va_P D classes (wl_X9_readsLand cA b m_latest m_cells s0 m_houses m_bowls m_dogs m_gone m_sights m_drawn m_bytes m_typed m_cell) H := hP
  have hD : va_D (va_A ws0 sz) (wl_X9_readsLand cA b m_latest m_cells s0 m_houses m_bowls m_dogs m_gone m_sights m_drawn m_bytes m_typed m_cell) := hD
  refine lv_iconst (pc := 197) (v := (-1)) hx hb dX9_readsLand_197 ic_m1 ?_
  have hf := Option.some.inj hf
  subst hf
  exact ret_i C hr hlk hP hS dX9_readsLand_198
def f_X9_readsLand_b184 (m_cells : Int32) (m_wide : Int32) (m_bytes : Nat → Int32) (m_typed : Nat → Int32) (m_cell : Nat → Int32) (x1 : Int32) (x3 : Int32) : Option (Int32 × Int32 × Int32 × (Nat → Int32)) :=
  if x1 ≤ 0 then (f_X9_readsLand_b194 m_cells m_wide m_bytes m_typed m_cell (0 : Int32)) else (f_X9_readsLand_b194 m_cells m_wide m_bytes m_typed m_cell x3)
set_option maxHeartbeats 4000000 in
set_option maxRecDepth 100000 in
theorem k_X9_readsLand_b184 (C : Cx RX9 cX9_readsLand 7 D cA p s m args c) (hr : meth.sig.returnType = (some .int)) (hlk : meth.locks = false) (hA : ∀ q, s.heap.size ≤ q → va_A ws0 sz q) (b : Nat → Nat) (m_latest : Int32) (m_cells : Int32) (m_wide : Int32) (m_houses : Int32) (m_bowls : Int32) (m_dogs : Int32) (m_gone : Int32) (m_sights : Int32) (m_drawn : Int32) (m_bytes : Nat → Int32) (m_typed : Nat → Int32) (m_cell : Nat → Int32) (x1 : Int32) (x3 : Int32) (r : Int32 × Int32 × Int32 × (Nat → Int32)) (hf : f_X9_readsLand_b184 m_cells m_wide m_bytes m_typed m_cell x1 x3 = some r) : At p l e rm_X9_readsLand s m args below meth c D (va_A ws0 sz) 0 0 (MQ below (PostI D r.1 ws0 (wl_X9_readsLand cA b m_latest (r.2.1) (r.2.2.1) m_houses m_bowls m_dogs m_gone m_sights m_drawn m_bytes m_typed (r.2.2.2)) sz) args s 0 0 (va_A ws0 sz)) 7 184 (wl_X9_readsLand cA b m_latest m_cells m_wide m_houses m_bowls m_dogs m_gone m_sights m_drawn m_bytes m_typed m_cell) [(0, .ref (b 0)), (1, .int x1), (3, .int x3)] [] := by
  intro H locs ls hP hD hS hl
  have hx := C.1
  have hb := C.2.1
  have hown := C.2.2.2.1
  have hts := C.2.2.2.2.1
  unfold f_X9_readsLand_b184 at hf
  refine lv_aload_n (pc := 184) hx hb dX9_readsLand_184 rfl (lv_at hl 0 rfl) ?_
  refine lv_iload_n (pc := 185) hx hb dX9_readsLand_185 rfl (lv_at hl 1 rfl) ?_
  refine lv_if_le (pc := 186) (tgt := 193) hx hb dX9_readsLand_186 (by decide) (fun hc => ?_) (fun hc => ?_)
  · have hf := (if_pos hc).symm.trans hf
    refine lv_iconst (pc := 193) (v := 0) hx hb dX9_readsLand_193 ic_0 ?_
    exact k_X9_readsLand_b194 C hr hlk hA b m_latest m_cells m_wide m_houses m_bowls m_dogs m_gone m_sights m_drawn m_bytes m_typed m_cell (0 : Int32) r hf H locs ls hP hD hS (lv_sub hl [] rfl)
  · have hf := (if_neg hc).symm.trans hf
    refine lv_iload_n (pc := 189) hx hb dX9_readsLand_189 rfl (lv_at hl 2 rfl) ?_
    refine lv_goto (pc := 190) (tgt := 194) hx hb dX9_readsLand_190 (by decide) ?_
    exact k_X9_readsLand_b194 C hr hlk hA b m_latest m_cells m_wide m_houses m_bowls m_dogs m_gone m_sights m_drawn m_bytes m_typed m_cell x3 r hf H locs ls hP hD hS (lv_sub hl [] rfl)
def f_X9_readsLand_b178 (m_cells : Int32) (m_wide : Int32) (m_bytes : Nat → Int32) (m_typed : Nat → Int32) (m_cell : Nat → Int32) (x1 : Int32) : Option (Int32 × Int32 × Int32 × (Nat → Int32)) :=
  bind3 (f_X9_torn m_cells m_wide x1) (fun r23 c24 c25 => some (r23, c24, c25, m_cell))
set_option maxHeartbeats 4000000 in
set_option maxRecDepth 100000 in
theorem k_X9_readsLand_b178 (C : Cx RX9 cX9_readsLand 7 D cA p s m args c) (hr : meth.sig.returnType = (some .int)) (hlk : meth.locks = false) (hA : ∀ q, s.heap.size ≤ q → va_A ws0 sz q) (b : Nat → Nat) (m_latest : Int32) (m_cells : Int32) (m_wide : Int32) (m_houses : Int32) (m_bowls : Int32) (m_dogs : Int32) (m_gone : Int32) (m_sights : Int32) (m_drawn : Int32) (m_bytes : Nat → Int32) (m_typed : Nat → Int32) (m_cell : Nat → Int32) (x1 : Int32) (r : Int32 × Int32 × Int32 × (Nat → Int32)) (hf : f_X9_readsLand_b178 m_cells m_wide m_bytes m_typed m_cell x1 = some r) : At p l e rm_X9_readsLand s m args below meth c D (va_A ws0 sz) 0 0 (MQ below (PostI D r.1 ws0 (wl_X9_readsLand cA b m_latest (r.2.1) (r.2.2.1) m_houses m_bowls m_dogs m_gone m_sights m_drawn m_bytes m_typed (r.2.2.2)) sz) args s 0 0 (va_A ws0 sz)) 7 178 (wl_X9_readsLand cA b m_latest m_cells m_wide m_houses m_bowls m_dogs m_gone m_sights m_drawn m_bytes m_typed m_cell) [(0, .ref (b 0)), (1, .int x1)] [] := by
  intro H locs ls hP hD hS hl
  have hx := C.1
  have hb := C.2.1
  have hown := C.2.2.2.1
  have hts := C.2.2.2.2.1
  unfold f_X9_readsLand_b178 at hf
  refine lv_aload_n (pc := 178) hx hb dX9_readsLand_178 rfl (lv_at hl 0 rfl) ?_
  refine lv_iload_n (pc := 179) hx hb dX9_readsLand_179 rfl (lv_at hl 1 rfl) ?_
  obtain ⟨r23, c24, c25, hq, hf⟩ := bind3_some hf
  refine fin2_i (wl_X9_readsLand cA b m_latest c24 c25 m_houses m_bowls m_dogs m_gone m_sights m_drawn m_bytes m_typed m_cell) (run_V (rest := []) (pc := 180) (As := [.int x1]) C mf_X9_100 (c_X9_torn l D cA b m_latest m_cells m_wide m_houses m_bowls m_dogs m_gone m_sights m_drawn x1 (r23, c24, c25) hq H.size) rfl rfl ⟨(Nat.le_of_ble_eq_true rfl), (Nat.le_of_ble_eq_true rfl)⟩ (preV_of C hP hD [0] rfl (pl_nd pv_119) 0 rfl rfl rfl) rfl hl.1 rfl (Nat.le_of_ble_eq_true rfl) dX9_readsLand_180 ⟨Nat.zero_le _, Nat.zero_le _⟩) hP hD hS hA [0] [1, 2, 3] rfl rfl rfl rfl pv_119 (fun H locs hP hS => ?_)
  have hD : va_D (va_A ws0 sz) (wl_X9_readsLand cA b m_latest c24 c25 m_houses m_bowls m_dogs m_gone m_sights m_drawn m_bytes m_typed m_cell) := vd_a hD rfl
  have hf := Option.some.inj hf
  subst hf
  exact ret_i C hr hlk hP hS dX9_readsLand_183
def f_X9_readsLand (m_cells : Int32) (m_wide : Int32) (m_bytes : Nat → Int32) (m_typed : Nat → Int32) (m_cell : Nat → Int32) : Option (Int32 × Int32 × Int32 × (Nat → Int32)) :=
  letv ((m_typed (0 : Int32).toNatClampNeg)) (fun v1 => bindS3 (loopF (fun q : Int32 × Int32 × Int32 × Int32 × Int32 × (Nat → Int32) => f_X9_readsLand_L24 m_bytes v1 q.1 q.2.1 q.2.2.1 q.2.2.2.1 q.2.2.2.2.1 q.2.2.2.2.2) FU ((0 : Int32), (0 : Int32), (0 : Int32), (0 : Int32), (0 : Int32), m_cell)) (unc4 (fun u5 u6 u7 u8 => bind3 (f_X9_torn u6 u7 u5) (fun r9 c10 c11 => some (r9, c10, c11, u8)))) (unc4 (fun u12 u13 u14 u15 => bind3 (f_X9_torn u13 u14 u12) (fun r16 c17 c18 => some (r16, c17, c18, u15)))) (unc4 (fun u19 u20 u21 u22 => if v1 ≤ 0 then (f_X9_readsLand_b184 u20 u21 m_bytes m_typed u22 v1 u19) else (if u19 = 0 then (f_X9_readsLand_b178 u20 u21 m_bytes m_typed u22 v1) else (if u21 ≤ u19 then (f_X9_readsLand_b184 u20 u21 m_bytes m_typed u22 v1 u19) else (f_X9_readsLand_b178 u20 u21 m_bytes m_typed u22 v1))))))
set_option maxHeartbeats 4000000 in
set_option maxRecDepth 100000 in
theorem k_X9_readsLand (C : Cx RX9 cX9_readsLand 7 D cA p s m args c) (hr : meth.sig.returnType = (some .int)) (hlk : meth.locks = false) (hA : ∀ q, s.heap.size ≤ q → va_A ws0 sz q) (b : Nat → Nat) (m_latest : Int32) (m_cells : Int32) (m_wide : Int32) (m_houses : Int32) (m_bowls : Int32) (m_dogs : Int32) (m_gone : Int32) (m_sights : Int32) (m_drawn : Int32) (m_bytes : Nat → Int32) (m_typed : Nat → Int32) (m_cell : Nat → Int32) (r : Int32 × Int32 × Int32 × (Nat → Int32)) (hf : f_X9_readsLand m_cells m_wide m_bytes m_typed m_cell = some r) : At p l e rm_X9_readsLand s m args below meth c D (va_A ws0 sz) 0 0 (MQ below (PostI D r.1 ws0 (wl_X9_readsLand cA b m_latest (r.2.1) (r.2.2.1) m_houses m_bowls m_dogs m_gone m_sights m_drawn m_bytes m_typed (r.2.2.2)) sz) args s 0 0 (va_A ws0 sz)) 7 0 (wl_X9_readsLand cA b m_latest m_cells m_wide m_houses m_bowls m_dogs m_gone m_sights m_drawn m_bytes m_typed m_cell) [(0, .ref (b 0))] [] := by
  intro H locs ls hP hD hS hl
  have hx := C.1
  have hb := C.2.1
  have hown := C.2.2.2.1
  have hts := C.2.2.2.2.1
  unfold f_X9_readsLand at hf
  refine lv_aload_n (pc := 0) hx hb dX9_readsLand_0 rfl (lv_at hl 0 rfl) ?_
  refine lv_iconst (pc := 1) (v := 0) hx hb dX9_readsLand_1 ic_0 ?_
  refine g_put (pc := 2) C fg_X9_94 ft_X9_7 hP hD hS 0 rfl rfl rfl (Nat.le_of_ble_eq_true rfl) dX9_readsLand_2 (fun H locs hP hD hS => ?_)
  have hP : va_P D classes (wl_X9_readsLand cA b m_latest (0 : Int32) m_wide m_houses m_bowls m_dogs m_gone m_sights m_drawn m_bytes m_typed m_cell) H := hP
  have hD : va_D (va_A ws0 sz) (wl_X9_readsLand cA b m_latest (0 : Int32) m_wide m_houses m_bowls m_dogs m_gone m_sights m_drawn m_bytes m_typed m_cell) := hD
  refine lv_aload_n (pc := 5) hx hb dX9_readsLand_5 rfl (lv_at hl 0 rfl) ?_
  refine lv_iconst (pc := 6) (v := 0) hx hb dX9_readsLand_6 ic_0 ?_
  refine g_put (pc := 7) C fg_X9_97 ft_X9_8 hP hD hS 0 rfl rfl rfl (Nat.le_of_ble_eq_true rfl) dX9_readsLand_7 (fun H locs hP hD hS => ?_)
  have hP : va_P D classes (wl_X9_readsLand cA b m_latest (0 : Int32) (0 : Int32) m_houses m_bowls m_dogs m_gone m_sights m_drawn m_bytes m_typed m_cell) H := hP
  have hD : va_D (va_A ws0 sz) (wl_X9_readsLand cA b m_latest (0 : Int32) (0 : Int32) m_houses m_bowls m_dogs m_gone m_sights m_drawn m_bytes m_typed m_cell) := hD
  refine lv_aload_n (pc := 10) hx hb dX9_readsLand_10 rfl (lv_at hl 0 rfl) ?_
  refine g_get (pc := 11) C fg_X9_25 hP 0 rfl rfl dX9_readsLand_11 ?_
  refine lv_iconst (pc := 14) (v := 0) hx hb dX9_readsLand_14 ic_0 ?_
  refine g_iald (pc := 15) C hP 2 rfl (by decide) dX9_readsLand_15 ?_
  obtain ⟨v1, e_v1, hf⟩ := letv_some hf
  refine tp_i e_v1 ?_
  refine lv_istore_n (pc := 16) (lv' := [(1, .int v1), (0, .ref (b 0))]) hx hb dX9_readsLand_16 rfl hl (Nat.le_of_ble_eq_true rfl) rfl (fun ls hl => ?_)
  refine lv_iconst (pc := 17) (v := 0) hx hb dX9_readsLand_17 ic_0 ?_
  refine lv_istore_n (pc := 18) (lv' := [(2, .int (0 : Int32)), (1, .int v1), (0, .ref (b 0))]) hx hb dX9_readsLand_18 rfl hl (Nat.le_of_ble_eq_true rfl) rfl (fun ls hl => ?_)
  refine lv_iconst (pc := 19) (v := 0) hx hb dX9_readsLand_19 ic_0 ?_
  refine lv_istore_n (pc := 20) (lv' := [(3, .int (0 : Int32)), (2, .int (0 : Int32)), (1, .int v1), (0, .ref (b 0))]) hx hb dX9_readsLand_20 rfl hl (Nat.le_of_ble_eq_true rfl) rfl (fun ls hl => ?_)
  refine lv_iconst (pc := 21) (v := 0) hx hb dX9_readsLand_21 ic_0 ?_
  refine lv_istore (pc := 22) (lv' := [(4, .int (0 : Int32)), (3, .int (0 : Int32)), (2, .int (0 : Int32)), (1, .int v1), (0, .ref (b 0))]) hx hb dX9_readsLand_22 hl (Nat.le_of_ble_eq_true rfl) rfl (fun ls hl => ?_)
  rcases bindS3_some hf with ⟨z, hq, hf⟩ | ⟨z, hq, hf⟩ | ⟨z, hq, hf⟩
  · obtain ⟨u5, u6, u7, u8⟩ := z
    have hf := unc4_some hf
    refine kl_X9_readsLand_L24 C hA b m_latest m_houses m_bowls m_dogs m_gone m_sights m_drawn m_bytes m_typed v1 FU ((0 : Int32), (0 : Int32), (0 : Int32), (0 : Int32), (0 : Int32), m_cell) _ hq ?_ H locs ls hP hD hS (lv_sub hl [4, 3, 2, 1, 0] rfl)
    intro H locs ls hP hD hS hl
    have hP : va_P D classes (wl_X9_readsLand cA b m_latest u6 u7 m_houses m_bowls m_dogs m_gone m_sights m_drawn m_bytes m_typed u8) H := hP
    have hD : va_D (va_A ws0 sz) (wl_X9_readsLand cA b m_latest u6 u7 m_houses m_bowls m_dogs m_gone m_sights m_drawn m_bytes m_typed u8) := hD
    have hl : lv_has ls 7 [(0, .ref (b 0)), (4, .int u5)] := hl
    refine lv_aload_n (pc := 65) hx hb dX9_readsLand_65 rfl (lv_at hl 0 rfl) ?_
    refine lv_iload (pc := 66) hx hb dX9_readsLand_66 (lv_at hl 1 rfl) ?_
    obtain ⟨r9, c10, c11, hq, hf⟩ := bind3_some hf
    refine fin2_i (wl_X9_readsLand cA b m_latest c10 c11 m_houses m_bowls m_dogs m_gone m_sights m_drawn m_bytes m_typed u8) (run_V (rest := []) (pc := 68) (As := [.int u5]) C mf_X9_100 (c_X9_torn l D cA b m_latest u6 u7 m_houses m_bowls m_dogs m_gone m_sights m_drawn u5 (r9, c10, c11) hq H.size) rfl rfl ⟨(Nat.le_of_ble_eq_true rfl), (Nat.le_of_ble_eq_true rfl)⟩ (preV_of C hP hD [0] rfl (pl_nd pv_119) 0 rfl rfl rfl) rfl hl.1 rfl (Nat.le_of_ble_eq_true rfl) dX9_readsLand_68 ⟨Nat.zero_le _, Nat.zero_le _⟩) hP hD hS hA [0] [1, 2, 3] rfl rfl rfl rfl pv_119 (fun H locs hP hS => ?_)
    have hD : va_D (va_A ws0 sz) (wl_X9_readsLand cA b m_latest c10 c11 m_houses m_bowls m_dogs m_gone m_sights m_drawn m_bytes m_typed u8) := vd_a hD rfl
    have hf := Option.some.inj hf
    subst hf
    exact ret_i C hr hlk hP hS dX9_readsLand_71
  · obtain ⟨u12, u13, u14, u15⟩ := z
    have hf := unc4_some hf
    refine kl_X9_readsLand_L24 C hA b m_latest m_houses m_bowls m_dogs m_gone m_sights m_drawn m_bytes m_typed v1 FU ((0 : Int32), (0 : Int32), (0 : Int32), (0 : Int32), (0 : Int32), m_cell) _ hq ?_ H locs ls hP hD hS (lv_sub hl [4, 3, 2, 1, 0] rfl)
    intro H locs ls hP hD hS hl
    have hP : va_P D classes (wl_X9_readsLand cA b m_latest u13 u14 m_houses m_bowls m_dogs m_gone m_sights m_drawn m_bytes m_typed u15) H := hP
    have hD : va_D (va_A ws0 sz) (wl_X9_readsLand cA b m_latest u13 u14 m_houses m_bowls m_dogs m_gone m_sights m_drawn m_bytes m_typed u15) := hD
    have hl : lv_has ls 7 [(0, .ref (b 0)), (4, .int u12)] := hl
    refine lv_aload_n (pc := 125) hx hb dX9_readsLand_125 rfl (lv_at hl 0 rfl) ?_
    refine lv_iload (pc := 126) hx hb dX9_readsLand_126 (lv_at hl 1 rfl) ?_
    obtain ⟨r16, c17, c18, hq, hf⟩ := bind3_some hf
    refine fin2_i (wl_X9_readsLand cA b m_latest c17 c18 m_houses m_bowls m_dogs m_gone m_sights m_drawn m_bytes m_typed u15) (run_V (rest := []) (pc := 128) (As := [.int u12]) C mf_X9_100 (c_X9_torn l D cA b m_latest u13 u14 m_houses m_bowls m_dogs m_gone m_sights m_drawn u12 (r16, c17, c18) hq H.size) rfl rfl ⟨(Nat.le_of_ble_eq_true rfl), (Nat.le_of_ble_eq_true rfl)⟩ (preV_of C hP hD [0] rfl (pl_nd pv_119) 0 rfl rfl rfl) rfl hl.1 rfl (Nat.le_of_ble_eq_true rfl) dX9_readsLand_128 ⟨Nat.zero_le _, Nat.zero_le _⟩) hP hD hS hA [0] [1, 2, 3] rfl rfl rfl rfl pv_119 (fun H locs hP hS => ?_)
    have hD : va_D (va_A ws0 sz) (wl_X9_readsLand cA b m_latest c17 c18 m_houses m_bowls m_dogs m_gone m_sights m_drawn m_bytes m_typed u15) := vd_a hD rfl
    have hf := Option.some.inj hf
    subst hf
    exact ret_i C hr hlk hP hS dX9_readsLand_131
  · obtain ⟨u19, u20, u21, u22⟩ := z
    have hf := unc4_some hf
    refine kl_X9_readsLand_L24 C hA b m_latest m_houses m_bowls m_dogs m_gone m_sights m_drawn m_bytes m_typed v1 FU ((0 : Int32), (0 : Int32), (0 : Int32), (0 : Int32), (0 : Int32), m_cell) _ hq ?_ H locs ls hP hD hS (lv_sub hl [4, 3, 2, 1, 0] rfl)
    intro H locs ls hP hD hS hl
    have hP : va_P D classes (wl_X9_readsLand cA b m_latest u20 u21 m_houses m_bowls m_dogs m_gone m_sights m_drawn m_bytes m_typed u22) H := hP
    have hD : va_D (va_A ws0 sz) (wl_X9_readsLand cA b m_latest u20 u21 m_houses m_bowls m_dogs m_gone m_sights m_drawn m_bytes m_typed u22) := hD
    have hl : lv_has ls 7 [(0, .ref (b 0)), (1, .int v1), (3, .int u19)] := hl
    refine lv_iload_n (pc := 162) hx hb dX9_readsLand_162 rfl (lv_at hl 1 rfl) ?_
    refine lv_if_le (pc := 163) (tgt := 184) hx hb dX9_readsLand_163 (by decide) (fun hc => ?_) (fun hc => ?_)
    · have hf := (if_pos hc).symm.trans hf
      exact k_X9_readsLand_b184 C hr hlk hA b m_latest u20 u21 m_houses m_bowls m_dogs m_gone m_sights m_drawn m_bytes m_typed u22 v1 u19 r hf H locs ls hP hD hS hl
    · have hf := (if_neg hc).symm.trans hf
      refine lv_iload_n (pc := 166) hx hb dX9_readsLand_166 rfl (lv_at hl 2 rfl) ?_
      refine lv_if_eq (pc := 167) (tgt := 178) hx hb dX9_readsLand_167 (by decide) (fun hc => ?_) (fun hc => ?_)
      · have hf := (if_pos hc).symm.trans hf
        exact k_X9_readsLand_b178 C hr hlk hA b m_latest u20 u21 m_houses m_bowls m_dogs m_gone m_sights m_drawn m_bytes m_typed u22 v1 r hf H locs ls hP hD hS (lv_sub hl [0, 1] rfl)
      · have hf := (if_neg hc).symm.trans hf
        refine lv_iload_n (pc := 170) hx hb dX9_readsLand_170 rfl (lv_at hl 2 rfl) ?_
        refine lv_aload_n (pc := 171) hx hb dX9_readsLand_171 rfl (lv_at hl 0 rfl) ?_
        refine g_get (pc := 172) C fg_X9_97 hP 0 rfl rfl dX9_readsLand_172 ?_
        refine lv_icmp_ge (pc := 175) (tgt := 184) hx hb dX9_readsLand_175 (by decide) (fun hc => ?_) (fun hc => ?_)
        · have hf := (if_pos hc).symm.trans hf
          exact k_X9_readsLand_b184 C hr hlk hA b m_latest u20 u21 m_houses m_bowls m_dogs m_gone m_sights m_drawn m_bytes m_typed u22 v1 u19 r hf H locs ls hP hD hS hl
        · have hf := (if_neg hc).symm.trans hf
          exact k_X9_readsLand_b178 C hr hlk hA b m_latest u20 u21 m_houses m_bowls m_dogs m_gone m_sights m_drawn m_bytes m_typed u22 v1 r hf H locs ls hP hD hS (lv_sub hl [0, 1] rfl)
set_option maxRecDepth 100000 in
theorem c_X9_readsLand (l : Launch) (D : va_G) (cA : Nat → ClassId) (b : Nat → Nat) (m_latest : Int32) (m_cells : Int32) (m_wide : Int32) (m_houses : Int32) (m_bowls : Int32) (m_dogs : Int32) (m_gone : Int32) (m_sights : Int32) (m_drawn : Int32) (m_bytes : Nat → Int32) (m_typed : Nat → Int32) (m_cell : Nat → Int32) (r : Int32 × Int32 × Int32 × (Nat → Int32)) (hf : f_X9_readsLand m_cells m_wide m_bytes m_typed m_cell = some r) (sz : Nat) : Met l yX9_readsLand (Cond.code yX9_readsLand cX9_readsLand 7 (some .int) :: lw_good) rm_X9_readsLand (PreX D cA [.ref (b 0)] sz (wl_X9_readsLand cA b m_latest m_cells m_wide m_houses m_bowls m_dogs m_gone m_sights m_drawn m_bytes m_typed m_cell)) (PostI D r.1 (wl_X9_readsLand cA b m_latest m_cells m_wide m_houses m_bowls m_dogs m_gone m_sights m_drawn m_bytes m_typed m_cell) (wl_X9_readsLand cA b m_latest (r.2.1) (r.2.2.1) m_houses m_bowls m_dogs m_gone m_sights m_drawn m_bytes m_typed (r.2.2.2)) sz) 0 0 (va_A (wl_X9_readsLand cA b m_latest m_cells m_wide m_houses m_bowls m_dogs m_gone m_sights m_drawn m_bytes m_typed m_cell) sz) :=
  met_of (by decide) (Nat.le_of_ble_eq_true rfl) (fun p e s m args below meth c C hr hlk hA => k_X9_readsLand C hr hlk hA b m_latest m_cells m_wide m_houses m_bowls m_dogs m_gone m_sights m_drawn m_bytes m_typed m_cell r hf)
end

abbrev wl_X9_readsHouses (cA : Nat → ClassId) (b : Nat → Nat) (m_latest : Int32) (m_cells : Int32) (m_wide : Int32) (m_houses : Int32) (m_bowls : Int32) (m_dogs : Int32) (m_gone : Int32) (m_sights : Int32) (m_drawn : Int32) (m_bytes : Nat → Int32) (m_typed : Nat → Int32) (m_house : Nat → Int32) : va_W := [((b 0), .inr (9, [.ref (b 1), .ref (b 2), .ref (b 3), .ref (b 4), .int m_latest, .ref (b 5), .ref (b 6), .int m_cells, .int m_wide, .ref (b 7), .int m_houses, .ref (b 8), .ref (b 9), .int m_bowls, .ref (b 10), .int m_dogs, .ref (b 11), .int m_gone, .ref (b 12), .ref (b 13), .ref (b 14), .int m_sights, .ref (b 15), .ref (b 16), .int m_drawn])), ((b 5), .inl (cA 0, 84, .inl m_bytes)), ((b 6), .inl (cA 0, 2, .inl m_typed)), ((b 8), .inl (cA 0, 16, .inl m_house))]
abbrev rm_X9_readsHouses : Room := { frames := 1, cells := 0, slots := 0, locals := 25 }
section
variable {p : Program} {l : Launch} {e : Env} {s : State} {m : MethodId} {args : Array Value} {below : List Frame} {meth : Method} {c : Code} {D : va_G} {cA : Nat → ClassId} {ws0 : va_W} {sz : Nat} {A : Nat → Prop} {Q : State → Prop}
def f_X9_readsHouses_b171L14 (m_houses : Int32) (m_bytes : Nat → Int32) (m_house : Nat → Int32) (x1 : Int32) (x2 : Int32) : Option ((Int32 × Int32 × (Nat → Int32)) ⊕ ((Int32 × Int32 × (Nat → Int32)) ⊕ (Int32 × (Nat → Int32)))) :=
  some (.inl ((x2 + 1), m_houses, m_house))
set_option maxHeartbeats 4000000 in
set_option maxRecDepth 100000 in
theorem k_X9_readsHouses_b171L14 (C : Cx RX9 cX9_readsHouses 7 D cA p s m args c) (hA : ∀ q, s.heap.size ≤ q → A q) (b : Nat → Nat) (m_latest : Int32) (m_cells : Int32) (m_wide : Int32) (m_houses : Int32) (m_bowls : Int32) (m_dogs : Int32) (m_gone : Int32) (m_sights : Int32) (m_drawn : Int32) (m_bytes : Nat → Int32) (m_typed : Nat → Int32) (m_house : Nat → Int32) (x1 : Int32) (x2 : Int32) (r : (Int32 × Int32 × (Nat → Int32)) ⊕ ((Int32 × Int32 × (Nat → Int32)) ⊕ (Int32 × (Nat → Int32)))) (hf : f_X9_readsHouses_b171L14 m_houses m_bytes m_house x1 x2 = some r) (hK : Sum.elim (fun q : Int32 × Int32 × (Nat → Int32) => At p l e rm_X9_readsHouses s m args below meth c D A 0 0 Q 7 14 (wl_X9_readsHouses cA b m_latest m_cells m_wide (q.2.1) m_bowls m_dogs m_gone m_sights m_drawn m_bytes m_typed (q.2.2)) [(0, .ref (b 0)), (1, .int x1), (2, .int (q.1))] []) (Sum.elim (fun q : Int32 × Int32 × (Nat → Int32) => At p l e rm_X9_readsHouses s m args below meth c D A 0 0 Q 7 83 (wl_X9_readsHouses cA b m_latest m_cells m_wide (q.2.1) m_bowls m_dogs m_gone m_sights m_drawn m_bytes m_typed (q.2.2)) [(0, .ref (b 0)), (2, .int (q.1))] []) (fun q : Int32 × (Nat → Int32) => At p l e rm_X9_readsHouses s m args below meth c D A 0 0 Q 7 177 (wl_X9_readsHouses cA b m_latest m_cells m_wide (q.1) m_bowls m_dogs m_gone m_sights m_drawn m_bytes m_typed (q.2)) [(0, .ref (b 0)), (1, .int x1)] [])) r) : At p l e rm_X9_readsHouses s m args below meth c D A 0 0 Q 7 171 (wl_X9_readsHouses cA b m_latest m_cells m_wide m_houses m_bowls m_dogs m_gone m_sights m_drawn m_bytes m_typed m_house) [(0, .ref (b 0)), (1, .int x1), (2, .int x2)] [] := by
  intro H locs ls hP hD hS hl
  have hx := C.1
  have hb := C.2.1
  have hown := C.2.2.2.1
  have hts := C.2.2.2.2.1
  unfold f_X9_readsHouses_b171L14 at hf
  refine lv_iinc (pc := 171) (v := (x2 + 1)) (lv' := [(2, .int (x2 + 1)), (0, .ref (b 0)), (1, .int x1)]) hx hb dX9_readsHouses_171 hl (k := 2) rfl rfl (Nat.le_of_ble_eq_true rfl) rfl (fun ls hl => ?_)
  refine lv_goto (pc := 174) (tgt := 14) hx hb dX9_readsHouses_174 (by decide) ?_
  have hf := Option.some.inj hf
  subst hf
  exact hK H locs ls hP hD hS (lv_sub hl [1, 2, 0] rfl)
def f_X9_readsHouses_b76L14 (m_houses : Int32) (m_bytes : Nat → Int32) (m_house : Nat → Int32) (x1 : Int32) (x2 : Int32) (x3 : Int32) (x4 : Int32) (s0 : Int32) : Option ((Int32 × Int32 × (Nat → Int32)) ⊕ ((Int32 × Int32 × (Nat → Int32)) ⊕ (Int32 × (Nat → Int32)))) :=
  if s0 = 0 then (some (.inr (.inl (x2, m_houses, m_house)))) else (letv (((2 : Int32) * (x2 / (4 : Int32)))) (fun v5 => if x4 = 0 then (letv (((10 : Int32) * (x3 - (48 : Int32)))) (fun v9 => gd (inb v5 16) (f_X9_readsHouses_b171L14 m_houses m_bytes (upd m_house v5.toNatClampNeg v9) x1 x2))) else (if x4 = (1 : Int32) then (gd (inb v5 16) (letv (((m_house v5.toNatClampNeg) + (x3 - (48 : Int32)))) (fun v8 => gd (inb v5 16) (f_X9_readsHouses_b171L14 m_houses m_bytes (upd m_house v5.toNatClampNeg v8) x1 x2)))) else (if x4 = (2 : Int32) then (letv ((x3 - (48 : Int32))) (fun v6 => gd (inb (v5 + (1 : Int32)) 16) (letv ((m_houses + (1 : Int32))) (fun v7 => f_X9_readsHouses_b171L14 v7 m_bytes (upd m_house (v5 + (1 : Int32)).toNatClampNeg v6) x1 x2)))) else (f_X9_readsHouses_b171L14 m_houses m_bytes m_house x1 x2)))))
set_option maxHeartbeats 4000000 in
set_option maxRecDepth 100000 in
theorem k_X9_readsHouses_b76L14 (C : Cx RX9 cX9_readsHouses 7 D cA p s m args c) (hA : ∀ q, s.heap.size ≤ q → A q) (b : Nat → Nat) (m_latest : Int32) (m_cells : Int32) (m_wide : Int32) (m_houses : Int32) (m_bowls : Int32) (m_dogs : Int32) (m_gone : Int32) (m_sights : Int32) (m_drawn : Int32) (m_bytes : Nat → Int32) (m_typed : Nat → Int32) (m_house : Nat → Int32) (x1 : Int32) (x2 : Int32) (x3 : Int32) (x4 : Int32) (s0 : Int32) (r : (Int32 × Int32 × (Nat → Int32)) ⊕ ((Int32 × Int32 × (Nat → Int32)) ⊕ (Int32 × (Nat → Int32)))) (hf : f_X9_readsHouses_b76L14 m_houses m_bytes m_house x1 x2 x3 x4 s0 = some r) (hK : Sum.elim (fun q : Int32 × Int32 × (Nat → Int32) => At p l e rm_X9_readsHouses s m args below meth c D A 0 0 Q 7 14 (wl_X9_readsHouses cA b m_latest m_cells m_wide (q.2.1) m_bowls m_dogs m_gone m_sights m_drawn m_bytes m_typed (q.2.2)) [(0, .ref (b 0)), (1, .int x1), (2, .int (q.1))] []) (Sum.elim (fun q : Int32 × Int32 × (Nat → Int32) => At p l e rm_X9_readsHouses s m args below meth c D A 0 0 Q 7 83 (wl_X9_readsHouses cA b m_latest m_cells m_wide (q.2.1) m_bowls m_dogs m_gone m_sights m_drawn m_bytes m_typed (q.2.2)) [(0, .ref (b 0)), (2, .int (q.1))] []) (fun q : Int32 × (Nat → Int32) => At p l e rm_X9_readsHouses s m args below meth c D A 0 0 Q 7 177 (wl_X9_readsHouses cA b m_latest m_cells m_wide (q.1) m_bowls m_dogs m_gone m_sights m_drawn m_bytes m_typed (q.2)) [(0, .ref (b 0)), (1, .int x1)] [])) r) : At p l e rm_X9_readsHouses s m args below meth c D A 0 0 Q 7 76 (wl_X9_readsHouses cA b m_latest m_cells m_wide m_houses m_bowls m_dogs m_gone m_sights m_drawn m_bytes m_typed m_house) [(0, .ref (b 0)), (1, .int x1), (2, .int x2), (3, .int x3), (4, .int x4)] [.int s0] := by
  intro H locs ls hP hD hS hl
  have hx := C.1
  have hb := C.2.1
  have hown := C.2.2.2.1
  have hts := C.2.2.2.2.1
  unfold f_X9_readsHouses_b76L14 at hf
  refine lv_istore (pc := 76) (lv' := [(5, .int s0), (0, .ref (b 0)), (1, .int x1), (2, .int x2), (3, .int x3), (4, .int x4)]) hx hb dX9_readsHouses_76 hl (Nat.le_of_ble_eq_true rfl) rfl (fun ls hl => ?_)
  refine lv_iload (pc := 78) hx hb dX9_readsHouses_78 (lv_at hl 0 rfl) ?_
  refine lv_if_ne (pc := 80) (tgt := 90) hx hb dX9_readsHouses_80 (by decide) (fun hc => ?_) (fun hc => ?_)
  · have hf := (if_neg hc).symm.trans hf
    refine lv_iconst (pc := 90) (v := 2) hx hb dX9_readsHouses_90 ic_2 ?_
    refine lv_iload_n (pc := 91) hx hb dX9_readsHouses_91 rfl (lv_at hl 3 rfl) ?_
    refine lv_iconst (pc := 92) (v := 4) hx hb dX9_readsHouses_92 ic_4 ?_
    refine lv_idiv (pc := 93) hx hb dX9_readsHouses_93 (by decide) ?_
    refine lv_imul (pc := 94) hx hb dX9_readsHouses_94 ?_
    obtain ⟨v5, e_v5, hf⟩ := letv_some hf
    refine tp_i e_v5 ?_
    refine lv_istore (pc := 95) (lv' := [(6, .int v5), (5, .int s0), (0, .ref (b 0)), (1, .int x1), (2, .int x2), (3, .int x3), (4, .int x4)]) hx hb dX9_readsHouses_95 hl (Nat.le_of_ble_eq_true rfl) rfl (fun ls hl => ?_)
    refine lv_iload (pc := 97) hx hb dX9_readsHouses_97 (lv_at hl 6 rfl) ?_
    refine lv_if_ne (pc := 99) (tgt := 119) hx hb dX9_readsHouses_99 (by decide) (fun hc => ?_) (fun hc => ?_)
    · have hf := (if_neg hc).symm.trans hf
      refine lv_iload (pc := 119) hx hb dX9_readsHouses_119 (lv_at hl 6 rfl) ?_
      refine lv_iconst (pc := 121) (v := 1) hx hb dX9_readsHouses_121 ic_1 ?_
      refine lv_icmp_ne (pc := 122) (tgt := 142) hx hb dX9_readsHouses_122 (by decide) (fun hc => ?_) (fun hc => ?_)
      · have hf := (if_neg hc).symm.trans hf
        refine lv_iload (pc := 142) hx hb dX9_readsHouses_142 (lv_at hl 6 rfl) ?_
        refine lv_iconst (pc := 144) (v := 2) hx hb dX9_readsHouses_144 ic_2 ?_
        refine lv_icmp_ne (pc := 145) (tgt := 171) hx hb dX9_readsHouses_145 (by decide) (fun hc => ?_) (fun hc => ?_)
        · have hf := (if_neg hc).symm.trans hf
          exact k_X9_readsHouses_b171L14 C hA b m_latest m_cells m_wide m_houses m_bowls m_dogs m_gone m_sights m_drawn m_bytes m_typed m_house x1 x2 r hf hK H locs ls hP hD hS (lv_sub hl [2, 3, 4] rfl)
        · have hf := (if_pos hc).symm.trans hf
          refine lv_aload_n (pc := 148) hx hb dX9_readsHouses_148 rfl (lv_at hl 2 rfl) ?_
          refine g_get (pc := 149) C fg_X9_31 hP 0 rfl rfl dX9_readsHouses_149 ?_
          refine lv_iload (pc := 152) hx hb dX9_readsHouses_152 (lv_at hl 0 rfl) ?_
          refine lv_iconst (pc := 154) (v := 1) hx hb dX9_readsHouses_154 ic_1 ?_
          refine lv_iadd (pc := 155) hx hb dX9_readsHouses_155 ?_
          refine lv_iload_n (pc := 156) hx hb dX9_readsHouses_156 rfl (lv_at hl 5 rfl) ?_
          refine lv_bipush (pc := 157) (v := 48) hx hb dX9_readsHouses_157 bp_48 ?_
          refine lv_isub (pc := 159) hx hb dX9_readsHouses_159 ?_
          obtain ⟨v6, e_v6, hf⟩ := letv_some hf
          refine tp_i e_v6 ?_
          obtain ⟨hg, hf⟩ := gd_some hf
          refine g_iast (pc := 160) C hP hD hS 3 rfl hg dX9_readsHouses_160 (fun H locs hP hD hS => ?_)
          have hP : va_P D classes (wl_X9_readsHouses cA b m_latest m_cells m_wide m_houses m_bowls m_dogs m_gone m_sights m_drawn m_bytes m_typed (upd m_house (v5 + (1 : Int32)).toNatClampNeg v6)) H := hP
          have hD : va_D A (wl_X9_readsHouses cA b m_latest m_cells m_wide m_houses m_bowls m_dogs m_gone m_sights m_drawn m_bytes m_typed (upd m_house (v5 + (1 : Int32)).toNatClampNeg v6)) := hD
          refine lv_aload_n (pc := 161) hx hb dX9_readsHouses_161 rfl (lv_at hl 2 rfl) ?_
          refine lv_dup (pc := 162) hx hb dX9_readsHouses_162 rfl ?_
          refine g_get (pc := 163) C fg_X9_106 hP 0 rfl rfl dX9_readsHouses_163 ?_
          refine lv_iconst (pc := 166) (v := 1) hx hb dX9_readsHouses_166 ic_1 ?_
          refine lv_iadd (pc := 167) hx hb dX9_readsHouses_167 ?_
          obtain ⟨v7, e_v7, hf⟩ := letv_some hf
          refine tp_i e_v7 ?_
          refine g_put (pc := 168) C fg_X9_106 ft_X9_10 hP hD hS 0 rfl rfl rfl (Nat.le_of_ble_eq_true rfl) dX9_readsHouses_168 (fun H locs hP hD hS => ?_)
          have hP : va_P D classes (wl_X9_readsHouses cA b m_latest m_cells m_wide v7 m_bowls m_dogs m_gone m_sights m_drawn m_bytes m_typed (upd m_house (v5 + (1 : Int32)).toNatClampNeg v6)) H := hP
          have hD : va_D A (wl_X9_readsHouses cA b m_latest m_cells m_wide v7 m_bowls m_dogs m_gone m_sights m_drawn m_bytes m_typed (upd m_house (v5 + (1 : Int32)).toNatClampNeg v6)) := hD
          exact k_X9_readsHouses_b171L14 C hA b m_latest m_cells m_wide v7 m_bowls m_dogs m_gone m_sights m_drawn m_bytes m_typed (upd m_house (v5 + (1 : Int32)).toNatClampNeg v6) x1 x2 r hf hK H locs ls hP hD hS (lv_sub hl [2, 3, 4] rfl)
      · have hf := (if_pos hc).symm.trans hf
        refine lv_aload_n (pc := 125) hx hb dX9_readsHouses_125 rfl (lv_at hl 2 rfl) ?_
        refine g_get (pc := 126) C fg_X9_31 hP 0 rfl rfl dX9_readsHouses_126 ?_
        refine lv_iload (pc := 129) hx hb dX9_readsHouses_129 (lv_at hl 0 rfl) ?_
        refine lv_dup2_11 (pc := 131) hx hb dX9_readsHouses_131 rfl rfl ?_
        obtain ⟨hg, hf⟩ := gd_some hf
        refine g_iald (pc := 132) C hP 3 rfl hg dX9_readsHouses_132 ?_
        refine lv_iload_n (pc := 133) hx hb dX9_readsHouses_133 rfl (lv_at hl 5 rfl) ?_
        refine lv_bipush (pc := 134) (v := 48) hx hb dX9_readsHouses_134 bp_48 ?_
        refine lv_isub (pc := 136) hx hb dX9_readsHouses_136 ?_
        refine lv_iadd (pc := 137) hx hb dX9_readsHouses_137 ?_
        obtain ⟨v8, e_v8, hf⟩ := letv_some hf
        refine tp_i e_v8 ?_
        obtain ⟨hg, hf⟩ := gd_some hf
        refine g_iast (pc := 138) C hP hD hS 3 rfl hg dX9_readsHouses_138 (fun H locs hP hD hS => ?_)
        have hP : va_P D classes (wl_X9_readsHouses cA b m_latest m_cells m_wide m_houses m_bowls m_dogs m_gone m_sights m_drawn m_bytes m_typed (upd m_house v5.toNatClampNeg v8)) H := hP
        have hD : va_D A (wl_X9_readsHouses cA b m_latest m_cells m_wide m_houses m_bowls m_dogs m_gone m_sights m_drawn m_bytes m_typed (upd m_house v5.toNatClampNeg v8)) := hD
        refine lv_goto (pc := 139) (tgt := 171) hx hb dX9_readsHouses_139 (by decide) ?_
        exact k_X9_readsHouses_b171L14 C hA b m_latest m_cells m_wide m_houses m_bowls m_dogs m_gone m_sights m_drawn m_bytes m_typed (upd m_house v5.toNatClampNeg v8) x1 x2 r hf hK H locs ls hP hD hS (lv_sub hl [2, 3, 4] rfl)
    · have hf := (if_pos hc).symm.trans hf
      refine lv_aload_n (pc := 102) hx hb dX9_readsHouses_102 rfl (lv_at hl 2 rfl) ?_
      refine g_get (pc := 103) C fg_X9_31 hP 0 rfl rfl dX9_readsHouses_103 ?_
      refine lv_iload (pc := 106) hx hb dX9_readsHouses_106 (lv_at hl 0 rfl) ?_
      refine lv_bipush (pc := 108) (v := 10) hx hb dX9_readsHouses_108 bp_10 ?_
      refine lv_iload_n (pc := 110) hx hb dX9_readsHouses_110 rfl (lv_at hl 5 rfl) ?_
      refine lv_bipush (pc := 111) (v := 48) hx hb dX9_readsHouses_111 bp_48 ?_
      refine lv_isub (pc := 113) hx hb dX9_readsHouses_113 ?_
      refine lv_imul (pc := 114) hx hb dX9_readsHouses_114 ?_
      obtain ⟨v9, e_v9, hf⟩ := letv_some hf
      refine tp_i e_v9 ?_
      obtain ⟨hg, hf⟩ := gd_some hf
      refine g_iast (pc := 115) C hP hD hS 3 rfl hg dX9_readsHouses_115 (fun H locs hP hD hS => ?_)
      have hP : va_P D classes (wl_X9_readsHouses cA b m_latest m_cells m_wide m_houses m_bowls m_dogs m_gone m_sights m_drawn m_bytes m_typed (upd m_house v5.toNatClampNeg v9)) H := hP
      have hD : va_D A (wl_X9_readsHouses cA b m_latest m_cells m_wide m_houses m_bowls m_dogs m_gone m_sights m_drawn m_bytes m_typed (upd m_house v5.toNatClampNeg v9)) := hD
      refine lv_goto (pc := 116) (tgt := 171) hx hb dX9_readsHouses_116 (by decide) ?_
      exact k_X9_readsHouses_b171L14 C hA b m_latest m_cells m_wide m_houses m_bowls m_dogs m_gone m_sights m_drawn m_bytes m_typed (upd m_house v5.toNatClampNeg v9) x1 x2 r hf hK H locs ls hP hD hS (lv_sub hl [2, 3, 4] rfl)
  · have hf := (if_pos hc).symm.trans hf
    have hf := Option.some.inj hf
    subst hf
    exact hK H locs ls hP hD hS (lv_sub hl [1, 3] rfl)
def f_X9_readsHouses_b73L14 (m_houses : Int32) (m_bytes : Nat → Int32) (m_house : Nat → Int32) (x1 : Int32) (x2 : Int32) (x3 : Int32) (x4 : Int32) (s0 : Int64) (s1 : Int64) (s2 : Int64) : Option ((Int32 × Int32 × (Nat → Int32)) ⊕ ((Int32 × Int32 × (Nat → Int32)) ⊕ (Int32 × (Nat → Int32)))) :=
  bind1 (f_X9_in s2 s1 s0) (fun r4 => f_X9_readsHouses_b76L14 m_houses m_bytes m_house x1 x2 x3 x4 r4)
set_option maxHeartbeats 4000000 in
set_option maxRecDepth 100000 in
theorem k_X9_readsHouses_b73L14 (C : Cx RX9 cX9_readsHouses 7 D cA p s m args c) (hA : ∀ q, s.heap.size ≤ q → A q) (b : Nat → Nat) (m_latest : Int32) (m_cells : Int32) (m_wide : Int32) (m_houses : Int32) (m_bowls : Int32) (m_dogs : Int32) (m_gone : Int32) (m_sights : Int32) (m_drawn : Int32) (m_bytes : Nat → Int32) (m_typed : Nat → Int32) (m_house : Nat → Int32) (x1 : Int32) (x2 : Int32) (x3 : Int32) (x4 : Int32) (s0 : Int64) (s1 : Int64) (s2 : Int64) (r : (Int32 × Int32 × (Nat → Int32)) ⊕ ((Int32 × Int32 × (Nat → Int32)) ⊕ (Int32 × (Nat → Int32)))) (hf : f_X9_readsHouses_b73L14 m_houses m_bytes m_house x1 x2 x3 x4 s0 s1 s2 = some r) (hK : Sum.elim (fun q : Int32 × Int32 × (Nat → Int32) => At p l e rm_X9_readsHouses s m args below meth c D A 0 0 Q 7 14 (wl_X9_readsHouses cA b m_latest m_cells m_wide (q.2.1) m_bowls m_dogs m_gone m_sights m_drawn m_bytes m_typed (q.2.2)) [(0, .ref (b 0)), (1, .int x1), (2, .int (q.1))] []) (Sum.elim (fun q : Int32 × Int32 × (Nat → Int32) => At p l e rm_X9_readsHouses s m args below meth c D A 0 0 Q 7 83 (wl_X9_readsHouses cA b m_latest m_cells m_wide (q.2.1) m_bowls m_dogs m_gone m_sights m_drawn m_bytes m_typed (q.2.2)) [(0, .ref (b 0)), (2, .int (q.1))] []) (fun q : Int32 × (Nat → Int32) => At p l e rm_X9_readsHouses s m args below meth c D A 0 0 Q 7 177 (wl_X9_readsHouses cA b m_latest m_cells m_wide (q.1) m_bowls m_dogs m_gone m_sights m_drawn m_bytes m_typed (q.2)) [(0, .ref (b 0)), (1, .int x1)] [])) r) : At p l e rm_X9_readsHouses s m args below meth c D A 0 0 Q 7 73 (wl_X9_readsHouses cA b m_latest m_cells m_wide m_houses m_bowls m_dogs m_gone m_sights m_drawn m_bytes m_typed m_house) [(0, .ref (b 0)), (1, .int x1), (2, .int x2), (3, .int x3), (4, .int x4)] [.long s0, .long s1, .long s2] := by
  intro H locs ls hP hD hS hl
  have hx := C.1
  have hb := C.2.1
  have hown := C.2.2.2.1
  have hts := C.2.2.2.2.1
  unfold f_X9_readsHouses_b73L14 at hf
  obtain ⟨r4, hq, hf⟩ := bind1_some hf
  refine fin2_i (wl_X9_readsHouses cA b m_latest m_cells m_wide m_houses m_bowls m_dogs m_gone m_sights m_drawn m_bytes m_typed m_house) (run_S (rest := []) (pc := 73) (As := [.long s2, .long s1, .long s0]) C mf_X9_60 (c_X9_in l D cA  s2 s1 s0 r4 hq H.size) rfl rfl ⟨(Nat.le_of_ble_eq_true rfl), (Nat.le_of_ble_eq_true rfl)⟩ (preS_of C hP hD [] rfl (pl_nd pv_25)) rfl hl.1 rfl (Nat.le_of_ble_eq_true rfl) dX9_readsHouses_73 ⟨Nat.zero_le _, Nat.zero_le _⟩) hP hD hS hA [] [0, 1, 2, 3] rfl rfl rfl rfl pv_25 (fun H locs hP hS => ?_)
  exact k_X9_readsHouses_b76L14 C hA b m_latest m_cells m_wide m_houses m_bowls m_dogs m_gone m_sights m_drawn m_bytes m_typed m_house x1 x2 x3 x4 r4 r hf hK H locs ls hP hD hS hl
def f_X9_readsHouses_L14 (m_bytes : Nat → Int32) (x1 : Int32) (x2 : Int32) (m_houses : Int32) (m_house : Nat → Int32) : Option ((Int32 × Int32 × (Nat → Int32)) ⊕ ((Int32 × Int32 × (Nat → Int32)) ⊕ (Int32 × (Nat → Int32)))) :=
  if x1 ≤ x2 then (some (.inr (.inr (m_houses, m_house)))) else (gd (inb ((42 : Int32) + x2) 84) (letv ((m_bytes ((42 : Int32) + x2).toNatClampNeg)) (fun v2 => letv ((x2 - x2 / (4 : Int32) * (4 : Int32))) (fun v3 => if v3 = (3 : Int32) then (if v2 = (59 : Int32) then (f_X9_readsHouses_b76L14 m_houses m_bytes m_house x1 x2 v2 v3 (1 : Int32)) else (f_X9_readsHouses_b76L14 m_houses m_bytes m_house x1 x2 v2 v3 (0 : Int32))) else (if v3 = 0 then (f_X9_readsHouses_b73L14 m_houses m_bytes m_house x1 x2 v2 v3 (51 : Int64) (48 : Int64) (v2.toInt64)) else (f_X9_readsHouses_b73L14 m_houses m_bytes m_house x1 x2 v2 v3 (57 : Int64) (48 : Int64) (v2.toInt64)))))))
set_option maxHeartbeats 4000000 in
set_option maxRecDepth 100000 in
theorem k_X9_readsHouses_L14 (C : Cx RX9 cX9_readsHouses 7 D cA p s m args c) (hA : ∀ q, s.heap.size ≤ q → A q) (b : Nat → Nat) (m_latest : Int32) (m_cells : Int32) (m_wide : Int32) (m_bowls : Int32) (m_dogs : Int32) (m_gone : Int32) (m_sights : Int32) (m_drawn : Int32) (m_bytes : Nat → Int32) (m_typed : Nat → Int32) (x1 : Int32) (x2 : Int32) (m_houses : Int32) (m_house : Nat → Int32) (r : (Int32 × Int32 × (Nat → Int32)) ⊕ ((Int32 × Int32 × (Nat → Int32)) ⊕ (Int32 × (Nat → Int32)))) (hf : f_X9_readsHouses_L14 m_bytes x1 x2 m_houses m_house = some r) (hK : Sum.elim (fun q : Int32 × Int32 × (Nat → Int32) => At p l e rm_X9_readsHouses s m args below meth c D A 0 0 Q 7 14 (wl_X9_readsHouses cA b m_latest m_cells m_wide (q.2.1) m_bowls m_dogs m_gone m_sights m_drawn m_bytes m_typed (q.2.2)) [(0, .ref (b 0)), (1, .int x1), (2, .int (q.1))] []) (Sum.elim (fun q : Int32 × Int32 × (Nat → Int32) => At p l e rm_X9_readsHouses s m args below meth c D A 0 0 Q 7 83 (wl_X9_readsHouses cA b m_latest m_cells m_wide (q.2.1) m_bowls m_dogs m_gone m_sights m_drawn m_bytes m_typed (q.2.2)) [(0, .ref (b 0)), (2, .int (q.1))] []) (fun q : Int32 × (Nat → Int32) => At p l e rm_X9_readsHouses s m args below meth c D A 0 0 Q 7 177 (wl_X9_readsHouses cA b m_latest m_cells m_wide (q.1) m_bowls m_dogs m_gone m_sights m_drawn m_bytes m_typed (q.2)) [(0, .ref (b 0)), (1, .int x1)] [])) r) : At p l e rm_X9_readsHouses s m args below meth c D A 0 0 Q 7 14 (wl_X9_readsHouses cA b m_latest m_cells m_wide m_houses m_bowls m_dogs m_gone m_sights m_drawn m_bytes m_typed m_house) [(0, .ref (b 0)), (1, .int x1), (2, .int x2)] [] := by
  intro H locs ls hP hD hS hl
  have hx := C.1
  have hb := C.2.1
  have hown := C.2.2.2.1
  have hts := C.2.2.2.2.1
  unfold f_X9_readsHouses_L14 at hf
  refine lv_iload_n (pc := 14) hx hb dX9_readsHouses_14 rfl (lv_at hl 2 rfl) ?_
  refine lv_iload_n (pc := 15) hx hb dX9_readsHouses_15 rfl (lv_at hl 1 rfl) ?_
  refine lv_icmp_ge (pc := 16) (tgt := 177) hx hb dX9_readsHouses_16 (by decide) (fun hc => ?_) (fun hc => ?_)
  · have hf := (if_pos hc).symm.trans hf
    have hf := Option.some.inj hf
    subst hf
    exact hK H locs ls hP hD hS (lv_sub hl [0, 1] rfl)
  · have hf := (if_neg hc).symm.trans hf
    refine lv_aload_n (pc := 19) hx hb dX9_readsHouses_19 rfl (lv_at hl 0 rfl) ?_
    refine g_get (pc := 20) C fg_X9_22 hP 0 rfl rfl dX9_readsHouses_20 ?_
    refine lv_bipush (pc := 23) (v := 42) hx hb dX9_readsHouses_23 bp_42 ?_
    refine lv_iload_n (pc := 25) hx hb dX9_readsHouses_25 rfl (lv_at hl 2 rfl) ?_
    refine lv_iadd (pc := 26) hx hb dX9_readsHouses_26 ?_
    obtain ⟨hg, hf⟩ := gd_some hf
    refine g_iald (pc := 27) C hP 1 rfl hg dX9_readsHouses_27 ?_
    obtain ⟨v2, e_v2, hf⟩ := letv_some hf
    refine tp_i e_v2 ?_
    refine lv_istore_n (pc := 28) (lv' := [(3, .int v2), (0, .ref (b 0)), (1, .int x1), (2, .int x2)]) hx hb dX9_readsHouses_28 rfl hl (Nat.le_of_ble_eq_true rfl) rfl (fun ls hl => ?_)
    refine lv_iload_n (pc := 29) hx hb dX9_readsHouses_29 rfl (lv_at hl 3 rfl) ?_
    refine lv_iconst (pc := 30) (v := 4) hx hb dX9_readsHouses_30 ic_4 ?_
    refine lv_irem (pc := 31) hx hb dX9_readsHouses_31 (by decide) ?_
    obtain ⟨v3, e_v3, hf⟩ := letv_some hf
    refine tp_i e_v3 ?_
    refine lv_istore (pc := 32) (lv' := [(4, .int v3), (3, .int v2), (0, .ref (b 0)), (1, .int x1), (2, .int x2)]) hx hb dX9_readsHouses_32 hl (Nat.le_of_ble_eq_true rfl) rfl (fun ls hl => ?_)
    refine lv_iload (pc := 34) hx hb dX9_readsHouses_34 (lv_at hl 0 rfl) ?_
    refine lv_iconst (pc := 36) (v := 3) hx hb dX9_readsHouses_36 ic_3 ?_
    refine lv_icmp_ne (pc := 37) (tgt := 54) hx hb dX9_readsHouses_37 (by decide) (fun hc => ?_) (fun hc => ?_)
    · have hf := (if_neg hc).symm.trans hf
      refine lv_iload_n (pc := 54) hx hb dX9_readsHouses_54 rfl (lv_at hl 1 rfl) ?_
      refine lv_i2l (pc := 55) hx hb dX9_readsHouses_55 rfl ?_
      refine lv_ldc2 (pc := 56) hx hb hown (hts _ (lg_in mw_492 rfl)) dX9_readsHouses_56 ?_
      refine lv_iload (pc := 59) hx hb dX9_readsHouses_59 (lv_at hl 0 rfl) ?_
      refine lv_if_ne (pc := 61) (tgt := 70) hx hb dX9_readsHouses_61 (by decide) (fun hc => ?_) (fun hc => ?_)
      · have hf := (if_neg hc).symm.trans hf
        refine lv_ldc2 (pc := 70) hx hb hown (hts _ (lg_in mw_494 rfl)) dX9_readsHouses_70 ?_
        exact k_X9_readsHouses_b73L14 C hA b m_latest m_cells m_wide m_houses m_bowls m_dogs m_gone m_sights m_drawn m_bytes m_typed m_house x1 x2 v2 v3 (57 : Int64) (48 : Int64) (v2.toInt64) r hf hK H locs ls hP hD hS (lv_sub hl [2, 3, 4, 1, 0] rfl)
      · have hf := (if_pos hc).symm.trans hf
        refine lv_ldc2 (pc := 64) hx hb hown (hts _ (lg_in mw_493 rfl)) dX9_readsHouses_64 ?_
        refine lv_goto (pc := 67) (tgt := 73) hx hb dX9_readsHouses_67 (by decide) ?_
        exact k_X9_readsHouses_b73L14 C hA b m_latest m_cells m_wide m_houses m_bowls m_dogs m_gone m_sights m_drawn m_bytes m_typed m_house x1 x2 v2 v3 (51 : Int64) (48 : Int64) (v2.toInt64) r hf hK H locs ls hP hD hS (lv_sub hl [2, 3, 4, 1, 0] rfl)
    · have hf := (if_pos hc).symm.trans hf
      refine lv_iload_n (pc := 40) hx hb dX9_readsHouses_40 rfl (lv_at hl 1 rfl) ?_
      refine lv_bipush (pc := 41) (v := 59) hx hb dX9_readsHouses_41 bp_59 ?_
      refine lv_icmp_ne (pc := 43) (tgt := 50) hx hb dX9_readsHouses_43 (by decide) (fun hc => ?_) (fun hc => ?_)
      · have hf := (if_neg hc).symm.trans hf
        refine lv_iconst (pc := 50) (v := 0) hx hb dX9_readsHouses_50 ic_0 ?_
        refine lv_goto (pc := 51) (tgt := 76) hx hb dX9_readsHouses_51 (by decide) ?_
        exact k_X9_readsHouses_b76L14 C hA b m_latest m_cells m_wide m_houses m_bowls m_dogs m_gone m_sights m_drawn m_bytes m_typed m_house x1 x2 v2 v3 (0 : Int32) r hf hK H locs ls hP hD hS (lv_sub hl [2, 3, 4, 1, 0] rfl)
      · have hf := (if_pos hc).symm.trans hf
        refine lv_iconst (pc := 46) (v := 1) hx hb dX9_readsHouses_46 ic_1 ?_
        refine lv_goto (pc := 47) (tgt := 76) hx hb dX9_readsHouses_47 (by decide) ?_
        exact k_X9_readsHouses_b76L14 C hA b m_latest m_cells m_wide m_houses m_bowls m_dogs m_gone m_sights m_drawn m_bytes m_typed m_house x1 x2 v2 v3 (1 : Int32) r hf hK H locs ls hP hD hS (lv_sub hl [2, 3, 4, 1, 0] rfl)
theorem kl_X9_readsHouses_L14 (C : Cx RX9 cX9_readsHouses 7 D cA p s m args c) (hA : ∀ q, s.heap.size ≤ q → A q) (b : Nat → Nat) (m_latest : Int32) (m_cells : Int32) (m_wide : Int32) (m_bowls : Int32) (m_dogs : Int32) (m_gone : Int32) (m_sights : Int32) (m_drawn : Int32) (m_bytes : Nat → Int32) (m_typed : Nat → Int32) (x1 : Int32) : ∀ (n : Nat) (q : Int32 × Int32 × (Nat → Int32)) (z : ((Int32 × Int32 × (Nat → Int32)) ⊕ (Int32 × (Nat → Int32)))), loopF (fun q : Int32 × Int32 × (Nat → Int32) => f_X9_readsHouses_L14 m_bytes x1 q.1 q.2.1 q.2.2) n q = some z → (Sum.elim (fun q : Int32 × Int32 × (Nat → Int32) => At p l e rm_X9_readsHouses s m args below meth c D A 0 0 Q 7 83 (wl_X9_readsHouses cA b m_latest m_cells m_wide (q.2.1) m_bowls m_dogs m_gone m_sights m_drawn m_bytes m_typed (q.2.2)) [(0, .ref (b 0)), (2, .int (q.1))] []) (fun q : Int32 × (Nat → Int32) => At p l e rm_X9_readsHouses s m args below meth c D A 0 0 Q 7 177 (wl_X9_readsHouses cA b m_latest m_cells m_wide (q.1) m_bowls m_dogs m_gone m_sights m_drawn m_bytes m_typed (q.2)) [(0, .ref (b 0)), (1, .int x1)] [])) z → At p l e rm_X9_readsHouses s m args below meth c D A 0 0 Q 7 14 (wl_X9_readsHouses cA b m_latest m_cells m_wide (q.2.1) m_bowls m_dogs m_gone m_sights m_drawn m_bytes m_typed (q.2.2)) [(0, .ref (b 0)), (1, .int x1), (2, .int (q.1))] [] :=
  loop_lem (WP := fun q : Int32 × Int32 × (Nat → Int32) => At p l e rm_X9_readsHouses s m args below meth c D A 0 0 Q 7 14 (wl_X9_readsHouses cA b m_latest m_cells m_wide (q.2.1) m_bowls m_dogs m_gone m_sights m_drawn m_bytes m_typed (q.2.2)) [(0, .ref (b 0)), (1, .int x1), (2, .int (q.1))] []) (WE := (Sum.elim (fun q : Int32 × Int32 × (Nat → Int32) => At p l e rm_X9_readsHouses s m args below meth c D A 0 0 Q 7 83 (wl_X9_readsHouses cA b m_latest m_cells m_wide (q.2.1) m_bowls m_dogs m_gone m_sights m_drawn m_bytes m_typed (q.2.2)) [(0, .ref (b 0)), (2, .int (q.1))] []) (fun q : Int32 × (Nat → Int32) => At p l e rm_X9_readsHouses s m args below meth c D A 0 0 Q 7 177 (wl_X9_readsHouses cA b m_latest m_cells m_wide (q.1) m_bowls m_dogs m_gone m_sights m_drawn m_bytes m_typed (q.2)) [(0, .ref (b 0)), (1, .int x1)] []))) (fun q r hf hK => k_X9_readsHouses_L14 C hA b m_latest m_cells m_wide m_bowls m_dogs m_gone m_sights m_drawn m_bytes m_typed x1 q.1 q.2.1 q.2.2 r hf hK)
def f_X9_readsHouses (m_houses : Int32) (m_bytes : Nat → Int32) (m_typed : Nat → Int32) (m_house : Nat → Int32) : Option (Int32 × Int32 × (Nat → Int32)) :=
  letv ((m_typed (1 : Int32).toNatClampNeg)) (fun v1 => bindS (loopF (fun q : Int32 × Int32 × (Nat → Int32) => f_X9_readsHouses_L14 m_bytes v1 q.1 q.2.1 q.2.2) FU ((0 : Int32), (0 : Int32), m_house)) (unc3 (fun u10 u11 u12 => some (u10, (0 : Int32), u12))) (unc2 (fun u13 u14 => if v1 ≤ 0 then (some ((-1 : Int32), u13, u14)) else (if (v1 - v1 / (4 : Int32) * (4 : Int32)) = (3 : Int32) then (some ((-1 : Int32), u13, u14)) else (some (v1, (0 : Int32), u14))))))
set_option maxHeartbeats 4000000 in
set_option maxRecDepth 100000 in
theorem k_X9_readsHouses (C : Cx RX9 cX9_readsHouses 7 D cA p s m args c) (hr : meth.sig.returnType = (some .int)) (hlk : meth.locks = false) (hA : ∀ q, s.heap.size ≤ q → va_A ws0 sz q) (b : Nat → Nat) (m_latest : Int32) (m_cells : Int32) (m_wide : Int32) (m_houses : Int32) (m_bowls : Int32) (m_dogs : Int32) (m_gone : Int32) (m_sights : Int32) (m_drawn : Int32) (m_bytes : Nat → Int32) (m_typed : Nat → Int32) (m_house : Nat → Int32) (r : Int32 × Int32 × (Nat → Int32)) (hf : f_X9_readsHouses m_houses m_bytes m_typed m_house = some r) : At p l e rm_X9_readsHouses s m args below meth c D (va_A ws0 sz) 0 0 (MQ below (PostI D r.1 ws0 (wl_X9_readsHouses cA b m_latest m_cells m_wide (r.2.1) m_bowls m_dogs m_gone m_sights m_drawn m_bytes m_typed (r.2.2)) sz) args s 0 0 (va_A ws0 sz)) 7 0 (wl_X9_readsHouses cA b m_latest m_cells m_wide m_houses m_bowls m_dogs m_gone m_sights m_drawn m_bytes m_typed m_house) [(0, .ref (b 0))] [] := by
  intro H locs ls hP hD hS hl
  have hx := C.1
  have hb := C.2.1
  have hown := C.2.2.2.1
  have hts := C.2.2.2.2.1
  unfold f_X9_readsHouses at hf
  refine lv_aload_n (pc := 0) hx hb dX9_readsHouses_0 rfl (lv_at hl 0 rfl) ?_
  refine lv_iconst (pc := 1) (v := 0) hx hb dX9_readsHouses_1 ic_0 ?_
  refine g_put (pc := 2) C fg_X9_106 ft_X9_10 hP hD hS 0 rfl rfl rfl (Nat.le_of_ble_eq_true rfl) dX9_readsHouses_2 (fun H locs hP hD hS => ?_)
  have hP : va_P D classes (wl_X9_readsHouses cA b m_latest m_cells m_wide (0 : Int32) m_bowls m_dogs m_gone m_sights m_drawn m_bytes m_typed m_house) H := hP
  have hD : va_D (va_A ws0 sz) (wl_X9_readsHouses cA b m_latest m_cells m_wide (0 : Int32) m_bowls m_dogs m_gone m_sights m_drawn m_bytes m_typed m_house) := hD
  refine lv_aload_n (pc := 5) hx hb dX9_readsHouses_5 rfl (lv_at hl 0 rfl) ?_
  refine g_get (pc := 6) C fg_X9_25 hP 0 rfl rfl dX9_readsHouses_6 ?_
  refine lv_iconst (pc := 9) (v := 1) hx hb dX9_readsHouses_9 ic_1 ?_
  refine g_iald (pc := 10) C hP 2 rfl (by decide) dX9_readsHouses_10 ?_
  obtain ⟨v1, e_v1, hf⟩ := letv_some hf
  refine tp_i e_v1 ?_
  refine lv_istore_n (pc := 11) (lv' := [(1, .int v1), (0, .ref (b 0))]) hx hb dX9_readsHouses_11 rfl hl (Nat.le_of_ble_eq_true rfl) rfl (fun ls hl => ?_)
  refine lv_iconst (pc := 12) (v := 0) hx hb dX9_readsHouses_12 ic_0 ?_
  refine lv_istore_n (pc := 13) (lv' := [(2, .int (0 : Int32)), (1, .int v1), (0, .ref (b 0))]) hx hb dX9_readsHouses_13 rfl hl (Nat.le_of_ble_eq_true rfl) rfl (fun ls hl => ?_)
  rcases bindS_some hf with ⟨z, hq, hf⟩ | ⟨z, hq, hf⟩
  · obtain ⟨u10, u11, u12⟩ := z
    have hf := unc3_some hf
    refine kl_X9_readsHouses_L14 C hA b m_latest m_cells m_wide m_bowls m_dogs m_gone m_sights m_drawn m_bytes m_typed v1 FU ((0 : Int32), (0 : Int32), m_house) _ hq ?_ H locs ls hP hD hS (lv_sub hl [2, 1, 0] rfl)
    intro H locs ls hP hD hS hl
    have hP : va_P D classes (wl_X9_readsHouses cA b m_latest m_cells m_wide u11 m_bowls m_dogs m_gone m_sights m_drawn m_bytes m_typed u12) H := hP
    have hD : va_D (va_A ws0 sz) (wl_X9_readsHouses cA b m_latest m_cells m_wide u11 m_bowls m_dogs m_gone m_sights m_drawn m_bytes m_typed u12) := hD
    have hl : lv_has ls 7 [(0, .ref (b 0)), (2, .int u10)] := hl
    refine lv_aload_n (pc := 83) hx hb dX9_readsHouses_83 rfl (lv_at hl 0 rfl) ?_
    refine lv_iconst (pc := 84) (v := 0) hx hb dX9_readsHouses_84 ic_0 ?_
    refine g_put (pc := 85) C fg_X9_106 ft_X9_10 hP hD hS 0 rfl rfl rfl (Nat.le_of_ble_eq_true rfl) dX9_readsHouses_85 (fun H locs hP hD hS => ?_)
    have hP : va_P D classes (wl_X9_readsHouses cA b m_latest m_cells m_wide (0 : Int32) m_bowls m_dogs m_gone m_sights m_drawn m_bytes m_typed u12) H := hP
    have hD : va_D (va_A ws0 sz) (wl_X9_readsHouses cA b m_latest m_cells m_wide (0 : Int32) m_bowls m_dogs m_gone m_sights m_drawn m_bytes m_typed u12) := hD
    refine lv_iload_n (pc := 88) hx hb dX9_readsHouses_88 rfl (lv_at hl 1 rfl) ?_
    have hf := Option.some.inj hf
    subst hf
    exact ret_i C hr hlk hP hS dX9_readsHouses_89
  · obtain ⟨u13, u14⟩ := z
    have hf := unc2_some hf
    refine kl_X9_readsHouses_L14 C hA b m_latest m_cells m_wide m_bowls m_dogs m_gone m_sights m_drawn m_bytes m_typed v1 FU ((0 : Int32), (0 : Int32), m_house) _ hq ?_ H locs ls hP hD hS (lv_sub hl [2, 1, 0] rfl)
    intro H locs ls hP hD hS hl
    have hP : va_P D classes (wl_X9_readsHouses cA b m_latest m_cells m_wide u13 m_bowls m_dogs m_gone m_sights m_drawn m_bytes m_typed u14) H := hP
    have hD : va_D (va_A ws0 sz) (wl_X9_readsHouses cA b m_latest m_cells m_wide u13 m_bowls m_dogs m_gone m_sights m_drawn m_bytes m_typed u14) := hD
    have hl : lv_has ls 7 [(0, .ref (b 0)), (1, .int v1)] := hl
    refine lv_iload_n (pc := 177) hx hb dX9_readsHouses_177 rfl (lv_at hl 1 rfl) ?_
    refine lv_if_le (pc := 178) (tgt := 195) hx hb dX9_readsHouses_178 (by decide) (fun hc => ?_) (fun hc => ?_)
    · have hf := (if_pos hc).symm.trans hf
      refine lv_iconst (pc := 195) (v := (-1)) hx hb dX9_readsHouses_195 ic_m1 ?_
      have hf := Option.some.inj hf
      subst hf
      exact ret_i C hr hlk hP hS dX9_readsHouses_196
    · have hf := (if_neg hc).symm.trans hf
      refine lv_iload_n (pc := 181) hx hb dX9_readsHouses_181 rfl (lv_at hl 1 rfl) ?_
      refine lv_iconst (pc := 182) (v := 4) hx hb dX9_readsHouses_182 ic_4 ?_
      refine lv_irem (pc := 183) hx hb dX9_readsHouses_183 (by decide) ?_
      refine lv_iconst (pc := 184) (v := 3) hx hb dX9_readsHouses_184 ic_3 ?_
      refine lv_icmp_eq (pc := 185) (tgt := 195) hx hb dX9_readsHouses_185 (by decide) (fun hc => ?_) (fun hc => ?_)
      · have hf := (if_pos hc).symm.trans hf
        refine lv_iconst (pc := 195) (v := (-1)) hx hb dX9_readsHouses_195 ic_m1 ?_
        have hf := Option.some.inj hf
        subst hf
        exact ret_i C hr hlk hP hS dX9_readsHouses_196
      · have hf := (if_neg hc).symm.trans hf
        refine lv_aload_n (pc := 188) hx hb dX9_readsHouses_188 rfl (lv_at hl 0 rfl) ?_
        refine lv_iconst (pc := 189) (v := 0) hx hb dX9_readsHouses_189 ic_0 ?_
        refine g_put (pc := 190) C fg_X9_106 ft_X9_10 hP hD hS 0 rfl rfl rfl (Nat.le_of_ble_eq_true rfl) dX9_readsHouses_190 (fun H locs hP hD hS => ?_)
        have hP : va_P D classes (wl_X9_readsHouses cA b m_latest m_cells m_wide (0 : Int32) m_bowls m_dogs m_gone m_sights m_drawn m_bytes m_typed u14) H := hP
        have hD : va_D (va_A ws0 sz) (wl_X9_readsHouses cA b m_latest m_cells m_wide (0 : Int32) m_bowls m_dogs m_gone m_sights m_drawn m_bytes m_typed u14) := hD
        refine lv_iload_n (pc := 193) hx hb dX9_readsHouses_193 rfl (lv_at hl 1 rfl) ?_
        have hf := Option.some.inj hf
        subst hf
        exact ret_i C hr hlk hP hS dX9_readsHouses_194
set_option maxRecDepth 100000 in
theorem c_X9_readsHouses (l : Launch) (D : va_G) (cA : Nat → ClassId) (b : Nat → Nat) (m_latest : Int32) (m_cells : Int32) (m_wide : Int32) (m_houses : Int32) (m_bowls : Int32) (m_dogs : Int32) (m_gone : Int32) (m_sights : Int32) (m_drawn : Int32) (m_bytes : Nat → Int32) (m_typed : Nat → Int32) (m_house : Nat → Int32) (r : Int32 × Int32 × (Nat → Int32)) (hf : f_X9_readsHouses m_houses m_bytes m_typed m_house = some r) (sz : Nat) : Met l yX9_readsHouses (Cond.code yX9_readsHouses cX9_readsHouses 7 (some .int) :: lw_good) rm_X9_readsHouses (PreX D cA [.ref (b 0)] sz (wl_X9_readsHouses cA b m_latest m_cells m_wide m_houses m_bowls m_dogs m_gone m_sights m_drawn m_bytes m_typed m_house)) (PostI D r.1 (wl_X9_readsHouses cA b m_latest m_cells m_wide m_houses m_bowls m_dogs m_gone m_sights m_drawn m_bytes m_typed m_house) (wl_X9_readsHouses cA b m_latest m_cells m_wide (r.2.1) m_bowls m_dogs m_gone m_sights m_drawn m_bytes m_typed (r.2.2)) sz) 0 0 (va_A (wl_X9_readsHouses cA b m_latest m_cells m_wide m_houses m_bowls m_dogs m_gone m_sights m_drawn m_bytes m_typed m_house) sz) :=
  met_of (by decide) (Nat.le_of_ble_eq_true rfl) (fun p e s m args below meth c C hr hlk hA => k_X9_readsHouses C hr hlk hA b m_latest m_cells m_wide m_houses m_bowls m_dogs m_gone m_sights m_drawn m_bytes m_typed m_house r hf)
end

abbrev wl_X9_fault (cA : Nat → ClassId) (b : Nat → Nat) (m_latest : Int32) (m_cells : Int32) (m_wide : Int32) (m_houses : Int32) (m_bowls : Int32) (m_dogs : Int32) (m_gone : Int32) (m_sights : Int32) (m_drawn : Int32) (m_bytes : Nat → Int32) (m_typed : Nat → Int32) (m_cell : Nat → Int32) (m_house : Nat → Int32) : va_W := [((b 0), .inr (9, [.ref (b 1), .ref (b 2), .ref (b 3), .ref (b 4), .int m_latest, .ref (b 5), .ref (b 6), .int m_cells, .int m_wide, .ref (b 7), .int m_houses, .ref (b 8), .ref (b 9), .int m_bowls, .ref (b 10), .int m_dogs, .ref (b 11), .int m_gone, .ref (b 12), .ref (b 13), .ref (b 14), .int m_sights, .ref (b 15), .ref (b 16), .int m_drawn])), ((b 5), .inl (cA 0, 84, .inl m_bytes)), ((b 6), .inl (cA 0, 2, .inl m_typed)), ((b 7), .inl (cA 0, 36, .inl m_cell)), ((b 8), .inl (cA 0, 16, .inl m_house))]
abbrev rm_X9_fault : Room := { frames := 2, cells := 0, slots := 0, locals := 51 }
section
variable {p : Program} {l : Launch} {e : Env} {s : State} {m : MethodId} {args : Array Value} {below : List Frame} {meth : Method} {c : Code} {D : va_G} {cA : Nat → ClassId} {ws0 : va_W} {sz : Nat} {A : Nat → Prop} {Q : State → Prop}
def f_X9_fault (m_cells : Int32) (m_wide : Int32) (m_houses : Int32) (m_bytes : Nat → Int32) (m_typed : Nat → Int32) (m_cell : Nat → Int32) (m_house : Nat → Int32) (x1 : Int32) : Option (Int32 × Int32 × Int32 × Int32 × (Nat → Int32) × (Nat → Int32)) :=
  bind1 (f_X9_isTwo x1) (fun r1 => if r1 = 0 then (some ((-2 : Int32), m_cells, m_wide, m_houses, m_cell, m_house)) else (if x1 = 0 then (bind4 (f_X9_readsLand m_cells m_wide m_bytes m_typed m_cell) (fun r5 c6 c7 c8 => some (r5, c6, c7, m_houses, c8, m_house))) else (bind3 (f_X9_readsHouses m_houses m_bytes m_typed m_house) (fun r2 c3 c4 => some (r2, m_cells, m_wide, c3, m_cell, c4)))))
set_option maxHeartbeats 4000000 in
set_option maxRecDepth 100000 in
theorem k_X9_fault (C : Cx RX9 cX9_fault 2 D cA p s m args c) (hr : meth.sig.returnType = (some .int)) (hlk : meth.locks = false) (hA : ∀ q, s.heap.size ≤ q → va_A ws0 sz q) (b : Nat → Nat) (m_latest : Int32) (m_cells : Int32) (m_wide : Int32) (m_houses : Int32) (m_bowls : Int32) (m_dogs : Int32) (m_gone : Int32) (m_sights : Int32) (m_drawn : Int32) (m_bytes : Nat → Int32) (m_typed : Nat → Int32) (m_cell : Nat → Int32) (m_house : Nat → Int32) (x1 : Int32) (r : Int32 × Int32 × Int32 × Int32 × (Nat → Int32) × (Nat → Int32)) (hf : f_X9_fault m_cells m_wide m_houses m_bytes m_typed m_cell m_house x1 = some r) : At p l e rm_X9_fault s m args below meth c D (va_A ws0 sz) 0 0 (MQ below (PostI D r.1 ws0 (wl_X9_fault cA b m_latest (r.2.1) (r.2.2.1) (r.2.2.2.1) m_bowls m_dogs m_gone m_sights m_drawn m_bytes m_typed (r.2.2.2.2.1) (r.2.2.2.2.2)) sz) args s 0 0 (va_A ws0 sz)) 2 0 (wl_X9_fault cA b m_latest m_cells m_wide m_houses m_bowls m_dogs m_gone m_sights m_drawn m_bytes m_typed m_cell m_house) [(0, .ref (b 0)), (1, .int x1)] [] := by
  intro H locs ls hP hD hS hl
  have hx := C.1
  have hb := C.2.1
  have hown := C.2.2.2.1
  have hts := C.2.2.2.2.1
  unfold f_X9_fault at hf
  refine lv_iload_n (pc := 0) hx hb dX9_fault_0 rfl (lv_at hl 1 rfl) ?_
  obtain ⟨r1, hq, hf⟩ := bind1_some hf
  refine fin2_i (wl_X9_fault cA b m_latest m_cells m_wide m_houses m_bowls m_dogs m_gone m_sights m_drawn m_bytes m_typed m_cell m_house) (run_S (rest := []) (pc := 1) (As := [.int x1]) C mf_X9_89 (c_X9_isTwo l D cA  x1 r1 hq H.size) rfl rfl ⟨(Nat.le_of_ble_eq_true rfl), (Nat.le_of_ble_eq_true rfl)⟩ (preS_of C hP hD [] rfl (pl_nd pv_27)) rfl hl.1 rfl (Nat.le_of_ble_eq_true rfl) dX9_fault_1 ⟨Nat.zero_le _, Nat.zero_le _⟩) hP hD hS hA [] [0, 1, 2, 3, 4] rfl rfl rfl rfl pv_27 (fun H locs hP hS => ?_)
  refine lv_if_ne (pc := 4) (tgt := 12) hx hb dX9_fault_4 (by decide) (fun hc => ?_) (fun hc => ?_)
  · have hf := (if_neg hc).symm.trans hf
    refine lv_iload_n (pc := 12) hx hb dX9_fault_12 rfl (lv_at hl 1 rfl) ?_
    refine lv_if_ne (pc := 13) (tgt := 23) hx hb dX9_fault_13 (by decide) (fun hc => ?_) (fun hc => ?_)
    · have hf := (if_neg hc).symm.trans hf
      refine lv_aload_n (pc := 23) hx hb dX9_fault_23 rfl (lv_at hl 0 rfl) ?_
      obtain ⟨r2, c3, c4, hq, hf⟩ := bind3_some hf
      refine fin2_i (wl_X9_fault cA b m_latest m_cells m_wide c3 m_bowls m_dogs m_gone m_sights m_drawn m_bytes m_typed m_cell c4) (run_V (rest := []) (pc := 24) (As := []) C mf_X9_119 (c_X9_readsHouses l D cA b m_latest m_cells m_wide m_houses m_bowls m_dogs m_gone m_sights m_drawn m_bytes m_typed m_house (r2, c3, c4) hq H.size) rfl rfl ⟨(Nat.le_of_ble_eq_true rfl), (Nat.le_of_ble_eq_true rfl)⟩ (preV_of C hP hD [0, 1, 2, 4] rfl (pl_nd pv_123) 0 rfl rfl rfl) rfl hl.1 rfl (Nat.le_of_ble_eq_true rfl) dX9_fault_24 ⟨Nat.zero_le _, Nat.zero_le _⟩) hP hD hS hA [0, 1, 2, 4] [3] rfl rfl rfl rfl pv_123 (fun H locs hP hS => ?_)
      have hD : va_D (va_A ws0 sz) (wl_X9_fault cA b m_latest m_cells m_wide c3 m_bowls m_dogs m_gone m_sights m_drawn m_bytes m_typed m_cell c4) := vd_a hD rfl
      have hf := Option.some.inj hf
      subst hf
      exact ret_i C hr hlk hP hS dX9_fault_27
    · have hf := (if_pos hc).symm.trans hf
      refine lv_aload_n (pc := 16) hx hb dX9_fault_16 rfl (lv_at hl 0 rfl) ?_
      obtain ⟨r5, c6, c7, c8, hq, hf⟩ := bind4_some hf
      refine fin2_i (wl_X9_fault cA b m_latest c6 c7 m_houses m_bowls m_dogs m_gone m_sights m_drawn m_bytes m_typed c8 m_house) (run_V (rest := []) (pc := 17) (As := []) C mf_X9_115 (c_X9_readsLand l D cA b m_latest m_cells m_wide m_houses m_bowls m_dogs m_gone m_sights m_drawn m_bytes m_typed m_cell (r5, c6, c7, c8) hq H.size) rfl rfl ⟨(Nat.le_of_ble_eq_true rfl), (Nat.le_of_ble_eq_true rfl)⟩ (preV_of C hP hD [0, 1, 2, 3] rfl (pl_nd pv_124) 0 rfl rfl rfl) rfl hl.1 rfl (Nat.le_of_ble_eq_true rfl) dX9_fault_17 ⟨Nat.zero_le _, Nat.zero_le _⟩) hP hD hS hA [0, 1, 2, 3] [4] rfl rfl rfl rfl pv_124 (fun H locs hP hS => ?_)
      have hD : va_D (va_A ws0 sz) (wl_X9_fault cA b m_latest c6 c7 m_houses m_bowls m_dogs m_gone m_sights m_drawn m_bytes m_typed c8 m_house) := vd_a hD rfl
      refine lv_goto (pc := 20) (tgt := 27) hx hb dX9_fault_20 (by decide) ?_
      have hf := Option.some.inj hf
      subst hf
      exact ret_i C hr hlk hP hS dX9_fault_27
  · have hf := (if_pos hc).symm.trans hf
    refine lv_bipush (pc := 7) (v := (-2)) hx hb dX9_fault_7 bp_m2 ?_
    refine lv_goto (pc := 9) (tgt := 27) hx hb dX9_fault_9 (by decide) ?_
    have hf := Option.some.inj hf
    subst hf
    exact ret_i C hr hlk hP hS dX9_fault_27
set_option maxRecDepth 100000 in
theorem c_X9_fault (l : Launch) (D : va_G) (cA : Nat → ClassId) (b : Nat → Nat) (m_latest : Int32) (m_cells : Int32) (m_wide : Int32) (m_houses : Int32) (m_bowls : Int32) (m_dogs : Int32) (m_gone : Int32) (m_sights : Int32) (m_drawn : Int32) (m_bytes : Nat → Int32) (m_typed : Nat → Int32) (m_cell : Nat → Int32) (m_house : Nat → Int32) (x1 : Int32) (r : Int32 × Int32 × Int32 × Int32 × (Nat → Int32) × (Nat → Int32)) (hf : f_X9_fault m_cells m_wide m_houses m_bytes m_typed m_cell m_house x1 = some r) (sz : Nat) : Met l yX9_fault (Cond.code yX9_fault cX9_fault 2 (some .int) :: lw_good) rm_X9_fault (PreX D cA [.ref (b 0), .int x1] sz (wl_X9_fault cA b m_latest m_cells m_wide m_houses m_bowls m_dogs m_gone m_sights m_drawn m_bytes m_typed m_cell m_house)) (PostI D r.1 (wl_X9_fault cA b m_latest m_cells m_wide m_houses m_bowls m_dogs m_gone m_sights m_drawn m_bytes m_typed m_cell m_house) (wl_X9_fault cA b m_latest (r.2.1) (r.2.2.1) (r.2.2.2.1) m_bowls m_dogs m_gone m_sights m_drawn m_bytes m_typed (r.2.2.2.2.1) (r.2.2.2.2.2)) sz) 0 0 (va_A (wl_X9_fault cA b m_latest m_cells m_wide m_houses m_bowls m_dogs m_gone m_sights m_drawn m_bytes m_typed m_cell m_house) sz) :=
  met_of (by decide) (Nat.le_of_ble_eq_true rfl) (fun p e s m args below meth c C hr hlk hA => k_X9_fault C hr hlk hA b m_latest m_cells m_wide m_houses m_bowls m_dogs m_gone m_sights m_drawn m_bytes m_typed m_cell m_house x1 r hf)
end

abbrev wl_X9_isCell (cA : Nat → ClassId) (b : Nat → Nat) (m_latest : Int32) (m_cells : Int32) (m_wide : Int32) (m_houses : Int32) (m_bowls : Int32) (m_dogs : Int32) (m_gone : Int32) (m_sights : Int32) (m_drawn : Int32) : va_W := [((b 0), .inr (9, [.ref (b 1), .ref (b 2), .ref (b 3), .ref (b 4), .int m_latest, .ref (b 5), .ref (b 6), .int m_cells, .int m_wide, .ref (b 7), .int m_houses, .ref (b 8), .ref (b 9), .int m_bowls, .ref (b 10), .int m_dogs, .ref (b 11), .int m_gone, .ref (b 12), .ref (b 13), .ref (b 14), .int m_sights, .ref (b 15), .ref (b 16), .int m_drawn]))]
abbrev rm_X9_isCell : Room := { frames := 1, cells := 0, slots := 0, locals := 25 }
section
variable {p : Program} {l : Launch} {e : Env} {s : State} {m : MethodId} {args : Array Value} {below : List Frame} {meth : Method} {c : Code} {D : va_G} {cA : Nat → ClassId} {ws0 : va_W} {sz : Nat} {A : Nat → Prop} {Q : State → Prop}
def f_X9_isCell (m_cells : Int32) (x1 : Int32) : Option (Int32) :=
  bind1 (f_X9_in (x1.toInt64) (0 : Int64) ((m_cells - (1 : Int32)).toInt64)) (fun r1 => gd (isz r1) (some r1))
set_option maxHeartbeats 4000000 in
set_option maxRecDepth 100000 in
theorem k_X9_isCell (C : Cx RX9 cX9_isCell 2 D cA p s m args c) (hr : meth.sig.returnType = (some .boolean)) (hlk : meth.locks = false) (hA : ∀ q, s.heap.size ≤ q → va_A ws0 sz q) (b : Nat → Nat) (m_latest : Int32) (m_cells : Int32) (m_wide : Int32) (m_houses : Int32) (m_bowls : Int32) (m_dogs : Int32) (m_gone : Int32) (m_sights : Int32) (m_drawn : Int32) (x1 : Int32) (r : Int32) (hf : f_X9_isCell m_cells x1 = some r) : At p l e rm_X9_isCell s m args below meth c D (va_A ws0 sz) 0 0 (MQ below (PostI D r ws0 (wl_X9_isCell cA b m_latest m_cells m_wide m_houses m_bowls m_dogs m_gone m_sights m_drawn) sz) args s 0 0 (va_A ws0 sz)) 2 0 (wl_X9_isCell cA b m_latest m_cells m_wide m_houses m_bowls m_dogs m_gone m_sights m_drawn) [(0, .ref (b 0)), (1, .int x1)] [] := by
  intro H locs ls hP hD hS hl
  have hx := C.1
  have hb := C.2.1
  have hown := C.2.2.2.1
  have hts := C.2.2.2.2.1
  unfold f_X9_isCell at hf
  refine lv_iload_n (pc := 0) hx hb dX9_isCell_0 rfl (lv_at hl 1 rfl) ?_
  refine lv_i2l (pc := 1) hx hb dX9_isCell_1 rfl ?_
  refine lv_lconst (pc := 2) (v := 0) hx hb dX9_isCell_2 rfl ?_
  refine lv_aload_n (pc := 3) hx hb dX9_isCell_3 rfl (lv_at hl 0 rfl) ?_
  refine g_get (pc := 4) C fg_X9_94 hP 0 rfl rfl dX9_isCell_4 ?_
  refine lv_iconst (pc := 7) (v := 1) hx hb dX9_isCell_7 ic_1 ?_
  refine lv_isub (pc := 8) hx hb dX9_isCell_8 ?_
  refine lv_i2l (pc := 9) hx hb dX9_isCell_9 rfl ?_
  obtain ⟨r1, hq, hf⟩ := bind1_some hf
  refine fin2_i (wl_X9_isCell cA b m_latest m_cells m_wide m_houses m_bowls m_dogs m_gone m_sights m_drawn) (run_S (rest := []) (pc := 10) (As := [.long (x1.toInt64), .long (0 : Int64), .long ((m_cells - (1 : Int32)).toInt64)]) C mf_X9_60 (c_X9_in l D cA  (x1.toInt64) (0 : Int64) ((m_cells - (1 : Int32)).toInt64) r1 hq H.size) rfl rfl ⟨(Nat.le_of_ble_eq_true rfl), (Nat.le_of_ble_eq_true rfl)⟩ (preS_of C hP hD [] rfl (pl_nd pv_125)) rfl hl.1 rfl (Nat.le_of_ble_eq_true rfl) dX9_isCell_10 ⟨Nat.zero_le _, Nat.zero_le _⟩) hP hD hS hA [] [0] rfl rfl rfl rfl pv_125 (fun H locs hP hS => ?_)
  obtain ⟨hg, hf⟩ := gd_some hf
  have hf := Option.some.inj hf
  subst hf
  exact ret_z C hr hlk hg hP hS dX9_isCell_13
set_option maxRecDepth 100000 in
theorem c_X9_isCell (l : Launch) (D : va_G) (cA : Nat → ClassId) (b : Nat → Nat) (m_latest : Int32) (m_cells : Int32) (m_wide : Int32) (m_houses : Int32) (m_bowls : Int32) (m_dogs : Int32) (m_gone : Int32) (m_sights : Int32) (m_drawn : Int32) (x1 : Int32) (r : Int32) (hf : f_X9_isCell m_cells x1 = some r) (sz : Nat) : Met l yX9_isCell (Cond.code yX9_isCell cX9_isCell 2 (some .boolean) :: lw_good) rm_X9_isCell (PreX D cA [.ref (b 0), .int x1] sz (wl_X9_isCell cA b m_latest m_cells m_wide m_houses m_bowls m_dogs m_gone m_sights m_drawn)) (PostI D r (wl_X9_isCell cA b m_latest m_cells m_wide m_houses m_bowls m_dogs m_gone m_sights m_drawn) (wl_X9_isCell cA b m_latest m_cells m_wide m_houses m_bowls m_dogs m_gone m_sights m_drawn) sz) 0 0 (va_A (wl_X9_isCell cA b m_latest m_cells m_wide m_houses m_bowls m_dogs m_gone m_sights m_drawn) sz) :=
  met_of (by decide) (Nat.le_of_ble_eq_true rfl) (fun p e s m args below meth c C hr hlk hA => k_X9_isCell C hr hlk hA b m_latest m_cells m_wide m_houses m_bowls m_dogs m_gone m_sights m_drawn x1 r hf)
end

abbrev wl_X9_isHouse (cA : Nat → ClassId) (b : Nat → Nat) (m_latest : Int32) (m_cells : Int32) (m_wide : Int32) (m_houses : Int32) (m_bowls : Int32) (m_dogs : Int32) (m_gone : Int32) (m_sights : Int32) (m_drawn : Int32) : va_W := [((b 0), .inr (9, [.ref (b 1), .ref (b 2), .ref (b 3), .ref (b 4), .int m_latest, .ref (b 5), .ref (b 6), .int m_cells, .int m_wide, .ref (b 7), .int m_houses, .ref (b 8), .ref (b 9), .int m_bowls, .ref (b 10), .int m_dogs, .ref (b 11), .int m_gone, .ref (b 12), .ref (b 13), .ref (b 14), .int m_sights, .ref (b 15), .ref (b 16), .int m_drawn]))]
abbrev rm_X9_isHouse : Room := { frames := 1, cells := 0, slots := 0, locals := 25 }
section
variable {p : Program} {l : Launch} {e : Env} {s : State} {m : MethodId} {args : Array Value} {below : List Frame} {meth : Method} {c : Code} {D : va_G} {cA : Nat → ClassId} {ws0 : va_W} {sz : Nat} {A : Nat → Prop} {Q : State → Prop}
def f_X9_isHouse (m_houses : Int32) (x1 : Int32) : Option (Int32) :=
  bind1 (f_X9_in (x1.toInt64) (0 : Int64) ((m_houses - (1 : Int32)).toInt64)) (fun r1 => gd (isz r1) (some r1))
set_option maxHeartbeats 4000000 in
set_option maxRecDepth 100000 in
theorem k_X9_isHouse (C : Cx RX9 cX9_isHouse 2 D cA p s m args c) (hr : meth.sig.returnType = (some .boolean)) (hlk : meth.locks = false) (hA : ∀ q, s.heap.size ≤ q → va_A ws0 sz q) (b : Nat → Nat) (m_latest : Int32) (m_cells : Int32) (m_wide : Int32) (m_houses : Int32) (m_bowls : Int32) (m_dogs : Int32) (m_gone : Int32) (m_sights : Int32) (m_drawn : Int32) (x1 : Int32) (r : Int32) (hf : f_X9_isHouse m_houses x1 = some r) : At p l e rm_X9_isHouse s m args below meth c D (va_A ws0 sz) 0 0 (MQ below (PostI D r ws0 (wl_X9_isHouse cA b m_latest m_cells m_wide m_houses m_bowls m_dogs m_gone m_sights m_drawn) sz) args s 0 0 (va_A ws0 sz)) 2 0 (wl_X9_isHouse cA b m_latest m_cells m_wide m_houses m_bowls m_dogs m_gone m_sights m_drawn) [(0, .ref (b 0)), (1, .int x1)] [] := by
  intro H locs ls hP hD hS hl
  have hx := C.1
  have hb := C.2.1
  have hown := C.2.2.2.1
  have hts := C.2.2.2.2.1
  unfold f_X9_isHouse at hf
  refine lv_iload_n (pc := 0) hx hb dX9_isHouse_0 rfl (lv_at hl 1 rfl) ?_
  refine lv_i2l (pc := 1) hx hb dX9_isHouse_1 rfl ?_
  refine lv_lconst (pc := 2) (v := 0) hx hb dX9_isHouse_2 rfl ?_
  refine lv_aload_n (pc := 3) hx hb dX9_isHouse_3 rfl (lv_at hl 0 rfl) ?_
  refine g_get (pc := 4) C fg_X9_106 hP 0 rfl rfl dX9_isHouse_4 ?_
  refine lv_iconst (pc := 7) (v := 1) hx hb dX9_isHouse_7 ic_1 ?_
  refine lv_isub (pc := 8) hx hb dX9_isHouse_8 ?_
  refine lv_i2l (pc := 9) hx hb dX9_isHouse_9 rfl ?_
  obtain ⟨r1, hq, hf⟩ := bind1_some hf
  refine fin2_i (wl_X9_isHouse cA b m_latest m_cells m_wide m_houses m_bowls m_dogs m_gone m_sights m_drawn) (run_S (rest := []) (pc := 10) (As := [.long (x1.toInt64), .long (0 : Int64), .long ((m_houses - (1 : Int32)).toInt64)]) C mf_X9_60 (c_X9_in l D cA  (x1.toInt64) (0 : Int64) ((m_houses - (1 : Int32)).toInt64) r1 hq H.size) rfl rfl ⟨(Nat.le_of_ble_eq_true rfl), (Nat.le_of_ble_eq_true rfl)⟩ (preS_of C hP hD [] rfl (pl_nd pv_125)) rfl hl.1 rfl (Nat.le_of_ble_eq_true rfl) dX9_isHouse_10 ⟨Nat.zero_le _, Nat.zero_le _⟩) hP hD hS hA [] [0] rfl rfl rfl rfl pv_125 (fun H locs hP hS => ?_)
  obtain ⟨hg, hf⟩ := gd_some hf
  have hf := Option.some.inj hf
  subst hf
  exact ret_z C hr hlk hg hP hS dX9_isHouse_13
set_option maxRecDepth 100000 in
theorem c_X9_isHouse (l : Launch) (D : va_G) (cA : Nat → ClassId) (b : Nat → Nat) (m_latest : Int32) (m_cells : Int32) (m_wide : Int32) (m_houses : Int32) (m_bowls : Int32) (m_dogs : Int32) (m_gone : Int32) (m_sights : Int32) (m_drawn : Int32) (x1 : Int32) (r : Int32) (hf : f_X9_isHouse m_houses x1 = some r) (sz : Nat) : Met l yX9_isHouse (Cond.code yX9_isHouse cX9_isHouse 2 (some .boolean) :: lw_good) rm_X9_isHouse (PreX D cA [.ref (b 0), .int x1] sz (wl_X9_isHouse cA b m_latest m_cells m_wide m_houses m_bowls m_dogs m_gone m_sights m_drawn)) (PostI D r (wl_X9_isHouse cA b m_latest m_cells m_wide m_houses m_bowls m_dogs m_gone m_sights m_drawn) (wl_X9_isHouse cA b m_latest m_cells m_wide m_houses m_bowls m_dogs m_gone m_sights m_drawn) sz) 0 0 (va_A (wl_X9_isHouse cA b m_latest m_cells m_wide m_houses m_bowls m_dogs m_gone m_sights m_drawn) sz) :=
  met_of (by decide) (Nat.le_of_ble_eq_true rfl) (fun p e s m args below meth c C hr hlk hA => k_X9_isHouse C hr hlk hA b m_latest m_cells m_wide m_houses m_bowls m_dogs m_gone m_sights m_drawn x1 r hf)
end

abbrev rm_X9_isNight : Room := { frames := 1, cells := 0, slots := 0, locals := 25 }
section
variable {p : Program} {l : Launch} {e : Env} {s : State} {m : MethodId} {args : Array Value} {below : List Frame} {meth : Method} {c : Code} {D : va_G} {cA : Nat → ClassId} {ws0 : va_W} {sz : Nat} {A : Nat → Prop} {Q : State → Prop}
def f_X9_isNight (x0 : Int32) : Option (Int32) :=
  bind1 (f_X9_in (x0.toInt64) (0 : Int64) (9 : Int64)) (fun r1 => gd (isz r1) (some r1))
set_option maxHeartbeats 4000000 in
set_option maxRecDepth 100000 in
theorem k_X9_isNight (C : Cx RX9 cX9_isNight 1 D cA p s m args c) (hr : meth.sig.returnType = (some .boolean)) (hlk : meth.locks = false) (hA : ∀ q, s.heap.size ≤ q → va_A ws0 sz q) (x0 : Int32) (r : Int32) (hf : f_X9_isNight x0 = some r) : At p l e rm_X9_isNight s m args below meth c D (va_A ws0 sz) 0 0 (MQ below (PostI D r ws0 ([] : va_W) sz) args s 0 0 (va_A ws0 sz)) 1 0 ([] : va_W) [(0, .int x0)] [] := by
  intro H locs ls hP hD hS hl
  have hx := C.1
  have hb := C.2.1
  have hown := C.2.2.2.1
  have hts := C.2.2.2.2.1
  unfold f_X9_isNight at hf
  refine lv_iload_n (pc := 0) hx hb dX9_isNight_0 rfl (lv_at hl 0 rfl) ?_
  refine lv_i2l (pc := 1) hx hb dX9_isNight_1 rfl ?_
  refine lv_lconst (pc := 2) (v := 0) hx hb dX9_isNight_2 rfl ?_
  refine lv_ldc2 (pc := 3) hx hb hown (hts _ (lg_in mw_503 rfl)) dX9_isNight_3 ?_
  obtain ⟨r1, hq, hf⟩ := bind1_some hf
  refine fin2_i ([] : va_W) (run_S (rest := []) (pc := 6) (As := [.long (x0.toInt64), .long (0 : Int64), .long (9 : Int64)]) C mf_X9_60 (c_X9_in l D cA  (x0.toInt64) (0 : Int64) (9 : Int64) r1 hq H.size) rfl rfl ⟨(Nat.le_of_ble_eq_true rfl), (Nat.le_of_ble_eq_true rfl)⟩ (preS_of C hP hD [] rfl (pl_nd pv_26)) rfl hl.1 rfl (Nat.le_of_ble_eq_true rfl) dX9_isNight_6 ⟨Nat.zero_le _, Nat.zero_le _⟩) hP hD hS hA [] [] rfl rfl rfl rfl pv_26 (fun H locs hP hS => ?_)
  obtain ⟨hg, hf⟩ := gd_some hf
  have hf := Option.some.inj hf
  subst hf
  exact ret_z C hr hlk hg hP hS dX9_isNight_9
set_option maxRecDepth 100000 in
theorem c_X9_isNight (l : Launch) (D : va_G) (cA : Nat → ClassId) (x0 : Int32) (r : Int32) (hf : f_X9_isNight x0 = some r) (sz : Nat) : Met l yX9_isNight (Cond.code yX9_isNight cX9_isNight 1 (some .boolean) :: lw_good) rm_X9_isNight (PreX D cA [.int x0] sz ([] : va_W)) (PostI D r ([] : va_W) ([] : va_W) sz) 0 0 (va_A ([] : va_W) sz) :=
  met_of (by decide) (Nat.le_of_ble_eq_true rfl) (fun p e s m args below meth c C hr hlk hA => k_X9_isNight C hr hlk hA x0 r hf)
end
