abbrev wl_X0_reduce (cA : Nat → ClassId) (a_chances a_chances_shares : Nat) (chances_whole : Int64) (chances_above : Int64) (chances_below : Int64) (chances_shares : Nat → Int64) : va_W := [(a_chances, .inr (0, [.ref a_chances_shares, .long chances_whole, .long chances_above, .long chances_below])), (a_chances_shares, .inl (cA 1, 8, .inr (.inl chances_shares)))]
abbrev rm_X0_reduce : Room := { frames := 0, cells := 0, slots := 0, locals := 0 }
section
variable {p : Program} {l : Launch} {e : Env} {s : State} {m : MethodId} {args : Array Value} {below : List Frame} {meth : Method} {c : Code} {D : va_G} {cA : Nat → ClassId} {ws0 : va_W} {sz : Nat} {A : Nat → Prop} {Q : State → Prop}
def f_X0_reduce_L20 (x2 : Int32) (chances_above : Int64) (chances_below : Int64) : Option ((Int32 × Int64 × Int64) ⊕ (Int64 × Int64)) :=
  if (32 : Int32) ≤ x2 then (some (.inr (chances_above, chances_below))) else (if (lg_cmp chances_below (1 : Int64)) ≤ 0 then (some (.inr (chances_above, chances_below))) else (if (lg_cmp (chances_above - chances_above / (2 : Int64) * (2 : Int64)) (0 : Int64)) = 0 then (letv ((chances_above / (2 : Int64))) (fun v2 => letv ((chances_below / (2 : Int64))) (fun v3 => some (.inl ((x2 + 1), v2, v3))))) else (some (.inr (chances_above, chances_below)))))
set_option maxHeartbeats 4000000 in
set_option maxRecDepth 100000 in
theorem k_X0_reduce_L20 (C : Cx RX0 cX0_reduce 3 D cA p s m args c) (hA : ∀ q, s.heap.size ≤ q → A q) (a_chances a_chances_shares : Nat) (chances_whole : Int64) (chances_shares : Nat → Int64) (x2 : Int32) (chances_above : Int64) (chances_below : Int64) (r : (Int32 × Int64 × Int64) ⊕ (Int64 × Int64)) (hf : f_X0_reduce_L20 x2 chances_above chances_below = some r) (hK : Sum.elim (fun q : Int32 × Int64 × Int64 => At p l e rm_X0_reduce s m args below meth c D A 0 0 Q 3 20 (wl_X0_reduce cA a_chances a_chances_shares chances_whole (q.2.1) (q.2.2) chances_shares) [(0, .ref a_chances), (2, .int (q.1))] []) (fun q : Int64 × Int64 => At p l e rm_X0_reduce s m args below meth c D A 0 0 Q 3 78 (wl_X0_reduce cA a_chances a_chances_shares chances_whole (q.1) (q.2) chances_shares) [] []) r) : At p l e rm_X0_reduce s m args below meth c D A 0 0 Q 3 20 (wl_X0_reduce cA a_chances a_chances_shares chances_whole chances_above chances_below chances_shares) [(0, .ref a_chances), (2, .int x2)] [] := by
  intro H locs ls hP hD hS hl
  have hx := C.1
  have hb := C.2.1
  have hown := C.2.2.2.1
  have hts := C.2.2.2.2.1
  unfold f_X0_reduce_L20 at hf
  refine lv_iload_n (pc := 20) hx hb dX0_reduce_20 rfl (lv_at hl 1 rfl) ?_
  refine lv_bipush (pc := 21) (v := 32) hx hb dX0_reduce_21 bp_32 ?_
  refine lv_icmp_ge (pc := 23) (tgt := 78) hx hb dX0_reduce_23 (by decide) (fun hc => ?_) (fun hc => ?_)
  · have hf := (if_pos hc).symm.trans hf
    have hf := Option.some.inj hf
    subst hf
    exact hK H locs ls hP hD hS (lv_sub hl [] rfl)
  · have hf := (if_neg hc).symm.trans hf
    refine lv_aload_n (pc := 26) hx hb dX0_reduce_26 rfl (lv_at hl 0 rfl) ?_
    refine g_get (pc := 27) C fg_X0_22 hP 0 rfl rfl dX0_reduce_27 ?_
    refine lv_lconst (pc := 30) (v := 1) hx hb dX0_reduce_30 rfl ?_
    refine W.lcmp (pc := 31) hx hb dX0_reduce_31 ?_
    refine lv_if_le (pc := 32) (tgt := 78) hx hb dX0_reduce_32 (by decide) (fun hc => ?_) (fun hc => ?_)
    · have hf := (if_pos hc).symm.trans hf
      have hf := Option.some.inj hf
      subst hf
      exact hK H locs ls hP hD hS (lv_sub hl [] rfl)
    · have hf := (if_neg hc).symm.trans hf
      refine lv_aload_n (pc := 35) hx hb dX0_reduce_35 rfl (lv_at hl 0 rfl) ?_
      refine g_get (pc := 36) C fg_X0_19 hP 0 rfl rfl dX0_reduce_36 ?_
      refine lv_ldc2 (pc := 39) hx hb hown (hts _ (lg_in mw_4 rfl)) dX0_reduce_39 ?_
      refine lv_lrem (pc := 42) hx hb dX0_reduce_42 (by decide) ?_
      refine lv_lconst (pc := 43) (v := 0) hx hb dX0_reduce_43 rfl ?_
      refine W.lcmp (pc := 44) hx hb dX0_reduce_44 ?_
      refine lv_if_ne (pc := 45) (tgt := 78) hx hb dX0_reduce_45 (by decide) (fun hc => ?_) (fun hc => ?_)
      · have hf := (if_neg hc).symm.trans hf
        have hf := Option.some.inj hf
        subst hf
        exact hK H locs ls hP hD hS (lv_sub hl [] rfl)
      · have hf := (if_pos hc).symm.trans hf
        refine lv_aload_n (pc := 48) hx hb dX0_reduce_48 rfl (lv_at hl 0 rfl) ?_
        refine lv_dup (pc := 49) hx hb dX0_reduce_49 rfl ?_
        refine g_get (pc := 50) C fg_X0_19 hP 0 rfl rfl dX0_reduce_50 ?_
        refine lv_ldc2 (pc := 53) hx hb hown (hts _ (lg_in mw_4 rfl)) dX0_reduce_53 ?_
        refine lv_ldiv (pc := 56) hx hb dX0_reduce_56 (by decide) ?_
        obtain ⟨v2, e_v2, hf⟩ := letv_some hf
        refine tp_l e_v2 ?_
        refine g_put (pc := 57) C fg_X0_19 ft_X0_2 hP hD hS 0 rfl rfl rfl (Nat.le_of_ble_eq_true rfl) dX0_reduce_57 (fun H locs hP hD hS => ?_)
        have hP : va_P D classes (wl_X0_reduce cA a_chances a_chances_shares chances_whole v2 chances_below chances_shares) H := hP
        have hD : va_D A (wl_X0_reduce cA a_chances a_chances_shares chances_whole v2 chances_below chances_shares) := hD
        refine lv_aload_n (pc := 60) hx hb dX0_reduce_60 rfl (lv_at hl 0 rfl) ?_
        refine lv_dup (pc := 61) hx hb dX0_reduce_61 rfl ?_
        refine g_get (pc := 62) C fg_X0_22 hP 0 rfl rfl dX0_reduce_62 ?_
        refine lv_ldc2 (pc := 65) hx hb hown (hts _ (lg_in mw_4 rfl)) dX0_reduce_65 ?_
        refine lv_ldiv (pc := 68) hx hb dX0_reduce_68 (by decide) ?_
        obtain ⟨v3, e_v3, hf⟩ := letv_some hf
        refine tp_l e_v3 ?_
        refine g_put (pc := 69) C fg_X0_22 ft_X0_3 hP hD hS 0 rfl rfl rfl (Nat.le_of_ble_eq_true rfl) dX0_reduce_69 (fun H locs hP hD hS => ?_)
        have hP : va_P D classes (wl_X0_reduce cA a_chances a_chances_shares chances_whole v2 v3 chances_shares) H := hP
        have hD : va_D A (wl_X0_reduce cA a_chances a_chances_shares chances_whole v2 v3 chances_shares) := hD
        refine lv_iinc (pc := 72) (v := (x2 + 1)) (lv' := [(2, .int (x2 + 1)), (0, .ref a_chances)]) hx hb dX0_reduce_72 hl (k := 1) rfl rfl (Nat.le_of_ble_eq_true rfl) rfl (fun ls hl => ?_)
        refine lv_goto (pc := 75) (tgt := 20) hx hb dX0_reduce_75 (by decide) ?_
        have hf := Option.some.inj hf
        subst hf
        exact hK H locs ls hP hD hS (lv_sub hl [1, 0] rfl)
theorem kl_X0_reduce_L20 (C : Cx RX0 cX0_reduce 3 D cA p s m args c) (hA : ∀ q, s.heap.size ≤ q → A q) (a_chances a_chances_shares : Nat) (chances_whole : Int64) (chances_shares : Nat → Int64) : ∀ (n : Nat) (q : Int32 × Int64 × Int64) (z : (Int64 × Int64)), loopF (fun q : Int32 × Int64 × Int64 => f_X0_reduce_L20 q.1 q.2.1 q.2.2) n q = some z → (fun q : Int64 × Int64 => At p l e rm_X0_reduce s m args below meth c D A 0 0 Q 3 78 (wl_X0_reduce cA a_chances a_chances_shares chances_whole (q.1) (q.2) chances_shares) [] []) z → At p l e rm_X0_reduce s m args below meth c D A 0 0 Q 3 20 (wl_X0_reduce cA a_chances a_chances_shares chances_whole (q.2.1) (q.2.2) chances_shares) [(0, .ref a_chances), (2, .int (q.1))] [] :=
  loop_lem (WP := fun q : Int32 × Int64 × Int64 => At p l e rm_X0_reduce s m args below meth c D A 0 0 Q 3 20 (wl_X0_reduce cA a_chances a_chances_shares chances_whole (q.2.1) (q.2.2) chances_shares) [(0, .ref a_chances), (2, .int (q.1))] []) (WE := (fun q : Int64 × Int64 => At p l e rm_X0_reduce s m args below meth c D A 0 0 Q 3 78 (wl_X0_reduce cA a_chances a_chances_shares chances_whole (q.1) (q.2) chances_shares) [] [])) (fun q r hf hK => k_X0_reduce_L20 C hA a_chances a_chances_shares chances_whole chances_shares q.1 q.2.1 q.2.2 r hf hK)
def f_X0_reduce (chances_whole : Int64) (chances_above : Int64) (chances_below : Int64) (chances_shares : Nat → Int64) (x1 : Int32) : Option (Int64 × Int64) :=
  gd (inb x1 8) (letv ((chances_shares x1.toNatClampNeg)) (fun v1 => bind2 (loopF (fun q : Int32 × Int64 × Int64 => f_X0_reduce_L20 q.1 q.2.1 q.2.2) FU ((0 : Int32), v1, chances_whole)) (fun u4 u5 => some (u4, u5))))
set_option maxHeartbeats 4000000 in
set_option maxRecDepth 100000 in
theorem k_X0_reduce (C : Cx RX0 cX0_reduce 3 D cA p s m args c) (hr : meth.sig.returnType = none) (hlk : meth.locks = false) (hA : ∀ q, s.heap.size ≤ q → va_A ws0 sz q) (a_chances a_chances_shares : Nat) (chances_whole : Int64) (chances_above : Int64) (chances_below : Int64) (chances_shares : Nat → Int64) (x1 : Int32) (r : Int64 × Int64) (hf : f_X0_reduce chances_whole chances_above chances_below chances_shares x1 = some r) : At p l e rm_X0_reduce s m args below meth c D (va_A ws0 sz) 0 0 (MQ below (PostV D ws0 (wl_X0_reduce cA a_chances a_chances_shares chances_whole (r.1) (r.2) chances_shares) sz) args s 0 0 (va_A ws0 sz)) 3 0 (wl_X0_reduce cA a_chances a_chances_shares chances_whole chances_above chances_below chances_shares) [(0, .ref a_chances), (1, .int x1)] [] := by
  intro H locs ls hP hD hS hl
  have hx := C.1
  have hb := C.2.1
  have hown := C.2.2.2.1
  have hts := C.2.2.2.2.1
  unfold f_X0_reduce at hf
  refine lv_aload_n (pc := 0) hx hb dX0_reduce_0 rfl (lv_at hl 0 rfl) ?_
  refine lv_aload_n (pc := 1) hx hb dX0_reduce_1 rfl (lv_at hl 0 rfl) ?_
  refine g_get (pc := 2) C fg_X0_9 hP 0 rfl rfl dX0_reduce_2 ?_
  refine lv_iload_n (pc := 5) hx hb dX0_reduce_5 rfl (lv_at hl 1 rfl) ?_
  obtain ⟨hg, hf⟩ := gd_some hf
  refine g_lald (pc := 6) C hP 1 rfl hg dX0_reduce_6 ?_
  obtain ⟨v1, e_v1, hf⟩ := letv_some hf
  refine tp_l e_v1 ?_
  refine g_put (pc := 7) C fg_X0_19 ft_X0_2 hP hD hS 0 rfl rfl rfl (Nat.le_of_ble_eq_true rfl) dX0_reduce_7 (fun H locs hP hD hS => ?_)
  have hP : va_P D classes (wl_X0_reduce cA a_chances a_chances_shares chances_whole v1 chances_below chances_shares) H := hP
  have hD : va_D (va_A ws0 sz) (wl_X0_reduce cA a_chances a_chances_shares chances_whole v1 chances_below chances_shares) := hD
  refine lv_aload_n (pc := 10) hx hb dX0_reduce_10 rfl (lv_at hl 0 rfl) ?_
  refine lv_aload_n (pc := 11) hx hb dX0_reduce_11 rfl (lv_at hl 0 rfl) ?_
  refine g_get (pc := 12) C fg_X0_15 hP 0 rfl rfl dX0_reduce_12 ?_
  refine g_put (pc := 15) C fg_X0_22 ft_X0_3 hP hD hS 0 rfl rfl rfl (Nat.le_of_ble_eq_true rfl) dX0_reduce_15 (fun H locs hP hD hS => ?_)
  have hP : va_P D classes (wl_X0_reduce cA a_chances a_chances_shares chances_whole v1 chances_whole chances_shares) H := hP
  have hD : va_D (va_A ws0 sz) (wl_X0_reduce cA a_chances a_chances_shares chances_whole v1 chances_whole chances_shares) := hD
  refine lv_iconst (pc := 18) (v := 0) hx hb dX0_reduce_18 ic_0 ?_
  refine lv_istore_n (pc := 19) (lv' := [(2, .int (0 : Int32)), (0, .ref a_chances), (1, .int x1)]) hx hb dX0_reduce_19 rfl hl (Nat.le_of_ble_eq_true rfl) rfl (fun ls hl => ?_)
  obtain ⟨u4, u5, hq, hf⟩ := bind2_some hf
  refine kl_X0_reduce_L20 C hA a_chances a_chances_shares chances_whole chances_shares FU ((0 : Int32), v1, chances_whole) _ hq ?_ H locs ls hP hD hS (lv_sub hl [1, 0] rfl)
  intro H locs ls hP hD hS hl
  have hP : va_P D classes (wl_X0_reduce cA a_chances a_chances_shares chances_whole u4 u5 chances_shares) H := hP
  have hD : va_D (va_A ws0 sz) (wl_X0_reduce cA a_chances a_chances_shares chances_whole u4 u5 chances_shares) := hD
  have hl : lv_has ls 3 [] := hl
  have hf := Option.some.inj hf
  subst hf
  exact ret_v C hr hlk hP hS dX0_reduce_78
set_option maxRecDepth 100000 in
theorem c_X0_reduce (l : Launch) (D : va_G) (cA : Nat → ClassId) (a_chances a_chances_shares : Nat) (chances_whole : Int64) (chances_above : Int64) (chances_below : Int64) (chances_shares : Nat → Int64) (x1 : Int32) (r : Int64 × Int64) (hf : f_X0_reduce chances_whole chances_above chances_below chances_shares x1 = some r) (sz : Nat) : Met l yX0_reduce (Cond.code yX0_reduce cX0_reduce 3 none :: lw_good) rm_X0_reduce (PreX D cA [.ref a_chances, .int x1] sz (wl_X0_reduce cA a_chances a_chances_shares chances_whole chances_above chances_below chances_shares)) (PostV D (wl_X0_reduce cA a_chances a_chances_shares chances_whole chances_above chances_below chances_shares) (wl_X0_reduce cA a_chances a_chances_shares chances_whole (r.1) (r.2) chances_shares) sz) 0 0 (va_A (wl_X0_reduce cA a_chances a_chances_shares chances_whole chances_above chances_below chances_shares) sz) :=
  met_of (by decide) (Nat.le_of_ble_eq_true rfl) (fun p e s m args below meth c C hr hlk hA => k_X0_reduce C hr hlk hA a_chances a_chances_shares chances_whole chances_above chances_below chances_shares x1 r hf)
end

abbrev rm_X1_fits : Room := { frames := 0, cells := 0, slots := 0, locals := 0 }
section
variable {p : Program} {l : Launch} {e : Env} {s : State} {m : MethodId} {args : Array Value} {below : List Frame} {meth : Method} {c : Code} {D : va_G} {cA : Nat → ClassId} {ws0 : va_W} {sz : Nat} {A : Nat → Prop} {Q : State → Prop}
def f_X1_fits_b35 (s0 : Int32) (s1 : Int32) : Option (Int32) :=
  if s0 < s1 then (some (0 : Int32)) else (some (1 : Int32))
set_option maxHeartbeats 4000000 in
set_option maxRecDepth 100000 in
theorem k_X1_fits_b35 (C : Cx RX1 cX1_fits 2 D cA p s m args c) (hr : meth.sig.returnType = (some .boolean)) (hlk : meth.locks = false) (hA : ∀ q, s.heap.size ≤ q → va_A ws0 sz q) (s0 : Int32) (s1 : Int32) (r : Int32) (hf : f_X1_fits_b35 s0 s1 = some r) : At p l e rm_X1_fits s m args below meth c D (va_A ws0 sz) 0 0 (MQ below (PostI D r ws0 ([] : va_W) sz) args s 0 0 (va_A ws0 sz)) 2 35 ([] : va_W) [] [.int s0, .int s1] := by
  intro H locs ls hP hD hS hl
  have hx := C.1
  have hb := C.2.1
  have hown := C.2.2.2.1
  have hts := C.2.2.2.2.1
  unfold f_X1_fits_b35 at hf
  refine lv_icmp_gt (pc := 35) (tgt := 42) hx hb dX1_fits_35 (by decide) (fun hc => ?_) (fun hc => ?_)
  · have hf := (if_pos hc).symm.trans hf
    refine lv_iconst (pc := 42) (v := 0) hx hb dX1_fits_42 ic_0 ?_
    have hf := Option.some.inj hf
    subst hf
    exact ret_z C hr hlk isz_0 hP hS dX1_fits_43
  · have hf := (if_neg hc).symm.trans hf
    refine lv_iconst (pc := 38) (v := 1) hx hb dX1_fits_38 ic_1 ?_
    refine lv_goto (pc := 39) (tgt := 43) hx hb dX1_fits_39 (by decide) ?_
    have hf := Option.some.inj hf
    subst hf
    exact ret_z C hr hlk isz_1 hP hS dX1_fits_43
def f_X1_fits (x0 : Int32) (x1 : Int32) : Option (Int32) :=
  if x1 = (3 : Int32) then (if x0 = (59 : Int32) then (some (1 : Int32)) else (some (0 : Int32))) else (if x0 < (48 : Int32) then (some (0 : Int32)) else (if x1 = 0 then (f_X1_fits_b35 (51 : Int32) x0) else (f_X1_fits_b35 (57 : Int32) x0)))
set_option maxHeartbeats 4000000 in
set_option maxRecDepth 100000 in
theorem k_X1_fits (C : Cx RX1 cX1_fits 2 D cA p s m args c) (hr : meth.sig.returnType = (some .boolean)) (hlk : meth.locks = false) (hA : ∀ q, s.heap.size ≤ q → va_A ws0 sz q) (x0 : Int32) (x1 : Int32) (r : Int32) (hf : f_X1_fits x0 x1 = some r) : At p l e rm_X1_fits s m args below meth c D (va_A ws0 sz) 0 0 (MQ below (PostI D r ws0 ([] : va_W) sz) args s 0 0 (va_A ws0 sz)) 2 0 ([] : va_W) [(0, .int x0), (1, .int x1)] [] := by
  intro H locs ls hP hD hS hl
  have hx := C.1
  have hb := C.2.1
  have hown := C.2.2.2.1
  have hts := C.2.2.2.2.1
  unfold f_X1_fits at hf
  refine lv_iload_n (pc := 0) hx hb dX1_fits_0 rfl (lv_at hl 1 rfl) ?_
  refine lv_iconst (pc := 1) (v := 3) hx hb dX1_fits_1 ic_3 ?_
  refine lv_icmp_ne (pc := 2) (tgt := 17) hx hb dX1_fits_2 (by decide) (fun hc => ?_) (fun hc => ?_)
  · have hf := (if_neg hc).symm.trans hf
    refine lv_iload_n (pc := 17) hx hb dX1_fits_17 rfl (lv_at hl 0 rfl) ?_
    refine lv_bipush (pc := 18) (v := 48) hx hb dX1_fits_18 bp_48 ?_
    refine lv_icmp_lt (pc := 20) (tgt := 42) hx hb dX1_fits_20 (by decide) (fun hc => ?_) (fun hc => ?_)
    · have hf := (if_pos hc).symm.trans hf
      refine lv_iconst (pc := 42) (v := 0) hx hb dX1_fits_42 ic_0 ?_
      have hf := Option.some.inj hf
      subst hf
      exact ret_z C hr hlk isz_0 hP hS dX1_fits_43
    · have hf := (if_neg hc).symm.trans hf
      refine lv_iload_n (pc := 23) hx hb dX1_fits_23 rfl (lv_at hl 0 rfl) ?_
      refine lv_iload_n (pc := 24) hx hb dX1_fits_24 rfl (lv_at hl 1 rfl) ?_
      refine lv_if_ne (pc := 25) (tgt := 33) hx hb dX1_fits_25 (by decide) (fun hc => ?_) (fun hc => ?_)
      · have hf := (if_neg hc).symm.trans hf
        refine lv_bipush (pc := 33) (v := 57) hx hb dX1_fits_33 bp_57 ?_
        exact k_X1_fits_b35 C hr hlk hA (57 : Int32) x0 r hf H locs ls hP hD hS (lv_sub hl [] rfl)
      · have hf := (if_pos hc).symm.trans hf
        refine lv_bipush (pc := 28) (v := 51) hx hb dX1_fits_28 bp_51 ?_
        refine lv_goto (pc := 30) (tgt := 35) hx hb dX1_fits_30 (by decide) ?_
        exact k_X1_fits_b35 C hr hlk hA (51 : Int32) x0 r hf H locs ls hP hD hS (lv_sub hl [] rfl)
  · have hf := (if_pos hc).symm.trans hf
    refine lv_iload_n (pc := 5) hx hb dX1_fits_5 rfl (lv_at hl 0 rfl) ?_
    refine lv_bipush (pc := 6) (v := 59) hx hb dX1_fits_6 bp_59 ?_
    refine lv_icmp_ne (pc := 8) (tgt := 15) hx hb dX1_fits_8 (by decide) (fun hc => ?_) (fun hc => ?_)
    · have hf := (if_neg hc).symm.trans hf
      refine lv_iconst (pc := 15) (v := 0) hx hb dX1_fits_15 ic_0 ?_
      have hf := Option.some.inj hf
      subst hf
      exact ret_z C hr hlk isz_0 hP hS dX1_fits_16
    · have hf := (if_pos hc).symm.trans hf
      refine lv_iconst (pc := 11) (v := 1) hx hb dX1_fits_11 ic_1 ?_
      refine lv_goto (pc := 12) (tgt := 16) hx hb dX1_fits_12 (by decide) ?_
      have hf := Option.some.inj hf
      subst hf
      exact ret_z C hr hlk isz_1 hP hS dX1_fits_16
set_option maxRecDepth 100000 in
theorem c_X1_fits (l : Launch) (D : va_G) (cA : Nat → ClassId) (x0 : Int32) (x1 : Int32) (r : Int32) (hf : f_X1_fits x0 x1 = some r) (sz : Nat) : Met l yX1_fits (Cond.code yX1_fits cX1_fits 2 (some .boolean) :: lw_good) rm_X1_fits (PreX D cA [.int x0, .int x1] sz ([] : va_W)) (PostI D r ([] : va_W) ([] : va_W) sz) 0 0 (va_A ([] : va_W) sz) :=
  met_of (by decide) (Nat.le_of_ble_eq_true rfl) (fun p e s m args below meth c C hr hlk hA => k_X1_fits C hr hlk hA x0 x1 r hf)
end

abbrev wl_X1_findFlaw (cA : Nat → ClassId) (a_T a_T_bytes : Nat) (nT : Nat) (T_length : Int32) (T_bytes : Nat → Int32) : va_W := [(a_T, .inr (6, [.ref a_T_bytes, .int T_length])), (a_T_bytes, .inl (cA 0, nT, .inl T_bytes))]
abbrev rm_X1_findFlaw : Room := { frames := 1, cells := 0, slots := 0, locals := 21 }
section
variable {p : Program} {l : Launch} {e : Env} {s : State} {m : MethodId} {args : Array Value} {below : List Frame} {meth : Method} {c : Code} {D : va_G} {cA : Nat → ClassId} {ws0 : va_W} {sz : Nat} {A : Nat → Prop} {Q : State → Prop}
def f_X1_findFlaw_L2 (nT : Nat) (T_length : Int32) (T_bytes : Nat → Int32) (x1 : Int32) : Option ((Int32) ⊕ ((Int32) ⊕ (Unit))) :=
  if T_length ≤ x1 then (some (.inr (.inr ()))) else (if (32 : Int32) ≤ x1 then (some (.inr (.inl x1))) else (gd (inb x1 nT) (bind1 (f_X1_fits (T_bytes x1.toNatClampNeg) (x1 - x1 / (4 : Int32) * (4 : Int32))) (fun r1 => if r1 = 0 then (some (.inr (.inl x1))) else (some (.inl (x1 + 1)))))))
set_option maxHeartbeats 4000000 in
set_option maxRecDepth 100000 in
theorem k_X1_findFlaw_L2 (C : Cx RX1 cX1_findFlaw 2 D cA p s m args c) (hA : ∀ q, s.heap.size ≤ q → A q) (a_T a_T_bytes : Nat) (nT : Nat) (T_length : Int32) (T_bytes : Nat → Int32) (x1 : Int32) (r : (Int32) ⊕ ((Int32) ⊕ (Unit))) (hf : f_X1_findFlaw_L2 nT T_length T_bytes x1 = some r) (hK : Sum.elim (fun q : Int32 => At p l e rm_X1_findFlaw s m args below meth c D A 0 0 Q 2 2 (wl_X1_findFlaw cA a_T a_T_bytes nT T_length T_bytes) [(0, .ref a_T), (1, .int q)] []) (Sum.elim (fun q : Int32 => At p l e rm_X1_findFlaw s m args below meth c D A 0 0 Q 2 31 (wl_X1_findFlaw cA a_T a_T_bytes nT T_length T_bytes) [(1, .int q)] []) (fun q : Unit => At p l e rm_X1_findFlaw s m args below meth c D A 0 0 Q 2 39 (wl_X1_findFlaw cA a_T a_T_bytes nT T_length T_bytes) [(0, .ref a_T)] [])) r) : At p l e rm_X1_findFlaw s m args below meth c D A 0 0 Q 2 2 (wl_X1_findFlaw cA a_T a_T_bytes nT T_length T_bytes) [(0, .ref a_T), (1, .int x1)] [] := by
  intro H locs ls hP hD hS hl
  have hx := C.1
  have hb := C.2.1
  have hown := C.2.2.2.1
  have hts := C.2.2.2.2.1
  unfold f_X1_findFlaw_L2 at hf
  refine lv_iload_n (pc := 2) hx hb dX1_findFlaw_2 rfl (lv_at hl 1 rfl) ?_
  refine lv_aload_n (pc := 3) hx hb dX1_findFlaw_3 rfl (lv_at hl 0 rfl) ?_
  refine g_get (pc := 4) C fg_X1_29 hP 0 rfl rfl dX1_findFlaw_4 ?_
  refine lv_icmp_ge (pc := 7) (tgt := 39) hx hb dX1_findFlaw_7 (by decide) (fun hc => ?_) (fun hc => ?_)
  · have hf := (if_pos hc).symm.trans hf
    have hf := Option.some.inj hf
    subst hf
    exact hK H locs ls hP hD hS (lv_sub hl [0] rfl)
  · have hf := (if_neg hc).symm.trans hf
    refine lv_iload_n (pc := 10) hx hb dX1_findFlaw_10 rfl (lv_at hl 1 rfl) ?_
    refine lv_bipush (pc := 11) (v := 32) hx hb dX1_findFlaw_11 bp_32 ?_
    refine lv_icmp_ge (pc := 13) (tgt := 31) hx hb dX1_findFlaw_13 (by decide) (fun hc => ?_) (fun hc => ?_)
    · have hf := (if_pos hc).symm.trans hf
      have hf := Option.some.inj hf
      subst hf
      exact hK H locs ls hP hD hS (lv_sub hl [1] rfl)
    · have hf := (if_neg hc).symm.trans hf
      refine lv_aload_n (pc := 16) hx hb dX1_findFlaw_16 rfl (lv_at hl 0 rfl) ?_
      refine g_get (pc := 17) C fg_X1_34 hP 0 rfl rfl dX1_findFlaw_17 ?_
      refine lv_iload_n (pc := 20) hx hb dX1_findFlaw_20 rfl (lv_at hl 1 rfl) ?_
      obtain ⟨hg, hf⟩ := gd_some hf
      refine g_iald (pc := 21) C hP 1 rfl hg dX1_findFlaw_21 ?_
      refine lv_iload_n (pc := 22) hx hb dX1_findFlaw_22 rfl (lv_at hl 1 rfl) ?_
      refine lv_iconst (pc := 23) (v := 4) hx hb dX1_findFlaw_23 ic_4 ?_
      refine lv_irem (pc := 24) hx hb dX1_findFlaw_24 (by decide) ?_
      obtain ⟨r1, hq, hf⟩ := bind1_some hf
      refine fin2_i (wl_X1_findFlaw cA a_T a_T_bytes nT T_length T_bytes) (run_S (rest := []) (pc := 25) (As := [.int (T_bytes x1.toNatClampNeg), .int (x1 - x1 / (4 : Int32) * (4 : Int32))]) C mf_X1_37 (c_X1_fits l D cA  (T_bytes x1.toNatClampNeg) (x1 - x1 / (4 : Int32) * (4 : Int32)) r1 hq H.size) rfl rfl ⟨(Nat.le_of_ble_eq_true rfl), (Nat.le_of_ble_eq_true rfl)⟩ (preS_of C hP hD [] rfl (pl_nd pv_0)) rfl hl.1 rfl (Nat.le_of_ble_eq_true rfl) dX1_findFlaw_25 ⟨Nat.zero_le _, Nat.zero_le _⟩) hP hD hS hA [] [0, 1] rfl rfl rfl rfl pv_0 (fun H locs hP hS => ?_)
      refine lv_if_ne (pc := 28) (tgt := 33) hx hb dX1_findFlaw_28 (by decide) (fun hc => ?_) (fun hc => ?_)
      · have hf := (if_neg hc).symm.trans hf
        refine lv_iinc (pc := 33) (v := (x1 + 1)) (lv' := [(1, .int (x1 + 1)), (0, .ref a_T)]) hx hb dX1_findFlaw_33 hl (k := 1) rfl rfl (Nat.le_of_ble_eq_true rfl) rfl (fun ls hl => ?_)
        refine lv_goto (pc := 36) (tgt := 2) hx hb dX1_findFlaw_36 (by decide) ?_
        have hf := Option.some.inj hf
        subst hf
        exact hK H locs ls hP hD hS (lv_sub hl [1, 0] rfl)
      · have hf := (if_pos hc).symm.trans hf
        have hf := Option.some.inj hf
        subst hf
        exact hK H locs ls hP hD hS (lv_sub hl [1] rfl)
theorem kl_X1_findFlaw_L2 (C : Cx RX1 cX1_findFlaw 2 D cA p s m args c) (hA : ∀ q, s.heap.size ≤ q → A q) (a_T a_T_bytes : Nat) (nT : Nat) (T_length : Int32) (T_bytes : Nat → Int32) : ∀ (n : Nat) (q : Int32) (z : ((Int32) ⊕ (Unit))), loopF (fun q : Int32 => f_X1_findFlaw_L2 nT T_length T_bytes q) n q = some z → (Sum.elim (fun q : Int32 => At p l e rm_X1_findFlaw s m args below meth c D A 0 0 Q 2 31 (wl_X1_findFlaw cA a_T a_T_bytes nT T_length T_bytes) [(1, .int q)] []) (fun q : Unit => At p l e rm_X1_findFlaw s m args below meth c D A 0 0 Q 2 39 (wl_X1_findFlaw cA a_T a_T_bytes nT T_length T_bytes) [(0, .ref a_T)] [])) z → At p l e rm_X1_findFlaw s m args below meth c D A 0 0 Q 2 2 (wl_X1_findFlaw cA a_T a_T_bytes nT T_length T_bytes) [(0, .ref a_T), (1, .int q)] [] :=
  loop_lem (WP := fun q : Int32 => At p l e rm_X1_findFlaw s m args below meth c D A 0 0 Q 2 2 (wl_X1_findFlaw cA a_T a_T_bytes nT T_length T_bytes) [(0, .ref a_T), (1, .int q)] []) (WE := (Sum.elim (fun q : Int32 => At p l e rm_X1_findFlaw s m args below meth c D A 0 0 Q 2 31 (wl_X1_findFlaw cA a_T a_T_bytes nT T_length T_bytes) [(1, .int q)] []) (fun q : Unit => At p l e rm_X1_findFlaw s m args below meth c D A 0 0 Q 2 39 (wl_X1_findFlaw cA a_T a_T_bytes nT T_length T_bytes) [(0, .ref a_T)] []))) (fun q r hf hK => k_X1_findFlaw_L2 C hA a_T a_T_bytes nT T_length T_bytes q r hf hK)
def f_X1_findFlaw_b61 (nT : Nat) (T_length : Int32) (T_bytes : Nat → Int32) (s0 : Int32) : Option (Int32) :=
  if s0 = 0 then (some T_length) else (some (-1 : Int32))
set_option maxHeartbeats 4000000 in
set_option maxRecDepth 100000 in
theorem k_X1_findFlaw_b61 (C : Cx RX1 cX1_findFlaw 2 D cA p s m args c) (hr : meth.sig.returnType = (some .int)) (hlk : meth.locks = false) (hA : ∀ q, s.heap.size ≤ q → va_A ws0 sz q) (a_T a_T_bytes : Nat) (nT : Nat) (T_length : Int32) (T_bytes : Nat → Int32) (s0 : Int32) (r : Int32) (hf : f_X1_findFlaw_b61 nT T_length T_bytes s0 = some r) : At p l e rm_X1_findFlaw s m args below meth c D (va_A ws0 sz) 0 0 (MQ below (PostI D r ws0 (wl_X1_findFlaw cA a_T a_T_bytes nT T_length T_bytes) sz) args s 0 0 (va_A ws0 sz)) 2 61 (wl_X1_findFlaw cA a_T a_T_bytes nT T_length T_bytes) [(0, .ref a_T)] [.int s0] := by
  intro H locs ls hP hD hS hl
  have hx := C.1
  have hb := C.2.1
  have hown := C.2.2.2.1
  have hts := C.2.2.2.2.1
  unfold f_X1_findFlaw_b61 at hf
  refine lv_istore_n (pc := 61) (lv' := [(1, .int s0), (0, .ref a_T)]) hx hb dX1_findFlaw_61 rfl hl (Nat.le_of_ble_eq_true rfl) rfl (fun ls hl => ?_)
  refine lv_iload_n (pc := 62) hx hb dX1_findFlaw_62 rfl (lv_at hl 0 rfl) ?_
  refine lv_if_eq (pc := 63) (tgt := 70) hx hb dX1_findFlaw_63 (by decide) (fun hc => ?_) (fun hc => ?_)
  · have hf := (if_pos hc).symm.trans hf
    refine lv_aload_n (pc := 70) hx hb dX1_findFlaw_70 rfl (lv_at hl 1 rfl) ?_
    refine g_get (pc := 71) C fg_X1_29 hP 0 rfl rfl dX1_findFlaw_71 ?_
    have hf := Option.some.inj hf
    subst hf
    exact ret_i C hr hlk hP hS dX1_findFlaw_74
  · have hf := (if_neg hc).symm.trans hf
    refine lv_iconst (pc := 66) (v := (-1)) hx hb dX1_findFlaw_66 ic_m1 ?_
    refine lv_goto (pc := 67) (tgt := 74) hx hb dX1_findFlaw_67 (by decide) ?_
    have hf := Option.some.inj hf
    subst hf
    exact ret_i C hr hlk hP hS dX1_findFlaw_74
def f_X1_findFlaw_b56 (nT : Nat) (T_length : Int32) (T_bytes : Nat → Int32) : Option (Int32) :=
  f_X1_findFlaw_b61 nT T_length T_bytes (1 : Int32)
set_option maxHeartbeats 4000000 in
set_option maxRecDepth 100000 in
theorem k_X1_findFlaw_b56 (C : Cx RX1 cX1_findFlaw 2 D cA p s m args c) (hr : meth.sig.returnType = (some .int)) (hlk : meth.locks = false) (hA : ∀ q, s.heap.size ≤ q → va_A ws0 sz q) (a_T a_T_bytes : Nat) (nT : Nat) (T_length : Int32) (T_bytes : Nat → Int32) (r : Int32) (hf : f_X1_findFlaw_b56 nT T_length T_bytes = some r) : At p l e rm_X1_findFlaw s m args below meth c D (va_A ws0 sz) 0 0 (MQ below (PostI D r ws0 (wl_X1_findFlaw cA a_T a_T_bytes nT T_length T_bytes) sz) args s 0 0 (va_A ws0 sz)) 2 56 (wl_X1_findFlaw cA a_T a_T_bytes nT T_length T_bytes) [(0, .ref a_T)] [] := by
  intro H locs ls hP hD hS hl
  have hx := C.1
  have hb := C.2.1
  have hown := C.2.2.2.1
  have hts := C.2.2.2.2.1
  unfold f_X1_findFlaw_b56 at hf
  refine lv_iconst (pc := 56) (v := 1) hx hb dX1_findFlaw_56 ic_1 ?_
  refine lv_goto (pc := 57) (tgt := 61) hx hb dX1_findFlaw_57 (by decide) ?_
  exact k_X1_findFlaw_b61 C hr hlk hA a_T a_T_bytes nT T_length T_bytes (1 : Int32) r hf H locs ls hP hD hS hl
def f_X1_findFlaw (nT : Nat) (T_length : Int32) (T_bytes : Nat → Int32) : Option (Int32) :=
  bindS (loopF (fun q : Int32 => f_X1_findFlaw_L2 nT T_length T_bytes q) FU (0 : Int32)) (fun u2 => some u2) (fun _ => if T_length = 0 then (f_X1_findFlaw_b56 nT T_length T_bytes) else (if (T_length - T_length / (4 : Int32) * (4 : Int32)) = (3 : Int32) then (f_X1_findFlaw_b56 nT T_length T_bytes) else (f_X1_findFlaw_b61 nT T_length T_bytes (0 : Int32))))
set_option maxHeartbeats 4000000 in
set_option maxRecDepth 100000 in
theorem k_X1_findFlaw (C : Cx RX1 cX1_findFlaw 2 D cA p s m args c) (hr : meth.sig.returnType = (some .int)) (hlk : meth.locks = false) (hA : ∀ q, s.heap.size ≤ q → va_A ws0 sz q) (a_T a_T_bytes : Nat) (nT : Nat) (T_length : Int32) (T_bytes : Nat → Int32) (r : Int32) (hf : f_X1_findFlaw nT T_length T_bytes = some r) : At p l e rm_X1_findFlaw s m args below meth c D (va_A ws0 sz) 0 0 (MQ below (PostI D r ws0 (wl_X1_findFlaw cA a_T a_T_bytes nT T_length T_bytes) sz) args s 0 0 (va_A ws0 sz)) 2 0 (wl_X1_findFlaw cA a_T a_T_bytes nT T_length T_bytes) [(0, .ref a_T)] [] := by
  intro H locs ls hP hD hS hl
  have hx := C.1
  have hb := C.2.1
  have hown := C.2.2.2.1
  have hts := C.2.2.2.2.1
  unfold f_X1_findFlaw at hf
  refine lv_iconst (pc := 0) (v := 0) hx hb dX1_findFlaw_0 ic_0 ?_
  refine lv_istore_n (pc := 1) (lv' := [(1, .int (0 : Int32)), (0, .ref a_T)]) hx hb dX1_findFlaw_1 rfl hl (Nat.le_of_ble_eq_true rfl) rfl (fun ls hl => ?_)
  rcases bindS_some hf with ⟨z, hq, hf⟩ | ⟨z, hq, hf⟩
  · obtain ⟨u2, rfl⟩ : ∃ y, y = z := ⟨z, rfl⟩
    refine kl_X1_findFlaw_L2 C hA a_T a_T_bytes nT T_length T_bytes FU (0 : Int32) _ hq ?_ H locs ls hP hD hS (lv_sub hl [1, 0] rfl)
    intro H locs ls hP hD hS hl
    have hP : va_P D classes (wl_X1_findFlaw cA a_T a_T_bytes nT T_length T_bytes) H := hP
    have hD : va_D (va_A ws0 sz) (wl_X1_findFlaw cA a_T a_T_bytes nT T_length T_bytes) := hD
    have hl : lv_has ls 2 [(1, .int u2)] := hl
    refine lv_iload_n (pc := 31) hx hb dX1_findFlaw_31 rfl (lv_at hl 0 rfl) ?_
    have hf := Option.some.inj hf
    subst hf
    exact ret_i C hr hlk hP hS dX1_findFlaw_32
  · refine kl_X1_findFlaw_L2 C hA a_T a_T_bytes nT T_length T_bytes FU (0 : Int32) _ hq ?_ H locs ls hP hD hS (lv_sub hl [1, 0] rfl)
    intro H locs ls hP hD hS hl
    have hP : va_P D classes (wl_X1_findFlaw cA a_T a_T_bytes nT T_length T_bytes) H := hP
    have hD : va_D (va_A ws0 sz) (wl_X1_findFlaw cA a_T a_T_bytes nT T_length T_bytes) := hD
    have hl : lv_has ls 2 [(0, .ref a_T)] := hl
    refine lv_aload_n (pc := 39) hx hb dX1_findFlaw_39 rfl (lv_at hl 0 rfl) ?_
    refine g_get (pc := 40) C fg_X1_29 hP 0 rfl rfl dX1_findFlaw_40 ?_
    refine lv_if_eq (pc := 43) (tgt := 56) hx hb dX1_findFlaw_43 (by decide) (fun hc => ?_) (fun hc => ?_)
    · have hf := (if_pos hc).symm.trans hf
      exact k_X1_findFlaw_b56 C hr hlk hA a_T a_T_bytes nT T_length T_bytes r hf H locs ls hP hD hS hl
    · have hf := (if_neg hc).symm.trans hf
      refine lv_aload_n (pc := 46) hx hb dX1_findFlaw_46 rfl (lv_at hl 0 rfl) ?_
      refine g_get (pc := 47) C fg_X1_29 hP 0 rfl rfl dX1_findFlaw_47 ?_
      refine lv_iconst (pc := 50) (v := 4) hx hb dX1_findFlaw_50 ic_4 ?_
      refine lv_irem (pc := 51) hx hb dX1_findFlaw_51 (by decide) ?_
      refine lv_iconst (pc := 52) (v := 3) hx hb dX1_findFlaw_52 ic_3 ?_
      refine lv_icmp_ne (pc := 53) (tgt := 60) hx hb dX1_findFlaw_53 (by decide) (fun hc => ?_) (fun hc => ?_)
      · have hf := (if_neg hc).symm.trans hf
        refine lv_iconst (pc := 60) (v := 0) hx hb dX1_findFlaw_60 ic_0 ?_
        exact k_X1_findFlaw_b61 C hr hlk hA a_T a_T_bytes nT T_length T_bytes (0 : Int32) r hf H locs ls hP hD hS hl
      · have hf := (if_pos hc).symm.trans hf
        exact k_X1_findFlaw_b56 C hr hlk hA a_T a_T_bytes nT T_length T_bytes r hf H locs ls hP hD hS hl
set_option maxRecDepth 100000 in
theorem c_X1_findFlaw (l : Launch) (D : va_G) (cA : Nat → ClassId) (a_T a_T_bytes : Nat) (nT : Nat) (T_length : Int32) (T_bytes : Nat → Int32) (r : Int32) (hf : f_X1_findFlaw nT T_length T_bytes = some r) (sz : Nat) : Met l yX1_findFlaw (Cond.code yX1_findFlaw cX1_findFlaw 2 (some .int) :: lw_good) rm_X1_findFlaw (PreX D cA [.ref a_T] sz (wl_X1_findFlaw cA a_T a_T_bytes nT T_length T_bytes)) (PostI D r (wl_X1_findFlaw cA a_T a_T_bytes nT T_length T_bytes) (wl_X1_findFlaw cA a_T a_T_bytes nT T_length T_bytes) sz) 0 0 (va_A (wl_X1_findFlaw cA a_T a_T_bytes nT T_length T_bytes) sz) :=
  met_of (by decide) (Nat.le_of_ble_eq_true rfl) (fun p e s m args below meth c C hr hlk hA => k_X1_findFlaw C hr hlk hA a_T a_T_bytes nT T_length T_bytes r hf)
end

abbrev wl_X1_understand (cA : Nat → ClassId) (a_houses a_houses_places a_houses_dues a_T a_T_bytes : Nat) (nT : Nat) (houses_flaw : Int32) (houses_number : Int32) (houses_places : Nat → Int32) (houses_dues : Nat → Int32) (T_length : Int32) (T_bytes : Nat → Int32) : va_W := [(a_houses, .inr (1, [.ref a_houses_places, .ref a_houses_dues, .int houses_flaw, .int houses_number])), (a_houses_places, .inl (cA 0, 8, .inl houses_places)), (a_houses_dues, .inl (cA 0, 8, .inl houses_dues)), (a_T, .inr (6, [.ref a_T_bytes, .int T_length])), (a_T_bytes, .inl (cA 0, nT, .inl T_bytes))]
abbrev rm_X1_understand : Room := { frames := 2, cells := 0, slots := 0, locals := 42 }
section
variable {p : Program} {l : Launch} {e : Env} {s : State} {m : MethodId} {args : Array Value} {below : List Frame} {meth : Method} {c : Code} {D : va_G} {cA : Nat → ClassId} {ws0 : va_W} {sz : Nat} {A : Nat → Prop} {Q : State → Prop}
def f_X1_understand_L33 (nT : Nat) (T_bytes : Nat → Int32) (x2 : Int32) (x3 : Int32) (houses_number : Int32) (houses_places : Nat → Int32) (houses_dues : Nat → Int32) : Option ((Int32 × Int32 × (Nat → Int32) × (Nat → Int32)) ⊕ (Int32 × (Nat → Int32) × (Nat → Int32))) :=
  if x2 ≤ x3 then (some (.inr (houses_number, houses_places, houses_dues))) else (if (8 : Int32) ≤ x3 then (some (.inr (houses_number, houses_places, houses_dues))) else (letv ((x3 * (4 : Int32))) (fun v3 => gd (inb v3 nT) (gd (inb (v3 + (1 : Int32)) nT) (letv (((((10 : Int32) * ((T_bytes v3.toNatClampNeg) - (48 : Int32))) + (T_bytes (v3 + (1 : Int32)).toNatClampNeg)) - (48 : Int32))) (fun v4 => gd (inb x3 8) (gd (inb (v3 + (2 : Int32)) nT) (letv (((T_bytes (v3 + (2 : Int32)).toNatClampNeg) - (48 : Int32))) (fun v5 => gd (inb x3 8) (letv ((houses_number + (1 : Int32))) (fun v6 => some (.inl ((x3 + 1), v6, (upd houses_places x3.toNatClampNeg v4), (upd houses_dues x3.toNatClampNeg v5))))))))))))))
set_option maxHeartbeats 4000000 in
set_option maxRecDepth 100000 in
theorem k_X1_understand_L33 (C : Cx RX1 cX1_understand 5 D cA p s m args c) (hA : ∀ q, s.heap.size ≤ q → A q) (a_houses a_houses_places a_houses_dues a_T a_T_bytes : Nat) (nT : Nat) (houses_flaw : Int32) (T_length : Int32) (T_bytes : Nat → Int32) (x2 : Int32) (x3 : Int32) (houses_number : Int32) (houses_places : Nat → Int32) (houses_dues : Nat → Int32) (r : (Int32 × Int32 × (Nat → Int32) × (Nat → Int32)) ⊕ (Int32 × (Nat → Int32) × (Nat → Int32))) (hf : f_X1_understand_L33 nT T_bytes x2 x3 houses_number houses_places houses_dues = some r) (hK : Sum.elim (fun q : Int32 × Int32 × (Nat → Int32) × (Nat → Int32) => At p l e rm_X1_understand s m args below meth c D A 0 0 Q 5 33 (wl_X1_understand cA a_houses a_houses_places a_houses_dues a_T a_T_bytes nT houses_flaw (q.2.1) (q.2.2.1) (q.2.2.2) T_length T_bytes) [(0, .ref a_houses), (1, .ref a_T), (2, .int x2), (3, .int (q.1))] []) (fun q : Int32 × (Nat → Int32) × (Nat → Int32) => At p l e rm_X1_understand s m args below meth c D A 0 0 Q 5 115 (wl_X1_understand cA a_houses a_houses_places a_houses_dues a_T a_T_bytes nT houses_flaw (q.1) (q.2.1) (q.2.2) T_length T_bytes) [] []) r) : At p l e rm_X1_understand s m args below meth c D A 0 0 Q 5 33 (wl_X1_understand cA a_houses a_houses_places a_houses_dues a_T a_T_bytes nT houses_flaw houses_number houses_places houses_dues T_length T_bytes) [(0, .ref a_houses), (1, .ref a_T), (2, .int x2), (3, .int x3)] [] := by
  intro H locs ls hP hD hS hl
  have hx := C.1
  have hb := C.2.1
  have hown := C.2.2.2.1
  have hts := C.2.2.2.2.1
  unfold f_X1_understand_L33 at hf
  refine lv_iload_n (pc := 33) hx hb dX1_understand_33 rfl (lv_at hl 3 rfl) ?_
  refine lv_iload_n (pc := 34) hx hb dX1_understand_34 rfl (lv_at hl 2 rfl) ?_
  refine lv_icmp_ge (pc := 35) (tgt := 115) hx hb dX1_understand_35 (by decide) (fun hc => ?_) (fun hc => ?_)
  · have hf := (if_pos hc).symm.trans hf
    have hf := Option.some.inj hf
    subst hf
    exact hK H locs ls hP hD hS (lv_sub hl [] rfl)
  · have hf := (if_neg hc).symm.trans hf
    refine lv_iload_n (pc := 38) hx hb dX1_understand_38 rfl (lv_at hl 3 rfl) ?_
    refine lv_bipush (pc := 39) (v := 8) hx hb dX1_understand_39 bp_8 ?_
    refine lv_icmp_ge (pc := 41) (tgt := 115) hx hb dX1_understand_41 (by decide) (fun hc => ?_) (fun hc => ?_)
    · have hf := (if_pos hc).symm.trans hf
      have hf := Option.some.inj hf
      subst hf
      exact hK H locs ls hP hD hS (lv_sub hl [] rfl)
    · have hf := (if_neg hc).symm.trans hf
      refine lv_iload_n (pc := 44) hx hb dX1_understand_44 rfl (lv_at hl 3 rfl) ?_
      refine lv_iconst (pc := 45) (v := 4) hx hb dX1_understand_45 ic_4 ?_
      refine lv_imul (pc := 46) hx hb dX1_understand_46 ?_
      obtain ⟨v3, e_v3, hf⟩ := letv_some hf
      refine tp_i e_v3 ?_
      refine lv_istore (pc := 47) (lv' := [(4, .int v3), (0, .ref a_houses), (1, .ref a_T), (2, .int x2), (3, .int x3)]) hx hb dX1_understand_47 hl (Nat.le_of_ble_eq_true rfl) rfl (fun ls hl => ?_)
      refine lv_aload_n (pc := 49) hx hb dX1_understand_49 rfl (lv_at hl 1 rfl) ?_
      refine g_get (pc := 50) C fg_X1_9 hP 0 rfl rfl dX1_understand_50 ?_
      refine lv_iload_n (pc := 53) hx hb dX1_understand_53 rfl (lv_at hl 4 rfl) ?_
      refine lv_bipush (pc := 54) (v := 10) hx hb dX1_understand_54 bp_10 ?_
      refine lv_aload_n (pc := 56) hx hb dX1_understand_56 rfl (lv_at hl 2 rfl) ?_
      refine g_get (pc := 57) C fg_X1_34 hP 3 rfl rfl dX1_understand_57 ?_
      refine lv_iload (pc := 60) hx hb dX1_understand_60 (lv_at hl 0 rfl) ?_
      obtain ⟨hg, hf⟩ := gd_some hf
      refine g_iald (pc := 62) C hP 4 rfl hg dX1_understand_62 ?_
      refine lv_bipush (pc := 63) (v := 48) hx hb dX1_understand_63 bp_48 ?_
      refine lv_isub (pc := 65) hx hb dX1_understand_65 ?_
      refine lv_imul (pc := 66) hx hb dX1_understand_66 ?_
      refine lv_aload_n (pc := 67) hx hb dX1_understand_67 rfl (lv_at hl 2 rfl) ?_
      refine g_get (pc := 68) C fg_X1_34 hP 3 rfl rfl dX1_understand_68 ?_
      refine lv_iload (pc := 71) hx hb dX1_understand_71 (lv_at hl 0 rfl) ?_
      refine lv_iconst (pc := 73) (v := 1) hx hb dX1_understand_73 ic_1 ?_
      refine lv_iadd (pc := 74) hx hb dX1_understand_74 ?_
      obtain ⟨hg, hf⟩ := gd_some hf
      refine g_iald (pc := 75) C hP 4 rfl hg dX1_understand_75 ?_
      refine lv_iadd (pc := 76) hx hb dX1_understand_76 ?_
      refine lv_bipush (pc := 77) (v := 48) hx hb dX1_understand_77 bp_48 ?_
      refine lv_isub (pc := 79) hx hb dX1_understand_79 ?_
      obtain ⟨v4, e_v4, hf⟩ := letv_some hf
      refine tp_i e_v4 ?_
      obtain ⟨hg, hf⟩ := gd_some hf
      refine g_iast (pc := 80) C hP hD hS 1 rfl hg dX1_understand_80 (fun H locs hP hD hS => ?_)
      have hP : va_P D classes (wl_X1_understand cA a_houses a_houses_places a_houses_dues a_T a_T_bytes nT houses_flaw houses_number (upd houses_places x3.toNatClampNeg v4) houses_dues T_length T_bytes) H := hP
      have hD : va_D A (wl_X1_understand cA a_houses a_houses_places a_houses_dues a_T a_T_bytes nT houses_flaw houses_number (upd houses_places x3.toNatClampNeg v4) houses_dues T_length T_bytes) := hD
      refine lv_aload_n (pc := 81) hx hb dX1_understand_81 rfl (lv_at hl 1 rfl) ?_
      refine g_get (pc := 82) C fg_X1_15 hP 0 rfl rfl dX1_understand_82 ?_
      refine lv_iload_n (pc := 85) hx hb dX1_understand_85 rfl (lv_at hl 4 rfl) ?_
      refine lv_aload_n (pc := 86) hx hb dX1_understand_86 rfl (lv_at hl 2 rfl) ?_
      refine g_get (pc := 87) C fg_X1_34 hP 3 rfl rfl dX1_understand_87 ?_
      refine lv_iload (pc := 90) hx hb dX1_understand_90 (lv_at hl 0 rfl) ?_
      refine lv_iconst (pc := 92) (v := 2) hx hb dX1_understand_92 ic_2 ?_
      refine lv_iadd (pc := 93) hx hb dX1_understand_93 ?_
      obtain ⟨hg, hf⟩ := gd_some hf
      refine g_iald (pc := 94) C hP 4 rfl hg dX1_understand_94 ?_
      refine lv_bipush (pc := 95) (v := 48) hx hb dX1_understand_95 bp_48 ?_
      refine lv_isub (pc := 97) hx hb dX1_understand_97 ?_
      obtain ⟨v5, e_v5, hf⟩ := letv_some hf
      refine tp_i e_v5 ?_
      obtain ⟨hg, hf⟩ := gd_some hf
      refine g_iast (pc := 98) C hP hD hS 2 rfl hg dX1_understand_98 (fun H locs hP hD hS => ?_)
      have hP : va_P D classes (wl_X1_understand cA a_houses a_houses_places a_houses_dues a_T a_T_bytes nT houses_flaw houses_number (upd houses_places x3.toNatClampNeg v4) (upd houses_dues x3.toNatClampNeg v5) T_length T_bytes) H := hP
      have hD : va_D A (wl_X1_understand cA a_houses a_houses_places a_houses_dues a_T a_T_bytes nT houses_flaw houses_number (upd houses_places x3.toNatClampNeg v4) (upd houses_dues x3.toNatClampNeg v5) T_length T_bytes) := hD
      refine lv_aload_n (pc := 99) hx hb dX1_understand_99 rfl (lv_at hl 1 rfl) ?_
      refine lv_dup (pc := 100) hx hb dX1_understand_100 rfl ?_
      refine g_get (pc := 101) C fg_X1_22 hP 0 rfl rfl dX1_understand_101 ?_
      refine lv_iconst (pc := 104) (v := 1) hx hb dX1_understand_104 ic_1 ?_
      refine lv_iadd (pc := 105) hx hb dX1_understand_105 ?_
      obtain ⟨v6, e_v6, hf⟩ := letv_some hf
      refine tp_i e_v6 ?_
      refine g_put (pc := 106) C fg_X1_22 ft_X1_3 hP hD hS 0 rfl rfl rfl (Nat.le_of_ble_eq_true rfl) dX1_understand_106 (fun H locs hP hD hS => ?_)
      have hP : va_P D classes (wl_X1_understand cA a_houses a_houses_places a_houses_dues a_T a_T_bytes nT houses_flaw v6 (upd houses_places x3.toNatClampNeg v4) (upd houses_dues x3.toNatClampNeg v5) T_length T_bytes) H := hP
      have hD : va_D A (wl_X1_understand cA a_houses a_houses_places a_houses_dues a_T a_T_bytes nT houses_flaw v6 (upd houses_places x3.toNatClampNeg v4) (upd houses_dues x3.toNatClampNeg v5) T_length T_bytes) := hD
      refine lv_iinc (pc := 109) (v := (x3 + 1)) (lv' := [(3, .int (x3 + 1)), (4, .int v3), (0, .ref a_houses), (1, .ref a_T), (2, .int x2)]) hx hb dX1_understand_109 hl (k := 4) rfl rfl (Nat.le_of_ble_eq_true rfl) rfl (fun ls hl => ?_)
      refine lv_goto (pc := 112) (tgt := 33) hx hb dX1_understand_112 (by decide) ?_
      have hf := Option.some.inj hf
      subst hf
      exact hK H locs ls hP hD hS (lv_sub hl [2, 3, 4, 0] rfl)
theorem kl_X1_understand_L33 (C : Cx RX1 cX1_understand 5 D cA p s m args c) (hA : ∀ q, s.heap.size ≤ q → A q) (a_houses a_houses_places a_houses_dues a_T a_T_bytes : Nat) (nT : Nat) (houses_flaw : Int32) (T_length : Int32) (T_bytes : Nat → Int32) (x2 : Int32) : ∀ (n : Nat) (q : Int32 × Int32 × (Nat → Int32) × (Nat → Int32)) (z : (Int32 × (Nat → Int32) × (Nat → Int32))), loopF (fun q : Int32 × Int32 × (Nat → Int32) × (Nat → Int32) => f_X1_understand_L33 nT T_bytes x2 q.1 q.2.1 q.2.2.1 q.2.2.2) n q = some z → (fun q : Int32 × (Nat → Int32) × (Nat → Int32) => At p l e rm_X1_understand s m args below meth c D A 0 0 Q 5 115 (wl_X1_understand cA a_houses a_houses_places a_houses_dues a_T a_T_bytes nT houses_flaw (q.1) (q.2.1) (q.2.2) T_length T_bytes) [] []) z → At p l e rm_X1_understand s m args below meth c D A 0 0 Q 5 33 (wl_X1_understand cA a_houses a_houses_places a_houses_dues a_T a_T_bytes nT houses_flaw (q.2.1) (q.2.2.1) (q.2.2.2) T_length T_bytes) [(0, .ref a_houses), (1, .ref a_T), (2, .int x2), (3, .int (q.1))] [] :=
  loop_lem (WP := fun q : Int32 × Int32 × (Nat → Int32) × (Nat → Int32) => At p l e rm_X1_understand s m args below meth c D A 0 0 Q 5 33 (wl_X1_understand cA a_houses a_houses_places a_houses_dues a_T a_T_bytes nT houses_flaw (q.2.1) (q.2.2.1) (q.2.2.2) T_length T_bytes) [(0, .ref a_houses), (1, .ref a_T), (2, .int x2), (3, .int (q.1))] []) (WE := (fun q : Int32 × (Nat → Int32) × (Nat → Int32) => At p l e rm_X1_understand s m args below meth c D A 0 0 Q 5 115 (wl_X1_understand cA a_houses a_houses_places a_houses_dues a_T a_T_bytes nT houses_flaw (q.1) (q.2.1) (q.2.2) T_length T_bytes) [] [])) (fun q r hf hK => k_X1_understand_L33 C hA a_houses a_houses_places a_houses_dues a_T a_T_bytes nT houses_flaw T_length T_bytes x2 q.1 q.2.1 q.2.2.1 q.2.2.2 r hf hK)
def f_X1_understand (nT : Nat) (houses_flaw : Int32) (houses_number : Int32) (houses_places : Nat → Int32) (houses_dues : Nat → Int32) (T_length : Int32) (T_bytes : Nat → Int32) : Option (Int32 × Int32 × (Nat → Int32) × (Nat → Int32)) :=
  bind1 (f_X1_findFlaw nT T_length T_bytes) (fun r1 => if r1 = (-1 : Int32) then (letv (((T_length + (1 : Int32)) / (4 : Int32))) (fun v2 => bind3 (loopF (fun q : Int32 × Int32 × (Nat → Int32) × (Nat → Int32) => f_X1_understand_L33 nT T_bytes v2 q.1 q.2.1 q.2.2.1 q.2.2.2) FU ((0 : Int32), (0 : Int32), houses_places, houses_dues)) (fun u7 u8 u9 => some (r1, u7, u8, u9)))) else (some (r1, (0 : Int32), houses_places, houses_dues)))
set_option maxHeartbeats 4000000 in
set_option maxRecDepth 100000 in
theorem k_X1_understand (C : Cx RX1 cX1_understand 5 D cA p s m args c) (hr : meth.sig.returnType = none) (hlk : meth.locks = false) (hA : ∀ q, s.heap.size ≤ q → va_A ws0 sz q) (a_houses a_houses_places a_houses_dues a_T a_T_bytes : Nat) (nT : Nat) (houses_flaw : Int32) (houses_number : Int32) (houses_places : Nat → Int32) (houses_dues : Nat → Int32) (T_length : Int32) (T_bytes : Nat → Int32) (r : Int32 × Int32 × (Nat → Int32) × (Nat → Int32)) (hf : f_X1_understand nT houses_flaw houses_number houses_places houses_dues T_length T_bytes = some r) : At p l e rm_X1_understand s m args below meth c D (va_A ws0 sz) 0 0 (MQ below (PostV D ws0 (wl_X1_understand cA a_houses a_houses_places a_houses_dues a_T a_T_bytes nT (r.1) (r.2.1) (r.2.2.1) (r.2.2.2) T_length T_bytes) sz) args s 0 0 (va_A ws0 sz)) 5 0 (wl_X1_understand cA a_houses a_houses_places a_houses_dues a_T a_T_bytes nT houses_flaw houses_number houses_places houses_dues T_length T_bytes) [(0, .ref a_houses), (1, .ref a_T)] [] := by
  intro H locs ls hP hD hS hl
  have hx := C.1
  have hb := C.2.1
  have hown := C.2.2.2.1
  have hts := C.2.2.2.2.1
  unfold f_X1_understand at hf
  refine lv_aload_n (pc := 0) hx hb dX1_understand_0 rfl (lv_at hl 0 rfl) ?_
  refine lv_iconst (pc := 1) (v := 0) hx hb dX1_understand_1 ic_0 ?_
  refine g_put (pc := 2) C fg_X1_22 ft_X1_3 hP hD hS 0 rfl rfl rfl (Nat.le_of_ble_eq_true rfl) dX1_understand_2 (fun H locs hP hD hS => ?_)
  have hP : va_P D classes (wl_X1_understand cA a_houses a_houses_places a_houses_dues a_T a_T_bytes nT houses_flaw (0 : Int32) houses_places houses_dues T_length T_bytes) H := hP
  have hD : va_D (va_A ws0 sz) (wl_X1_understand cA a_houses a_houses_places a_houses_dues a_T a_T_bytes nT houses_flaw (0 : Int32) houses_places houses_dues T_length T_bytes) := hD
  refine lv_aload_n (pc := 5) hx hb dX1_understand_5 rfl (lv_at hl 0 rfl) ?_
  refine lv_aload_n (pc := 6) hx hb dX1_understand_6 rfl (lv_at hl 1 rfl) ?_
  obtain ⟨r1, hq, hf⟩ := bind1_some hf
  refine fin2_i (wl_X1_understand cA a_houses a_houses_places a_houses_dues a_T a_T_bytes nT houses_flaw (0 : Int32) houses_places houses_dues T_length T_bytes) (run_S (rest := [.ref a_houses]) (pc := 7) (As := [.ref a_T]) C mf_X1_25 (c_X1_findFlaw l D cA a_T a_T_bytes nT T_length T_bytes r1 hq H.size) rfl rfl ⟨(Nat.le_of_ble_eq_true rfl), (Nat.le_of_ble_eq_true rfl)⟩ (preS_of C hP hD [3, 4] rfl (pl_nd pv_1)) rfl hl.1 rfl (Nat.le_of_ble_eq_true rfl) dX1_understand_7 ⟨Nat.zero_le _, Nat.zero_le _⟩) hP hD hS hA [3, 4] [0, 1, 2] rfl rfl rfl rfl pv_1 (fun H locs hP hS => ?_)
  refine g_put (pc := 10) C fg_X1_18 ft_X1_2 hP hD hS 0 rfl rfl rfl (Nat.le_of_ble_eq_true rfl) dX1_understand_10 (fun H locs hP hD hS => ?_)
  have hP : va_P D classes (wl_X1_understand cA a_houses a_houses_places a_houses_dues a_T a_T_bytes nT r1 (0 : Int32) houses_places houses_dues T_length T_bytes) H := hP
  have hD : va_D (va_A ws0 sz) (wl_X1_understand cA a_houses a_houses_places a_houses_dues a_T a_T_bytes nT r1 (0 : Int32) houses_places houses_dues T_length T_bytes) := hD
  refine lv_aload_n (pc := 13) hx hb dX1_understand_13 rfl (lv_at hl 0 rfl) ?_
  refine g_get (pc := 14) C fg_X1_18 hP 0 rfl rfl dX1_understand_14 ?_
  refine lv_iconst (pc := 17) (v := (-1)) hx hb dX1_understand_17 ic_m1 ?_
  refine lv_icmp_eq (pc := 18) (tgt := 22) hx hb dX1_understand_18 (by decide) (fun hc => ?_) (fun hc => ?_)
  · have hf := (if_pos hc).symm.trans hf
    refine lv_aload_n (pc := 22) hx hb dX1_understand_22 rfl (lv_at hl 1 rfl) ?_
    refine g_get (pc := 23) C fg_X1_29 hP 3 rfl rfl dX1_understand_23 ?_
    refine lv_iconst (pc := 26) (v := 1) hx hb dX1_understand_26 ic_1 ?_
    refine lv_iadd (pc := 27) hx hb dX1_understand_27 ?_
    refine lv_iconst (pc := 28) (v := 4) hx hb dX1_understand_28 ic_4 ?_
    refine lv_idiv (pc := 29) hx hb dX1_understand_29 (by decide) ?_
    obtain ⟨v2, e_v2, hf⟩ := letv_some hf
    refine tp_i e_v2 ?_
    refine lv_istore_n (pc := 30) (lv' := [(2, .int v2), (0, .ref a_houses), (1, .ref a_T)]) hx hb dX1_understand_30 rfl hl (Nat.le_of_ble_eq_true rfl) rfl (fun ls hl => ?_)
    refine lv_iconst (pc := 31) (v := 0) hx hb dX1_understand_31 ic_0 ?_
    refine lv_istore_n (pc := 32) (lv' := [(3, .int (0 : Int32)), (2, .int v2), (0, .ref a_houses), (1, .ref a_T)]) hx hb dX1_understand_32 rfl hl (Nat.le_of_ble_eq_true rfl) rfl (fun ls hl => ?_)
    obtain ⟨u7, u8, u9, hq, hf⟩ := bind3_some hf
    refine kl_X1_understand_L33 C hA a_houses a_houses_places a_houses_dues a_T a_T_bytes nT r1 T_length T_bytes v2 FU ((0 : Int32), (0 : Int32), houses_places, houses_dues) _ hq ?_ H locs ls hP hD hS (lv_sub hl [2, 3, 1, 0] rfl)
    intro H locs ls hP hD hS hl
    have hP : va_P D classes (wl_X1_understand cA a_houses a_houses_places a_houses_dues a_T a_T_bytes nT r1 u7 u8 u9 T_length T_bytes) H := hP
    have hD : va_D (va_A ws0 sz) (wl_X1_understand cA a_houses a_houses_places a_houses_dues a_T a_T_bytes nT r1 u7 u8 u9 T_length T_bytes) := hD
    have hl : lv_has ls 5 [] := hl
    have hf := Option.some.inj hf
    subst hf
    exact ret_v C hr hlk hP hS dX1_understand_115
  · have hf := (if_neg hc).symm.trans hf
    have hf := Option.some.inj hf
    subst hf
    exact ret_v C hr hlk hP hS dX1_understand_21
set_option maxRecDepth 100000 in
theorem c_X1_understand (l : Launch) (D : va_G) (cA : Nat → ClassId) (a_houses a_houses_places a_houses_dues a_T a_T_bytes : Nat) (nT : Nat) (houses_flaw : Int32) (houses_number : Int32) (houses_places : Nat → Int32) (houses_dues : Nat → Int32) (T_length : Int32) (T_bytes : Nat → Int32) (r : Int32 × Int32 × (Nat → Int32) × (Nat → Int32)) (hf : f_X1_understand nT houses_flaw houses_number houses_places houses_dues T_length T_bytes = some r) (sz : Nat) : Met l yX1_understand (Cond.code yX1_understand cX1_understand 5 none :: lw_good) rm_X1_understand (PreX D cA [.ref a_houses, .ref a_T] sz (wl_X1_understand cA a_houses a_houses_places a_houses_dues a_T a_T_bytes nT houses_flaw houses_number houses_places houses_dues T_length T_bytes)) (PostV D (wl_X1_understand cA a_houses a_houses_places a_houses_dues a_T a_T_bytes nT houses_flaw houses_number houses_places houses_dues T_length T_bytes) (wl_X1_understand cA a_houses a_houses_places a_houses_dues a_T a_T_bytes nT (r.1) (r.2.1) (r.2.2.1) (r.2.2.2) T_length T_bytes) sz) 0 0 (va_A (wl_X1_understand cA a_houses a_houses_places a_houses_dues a_T a_T_bytes nT houses_flaw houses_number houses_places houses_dues T_length T_bytes) sz) :=
  met_of (by decide) (Nat.le_of_ble_eq_true rfl) (fun p e s m args below meth c C hr hlk hA => k_X1_understand C hr hlk hA a_houses a_houses_places a_houses_dues a_T a_T_bytes nT houses_flaw houses_number houses_places houses_dues T_length T_bytes r hf)
end

abbrev wl_X1_standOn (cA : Nat → ClassId) (a_houses a_houses_places a_houses_dues : Nat) (houses_flaw : Int32) (houses_number : Int32) (houses_places : Nat → Int32) : va_W := [(a_houses, .inr (1, [.ref a_houses_places, .ref a_houses_dues, .int houses_flaw, .int houses_number])), (a_houses_places, .inl (cA 0, 8, .inl houses_places))]
abbrev rm_X1_standOn : Room := { frames := 0, cells := 0, slots := 0, locals := 0 }
section
variable {p : Program} {l : Launch} {e : Env} {s : State} {m : MethodId} {args : Array Value} {below : List Frame} {meth : Method} {c : Code} {D : va_G} {cA : Nat → ClassId} {ws0 : va_W} {sz : Nat} {A : Nat → Prop} {Q : State → Prop}
def f_X1_standOn_L2 (houses_number : Int32) (houses_places : Nat → Int32) (x1 : Int32) (x2 : Int32) : Option ((Int32) ⊕ ((Unit) ⊕ (Unit))) :=
  if houses_number ≤ x2 then (some (.inr (.inr ()))) else (gd (inb x2 8) (if (houses_places x2.toNatClampNeg) = x1 then (some (.inr (.inl ()))) else (some (.inl (x2 + 1)))))
set_option maxHeartbeats 4000000 in
set_option maxRecDepth 100000 in
theorem k_X1_standOn_L2 (C : Cx RX1 cX1_standOn 3 D cA p s m args c) (hA : ∀ q, s.heap.size ≤ q → A q) (a_houses a_houses_places a_houses_dues : Nat) (houses_flaw : Int32) (houses_number : Int32) (houses_places : Nat → Int32) (x1 : Int32) (x2 : Int32) (r : (Int32) ⊕ ((Unit) ⊕ (Unit))) (hf : f_X1_standOn_L2 houses_number houses_places x1 x2 = some r) (hK : Sum.elim (fun q : Int32 => At p l e rm_X1_standOn s m args below meth c D A 0 0 Q 3 2 (wl_X1_standOn cA a_houses a_houses_places a_houses_dues houses_flaw houses_number houses_places) [(0, .ref a_houses), (1, .int x1), (2, .int q)] []) (Sum.elim (fun q : Unit => At p l e rm_X1_standOn s m args below meth c D A 0 0 Q 3 20 (wl_X1_standOn cA a_houses a_houses_places a_houses_dues houses_flaw houses_number houses_places) [] []) (fun q : Unit => At p l e rm_X1_standOn s m args below meth c D A 0 0 Q 3 28 (wl_X1_standOn cA a_houses a_houses_places a_houses_dues houses_flaw houses_number houses_places) [] [])) r) : At p l e rm_X1_standOn s m args below meth c D A 0 0 Q 3 2 (wl_X1_standOn cA a_houses a_houses_places a_houses_dues houses_flaw houses_number houses_places) [(0, .ref a_houses), (1, .int x1), (2, .int x2)] [] := by
  intro H locs ls hP hD hS hl
  have hx := C.1
  have hb := C.2.1
  have hown := C.2.2.2.1
  have hts := C.2.2.2.2.1
  unfold f_X1_standOn_L2 at hf
  refine lv_iload_n (pc := 2) hx hb dX1_standOn_2 rfl (lv_at hl 2 rfl) ?_
  refine lv_aload_n (pc := 3) hx hb dX1_standOn_3 rfl (lv_at hl 0 rfl) ?_
  refine g_get (pc := 4) C fg_X1_22 hP 0 rfl rfl dX1_standOn_4 ?_
  refine lv_icmp_ge (pc := 7) (tgt := 28) hx hb dX1_standOn_7 (by decide) (fun hc => ?_) (fun hc => ?_)
  · have hf := (if_pos hc).symm.trans hf
    have hf := Option.some.inj hf
    subst hf
    exact hK H locs ls hP hD hS (lv_sub hl [] rfl)
  · have hf := (if_neg hc).symm.trans hf
    refine lv_aload_n (pc := 10) hx hb dX1_standOn_10 rfl (lv_at hl 0 rfl) ?_
    refine g_get (pc := 11) C fg_X1_9 hP 0 rfl rfl dX1_standOn_11 ?_
    refine lv_iload_n (pc := 14) hx hb dX1_standOn_14 rfl (lv_at hl 2 rfl) ?_
    obtain ⟨hg, hf⟩ := gd_some hf
    refine g_iald (pc := 15) C hP 1 rfl hg dX1_standOn_15 ?_
    refine lv_iload_n (pc := 16) hx hb dX1_standOn_16 rfl (lv_at hl 1 rfl) ?_
    refine lv_icmp_ne (pc := 17) (tgt := 22) hx hb dX1_standOn_17 (by decide) (fun hc => ?_) (fun hc => ?_)
    · have hf := (if_neg hc).symm.trans hf
      refine lv_iinc (pc := 22) (v := (x2 + 1)) (lv' := [(2, .int (x2 + 1)), (0, .ref a_houses), (1, .int x1)]) hx hb dX1_standOn_22 hl (k := 2) rfl rfl (Nat.le_of_ble_eq_true rfl) rfl (fun ls hl => ?_)
      refine lv_goto (pc := 25) (tgt := 2) hx hb dX1_standOn_25 (by decide) ?_
      have hf := Option.some.inj hf
      subst hf
      exact hK H locs ls hP hD hS (lv_sub hl [1, 2, 0] rfl)
    · have hf := (if_pos hc).symm.trans hf
      have hf := Option.some.inj hf
      subst hf
      exact hK H locs ls hP hD hS (lv_sub hl [] rfl)
theorem kl_X1_standOn_L2 (C : Cx RX1 cX1_standOn 3 D cA p s m args c) (hA : ∀ q, s.heap.size ≤ q → A q) (a_houses a_houses_places a_houses_dues : Nat) (houses_flaw : Int32) (houses_number : Int32) (houses_places : Nat → Int32) (x1 : Int32) : ∀ (n : Nat) (q : Int32) (z : ((Unit) ⊕ (Unit))), loopF (fun q : Int32 => f_X1_standOn_L2 houses_number houses_places x1 q) n q = some z → (Sum.elim (fun q : Unit => At p l e rm_X1_standOn s m args below meth c D A 0 0 Q 3 20 (wl_X1_standOn cA a_houses a_houses_places a_houses_dues houses_flaw houses_number houses_places) [] []) (fun q : Unit => At p l e rm_X1_standOn s m args below meth c D A 0 0 Q 3 28 (wl_X1_standOn cA a_houses a_houses_places a_houses_dues houses_flaw houses_number houses_places) [] [])) z → At p l e rm_X1_standOn s m args below meth c D A 0 0 Q 3 2 (wl_X1_standOn cA a_houses a_houses_places a_houses_dues houses_flaw houses_number houses_places) [(0, .ref a_houses), (1, .int x1), (2, .int q)] [] :=
  loop_lem (WP := fun q : Int32 => At p l e rm_X1_standOn s m args below meth c D A 0 0 Q 3 2 (wl_X1_standOn cA a_houses a_houses_places a_houses_dues houses_flaw houses_number houses_places) [(0, .ref a_houses), (1, .int x1), (2, .int q)] []) (WE := (Sum.elim (fun q : Unit => At p l e rm_X1_standOn s m args below meth c D A 0 0 Q 3 20 (wl_X1_standOn cA a_houses a_houses_places a_houses_dues houses_flaw houses_number houses_places) [] []) (fun q : Unit => At p l e rm_X1_standOn s m args below meth c D A 0 0 Q 3 28 (wl_X1_standOn cA a_houses a_houses_places a_houses_dues houses_flaw houses_number houses_places) [] []))) (fun q r hf hK => k_X1_standOn_L2 C hA a_houses a_houses_places a_houses_dues houses_flaw houses_number houses_places x1 q r hf hK)
def f_X1_standOn (houses_number : Int32) (houses_places : Nat → Int32) (x1 : Int32) : Option (Int32) :=
  bindS (loopF (fun q : Int32 => f_X1_standOn_L2 houses_number houses_places x1 q) FU (0 : Int32)) (fun _ => some (1 : Int32)) (fun _ => some (0 : Int32))
set_option maxHeartbeats 4000000 in
set_option maxRecDepth 100000 in
theorem k_X1_standOn (C : Cx RX1 cX1_standOn 3 D cA p s m args c) (hr : meth.sig.returnType = (some .boolean)) (hlk : meth.locks = false) (hA : ∀ q, s.heap.size ≤ q → va_A ws0 sz q) (a_houses a_houses_places a_houses_dues : Nat) (houses_flaw : Int32) (houses_number : Int32) (houses_places : Nat → Int32) (x1 : Int32) (r : Int32) (hf : f_X1_standOn houses_number houses_places x1 = some r) : At p l e rm_X1_standOn s m args below meth c D (va_A ws0 sz) 0 0 (MQ below (PostI D r ws0 (wl_X1_standOn cA a_houses a_houses_places a_houses_dues houses_flaw houses_number houses_places) sz) args s 0 0 (va_A ws0 sz)) 3 0 (wl_X1_standOn cA a_houses a_houses_places a_houses_dues houses_flaw houses_number houses_places) [(0, .ref a_houses), (1, .int x1)] [] := by
  intro H locs ls hP hD hS hl
  have hx := C.1
  have hb := C.2.1
  have hown := C.2.2.2.1
  have hts := C.2.2.2.2.1
  unfold f_X1_standOn at hf
  refine lv_iconst (pc := 0) (v := 0) hx hb dX1_standOn_0 ic_0 ?_
  refine lv_istore_n (pc := 1) (lv' := [(2, .int (0 : Int32)), (0, .ref a_houses), (1, .int x1)]) hx hb dX1_standOn_1 rfl hl (Nat.le_of_ble_eq_true rfl) rfl (fun ls hl => ?_)
  rcases bindS_some hf with ⟨z, hq, hf⟩ | ⟨z, hq, hf⟩
  · refine kl_X1_standOn_L2 C hA a_houses a_houses_places a_houses_dues houses_flaw houses_number houses_places x1 FU (0 : Int32) _ hq ?_ H locs ls hP hD hS (lv_sub hl [1, 2, 0] rfl)
    intro H locs ls hP hD hS hl
    have hP : va_P D classes (wl_X1_standOn cA a_houses a_houses_places a_houses_dues houses_flaw houses_number houses_places) H := hP
    have hD : va_D (va_A ws0 sz) (wl_X1_standOn cA a_houses a_houses_places a_houses_dues houses_flaw houses_number houses_places) := hD
    have hl : lv_has ls 3 [] := hl
    refine lv_iconst (pc := 20) (v := 1) hx hb dX1_standOn_20 ic_1 ?_
    have hf := Option.some.inj hf
    subst hf
    exact ret_z C hr hlk isz_1 hP hS dX1_standOn_21
  · refine kl_X1_standOn_L2 C hA a_houses a_houses_places a_houses_dues houses_flaw houses_number houses_places x1 FU (0 : Int32) _ hq ?_ H locs ls hP hD hS (lv_sub hl [1, 2, 0] rfl)
    intro H locs ls hP hD hS hl
    have hP : va_P D classes (wl_X1_standOn cA a_houses a_houses_places a_houses_dues houses_flaw houses_number houses_places) H := hP
    have hD : va_D (va_A ws0 sz) (wl_X1_standOn cA a_houses a_houses_places a_houses_dues houses_flaw houses_number houses_places) := hD
    have hl : lv_has ls 3 [] := hl
    refine lv_iconst (pc := 28) (v := 0) hx hb dX1_standOn_28 ic_0 ?_
    have hf := Option.some.inj hf
    subst hf
    exact ret_z C hr hlk isz_0 hP hS dX1_standOn_29
set_option maxRecDepth 100000 in
theorem c_X1_standOn (l : Launch) (D : va_G) (cA : Nat → ClassId) (a_houses a_houses_places a_houses_dues : Nat) (houses_flaw : Int32) (houses_number : Int32) (houses_places : Nat → Int32) (x1 : Int32) (r : Int32) (hf : f_X1_standOn houses_number houses_places x1 = some r) (sz : Nat) : Met l yX1_standOn (Cond.code yX1_standOn cX1_standOn 3 (some .boolean) :: lw_good) rm_X1_standOn (PreX D cA [.ref a_houses, .int x1] sz (wl_X1_standOn cA a_houses a_houses_places a_houses_dues houses_flaw houses_number houses_places)) (PostI D r (wl_X1_standOn cA a_houses a_houses_places a_houses_dues houses_flaw houses_number houses_places) (wl_X1_standOn cA a_houses a_houses_places a_houses_dues houses_flaw houses_number houses_places) sz) 0 0 (va_A (wl_X1_standOn cA a_houses a_houses_places a_houses_dues houses_flaw houses_number houses_places) sz) :=
  met_of (by decide) (Nat.le_of_ble_eq_true rfl) (fun p e s m args below meth c C hr hlk hA => k_X1_standOn C hr hlk hA a_houses a_houses_places a_houses_dues houses_flaw houses_number houses_places x1 r hf)
end

abbrev wl_X2_told (cA : Nat → ClassId) (a_laid : Nat) (laid_number : Int32) (laid_one : Int32) (laid_two : Int32) : va_W := [(a_laid, .inr (2, [.int laid_number, .int laid_one, .int laid_two]))]
abbrev rm_X2_told : Room := { frames := 0, cells := 0, slots := 0, locals := 0 }
section
variable {p : Program} {l : Launch} {e : Env} {s : State} {m : MethodId} {args : Array Value} {below : List Frame} {meth : Method} {c : Code} {D : va_G} {cA : Nat → ClassId} {ws0 : va_W} {sz : Nat} {A : Nat → Prop} {Q : State → Prop}
def f_X2_told (laid_number : Int32) (laid_one : Int32) (laid_two : Int32) (x1 : Int32) : Option (Int32) :=
  if x1 = (-1 : Int32) then (some laid_number) else (if x1 < laid_number then (if x1 = 0 then (some laid_one) else (some laid_two)) else (some (-1 : Int32)))
set_option maxHeartbeats 4000000 in
set_option maxRecDepth 100000 in
theorem k_X2_told (C : Cx RX2 cX2_told 2 D cA p s m args c) (hr : meth.sig.returnType = (some .int)) (hlk : meth.locks = false) (hA : ∀ q, s.heap.size ≤ q → va_A ws0 sz q) (a_laid : Nat) (laid_number : Int32) (laid_one : Int32) (laid_two : Int32) (x1 : Int32) (r : Int32) (hf : f_X2_told laid_number laid_one laid_two x1 = some r) : At p l e rm_X2_told s m args below meth c D (va_A ws0 sz) 0 0 (MQ below (PostI D r ws0 (wl_X2_told cA a_laid laid_number laid_one laid_two) sz) args s 0 0 (va_A ws0 sz)) 2 0 (wl_X2_told cA a_laid laid_number laid_one laid_two) [(0, .ref a_laid), (1, .int x1)] [] := by
  intro H locs ls hP hD hS hl
  have hx := C.1
  have hb := C.2.1
  have hown := C.2.2.2.1
  have hts := C.2.2.2.2.1
  unfold f_X2_told at hf
  refine lv_iload_n (pc := 0) hx hb dX2_told_0 rfl (lv_at hl 1 rfl) ?_
  refine lv_iconst (pc := 1) (v := (-1)) hx hb dX2_told_1 ic_m1 ?_
  refine lv_icmp_ne (pc := 2) (tgt := 10) hx hb dX2_told_2 (by decide) (fun hc => ?_) (fun hc => ?_)
  · have hf := (if_neg hc).symm.trans hf
    refine lv_iload_n (pc := 10) hx hb dX2_told_10 rfl (lv_at hl 1 rfl) ?_
    refine lv_aload_n (pc := 11) hx hb dX2_told_11 rfl (lv_at hl 0 rfl) ?_
    refine g_get (pc := 12) C fg_X2_9 hP 0 rfl rfl dX2_told_12 ?_
    refine lv_icmp_lt (pc := 15) (tgt := 20) hx hb dX2_told_15 (by decide) (fun hc => ?_) (fun hc => ?_)
    · have hf := (if_pos hc).symm.trans hf
      refine lv_iload_n (pc := 20) hx hb dX2_told_20 rfl (lv_at hl 1 rfl) ?_
      refine lv_if_ne (pc := 21) (tgt := 31) hx hb dX2_told_21 (by decide) (fun hc => ?_) (fun hc => ?_)
      · have hf := (if_neg hc).symm.trans hf
        refine lv_aload_n (pc := 31) hx hb dX2_told_31 rfl (lv_at hl 0 rfl) ?_
        refine g_get (pc := 32) C fg_X2_18 hP 0 rfl rfl dX2_told_32 ?_
        have hf := Option.some.inj hf
        subst hf
        exact ret_i C hr hlk hP hS dX2_told_35
      · have hf := (if_pos hc).symm.trans hf
        refine lv_aload_n (pc := 24) hx hb dX2_told_24 rfl (lv_at hl 0 rfl) ?_
        refine g_get (pc := 25) C fg_X2_15 hP 0 rfl rfl dX2_told_25 ?_
        refine lv_goto (pc := 28) (tgt := 35) hx hb dX2_told_28 (by decide) ?_
        have hf := Option.some.inj hf
        subst hf
        exact ret_i C hr hlk hP hS dX2_told_35
    · have hf := (if_neg hc).symm.trans hf
      refine lv_iconst (pc := 18) (v := (-1)) hx hb dX2_told_18 ic_m1 ?_
      have hf := Option.some.inj hf
      subst hf
      exact ret_i C hr hlk hP hS dX2_told_19
  · have hf := (if_pos hc).symm.trans hf
    refine lv_aload_n (pc := 5) hx hb dX2_told_5 rfl (lv_at hl 0 rfl) ?_
    refine g_get (pc := 6) C fg_X2_9 hP 0 rfl rfl dX2_told_6 ?_
    have hf := Option.some.inj hf
    subst hf
    exact ret_i C hr hlk hP hS dX2_told_9
set_option maxRecDepth 100000 in
theorem c_X2_told (l : Launch) (D : va_G) (cA : Nat → ClassId) (a_laid : Nat) (laid_number : Int32) (laid_one : Int32) (laid_two : Int32) (x1 : Int32) (r : Int32) (hf : f_X2_told laid_number laid_one laid_two x1 = some r) (sz : Nat) : Met l yX2_told (Cond.code yX2_told cX2_told 2 (some .int) :: lw_good) rm_X2_told (PreX D cA [.ref a_laid, .int x1] sz (wl_X2_told cA a_laid laid_number laid_one laid_two)) (PostI D r (wl_X2_told cA a_laid laid_number laid_one laid_two) (wl_X2_told cA a_laid laid_number laid_one laid_two) sz) 0 0 (va_A (wl_X2_told cA a_laid laid_number laid_one laid_two) sz) :=
  met_of (by decide) (Nat.le_of_ble_eq_true rfl) (fun p e s m args below meth c C hr hlk hA => k_X2_told C hr hlk hA a_laid laid_number laid_one laid_two x1 r hf)
end

abbrev wl_X3_becomeEmpty (cA : Nat → ClassId) (a_land a_land_kinds a_land_rowAt a_land_columnAt a_land_ways a_land_beside : Nat) (land_flaw : Int32) (land_cells : Int32) (land_columns : Int32) (land_rows : Int32) : va_W := [(a_land, .inr (3, [.ref a_land_kinds, .ref a_land_rowAt, .ref a_land_columnAt, .ref a_land_ways, .ref a_land_beside, .int land_flaw, .int land_cells, .int land_columns, .int land_rows]))]
abbrev rm_X3_becomeEmpty : Room := { frames := 0, cells := 0, slots := 0, locals := 0 }
section
variable {p : Program} {l : Launch} {e : Env} {s : State} {m : MethodId} {args : Array Value} {below : List Frame} {meth : Method} {c : Code} {D : va_G} {cA : Nat → ClassId} {ws0 : va_W} {sz : Nat} {A : Nat → Prop} {Q : State → Prop}
def f_X3_becomeEmpty (land_cells : Int32) (land_columns : Int32) (land_rows : Int32) : Option (Int32 × Int32 × Int32) :=
  some ((0 : Int32), (0 : Int32), (0 : Int32))
set_option maxHeartbeats 4000000 in
set_option maxRecDepth 100000 in
theorem k_X3_becomeEmpty (C : Cx RX3 cX3_becomeEmpty 1 D cA p s m args c) (hr : meth.sig.returnType = none) (hlk : meth.locks = false) (hA : ∀ q, s.heap.size ≤ q → va_A ws0 sz q) (a_land a_land_kinds a_land_rowAt a_land_columnAt a_land_ways a_land_beside : Nat) (land_flaw : Int32) (land_cells : Int32) (land_columns : Int32) (land_rows : Int32) (r : Int32 × Int32 × Int32) (hf : f_X3_becomeEmpty land_cells land_columns land_rows = some r) : At p l e rm_X3_becomeEmpty s m args below meth c D (va_A ws0 sz) 0 0 (MQ below (PostV D ws0 (wl_X3_becomeEmpty cA a_land a_land_kinds a_land_rowAt a_land_columnAt a_land_ways a_land_beside land_flaw (r.1) (r.2.1) (r.2.2)) sz) args s 0 0 (va_A ws0 sz)) 1 0 (wl_X3_becomeEmpty cA a_land a_land_kinds a_land_rowAt a_land_columnAt a_land_ways a_land_beside land_flaw land_cells land_columns land_rows) [(0, .ref a_land)] [] := by
  intro H locs ls hP hD hS hl
  have hx := C.1
  have hb := C.2.1
  have hown := C.2.2.2.1
  have hts := C.2.2.2.2.1
  unfold f_X3_becomeEmpty at hf
  refine lv_aload_n (pc := 0) hx hb dX3_becomeEmpty_0 rfl (lv_at hl 0 rfl) ?_
  refine lv_iconst (pc := 1) (v := 0) hx hb dX3_becomeEmpty_1 ic_0 ?_
  refine g_put (pc := 2) C fg_X3_31 ft_X3_6 hP hD hS 0 rfl rfl rfl (Nat.le_of_ble_eq_true rfl) dX3_becomeEmpty_2 (fun H locs hP hD hS => ?_)
  have hP : va_P D classes (wl_X3_becomeEmpty cA a_land a_land_kinds a_land_rowAt a_land_columnAt a_land_ways a_land_beside land_flaw (0 : Int32) land_columns land_rows) H := hP
  have hD : va_D (va_A ws0 sz) (wl_X3_becomeEmpty cA a_land a_land_kinds a_land_rowAt a_land_columnAt a_land_ways a_land_beside land_flaw (0 : Int32) land_columns land_rows) := hD
  refine lv_aload_n (pc := 5) hx hb dX3_becomeEmpty_5 rfl (lv_at hl 0 rfl) ?_
  refine lv_iconst (pc := 6) (v := 0) hx hb dX3_becomeEmpty_6 ic_0 ?_
  refine g_put (pc := 7) C fg_X3_34 ft_X3_7 hP hD hS 0 rfl rfl rfl (Nat.le_of_ble_eq_true rfl) dX3_becomeEmpty_7 (fun H locs hP hD hS => ?_)
  have hP : va_P D classes (wl_X3_becomeEmpty cA a_land a_land_kinds a_land_rowAt a_land_columnAt a_land_ways a_land_beside land_flaw (0 : Int32) (0 : Int32) land_rows) H := hP
  have hD : va_D (va_A ws0 sz) (wl_X3_becomeEmpty cA a_land a_land_kinds a_land_rowAt a_land_columnAt a_land_ways a_land_beside land_flaw (0 : Int32) (0 : Int32) land_rows) := hD
  refine lv_aload_n (pc := 10) hx hb dX3_becomeEmpty_10 rfl (lv_at hl 0 rfl) ?_
  refine lv_iconst (pc := 11) (v := 0) hx hb dX3_becomeEmpty_11 ic_0 ?_
  refine g_put (pc := 12) C fg_X3_37 ft_X3_8 hP hD hS 0 rfl rfl rfl (Nat.le_of_ble_eq_true rfl) dX3_becomeEmpty_12 (fun H locs hP hD hS => ?_)
  have hP : va_P D classes (wl_X3_becomeEmpty cA a_land a_land_kinds a_land_rowAt a_land_columnAt a_land_ways a_land_beside land_flaw (0 : Int32) (0 : Int32) (0 : Int32)) H := hP
  have hD : va_D (va_A ws0 sz) (wl_X3_becomeEmpty cA a_land a_land_kinds a_land_rowAt a_land_columnAt a_land_ways a_land_beside land_flaw (0 : Int32) (0 : Int32) (0 : Int32)) := hD
  have hf := Option.some.inj hf
  subst hf
  exact ret_v C hr hlk hP hS dX3_becomeEmpty_15
set_option maxRecDepth 100000 in
theorem c_X3_becomeEmpty (l : Launch) (D : va_G) (cA : Nat → ClassId) (a_land a_land_kinds a_land_rowAt a_land_columnAt a_land_ways a_land_beside : Nat) (land_flaw : Int32) (land_cells : Int32) (land_columns : Int32) (land_rows : Int32) (r : Int32 × Int32 × Int32) (hf : f_X3_becomeEmpty land_cells land_columns land_rows = some r) (sz : Nat) : Met l yX3_becomeEmpty (Cond.code yX3_becomeEmpty cX3_becomeEmpty 1 none :: lw_good) rm_X3_becomeEmpty (PreX D cA [.ref a_land] sz (wl_X3_becomeEmpty cA a_land a_land_kinds a_land_rowAt a_land_columnAt a_land_ways a_land_beside land_flaw land_cells land_columns land_rows)) (PostV D (wl_X3_becomeEmpty cA a_land a_land_kinds a_land_rowAt a_land_columnAt a_land_ways a_land_beside land_flaw land_cells land_columns land_rows) (wl_X3_becomeEmpty cA a_land a_land_kinds a_land_rowAt a_land_columnAt a_land_ways a_land_beside land_flaw (r.1) (r.2.1) (r.2.2)) sz) 0 0 (va_A (wl_X3_becomeEmpty cA a_land a_land_kinds a_land_rowAt a_land_columnAt a_land_ways a_land_beside land_flaw land_cells land_columns land_rows) sz) :=
  met_of (by decide) (Nat.le_of_ble_eq_true rfl) (fun p e s m args below meth c C hr hlk hA => k_X3_becomeEmpty C hr hlk hA a_land a_land_kinds a_land_rowAt a_land_columnAt a_land_ways a_land_beside land_flaw land_cells land_columns land_rows r hf)
end

abbrev wl_X3_endRow (cA : Nat → ClassId) (a_land a_land_kinds a_land_rowAt a_land_columnAt a_land_ways a_land_beside : Nat) (land_flaw : Int32) (land_cells : Int32) (land_columns : Int32) (land_rows : Int32) : va_W := [(a_land, .inr (3, [.ref a_land_kinds, .ref a_land_rowAt, .ref a_land_columnAt, .ref a_land_ways, .ref a_land_beside, .int land_flaw, .int land_cells, .int land_columns, .int land_rows]))]
abbrev rm_X3_endRow : Room := { frames := 0, cells := 0, slots := 0, locals := 0 }
section
variable {p : Program} {l : Launch} {e : Env} {s : State} {m : MethodId} {args : Array Value} {below : List Frame} {meth : Method} {c : Code} {D : va_G} {cA : Nat → ClassId} {ws0 : va_W} {sz : Nat} {A : Nat → Prop} {Q : State → Prop}
def f_X3_endRow (land_columns : Int32) (land_rows : Int32) (x1 : Int32) : Option (Int32 × Int32) :=
  letv ((land_rows + (1 : Int32))) (fun v1 => some (x1, v1))
set_option maxHeartbeats 4000000 in
set_option maxRecDepth 100000 in
theorem k_X3_endRow (C : Cx RX3 cX3_endRow 2 D cA p s m args c) (hr : meth.sig.returnType = none) (hlk : meth.locks = false) (hA : ∀ q, s.heap.size ≤ q → va_A ws0 sz q) (a_land a_land_kinds a_land_rowAt a_land_columnAt a_land_ways a_land_beside : Nat) (land_flaw : Int32) (land_cells : Int32) (land_columns : Int32) (land_rows : Int32) (x1 : Int32) (r : Int32 × Int32) (hf : f_X3_endRow land_columns land_rows x1 = some r) : At p l e rm_X3_endRow s m args below meth c D (va_A ws0 sz) 0 0 (MQ below (PostV D ws0 (wl_X3_endRow cA a_land a_land_kinds a_land_rowAt a_land_columnAt a_land_ways a_land_beside land_flaw land_cells (r.1) (r.2)) sz) args s 0 0 (va_A ws0 sz)) 2 0 (wl_X3_endRow cA a_land a_land_kinds a_land_rowAt a_land_columnAt a_land_ways a_land_beside land_flaw land_cells land_columns land_rows) [(0, .ref a_land), (1, .int x1)] [] := by
  intro H locs ls hP hD hS hl
  have hx := C.1
  have hb := C.2.1
  have hown := C.2.2.2.1
  have hts := C.2.2.2.2.1
  unfold f_X3_endRow at hf
  refine lv_aload_n (pc := 0) hx hb dX3_endRow_0 rfl (lv_at hl 0 rfl) ?_
  refine lv_iload_n (pc := 1) hx hb dX3_endRow_1 rfl (lv_at hl 1 rfl) ?_
  refine g_put (pc := 2) C fg_X3_34 ft_X3_7 hP hD hS 0 rfl rfl rfl (Nat.le_of_ble_eq_true rfl) dX3_endRow_2 (fun H locs hP hD hS => ?_)
  have hP : va_P D classes (wl_X3_endRow cA a_land a_land_kinds a_land_rowAt a_land_columnAt a_land_ways a_land_beside land_flaw land_cells x1 land_rows) H := hP
  have hD : va_D (va_A ws0 sz) (wl_X3_endRow cA a_land a_land_kinds a_land_rowAt a_land_columnAt a_land_ways a_land_beside land_flaw land_cells x1 land_rows) := hD
  refine lv_aload_n (pc := 5) hx hb dX3_endRow_5 rfl (lv_at hl 0 rfl) ?_
  refine lv_dup (pc := 6) hx hb dX3_endRow_6 rfl ?_
  refine g_get (pc := 7) C fg_X3_37 hP 0 rfl rfl dX3_endRow_7 ?_
  refine lv_iconst (pc := 10) (v := 1) hx hb dX3_endRow_10 ic_1 ?_
  refine lv_iadd (pc := 11) hx hb dX3_endRow_11 ?_
  obtain ⟨v1, e_v1, hf⟩ := letv_some hf
  refine tp_i e_v1 ?_
  refine g_put (pc := 12) C fg_X3_37 ft_X3_8 hP hD hS 0 rfl rfl rfl (Nat.le_of_ble_eq_true rfl) dX3_endRow_12 (fun H locs hP hD hS => ?_)
  have hP : va_P D classes (wl_X3_endRow cA a_land a_land_kinds a_land_rowAt a_land_columnAt a_land_ways a_land_beside land_flaw land_cells x1 v1) H := hP
  have hD : va_D (va_A ws0 sz) (wl_X3_endRow cA a_land a_land_kinds a_land_rowAt a_land_columnAt a_land_ways a_land_beside land_flaw land_cells x1 v1) := hD
  have hf := Option.some.inj hf
  subst hf
  exact ret_v C hr hlk hP hS dX3_endRow_15
set_option maxRecDepth 100000 in
theorem c_X3_endRow (l : Launch) (D : va_G) (cA : Nat → ClassId) (a_land a_land_kinds a_land_rowAt a_land_columnAt a_land_ways a_land_beside : Nat) (land_flaw : Int32) (land_cells : Int32) (land_columns : Int32) (land_rows : Int32) (x1 : Int32) (r : Int32 × Int32) (hf : f_X3_endRow land_columns land_rows x1 = some r) (sz : Nat) : Met l yX3_endRow (Cond.code yX3_endRow cX3_endRow 2 none :: lw_good) rm_X3_endRow (PreX D cA [.ref a_land, .int x1] sz (wl_X3_endRow cA a_land a_land_kinds a_land_rowAt a_land_columnAt a_land_ways a_land_beside land_flaw land_cells land_columns land_rows)) (PostV D (wl_X3_endRow cA a_land a_land_kinds a_land_rowAt a_land_columnAt a_land_ways a_land_beside land_flaw land_cells land_columns land_rows) (wl_X3_endRow cA a_land a_land_kinds a_land_rowAt a_land_columnAt a_land_ways a_land_beside land_flaw land_cells (r.1) (r.2)) sz) 0 0 (va_A (wl_X3_endRow cA a_land a_land_kinds a_land_rowAt a_land_columnAt a_land_ways a_land_beside land_flaw land_cells land_columns land_rows) sz) :=
  met_of (by decide) (Nat.le_of_ble_eq_true rfl) (fun p e s m args below meth c C hr hlk hA => k_X3_endRow C hr hlk hA a_land a_land_kinds a_land_rowAt a_land_columnAt a_land_ways a_land_beside land_flaw land_cells land_columns land_rows x1 r hf)
end

abbrev rm_X3_kindOf : Room := { frames := 0, cells := 0, slots := 0, locals := 0 }
section
variable {p : Program} {l : Launch} {e : Env} {s : State} {m : MethodId} {args : Array Value} {below : List Frame} {meth : Method} {c : Code} {D : va_G} {cA : Nat → ClassId} {ws0 : va_W} {sz : Nat} {A : Nat → Prop} {Q : State → Prop}
def f_X3_kindOf (x0 : Int32) : Option (Int32) :=
  if x0 = (35 : Int32) then (some (1 : Int32)) else (if x0 = (46 : Int32) then (some (0 : Int32)) else (if x0 = (108 : Int32) then (some (2 : Int32)) else (if x0 = (119 : Int32) then (some (3 : Int32)) else (some (-1 : Int32)))))
set_option maxHeartbeats 4000000 in
set_option maxRecDepth 100000 in
theorem k_X3_kindOf (C : Cx RX3 cX3_kindOf 1 D cA p s m args c) (hr : meth.sig.returnType = (some .int)) (hlk : meth.locks = false) (hA : ∀ q, s.heap.size ≤ q → va_A ws0 sz q) (x0 : Int32) (r : Int32) (hf : f_X3_kindOf x0 = some r) : At p l e rm_X3_kindOf s m args below meth c D (va_A ws0 sz) 0 0 (MQ below (PostI D r ws0 ([] : va_W) sz) args s 0 0 (va_A ws0 sz)) 1 0 ([] : va_W) [(0, .int x0)] [] := by
  intro H locs ls hP hD hS hl
  have hx := C.1
  have hb := C.2.1
  have hown := C.2.2.2.1
  have hts := C.2.2.2.2.1
  unfold f_X3_kindOf at hf
  refine lv_iload_n (pc := 0) hx hb dX3_kindOf_0 rfl (lv_at hl 0 rfl) ?_
  by_cases h_35 : x0 = (35 : Int32)
  · have hf := (if_pos h_35).symm.trans hf
    refine lv_lookup (pc := 1) (off := 45) (tgt := 46) hx hb dX3_kindOf_1 (by decide) (by rw [h_35]; decide) (by decide) ?_
    refine lv_iconst (pc := 46) (v := 1) hx hb dX3_kindOf_46 ic_1 ?_
    have hf := Option.some.inj hf
    subst hf
    exact ret_i C hr hlk hP hS dX3_kindOf_47
  have hf := (if_neg h_35).symm.trans hf
  by_cases h_46 : x0 = (46 : Int32)
  · have hf := (if_pos h_46).symm.trans hf
    refine lv_lookup (pc := 1) (off := 43) (tgt := 44) hx hb dX3_kindOf_1 (by decide) (by rw [h_46]; decide) (by decide) ?_
    refine lv_iconst (pc := 44) (v := 0) hx hb dX3_kindOf_44 ic_0 ?_
    have hf := Option.some.inj hf
    subst hf
    exact ret_i C hr hlk hP hS dX3_kindOf_45
  have hf := (if_neg h_46).symm.trans hf
  by_cases h_108 : x0 = (108 : Int32)
  · have hf := (if_pos h_108).symm.trans hf
    refine lv_lookup (pc := 1) (off := 47) (tgt := 48) hx hb dX3_kindOf_1 (by decide) (by rw [h_108]; decide) (by decide) ?_
    refine lv_iconst (pc := 48) (v := 2) hx hb dX3_kindOf_48 ic_2 ?_
    have hf := Option.some.inj hf
    subst hf
    exact ret_i C hr hlk hP hS dX3_kindOf_49
  have hf := (if_neg h_108).symm.trans hf
  by_cases h_119 : x0 = (119 : Int32)
  · have hf := (if_pos h_119).symm.trans hf
    refine lv_lookup (pc := 1) (off := 49) (tgt := 50) hx hb dX3_kindOf_1 (by decide) (by rw [h_119]; decide) (by decide) ?_
    refine lv_iconst (pc := 50) (v := 3) hx hb dX3_kindOf_50 ic_3 ?_
    have hf := Option.some.inj hf
    subst hf
    exact ret_i C hr hlk hP hS dX3_kindOf_51
  have hf := (if_neg h_119).symm.trans hf
  refine lv_lookup (pc := 1) (off := 51) (tgt := 52) hx hb dX3_kindOf_1 (by decide) (sw_look h_35 h_46 h_108 h_119) (by decide) ?_
  refine lv_iconst (pc := 52) (v := (-1)) hx hb dX3_kindOf_52 ic_m1 ?_
  have hf := Option.some.inj hf
  subst hf
  exact ret_i C hr hlk hP hS dX3_kindOf_53
set_option maxRecDepth 100000 in
theorem c_X3_kindOf (l : Launch) (D : va_G) (cA : Nat → ClassId) (x0 : Int32) (r : Int32) (hf : f_X3_kindOf x0 = some r) (sz : Nat) : Met l yX3_kindOf (Cond.code yX3_kindOf cX3_kindOf 1 (some .int) :: lw_good) rm_X3_kindOf (PreX D cA [.int x0] sz ([] : va_W)) (PostI D r ([] : va_W) ([] : va_W) sz) 0 0 (va_A ([] : va_W) sz) :=
  met_of (by decide) (Nat.le_of_ble_eq_true rfl) (fun p e s m args below meth c C hr hlk hA => k_X3_kindOf C hr hlk hA x0 r hf)
end

abbrev wl_X3_gather (cA : Nat → ClassId) (a_land a_land_kinds a_land_rowAt a_land_columnAt a_land_ways a_land_beside a_T a_T_bytes : Nat) (nT : Nat) (land_flaw : Int32) (land_cells : Int32) (land_columns : Int32) (land_rows : Int32) (land_kinds : Nat → Int32) (land_rowAt : Nat → Int32) (land_columnAt : Nat → Int32) (T_length : Int32) (T_bytes : Nat → Int32) : va_W := [(a_land, .inr (3, [.ref a_land_kinds, .ref a_land_rowAt, .ref a_land_columnAt, .ref a_land_ways, .ref a_land_beside, .int land_flaw, .int land_cells, .int land_columns, .int land_rows])), (a_land_kinds, .inl (cA 0, 36, .inl land_kinds)), (a_land_rowAt, .inl (cA 0, 36, .inl land_rowAt)), (a_land_columnAt, .inl (cA 0, 36, .inl land_columnAt)), (a_T, .inr (6, [.ref a_T_bytes, .int T_length])), (a_T_bytes, .inl (cA 0, nT, .inl T_bytes))]
abbrev rm_X3_gather : Room := { frames := 1, cells := 0, slots := 0, locals := 21 }
section
variable {p : Program} {l : Launch} {e : Env} {s : State} {m : MethodId} {args : Array Value} {below : List Frame} {meth : Method} {c : Code} {D : va_G} {cA : Nat → ClassId} {ws0 : va_W} {sz : Nat} {A : Nat → Prop} {Q : State → Prop}
def f_X3_gather_b155L4 (nT : Nat) (land_cells : Int32) (land_columns : Int32) (land_rows : Int32) (land_kinds : Nat → Int32) (land_rowAt : Nat → Int32) (land_columnAt : Nat → Int32) (T_length : Int32) (T_bytes : Nat → Int32) (x2 : Int32) (x3 : Int32) : Option ((Int32 × Int32 × Int32 × Int32 × Int32 × (Nat → Int32) × (Nat → Int32) × (Nat → Int32)) ⊕ ((Int32 × Int32 × Int32 × Int32 × (Nat → Int32) × (Nat → Int32) × (Nat → Int32)) ⊕ ((Int32 × Int32 × Int32 × Int32 × (Nat → Int32) × (Nat → Int32) × (Nat → Int32)) ⊕ (Int32 × Int32 × Int32 × Int32 × (Nat → Int32) × (Nat → Int32) × (Nat → Int32))))) :=
  some (.inl (x2, (x3 + 1), land_cells, land_columns, land_rows, land_kinds, land_rowAt, land_columnAt))
set_option maxHeartbeats 4000000 in
set_option maxRecDepth 100000 in
theorem k_X3_gather_b155L4 (C : Cx RX3 cX3_gather 7 D cA p s m args c) (hA : ∀ q, s.heap.size ≤ q → A q) (a_land a_land_kinds a_land_rowAt a_land_columnAt a_land_ways a_land_beside a_T a_T_bytes : Nat) (nT : Nat) (land_flaw : Int32) (land_cells : Int32) (land_columns : Int32) (land_rows : Int32) (land_kinds : Nat → Int32) (land_rowAt : Nat → Int32) (land_columnAt : Nat → Int32) (T_length : Int32) (T_bytes : Nat → Int32) (x2 : Int32) (x3 : Int32) (r : (Int32 × Int32 × Int32 × Int32 × Int32 × (Nat → Int32) × (Nat → Int32) × (Nat → Int32)) ⊕ ((Int32 × Int32 × Int32 × Int32 × (Nat → Int32) × (Nat → Int32) × (Nat → Int32)) ⊕ ((Int32 × Int32 × Int32 × Int32 × (Nat → Int32) × (Nat → Int32) × (Nat → Int32)) ⊕ (Int32 × Int32 × Int32 × Int32 × (Nat → Int32) × (Nat → Int32) × (Nat → Int32))))) (hf : f_X3_gather_b155L4 nT land_cells land_columns land_rows land_kinds land_rowAt land_columnAt T_length T_bytes x2 x3 = some r) (hK : Sum.elim (fun q : Int32 × Int32 × Int32 × Int32 × Int32 × (Nat → Int32) × (Nat → Int32) × (Nat → Int32) => At p l e rm_X3_gather s m args below meth c D A 0 0 Q 7 4 (wl_X3_gather cA a_land a_land_kinds a_land_rowAt a_land_columnAt a_land_ways a_land_beside a_T a_T_bytes nT land_flaw (q.2.2.1) (q.2.2.2.1) (q.2.2.2.2.1) (q.2.2.2.2.2.1) (q.2.2.2.2.2.2.1) (q.2.2.2.2.2.2.2) T_length T_bytes) [(0, .ref a_land), (1, .ref a_T), (2, .int (q.1)), (3, .int (q.2.1))] []) (Sum.elim (fun q : Int32 × Int32 × Int32 × Int32 × (Nat → Int32) × (Nat → Int32) × (Nat → Int32) => At p l e rm_X3_gather s m args below meth c D A 0 0 Q 7 39 (wl_X3_gather cA a_land a_land_kinds a_land_rowAt a_land_columnAt a_land_ways a_land_beside a_T a_T_bytes nT land_flaw (q.2.1) (q.2.2.1) (q.2.2.2.1) (q.2.2.2.2.1) (q.2.2.2.2.2.1) (q.2.2.2.2.2.2) T_length T_bytes) [(3, .int (q.1))] []) (Sum.elim (fun q : Int32 × Int32 × Int32 × Int32 × (Nat → Int32) × (Nat → Int32) × (Nat → Int32) => At p l e rm_X3_gather s m args below meth c D A 0 0 Q 7 106 (wl_X3_gather cA a_land a_land_kinds a_land_rowAt a_land_columnAt a_land_ways a_land_beside a_T a_T_bytes nT land_flaw (q.2.1) (q.2.2.1) (q.2.2.2.1) (q.2.2.2.2.1) (q.2.2.2.2.2.1) (q.2.2.2.2.2.2) T_length T_bytes) [(3, .int (q.1))] []) (fun q : Int32 × Int32 × Int32 × Int32 × (Nat → Int32) × (Nat → Int32) × (Nat → Int32) => At p l e rm_X3_gather s m args below meth c D A 0 0 Q 7 161 (wl_X3_gather cA a_land a_land_kinds a_land_rowAt a_land_columnAt a_land_ways a_land_beside a_T a_T_bytes nT land_flaw (q.2.1) (q.2.2.1) (q.2.2.2.1) (q.2.2.2.2.1) (q.2.2.2.2.2.1) (q.2.2.2.2.2.2) T_length T_bytes) [(0, .ref a_land), (1, .ref a_T), (2, .int (q.1))] []))) r) : At p l e rm_X3_gather s m args below meth c D A 0 0 Q 7 155 (wl_X3_gather cA a_land a_land_kinds a_land_rowAt a_land_columnAt a_land_ways a_land_beside a_T a_T_bytes nT land_flaw land_cells land_columns land_rows land_kinds land_rowAt land_columnAt T_length T_bytes) [(0, .ref a_land), (1, .ref a_T), (2, .int x2), (3, .int x3)] [] := by
  intro H locs ls hP hD hS hl
  have hx := C.1
  have hb := C.2.1
  have hown := C.2.2.2.1
  have hts := C.2.2.2.2.1
  unfold f_X3_gather_b155L4 at hf
  refine lv_iinc (pc := 155) (v := (x3 + 1)) (lv' := [(3, .int (x3 + 1)), (0, .ref a_land), (1, .ref a_T), (2, .int x2)]) hx hb dX3_gather_155 hl (k := 3) rfl rfl (Nat.le_of_ble_eq_true rfl) rfl (fun ls hl => ?_)
  refine lv_goto (pc := 158) (tgt := 4) hx hb dX3_gather_158 (by decide) ?_
  have hf := Option.some.inj hf
  subst hf
  exact hK H locs ls hP hD hS (lv_sub hl [1, 2, 3, 0] rfl)
def f_X3_gather_b74L4 (nT : Nat) (land_cells : Int32) (land_columns : Int32) (land_rows : Int32) (land_kinds : Nat → Int32) (land_rowAt : Nat → Int32) (land_columnAt : Nat → Int32) (T_length : Int32) (T_bytes : Nat → Int32) (x2 : Int32) (x3 : Int32) (x5 : Int32) (s0 : Int32) : Option ((Int32 × Int32 × Int32 × Int32 × Int32 × (Nat → Int32) × (Nat → Int32) × (Nat → Int32)) ⊕ ((Int32 × Int32 × Int32 × Int32 × (Nat → Int32) × (Nat → Int32) × (Nat → Int32)) ⊕ ((Int32 × Int32 × Int32 × Int32 × (Nat → Int32) × (Nat → Int32) × (Nat → Int32)) ⊕ (Int32 × Int32 × Int32 × Int32 × (Nat → Int32) × (Nat → Int32) × (Nat → Int32))))) :=
  if x5 = (-1 : Int32) then (some (.inr (.inr (.inl (x3, land_cells, land_columns, land_rows, land_kinds, land_rowAt, land_columnAt))))) else (if (6 : Int32) ≤ land_rows then (some (.inr (.inr (.inl (x3, land_cells, land_columns, land_rows, land_kinds, land_rowAt, land_columnAt))))) else (if s0 ≤ x2 then (some (.inr (.inr (.inl (x3, land_cells, land_columns, land_rows, land_kinds, land_rowAt, land_columnAt))))) else (if land_cells < (36 : Int32) then (gd (inb land_cells 36) (gd (inb land_cells 36) (gd (inb land_cells 36) (letv ((land_cells + (1 : Int32))) (fun v3 => f_X3_gather_b155L4 nT v3 land_columns land_rows (upd land_kinds land_cells.toNatClampNeg x5) (upd land_rowAt land_cells.toNatClampNeg land_rows) (upd land_columnAt land_cells.toNatClampNeg x2) T_length T_bytes (x2 + 1) x3))))) else (some (.inr (.inr (.inl (x3, land_cells, land_columns, land_rows, land_kinds, land_rowAt, land_columnAt))))))))
set_option maxHeartbeats 4000000 in
set_option maxRecDepth 100000 in
theorem k_X3_gather_b74L4 (C : Cx RX3 cX3_gather 7 D cA p s m args c) (hA : ∀ q, s.heap.size ≤ q → A q) (a_land a_land_kinds a_land_rowAt a_land_columnAt a_land_ways a_land_beside a_T a_T_bytes : Nat) (nT : Nat) (land_flaw : Int32) (land_cells : Int32) (land_columns : Int32) (land_rows : Int32) (land_kinds : Nat → Int32) (land_rowAt : Nat → Int32) (land_columnAt : Nat → Int32) (T_length : Int32) (T_bytes : Nat → Int32) (x2 : Int32) (x3 : Int32) (x5 : Int32) (s0 : Int32) (r : (Int32 × Int32 × Int32 × Int32 × Int32 × (Nat → Int32) × (Nat → Int32) × (Nat → Int32)) ⊕ ((Int32 × Int32 × Int32 × Int32 × (Nat → Int32) × (Nat → Int32) × (Nat → Int32)) ⊕ ((Int32 × Int32 × Int32 × Int32 × (Nat → Int32) × (Nat → Int32) × (Nat → Int32)) ⊕ (Int32 × Int32 × Int32 × Int32 × (Nat → Int32) × (Nat → Int32) × (Nat → Int32))))) (hf : f_X3_gather_b74L4 nT land_cells land_columns land_rows land_kinds land_rowAt land_columnAt T_length T_bytes x2 x3 x5 s0 = some r) (hK : Sum.elim (fun q : Int32 × Int32 × Int32 × Int32 × Int32 × (Nat → Int32) × (Nat → Int32) × (Nat → Int32) => At p l e rm_X3_gather s m args below meth c D A 0 0 Q 7 4 (wl_X3_gather cA a_land a_land_kinds a_land_rowAt a_land_columnAt a_land_ways a_land_beside a_T a_T_bytes nT land_flaw (q.2.2.1) (q.2.2.2.1) (q.2.2.2.2.1) (q.2.2.2.2.2.1) (q.2.2.2.2.2.2.1) (q.2.2.2.2.2.2.2) T_length T_bytes) [(0, .ref a_land), (1, .ref a_T), (2, .int (q.1)), (3, .int (q.2.1))] []) (Sum.elim (fun q : Int32 × Int32 × Int32 × Int32 × (Nat → Int32) × (Nat → Int32) × (Nat → Int32) => At p l e rm_X3_gather s m args below meth c D A 0 0 Q 7 39 (wl_X3_gather cA a_land a_land_kinds a_land_rowAt a_land_columnAt a_land_ways a_land_beside a_T a_T_bytes nT land_flaw (q.2.1) (q.2.2.1) (q.2.2.2.1) (q.2.2.2.2.1) (q.2.2.2.2.2.1) (q.2.2.2.2.2.2) T_length T_bytes) [(3, .int (q.1))] []) (Sum.elim (fun q : Int32 × Int32 × Int32 × Int32 × (Nat → Int32) × (Nat → Int32) × (Nat → Int32) => At p l e rm_X3_gather s m args below meth c D A 0 0 Q 7 106 (wl_X3_gather cA a_land a_land_kinds a_land_rowAt a_land_columnAt a_land_ways a_land_beside a_T a_T_bytes nT land_flaw (q.2.1) (q.2.2.1) (q.2.2.2.1) (q.2.2.2.2.1) (q.2.2.2.2.2.1) (q.2.2.2.2.2.2) T_length T_bytes) [(3, .int (q.1))] []) (fun q : Int32 × Int32 × Int32 × Int32 × (Nat → Int32) × (Nat → Int32) × (Nat → Int32) => At p l e rm_X3_gather s m args below meth c D A 0 0 Q 7 161 (wl_X3_gather cA a_land a_land_kinds a_land_rowAt a_land_columnAt a_land_ways a_land_beside a_T a_T_bytes nT land_flaw (q.2.1) (q.2.2.1) (q.2.2.2.1) (q.2.2.2.2.1) (q.2.2.2.2.2.1) (q.2.2.2.2.2.2) T_length T_bytes) [(0, .ref a_land), (1, .ref a_T), (2, .int (q.1))] []))) r) : At p l e rm_X3_gather s m args below meth c D A 0 0 Q 7 74 (wl_X3_gather cA a_land a_land_kinds a_land_rowAt a_land_columnAt a_land_ways a_land_beside a_T a_T_bytes nT land_flaw land_cells land_columns land_rows land_kinds land_rowAt land_columnAt T_length T_bytes) [(0, .ref a_land), (1, .ref a_T), (2, .int x2), (3, .int x3), (5, .int x5)] [.int s0] := by
  intro H locs ls hP hD hS hl
  have hx := C.1
  have hb := C.2.1
  have hown := C.2.2.2.1
  have hts := C.2.2.2.2.1
  unfold f_X3_gather_b74L4 at hf
  refine lv_istore (pc := 74) (lv' := [(6, .int s0), (0, .ref a_land), (1, .ref a_T), (2, .int x2), (3, .int x3), (5, .int x5)]) hx hb dX3_gather_74 hl (Nat.le_of_ble_eq_true rfl) rfl (fun ls hl => ?_)
  refine lv_iload (pc := 76) hx hb dX3_gather_76 (lv_at hl 5 rfl) ?_
  refine lv_iconst (pc := 78) (v := (-1)) hx hb dX3_gather_78 ic_m1 ?_
  refine lv_icmp_eq (pc := 79) (tgt := 106) hx hb dX3_gather_79 (by decide) (fun hc => ?_) (fun hc => ?_)
  · have hf := (if_pos hc).symm.trans hf
    have hf := Option.some.inj hf
    subst hf
    exact hK H locs ls hP hD hS (lv_sub hl [4] rfl)
  · have hf := (if_neg hc).symm.trans hf
    refine lv_aload_n (pc := 82) hx hb dX3_gather_82 rfl (lv_at hl 1 rfl) ?_
    refine g_get (pc := 83) C fg_X3_37 hP 0 rfl rfl dX3_gather_83 ?_
    refine lv_bipush (pc := 86) (v := 6) hx hb dX3_gather_86 bp_6 ?_
    refine lv_icmp_ge (pc := 88) (tgt := 106) hx hb dX3_gather_88 (by decide) (fun hc => ?_) (fun hc => ?_)
    · have hf := (if_pos hc).symm.trans hf
      have hf := Option.some.inj hf
      subst hf
      exact hK H locs ls hP hD hS (lv_sub hl [4] rfl)
    · have hf := (if_neg hc).symm.trans hf
      refine lv_iload_n (pc := 91) hx hb dX3_gather_91 rfl (lv_at hl 3 rfl) ?_
      refine lv_iload (pc := 92) hx hb dX3_gather_92 (lv_at hl 0 rfl) ?_
      refine lv_icmp_ge (pc := 94) (tgt := 106) hx hb dX3_gather_94 (by decide) (fun hc => ?_) (fun hc => ?_)
      · have hf := (if_pos hc).symm.trans hf
        have hf := Option.some.inj hf
        subst hf
        exact hK H locs ls hP hD hS (lv_sub hl [4] rfl)
      · have hf := (if_neg hc).symm.trans hf
        refine lv_aload_n (pc := 97) hx hb dX3_gather_97 rfl (lv_at hl 1 rfl) ?_
        refine g_get (pc := 98) C fg_X3_31 hP 0 rfl rfl dX3_gather_98 ?_
        refine lv_bipush (pc := 101) (v := 36) hx hb dX3_gather_101 bp_36 ?_
        refine lv_icmp_lt (pc := 103) (tgt := 108) hx hb dX3_gather_103 (by decide) (fun hc => ?_) (fun hc => ?_)
        · have hf := (if_pos hc).symm.trans hf
          refine lv_aload_n (pc := 108) hx hb dX3_gather_108 rfl (lv_at hl 1 rfl) ?_
          refine g_get (pc := 109) C fg_X3_9 hP 0 rfl rfl dX3_gather_109 ?_
          refine lv_aload_n (pc := 112) hx hb dX3_gather_112 rfl (lv_at hl 1 rfl) ?_
          refine g_get (pc := 113) C fg_X3_31 hP 0 rfl rfl dX3_gather_113 ?_
          refine lv_iload (pc := 116) hx hb dX3_gather_116 (lv_at hl 5 rfl) ?_
          obtain ⟨hg, hf⟩ := gd_some hf
          refine g_iast (pc := 118) C hP hD hS 1 rfl hg dX3_gather_118 (fun H locs hP hD hS => ?_)
          have hP : va_P D classes (wl_X3_gather cA a_land a_land_kinds a_land_rowAt a_land_columnAt a_land_ways a_land_beside a_T a_T_bytes nT land_flaw land_cells land_columns land_rows (upd land_kinds land_cells.toNatClampNeg x5) land_rowAt land_columnAt T_length T_bytes) H := hP
          have hD : va_D A (wl_X3_gather cA a_land a_land_kinds a_land_rowAt a_land_columnAt a_land_ways a_land_beside a_T a_T_bytes nT land_flaw land_cells land_columns land_rows (upd land_kinds land_cells.toNatClampNeg x5) land_rowAt land_columnAt T_length T_bytes) := hD
          refine lv_aload_n (pc := 119) hx hb dX3_gather_119 rfl (lv_at hl 1 rfl) ?_
          refine g_get (pc := 120) C fg_X3_15 hP 0 rfl rfl dX3_gather_120 ?_
          refine lv_aload_n (pc := 123) hx hb dX3_gather_123 rfl (lv_at hl 1 rfl) ?_
          refine g_get (pc := 124) C fg_X3_31 hP 0 rfl rfl dX3_gather_124 ?_
          refine lv_aload_n (pc := 127) hx hb dX3_gather_127 rfl (lv_at hl 1 rfl) ?_
          refine g_get (pc := 128) C fg_X3_37 hP 0 rfl rfl dX3_gather_128 ?_
          obtain ⟨hg, hf⟩ := gd_some hf
          refine g_iast (pc := 131) C hP hD hS 2 rfl hg dX3_gather_131 (fun H locs hP hD hS => ?_)
          have hP : va_P D classes (wl_X3_gather cA a_land a_land_kinds a_land_rowAt a_land_columnAt a_land_ways a_land_beside a_T a_T_bytes nT land_flaw land_cells land_columns land_rows (upd land_kinds land_cells.toNatClampNeg x5) (upd land_rowAt land_cells.toNatClampNeg land_rows) land_columnAt T_length T_bytes) H := hP
          have hD : va_D A (wl_X3_gather cA a_land a_land_kinds a_land_rowAt a_land_columnAt a_land_ways a_land_beside a_T a_T_bytes nT land_flaw land_cells land_columns land_rows (upd land_kinds land_cells.toNatClampNeg x5) (upd land_rowAt land_cells.toNatClampNeg land_rows) land_columnAt T_length T_bytes) := hD
          refine lv_aload_n (pc := 132) hx hb dX3_gather_132 rfl (lv_at hl 1 rfl) ?_
          refine g_get (pc := 133) C fg_X3_18 hP 0 rfl rfl dX3_gather_133 ?_
          refine lv_aload_n (pc := 136) hx hb dX3_gather_136 rfl (lv_at hl 1 rfl) ?_
          refine g_get (pc := 137) C fg_X3_31 hP 0 rfl rfl dX3_gather_137 ?_
          refine lv_iload_n (pc := 140) hx hb dX3_gather_140 rfl (lv_at hl 3 rfl) ?_
          obtain ⟨hg, hf⟩ := gd_some hf
          refine g_iast (pc := 141) C hP hD hS 3 rfl hg dX3_gather_141 (fun H locs hP hD hS => ?_)
          have hP : va_P D classes (wl_X3_gather cA a_land a_land_kinds a_land_rowAt a_land_columnAt a_land_ways a_land_beside a_T a_T_bytes nT land_flaw land_cells land_columns land_rows (upd land_kinds land_cells.toNatClampNeg x5) (upd land_rowAt land_cells.toNatClampNeg land_rows) (upd land_columnAt land_cells.toNatClampNeg x2) T_length T_bytes) H := hP
          have hD : va_D A (wl_X3_gather cA a_land a_land_kinds a_land_rowAt a_land_columnAt a_land_ways a_land_beside a_T a_T_bytes nT land_flaw land_cells land_columns land_rows (upd land_kinds land_cells.toNatClampNeg x5) (upd land_rowAt land_cells.toNatClampNeg land_rows) (upd land_columnAt land_cells.toNatClampNeg x2) T_length T_bytes) := hD
          refine lv_aload_n (pc := 142) hx hb dX3_gather_142 rfl (lv_at hl 1 rfl) ?_
          refine lv_dup (pc := 143) hx hb dX3_gather_143 rfl ?_
          refine g_get (pc := 144) C fg_X3_31 hP 0 rfl rfl dX3_gather_144 ?_
          refine lv_iconst (pc := 147) (v := 1) hx hb dX3_gather_147 ic_1 ?_
          refine lv_iadd (pc := 148) hx hb dX3_gather_148 ?_
          obtain ⟨v3, e_v3, hf⟩ := letv_some hf
          refine tp_i e_v3 ?_
          refine g_put (pc := 149) C fg_X3_31 ft_X3_6 hP hD hS 0 rfl rfl rfl (Nat.le_of_ble_eq_true rfl) dX3_gather_149 (fun H locs hP hD hS => ?_)
          have hP : va_P D classes (wl_X3_gather cA a_land a_land_kinds a_land_rowAt a_land_columnAt a_land_ways a_land_beside a_T a_T_bytes nT land_flaw v3 land_columns land_rows (upd land_kinds land_cells.toNatClampNeg x5) (upd land_rowAt land_cells.toNatClampNeg land_rows) (upd land_columnAt land_cells.toNatClampNeg x2) T_length T_bytes) H := hP
          have hD : va_D A (wl_X3_gather cA a_land a_land_kinds a_land_rowAt a_land_columnAt a_land_ways a_land_beside a_T a_T_bytes nT land_flaw v3 land_columns land_rows (upd land_kinds land_cells.toNatClampNeg x5) (upd land_rowAt land_cells.toNatClampNeg land_rows) (upd land_columnAt land_cells.toNatClampNeg x2) T_length T_bytes) := hD
          refine lv_iinc (pc := 152) (v := (x2 + 1)) (lv' := [(2, .int (x2 + 1)), (6, .int s0), (0, .ref a_land), (1, .ref a_T), (3, .int x3), (5, .int x5)]) hx hb dX3_gather_152 hl (k := 3) rfl rfl (Nat.le_of_ble_eq_true rfl) rfl (fun ls hl => ?_)
          exact k_X3_gather_b155L4 C hA a_land a_land_kinds a_land_rowAt a_land_columnAt a_land_ways a_land_beside a_T a_T_bytes nT land_flaw v3 land_columns land_rows (upd land_kinds land_cells.toNatClampNeg x5) (upd land_rowAt land_cells.toNatClampNeg land_rows) (upd land_columnAt land_cells.toNatClampNeg x2) T_length T_bytes (x2 + 1) x3 r hf hK H locs ls hP hD hS (lv_sub hl [2, 3, 0, 4] rfl)
        · have hf := (if_neg hc).symm.trans hf
          have hf := Option.some.inj hf
          subst hf
          exact hK H locs ls hP hD hS (lv_sub hl [4] rfl)
def f_X3_gather_L4 (nT : Nat) (T_length : Int32) (T_bytes : Nat → Int32) (x2 : Int32) (x3 : Int32) (land_cells : Int32) (land_columns : Int32) (land_rows : Int32) (land_kinds : Nat → Int32) (land_rowAt : Nat → Int32) (land_columnAt : Nat → Int32) : Option ((Int32 × Int32 × Int32 × Int32 × Int32 × (Nat → Int32) × (Nat → Int32) × (Nat → Int32)) ⊕ ((Int32 × Int32 × Int32 × Int32 × (Nat → Int32) × (Nat → Int32) × (Nat → Int32)) ⊕ ((Int32 × Int32 × Int32 × Int32 × (Nat → Int32) × (Nat → Int32) × (Nat → Int32)) ⊕ (Int32 × Int32 × Int32 × Int32 × (Nat → Int32) × (Nat → Int32) × (Nat → Int32))))) :=
  if T_length ≤ x3 then (some (.inr (.inr (.inr (x2, land_cells, land_columns, land_rows, land_kinds, land_rowAt, land_columnAt))))) else (gd (inb x3 nT) (letv ((T_bytes x3.toNatClampNeg)) (fun v1 => if v1 = (59 : Int32) then (if x2 = 0 then (some (.inr (.inl (x3, land_cells, land_columns, land_rows, land_kinds, land_rowAt, land_columnAt)))) else (if land_columns ≤ x2 then (bind2 (f_X3_endRow land_columns land_rows x2) (fun c4 c5 => f_X3_gather_b155L4 nT land_cells c4 c5 land_kinds land_rowAt land_columnAt T_length T_bytes (0 : Int32) x3)) else (some (.inr (.inl (x3, land_cells, land_columns, land_rows, land_kinds, land_rowAt, land_columnAt)))))) else (bind1 (f_X3_kindOf v1) (fun r2 => if land_rows = 0 then (f_X3_gather_b74L4 nT land_cells land_columns land_rows land_kinds land_rowAt land_columnAt T_length T_bytes x2 x3 r2 (6 : Int32)) else (f_X3_gather_b74L4 nT land_cells land_columns land_rows land_kinds land_rowAt land_columnAt T_length T_bytes x2 x3 r2 land_columns))))))
set_option maxHeartbeats 4000000 in
set_option maxRecDepth 100000 in
theorem k_X3_gather_L4 (C : Cx RX3 cX3_gather 7 D cA p s m args c) (hA : ∀ q, s.heap.size ≤ q → A q) (a_land a_land_kinds a_land_rowAt a_land_columnAt a_land_ways a_land_beside a_T a_T_bytes : Nat) (nT : Nat) (land_flaw : Int32) (T_length : Int32) (T_bytes : Nat → Int32) (x2 : Int32) (x3 : Int32) (land_cells : Int32) (land_columns : Int32) (land_rows : Int32) (land_kinds : Nat → Int32) (land_rowAt : Nat → Int32) (land_columnAt : Nat → Int32) (r : (Int32 × Int32 × Int32 × Int32 × Int32 × (Nat → Int32) × (Nat → Int32) × (Nat → Int32)) ⊕ ((Int32 × Int32 × Int32 × Int32 × (Nat → Int32) × (Nat → Int32) × (Nat → Int32)) ⊕ ((Int32 × Int32 × Int32 × Int32 × (Nat → Int32) × (Nat → Int32) × (Nat → Int32)) ⊕ (Int32 × Int32 × Int32 × Int32 × (Nat → Int32) × (Nat → Int32) × (Nat → Int32))))) (hf : f_X3_gather_L4 nT T_length T_bytes x2 x3 land_cells land_columns land_rows land_kinds land_rowAt land_columnAt = some r) (hK : Sum.elim (fun q : Int32 × Int32 × Int32 × Int32 × Int32 × (Nat → Int32) × (Nat → Int32) × (Nat → Int32) => At p l e rm_X3_gather s m args below meth c D A 0 0 Q 7 4 (wl_X3_gather cA a_land a_land_kinds a_land_rowAt a_land_columnAt a_land_ways a_land_beside a_T a_T_bytes nT land_flaw (q.2.2.1) (q.2.2.2.1) (q.2.2.2.2.1) (q.2.2.2.2.2.1) (q.2.2.2.2.2.2.1) (q.2.2.2.2.2.2.2) T_length T_bytes) [(0, .ref a_land), (1, .ref a_T), (2, .int (q.1)), (3, .int (q.2.1))] []) (Sum.elim (fun q : Int32 × Int32 × Int32 × Int32 × (Nat → Int32) × (Nat → Int32) × (Nat → Int32) => At p l e rm_X3_gather s m args below meth c D A 0 0 Q 7 39 (wl_X3_gather cA a_land a_land_kinds a_land_rowAt a_land_columnAt a_land_ways a_land_beside a_T a_T_bytes nT land_flaw (q.2.1) (q.2.2.1) (q.2.2.2.1) (q.2.2.2.2.1) (q.2.2.2.2.2.1) (q.2.2.2.2.2.2) T_length T_bytes) [(3, .int (q.1))] []) (Sum.elim (fun q : Int32 × Int32 × Int32 × Int32 × (Nat → Int32) × (Nat → Int32) × (Nat → Int32) => At p l e rm_X3_gather s m args below meth c D A 0 0 Q 7 106 (wl_X3_gather cA a_land a_land_kinds a_land_rowAt a_land_columnAt a_land_ways a_land_beside a_T a_T_bytes nT land_flaw (q.2.1) (q.2.2.1) (q.2.2.2.1) (q.2.2.2.2.1) (q.2.2.2.2.2.1) (q.2.2.2.2.2.2) T_length T_bytes) [(3, .int (q.1))] []) (fun q : Int32 × Int32 × Int32 × Int32 × (Nat → Int32) × (Nat → Int32) × (Nat → Int32) => At p l e rm_X3_gather s m args below meth c D A 0 0 Q 7 161 (wl_X3_gather cA a_land a_land_kinds a_land_rowAt a_land_columnAt a_land_ways a_land_beside a_T a_T_bytes nT land_flaw (q.2.1) (q.2.2.1) (q.2.2.2.1) (q.2.2.2.2.1) (q.2.2.2.2.2.1) (q.2.2.2.2.2.2) T_length T_bytes) [(0, .ref a_land), (1, .ref a_T), (2, .int (q.1))] []))) r) : At p l e rm_X3_gather s m args below meth c D A 0 0 Q 7 4 (wl_X3_gather cA a_land a_land_kinds a_land_rowAt a_land_columnAt a_land_ways a_land_beside a_T a_T_bytes nT land_flaw land_cells land_columns land_rows land_kinds land_rowAt land_columnAt T_length T_bytes) [(0, .ref a_land), (1, .ref a_T), (2, .int x2), (3, .int x3)] [] := by
  intro H locs ls hP hD hS hl
  have hx := C.1
  have hb := C.2.1
  have hown := C.2.2.2.1
  have hts := C.2.2.2.2.1
  unfold f_X3_gather_L4 at hf
  refine lv_iload_n (pc := 4) hx hb dX3_gather_4 rfl (lv_at hl 3 rfl) ?_
  refine lv_aload_n (pc := 5) hx hb dX3_gather_5 rfl (lv_at hl 1 rfl) ?_
  refine g_get (pc := 6) C fg_X3_43 hP 4 rfl rfl dX3_gather_6 ?_
  refine lv_icmp_ge (pc := 9) (tgt := 161) hx hb dX3_gather_9 (by decide) (fun hc => ?_) (fun hc => ?_)
  · have hf := (if_pos hc).symm.trans hf
    have hf := Option.some.inj hf
    subst hf
    exact hK H locs ls hP hD hS (lv_sub hl [0, 1, 2] rfl)
  · have hf := (if_neg hc).symm.trans hf
    refine lv_aload_n (pc := 12) hx hb dX3_gather_12 rfl (lv_at hl 1 rfl) ?_
    refine g_get (pc := 13) C fg_X3_56 hP 4 rfl rfl dX3_gather_13 ?_
    refine lv_iload_n (pc := 16) hx hb dX3_gather_16 rfl (lv_at hl 3 rfl) ?_
    obtain ⟨hg, hf⟩ := gd_some hf
    refine g_iald (pc := 17) C hP 5 rfl hg dX3_gather_17 ?_
    obtain ⟨v1, e_v1, hf⟩ := letv_some hf
    refine tp_i e_v1 ?_
    refine lv_istore (pc := 18) (lv' := [(4, .int v1), (0, .ref a_land), (1, .ref a_T), (2, .int x2), (3, .int x3)]) hx hb dX3_gather_18 hl (Nat.le_of_ble_eq_true rfl) rfl (fun ls hl => ?_)
    refine lv_iload (pc := 20) hx hb dX3_gather_20 (lv_at hl 0 rfl) ?_
    refine lv_bipush (pc := 22) (v := 59) hx hb dX3_gather_22 bp_59 ?_
    refine lv_icmp_ne (pc := 24) (tgt := 51) hx hb dX3_gather_24 (by decide) (fun hc => ?_) (fun hc => ?_)
    · have hf := (if_neg hc).symm.trans hf
      refine lv_iload (pc := 51) hx hb dX3_gather_51 (lv_at hl 0 rfl) ?_
      obtain ⟨r2, hq, hf⟩ := bind1_some hf
      refine fin2_i (wl_X3_gather cA a_land a_land_kinds a_land_rowAt a_land_columnAt a_land_ways a_land_beside a_T a_T_bytes nT land_flaw land_cells land_columns land_rows land_kinds land_rowAt land_columnAt T_length T_bytes) (run_S (rest := []) (pc := 53) (As := [.int v1]) C mf_X3_62 (c_X3_kindOf l D cA  v1 r2 hq H.size) rfl rfl ⟨(Nat.le_of_ble_eq_true rfl), (Nat.le_of_ble_eq_true rfl)⟩ (preS_of C hP hD [] rfl (pl_nd pv_2)) rfl hl.1 rfl (Nat.le_of_ble_eq_true rfl) dX3_gather_53 ⟨Nat.zero_le _, Nat.zero_le _⟩) hP hD hS hA [] [0, 1, 2, 3, 4, 5] rfl rfl rfl rfl pv_2 (fun H locs hP hS => ?_)
      refine lv_istore (pc := 56) (lv' := [(5, .int r2), (4, .int v1), (0, .ref a_land), (1, .ref a_T), (2, .int x2), (3, .int x3)]) hx hb dX3_gather_56 hl (Nat.le_of_ble_eq_true rfl) rfl (fun ls hl => ?_)
      refine lv_aload_n (pc := 58) hx hb dX3_gather_58 rfl (lv_at hl 2 rfl) ?_
      refine g_get (pc := 59) C fg_X3_37 hP 0 rfl rfl dX3_gather_59 ?_
      refine lv_if_ne (pc := 62) (tgt := 70) hx hb dX3_gather_62 (by decide) (fun hc => ?_) (fun hc => ?_)
      · have hf := (if_neg hc).symm.trans hf
        refine lv_aload_n (pc := 70) hx hb dX3_gather_70 rfl (lv_at hl 2 rfl) ?_
        refine g_get (pc := 71) C fg_X3_34 hP 0 rfl rfl dX3_gather_71 ?_
        exact k_X3_gather_b74L4 C hA a_land a_land_kinds a_land_rowAt a_land_columnAt a_land_ways a_land_beside a_T a_T_bytes nT land_flaw land_cells land_columns land_rows land_kinds land_rowAt land_columnAt T_length T_bytes x2 x3 r2 land_columns r hf hK H locs ls hP hD hS (lv_sub hl [2, 3, 4, 5, 0] rfl)
      · have hf := (if_pos hc).symm.trans hf
        refine lv_bipush (pc := 65) (v := 6) hx hb dX3_gather_65 bp_6 ?_
        refine lv_goto (pc := 67) (tgt := 74) hx hb dX3_gather_67 (by decide) ?_
        exact k_X3_gather_b74L4 C hA a_land a_land_kinds a_land_rowAt a_land_columnAt a_land_ways a_land_beside a_T a_T_bytes nT land_flaw land_cells land_columns land_rows land_kinds land_rowAt land_columnAt T_length T_bytes x2 x3 r2 (6 : Int32) r hf hK H locs ls hP hD hS (lv_sub hl [2, 3, 4, 5, 0] rfl)
    · have hf := (if_pos hc).symm.trans hf
      refine lv_iload_n (pc := 27) hx hb dX3_gather_27 rfl (lv_at hl 3 rfl) ?_
      refine lv_if_eq (pc := 28) (tgt := 39) hx hb dX3_gather_28 (by decide) (fun hc => ?_) (fun hc => ?_)
      · have hf := (if_pos hc).symm.trans hf
        have hf := Option.some.inj hf
        subst hf
        exact hK H locs ls hP hD hS (lv_sub hl [4] rfl)
      · have hf := (if_neg hc).symm.trans hf
        refine lv_iload_n (pc := 31) hx hb dX3_gather_31 rfl (lv_at hl 3 rfl) ?_
        refine lv_aload_n (pc := 32) hx hb dX3_gather_32 rfl (lv_at hl 1 rfl) ?_
        refine g_get (pc := 33) C fg_X3_34 hP 0 rfl rfl dX3_gather_33 ?_
        refine lv_icmp_ge (pc := 36) (tgt := 41) hx hb dX3_gather_36 (by decide) (fun hc => ?_) (fun hc => ?_)
        · have hf := (if_pos hc).symm.trans hf
          refine lv_aload_n (pc := 41) hx hb dX3_gather_41 rfl (lv_at hl 1 rfl) ?_
          refine lv_iload_n (pc := 42) hx hb dX3_gather_42 rfl (lv_at hl 3 rfl) ?_
          obtain ⟨c4, c5, hq, hf⟩ := bind2_some hf
          refine fin2_v (wl_X3_gather cA a_land a_land_kinds a_land_rowAt a_land_columnAt a_land_ways a_land_beside a_T a_T_bytes nT land_flaw land_cells c4 c5 land_kinds land_rowAt land_columnAt T_length T_bytes) (run_V (rest := []) (pc := 43) (As := [.int x2]) C mf_X3_59 (c_X3_endRow l D cA a_land a_land_kinds a_land_rowAt a_land_columnAt a_land_ways a_land_beside land_flaw land_cells land_columns land_rows x2 (c4, c5) hq H.size) rfl rfl ⟨(Nat.le_of_ble_eq_true rfl), (Nat.le_of_ble_eq_true rfl)⟩ (preV_of C hP hD [0] rfl (pl_nd pv_3) 0 rfl rfl rfl) rfl hl.1 rfl (Nat.le_of_ble_eq_true rfl) dX3_gather_43 ⟨Nat.zero_le _, Nat.zero_le _⟩) hP hD hS hA [0] [1, 2, 3, 4, 5] rfl rfl rfl rfl pv_3 (fun H locs hP hS => ?_)
          have hD : va_D A (wl_X3_gather cA a_land a_land_kinds a_land_rowAt a_land_columnAt a_land_ways a_land_beside a_T a_T_bytes nT land_flaw land_cells c4 c5 land_kinds land_rowAt land_columnAt T_length T_bytes) := vd_a hD rfl
          refine lv_iconst (pc := 46) (v := 0) hx hb dX3_gather_46 ic_0 ?_
          refine lv_istore_n (pc := 47) (lv' := [(2, .int (0 : Int32)), (4, .int v1), (0, .ref a_land), (1, .ref a_T), (3, .int x3)]) hx hb dX3_gather_47 rfl hl (Nat.le_of_ble_eq_true rfl) rfl (fun ls hl => ?_)
          refine lv_goto (pc := 48) (tgt := 155) hx hb dX3_gather_48 (by decide) ?_
          exact k_X3_gather_b155L4 C hA a_land a_land_kinds a_land_rowAt a_land_columnAt a_land_ways a_land_beside a_T a_T_bytes nT land_flaw land_cells c4 c5 land_kinds land_rowAt land_columnAt T_length T_bytes (0 : Int32) x3 r hf hK H locs ls hP hD hS (lv_sub hl [2, 3, 0, 4] rfl)
        · have hf := (if_neg hc).symm.trans hf
          have hf := Option.some.inj hf
          subst hf
          exact hK H locs ls hP hD hS (lv_sub hl [4] rfl)
theorem kl_X3_gather_L4 (C : Cx RX3 cX3_gather 7 D cA p s m args c) (hA : ∀ q, s.heap.size ≤ q → A q) (a_land a_land_kinds a_land_rowAt a_land_columnAt a_land_ways a_land_beside a_T a_T_bytes : Nat) (nT : Nat) (land_flaw : Int32) (T_length : Int32) (T_bytes : Nat → Int32) : ∀ (n : Nat) (q : Int32 × Int32 × Int32 × Int32 × Int32 × (Nat → Int32) × (Nat → Int32) × (Nat → Int32)) (z : ((Int32 × Int32 × Int32 × Int32 × (Nat → Int32) × (Nat → Int32) × (Nat → Int32)) ⊕ ((Int32 × Int32 × Int32 × Int32 × (Nat → Int32) × (Nat → Int32) × (Nat → Int32)) ⊕ (Int32 × Int32 × Int32 × Int32 × (Nat → Int32) × (Nat → Int32) × (Nat → Int32))))), loopF (fun q : Int32 × Int32 × Int32 × Int32 × Int32 × (Nat → Int32) × (Nat → Int32) × (Nat → Int32) => f_X3_gather_L4 nT T_length T_bytes q.1 q.2.1 q.2.2.1 q.2.2.2.1 q.2.2.2.2.1 q.2.2.2.2.2.1 q.2.2.2.2.2.2.1 q.2.2.2.2.2.2.2) n q = some z → (Sum.elim (fun q : Int32 × Int32 × Int32 × Int32 × (Nat → Int32) × (Nat → Int32) × (Nat → Int32) => At p l e rm_X3_gather s m args below meth c D A 0 0 Q 7 39 (wl_X3_gather cA a_land a_land_kinds a_land_rowAt a_land_columnAt a_land_ways a_land_beside a_T a_T_bytes nT land_flaw (q.2.1) (q.2.2.1) (q.2.2.2.1) (q.2.2.2.2.1) (q.2.2.2.2.2.1) (q.2.2.2.2.2.2) T_length T_bytes) [(3, .int (q.1))] []) (Sum.elim (fun q : Int32 × Int32 × Int32 × Int32 × (Nat → Int32) × (Nat → Int32) × (Nat → Int32) => At p l e rm_X3_gather s m args below meth c D A 0 0 Q 7 106 (wl_X3_gather cA a_land a_land_kinds a_land_rowAt a_land_columnAt a_land_ways a_land_beside a_T a_T_bytes nT land_flaw (q.2.1) (q.2.2.1) (q.2.2.2.1) (q.2.2.2.2.1) (q.2.2.2.2.2.1) (q.2.2.2.2.2.2) T_length T_bytes) [(3, .int (q.1))] []) (fun q : Int32 × Int32 × Int32 × Int32 × (Nat → Int32) × (Nat → Int32) × (Nat → Int32) => At p l e rm_X3_gather s m args below meth c D A 0 0 Q 7 161 (wl_X3_gather cA a_land a_land_kinds a_land_rowAt a_land_columnAt a_land_ways a_land_beside a_T a_T_bytes nT land_flaw (q.2.1) (q.2.2.1) (q.2.2.2.1) (q.2.2.2.2.1) (q.2.2.2.2.2.1) (q.2.2.2.2.2.2) T_length T_bytes) [(0, .ref a_land), (1, .ref a_T), (2, .int (q.1))] []))) z → At p l e rm_X3_gather s m args below meth c D A 0 0 Q 7 4 (wl_X3_gather cA a_land a_land_kinds a_land_rowAt a_land_columnAt a_land_ways a_land_beside a_T a_T_bytes nT land_flaw (q.2.2.1) (q.2.2.2.1) (q.2.2.2.2.1) (q.2.2.2.2.2.1) (q.2.2.2.2.2.2.1) (q.2.2.2.2.2.2.2) T_length T_bytes) [(0, .ref a_land), (1, .ref a_T), (2, .int (q.1)), (3, .int (q.2.1))] [] :=
  loop_lem (WP := fun q : Int32 × Int32 × Int32 × Int32 × Int32 × (Nat → Int32) × (Nat → Int32) × (Nat → Int32) => At p l e rm_X3_gather s m args below meth c D A 0 0 Q 7 4 (wl_X3_gather cA a_land a_land_kinds a_land_rowAt a_land_columnAt a_land_ways a_land_beside a_T a_T_bytes nT land_flaw (q.2.2.1) (q.2.2.2.1) (q.2.2.2.2.1) (q.2.2.2.2.2.1) (q.2.2.2.2.2.2.1) (q.2.2.2.2.2.2.2) T_length T_bytes) [(0, .ref a_land), (1, .ref a_T), (2, .int (q.1)), (3, .int (q.2.1))] []) (WE := (Sum.elim (fun q : Int32 × Int32 × Int32 × Int32 × (Nat → Int32) × (Nat → Int32) × (Nat → Int32) => At p l e rm_X3_gather s m args below meth c D A 0 0 Q 7 39 (wl_X3_gather cA a_land a_land_kinds a_land_rowAt a_land_columnAt a_land_ways a_land_beside a_T a_T_bytes nT land_flaw (q.2.1) (q.2.2.1) (q.2.2.2.1) (q.2.2.2.2.1) (q.2.2.2.2.2.1) (q.2.2.2.2.2.2) T_length T_bytes) [(3, .int (q.1))] []) (Sum.elim (fun q : Int32 × Int32 × Int32 × Int32 × (Nat → Int32) × (Nat → Int32) × (Nat → Int32) => At p l e rm_X3_gather s m args below meth c D A 0 0 Q 7 106 (wl_X3_gather cA a_land a_land_kinds a_land_rowAt a_land_columnAt a_land_ways a_land_beside a_T a_T_bytes nT land_flaw (q.2.1) (q.2.2.1) (q.2.2.2.1) (q.2.2.2.2.1) (q.2.2.2.2.2.1) (q.2.2.2.2.2.2) T_length T_bytes) [(3, .int (q.1))] []) (fun q : Int32 × Int32 × Int32 × Int32 × (Nat → Int32) × (Nat → Int32) × (Nat → Int32) => At p l e rm_X3_gather s m args below meth c D A 0 0 Q 7 161 (wl_X3_gather cA a_land a_land_kinds a_land_rowAt a_land_columnAt a_land_ways a_land_beside a_T a_T_bytes nT land_flaw (q.2.1) (q.2.2.1) (q.2.2.2.1) (q.2.2.2.2.1) (q.2.2.2.2.2.1) (q.2.2.2.2.2.2) T_length T_bytes) [(0, .ref a_land), (1, .ref a_T), (2, .int (q.1))] [])))) (fun q r hf hK => k_X3_gather_L4 C hA a_land a_land_kinds a_land_rowAt a_land_columnAt a_land_ways a_land_beside a_T a_T_bytes nT land_flaw T_length T_bytes q.1 q.2.1 q.2.2.1 q.2.2.2.1 q.2.2.2.2.1 q.2.2.2.2.2.1 q.2.2.2.2.2.2.1 q.2.2.2.2.2.2.2 r hf hK)
def f_X3_gather_b173 (nT : Nat) (land_cells : Int32) (land_columns : Int32) (land_rows : Int32) (land_kinds : Nat → Int32) (land_rowAt : Nat → Int32) (land_columnAt : Nat → Int32) (T_length : Int32) (T_bytes : Nat → Int32) : Option (Int32 × Int32 × Int32 × Int32 × (Nat → Int32) × (Nat → Int32) × (Nat → Int32)) :=
  some (T_length, land_cells, land_columns, land_rows, land_kinds, land_rowAt, land_columnAt)
set_option maxHeartbeats 4000000 in
set_option maxRecDepth 100000 in
theorem k_X3_gather_b173 (C : Cx RX3 cX3_gather 7 D cA p s m args c) (hr : meth.sig.returnType = (some .int)) (hlk : meth.locks = false) (hA : ∀ q, s.heap.size ≤ q → va_A ws0 sz q) (a_land a_land_kinds a_land_rowAt a_land_columnAt a_land_ways a_land_beside a_T a_T_bytes : Nat) (nT : Nat) (land_flaw : Int32) (land_cells : Int32) (land_columns : Int32) (land_rows : Int32) (land_kinds : Nat → Int32) (land_rowAt : Nat → Int32) (land_columnAt : Nat → Int32) (T_length : Int32) (T_bytes : Nat → Int32) (r : Int32 × Int32 × Int32 × Int32 × (Nat → Int32) × (Nat → Int32) × (Nat → Int32)) (hf : f_X3_gather_b173 nT land_cells land_columns land_rows land_kinds land_rowAt land_columnAt T_length T_bytes = some r) : At p l e rm_X3_gather s m args below meth c D (va_A ws0 sz) 0 0 (MQ below (PostI D r.1 ws0 (wl_X3_gather cA a_land a_land_kinds a_land_rowAt a_land_columnAt a_land_ways a_land_beside a_T a_T_bytes nT land_flaw (r.2.1) (r.2.2.1) (r.2.2.2.1) (r.2.2.2.2.1) (r.2.2.2.2.2.1) (r.2.2.2.2.2.2) T_length T_bytes) sz) args s 0 0 (va_A ws0 sz)) 7 173 (wl_X3_gather cA a_land a_land_kinds a_land_rowAt a_land_columnAt a_land_ways a_land_beside a_T a_T_bytes nT land_flaw land_cells land_columns land_rows land_kinds land_rowAt land_columnAt T_length T_bytes) [(1, .ref a_T)] [] := by
  intro H locs ls hP hD hS hl
  have hx := C.1
  have hb := C.2.1
  have hown := C.2.2.2.1
  have hts := C.2.2.2.2.1
  unfold f_X3_gather_b173 at hf
  refine lv_aload_n (pc := 173) hx hb dX3_gather_173 rfl (lv_at hl 0 rfl) ?_
  refine g_get (pc := 174) C fg_X3_43 hP 4 rfl rfl dX3_gather_174 ?_
  have hf := Option.some.inj hf
  subst hf
  exact ret_i C hr hlk hP hS dX3_gather_177
def f_X3_gather (nT : Nat) (land_cells : Int32) (land_columns : Int32) (land_rows : Int32) (land_kinds : Nat → Int32) (land_rowAt : Nat → Int32) (land_columnAt : Nat → Int32) (T_length : Int32) (T_bytes : Nat → Int32) : Option (Int32 × Int32 × Int32 × Int32 × (Nat → Int32) × (Nat → Int32) × (Nat → Int32)) :=
  bindS3 (loopF (fun q : Int32 × Int32 × Int32 × Int32 × Int32 × (Nat → Int32) × (Nat → Int32) × (Nat → Int32) => f_X3_gather_L4 nT T_length T_bytes q.1 q.2.1 q.2.2.1 q.2.2.2.1 q.2.2.2.2.1 q.2.2.2.2.2.1 q.2.2.2.2.2.2.1 q.2.2.2.2.2.2.2) FU ((0 : Int32), (0 : Int32), land_cells, land_columns, land_rows, land_kinds, land_rowAt, land_columnAt)) (unc7 (fun u6 u7 u8 u9 u10 u11 u12 => some (u6, u7, u8, u9, u10, u11, u12))) (unc7 (fun u13 u14 u15 u16 u17 u18 u19 => some (u13, u14, u15, u16, u17, u18, u19))) (unc7 (fun u20 u21 u22 u23 u24 u25 u26 => if u20 = 0 then (f_X3_gather_b173 nT u21 u22 u23 u24 u25 u26 T_length T_bytes) else (if u22 ≤ u20 then (bind2 (f_X3_endRow u22 u23 u20) (fun c27 c28 => some ((-1 : Int32), u21, c27, c28, u24, u25, u26))) else (f_X3_gather_b173 nT u21 u22 u23 u24 u25 u26 T_length T_bytes))))
set_option maxHeartbeats 4000000 in
set_option maxRecDepth 100000 in
theorem k_X3_gather (C : Cx RX3 cX3_gather 7 D cA p s m args c) (hr : meth.sig.returnType = (some .int)) (hlk : meth.locks = false) (hA : ∀ q, s.heap.size ≤ q → va_A ws0 sz q) (a_land a_land_kinds a_land_rowAt a_land_columnAt a_land_ways a_land_beside a_T a_T_bytes : Nat) (nT : Nat) (land_flaw : Int32) (land_cells : Int32) (land_columns : Int32) (land_rows : Int32) (land_kinds : Nat → Int32) (land_rowAt : Nat → Int32) (land_columnAt : Nat → Int32) (T_length : Int32) (T_bytes : Nat → Int32) (r : Int32 × Int32 × Int32 × Int32 × (Nat → Int32) × (Nat → Int32) × (Nat → Int32)) (hf : f_X3_gather nT land_cells land_columns land_rows land_kinds land_rowAt land_columnAt T_length T_bytes = some r) : At p l e rm_X3_gather s m args below meth c D (va_A ws0 sz) 0 0 (MQ below (PostI D r.1 ws0 (wl_X3_gather cA a_land a_land_kinds a_land_rowAt a_land_columnAt a_land_ways a_land_beside a_T a_T_bytes nT land_flaw (r.2.1) (r.2.2.1) (r.2.2.2.1) (r.2.2.2.2.1) (r.2.2.2.2.2.1) (r.2.2.2.2.2.2) T_length T_bytes) sz) args s 0 0 (va_A ws0 sz)) 7 0 (wl_X3_gather cA a_land a_land_kinds a_land_rowAt a_land_columnAt a_land_ways a_land_beside a_T a_T_bytes nT land_flaw land_cells land_columns land_rows land_kinds land_rowAt land_columnAt T_length T_bytes) [(0, .ref a_land), (1, .ref a_T)] [] := by
  intro H locs ls hP hD hS hl
  have hx := C.1
  have hb := C.2.1
  have hown := C.2.2.2.1
  have hts := C.2.2.2.2.1
  unfold f_X3_gather at hf
  refine lv_iconst (pc := 0) (v := 0) hx hb dX3_gather_0 ic_0 ?_
  refine lv_istore_n (pc := 1) (lv' := [(2, .int (0 : Int32)), (0, .ref a_land), (1, .ref a_T)]) hx hb dX3_gather_1 rfl hl (Nat.le_of_ble_eq_true rfl) rfl (fun ls hl => ?_)
  refine lv_iconst (pc := 2) (v := 0) hx hb dX3_gather_2 ic_0 ?_
  refine lv_istore_n (pc := 3) (lv' := [(3, .int (0 : Int32)), (2, .int (0 : Int32)), (0, .ref a_land), (1, .ref a_T)]) hx hb dX3_gather_3 rfl hl (Nat.le_of_ble_eq_true rfl) rfl (fun ls hl => ?_)
  rcases bindS3_some hf with ⟨z, hq, hf⟩ | ⟨z, hq, hf⟩ | ⟨z, hq, hf⟩
  · obtain ⟨u6, u7, u8, u9, u10, u11, u12⟩ := z
    have hf := unc7_some hf
    refine kl_X3_gather_L4 C hA a_land a_land_kinds a_land_rowAt a_land_columnAt a_land_ways a_land_beside a_T a_T_bytes nT land_flaw T_length T_bytes FU ((0 : Int32), (0 : Int32), land_cells, land_columns, land_rows, land_kinds, land_rowAt, land_columnAt) _ hq ?_ H locs ls hP hD hS (lv_sub hl [2, 3, 1, 0] rfl)
    intro H locs ls hP hD hS hl
    have hP : va_P D classes (wl_X3_gather cA a_land a_land_kinds a_land_rowAt a_land_columnAt a_land_ways a_land_beside a_T a_T_bytes nT land_flaw u7 u8 u9 u10 u11 u12 T_length T_bytes) H := hP
    have hD : va_D (va_A ws0 sz) (wl_X3_gather cA a_land a_land_kinds a_land_rowAt a_land_columnAt a_land_ways a_land_beside a_T a_T_bytes nT land_flaw u7 u8 u9 u10 u11 u12 T_length T_bytes) := hD
    have hl : lv_has ls 7 [(3, .int u6)] := hl
    refine lv_iload_n (pc := 39) hx hb dX3_gather_39 rfl (lv_at hl 0 rfl) ?_
    have hf := Option.some.inj hf
    subst hf
    exact ret_i C hr hlk hP hS dX3_gather_40
  · obtain ⟨u13, u14, u15, u16, u17, u18, u19⟩ := z
    have hf := unc7_some hf
    refine kl_X3_gather_L4 C hA a_land a_land_kinds a_land_rowAt a_land_columnAt a_land_ways a_land_beside a_T a_T_bytes nT land_flaw T_length T_bytes FU ((0 : Int32), (0 : Int32), land_cells, land_columns, land_rows, land_kinds, land_rowAt, land_columnAt) _ hq ?_ H locs ls hP hD hS (lv_sub hl [2, 3, 1, 0] rfl)
    intro H locs ls hP hD hS hl
    have hP : va_P D classes (wl_X3_gather cA a_land a_land_kinds a_land_rowAt a_land_columnAt a_land_ways a_land_beside a_T a_T_bytes nT land_flaw u14 u15 u16 u17 u18 u19 T_length T_bytes) H := hP
    have hD : va_D (va_A ws0 sz) (wl_X3_gather cA a_land a_land_kinds a_land_rowAt a_land_columnAt a_land_ways a_land_beside a_T a_T_bytes nT land_flaw u14 u15 u16 u17 u18 u19 T_length T_bytes) := hD
    have hl : lv_has ls 7 [(3, .int u13)] := hl
    refine lv_iload_n (pc := 106) hx hb dX3_gather_106 rfl (lv_at hl 0 rfl) ?_
    have hf := Option.some.inj hf
    subst hf
    exact ret_i C hr hlk hP hS dX3_gather_107
  · obtain ⟨u20, u21, u22, u23, u24, u25, u26⟩ := z
    have hf := unc7_some hf
    refine kl_X3_gather_L4 C hA a_land a_land_kinds a_land_rowAt a_land_columnAt a_land_ways a_land_beside a_T a_T_bytes nT land_flaw T_length T_bytes FU ((0 : Int32), (0 : Int32), land_cells, land_columns, land_rows, land_kinds, land_rowAt, land_columnAt) _ hq ?_ H locs ls hP hD hS (lv_sub hl [2, 3, 1, 0] rfl)
    intro H locs ls hP hD hS hl
    have hP : va_P D classes (wl_X3_gather cA a_land a_land_kinds a_land_rowAt a_land_columnAt a_land_ways a_land_beside a_T a_T_bytes nT land_flaw u21 u22 u23 u24 u25 u26 T_length T_bytes) H := hP
    have hD : va_D (va_A ws0 sz) (wl_X3_gather cA a_land a_land_kinds a_land_rowAt a_land_columnAt a_land_ways a_land_beside a_T a_T_bytes nT land_flaw u21 u22 u23 u24 u25 u26 T_length T_bytes) := hD
    have hl : lv_has ls 7 [(0, .ref a_land), (1, .ref a_T), (2, .int u20)] := hl
    refine lv_iload_n (pc := 161) hx hb dX3_gather_161 rfl (lv_at hl 2 rfl) ?_
    refine lv_if_eq (pc := 162) (tgt := 173) hx hb dX3_gather_162 (by decide) (fun hc => ?_) (fun hc => ?_)
    · have hf := (if_pos hc).symm.trans hf
      exact k_X3_gather_b173 C hr hlk hA a_land a_land_kinds a_land_rowAt a_land_columnAt a_land_ways a_land_beside a_T a_T_bytes nT land_flaw u21 u22 u23 u24 u25 u26 T_length T_bytes r hf H locs ls hP hD hS (lv_sub hl [1] rfl)
    · have hf := (if_neg hc).symm.trans hf
      refine lv_iload_n (pc := 165) hx hb dX3_gather_165 rfl (lv_at hl 2 rfl) ?_
      refine lv_aload_n (pc := 166) hx hb dX3_gather_166 rfl (lv_at hl 0 rfl) ?_
      refine g_get (pc := 167) C fg_X3_34 hP 0 rfl rfl dX3_gather_167 ?_
      refine lv_icmp_ge (pc := 170) (tgt := 178) hx hb dX3_gather_170 (by decide) (fun hc => ?_) (fun hc => ?_)
      · have hf := (if_pos hc).symm.trans hf
        refine lv_aload_n (pc := 178) hx hb dX3_gather_178 rfl (lv_at hl 0 rfl) ?_
        refine lv_iload_n (pc := 179) hx hb dX3_gather_179 rfl (lv_at hl 2 rfl) ?_
        obtain ⟨c27, c28, hq, hf⟩ := bind2_some hf
        refine fin2_v (wl_X3_gather cA a_land a_land_kinds a_land_rowAt a_land_columnAt a_land_ways a_land_beside a_T a_T_bytes nT land_flaw u21 c27 c28 u24 u25 u26 T_length T_bytes) (run_V (rest := []) (pc := 180) (As := [.int u20]) C mf_X3_59 (c_X3_endRow l D cA a_land a_land_kinds a_land_rowAt a_land_columnAt a_land_ways a_land_beside land_flaw u21 u22 u23 u20 (c27, c28) hq H.size) rfl rfl ⟨(Nat.le_of_ble_eq_true rfl), (Nat.le_of_ble_eq_true rfl)⟩ (preV_of C hP hD [0] rfl (pl_nd pv_3) 0 rfl rfl rfl) rfl hl.1 rfl (Nat.le_of_ble_eq_true rfl) dX3_gather_180 ⟨Nat.zero_le _, Nat.zero_le _⟩) hP hD hS hA [0] [1, 2, 3, 4, 5] rfl rfl rfl rfl pv_3 (fun H locs hP hS => ?_)
        have hD : va_D (va_A ws0 sz) (wl_X3_gather cA a_land a_land_kinds a_land_rowAt a_land_columnAt a_land_ways a_land_beside a_T a_T_bytes nT land_flaw u21 c27 c28 u24 u25 u26 T_length T_bytes) := vd_a hD rfl
        refine lv_iconst (pc := 183) (v := (-1)) hx hb dX3_gather_183 ic_m1 ?_
        have hf := Option.some.inj hf
        subst hf
        exact ret_i C hr hlk hP hS dX3_gather_184
      · have hf := (if_neg hc).symm.trans hf
        exact k_X3_gather_b173 C hr hlk hA a_land a_land_kinds a_land_rowAt a_land_columnAt a_land_ways a_land_beside a_T a_T_bytes nT land_flaw u21 u22 u23 u24 u25 u26 T_length T_bytes r hf H locs ls hP hD hS (lv_sub hl [1] rfl)
set_option maxRecDepth 100000 in
theorem c_X3_gather (l : Launch) (D : va_G) (cA : Nat → ClassId) (a_land a_land_kinds a_land_rowAt a_land_columnAt a_land_ways a_land_beside a_T a_T_bytes : Nat) (nT : Nat) (land_flaw : Int32) (land_cells : Int32) (land_columns : Int32) (land_rows : Int32) (land_kinds : Nat → Int32) (land_rowAt : Nat → Int32) (land_columnAt : Nat → Int32) (T_length : Int32) (T_bytes : Nat → Int32) (r : Int32 × Int32 × Int32 × Int32 × (Nat → Int32) × (Nat → Int32) × (Nat → Int32)) (hf : f_X3_gather nT land_cells land_columns land_rows land_kinds land_rowAt land_columnAt T_length T_bytes = some r) (sz : Nat) : Met l yX3_gather (Cond.code yX3_gather cX3_gather 7 (some .int) :: lw_good) rm_X3_gather (PreX D cA [.ref a_land, .ref a_T] sz (wl_X3_gather cA a_land a_land_kinds a_land_rowAt a_land_columnAt a_land_ways a_land_beside a_T a_T_bytes nT land_flaw land_cells land_columns land_rows land_kinds land_rowAt land_columnAt T_length T_bytes)) (PostI D r.1 (wl_X3_gather cA a_land a_land_kinds a_land_rowAt a_land_columnAt a_land_ways a_land_beside a_T a_T_bytes nT land_flaw land_cells land_columns land_rows land_kinds land_rowAt land_columnAt T_length T_bytes) (wl_X3_gather cA a_land a_land_kinds a_land_rowAt a_land_columnAt a_land_ways a_land_beside a_T a_T_bytes nT land_flaw (r.2.1) (r.2.2.1) (r.2.2.2.1) (r.2.2.2.2.1) (r.2.2.2.2.2.1) (r.2.2.2.2.2.2) T_length T_bytes) sz) 0 0 (va_A (wl_X3_gather cA a_land a_land_kinds a_land_rowAt a_land_columnAt a_land_ways a_land_beside a_T a_T_bytes nT land_flaw land_cells land_columns land_rows land_kinds land_rowAt land_columnAt T_length T_bytes) sz) :=
  met_of (by decide) (Nat.le_of_ble_eq_true rfl) (fun p e s m args below meth c C hr hlk hA => k_X3_gather C hr hlk hA a_land a_land_kinds a_land_rowAt a_land_columnAt a_land_ways a_land_beside a_T a_T_bytes nT land_flaw land_cells land_columns land_rows land_kinds land_rowAt land_columnAt T_length T_bytes r hf)
end

abbrev wl_X3_openWay (cA : Nat → ClassId) (a_land a_land_kinds a_land_rowAt a_land_columnAt a_land_ways a_land_beside : Nat) (land_flaw : Int32) (land_cells : Int32) (land_columns : Int32) (land_rows : Int32) (land_kinds : Nat → Int32) (land_ways : Nat → Int32) (land_beside : Nat → Int32) : va_W := [(a_land, .inr (3, [.ref a_land_kinds, .ref a_land_rowAt, .ref a_land_columnAt, .ref a_land_ways, .ref a_land_beside, .int land_flaw, .int land_cells, .int land_columns, .int land_rows])), (a_land_kinds, .inl (cA 0, 36, .inl land_kinds)), (a_land_ways, .inl (cA 0, 36, .inl land_ways)), (a_land_beside, .inl (cA 0, 144, .inl land_beside))]
abbrev rm_X3_openWay : Room := { frames := 0, cells := 0, slots := 0, locals := 0 }
section
variable {p : Program} {l : Launch} {e : Env} {s : State} {m : MethodId} {args : Array Value} {below : List Frame} {meth : Method} {c : Code} {D : va_G} {cA : Nat → ClassId} {ws0 : va_W} {sz : Nat} {A : Nat → Prop} {Q : State → Prop}
def f_X3_openWay (land_kinds : Nat → Int32) (land_ways : Nat → Int32) (land_beside : Nat → Int32) (x1 : Int32) (x2 : Int32) : Option ((Nat → Int32) × (Nat → Int32)) :=
  gd (inb x2 36) (if (land_kinds x2.toNatClampNeg) = (1 : Int32) then (some (land_ways, land_beside)) else (gd (inb x1 36) (if (4 : Int32) ≤ (land_ways x1.toNatClampNeg) then (some (land_ways, land_beside)) else (gd (inb x1 36) (gd (inb ((x1 * (4 : Int32)) + (land_ways x1.toNatClampNeg)) 144) (gd (inb x1 36) (letv (((land_ways x1.toNatClampNeg) + (1 : Int32))) (fun v1 => gd (inb x1 36) (some ((upd land_ways x1.toNatClampNeg v1), (upd land_beside ((x1 * (4 : Int32)) + (land_ways x1.toNatClampNeg)).toNatClampNeg x2)))))))))))
set_option maxHeartbeats 4000000 in
set_option maxRecDepth 100000 in
theorem k_X3_openWay (C : Cx RX3 cX3_openWay 3 D cA p s m args c) (hr : meth.sig.returnType = none) (hlk : meth.locks = false) (hA : ∀ q, s.heap.size ≤ q → va_A ws0 sz q) (a_land a_land_kinds a_land_rowAt a_land_columnAt a_land_ways a_land_beside : Nat) (land_flaw : Int32) (land_cells : Int32) (land_columns : Int32) (land_rows : Int32) (land_kinds : Nat → Int32) (land_ways : Nat → Int32) (land_beside : Nat → Int32) (x1 : Int32) (x2 : Int32) (r : (Nat → Int32) × (Nat → Int32)) (hf : f_X3_openWay land_kinds land_ways land_beside x1 x2 = some r) : At p l e rm_X3_openWay s m args below meth c D (va_A ws0 sz) 0 0 (MQ below (PostV D ws0 (wl_X3_openWay cA a_land a_land_kinds a_land_rowAt a_land_columnAt a_land_ways a_land_beside land_flaw land_cells land_columns land_rows land_kinds (r.1) (r.2)) sz) args s 0 0 (va_A ws0 sz)) 3 0 (wl_X3_openWay cA a_land a_land_kinds a_land_rowAt a_land_columnAt a_land_ways a_land_beside land_flaw land_cells land_columns land_rows land_kinds land_ways land_beside) [(0, .ref a_land), (1, .int x1), (2, .int x2)] [] := by
  intro H locs ls hP hD hS hl
  have hx := C.1
  have hb := C.2.1
  have hown := C.2.2.2.1
  have hts := C.2.2.2.2.1
  unfold f_X3_openWay at hf
  refine lv_aload_n (pc := 0) hx hb dX3_openWay_0 rfl (lv_at hl 0 rfl) ?_
  refine g_get (pc := 1) C fg_X3_9 hP 0 rfl rfl dX3_openWay_1 ?_
  refine lv_iload_n (pc := 4) hx hb dX3_openWay_4 rfl (lv_at hl 2 rfl) ?_
  obtain ⟨hg, hf⟩ := gd_some hf
  refine g_iald (pc := 5) C hP 1 rfl hg dX3_openWay_5 ?_
  refine lv_iconst (pc := 6) (v := 1) hx hb dX3_openWay_6 ic_1 ?_
  refine lv_icmp_eq (pc := 7) (tgt := 46) hx hb dX3_openWay_7 (by decide) (fun hc => ?_) (fun hc => ?_)
  · have hf := (if_pos hc).symm.trans hf
    have hf := Option.some.inj hf
    subst hf
    exact ret_v C hr hlk hP hS dX3_openWay_46
  · have hf := (if_neg hc).symm.trans hf
    refine lv_aload_n (pc := 10) hx hb dX3_openWay_10 rfl (lv_at hl 0 rfl) ?_
    refine g_get (pc := 11) C fg_X3_21 hP 0 rfl rfl dX3_openWay_11 ?_
    refine lv_iload_n (pc := 14) hx hb dX3_openWay_14 rfl (lv_at hl 1 rfl) ?_
    obtain ⟨hg, hf⟩ := gd_some hf
    refine g_iald (pc := 15) C hP 2 rfl hg dX3_openWay_15 ?_
    refine lv_iconst (pc := 16) (v := 4) hx hb dX3_openWay_16 ic_4 ?_
    refine lv_icmp_ge (pc := 17) (tgt := 46) hx hb dX3_openWay_17 (by decide) (fun hc => ?_) (fun hc => ?_)
    · have hf := (if_pos hc).symm.trans hf
      have hf := Option.some.inj hf
      subst hf
      exact ret_v C hr hlk hP hS dX3_openWay_46
    · have hf := (if_neg hc).symm.trans hf
      refine lv_aload_n (pc := 20) hx hb dX3_openWay_20 rfl (lv_at hl 0 rfl) ?_
      refine g_get (pc := 21) C fg_X3_24 hP 0 rfl rfl dX3_openWay_21 ?_
      refine lv_iload_n (pc := 24) hx hb dX3_openWay_24 rfl (lv_at hl 1 rfl) ?_
      refine lv_iconst (pc := 25) (v := 4) hx hb dX3_openWay_25 ic_4 ?_
      refine lv_imul (pc := 26) hx hb dX3_openWay_26 ?_
      refine lv_aload_n (pc := 27) hx hb dX3_openWay_27 rfl (lv_at hl 0 rfl) ?_
      refine g_get (pc := 28) C fg_X3_21 hP 0 rfl rfl dX3_openWay_28 ?_
      refine lv_iload_n (pc := 31) hx hb dX3_openWay_31 rfl (lv_at hl 1 rfl) ?_
      obtain ⟨hg, hf⟩ := gd_some hf
      refine g_iald (pc := 32) C hP 2 rfl hg dX3_openWay_32 ?_
      refine lv_iadd (pc := 33) hx hb dX3_openWay_33 ?_
      refine lv_iload_n (pc := 34) hx hb dX3_openWay_34 rfl (lv_at hl 2 rfl) ?_
      obtain ⟨hg, hf⟩ := gd_some hf
      refine g_iast (pc := 35) C hP hD hS 3 rfl hg dX3_openWay_35 (fun H locs hP hD hS => ?_)
      have hP : va_P D classes (wl_X3_openWay cA a_land a_land_kinds a_land_rowAt a_land_columnAt a_land_ways a_land_beside land_flaw land_cells land_columns land_rows land_kinds land_ways (upd land_beside ((x1 * (4 : Int32)) + (land_ways x1.toNatClampNeg)).toNatClampNeg x2)) H := hP
      have hD : va_D (va_A ws0 sz) (wl_X3_openWay cA a_land a_land_kinds a_land_rowAt a_land_columnAt a_land_ways a_land_beside land_flaw land_cells land_columns land_rows land_kinds land_ways (upd land_beside ((x1 * (4 : Int32)) + (land_ways x1.toNatClampNeg)).toNatClampNeg x2)) := hD
      refine lv_aload_n (pc := 36) hx hb dX3_openWay_36 rfl (lv_at hl 0 rfl) ?_
      refine g_get (pc := 37) C fg_X3_21 hP 0 rfl rfl dX3_openWay_37 ?_
      refine lv_iload_n (pc := 40) hx hb dX3_openWay_40 rfl (lv_at hl 1 rfl) ?_
      refine lv_dup2_11 (pc := 41) hx hb dX3_openWay_41 rfl rfl ?_
      obtain ⟨hg, hf⟩ := gd_some hf
      refine g_iald (pc := 42) C hP 2 rfl hg dX3_openWay_42 ?_
      refine lv_iconst (pc := 43) (v := 1) hx hb dX3_openWay_43 ic_1 ?_
      refine lv_iadd (pc := 44) hx hb dX3_openWay_44 ?_
      obtain ⟨v1, e_v1, hf⟩ := letv_some hf
      refine tp_i e_v1 ?_
      obtain ⟨hg, hf⟩ := gd_some hf
      refine g_iast (pc := 45) C hP hD hS 2 rfl hg dX3_openWay_45 (fun H locs hP hD hS => ?_)
      have hP : va_P D classes (wl_X3_openWay cA a_land a_land_kinds a_land_rowAt a_land_columnAt a_land_ways a_land_beside land_flaw land_cells land_columns land_rows land_kinds (upd land_ways x1.toNatClampNeg v1) (upd land_beside ((x1 * (4 : Int32)) + (land_ways x1.toNatClampNeg)).toNatClampNeg x2)) H := hP
      have hD : va_D (va_A ws0 sz) (wl_X3_openWay cA a_land a_land_kinds a_land_rowAt a_land_columnAt a_land_ways a_land_beside land_flaw land_cells land_columns land_rows land_kinds (upd land_ways x1.toNatClampNeg v1) (upd land_beside ((x1 * (4 : Int32)) + (land_ways x1.toNatClampNeg)).toNatClampNeg x2)) := hD
      have hf := Option.some.inj hf
      subst hf
      exact ret_v C hr hlk hP hS dX3_openWay_46
set_option maxRecDepth 100000 in
theorem c_X3_openWay (l : Launch) (D : va_G) (cA : Nat → ClassId) (a_land a_land_kinds a_land_rowAt a_land_columnAt a_land_ways a_land_beside : Nat) (land_flaw : Int32) (land_cells : Int32) (land_columns : Int32) (land_rows : Int32) (land_kinds : Nat → Int32) (land_ways : Nat → Int32) (land_beside : Nat → Int32) (x1 : Int32) (x2 : Int32) (r : (Nat → Int32) × (Nat → Int32)) (hf : f_X3_openWay land_kinds land_ways land_beside x1 x2 = some r) (sz : Nat) : Met l yX3_openWay (Cond.code yX3_openWay cX3_openWay 3 none :: lw_good) rm_X3_openWay (PreX D cA [.ref a_land, .int x1, .int x2] sz (wl_X3_openWay cA a_land a_land_kinds a_land_rowAt a_land_columnAt a_land_ways a_land_beside land_flaw land_cells land_columns land_rows land_kinds land_ways land_beside)) (PostV D (wl_X3_openWay cA a_land a_land_kinds a_land_rowAt a_land_columnAt a_land_ways a_land_beside land_flaw land_cells land_columns land_rows land_kinds land_ways land_beside) (wl_X3_openWay cA a_land a_land_kinds a_land_rowAt a_land_columnAt a_land_ways a_land_beside land_flaw land_cells land_columns land_rows land_kinds (r.1) (r.2)) sz) 0 0 (va_A (wl_X3_openWay cA a_land a_land_kinds a_land_rowAt a_land_columnAt a_land_ways a_land_beside land_flaw land_cells land_columns land_rows land_kinds land_ways land_beside) sz) :=
  met_of (by decide) (Nat.le_of_ble_eq_true rfl) (fun p e s m args below meth c C hr hlk hA => k_X3_openWay C hr hlk hA a_land a_land_kinds a_land_rowAt a_land_columnAt a_land_ways a_land_beside land_flaw land_cells land_columns land_rows land_kinds land_ways land_beside x1 x2 r hf)
end

abbrev wl_X3_findWays (cA : Nat → ClassId) (a_land a_land_kinds a_land_rowAt a_land_columnAt a_land_ways a_land_beside : Nat) (land_flaw : Int32) (land_cells : Int32) (land_columns : Int32) (land_rows : Int32) (land_kinds : Nat → Int32) (land_columnAt : Nat → Int32) (land_ways : Nat → Int32) (land_beside : Nat → Int32) : va_W := [(a_land, .inr (3, [.ref a_land_kinds, .ref a_land_rowAt, .ref a_land_columnAt, .ref a_land_ways, .ref a_land_beside, .int land_flaw, .int land_cells, .int land_columns, .int land_rows])), (a_land_kinds, .inl (cA 0, 36, .inl land_kinds)), (a_land_columnAt, .inl (cA 0, 36, .inl land_columnAt)), (a_land_ways, .inl (cA 0, 36, .inl land_ways)), (a_land_beside, .inl (cA 0, 144, .inl land_beside))]
abbrev rm_X3_findWays : Room := { frames := 1, cells := 0, slots := 0, locals := 22 }
section
variable {p : Program} {l : Launch} {e : Env} {s : State} {m : MethodId} {args : Array Value} {below : List Frame} {meth : Method} {c : Code} {D : va_G} {cA : Nat → ClassId} {ws0 : va_W} {sz : Nat} {A : Nat → Prop} {Q : State → Prop}
def f_X3_findWays_b73 (land_cells : Int32) (land_columns : Int32) (land_kinds : Nat → Int32) (land_columnAt : Nat → Int32) (land_ways : Nat → Int32) (land_beside : Nat → Int32) (x1 : Int32) : Option ((Nat → Int32) × (Nat → Int32)) :=
  gd (inb x1 36) (if (land_columnAt x1.toNatClampNeg) ≤ 0 then (some (land_ways, land_beside)) else (bind2 (f_X3_openWay land_kinds land_ways land_beside x1 (x1 - (1 : Int32))) (fun c1 c2 => some (c1, c2))))
set_option maxHeartbeats 4000000 in
set_option maxRecDepth 100000 in
theorem k_X3_findWays_b73 (C : Cx RX3 cX3_findWays 2 D cA p s m args c) (hr : meth.sig.returnType = none) (hlk : meth.locks = false) (hA : ∀ q, s.heap.size ≤ q → va_A ws0 sz q) (a_land a_land_kinds a_land_rowAt a_land_columnAt a_land_ways a_land_beside : Nat) (land_flaw : Int32) (land_cells : Int32) (land_columns : Int32) (land_rows : Int32) (land_kinds : Nat → Int32) (land_columnAt : Nat → Int32) (land_ways : Nat → Int32) (land_beside : Nat → Int32) (x1 : Int32) (r : (Nat → Int32) × (Nat → Int32)) (hf : f_X3_findWays_b73 land_cells land_columns land_kinds land_columnAt land_ways land_beside x1 = some r) : At p l e rm_X3_findWays s m args below meth c D (va_A ws0 sz) 0 0 (MQ below (PostV D ws0 (wl_X3_findWays cA a_land a_land_kinds a_land_rowAt a_land_columnAt a_land_ways a_land_beside land_flaw land_cells land_columns land_rows land_kinds land_columnAt (r.1) (r.2)) sz) args s 0 0 (va_A ws0 sz)) 2 73 (wl_X3_findWays cA a_land a_land_kinds a_land_rowAt a_land_columnAt a_land_ways a_land_beside land_flaw land_cells land_columns land_rows land_kinds land_columnAt land_ways land_beside) [(0, .ref a_land), (1, .int x1)] [] := by
  intro H locs ls hP hD hS hl
  have hx := C.1
  have hb := C.2.1
  have hown := C.2.2.2.1
  have hts := C.2.2.2.2.1
  unfold f_X3_findWays_b73 at hf
  refine lv_aload_n (pc := 73) hx hb dX3_findWays_73 rfl (lv_at hl 0 rfl) ?_
  refine g_get (pc := 74) C fg_X3_18 hP 0 rfl rfl dX3_findWays_74 ?_
  refine lv_iload_n (pc := 77) hx hb dX3_findWays_77 rfl (lv_at hl 1 rfl) ?_
  obtain ⟨hg, hf⟩ := gd_some hf
  refine g_iald (pc := 78) C hP 2 rfl hg dX3_findWays_78 ?_
  refine lv_if_le (pc := 79) (tgt := 90) hx hb dX3_findWays_79 (by decide) (fun hc => ?_) (fun hc => ?_)
  · have hf := (if_pos hc).symm.trans hf
    have hf := Option.some.inj hf
    subst hf
    exact ret_v C hr hlk hP hS dX3_findWays_90
  · have hf := (if_neg hc).symm.trans hf
    refine lv_aload_n (pc := 82) hx hb dX3_findWays_82 rfl (lv_at hl 0 rfl) ?_
    refine lv_iload_n (pc := 83) hx hb dX3_findWays_83 rfl (lv_at hl 1 rfl) ?_
    refine lv_iload_n (pc := 84) hx hb dX3_findWays_84 rfl (lv_at hl 1 rfl) ?_
    refine lv_iconst (pc := 85) (v := 1) hx hb dX3_findWays_85 ic_1 ?_
    refine lv_isub (pc := 86) hx hb dX3_findWays_86 ?_
    obtain ⟨c1, c2, hq, hf⟩ := bind2_some hf
    refine fin2_v (wl_X3_findWays cA a_land a_land_kinds a_land_rowAt a_land_columnAt a_land_ways a_land_beside land_flaw land_cells land_columns land_rows land_kinds land_columnAt c1 c2) (run_V (rest := []) (pc := 87) (As := [.int x1, .int (x1 - (1 : Int32))]) C mf_X3_66 (c_X3_openWay l D cA a_land a_land_kinds a_land_rowAt a_land_columnAt a_land_ways a_land_beside land_flaw land_cells land_columns land_rows land_kinds land_ways land_beside x1 (x1 - (1 : Int32)) (c1, c2) hq H.size) rfl rfl ⟨(Nat.le_of_ble_eq_true rfl), (Nat.le_of_ble_eq_true rfl)⟩ (preV_of C hP hD [0, 1, 3, 4] rfl (pl_nd pv_4) 0 rfl rfl rfl) rfl hl.1 rfl (Nat.le_of_ble_eq_true rfl) dX3_findWays_87 ⟨Nat.zero_le _, Nat.zero_le _⟩) hP hD hS hA [0, 1, 3, 4] [2] rfl rfl rfl rfl pv_4 (fun H locs hP hS => ?_)
    have hD : va_D (va_A ws0 sz) (wl_X3_findWays cA a_land a_land_kinds a_land_rowAt a_land_columnAt a_land_ways a_land_beside land_flaw land_cells land_columns land_rows land_kinds land_columnAt c1 c2) := vd_a hD rfl
    have hf := Option.some.inj hf
    subst hf
    exact ret_v C hr hlk hP hS dX3_findWays_90
def f_X3_findWays_b54 (land_cells : Int32) (land_columns : Int32) (land_kinds : Nat → Int32) (land_columnAt : Nat → Int32) (land_ways : Nat → Int32) (land_beside : Nat → Int32) (x1 : Int32) : Option ((Nat → Int32) × (Nat → Int32)) :=
  if x1 < land_columns then (f_X3_findWays_b73 land_cells land_columns land_kinds land_columnAt land_ways land_beside x1) else (bind2 (f_X3_openWay land_kinds land_ways land_beside x1 (x1 - land_columns)) (fun c3 c4 => f_X3_findWays_b73 land_cells land_columns land_kinds land_columnAt c3 c4 x1))
set_option maxHeartbeats 4000000 in
set_option maxRecDepth 100000 in
theorem k_X3_findWays_b54 (C : Cx RX3 cX3_findWays 2 D cA p s m args c) (hr : meth.sig.returnType = none) (hlk : meth.locks = false) (hA : ∀ q, s.heap.size ≤ q → va_A ws0 sz q) (a_land a_land_kinds a_land_rowAt a_land_columnAt a_land_ways a_land_beside : Nat) (land_flaw : Int32) (land_cells : Int32) (land_columns : Int32) (land_rows : Int32) (land_kinds : Nat → Int32) (land_columnAt : Nat → Int32) (land_ways : Nat → Int32) (land_beside : Nat → Int32) (x1 : Int32) (r : (Nat → Int32) × (Nat → Int32)) (hf : f_X3_findWays_b54 land_cells land_columns land_kinds land_columnAt land_ways land_beside x1 = some r) : At p l e rm_X3_findWays s m args below meth c D (va_A ws0 sz) 0 0 (MQ below (PostV D ws0 (wl_X3_findWays cA a_land a_land_kinds a_land_rowAt a_land_columnAt a_land_ways a_land_beside land_flaw land_cells land_columns land_rows land_kinds land_columnAt (r.1) (r.2)) sz) args s 0 0 (va_A ws0 sz)) 2 54 (wl_X3_findWays cA a_land a_land_kinds a_land_rowAt a_land_columnAt a_land_ways a_land_beside land_flaw land_cells land_columns land_rows land_kinds land_columnAt land_ways land_beside) [(0, .ref a_land), (1, .int x1)] [] := by
  intro H locs ls hP hD hS hl
  have hx := C.1
  have hb := C.2.1
  have hown := C.2.2.2.1
  have hts := C.2.2.2.2.1
  unfold f_X3_findWays_b54 at hf
  refine lv_iload_n (pc := 54) hx hb dX3_findWays_54 rfl (lv_at hl 1 rfl) ?_
  refine lv_aload_n (pc := 55) hx hb dX3_findWays_55 rfl (lv_at hl 0 rfl) ?_
  refine g_get (pc := 56) C fg_X3_34 hP 0 rfl rfl dX3_findWays_56 ?_
  refine lv_icmp_lt (pc := 59) (tgt := 73) hx hb dX3_findWays_59 (by decide) (fun hc => ?_) (fun hc => ?_)
  · have hf := (if_pos hc).symm.trans hf
    exact k_X3_findWays_b73 C hr hlk hA a_land a_land_kinds a_land_rowAt a_land_columnAt a_land_ways a_land_beside land_flaw land_cells land_columns land_rows land_kinds land_columnAt land_ways land_beside x1 r hf H locs ls hP hD hS hl
  · have hf := (if_neg hc).symm.trans hf
    refine lv_aload_n (pc := 62) hx hb dX3_findWays_62 rfl (lv_at hl 0 rfl) ?_
    refine lv_iload_n (pc := 63) hx hb dX3_findWays_63 rfl (lv_at hl 1 rfl) ?_
    refine lv_iload_n (pc := 64) hx hb dX3_findWays_64 rfl (lv_at hl 1 rfl) ?_
    refine lv_aload_n (pc := 65) hx hb dX3_findWays_65 rfl (lv_at hl 0 rfl) ?_
    refine g_get (pc := 66) C fg_X3_34 hP 0 rfl rfl dX3_findWays_66 ?_
    refine lv_isub (pc := 69) hx hb dX3_findWays_69 ?_
    obtain ⟨c3, c4, hq, hf⟩ := bind2_some hf
    refine fin2_v (wl_X3_findWays cA a_land a_land_kinds a_land_rowAt a_land_columnAt a_land_ways a_land_beside land_flaw land_cells land_columns land_rows land_kinds land_columnAt c3 c4) (run_V (rest := []) (pc := 70) (As := [.int x1, .int (x1 - land_columns)]) C mf_X3_66 (c_X3_openWay l D cA a_land a_land_kinds a_land_rowAt a_land_columnAt a_land_ways a_land_beside land_flaw land_cells land_columns land_rows land_kinds land_ways land_beside x1 (x1 - land_columns) (c3, c4) hq H.size) rfl rfl ⟨(Nat.le_of_ble_eq_true rfl), (Nat.le_of_ble_eq_true rfl)⟩ (preV_of C hP hD [0, 1, 3, 4] rfl (pl_nd pv_4) 0 rfl rfl rfl) rfl hl.1 rfl (Nat.le_of_ble_eq_true rfl) dX3_findWays_70 ⟨Nat.zero_le _, Nat.zero_le _⟩) hP hD hS hA [0, 1, 3, 4] [2] rfl rfl rfl rfl pv_4 (fun H locs hP hS => ?_)
    have hD : va_D (va_A ws0 sz) (wl_X3_findWays cA a_land a_land_kinds a_land_rowAt a_land_columnAt a_land_ways a_land_beside land_flaw land_cells land_columns land_rows land_kinds land_columnAt c3 c4) := vd_a hD rfl
    exact k_X3_findWays_b73 C hr hlk hA a_land a_land_kinds a_land_rowAt a_land_columnAt a_land_ways a_land_beside land_flaw land_cells land_columns land_rows land_kinds land_columnAt c3 c4 x1 r hf H locs ls hP hD hS hl
def f_X3_findWays_b30 (land_cells : Int32) (land_columns : Int32) (land_kinds : Nat → Int32) (land_columnAt : Nat → Int32) (land_ways : Nat → Int32) (land_beside : Nat → Int32) (x1 : Int32) : Option ((Nat → Int32) × (Nat → Int32)) :=
  if land_cells ≤ (x1 + land_columns) then (f_X3_findWays_b54 land_cells land_columns land_kinds land_columnAt land_ways land_beside x1) else (bind2 (f_X3_openWay land_kinds land_ways land_beside x1 (x1 + land_columns)) (fun c5 c6 => f_X3_findWays_b54 land_cells land_columns land_kinds land_columnAt c5 c6 x1))
set_option maxHeartbeats 4000000 in
set_option maxRecDepth 100000 in
theorem k_X3_findWays_b30 (C : Cx RX3 cX3_findWays 2 D cA p s m args c) (hr : meth.sig.returnType = none) (hlk : meth.locks = false) (hA : ∀ q, s.heap.size ≤ q → va_A ws0 sz q) (a_land a_land_kinds a_land_rowAt a_land_columnAt a_land_ways a_land_beside : Nat) (land_flaw : Int32) (land_cells : Int32) (land_columns : Int32) (land_rows : Int32) (land_kinds : Nat → Int32) (land_columnAt : Nat → Int32) (land_ways : Nat → Int32) (land_beside : Nat → Int32) (x1 : Int32) (r : (Nat → Int32) × (Nat → Int32)) (hf : f_X3_findWays_b30 land_cells land_columns land_kinds land_columnAt land_ways land_beside x1 = some r) : At p l e rm_X3_findWays s m args below meth c D (va_A ws0 sz) 0 0 (MQ below (PostV D ws0 (wl_X3_findWays cA a_land a_land_kinds a_land_rowAt a_land_columnAt a_land_ways a_land_beside land_flaw land_cells land_columns land_rows land_kinds land_columnAt (r.1) (r.2)) sz) args s 0 0 (va_A ws0 sz)) 2 30 (wl_X3_findWays cA a_land a_land_kinds a_land_rowAt a_land_columnAt a_land_ways a_land_beside land_flaw land_cells land_columns land_rows land_kinds land_columnAt land_ways land_beside) [(0, .ref a_land), (1, .int x1)] [] := by
  intro H locs ls hP hD hS hl
  have hx := C.1
  have hb := C.2.1
  have hown := C.2.2.2.1
  have hts := C.2.2.2.2.1
  unfold f_X3_findWays_b30 at hf
  refine lv_iload_n (pc := 30) hx hb dX3_findWays_30 rfl (lv_at hl 1 rfl) ?_
  refine lv_aload_n (pc := 31) hx hb dX3_findWays_31 rfl (lv_at hl 0 rfl) ?_
  refine g_get (pc := 32) C fg_X3_34 hP 0 rfl rfl dX3_findWays_32 ?_
  refine lv_iadd (pc := 35) hx hb dX3_findWays_35 ?_
  refine lv_aload_n (pc := 36) hx hb dX3_findWays_36 rfl (lv_at hl 0 rfl) ?_
  refine g_get (pc := 37) C fg_X3_31 hP 0 rfl rfl dX3_findWays_37 ?_
  refine lv_icmp_ge (pc := 40) (tgt := 54) hx hb dX3_findWays_40 (by decide) (fun hc => ?_) (fun hc => ?_)
  · have hf := (if_pos hc).symm.trans hf
    exact k_X3_findWays_b54 C hr hlk hA a_land a_land_kinds a_land_rowAt a_land_columnAt a_land_ways a_land_beside land_flaw land_cells land_columns land_rows land_kinds land_columnAt land_ways land_beside x1 r hf H locs ls hP hD hS hl
  · have hf := (if_neg hc).symm.trans hf
    refine lv_aload_n (pc := 43) hx hb dX3_findWays_43 rfl (lv_at hl 0 rfl) ?_
    refine lv_iload_n (pc := 44) hx hb dX3_findWays_44 rfl (lv_at hl 1 rfl) ?_
    refine lv_iload_n (pc := 45) hx hb dX3_findWays_45 rfl (lv_at hl 1 rfl) ?_
    refine lv_aload_n (pc := 46) hx hb dX3_findWays_46 rfl (lv_at hl 0 rfl) ?_
    refine g_get (pc := 47) C fg_X3_34 hP 0 rfl rfl dX3_findWays_47 ?_
    refine lv_iadd (pc := 50) hx hb dX3_findWays_50 ?_
    obtain ⟨c5, c6, hq, hf⟩ := bind2_some hf
    refine fin2_v (wl_X3_findWays cA a_land a_land_kinds a_land_rowAt a_land_columnAt a_land_ways a_land_beside land_flaw land_cells land_columns land_rows land_kinds land_columnAt c5 c6) (run_V (rest := []) (pc := 51) (As := [.int x1, .int (x1 + land_columns)]) C mf_X3_66 (c_X3_openWay l D cA a_land a_land_kinds a_land_rowAt a_land_columnAt a_land_ways a_land_beside land_flaw land_cells land_columns land_rows land_kinds land_ways land_beside x1 (x1 + land_columns) (c5, c6) hq H.size) rfl rfl ⟨(Nat.le_of_ble_eq_true rfl), (Nat.le_of_ble_eq_true rfl)⟩ (preV_of C hP hD [0, 1, 3, 4] rfl (pl_nd pv_4) 0 rfl rfl rfl) rfl hl.1 rfl (Nat.le_of_ble_eq_true rfl) dX3_findWays_51 ⟨Nat.zero_le _, Nat.zero_le _⟩) hP hD hS hA [0, 1, 3, 4] [2] rfl rfl rfl rfl pv_4 (fun H locs hP hS => ?_)
    have hD : va_D (va_A ws0 sz) (wl_X3_findWays cA a_land a_land_kinds a_land_rowAt a_land_columnAt a_land_ways a_land_beside land_flaw land_cells land_columns land_rows land_kinds land_columnAt c5 c6) := vd_a hD rfl
    exact k_X3_findWays_b54 C hr hlk hA a_land a_land_kinds a_land_rowAt a_land_columnAt a_land_ways a_land_beside land_flaw land_cells land_columns land_rows land_kinds land_columnAt c5 c6 x1 r hf H locs ls hP hD hS hl
def f_X3_findWays (land_cells : Int32) (land_columns : Int32) (land_kinds : Nat → Int32) (land_columnAt : Nat → Int32) (land_ways : Nat → Int32) (land_beside : Nat → Int32) (x1 : Int32) : Option ((Nat → Int32) × (Nat → Int32)) :=
  gd (inb x1 36) (gd (inb x1 36) (if land_columns ≤ ((land_columnAt x1.toNatClampNeg) + (1 : Int32)) then (f_X3_findWays_b30 land_cells land_columns land_kinds land_columnAt (upd land_ways x1.toNatClampNeg (0 : Int32)) land_beside x1) else (bind2 (f_X3_openWay land_kinds (upd land_ways x1.toNatClampNeg (0 : Int32)) land_beside x1 (x1 + (1 : Int32))) (fun c7 c8 => f_X3_findWays_b30 land_cells land_columns land_kinds land_columnAt c7 c8 x1))))
set_option maxHeartbeats 4000000 in
set_option maxRecDepth 100000 in
theorem k_X3_findWays (C : Cx RX3 cX3_findWays 2 D cA p s m args c) (hr : meth.sig.returnType = none) (hlk : meth.locks = false) (hA : ∀ q, s.heap.size ≤ q → va_A ws0 sz q) (a_land a_land_kinds a_land_rowAt a_land_columnAt a_land_ways a_land_beside : Nat) (land_flaw : Int32) (land_cells : Int32) (land_columns : Int32) (land_rows : Int32) (land_kinds : Nat → Int32) (land_columnAt : Nat → Int32) (land_ways : Nat → Int32) (land_beside : Nat → Int32) (x1 : Int32) (r : (Nat → Int32) × (Nat → Int32)) (hf : f_X3_findWays land_cells land_columns land_kinds land_columnAt land_ways land_beside x1 = some r) : At p l e rm_X3_findWays s m args below meth c D (va_A ws0 sz) 0 0 (MQ below (PostV D ws0 (wl_X3_findWays cA a_land a_land_kinds a_land_rowAt a_land_columnAt a_land_ways a_land_beside land_flaw land_cells land_columns land_rows land_kinds land_columnAt (r.1) (r.2)) sz) args s 0 0 (va_A ws0 sz)) 2 0 (wl_X3_findWays cA a_land a_land_kinds a_land_rowAt a_land_columnAt a_land_ways a_land_beside land_flaw land_cells land_columns land_rows land_kinds land_columnAt land_ways land_beside) [(0, .ref a_land), (1, .int x1)] [] := by
  intro H locs ls hP hD hS hl
  have hx := C.1
  have hb := C.2.1
  have hown := C.2.2.2.1
  have hts := C.2.2.2.2.1
  unfold f_X3_findWays at hf
  refine lv_aload_n (pc := 0) hx hb dX3_findWays_0 rfl (lv_at hl 0 rfl) ?_
  refine g_get (pc := 1) C fg_X3_21 hP 0 rfl rfl dX3_findWays_1 ?_
  refine lv_iload_n (pc := 4) hx hb dX3_findWays_4 rfl (lv_at hl 1 rfl) ?_
  refine lv_iconst (pc := 5) (v := 0) hx hb dX3_findWays_5 ic_0 ?_
  obtain ⟨hg, hf⟩ := gd_some hf
  refine g_iast (pc := 6) C hP hD hS 3 rfl hg dX3_findWays_6 (fun H locs hP hD hS => ?_)
  have hP : va_P D classes (wl_X3_findWays cA a_land a_land_kinds a_land_rowAt a_land_columnAt a_land_ways a_land_beside land_flaw land_cells land_columns land_rows land_kinds land_columnAt (upd land_ways x1.toNatClampNeg (0 : Int32)) land_beside) H := hP
  have hD : va_D (va_A ws0 sz) (wl_X3_findWays cA a_land a_land_kinds a_land_rowAt a_land_columnAt a_land_ways a_land_beside land_flaw land_cells land_columns land_rows land_kinds land_columnAt (upd land_ways x1.toNatClampNeg (0 : Int32)) land_beside) := hD
  refine lv_aload_n (pc := 7) hx hb dX3_findWays_7 rfl (lv_at hl 0 rfl) ?_
  refine g_get (pc := 8) C fg_X3_18 hP 0 rfl rfl dX3_findWays_8 ?_
  refine lv_iload_n (pc := 11) hx hb dX3_findWays_11 rfl (lv_at hl 1 rfl) ?_
  obtain ⟨hg, hf⟩ := gd_some hf
  refine g_iald (pc := 12) C hP 2 rfl hg dX3_findWays_12 ?_
  refine lv_iconst (pc := 13) (v := 1) hx hb dX3_findWays_13 ic_1 ?_
  refine lv_iadd (pc := 14) hx hb dX3_findWays_14 ?_
  refine lv_aload_n (pc := 15) hx hb dX3_findWays_15 rfl (lv_at hl 0 rfl) ?_
  refine g_get (pc := 16) C fg_X3_34 hP 0 rfl rfl dX3_findWays_16 ?_
  refine lv_icmp_ge (pc := 19) (tgt := 30) hx hb dX3_findWays_19 (by decide) (fun hc => ?_) (fun hc => ?_)
  · have hf := (if_pos hc).symm.trans hf
    exact k_X3_findWays_b30 C hr hlk hA a_land a_land_kinds a_land_rowAt a_land_columnAt a_land_ways a_land_beside land_flaw land_cells land_columns land_rows land_kinds land_columnAt (upd land_ways x1.toNatClampNeg (0 : Int32)) land_beside x1 r hf H locs ls hP hD hS hl
  · have hf := (if_neg hc).symm.trans hf
    refine lv_aload_n (pc := 22) hx hb dX3_findWays_22 rfl (lv_at hl 0 rfl) ?_
    refine lv_iload_n (pc := 23) hx hb dX3_findWays_23 rfl (lv_at hl 1 rfl) ?_
    refine lv_iload_n (pc := 24) hx hb dX3_findWays_24 rfl (lv_at hl 1 rfl) ?_
    refine lv_iconst (pc := 25) (v := 1) hx hb dX3_findWays_25 ic_1 ?_
    refine lv_iadd (pc := 26) hx hb dX3_findWays_26 ?_
    obtain ⟨c7, c8, hq, hf⟩ := bind2_some hf
    refine fin2_v (wl_X3_findWays cA a_land a_land_kinds a_land_rowAt a_land_columnAt a_land_ways a_land_beside land_flaw land_cells land_columns land_rows land_kinds land_columnAt c7 c8) (run_V (rest := []) (pc := 27) (As := [.int x1, .int (x1 + (1 : Int32))]) C mf_X3_66 (c_X3_openWay l D cA a_land a_land_kinds a_land_rowAt a_land_columnAt a_land_ways a_land_beside land_flaw land_cells land_columns land_rows land_kinds (upd land_ways x1.toNatClampNeg (0 : Int32)) land_beside x1 (x1 + (1 : Int32)) (c7, c8) hq H.size) rfl rfl ⟨(Nat.le_of_ble_eq_true rfl), (Nat.le_of_ble_eq_true rfl)⟩ (preV_of C hP hD [0, 1, 3, 4] rfl (pl_nd pv_4) 0 rfl rfl rfl) rfl hl.1 rfl (Nat.le_of_ble_eq_true rfl) dX3_findWays_27 ⟨Nat.zero_le _, Nat.zero_le _⟩) hP hD hS hA [0, 1, 3, 4] [2] rfl rfl rfl rfl pv_4 (fun H locs hP hS => ?_)
    have hD : va_D (va_A ws0 sz) (wl_X3_findWays cA a_land a_land_kinds a_land_rowAt a_land_columnAt a_land_ways a_land_beside land_flaw land_cells land_columns land_rows land_kinds land_columnAt c7 c8) := vd_a hD rfl
    exact k_X3_findWays_b30 C hr hlk hA a_land a_land_kinds a_land_rowAt a_land_columnAt a_land_ways a_land_beside land_flaw land_cells land_columns land_rows land_kinds land_columnAt c7 c8 x1 r hf H locs ls hP hD hS hl
set_option maxRecDepth 100000 in
theorem c_X3_findWays (l : Launch) (D : va_G) (cA : Nat → ClassId) (a_land a_land_kinds a_land_rowAt a_land_columnAt a_land_ways a_land_beside : Nat) (land_flaw : Int32) (land_cells : Int32) (land_columns : Int32) (land_rows : Int32) (land_kinds : Nat → Int32) (land_columnAt : Nat → Int32) (land_ways : Nat → Int32) (land_beside : Nat → Int32) (x1 : Int32) (r : (Nat → Int32) × (Nat → Int32)) (hf : f_X3_findWays land_cells land_columns land_kinds land_columnAt land_ways land_beside x1 = some r) (sz : Nat) : Met l yX3_findWays (Cond.code yX3_findWays cX3_findWays 2 none :: lw_good) rm_X3_findWays (PreX D cA [.ref a_land, .int x1] sz (wl_X3_findWays cA a_land a_land_kinds a_land_rowAt a_land_columnAt a_land_ways a_land_beside land_flaw land_cells land_columns land_rows land_kinds land_columnAt land_ways land_beside)) (PostV D (wl_X3_findWays cA a_land a_land_kinds a_land_rowAt a_land_columnAt a_land_ways a_land_beside land_flaw land_cells land_columns land_rows land_kinds land_columnAt land_ways land_beside) (wl_X3_findWays cA a_land a_land_kinds a_land_rowAt a_land_columnAt a_land_ways a_land_beside land_flaw land_cells land_columns land_rows land_kinds land_columnAt (r.1) (r.2)) sz) 0 0 (va_A (wl_X3_findWays cA a_land a_land_kinds a_land_rowAt a_land_columnAt a_land_ways a_land_beside land_flaw land_cells land_columns land_rows land_kinds land_columnAt land_ways land_beside) sz) :=
  met_of (by decide) (Nat.le_of_ble_eq_true rfl) (fun p e s m args below meth c C hr hlk hA => k_X3_findWays C hr hlk hA a_land a_land_kinds a_land_rowAt a_land_columnAt a_land_ways a_land_beside land_flaw land_cells land_columns land_rows land_kinds land_columnAt land_ways land_beside x1 r hf)
end

abbrev wl_X3_understand (cA : Nat → ClassId) (a_land a_land_kinds a_land_rowAt a_land_columnAt a_land_ways a_land_beside a_T a_T_bytes : Nat) (nT : Nat) (land_flaw : Int32) (land_cells : Int32) (land_columns : Int32) (land_rows : Int32) (land_kinds : Nat → Int32) (land_rowAt : Nat → Int32) (land_columnAt : Nat → Int32) (land_ways : Nat → Int32) (land_beside : Nat → Int32) (T_length : Int32) (T_bytes : Nat → Int32) : va_W := [(a_land, .inr (3, [.ref a_land_kinds, .ref a_land_rowAt, .ref a_land_columnAt, .ref a_land_ways, .ref a_land_beside, .int land_flaw, .int land_cells, .int land_columns, .int land_rows])), (a_land_kinds, .inl (cA 0, 36, .inl land_kinds)), (a_land_rowAt, .inl (cA 0, 36, .inl land_rowAt)), (a_land_columnAt, .inl (cA 0, 36, .inl land_columnAt)), (a_land_ways, .inl (cA 0, 36, .inl land_ways)), (a_land_beside, .inl (cA 0, 144, .inl land_beside)), (a_T, .inr (6, [.ref a_T_bytes, .int T_length])), (a_T_bytes, .inl (cA 0, nT, .inl T_bytes))]
abbrev rm_X3_understand : Room := { frames := 2, cells := 0, slots := 0, locals := 47 }
section
variable {p : Program} {l : Launch} {e : Env} {s : State} {m : MethodId} {args : Array Value} {below : List Frame} {meth : Method} {c : Code} {D : va_G} {cA : Nat → ClassId} {ws0 : va_W} {sz : Nat} {A : Nat → Prop} {Q : State → Prop}
def f_X3_understand_L38 (nT : Nat) (land_cells : Int32) (land_columns : Int32) (land_kinds : Nat → Int32) (land_columnAt : Nat → Int32) (x2 : Int32) (land_ways : Nat → Int32) (land_beside : Nat → Int32) : Option ((Int32 × (Nat → Int32) × (Nat → Int32)) ⊕ ((Nat → Int32) × (Nat → Int32))) :=
  if land_cells ≤ x2 then (some (.inr (land_ways, land_beside))) else (bind2 (f_X3_findWays land_cells land_columns land_kinds land_columnAt land_ways land_beside x2) (fun c11 c12 => some (.inl ((x2 + 1), c11, c12))))
set_option maxHeartbeats 4000000 in
set_option maxRecDepth 100000 in
theorem k_X3_understand_L38 (C : Cx RX3 cX3_understand 3 D cA p s m args c) (hA : ∀ q, s.heap.size ≤ q → A q) (a_land a_land_kinds a_land_rowAt a_land_columnAt a_land_ways a_land_beside a_T a_T_bytes : Nat) (nT : Nat) (land_flaw : Int32) (land_cells : Int32) (land_columns : Int32) (land_rows : Int32) (land_kinds : Nat → Int32) (land_rowAt : Nat → Int32) (land_columnAt : Nat → Int32) (T_length : Int32) (T_bytes : Nat → Int32) (x2 : Int32) (land_ways : Nat → Int32) (land_beside : Nat → Int32) (r : (Int32 × (Nat → Int32) × (Nat → Int32)) ⊕ ((Nat → Int32) × (Nat → Int32))) (hf : f_X3_understand_L38 nT land_cells land_columns land_kinds land_columnAt x2 land_ways land_beside = some r) (hK : Sum.elim (fun q : Int32 × (Nat → Int32) × (Nat → Int32) => At p l e rm_X3_understand s m args below meth c D A 0 0 Q 3 38 (wl_X3_understand cA a_land a_land_kinds a_land_rowAt a_land_columnAt a_land_ways a_land_beside a_T a_T_bytes nT land_flaw land_cells land_columns land_rows land_kinds land_rowAt land_columnAt (q.2.1) (q.2.2) T_length T_bytes) [(0, .ref a_land), (2, .int (q.1))] []) (fun q : (Nat → Int32) × (Nat → Int32) => At p l e rm_X3_understand s m args below meth c D A 0 0 Q 3 57 (wl_X3_understand cA a_land a_land_kinds a_land_rowAt a_land_columnAt a_land_ways a_land_beside a_T a_T_bytes nT land_flaw land_cells land_columns land_rows land_kinds land_rowAt land_columnAt (q.1) (q.2) T_length T_bytes) [] []) r) : At p l e rm_X3_understand s m args below meth c D A 0 0 Q 3 38 (wl_X3_understand cA a_land a_land_kinds a_land_rowAt a_land_columnAt a_land_ways a_land_beside a_T a_T_bytes nT land_flaw land_cells land_columns land_rows land_kinds land_rowAt land_columnAt land_ways land_beside T_length T_bytes) [(0, .ref a_land), (2, .int x2)] [] := by
  intro H locs ls hP hD hS hl
  have hx := C.1
  have hb := C.2.1
  have hown := C.2.2.2.1
  have hts := C.2.2.2.2.1
  unfold f_X3_understand_L38 at hf
  refine lv_iload_n (pc := 38) hx hb dX3_understand_38 rfl (lv_at hl 1 rfl) ?_
  refine lv_aload_n (pc := 39) hx hb dX3_understand_39 rfl (lv_at hl 0 rfl) ?_
  refine g_get (pc := 40) C fg_X3_31 hP 0 rfl rfl dX3_understand_40 ?_
  refine lv_icmp_ge (pc := 43) (tgt := 57) hx hb dX3_understand_43 (by decide) (fun hc => ?_) (fun hc => ?_)
  · have hf := (if_pos hc).symm.trans hf
    have hf := Option.some.inj hf
    subst hf
    exact hK H locs ls hP hD hS (lv_sub hl [] rfl)
  · have hf := (if_neg hc).symm.trans hf
    refine lv_aload_n (pc := 46) hx hb dX3_understand_46 rfl (lv_at hl 0 rfl) ?_
    refine lv_iload_n (pc := 47) hx hb dX3_understand_47 rfl (lv_at hl 1 rfl) ?_
    obtain ⟨c11, c12, hq, hf⟩ := bind2_some hf
    refine fin2_v (wl_X3_understand cA a_land a_land_kinds a_land_rowAt a_land_columnAt a_land_ways a_land_beside a_T a_T_bytes nT land_flaw land_cells land_columns land_rows land_kinds land_rowAt land_columnAt c11 c12 T_length T_bytes) (run_V (rest := []) (pc := 48) (As := [.int x2]) C mf_X3_52 (c_X3_findWays l D cA a_land a_land_kinds a_land_rowAt a_land_columnAt a_land_ways a_land_beside land_flaw land_cells land_columns land_rows land_kinds land_columnAt land_ways land_beside x2 (c11, c12) hq H.size) rfl rfl ⟨(Nat.le_of_ble_eq_true rfl), (Nat.le_of_ble_eq_true rfl)⟩ (preV_of C hP hD [0, 1, 3, 4, 5] rfl (pl_nd pv_7) 0 rfl rfl rfl) rfl hl.1 rfl (Nat.le_of_ble_eq_true rfl) dX3_understand_48 ⟨Nat.zero_le _, Nat.zero_le _⟩) hP hD hS hA [0, 1, 3, 4, 5] [2, 6, 7] rfl rfl rfl rfl pv_7 (fun H locs hP hS => ?_)
    have hD : va_D A (wl_X3_understand cA a_land a_land_kinds a_land_rowAt a_land_columnAt a_land_ways a_land_beside a_T a_T_bytes nT land_flaw land_cells land_columns land_rows land_kinds land_rowAt land_columnAt c11 c12 T_length T_bytes) := vd_a hD rfl
    refine lv_iinc (pc := 51) (v := (x2 + 1)) (lv' := [(2, .int (x2 + 1)), (0, .ref a_land)]) hx hb dX3_understand_51 hl (k := 1) rfl rfl (Nat.le_of_ble_eq_true rfl) rfl (fun ls hl => ?_)
    refine lv_goto (pc := 54) (tgt := 38) hx hb dX3_understand_54 (by decide) ?_
    have hf := Option.some.inj hf
    subst hf
    exact hK H locs ls hP hD hS (lv_sub hl [1, 0] rfl)
theorem kl_X3_understand_L38 (C : Cx RX3 cX3_understand 3 D cA p s m args c) (hA : ∀ q, s.heap.size ≤ q → A q) (a_land a_land_kinds a_land_rowAt a_land_columnAt a_land_ways a_land_beside a_T a_T_bytes : Nat) (nT : Nat) (land_flaw : Int32) (land_cells : Int32) (land_columns : Int32) (land_rows : Int32) (land_kinds : Nat → Int32) (land_rowAt : Nat → Int32) (land_columnAt : Nat → Int32) (T_length : Int32) (T_bytes : Nat → Int32) : ∀ (n : Nat) (q : Int32 × (Nat → Int32) × (Nat → Int32)) (z : ((Nat → Int32) × (Nat → Int32))), loopF (fun q : Int32 × (Nat → Int32) × (Nat → Int32) => f_X3_understand_L38 nT land_cells land_columns land_kinds land_columnAt q.1 q.2.1 q.2.2) n q = some z → (fun q : (Nat → Int32) × (Nat → Int32) => At p l e rm_X3_understand s m args below meth c D A 0 0 Q 3 57 (wl_X3_understand cA a_land a_land_kinds a_land_rowAt a_land_columnAt a_land_ways a_land_beside a_T a_T_bytes nT land_flaw land_cells land_columns land_rows land_kinds land_rowAt land_columnAt (q.1) (q.2) T_length T_bytes) [] []) z → At p l e rm_X3_understand s m args below meth c D A 0 0 Q 3 38 (wl_X3_understand cA a_land a_land_kinds a_land_rowAt a_land_columnAt a_land_ways a_land_beside a_T a_T_bytes nT land_flaw land_cells land_columns land_rows land_kinds land_rowAt land_columnAt (q.2.1) (q.2.2) T_length T_bytes) [(0, .ref a_land), (2, .int (q.1))] [] :=
  loop_lem (WP := fun q : Int32 × (Nat → Int32) × (Nat → Int32) => At p l e rm_X3_understand s m args below meth c D A 0 0 Q 3 38 (wl_X3_understand cA a_land a_land_kinds a_land_rowAt a_land_columnAt a_land_ways a_land_beside a_T a_T_bytes nT land_flaw land_cells land_columns land_rows land_kinds land_rowAt land_columnAt (q.2.1) (q.2.2) T_length T_bytes) [(0, .ref a_land), (2, .int (q.1))] []) (WE := (fun q : (Nat → Int32) × (Nat → Int32) => At p l e rm_X3_understand s m args below meth c D A 0 0 Q 3 57 (wl_X3_understand cA a_land a_land_kinds a_land_rowAt a_land_columnAt a_land_ways a_land_beside a_T a_T_bytes nT land_flaw land_cells land_columns land_rows land_kinds land_rowAt land_columnAt (q.1) (q.2) T_length T_bytes) [] [])) (fun q r hf hK => k_X3_understand_L38 C hA a_land a_land_kinds a_land_rowAt a_land_columnAt a_land_ways a_land_beside a_T a_T_bytes nT land_flaw land_cells land_columns land_rows land_kinds land_rowAt land_columnAt T_length T_bytes q.1 q.2.1 q.2.2 r hf hK)
def f_X3_understand_b36 (nT : Nat) (land_flaw : Int32) (land_cells : Int32) (land_columns : Int32) (land_rows : Int32) (land_kinds : Nat → Int32) (land_rowAt : Nat → Int32) (land_columnAt : Nat → Int32) (land_ways : Nat → Int32) (land_beside : Nat → Int32) (T_length : Int32) (T_bytes : Nat → Int32) : Option (Int32 × Int32 × Int32 × Int32 × (Nat → Int32) × (Nat → Int32) × (Nat → Int32) × (Nat → Int32) × (Nat → Int32)) :=
  bind2 (loopF (fun q : Int32 × (Nat → Int32) × (Nat → Int32) => f_X3_understand_L38 nT land_cells land_columns land_kinds land_columnAt q.1 q.2.1 q.2.2) FU ((0 : Int32), land_ways, land_beside)) (fun u13 u14 => some (land_flaw, land_cells, land_columns, land_rows, land_kinds, land_rowAt, land_columnAt, u13, u14))
set_option maxHeartbeats 4000000 in
set_option maxRecDepth 100000 in
theorem k_X3_understand_b36 (C : Cx RX3 cX3_understand 3 D cA p s m args c) (hr : meth.sig.returnType = none) (hlk : meth.locks = false) (hA : ∀ q, s.heap.size ≤ q → va_A ws0 sz q) (a_land a_land_kinds a_land_rowAt a_land_columnAt a_land_ways a_land_beside a_T a_T_bytes : Nat) (nT : Nat) (land_flaw : Int32) (land_cells : Int32) (land_columns : Int32) (land_rows : Int32) (land_kinds : Nat → Int32) (land_rowAt : Nat → Int32) (land_columnAt : Nat → Int32) (land_ways : Nat → Int32) (land_beside : Nat → Int32) (T_length : Int32) (T_bytes : Nat → Int32) (r : Int32 × Int32 × Int32 × Int32 × (Nat → Int32) × (Nat → Int32) × (Nat → Int32) × (Nat → Int32) × (Nat → Int32)) (hf : f_X3_understand_b36 nT land_flaw land_cells land_columns land_rows land_kinds land_rowAt land_columnAt land_ways land_beside T_length T_bytes = some r) : At p l e rm_X3_understand s m args below meth c D (va_A ws0 sz) 0 0 (MQ below (PostV D ws0 (wl_X3_understand cA a_land a_land_kinds a_land_rowAt a_land_columnAt a_land_ways a_land_beside a_T a_T_bytes nT (r.1) (r.2.1) (r.2.2.1) (r.2.2.2.1) (r.2.2.2.2.1) (r.2.2.2.2.2.1) (r.2.2.2.2.2.2.1) (r.2.2.2.2.2.2.2.1) (r.2.2.2.2.2.2.2.2) T_length T_bytes) sz) args s 0 0 (va_A ws0 sz)) 3 36 (wl_X3_understand cA a_land a_land_kinds a_land_rowAt a_land_columnAt a_land_ways a_land_beside a_T a_T_bytes nT land_flaw land_cells land_columns land_rows land_kinds land_rowAt land_columnAt land_ways land_beside T_length T_bytes) [(0, .ref a_land)] [] := by
  intro H locs ls hP hD hS hl
  have hx := C.1
  have hb := C.2.1
  have hown := C.2.2.2.1
  have hts := C.2.2.2.2.1
  unfold f_X3_understand_b36 at hf
  refine lv_iconst (pc := 36) (v := 0) hx hb dX3_understand_36 ic_0 ?_
  refine lv_istore_n (pc := 37) (lv' := [(2, .int (0 : Int32)), (0, .ref a_land)]) hx hb dX3_understand_37 rfl hl (Nat.le_of_ble_eq_true rfl) rfl (fun ls hl => ?_)
  obtain ⟨u13, u14, hq, hf⟩ := bind2_some hf
  refine kl_X3_understand_L38 C hA a_land a_land_kinds a_land_rowAt a_land_columnAt a_land_ways a_land_beside a_T a_T_bytes nT land_flaw land_cells land_columns land_rows land_kinds land_rowAt land_columnAt T_length T_bytes FU ((0 : Int32), land_ways, land_beside) _ hq ?_ H locs ls hP hD hS (lv_sub hl [1, 0] rfl)
  intro H locs ls hP hD hS hl
  have hP : va_P D classes (wl_X3_understand cA a_land a_land_kinds a_land_rowAt a_land_columnAt a_land_ways a_land_beside a_T a_T_bytes nT land_flaw land_cells land_columns land_rows land_kinds land_rowAt land_columnAt u13 u14 T_length T_bytes) H := hP
  have hD : va_D (va_A ws0 sz) (wl_X3_understand cA a_land a_land_kinds a_land_rowAt a_land_columnAt a_land_ways a_land_beside a_T a_T_bytes nT land_flaw land_cells land_columns land_rows land_kinds land_rowAt land_columnAt u13 u14 T_length T_bytes) := hD
  have hl : lv_has ls 3 [] := hl
  have hf := Option.some.inj hf
  subst hf
  exact ret_v C hr hlk hP hS dX3_understand_57
def f_X3_understand_b21 (nT : Nat) (land_flaw : Int32) (land_cells : Int32) (land_columns : Int32) (land_rows : Int32) (land_kinds : Nat → Int32) (land_rowAt : Nat → Int32) (land_columnAt : Nat → Int32) (land_ways : Nat → Int32) (land_beside : Nat → Int32) (T_length : Int32) (T_bytes : Nat → Int32) (s0 : Int32) : Option (Int32 × Int32 × Int32 × Int32 × (Nat → Int32) × (Nat → Int32) × (Nat → Int32) × (Nat → Int32) × (Nat → Int32)) :=
  if s0 = (-1 : Int32) then (f_X3_understand_b36 nT s0 land_cells land_columns land_rows land_kinds land_rowAt land_columnAt land_ways land_beside T_length T_bytes) else (bind3 (f_X3_becomeEmpty land_cells land_columns land_rows) (fun c15 c16 c17 => f_X3_understand_b36 nT s0 c15 c16 c17 land_kinds land_rowAt land_columnAt land_ways land_beside T_length T_bytes))
set_option maxHeartbeats 4000000 in
set_option maxRecDepth 100000 in
theorem k_X3_understand_b21 (C : Cx RX3 cX3_understand 3 D cA p s m args c) (hr : meth.sig.returnType = none) (hlk : meth.locks = false) (hA : ∀ q, s.heap.size ≤ q → va_A ws0 sz q) (a_land a_land_kinds a_land_rowAt a_land_columnAt a_land_ways a_land_beside a_T a_T_bytes : Nat) (nT : Nat) (land_flaw : Int32) (land_cells : Int32) (land_columns : Int32) (land_rows : Int32) (land_kinds : Nat → Int32) (land_rowAt : Nat → Int32) (land_columnAt : Nat → Int32) (land_ways : Nat → Int32) (land_beside : Nat → Int32) (T_length : Int32) (T_bytes : Nat → Int32) (s0 : Int32) (r : Int32 × Int32 × Int32 × Int32 × (Nat → Int32) × (Nat → Int32) × (Nat → Int32) × (Nat → Int32) × (Nat → Int32)) (hf : f_X3_understand_b21 nT land_flaw land_cells land_columns land_rows land_kinds land_rowAt land_columnAt land_ways land_beside T_length T_bytes s0 = some r) : At p l e rm_X3_understand s m args below meth c D (va_A ws0 sz) 0 0 (MQ below (PostV D ws0 (wl_X3_understand cA a_land a_land_kinds a_land_rowAt a_land_columnAt a_land_ways a_land_beside a_T a_T_bytes nT (r.1) (r.2.1) (r.2.2.1) (r.2.2.2.1) (r.2.2.2.2.1) (r.2.2.2.2.2.1) (r.2.2.2.2.2.2.1) (r.2.2.2.2.2.2.2.1) (r.2.2.2.2.2.2.2.2) T_length T_bytes) sz) args s 0 0 (va_A ws0 sz)) 3 21 (wl_X3_understand cA a_land a_land_kinds a_land_rowAt a_land_columnAt a_land_ways a_land_beside a_T a_T_bytes nT land_flaw land_cells land_columns land_rows land_kinds land_rowAt land_columnAt land_ways land_beside T_length T_bytes) [(0, .ref a_land)] [.int s0, .ref a_land] := by
  intro H locs ls hP hD hS hl
  have hx := C.1
  have hb := C.2.1
  have hown := C.2.2.2.1
  have hts := C.2.2.2.2.1
  unfold f_X3_understand_b21 at hf
  refine g_put (pc := 21) C fg_X3_27 ft_X3_5 hP hD hS 0 rfl rfl rfl (Nat.le_of_ble_eq_true rfl) dX3_understand_21 (fun H locs hP hD hS => ?_)
  have hP : va_P D classes (wl_X3_understand cA a_land a_land_kinds a_land_rowAt a_land_columnAt a_land_ways a_land_beside a_T a_T_bytes nT s0 land_cells land_columns land_rows land_kinds land_rowAt land_columnAt land_ways land_beside T_length T_bytes) H := hP
  have hD : va_D (va_A ws0 sz) (wl_X3_understand cA a_land a_land_kinds a_land_rowAt a_land_columnAt a_land_ways a_land_beside a_T a_T_bytes nT s0 land_cells land_columns land_rows land_kinds land_rowAt land_columnAt land_ways land_beside T_length T_bytes) := hD
  refine lv_aload_n (pc := 24) hx hb dX3_understand_24 rfl (lv_at hl 0 rfl) ?_
  refine g_get (pc := 25) C fg_X3_27 hP 0 rfl rfl dX3_understand_25 ?_
  refine lv_iconst (pc := 28) (v := (-1)) hx hb dX3_understand_28 ic_m1 ?_
  refine lv_icmp_eq (pc := 29) (tgt := 36) hx hb dX3_understand_29 (by decide) (fun hc => ?_) (fun hc => ?_)
  · have hf := (if_pos hc).symm.trans hf
    exact k_X3_understand_b36 C hr hlk hA a_land a_land_kinds a_land_rowAt a_land_columnAt a_land_ways a_land_beside a_T a_T_bytes nT s0 land_cells land_columns land_rows land_kinds land_rowAt land_columnAt land_ways land_beside T_length T_bytes r hf H locs ls hP hD hS hl
  · have hf := (if_neg hc).symm.trans hf
    refine lv_aload_n (pc := 32) hx hb dX3_understand_32 rfl (lv_at hl 0 rfl) ?_
    obtain ⟨c15, c16, c17, hq, hf⟩ := bind3_some hf
    refine fin2_v (wl_X3_understand cA a_land a_land_kinds a_land_rowAt a_land_columnAt a_land_ways a_land_beside a_T a_T_bytes nT s0 c15 c16 c17 land_kinds land_rowAt land_columnAt land_ways land_beside T_length T_bytes) (run_V (rest := []) (pc := 33) (As := []) C mf_X3_40 (c_X3_becomeEmpty l D cA a_land a_land_kinds a_land_rowAt a_land_columnAt a_land_ways a_land_beside s0 land_cells land_columns land_rows (c15, c16, c17) hq H.size) rfl rfl ⟨(Nat.le_of_ble_eq_true rfl), (Nat.le_of_ble_eq_true rfl)⟩ (preV_of C hP hD [0] rfl (pl_nd pv_5) 0 rfl rfl rfl) rfl hl.1 rfl (Nat.le_of_ble_eq_true rfl) dX3_understand_33 ⟨Nat.zero_le _, Nat.zero_le _⟩) hP hD hS hA [0] [1, 2, 3, 4, 5, 6, 7] rfl rfl rfl rfl pv_5 (fun H locs hP hS => ?_)
    have hD : va_D (va_A ws0 sz) (wl_X3_understand cA a_land a_land_kinds a_land_rowAt a_land_columnAt a_land_ways a_land_beside a_T a_T_bytes nT s0 c15 c16 c17 land_kinds land_rowAt land_columnAt land_ways land_beside T_length T_bytes) := vd_a hD rfl
    exact k_X3_understand_b36 C hr hlk hA a_land a_land_kinds a_land_rowAt a_land_columnAt a_land_ways a_land_beside a_T a_T_bytes nT s0 c15 c16 c17 land_kinds land_rowAt land_columnAt land_ways land_beside T_length T_bytes r hf H locs ls hP hD hS hl
def f_X3_understand (nT : Nat) (land_flaw : Int32) (land_cells : Int32) (land_columns : Int32) (land_rows : Int32) (land_kinds : Nat → Int32) (land_rowAt : Nat → Int32) (land_columnAt : Nat → Int32) (land_ways : Nat → Int32) (land_beside : Nat → Int32) (T_length : Int32) (T_bytes : Nat → Int32) : Option (Int32 × Int32 × Int32 × Int32 × (Nat → Int32) × (Nat → Int32) × (Nat → Int32) × (Nat → Int32) × (Nat → Int32)) :=
  bind3 (f_X3_becomeEmpty land_cells land_columns land_rows) (fun c1 c2 c3 => if T_length = 0 then (f_X3_understand_b21 nT land_flaw c1 c2 c3 land_kinds land_rowAt land_columnAt land_ways land_beside T_length T_bytes (-1 : Int32)) else (bind7 (f_X3_gather nT c1 c2 c3 land_kinds land_rowAt land_columnAt T_length T_bytes) (fun r4 c5 c6 c7 c8 c9 c10 => f_X3_understand_b21 nT land_flaw c5 c6 c7 c8 c9 c10 land_ways land_beside T_length T_bytes r4)))
set_option maxHeartbeats 4000000 in
set_option maxRecDepth 100000 in
theorem k_X3_understand (C : Cx RX3 cX3_understand 3 D cA p s m args c) (hr : meth.sig.returnType = none) (hlk : meth.locks = false) (hA : ∀ q, s.heap.size ≤ q → va_A ws0 sz q) (a_land a_land_kinds a_land_rowAt a_land_columnAt a_land_ways a_land_beside a_T a_T_bytes : Nat) (nT : Nat) (land_flaw : Int32) (land_cells : Int32) (land_columns : Int32) (land_rows : Int32) (land_kinds : Nat → Int32) (land_rowAt : Nat → Int32) (land_columnAt : Nat → Int32) (land_ways : Nat → Int32) (land_beside : Nat → Int32) (T_length : Int32) (T_bytes : Nat → Int32) (r : Int32 × Int32 × Int32 × Int32 × (Nat → Int32) × (Nat → Int32) × (Nat → Int32) × (Nat → Int32) × (Nat → Int32)) (hf : f_X3_understand nT land_flaw land_cells land_columns land_rows land_kinds land_rowAt land_columnAt land_ways land_beside T_length T_bytes = some r) : At p l e rm_X3_understand s m args below meth c D (va_A ws0 sz) 0 0 (MQ below (PostV D ws0 (wl_X3_understand cA a_land a_land_kinds a_land_rowAt a_land_columnAt a_land_ways a_land_beside a_T a_T_bytes nT (r.1) (r.2.1) (r.2.2.1) (r.2.2.2.1) (r.2.2.2.2.1) (r.2.2.2.2.2.1) (r.2.2.2.2.2.2.1) (r.2.2.2.2.2.2.2.1) (r.2.2.2.2.2.2.2.2) T_length T_bytes) sz) args s 0 0 (va_A ws0 sz)) 3 0 (wl_X3_understand cA a_land a_land_kinds a_land_rowAt a_land_columnAt a_land_ways a_land_beside a_T a_T_bytes nT land_flaw land_cells land_columns land_rows land_kinds land_rowAt land_columnAt land_ways land_beside T_length T_bytes) [(0, .ref a_land), (1, .ref a_T)] [] := by
  intro H locs ls hP hD hS hl
  have hx := C.1
  have hb := C.2.1
  have hown := C.2.2.2.1
  have hts := C.2.2.2.2.1
  unfold f_X3_understand at hf
  refine lv_aload_n (pc := 0) hx hb dX3_understand_0 rfl (lv_at hl 0 rfl) ?_
  obtain ⟨c1, c2, c3, hq, hf⟩ := bind3_some hf
  refine fin2_v (wl_X3_understand cA a_land a_land_kinds a_land_rowAt a_land_columnAt a_land_ways a_land_beside a_T a_T_bytes nT land_flaw c1 c2 c3 land_kinds land_rowAt land_columnAt land_ways land_beside T_length T_bytes) (run_V (rest := []) (pc := 1) (As := []) C mf_X3_40 (c_X3_becomeEmpty l D cA a_land a_land_kinds a_land_rowAt a_land_columnAt a_land_ways a_land_beside land_flaw land_cells land_columns land_rows (c1, c2, c3) hq H.size) rfl rfl ⟨(Nat.le_of_ble_eq_true rfl), (Nat.le_of_ble_eq_true rfl)⟩ (preV_of C hP hD [0] rfl (pl_nd pv_5) 0 rfl rfl rfl) rfl hl.1 rfl (Nat.le_of_ble_eq_true rfl) dX3_understand_1 ⟨Nat.zero_le _, Nat.zero_le _⟩) hP hD hS hA [0] [1, 2, 3, 4, 5, 6, 7] rfl rfl rfl rfl pv_5 (fun H locs hP hS => ?_)
  have hD : va_D (va_A ws0 sz) (wl_X3_understand cA a_land a_land_kinds a_land_rowAt a_land_columnAt a_land_ways a_land_beside a_T a_T_bytes nT land_flaw c1 c2 c3 land_kinds land_rowAt land_columnAt land_ways land_beside T_length T_bytes) := vd_a hD rfl
  refine lv_aload_n (pc := 4) hx hb dX3_understand_4 rfl (lv_at hl 0 rfl) ?_
  refine lv_aload_n (pc := 5) hx hb dX3_understand_5 rfl (lv_at hl 1 rfl) ?_
  refine g_get (pc := 6) C fg_X3_43 hP 6 rfl rfl dX3_understand_6 ?_
  refine lv_if_ne (pc := 9) (tgt := 16) hx hb dX3_understand_9 (by decide) (fun hc => ?_) (fun hc => ?_)
  · have hf := (if_neg hc).symm.trans hf
    refine lv_aload_n (pc := 16) hx hb dX3_understand_16 rfl (lv_at hl 0 rfl) ?_
    refine lv_aload_n (pc := 17) hx hb dX3_understand_17 rfl (lv_at hl 1 rfl) ?_
    obtain ⟨r4, c5, c6, c7, c8, c9, c10, hq, hf⟩ := bind7_some hf
    refine fin2_i (wl_X3_understand cA a_land a_land_kinds a_land_rowAt a_land_columnAt a_land_ways a_land_beside a_T a_T_bytes nT land_flaw c5 c6 c7 c8 c9 c10 land_ways land_beside T_length T_bytes) (run_V (rest := [.ref a_land]) (pc := 18) (As := [.ref a_T]) C mf_X3_48 (c_X3_gather l D cA a_land a_land_kinds a_land_rowAt a_land_columnAt a_land_ways a_land_beside a_T a_T_bytes nT land_flaw c1 c2 c3 land_kinds land_rowAt land_columnAt T_length T_bytes (r4, c5, c6, c7, c8, c9, c10) hq H.size) rfl rfl ⟨(Nat.le_of_ble_eq_true rfl), (Nat.le_of_ble_eq_true rfl)⟩ (preV_of C hP hD [0, 1, 2, 3, 6, 7] rfl (pl_nd pv_6) 0 rfl rfl rfl) rfl hl.1 rfl (Nat.le_of_ble_eq_true rfl) dX3_understand_18 ⟨Nat.zero_le _, Nat.zero_le _⟩) hP hD hS hA [0, 1, 2, 3, 6, 7] [4, 5] rfl rfl rfl rfl pv_6 (fun H locs hP hS => ?_)
    have hD : va_D (va_A ws0 sz) (wl_X3_understand cA a_land a_land_kinds a_land_rowAt a_land_columnAt a_land_ways a_land_beside a_T a_T_bytes nT land_flaw c5 c6 c7 c8 c9 c10 land_ways land_beside T_length T_bytes) := vd_a hD rfl
    exact k_X3_understand_b21 C hr hlk hA a_land a_land_kinds a_land_rowAt a_land_columnAt a_land_ways a_land_beside a_T a_T_bytes nT land_flaw c5 c6 c7 c8 c9 c10 land_ways land_beside T_length T_bytes r4 r hf H locs ls hP hD hS (lv_sub hl [0] rfl)
  · have hf := (if_pos hc).symm.trans hf
    refine lv_iconst (pc := 12) (v := (-1)) hx hb dX3_understand_12 ic_m1 ?_
    refine lv_goto (pc := 13) (tgt := 21) hx hb dX3_understand_13 (by decide) ?_
    exact k_X3_understand_b21 C hr hlk hA a_land a_land_kinds a_land_rowAt a_land_columnAt a_land_ways a_land_beside a_T a_T_bytes nT land_flaw c1 c2 c3 land_kinds land_rowAt land_columnAt land_ways land_beside T_length T_bytes (-1 : Int32) r hf H locs ls hP hD hS (lv_sub hl [0] rfl)
set_option maxRecDepth 100000 in
theorem c_X3_understand (l : Launch) (D : va_G) (cA : Nat → ClassId) (a_land a_land_kinds a_land_rowAt a_land_columnAt a_land_ways a_land_beside a_T a_T_bytes : Nat) (nT : Nat) (land_flaw : Int32) (land_cells : Int32) (land_columns : Int32) (land_rows : Int32) (land_kinds : Nat → Int32) (land_rowAt : Nat → Int32) (land_columnAt : Nat → Int32) (land_ways : Nat → Int32) (land_beside : Nat → Int32) (T_length : Int32) (T_bytes : Nat → Int32) (r : Int32 × Int32 × Int32 × Int32 × (Nat → Int32) × (Nat → Int32) × (Nat → Int32) × (Nat → Int32) × (Nat → Int32)) (hf : f_X3_understand nT land_flaw land_cells land_columns land_rows land_kinds land_rowAt land_columnAt land_ways land_beside T_length T_bytes = some r) (sz : Nat) : Met l yX3_understand (Cond.code yX3_understand cX3_understand 3 none :: lw_good) rm_X3_understand (PreX D cA [.ref a_land, .ref a_T] sz (wl_X3_understand cA a_land a_land_kinds a_land_rowAt a_land_columnAt a_land_ways a_land_beside a_T a_T_bytes nT land_flaw land_cells land_columns land_rows land_kinds land_rowAt land_columnAt land_ways land_beside T_length T_bytes)) (PostV D (wl_X3_understand cA a_land a_land_kinds a_land_rowAt a_land_columnAt a_land_ways a_land_beside a_T a_T_bytes nT land_flaw land_cells land_columns land_rows land_kinds land_rowAt land_columnAt land_ways land_beside T_length T_bytes) (wl_X3_understand cA a_land a_land_kinds a_land_rowAt a_land_columnAt a_land_ways a_land_beside a_T a_T_bytes nT (r.1) (r.2.1) (r.2.2.1) (r.2.2.2.1) (r.2.2.2.2.1) (r.2.2.2.2.2.1) (r.2.2.2.2.2.2.1) (r.2.2.2.2.2.2.2.1) (r.2.2.2.2.2.2.2.2) T_length T_bytes) sz) 0 0 (va_A (wl_X3_understand cA a_land a_land_kinds a_land_rowAt a_land_columnAt a_land_ways a_land_beside a_T a_T_bytes nT land_flaw land_cells land_columns land_rows land_kinds land_rowAt land_columnAt land_ways land_beside T_length T_bytes) sz) :=
  met_of (by decide) (Nat.le_of_ble_eq_true rfl) (fun p e s m args below meth c C hr hlk hA => k_X3_understand C hr hlk hA a_land a_land_kinds a_land_rowAt a_land_columnAt a_land_ways a_land_beside a_T a_T_bytes nT land_flaw land_cells land_columns land_rows land_kinds land_rowAt land_columnAt land_ways land_beside T_length T_bytes r hf)
end

abbrev wl_X4_append (cA : Nat → ClassId) (a_M a_M_nights a_M_things a_M_realms : Nat) (M_number : Int32) (M_nights : Nat → Int32) (M_things : Nat → Int32) (M_realms : Nat → Int32) : va_W := [(a_M, .inr (4, [.ref a_M_nights, .ref a_M_things, .ref a_M_realms, .int M_number])), (a_M_nights, .inl (cA 0, 8, .inl M_nights)), (a_M_things, .inl (cA 0, 8, .inl M_things)), (a_M_realms, .inl (cA 0, 8, .inl M_realms))]
abbrev rm_X4_append : Room := { frames := 0, cells := 0, slots := 0, locals := 0 }
section
variable {p : Program} {l : Launch} {e : Env} {s : State} {m : MethodId} {args : Array Value} {below : List Frame} {meth : Method} {c : Code} {D : va_G} {cA : Nat → ClassId} {ws0 : va_W} {sz : Nat} {A : Nat → Prop} {Q : State → Prop}
def f_X4_append (M_number : Int32) (M_nights : Nat → Int32) (M_things : Nat → Int32) (M_realms : Nat → Int32) (x1 : Int32) (x2 : Int32) (x3 : Int32) : Option (Int32 × Int32 × (Nat → Int32) × (Nat → Int32) × (Nat → Int32)) :=
  if M_number < (8 : Int32) then (gd (inb M_number 8) (gd (inb M_number 8) (gd (inb M_number 8) (letv ((M_number + (1 : Int32))) (fun v1 => some ((1 : Int32), v1, (upd M_nights M_number.toNatClampNeg x1), (upd M_things M_number.toNatClampNeg x2), (upd M_realms M_number.toNatClampNeg x3))))))) else (some ((0 : Int32), M_number, M_nights, M_things, M_realms))
set_option maxHeartbeats 4000000 in
set_option maxRecDepth 100000 in
theorem k_X4_append (C : Cx RX4 cX4_append 4 D cA p s m args c) (hr : meth.sig.returnType = (some .boolean)) (hlk : meth.locks = false) (hA : ∀ q, s.heap.size ≤ q → va_A ws0 sz q) (a_M a_M_nights a_M_things a_M_realms : Nat) (M_number : Int32) (M_nights : Nat → Int32) (M_things : Nat → Int32) (M_realms : Nat → Int32) (x1 : Int32) (x2 : Int32) (x3 : Int32) (r : Int32 × Int32 × (Nat → Int32) × (Nat → Int32) × (Nat → Int32)) (hf : f_X4_append M_number M_nights M_things M_realms x1 x2 x3 = some r) : At p l e rm_X4_append s m args below meth c D (va_A ws0 sz) 0 0 (MQ below (PostI D r.1 ws0 (wl_X4_append cA a_M a_M_nights a_M_things a_M_realms (r.2.1) (r.2.2.1) (r.2.2.2.1) (r.2.2.2.2)) sz) args s 0 0 (va_A ws0 sz)) 4 0 (wl_X4_append cA a_M a_M_nights a_M_things a_M_realms M_number M_nights M_things M_realms) [(0, .ref a_M), (1, .int x1), (2, .int x2), (3, .int x3)] [] := by
  intro H locs ls hP hD hS hl
  have hx := C.1
  have hb := C.2.1
  have hown := C.2.2.2.1
  have hts := C.2.2.2.2.1
  unfold f_X4_append at hf
  refine lv_aload_n (pc := 0) hx hb dX4_append_0 rfl (lv_at hl 0 rfl) ?_
  refine g_get (pc := 1) C fg_X4_21 hP 0 rfl rfl dX4_append_1 ?_
  refine lv_bipush (pc := 4) (v := 8) hx hb dX4_append_4 bp_8 ?_
  refine lv_icmp_lt (pc := 6) (tgt := 11) hx hb dX4_append_6 (by decide) (fun hc => ?_) (fun hc => ?_)
  · have hf := (if_pos hc).symm.trans hf
    refine lv_aload_n (pc := 11) hx hb dX4_append_11 rfl (lv_at hl 0 rfl) ?_
    refine g_get (pc := 12) C fg_X4_9 hP 0 rfl rfl dX4_append_12 ?_
    refine lv_aload_n (pc := 15) hx hb dX4_append_15 rfl (lv_at hl 0 rfl) ?_
    refine g_get (pc := 16) C fg_X4_21 hP 0 rfl rfl dX4_append_16 ?_
    refine lv_iload_n (pc := 19) hx hb dX4_append_19 rfl (lv_at hl 1 rfl) ?_
    obtain ⟨hg, hf⟩ := gd_some hf
    refine g_iast (pc := 20) C hP hD hS 1 rfl hg dX4_append_20 (fun H locs hP hD hS => ?_)
    have hP : va_P D classes (wl_X4_append cA a_M a_M_nights a_M_things a_M_realms M_number (upd M_nights M_number.toNatClampNeg x1) M_things M_realms) H := hP
    have hD : va_D (va_A ws0 sz) (wl_X4_append cA a_M a_M_nights a_M_things a_M_realms M_number (upd M_nights M_number.toNatClampNeg x1) M_things M_realms) := hD
    refine lv_aload_n (pc := 21) hx hb dX4_append_21 rfl (lv_at hl 0 rfl) ?_
    refine g_get (pc := 22) C fg_X4_15 hP 0 rfl rfl dX4_append_22 ?_
    refine lv_aload_n (pc := 25) hx hb dX4_append_25 rfl (lv_at hl 0 rfl) ?_
    refine g_get (pc := 26) C fg_X4_21 hP 0 rfl rfl dX4_append_26 ?_
    refine lv_iload_n (pc := 29) hx hb dX4_append_29 rfl (lv_at hl 2 rfl) ?_
    obtain ⟨hg, hf⟩ := gd_some hf
    refine g_iast (pc := 30) C hP hD hS 2 rfl hg dX4_append_30 (fun H locs hP hD hS => ?_)
    have hP : va_P D classes (wl_X4_append cA a_M a_M_nights a_M_things a_M_realms M_number (upd M_nights M_number.toNatClampNeg x1) (upd M_things M_number.toNatClampNeg x2) M_realms) H := hP
    have hD : va_D (va_A ws0 sz) (wl_X4_append cA a_M a_M_nights a_M_things a_M_realms M_number (upd M_nights M_number.toNatClampNeg x1) (upd M_things M_number.toNatClampNeg x2) M_realms) := hD
    refine lv_aload_n (pc := 31) hx hb dX4_append_31 rfl (lv_at hl 0 rfl) ?_
    refine g_get (pc := 32) C fg_X4_18 hP 0 rfl rfl dX4_append_32 ?_
    refine lv_aload_n (pc := 35) hx hb dX4_append_35 rfl (lv_at hl 0 rfl) ?_
    refine g_get (pc := 36) C fg_X4_21 hP 0 rfl rfl dX4_append_36 ?_
    refine lv_iload_n (pc := 39) hx hb dX4_append_39 rfl (lv_at hl 3 rfl) ?_
    obtain ⟨hg, hf⟩ := gd_some hf
    refine g_iast (pc := 40) C hP hD hS 3 rfl hg dX4_append_40 (fun H locs hP hD hS => ?_)
    have hP : va_P D classes (wl_X4_append cA a_M a_M_nights a_M_things a_M_realms M_number (upd M_nights M_number.toNatClampNeg x1) (upd M_things M_number.toNatClampNeg x2) (upd M_realms M_number.toNatClampNeg x3)) H := hP
    have hD : va_D (va_A ws0 sz) (wl_X4_append cA a_M a_M_nights a_M_things a_M_realms M_number (upd M_nights M_number.toNatClampNeg x1) (upd M_things M_number.toNatClampNeg x2) (upd M_realms M_number.toNatClampNeg x3)) := hD
    refine lv_aload_n (pc := 41) hx hb dX4_append_41 rfl (lv_at hl 0 rfl) ?_
    refine lv_dup (pc := 42) hx hb dX4_append_42 rfl ?_
    refine g_get (pc := 43) C fg_X4_21 hP 0 rfl rfl dX4_append_43 ?_
    refine lv_iconst (pc := 46) (v := 1) hx hb dX4_append_46 ic_1 ?_
    refine lv_iadd (pc := 47) hx hb dX4_append_47 ?_
    obtain ⟨v1, e_v1, hf⟩ := letv_some hf
    refine tp_i e_v1 ?_
    refine g_put (pc := 48) C fg_X4_21 ft_X4_3 hP hD hS 0 rfl rfl rfl (Nat.le_of_ble_eq_true rfl) dX4_append_48 (fun H locs hP hD hS => ?_)
    have hP : va_P D classes (wl_X4_append cA a_M a_M_nights a_M_things a_M_realms v1 (upd M_nights M_number.toNatClampNeg x1) (upd M_things M_number.toNatClampNeg x2) (upd M_realms M_number.toNatClampNeg x3)) H := hP
    have hD : va_D (va_A ws0 sz) (wl_X4_append cA a_M a_M_nights a_M_things a_M_realms v1 (upd M_nights M_number.toNatClampNeg x1) (upd M_things M_number.toNatClampNeg x2) (upd M_realms M_number.toNatClampNeg x3)) := hD
    refine lv_iconst (pc := 51) (v := 1) hx hb dX4_append_51 ic_1 ?_
    have hf := Option.some.inj hf
    subst hf
    exact ret_z C hr hlk isz_1 hP hS dX4_append_52
  · have hf := (if_neg hc).symm.trans hf
    refine lv_iconst (pc := 9) (v := 0) hx hb dX4_append_9 ic_0 ?_
    have hf := Option.some.inj hf
    subst hf
    exact ret_z C hr hlk isz_0 hP hS dX4_append_10
set_option maxRecDepth 100000 in
theorem c_X4_append (l : Launch) (D : va_G) (cA : Nat → ClassId) (a_M a_M_nights a_M_things a_M_realms : Nat) (M_number : Int32) (M_nights : Nat → Int32) (M_things : Nat → Int32) (M_realms : Nat → Int32) (x1 : Int32) (x2 : Int32) (x3 : Int32) (r : Int32 × Int32 × (Nat → Int32) × (Nat → Int32) × (Nat → Int32)) (hf : f_X4_append M_number M_nights M_things M_realms x1 x2 x3 = some r) (sz : Nat) : Met l yX4_append (Cond.code yX4_append cX4_append 4 (some .boolean) :: lw_good) rm_X4_append (PreX D cA [.ref a_M, .int x1, .int x2, .int x3] sz (wl_X4_append cA a_M a_M_nights a_M_things a_M_realms M_number M_nights M_things M_realms)) (PostI D r.1 (wl_X4_append cA a_M a_M_nights a_M_things a_M_realms M_number M_nights M_things M_realms) (wl_X4_append cA a_M a_M_nights a_M_things a_M_realms (r.2.1) (r.2.2.1) (r.2.2.2.1) (r.2.2.2.2)) sz) 0 0 (va_A (wl_X4_append cA a_M a_M_nights a_M_things a_M_realms M_number M_nights M_things M_realms) sz) :=
  met_of (by decide) (Nat.le_of_ble_eq_true rfl) (fun p e s m args below meth c C hr hlk hA => k_X4_append C hr hlk hA a_M a_M_nights a_M_things a_M_realms M_number M_nights M_things M_realms x1 x2 x3 r hf)
end

abbrev wl_J7_fill_53178 (cA : Nat → ClassId) (a_FI : Nat) (nF : Nat) (FI : Nat → Int32) : va_W := [(a_FI, .inl (cA 0, nF, .inl FI))]
abbrev rm_J7_fill_53178 : Room := { frames := 0, cells := 0, slots := 0, locals := 0 }
section
variable {p : Program} {l : Launch} {e : Env} {s : State} {m : MethodId} {args : Array Value} {below : List Frame} {meth : Method} {c : Code} {D : va_G} {cA : Nat → ClassId} {ws0 : va_W} {sz : Nat} {A : Nat → Prop} {Q : State → Prop}
def f_J7_fill_53178_L5 (nF : Nat) (x1 : Int32) (x3 : Int32) (x2 : Int32) (FI : Nat → Int32) : Option ((Int32 × (Nat → Int32)) ⊕ ((Nat → Int32))) :=
  if x3 ≤ x2 then (some (.inr FI)) else (gd (inb x2 nF) (some (.inl ((x2 + 1), (upd FI x2.toNatClampNeg x1)))))
set_option maxHeartbeats 4000000 in
set_option maxRecDepth 100000 in
theorem k_J7_fill_53178_L5 (C : Cx RJ7 cJ7_fill_53178 4 D cA p s m args c) (hA : ∀ q, s.heap.size ≤ q → A q) (a_FI : Nat) (nF : Nat) (x1 : Int32) (x3 : Int32) (x2 : Int32) (FI : Nat → Int32) (r : (Int32 × (Nat → Int32)) ⊕ ((Nat → Int32))) (hf : f_J7_fill_53178_L5 nF x1 x3 x2 FI = some r) (hK : Sum.elim (fun q : Int32 × (Nat → Int32) => At p l e rm_J7_fill_53178 s m args below meth c D A 0 0 Q 4 5 (wl_J7_fill_53178 cA a_FI nF (q.2)) [(0, .ref a_FI), (1, .int x1), (2, .int (q.1)), (3, .int x3)] []) (fun q : (Nat → Int32) => At p l e rm_J7_fill_53178 s m args below meth c D A 0 0 Q 4 20 (wl_J7_fill_53178 cA a_FI nF q) [] []) r) : At p l e rm_J7_fill_53178 s m args below meth c D A 0 0 Q 4 5 (wl_J7_fill_53178 cA a_FI nF FI) [(0, .ref a_FI), (1, .int x1), (2, .int x2), (3, .int x3)] [] := by
  intro H locs ls hP hD hS hl
  have hx := C.1
  have hb := C.2.1
  have hown := C.2.2.2.1
  have hts := C.2.2.2.2.1
  unfold f_J7_fill_53178_L5 at hf
  refine lv_iload_n (pc := 5) hx hb dJ7_fill_53178_5 rfl (lv_at hl 2 rfl) ?_
  refine lv_iload_n (pc := 6) hx hb dJ7_fill_53178_6 rfl (lv_at hl 3 rfl) ?_
  refine lv_icmp_ge (pc := 7) (tgt := 20) hx hb dJ7_fill_53178_7 (by decide) (fun hc => ?_) (fun hc => ?_)
  · have hf := (if_pos hc).symm.trans hf
    have hf := Option.some.inj hf
    subst hf
    exact hK H locs ls hP hD hS (lv_sub hl [] rfl)
  · have hf := (if_neg hc).symm.trans hf
    refine lv_aload_n (pc := 10) hx hb dJ7_fill_53178_10 rfl (lv_at hl 0 rfl) ?_
    refine lv_iload_n (pc := 11) hx hb dJ7_fill_53178_11 rfl (lv_at hl 2 rfl) ?_
    refine lv_iload_n (pc := 12) hx hb dJ7_fill_53178_12 rfl (lv_at hl 1 rfl) ?_
    obtain ⟨hg, hf⟩ := gd_some hf
    refine g_iast (pc := 13) C hP hD hS 0 rfl hg dJ7_fill_53178_13 (fun H locs hP hD hS => ?_)
    have hP : va_P D classes (wl_J7_fill_53178 cA a_FI nF (upd FI x2.toNatClampNeg x1)) H := hP
    have hD : va_D A (wl_J7_fill_53178 cA a_FI nF (upd FI x2.toNatClampNeg x1)) := hD
    refine lv_iinc (pc := 14) (v := (x2 + 1)) (lv' := [(2, .int (x2 + 1)), (0, .ref a_FI), (1, .int x1), (3, .int x3)]) hx hb dJ7_fill_53178_14 hl (k := 2) rfl rfl (Nat.le_of_ble_eq_true rfl) rfl (fun ls hl => ?_)
    refine lv_goto (pc := 17) (tgt := 5) hx hb dJ7_fill_53178_17 (by decide) ?_
    have hf := Option.some.inj hf
    subst hf
    exact hK H locs ls hP hD hS (lv_sub hl [1, 2, 0, 3] rfl)
theorem kl_J7_fill_53178_L5 (C : Cx RJ7 cJ7_fill_53178 4 D cA p s m args c) (hA : ∀ q, s.heap.size ≤ q → A q) (a_FI : Nat) (nF : Nat) (x1 : Int32) (x3 : Int32) : ∀ (n : Nat) (q : Int32 × (Nat → Int32)) (z : ((Nat → Int32))), loopF (fun q : Int32 × (Nat → Int32) => f_J7_fill_53178_L5 nF x1 x3 q.1 q.2) n q = some z → (fun q : (Nat → Int32) => At p l e rm_J7_fill_53178 s m args below meth c D A 0 0 Q 4 20 (wl_J7_fill_53178 cA a_FI nF q) [] []) z → At p l e rm_J7_fill_53178 s m args below meth c D A 0 0 Q 4 5 (wl_J7_fill_53178 cA a_FI nF (q.2)) [(0, .ref a_FI), (1, .int x1), (2, .int (q.1)), (3, .int x3)] [] :=
  loop_lem (WP := fun q : Int32 × (Nat → Int32) => At p l e rm_J7_fill_53178 s m args below meth c D A 0 0 Q 4 5 (wl_J7_fill_53178 cA a_FI nF (q.2)) [(0, .ref a_FI), (1, .int x1), (2, .int (q.1)), (3, .int x3)] []) (WE := (fun q : (Nat → Int32) => At p l e rm_J7_fill_53178 s m args below meth c D A 0 0 Q 4 20 (wl_J7_fill_53178 cA a_FI nF q) [] [])) (fun q r hf hK => k_J7_fill_53178_L5 C hA a_FI nF x1 x3 q.1 q.2 r hf hK)
def f_J7_fill_53178 (nF : Nat) (FI : Nat → Int32) (x1 : Int32) : Option ((Nat → Int32)) :=
  letv ((Int32.ofNat nF)) (fun v1 => bind1 (loopF (fun q : Int32 × (Nat → Int32) => f_J7_fill_53178_L5 nF x1 v1 q.1 q.2) FU ((0 : Int32), FI)) (fun u2 => some u2))
set_option maxHeartbeats 4000000 in
set_option maxRecDepth 100000 in
theorem k_J7_fill_53178 (C : Cx RJ7 cJ7_fill_53178 4 D cA p s m args c) (hr : meth.sig.returnType = none) (hlk : meth.locks = false) (hA : ∀ q, s.heap.size ≤ q → va_A ws0 sz q) (a_FI : Nat) (nF : Nat) (FI : Nat → Int32) (x1 : Int32) (r : (Nat → Int32)) (hf : f_J7_fill_53178 nF FI x1 = some r) : At p l e rm_J7_fill_53178 s m args below meth c D (va_A ws0 sz) 0 0 (MQ below (PostV D ws0 (wl_J7_fill_53178 cA a_FI nF r) sz) args s 0 0 (va_A ws0 sz)) 4 0 (wl_J7_fill_53178 cA a_FI nF FI) [(0, .ref a_FI), (1, .int x1)] [] := by
  intro H locs ls hP hD hS hl
  have hx := C.1
  have hb := C.2.1
  have hown := C.2.2.2.1
  have hts := C.2.2.2.2.1
  unfold f_J7_fill_53178 at hf
  refine lv_iconst (pc := 0) (v := 0) hx hb dJ7_fill_53178_0 ic_0 ?_
  refine lv_istore_n (pc := 1) (lv' := [(2, .int (0 : Int32)), (0, .ref a_FI), (1, .int x1)]) hx hb dJ7_fill_53178_1 rfl hl (Nat.le_of_ble_eq_true rfl) rfl (fun ls hl => ?_)
  refine lv_aload_n (pc := 2) hx hb dJ7_fill_53178_2 rfl (lv_at hl 1 rfl) ?_
  refine g_alen (pc := 3)  C hP 0 rfl (t0 := 0) rfl rfl dJ7_fill_53178_3 ?_
  obtain ⟨v1, e_v1, hf⟩ := letv_some hf
  refine tp_i e_v1 ?_
  refine lv_istore_n (pc := 4) (lv' := [(3, .int v1), (2, .int (0 : Int32)), (0, .ref a_FI), (1, .int x1)]) hx hb dJ7_fill_53178_4 rfl hl (Nat.le_of_ble_eq_true rfl) rfl (fun ls hl => ?_)
  obtain ⟨u2, hq, hf⟩ := bind1_some hf
  refine kl_J7_fill_53178_L5 C hA a_FI nF x1 v1 FU ((0 : Int32), FI) _ hq ?_ H locs ls hP hD hS (lv_sub hl [2, 3, 1, 0] rfl)
  intro H locs ls hP hD hS hl
  have hP : va_P D classes (wl_J7_fill_53178 cA a_FI nF u2) H := hP
  have hD : va_D (va_A ws0 sz) (wl_J7_fill_53178 cA a_FI nF u2) := hD
  have hl : lv_has ls 4 [] := hl
  have hf := Option.some.inj hf
  subst hf
  exact ret_v C hr hlk hP hS dJ7_fill_53178_20
set_option maxRecDepth 100000 in
theorem c_J7_fill_53178 (l : Launch) (D : va_G) (cA : Nat → ClassId) (a_FI : Nat) (nF : Nat) (FI : Nat → Int32) (x1 : Int32) (r : (Nat → Int32)) (hf : f_J7_fill_53178 nF FI x1 = some r) (sz : Nat) : Met l yJ7_fill_53178 (Cond.code yJ7_fill_53178 cJ7_fill_53178 4 none :: lw_good) rm_J7_fill_53178 (PreX D cA [.ref a_FI, .int x1] sz (wl_J7_fill_53178 cA a_FI nF FI)) (PostV D (wl_J7_fill_53178 cA a_FI nF FI) (wl_J7_fill_53178 cA a_FI nF r) sz) 0 0 (va_A (wl_J7_fill_53178 cA a_FI nF FI) sz) :=
  met_of (by decide) (Nat.le_of_ble_eq_true rfl) (fun p e s m args below meth c C hr hlk hA => k_J7_fill_53178 C hr hlk hA a_FI nF FI x1 r hf)
end

abbrev wl_X5_begin (cA : Nat → ClassId) (a_S a_S_items : Nat) (S_lost : Int32) (S_form : Int32) (S_size : Int32) (S_items : Nat → Int32) : va_W := [(a_S, .inr (5, [.ref a_S_items, .int S_lost, .int S_form, .int S_size])), (a_S_items, .inl (cA 0, 60, .inl S_items))]
abbrev rm_X5_begin : Room := { frames := 1, cells := 0, slots := 0, locals := 23 }
section
variable {p : Program} {l : Launch} {e : Env} {s : State} {m : MethodId} {args : Array Value} {below : List Frame} {meth : Method} {c : Code} {D : va_G} {cA : Nat → ClassId} {ws0 : va_W} {sz : Nat} {A : Nat → Prop} {Q : State → Prop}
def f_X5_begin (S_lost : Int32) (S_form : Int32) (S_size : Int32) (S_items : Nat → Int32) (x1 : Int32) (x2 : Int32) : Option (Int32 × Int32 × Int32 × (Nat → Int32)) :=
  bind1 (f_J7_fill_53178 60 S_items (0 : Int32)) (fun c1 => some ((0 : Int32), x1, x2, c1))
set_option maxHeartbeats 4000000 in
set_option maxRecDepth 100000 in
theorem k_X5_begin (C : Cx RX5 cX5_begin 3 D cA p s m args c) (hr : meth.sig.returnType = none) (hlk : meth.locks = false) (hA : ∀ q, s.heap.size ≤ q → va_A ws0 sz q) (a_S a_S_items : Nat) (S_lost : Int32) (S_form : Int32) (S_size : Int32) (S_items : Nat → Int32) (x1 : Int32) (x2 : Int32) (r : Int32 × Int32 × Int32 × (Nat → Int32)) (hf : f_X5_begin S_lost S_form S_size S_items x1 x2 = some r) : At p l e rm_X5_begin s m args below meth c D (va_A ws0 sz) 0 0 (MQ below (PostV D ws0 (wl_X5_begin cA a_S a_S_items (r.1) (r.2.1) (r.2.2.1) (r.2.2.2)) sz) args s 0 0 (va_A ws0 sz)) 3 0 (wl_X5_begin cA a_S a_S_items S_lost S_form S_size S_items) [(0, .ref a_S), (1, .int x1), (2, .int x2)] [] := by
  intro H locs ls hP hD hS hl
  have hx := C.1
  have hb := C.2.1
  have hown := C.2.2.2.1
  have hts := C.2.2.2.2.1
  unfold f_X5_begin at hf
  refine lv_aload_n (pc := 0) hx hb dX5_begin_0 rfl (lv_at hl 0 rfl) ?_
  refine lv_iconst (pc := 1) (v := 0) hx hb dX5_begin_1 ic_0 ?_
  refine g_put (pc := 2) C fg_X5_15 ft_X5_1 hP hD hS 0 rfl (by decide) rfl (Nat.le_of_ble_eq_true rfl) dX5_begin_2 (fun H locs hP hD hS => ?_)
  have hP : va_P D classes (wl_X5_begin cA a_S a_S_items (0 : Int32) S_form S_size S_items) H := hP
  have hD : va_D (va_A ws0 sz) (wl_X5_begin cA a_S a_S_items (0 : Int32) S_form S_size S_items) := hD
  refine lv_aload_n (pc := 5) hx hb dX5_begin_5 rfl (lv_at hl 0 rfl) ?_
  refine lv_iload_n (pc := 6) hx hb dX5_begin_6 rfl (lv_at hl 1 rfl) ?_
  refine g_put (pc := 7) C fg_X5_19 ft_X5_2 hP hD hS 0 rfl rfl rfl (Nat.le_of_ble_eq_true rfl) dX5_begin_7 (fun H locs hP hD hS => ?_)
  have hP : va_P D classes (wl_X5_begin cA a_S a_S_items (0 : Int32) x1 S_size S_items) H := hP
  have hD : va_D (va_A ws0 sz) (wl_X5_begin cA a_S a_S_items (0 : Int32) x1 S_size S_items) := hD
  refine lv_aload_n (pc := 10) hx hb dX5_begin_10 rfl (lv_at hl 0 rfl) ?_
  refine lv_iload_n (pc := 11) hx hb dX5_begin_11 rfl (lv_at hl 2 rfl) ?_
  refine g_put (pc := 12) C fg_X5_23 ft_X5_3 hP hD hS 0 rfl rfl rfl (Nat.le_of_ble_eq_true rfl) dX5_begin_12 (fun H locs hP hD hS => ?_)
  have hP : va_P D classes (wl_X5_begin cA a_S a_S_items (0 : Int32) x1 x2 S_items) H := hP
  have hD : va_D (va_A ws0 sz) (wl_X5_begin cA a_S a_S_items (0 : Int32) x1 x2 S_items) := hD
  refine lv_aload_n (pc := 15) hx hb dX5_begin_15 rfl (lv_at hl 0 rfl) ?_
  refine g_get (pc := 16) C fg_X5_9 hP 0 rfl rfl dX5_begin_16 ?_
  refine lv_iconst (pc := 19) (v := 0) hx hb dX5_begin_19 ic_0 ?_
  obtain ⟨c1, hq, hf⟩ := bind1_some hf
  refine fin2_v (wl_X5_begin cA a_S a_S_items (0 : Int32) x1 x2 c1) (run_S (rest := []) (pc := 20) (As := [.ref a_S_items, .int (0 : Int32)]) C mf_X5_26 (c_J7_fill_53178 l D cA a_S_items 60 S_items (0 : Int32) c1 hq H.size) rfl rfl ⟨(Nat.le_of_ble_eq_true rfl), (Nat.le_of_ble_eq_true rfl)⟩ (preS_of C hP hD [1] rfl (pl_nd pv_8)) rfl hl.1 rfl (Nat.le_of_ble_eq_true rfl) dX5_begin_20 ⟨Nat.zero_le _, Nat.zero_le _⟩) hP hD hS hA [1] [0] rfl rfl rfl rfl pv_8 (fun H locs hP hS => ?_)
  have hD : va_D (va_A ws0 sz) (wl_X5_begin cA a_S a_S_items (0 : Int32) x1 x2 c1) := vd_a hD rfl
  have hf := Option.some.inj hf
  subst hf
  exact ret_v C hr hlk hP hS dX5_begin_23
set_option maxRecDepth 100000 in
theorem c_X5_begin (l : Launch) (D : va_G) (cA : Nat → ClassId) (a_S a_S_items : Nat) (S_lost : Int32) (S_form : Int32) (S_size : Int32) (S_items : Nat → Int32) (x1 : Int32) (x2 : Int32) (r : Int32 × Int32 × Int32 × (Nat → Int32)) (hf : f_X5_begin S_lost S_form S_size S_items x1 x2 = some r) (sz : Nat) : Met l yX5_begin (Cond.code yX5_begin cX5_begin 3 none :: lw_good) rm_X5_begin (PreX D cA [.ref a_S, .int x1, .int x2] sz (wl_X5_begin cA a_S a_S_items S_lost S_form S_size S_items)) (PostV D (wl_X5_begin cA a_S a_S_items S_lost S_form S_size S_items) (wl_X5_begin cA a_S a_S_items (r.1) (r.2.1) (r.2.2.1) (r.2.2.2)) sz) 0 0 (va_A (wl_X5_begin cA a_S a_S_items S_lost S_form S_size S_items) sz) :=
  met_of (by decide) (Nat.le_of_ble_eq_true rfl) (fun p e s m args below meth c C hr hlk hA => k_X5_begin C hr hlk hA a_S a_S_items S_lost S_form S_size S_items x1 x2 r hf)
end

abbrev wl_X5_wrongWith (cA : Nat → ClassId) (a_S a_S_items : Nat) (S_lost : Int32) (S_form : Int32) (S_size : Int32) : va_W := [(a_S, .inr (5, [.ref a_S_items, .int S_lost, .int S_form, .int S_size]))]
abbrev rm_X5_wrongWith : Room := { frames := 0, cells := 0, slots := 0, locals := 0 }
section
variable {p : Program} {l : Launch} {e : Env} {s : State} {m : MethodId} {args : Array Value} {below : List Frame} {meth : Method} {c : Code} {D : va_G} {cA : Nat → ClassId} {ws0 : va_W} {sz : Nat} {A : Nat → Prop} {Q : State → Prop}
def f_X5_wrongWith_b31 (S_lost : Int32) (S_form : Int32) (S_size : Int32) : Option (Int32) :=
  some (2 : Int32)
set_option maxHeartbeats 4000000 in
set_option maxRecDepth 100000 in
theorem k_X5_wrongWith_b31 (C : Cx RX5 cX5_wrongWith 3 D cA p s m args c) (hr : meth.sig.returnType = (some .int)) (hlk : meth.locks = false) (hA : ∀ q, s.heap.size ≤ q → va_A ws0 sz q) (a_S a_S_items : Nat) (S_lost : Int32) (S_form : Int32) (S_size : Int32) (r : Int32) (hf : f_X5_wrongWith_b31 S_lost S_form S_size = some r) : At p l e rm_X5_wrongWith s m args below meth c D (va_A ws0 sz) 0 0 (MQ below (PostI D r ws0 (wl_X5_wrongWith cA a_S a_S_items S_lost S_form S_size) sz) args s 0 0 (va_A ws0 sz)) 3 31 (wl_X5_wrongWith cA a_S a_S_items S_lost S_form S_size) [] [] := by
  intro H locs ls hP hD hS hl
  have hx := C.1
  have hb := C.2.1
  have hown := C.2.2.2.1
  have hts := C.2.2.2.2.1
  unfold f_X5_wrongWith_b31 at hf
  refine lv_iconst (pc := 31) (v := 2) hx hb dX5_wrongWith_31 ic_2 ?_
  refine lv_goto (pc := 32) (tgt := 36) hx hb dX5_wrongWith_32 (by decide) ?_
  have hf := Option.some.inj hf
  subst hf
  exact ret_i C hr hlk hP hS dX5_wrongWith_36
def f_X5_wrongWith (S_lost : Int32) (S_form : Int32) (S_size : Int32) (x1 : Int32) (x2 : Int32) : Option (Int32) :=
  if S_lost = 0 then (if S_form = x1 then (if x2 < 0 then (f_X5_wrongWith_b31 S_lost S_form S_size) else (if x2 < S_size then (some (0 : Int32)) else (f_X5_wrongWith_b31 S_lost S_form S_size))) else (some (3 : Int32))) else (some (1 : Int32))
set_option maxHeartbeats 4000000 in
set_option maxRecDepth 100000 in
theorem k_X5_wrongWith (C : Cx RX5 cX5_wrongWith 3 D cA p s m args c) (hr : meth.sig.returnType = (some .int)) (hlk : meth.locks = false) (hA : ∀ q, s.heap.size ≤ q → va_A ws0 sz q) (a_S a_S_items : Nat) (S_lost : Int32) (S_form : Int32) (S_size : Int32) (x1 : Int32) (x2 : Int32) (r : Int32) (hf : f_X5_wrongWith S_lost S_form S_size x1 x2 = some r) : At p l e rm_X5_wrongWith s m args below meth c D (va_A ws0 sz) 0 0 (MQ below (PostI D r ws0 (wl_X5_wrongWith cA a_S a_S_items S_lost S_form S_size) sz) args s 0 0 (va_A ws0 sz)) 3 0 (wl_X5_wrongWith cA a_S a_S_items S_lost S_form S_size) [(0, .ref a_S), (1, .int x1), (2, .int x2)] [] := by
  intro H locs ls hP hD hS hl
  have hx := C.1
  have hb := C.2.1
  have hown := C.2.2.2.1
  have hts := C.2.2.2.2.1
  unfold f_X5_wrongWith at hf
  refine lv_aload_n (pc := 0) hx hb dX5_wrongWith_0 rfl (lv_at hl 0 rfl) ?_
  refine g_get (pc := 1) C fg_X5_15 hP 0 rfl rfl dX5_wrongWith_1 ?_
  refine lv_if_eq (pc := 4) (tgt := 9) hx hb dX5_wrongWith_4 (by decide) (fun hc => ?_) (fun hc => ?_)
  · have hf := (if_pos hc).symm.trans hf
    refine lv_aload_n (pc := 9) hx hb dX5_wrongWith_9 rfl (lv_at hl 0 rfl) ?_
    refine g_get (pc := 10) C fg_X5_19 hP 0 rfl rfl dX5_wrongWith_10 ?_
    refine lv_iload_n (pc := 13) hx hb dX5_wrongWith_13 rfl (lv_at hl 1 rfl) ?_
    refine lv_icmp_eq (pc := 14) (tgt := 19) hx hb dX5_wrongWith_14 (by decide) (fun hc => ?_) (fun hc => ?_)
    · have hf := (if_pos hc).symm.trans hf
      refine lv_iload_n (pc := 19) hx hb dX5_wrongWith_19 rfl (lv_at hl 2 rfl) ?_
      refine lv_if_lt (pc := 20) (tgt := 31) hx hb dX5_wrongWith_20 (by decide) (fun hc => ?_) (fun hc => ?_)
      · have hf := (if_pos hc).symm.trans hf
        exact k_X5_wrongWith_b31 C hr hlk hA a_S a_S_items S_lost S_form S_size r hf H locs ls hP hD hS (lv_sub hl [] rfl)
      · have hf := (if_neg hc).symm.trans hf
        refine lv_iload_n (pc := 23) hx hb dX5_wrongWith_23 rfl (lv_at hl 2 rfl) ?_
        refine lv_aload_n (pc := 24) hx hb dX5_wrongWith_24 rfl (lv_at hl 0 rfl) ?_
        refine g_get (pc := 25) C fg_X5_23 hP 0 rfl rfl dX5_wrongWith_25 ?_
        refine lv_icmp_lt (pc := 28) (tgt := 35) hx hb dX5_wrongWith_28 (by decide) (fun hc => ?_) (fun hc => ?_)
        · have hf := (if_pos hc).symm.trans hf
          refine lv_iconst (pc := 35) (v := 0) hx hb dX5_wrongWith_35 ic_0 ?_
          have hf := Option.some.inj hf
          subst hf
          exact ret_i C hr hlk hP hS dX5_wrongWith_36
        · have hf := (if_neg hc).symm.trans hf
          exact k_X5_wrongWith_b31 C hr hlk hA a_S a_S_items S_lost S_form S_size r hf H locs ls hP hD hS (lv_sub hl [] rfl)
    · have hf := (if_neg hc).symm.trans hf
      refine lv_iconst (pc := 17) (v := 3) hx hb dX5_wrongWith_17 ic_3 ?_
      have hf := Option.some.inj hf
      subst hf
      exact ret_i C hr hlk hP hS dX5_wrongWith_18
  · have hf := (if_neg hc).symm.trans hf
    refine lv_iconst (pc := 7) (v := 1) hx hb dX5_wrongWith_7 ic_1 ?_
    have hf := Option.some.inj hf
    subst hf
    exact ret_i C hr hlk hP hS dX5_wrongWith_8
set_option maxRecDepth 100000 in
theorem c_X5_wrongWith (l : Launch) (D : va_G) (cA : Nat → ClassId) (a_S a_S_items : Nat) (S_lost : Int32) (S_form : Int32) (S_size : Int32) (x1 : Int32) (x2 : Int32) (r : Int32) (hf : f_X5_wrongWith S_lost S_form S_size x1 x2 = some r) (sz : Nat) : Met l yX5_wrongWith (Cond.code yX5_wrongWith cX5_wrongWith 3 (some .int) :: lw_good) rm_X5_wrongWith (PreX D cA [.ref a_S, .int x1, .int x2] sz (wl_X5_wrongWith cA a_S a_S_items S_lost S_form S_size)) (PostI D r (wl_X5_wrongWith cA a_S a_S_items S_lost S_form S_size) (wl_X5_wrongWith cA a_S a_S_items S_lost S_form S_size) sz) 0 0 (va_A (wl_X5_wrongWith cA a_S a_S_items S_lost S_form S_size) sz) :=
  met_of (by decide) (Nat.le_of_ble_eq_true rfl) (fun p e s m args below meth c C hr hlk hA => k_X5_wrongWith C hr hlk hA a_S a_S_items S_lost S_form S_size x1 x2 r hf)
end

abbrev wl_X5_hasItems (cA : Nat → ClassId) (a_S a_S_items : Nat) (S_lost : Int32) (S_form : Int32) (S_size : Int32) : va_W := [(a_S, .inr (5, [.ref a_S_items, .int S_lost, .int S_form, .int S_size]))]
abbrev rm_X5_hasItems : Room := { frames := 0, cells := 0, slots := 0, locals := 0 }
section
variable {p : Program} {l : Launch} {e : Env} {s : State} {m : MethodId} {args : Array Value} {below : List Frame} {meth : Method} {c : Code} {D : va_G} {cA : Nat → ClassId} {ws0 : va_W} {sz : Nat} {A : Nat → Prop} {Q : State → Prop}
def f_X5_hasItems (S_size : Int32) (x1 : Int32) (x2 : Int32) : Option (Int32) :=
  if x1 < 0 then (some (0 : Int32)) else (if x2 < 0 then (some (0 : Int32)) else (if S_size < x2 then (some (0 : Int32)) else (if (S_size - x2) < x1 then (some (0 : Int32)) else (some (1 : Int32)))))
set_option maxHeartbeats 4000000 in
set_option maxRecDepth 100000 in
theorem k_X5_hasItems (C : Cx RX5 cX5_hasItems 3 D cA p s m args c) (hr : meth.sig.returnType = (some .boolean)) (hlk : meth.locks = false) (hA : ∀ q, s.heap.size ≤ q → va_A ws0 sz q) (a_S a_S_items : Nat) (S_lost : Int32) (S_form : Int32) (S_size : Int32) (x1 : Int32) (x2 : Int32) (r : Int32) (hf : f_X5_hasItems S_size x1 x2 = some r) : At p l e rm_X5_hasItems s m args below meth c D (va_A ws0 sz) 0 0 (MQ below (PostI D r ws0 (wl_X5_hasItems cA a_S a_S_items S_lost S_form S_size) sz) args s 0 0 (va_A ws0 sz)) 3 0 (wl_X5_hasItems cA a_S a_S_items S_lost S_form S_size) [(0, .ref a_S), (1, .int x1), (2, .int x2)] [] := by
  intro H locs ls hP hD hS hl
  have hx := C.1
  have hb := C.2.1
  have hown := C.2.2.2.1
  have hts := C.2.2.2.2.1
  unfold f_X5_hasItems at hf
  refine lv_iload_n (pc := 0) hx hb dX5_hasItems_0 rfl (lv_at hl 1 rfl) ?_
  refine lv_if_lt (pc := 1) (tgt := 30) hx hb dX5_hasItems_1 (by decide) (fun hc => ?_) (fun hc => ?_)
  · have hf := (if_pos hc).symm.trans hf
    refine lv_iconst (pc := 30) (v := 0) hx hb dX5_hasItems_30 ic_0 ?_
    have hf := Option.some.inj hf
    subst hf
    exact ret_z C hr hlk isz_0 hP hS dX5_hasItems_31
  · have hf := (if_neg hc).symm.trans hf
    refine lv_iload_n (pc := 4) hx hb dX5_hasItems_4 rfl (lv_at hl 2 rfl) ?_
    refine lv_if_lt (pc := 5) (tgt := 30) hx hb dX5_hasItems_5 (by decide) (fun hc => ?_) (fun hc => ?_)
    · have hf := (if_pos hc).symm.trans hf
      refine lv_iconst (pc := 30) (v := 0) hx hb dX5_hasItems_30 ic_0 ?_
      have hf := Option.some.inj hf
      subst hf
      exact ret_z C hr hlk isz_0 hP hS dX5_hasItems_31
    · have hf := (if_neg hc).symm.trans hf
      refine lv_iload_n (pc := 8) hx hb dX5_hasItems_8 rfl (lv_at hl 2 rfl) ?_
      refine lv_aload_n (pc := 9) hx hb dX5_hasItems_9 rfl (lv_at hl 0 rfl) ?_
      refine g_get (pc := 10) C fg_X5_23 hP 0 rfl rfl dX5_hasItems_10 ?_
      refine lv_icmp_gt (pc := 13) (tgt := 30) hx hb dX5_hasItems_13 (by decide) (fun hc => ?_) (fun hc => ?_)
      · have hf := (if_pos hc).symm.trans hf
        refine lv_iconst (pc := 30) (v := 0) hx hb dX5_hasItems_30 ic_0 ?_
        have hf := Option.some.inj hf
        subst hf
        exact ret_z C hr hlk isz_0 hP hS dX5_hasItems_31
      · have hf := (if_neg hc).symm.trans hf
        refine lv_iload_n (pc := 16) hx hb dX5_hasItems_16 rfl (lv_at hl 1 rfl) ?_
        refine lv_aload_n (pc := 17) hx hb dX5_hasItems_17 rfl (lv_at hl 0 rfl) ?_
        refine g_get (pc := 18) C fg_X5_23 hP 0 rfl rfl dX5_hasItems_18 ?_
        refine lv_iload_n (pc := 21) hx hb dX5_hasItems_21 rfl (lv_at hl 2 rfl) ?_
        refine lv_isub (pc := 22) hx hb dX5_hasItems_22 ?_
        refine lv_icmp_gt (pc := 23) (tgt := 30) hx hb dX5_hasItems_23 (by decide) (fun hc => ?_) (fun hc => ?_)
        · have hf := (if_pos hc).symm.trans hf
          refine lv_iconst (pc := 30) (v := 0) hx hb dX5_hasItems_30 ic_0 ?_
          have hf := Option.some.inj hf
          subst hf
          exact ret_z C hr hlk isz_0 hP hS dX5_hasItems_31
        · have hf := (if_neg hc).symm.trans hf
          refine lv_iconst (pc := 26) (v := 1) hx hb dX5_hasItems_26 ic_1 ?_
          refine lv_goto (pc := 27) (tgt := 31) hx hb dX5_hasItems_27 (by decide) ?_
          have hf := Option.some.inj hf
          subst hf
          exact ret_z C hr hlk isz_1 hP hS dX5_hasItems_31
set_option maxRecDepth 100000 in
theorem c_X5_hasItems (l : Launch) (D : va_G) (cA : Nat → ClassId) (a_S a_S_items : Nat) (S_lost : Int32) (S_form : Int32) (S_size : Int32) (x1 : Int32) (x2 : Int32) (r : Int32) (hf : f_X5_hasItems S_size x1 x2 = some r) (sz : Nat) : Met l yX5_hasItems (Cond.code yX5_hasItems cX5_hasItems 3 (some .boolean) :: lw_good) rm_X5_hasItems (PreX D cA [.ref a_S, .int x1, .int x2] sz (wl_X5_hasItems cA a_S a_S_items S_lost S_form S_size)) (PostI D r (wl_X5_hasItems cA a_S a_S_items S_lost S_form S_size) (wl_X5_hasItems cA a_S a_S_items S_lost S_form S_size) sz) 0 0 (va_A (wl_X5_hasItems cA a_S a_S_items S_lost S_form S_size) sz) :=
  met_of (by decide) (Nat.le_of_ble_eq_true rfl) (fun p e s m args below meth c C hr hlk hA => k_X5_hasItems C hr hlk hA a_S a_S_items S_lost S_form S_size x1 x2 r hf)
end

abbrev wl_X5_keep (cA : Nat → ClassId) (a_S a_S_items : Nat) (S_lost : Int32) (S_form : Int32) (S_size : Int32) (S_items : Nat → Int32) : va_W := [(a_S, .inr (5, [.ref a_S_items, .int S_lost, .int S_form, .int S_size])), (a_S_items, .inl (cA 0, 60, .inl S_items))]
abbrev rm_X5_keep : Room := { frames := 0, cells := 0, slots := 0, locals := 0 }
section
variable {p : Program} {l : Launch} {e : Env} {s : State} {m : MethodId} {args : Array Value} {below : List Frame} {meth : Method} {c : Code} {D : va_G} {cA : Nat → ClassId} {ws0 : va_W} {sz : Nat} {A : Nat → Prop} {Q : State → Prop}
def f_X5_keep (S_form : Int32) (S_items : Nat → Int32) (x1 : Int32) (x2 : Int32) : Option ((Nat → Int32)) :=
  if S_form = 0 then (letv ((x2.toInt8.toInt32)) (fun v2 => gd (inb x1 60) (some (upd S_items x1.toNatClampNeg v2)))) else (if S_form = (1 : Int32) then (letv ((x2.toInt16.toInt32)) (fun v1 => gd (inb x1 60) (some (upd S_items x1.toNatClampNeg v1)))) else (gd (inb x1 60) (some (upd S_items x1.toNatClampNeg x2))))
set_option maxHeartbeats 4000000 in
set_option maxRecDepth 100000 in
theorem k_X5_keep (C : Cx RX5 cX5_keep 3 D cA p s m args c) (hr : meth.sig.returnType = none) (hlk : meth.locks = false) (hA : ∀ q, s.heap.size ≤ q → va_A ws0 sz q) (a_S a_S_items : Nat) (S_lost : Int32) (S_form : Int32) (S_size : Int32) (S_items : Nat → Int32) (x1 : Int32) (x2 : Int32) (r : (Nat → Int32)) (hf : f_X5_keep S_form S_items x1 x2 = some r) : At p l e rm_X5_keep s m args below meth c D (va_A ws0 sz) 0 0 (MQ below (PostV D ws0 (wl_X5_keep cA a_S a_S_items S_lost S_form S_size r) sz) args s 0 0 (va_A ws0 sz)) 3 0 (wl_X5_keep cA a_S a_S_items S_lost S_form S_size S_items) [(0, .ref a_S), (1, .int x1), (2, .int x2)] [] := by
  intro H locs ls hP hD hS hl
  have hx := C.1
  have hb := C.2.1
  have hown := C.2.2.2.1
  have hts := C.2.2.2.2.1
  unfold f_X5_keep at hf
  refine lv_aload_n (pc := 0) hx hb dX5_keep_0 rfl (lv_at hl 0 rfl) ?_
  refine g_get (pc := 1) C fg_X5_19 hP 0 rfl rfl dX5_keep_1 ?_
  refine lv_if_ne (pc := 4) (tgt := 18) hx hb dX5_keep_4 (by decide) (fun hc => ?_) (fun hc => ?_)
  · have hf := (if_neg hc).symm.trans hf
    refine lv_aload_n (pc := 18) hx hb dX5_keep_18 rfl (lv_at hl 0 rfl) ?_
    refine g_get (pc := 19) C fg_X5_19 hP 0 rfl rfl dX5_keep_19 ?_
    refine lv_iconst (pc := 22) (v := 1) hx hb dX5_keep_22 ic_1 ?_
    refine lv_icmp_ne (pc := 23) (tgt := 37) hx hb dX5_keep_23 (by decide) (fun hc => ?_) (fun hc => ?_)
    · have hf := (if_neg hc).symm.trans hf
      refine lv_aload_n (pc := 37) hx hb dX5_keep_37 rfl (lv_at hl 0 rfl) ?_
      refine g_get (pc := 38) C fg_X5_9 hP 0 rfl rfl dX5_keep_38 ?_
      refine lv_iload_n (pc := 41) hx hb dX5_keep_41 rfl (lv_at hl 1 rfl) ?_
      refine lv_iload_n (pc := 42) hx hb dX5_keep_42 rfl (lv_at hl 2 rfl) ?_
      obtain ⟨hg, hf⟩ := gd_some hf
      refine g_iast (pc := 43) C hP hD hS 1 rfl hg dX5_keep_43 (fun H locs hP hD hS => ?_)
      have hP : va_P D classes (wl_X5_keep cA a_S a_S_items S_lost S_form S_size (upd S_items x1.toNatClampNeg x2)) H := hP
      have hD : va_D (va_A ws0 sz) (wl_X5_keep cA a_S a_S_items S_lost S_form S_size (upd S_items x1.toNatClampNeg x2)) := hD
      have hf := Option.some.inj hf
      subst hf
      exact ret_v C hr hlk hP hS dX5_keep_44
    · have hf := (if_pos hc).symm.trans hf
      refine lv_aload_n (pc := 26) hx hb dX5_keep_26 rfl (lv_at hl 0 rfl) ?_
      refine g_get (pc := 27) C fg_X5_9 hP 0 rfl rfl dX5_keep_27 ?_
      refine lv_iload_n (pc := 30) hx hb dX5_keep_30 rfl (lv_at hl 1 rfl) ?_
      refine lv_iload_n (pc := 31) hx hb dX5_keep_31 rfl (lv_at hl 2 rfl) ?_
      refine lv_i2s (pc := 32) hx hb dX5_keep_32 rfl ?_
      obtain ⟨v1, e_v1, hf⟩ := letv_some hf
      refine tp_i e_v1 ?_
      obtain ⟨hg, hf⟩ := gd_some hf
      refine g_iast (pc := 33) C hP hD hS 1 rfl hg dX5_keep_33 (fun H locs hP hD hS => ?_)
      have hP : va_P D classes (wl_X5_keep cA a_S a_S_items S_lost S_form S_size (upd S_items x1.toNatClampNeg v1)) H := hP
      have hD : va_D (va_A ws0 sz) (wl_X5_keep cA a_S a_S_items S_lost S_form S_size (upd S_items x1.toNatClampNeg v1)) := hD
      refine lv_goto (pc := 34) (tgt := 44) hx hb dX5_keep_34 (by decide) ?_
      have hf := Option.some.inj hf
      subst hf
      exact ret_v C hr hlk hP hS dX5_keep_44
  · have hf := (if_pos hc).symm.trans hf
    refine lv_aload_n (pc := 7) hx hb dX5_keep_7 rfl (lv_at hl 0 rfl) ?_
    refine g_get (pc := 8) C fg_X5_9 hP 0 rfl rfl dX5_keep_8 ?_
    refine lv_iload_n (pc := 11) hx hb dX5_keep_11 rfl (lv_at hl 1 rfl) ?_
    refine lv_iload_n (pc := 12) hx hb dX5_keep_12 rfl (lv_at hl 2 rfl) ?_
    refine lv_i2b (pc := 13) hx hb dX5_keep_13 rfl ?_
    obtain ⟨v2, e_v2, hf⟩ := letv_some hf
    refine tp_i e_v2 ?_
    obtain ⟨hg, hf⟩ := gd_some hf
    refine g_iast (pc := 14) C hP hD hS 1 rfl hg dX5_keep_14 (fun H locs hP hD hS => ?_)
    have hP : va_P D classes (wl_X5_keep cA a_S a_S_items S_lost S_form S_size (upd S_items x1.toNatClampNeg v2)) H := hP
    have hD : va_D (va_A ws0 sz) (wl_X5_keep cA a_S a_S_items S_lost S_form S_size (upd S_items x1.toNatClampNeg v2)) := hD
    refine lv_goto (pc := 15) (tgt := 44) hx hb dX5_keep_15 (by decide) ?_
    have hf := Option.some.inj hf
    subst hf
    exact ret_v C hr hlk hP hS dX5_keep_44
set_option maxRecDepth 100000 in
theorem c_X5_keep (l : Launch) (D : va_G) (cA : Nat → ClassId) (a_S a_S_items : Nat) (S_lost : Int32) (S_form : Int32) (S_size : Int32) (S_items : Nat → Int32) (x1 : Int32) (x2 : Int32) (r : (Nat → Int32)) (hf : f_X5_keep S_form S_items x1 x2 = some r) (sz : Nat) : Met l yX5_keep (Cond.code yX5_keep cX5_keep 3 none :: lw_good) rm_X5_keep (PreX D cA [.ref a_S, .int x1, .int x2] sz (wl_X5_keep cA a_S a_S_items S_lost S_form S_size S_items)) (PostV D (wl_X5_keep cA a_S a_S_items S_lost S_form S_size S_items) (wl_X5_keep cA a_S a_S_items S_lost S_form S_size r) sz) 0 0 (va_A (wl_X5_keep cA a_S a_S_items S_lost S_form S_size S_items) sz) :=
  met_of (by decide) (Nat.le_of_ble_eq_true rfl) (fun p e s m args below meth c C hr hlk hA => k_X5_keep C hr hlk hA a_S a_S_items S_lost S_form S_size S_items x1 x2 r hf)
end

abbrev wl_X6_append (cA : Nat → ClassId) (a_T a_T_bytes : Nat) (nT : Nat) (T_length : Int32) (T_bytes : Nat → Int32) : va_W := [(a_T, .inr (6, [.ref a_T_bytes, .int T_length])), (a_T_bytes, .inl (cA 0, nT, .inl T_bytes))]
abbrev rm_X6_append : Room := { frames := 0, cells := 0, slots := 0, locals := 0 }
section
variable {p : Program} {l : Launch} {e : Env} {s : State} {m : MethodId} {args : Array Value} {below : List Frame} {meth : Method} {c : Code} {D : va_G} {cA : Nat → ClassId} {ws0 : va_W} {sz : Nat} {A : Nat → Prop} {Q : State → Prop}
def f_X6_append (nT : Nat) (T_length : Int32) (T_bytes : Nat → Int32) (x1 : Int32) : Option (Int32 × Int32 × (Nat → Int32)) :=
  if T_length < (Int32.ofNat nT) then (gd (inb T_length nT) (letv ((T_length + (1 : Int32))) (fun v1 => some ((1 : Int32), v1, (upd T_bytes T_length.toNatClampNeg x1))))) else (some ((0 : Int32), T_length, T_bytes))
set_option maxHeartbeats 4000000 in
set_option maxRecDepth 100000 in
theorem k_X6_append (C : Cx RX6 cX6_append 2 D cA p s m args c) (hr : meth.sig.returnType = (some .boolean)) (hlk : meth.locks = false) (hA : ∀ q, s.heap.size ≤ q → va_A ws0 sz q) (a_T a_T_bytes : Nat) (nT : Nat) (T_length : Int32) (T_bytes : Nat → Int32) (x1 : Int32) (r : Int32 × Int32 × (Nat → Int32)) (hf : f_X6_append nT T_length T_bytes x1 = some r) : At p l e rm_X6_append s m args below meth c D (va_A ws0 sz) 0 0 (MQ below (PostI D r.1 ws0 (wl_X6_append cA a_T a_T_bytes nT (r.2.1) (r.2.2)) sz) args s 0 0 (va_A ws0 sz)) 2 0 (wl_X6_append cA a_T a_T_bytes nT T_length T_bytes) [(0, .ref a_T), (1, .int x1)] [] := by
  intro H locs ls hP hD hS hl
  have hx := C.1
  have hb := C.2.1
  have hown := C.2.2.2.1
  have hts := C.2.2.2.2.1
  unfold f_X6_append at hf
  refine lv_aload_n (pc := 0) hx hb dX6_append_0 rfl (lv_at hl 0 rfl) ?_
  refine g_get (pc := 1) C fg_X6_13 hP 0 rfl rfl dX6_append_1 ?_
  refine lv_aload_n (pc := 4) hx hb dX6_append_4 rfl (lv_at hl 0 rfl) ?_
  refine g_get (pc := 5) C fg_X6_7 hP 0 rfl rfl dX6_append_5 ?_
  refine g_alen (pc := 8)  C hP 1 rfl (t0 := 0) rfl rfl dX6_append_8 ?_
  refine lv_icmp_lt (pc := 9) (tgt := 14) hx hb dX6_append_9 (by decide) (fun hc => ?_) (fun hc => ?_)
  · have hf := (if_pos hc).symm.trans hf
    refine lv_aload_n (pc := 14) hx hb dX6_append_14 rfl (lv_at hl 0 rfl) ?_
    refine g_get (pc := 15) C fg_X6_7 hP 0 rfl rfl dX6_append_15 ?_
    refine lv_aload_n (pc := 18) hx hb dX6_append_18 rfl (lv_at hl 0 rfl) ?_
    refine g_get (pc := 19) C fg_X6_13 hP 0 rfl rfl dX6_append_19 ?_
    refine lv_iload_n (pc := 22) hx hb dX6_append_22 rfl (lv_at hl 1 rfl) ?_
    obtain ⟨hg, hf⟩ := gd_some hf
    refine g_iast (pc := 23) C hP hD hS 1 rfl hg dX6_append_23 (fun H locs hP hD hS => ?_)
    have hP : va_P D classes (wl_X6_append cA a_T a_T_bytes nT T_length (upd T_bytes T_length.toNatClampNeg x1)) H := hP
    have hD : va_D (va_A ws0 sz) (wl_X6_append cA a_T a_T_bytes nT T_length (upd T_bytes T_length.toNatClampNeg x1)) := hD
    refine lv_aload_n (pc := 24) hx hb dX6_append_24 rfl (lv_at hl 0 rfl) ?_
    refine lv_dup (pc := 25) hx hb dX6_append_25 rfl ?_
    refine g_get (pc := 26) C fg_X6_13 hP 0 rfl rfl dX6_append_26 ?_
    refine lv_iconst (pc := 29) (v := 1) hx hb dX6_append_29 ic_1 ?_
    refine lv_iadd (pc := 30) hx hb dX6_append_30 ?_
    obtain ⟨v1, e_v1, hf⟩ := letv_some hf
    refine tp_i e_v1 ?_
    refine g_put (pc := 31) C fg_X6_13 ft_X6_1 hP hD hS 0 rfl rfl rfl (Nat.le_of_ble_eq_true rfl) dX6_append_31 (fun H locs hP hD hS => ?_)
    have hP : va_P D classes (wl_X6_append cA a_T a_T_bytes nT v1 (upd T_bytes T_length.toNatClampNeg x1)) H := hP
    have hD : va_D (va_A ws0 sz) (wl_X6_append cA a_T a_T_bytes nT v1 (upd T_bytes T_length.toNatClampNeg x1)) := hD
    refine lv_iconst (pc := 34) (v := 1) hx hb dX6_append_34 ic_1 ?_
    have hf := Option.some.inj hf
    subst hf
    exact ret_z C hr hlk isz_1 hP hS dX6_append_35
  · have hf := (if_neg hc).symm.trans hf
    refine lv_iconst (pc := 12) (v := 0) hx hb dX6_append_12 ic_0 ?_
    have hf := Option.some.inj hf
    subst hf
    exact ret_z C hr hlk isz_0 hP hS dX6_append_13
set_option maxRecDepth 100000 in
theorem c_X6_append (l : Launch) (D : va_G) (cA : Nat → ClassId) (a_T a_T_bytes : Nat) (nT : Nat) (T_length : Int32) (T_bytes : Nat → Int32) (x1 : Int32) (r : Int32 × Int32 × (Nat → Int32)) (hf : f_X6_append nT T_length T_bytes x1 = some r) (sz : Nat) : Met l yX6_append (Cond.code yX6_append cX6_append 2 (some .boolean) :: lw_good) rm_X6_append (PreX D cA [.ref a_T, .int x1] sz (wl_X6_append cA a_T a_T_bytes nT T_length T_bytes)) (PostI D r.1 (wl_X6_append cA a_T a_T_bytes nT T_length T_bytes) (wl_X6_append cA a_T a_T_bytes nT (r.2.1) (r.2.2)) sz) 0 0 (va_A (wl_X6_append cA a_T a_T_bytes nT T_length T_bytes) sz) :=
  met_of (by decide) (Nat.le_of_ble_eq_true rfl) (fun p e s m args below meth c C hr hlk hA => k_X6_append C hr hlk hA a_T a_T_bytes nT T_length T_bytes x1 r hf)
end

abbrev rm_J6_bitCount_0f7a4 : Room := { frames := 0, cells := 0, slots := 0, locals := 0 }
section
variable {p : Program} {l : Launch} {e : Env} {s : State} {m : MethodId} {args : Array Value} {below : List Frame} {meth : Method} {c : Code} {D : va_G} {cA : Nat → ClassId} {ws0 : va_W} {sz : Nat} {A : Nat → Prop} {Q : State → Prop}
def f_J6_bitCount_0f7a4 (x0 : Int32) : Option (Int32) :=
  letv ((x0 - (((x0.toUInt32 >>> ((1 : Int32).toUInt32 &&& Int32.toUInt32 31)).toInt32) &&& (1431655765 : Int32)))) (fun v1 => letv (((v1 &&& (858993459 : Int32)) + (((v1.toUInt32 >>> ((2 : Int32).toUInt32 &&& Int32.toUInt32 31)).toInt32) &&& (858993459 : Int32)))) (fun v2 => letv (((v2 + ((v2.toUInt32 >>> ((4 : Int32).toUInt32 &&& Int32.toUInt32 31)).toInt32)) &&& (252645135 : Int32))) (fun v3 => letv ((v3 + ((v3.toUInt32 >>> ((8 : Int32).toUInt32 &&& Int32.toUInt32 31)).toInt32))) (fun v4 => letv ((v4 + ((v4.toUInt32 >>> ((16 : Int32).toUInt32 &&& Int32.toUInt32 31)).toInt32))) (fun v5 => some (v5 &&& (63 : Int32)))))))
set_option maxHeartbeats 4000000 in
set_option maxRecDepth 100000 in
theorem k_J6_bitCount_0f7a4 (C : Cx RJ6 cJ6_bitCount_0f7a4 1 D cA p s m args c) (hr : meth.sig.returnType = (some .int)) (hlk : meth.locks = false) (hA : ∀ q, s.heap.size ≤ q → va_A ws0 sz q) (x0 : Int32) (r : Int32) (hf : f_J6_bitCount_0f7a4 x0 = some r) : At p l e rm_J6_bitCount_0f7a4 s m args below meth c D (va_A ws0 sz) 0 0 (MQ below (PostI D r ws0 ([] : va_W) sz) args s 0 0 (va_A ws0 sz)) 1 0 ([] : va_W) [(0, .int x0)] [] := by
  intro H locs ls hP hD hS hl
  have hx := C.1
  have hb := C.2.1
  have hown := C.2.2.2.1
  have hts := C.2.2.2.2.1
  unfold f_J6_bitCount_0f7a4 at hf
  refine lv_iload_n (pc := 0) hx hb dJ6_bitCount_0f7a4_0 rfl (lv_at hl 0 rfl) ?_
  refine lv_iload_n (pc := 1) hx hb dJ6_bitCount_0f7a4_1 rfl (lv_at hl 0 rfl) ?_
  refine lv_iconst (pc := 2) (v := 1) hx hb dJ6_bitCount_0f7a4_2 ic_1 ?_
  refine lv_iushr (pc := 3) hx hb dJ6_bitCount_0f7a4_3 rfl ?_
  refine lv_ldcw (pc := 4) hx hb hown (hts _ (lg_in mw_675 rfl)) dJ6_bitCount_0f7a4_4 ?_
  refine lv_iand (pc := 7) hx hb dJ6_bitCount_0f7a4_7 ?_
  refine lv_isub (pc := 8) hx hb dJ6_bitCount_0f7a4_8 ?_
  obtain ⟨v1, e_v1, hf⟩ := letv_some hf
  refine tp_i e_v1 ?_
  refine lv_istore_n (pc := 9) (lv' := [(0, .int v1)]) hx hb dJ6_bitCount_0f7a4_9 rfl hl (Nat.le_of_ble_eq_true rfl) rfl (fun ls hl => ?_)
  refine lv_iload_n (pc := 10) hx hb dJ6_bitCount_0f7a4_10 rfl (lv_at hl 0 rfl) ?_
  refine lv_ldcw (pc := 11) hx hb hown (hts _ (lg_in mw_676 rfl)) dJ6_bitCount_0f7a4_11 ?_
  refine lv_iand (pc := 14) hx hb dJ6_bitCount_0f7a4_14 ?_
  refine lv_iload_n (pc := 15) hx hb dJ6_bitCount_0f7a4_15 rfl (lv_at hl 0 rfl) ?_
  refine lv_iconst (pc := 16) (v := 2) hx hb dJ6_bitCount_0f7a4_16 ic_2 ?_
  refine lv_iushr (pc := 17) hx hb dJ6_bitCount_0f7a4_17 rfl ?_
  refine lv_ldcw (pc := 18) hx hb hown (hts _ (lg_in mw_676 rfl)) dJ6_bitCount_0f7a4_18 ?_
  refine lv_iand (pc := 21) hx hb dJ6_bitCount_0f7a4_21 ?_
  refine lv_iadd (pc := 22) hx hb dJ6_bitCount_0f7a4_22 ?_
  obtain ⟨v2, e_v2, hf⟩ := letv_some hf
  refine tp_i e_v2 ?_
  refine lv_istore_n (pc := 23) (lv' := [(0, .int v2)]) hx hb dJ6_bitCount_0f7a4_23 rfl hl (Nat.le_of_ble_eq_true rfl) rfl (fun ls hl => ?_)
  refine lv_iload_n (pc := 24) hx hb dJ6_bitCount_0f7a4_24 rfl (lv_at hl 0 rfl) ?_
  refine lv_iload_n (pc := 25) hx hb dJ6_bitCount_0f7a4_25 rfl (lv_at hl 0 rfl) ?_
  refine lv_iconst (pc := 26) (v := 4) hx hb dJ6_bitCount_0f7a4_26 ic_4 ?_
  refine lv_iushr (pc := 27) hx hb dJ6_bitCount_0f7a4_27 rfl ?_
  refine lv_iadd (pc := 28) hx hb dJ6_bitCount_0f7a4_28 ?_
  refine lv_ldcw (pc := 29) hx hb hown (hts _ (lg_in mw_677 rfl)) dJ6_bitCount_0f7a4_29 ?_
  refine lv_iand (pc := 32) hx hb dJ6_bitCount_0f7a4_32 ?_
  obtain ⟨v3, e_v3, hf⟩ := letv_some hf
  refine tp_i e_v3 ?_
  refine lv_istore_n (pc := 33) (lv' := [(0, .int v3)]) hx hb dJ6_bitCount_0f7a4_33 rfl hl (Nat.le_of_ble_eq_true rfl) rfl (fun ls hl => ?_)
  refine lv_iload_n (pc := 34) hx hb dJ6_bitCount_0f7a4_34 rfl (lv_at hl 0 rfl) ?_
  refine lv_iload_n (pc := 35) hx hb dJ6_bitCount_0f7a4_35 rfl (lv_at hl 0 rfl) ?_
  refine lv_bipush (pc := 36) (v := 8) hx hb dJ6_bitCount_0f7a4_36 bp_8 ?_
  refine lv_iushr (pc := 38) hx hb dJ6_bitCount_0f7a4_38 rfl ?_
  refine lv_iadd (pc := 39) hx hb dJ6_bitCount_0f7a4_39 ?_
  obtain ⟨v4, e_v4, hf⟩ := letv_some hf
  refine tp_i e_v4 ?_
  refine lv_istore_n (pc := 40) (lv' := [(0, .int v4)]) hx hb dJ6_bitCount_0f7a4_40 rfl hl (Nat.le_of_ble_eq_true rfl) rfl (fun ls hl => ?_)
  refine lv_iload_n (pc := 41) hx hb dJ6_bitCount_0f7a4_41 rfl (lv_at hl 0 rfl) ?_
  refine lv_iload_n (pc := 42) hx hb dJ6_bitCount_0f7a4_42 rfl (lv_at hl 0 rfl) ?_
  refine lv_bipush (pc := 43) (v := 16) hx hb dJ6_bitCount_0f7a4_43 bp_16 ?_
  refine lv_iushr (pc := 45) hx hb dJ6_bitCount_0f7a4_45 rfl ?_
  refine lv_iadd (pc := 46) hx hb dJ6_bitCount_0f7a4_46 ?_
  obtain ⟨v5, e_v5, hf⟩ := letv_some hf
  refine tp_i e_v5 ?_
  refine lv_istore_n (pc := 47) (lv' := [(0, .int v5)]) hx hb dJ6_bitCount_0f7a4_47 rfl hl (Nat.le_of_ble_eq_true rfl) rfl (fun ls hl => ?_)
  refine lv_iload_n (pc := 48) hx hb dJ6_bitCount_0f7a4_48 rfl (lv_at hl 0 rfl) ?_
  refine lv_bipush (pc := 49) (v := 63) hx hb dJ6_bitCount_0f7a4_49 bp_63 ?_
  refine lv_iand (pc := 51) hx hb dJ6_bitCount_0f7a4_51 ?_
  have hf := Option.some.inj hf
  subst hf
  exact ret_i C hr hlk hP hS dJ6_bitCount_0f7a4_52
set_option maxRecDepth 100000 in
theorem c_J6_bitCount_0f7a4 (l : Launch) (D : va_G) (cA : Nat → ClassId) (x0 : Int32) (r : Int32) (hf : f_J6_bitCount_0f7a4 x0 = some r) (sz : Nat) : Met l yJ6_bitCount_0f7a4 (Cond.code yJ6_bitCount_0f7a4 cJ6_bitCount_0f7a4 1 (some .int) :: lw_good) rm_J6_bitCount_0f7a4 (PreX D cA [.int x0] sz ([] : va_W)) (PostI D r ([] : va_W) ([] : va_W) sz) 0 0 (va_A ([] : va_W) sz) :=
  met_of (by decide) (Nat.le_of_ble_eq_true rfl) (fun p e s m args below meth c C hr hlk hA => k_J6_bitCount_0f7a4 C hr hlk hA x0 r hf)
end

abbrev wl_J7_fill_d0a16 (cA : Nat → ClassId) (a_FJ : Nat) (nF : Nat) (FJ : Nat → Int64) : va_W := [(a_FJ, .inl (cA 1, nF, .inr (.inl FJ)))]
abbrev rm_J7_fill_d0a16 : Room := { frames := 0, cells := 0, slots := 0, locals := 0 }
section
variable {p : Program} {l : Launch} {e : Env} {s : State} {m : MethodId} {args : Array Value} {below : List Frame} {meth : Method} {c : Code} {D : va_G} {cA : Nat → ClassId} {ws0 : va_W} {sz : Nat} {A : Nat → Prop} {Q : State → Prop}
def f_J7_fill_d0a16_L6 (nF : Nat) (x1 : Int64) (x4 : Int32) (x3 : Int32) (FJ : Nat → Int64) : Option ((Int32 × (Nat → Int64)) ⊕ ((Nat → Int64))) :=
  if x4 ≤ x3 then (some (.inr FJ)) else (gd (inb x3 nF) (some (.inl ((x3 + 1), (vp_updL FJ x3.toNatClampNeg x1)))))
set_option maxHeartbeats 4000000 in
set_option maxRecDepth 100000 in
theorem k_J7_fill_d0a16_L6 (C : Cx RJ7 cJ7_fill_d0a16 5 D cA p s m args c) (hA : ∀ q, s.heap.size ≤ q → A q) (a_FJ : Nat) (nF : Nat) (x1 : Int64) (x4 : Int32) (x3 : Int32) (FJ : Nat → Int64) (r : (Int32 × (Nat → Int64)) ⊕ ((Nat → Int64))) (hf : f_J7_fill_d0a16_L6 nF x1 x4 x3 FJ = some r) (hK : Sum.elim (fun q : Int32 × (Nat → Int64) => At p l e rm_J7_fill_d0a16 s m args below meth c D A 0 0 Q 5 6 (wl_J7_fill_d0a16 cA a_FJ nF (q.2)) [(0, .ref a_FJ), (1, .long x1), (3, .int (q.1)), (4, .int x4)] []) (fun q : (Nat → Int64) => At p l e rm_J7_fill_d0a16 s m args below meth c D A 0 0 Q 5 22 (wl_J7_fill_d0a16 cA a_FJ nF q) [] []) r) : At p l e rm_J7_fill_d0a16 s m args below meth c D A 0 0 Q 5 6 (wl_J7_fill_d0a16 cA a_FJ nF FJ) [(0, .ref a_FJ), (1, .long x1), (3, .int x3), (4, .int x4)] [] := by
  intro H locs ls hP hD hS hl
  have hx := C.1
  have hb := C.2.1
  have hown := C.2.2.2.1
  have hts := C.2.2.2.2.1
  unfold f_J7_fill_d0a16_L6 at hf
  refine lv_iload_n (pc := 6) hx hb dJ7_fill_d0a16_6 rfl (lv_at hl 2 rfl) ?_
  refine lv_iload (pc := 7) hx hb dJ7_fill_d0a16_7 (lv_at hl 3 rfl) ?_
  refine lv_icmp_ge (pc := 9) (tgt := 22) hx hb dJ7_fill_d0a16_9 (by decide) (fun hc => ?_) (fun hc => ?_)
  · have hf := (if_pos hc).symm.trans hf
    have hf := Option.some.inj hf
    subst hf
    exact hK H locs ls hP hD hS (lv_sub hl [] rfl)
  · have hf := (if_neg hc).symm.trans hf
    refine lv_aload_n (pc := 12) hx hb dJ7_fill_d0a16_12 rfl (lv_at hl 0 rfl) ?_
    refine lv_iload_n (pc := 13) hx hb dJ7_fill_d0a16_13 rfl (lv_at hl 2 rfl) ?_
    refine lv_lload_n (pc := 14) hx hb dJ7_fill_d0a16_14 rfl (lv_at hl 1 rfl) ?_
    obtain ⟨hg, hf⟩ := gd_some hf
    refine g_last (pc := 15) C hP hD hS 0 rfl hg dJ7_fill_d0a16_15 (fun H locs hP hD hS => ?_)
    have hP : va_P D classes (wl_J7_fill_d0a16 cA a_FJ nF (vp_updL FJ x3.toNatClampNeg x1)) H := hP
    have hD : va_D A (wl_J7_fill_d0a16 cA a_FJ nF (vp_updL FJ x3.toNatClampNeg x1)) := hD
    refine lv_iinc (pc := 16) (v := (x3 + 1)) (lv' := [(3, .int (x3 + 1)), (0, .ref a_FJ), (1, .long x1), (4, .int x4)]) hx hb dJ7_fill_d0a16_16 hl (k := 2) rfl rfl (Nat.le_of_ble_eq_true rfl) rfl (fun ls hl => ?_)
    refine lv_goto (pc := 19) (tgt := 6) hx hb dJ7_fill_d0a16_19 (by decide) ?_
    have hf := Option.some.inj hf
    subst hf
    exact hK H locs ls hP hD hS (lv_sub hl [1, 2, 0, 3] rfl)
theorem kl_J7_fill_d0a16_L6 (C : Cx RJ7 cJ7_fill_d0a16 5 D cA p s m args c) (hA : ∀ q, s.heap.size ≤ q → A q) (a_FJ : Nat) (nF : Nat) (x1 : Int64) (x4 : Int32) : ∀ (n : Nat) (q : Int32 × (Nat → Int64)) (z : ((Nat → Int64))), loopF (fun q : Int32 × (Nat → Int64) => f_J7_fill_d0a16_L6 nF x1 x4 q.1 q.2) n q = some z → (fun q : (Nat → Int64) => At p l e rm_J7_fill_d0a16 s m args below meth c D A 0 0 Q 5 22 (wl_J7_fill_d0a16 cA a_FJ nF q) [] []) z → At p l e rm_J7_fill_d0a16 s m args below meth c D A 0 0 Q 5 6 (wl_J7_fill_d0a16 cA a_FJ nF (q.2)) [(0, .ref a_FJ), (1, .long x1), (3, .int (q.1)), (4, .int x4)] [] :=
  loop_lem (WP := fun q : Int32 × (Nat → Int64) => At p l e rm_J7_fill_d0a16 s m args below meth c D A 0 0 Q 5 6 (wl_J7_fill_d0a16 cA a_FJ nF (q.2)) [(0, .ref a_FJ), (1, .long x1), (3, .int (q.1)), (4, .int x4)] []) (WE := (fun q : (Nat → Int64) => At p l e rm_J7_fill_d0a16 s m args below meth c D A 0 0 Q 5 22 (wl_J7_fill_d0a16 cA a_FJ nF q) [] [])) (fun q r hf hK => k_J7_fill_d0a16_L6 C hA a_FJ nF x1 x4 q.1 q.2 r hf hK)
def f_J7_fill_d0a16 (nF : Nat) (FJ : Nat → Int64) (x1 : Int64) : Option ((Nat → Int64)) :=
  letv ((Int32.ofNat nF)) (fun v1 => bind1 (loopF (fun q : Int32 × (Nat → Int64) => f_J7_fill_d0a16_L6 nF x1 v1 q.1 q.2) FU ((0 : Int32), FJ)) (fun u2 => some u2))
set_option maxHeartbeats 4000000 in
set_option maxRecDepth 100000 in
theorem k_J7_fill_d0a16 (C : Cx RJ7 cJ7_fill_d0a16 5 D cA p s m args c) (hr : meth.sig.returnType = none) (hlk : meth.locks = false) (hA : ∀ q, s.heap.size ≤ q → va_A ws0 sz q) (a_FJ : Nat) (nF : Nat) (FJ : Nat → Int64) (x1 : Int64) (r : (Nat → Int64)) (hf : f_J7_fill_d0a16 nF FJ x1 = some r) : At p l e rm_J7_fill_d0a16 s m args below meth c D (va_A ws0 sz) 0 0 (MQ below (PostV D ws0 (wl_J7_fill_d0a16 cA a_FJ nF r) sz) args s 0 0 (va_A ws0 sz)) 5 0 (wl_J7_fill_d0a16 cA a_FJ nF FJ) [(0, .ref a_FJ), (1, .long x1)] [] := by
  intro H locs ls hP hD hS hl
  have hx := C.1
  have hb := C.2.1
  have hown := C.2.2.2.1
  have hts := C.2.2.2.2.1
  unfold f_J7_fill_d0a16 at hf
  refine lv_iconst (pc := 0) (v := 0) hx hb dJ7_fill_d0a16_0 ic_0 ?_
  refine lv_istore_n (pc := 1) (lv' := [(3, .int (0 : Int32)), (0, .ref a_FJ), (1, .long x1)]) hx hb dJ7_fill_d0a16_1 rfl hl (Nat.le_of_ble_eq_true rfl) rfl (fun ls hl => ?_)
  refine lv_aload_n (pc := 2) hx hb dJ7_fill_d0a16_2 rfl (lv_at hl 1 rfl) ?_
  refine g_alen (pc := 3)  C hP 0 rfl (t0 := 1) rfl rfl dJ7_fill_d0a16_3 ?_
  obtain ⟨v1, e_v1, hf⟩ := letv_some hf
  refine tp_i e_v1 ?_
  refine lv_istore (pc := 4) (lv' := [(4, .int v1), (3, .int (0 : Int32)), (0, .ref a_FJ), (1, .long x1)]) hx hb dJ7_fill_d0a16_4 hl (Nat.le_of_ble_eq_true rfl) rfl (fun ls hl => ?_)
  obtain ⟨u2, hq, hf⟩ := bind1_some hf
  refine kl_J7_fill_d0a16_L6 C hA a_FJ nF x1 v1 FU ((0 : Int32), FJ) _ hq ?_ H locs ls hP hD hS (lv_sub hl [2, 3, 1, 0] rfl)
  intro H locs ls hP hD hS hl
  have hP : va_P D classes (wl_J7_fill_d0a16 cA a_FJ nF u2) H := hP
  have hD : va_D (va_A ws0 sz) (wl_J7_fill_d0a16 cA a_FJ nF u2) := hD
  have hl : lv_has ls 5 [] := hl
  have hf := Option.some.inj hf
  subst hf
  exact ret_v C hr hlk hP hS dJ7_fill_d0a16_22
set_option maxRecDepth 100000 in
theorem c_J7_fill_d0a16 (l : Launch) (D : va_G) (cA : Nat → ClassId) (a_FJ : Nat) (nF : Nat) (FJ : Nat → Int64) (x1 : Int64) (r : (Nat → Int64)) (hf : f_J7_fill_d0a16 nF FJ x1 = some r) (sz : Nat) : Met l yJ7_fill_d0a16 (Cond.code yJ7_fill_d0a16 cJ7_fill_d0a16 5 none :: lw_good) rm_J7_fill_d0a16 (PreX D cA [.ref a_FJ, .long x1] sz (wl_J7_fill_d0a16 cA a_FJ nF FJ)) (PostV D (wl_J7_fill_d0a16 cA a_FJ nF FJ) (wl_J7_fill_d0a16 cA a_FJ nF r) sz) 0 0 (va_A (wl_J7_fill_d0a16 cA a_FJ nF FJ) sz) :=
  met_of (by decide) (Nat.le_of_ble_eq_true rfl) (fun p e s m args below meth c C hr hlk hA => k_J7_fill_d0a16 C hr hlk hA a_FJ nF FJ x1 r hf)
end

abbrev rm_J13_bitCount_95d88 : Room := { frames := 0, cells := 0, slots := 0, locals := 0 }
section
variable {p : Program} {l : Launch} {e : Env} {s : State} {m : MethodId} {args : Array Value} {below : List Frame} {meth : Method} {c : Code} {D : va_G} {cA : Nat → ClassId} {ws0 : va_W} {sz : Nat} {A : Nat → Prop} {Q : State → Prop}
def f_J13_bitCount_95d88 (x0 : Int64) : Option (Int32) :=
  letv ((x0 - (((x0.toUInt64 >>> ((1 : Int32).toInt64.toUInt64 &&& Int64.toUInt64 63)).toInt64) &&& (6148914691236517205 : Int64)))) (fun v1 => letv (((v1 &&& (3689348814741910323 : Int64)) + (((v1.toUInt64 >>> ((2 : Int32).toInt64.toUInt64 &&& Int64.toUInt64 63)).toInt64) &&& (3689348814741910323 : Int64)))) (fun v2 => letv (((v2 + ((v2.toUInt64 >>> ((4 : Int32).toInt64.toUInt64 &&& Int64.toUInt64 63)).toInt64)) &&& (1085102592571150095 : Int64))) (fun v3 => letv ((v3 + ((v3.toUInt64 >>> ((8 : Int32).toInt64.toUInt64 &&& Int64.toUInt64 63)).toInt64))) (fun v4 => letv ((v4 + ((v4.toUInt64 >>> ((16 : Int32).toInt64.toUInt64 &&& Int64.toUInt64 63)).toInt64))) (fun v5 => letv ((v5 + ((v5.toUInt64 >>> ((32 : Int32).toInt64.toUInt64 &&& Int64.toUInt64 63)).toInt64))) (fun v6 => some ((v6.toInt32) &&& (127 : Int32))))))))
set_option maxHeartbeats 4000000 in
set_option maxRecDepth 100000 in
theorem k_J13_bitCount_95d88 (C : Cx RJ13 cJ13_bitCount_95d88 2 D cA p s m args c) (hr : meth.sig.returnType = (some .int)) (hlk : meth.locks = false) (hA : ∀ q, s.heap.size ≤ q → va_A ws0 sz q) (x0 : Int64) (r : Int32) (hf : f_J13_bitCount_95d88 x0 = some r) : At p l e rm_J13_bitCount_95d88 s m args below meth c D (va_A ws0 sz) 0 0 (MQ below (PostI D r ws0 ([] : va_W) sz) args s 0 0 (va_A ws0 sz)) 2 0 ([] : va_W) [(0, .long x0)] [] := by
  intro H locs ls hP hD hS hl
  have hx := C.1
  have hb := C.2.1
  have hown := C.2.2.2.1
  have hts := C.2.2.2.2.1
  unfold f_J13_bitCount_95d88 at hf
  refine lv_lload_n (pc := 0) hx hb dJ13_bitCount_95d88_0 rfl (lv_at hl 0 rfl) ?_
  refine lv_lload_n (pc := 1) hx hb dJ13_bitCount_95d88_1 rfl (lv_at hl 0 rfl) ?_
  refine lv_iconst (pc := 2) (v := 1) hx hb dJ13_bitCount_95d88_2 ic_1 ?_
  refine lv_lushr (pc := 3) hx hb dJ13_bitCount_95d88_3 rfl ?_
  refine lv_ldc2 (pc := 4) hx hb hown (hts _ (lg_in mw_678 rfl)) dJ13_bitCount_95d88_4 ?_
  refine lv_land (pc := 7) hx hb dJ13_bitCount_95d88_7 ?_
  refine lv_lsub (pc := 8) hx hb dJ13_bitCount_95d88_8 ?_
  obtain ⟨v1, e_v1, hf⟩ := letv_some hf
  refine tp_l e_v1 ?_
  refine lv_lstore_n (pc := 9) (lv' := [(0, .long v1)]) hx hb dJ13_bitCount_95d88_9 rfl hl (Nat.le_of_ble_eq_true rfl) rfl (fun ls hl => ?_)
  refine lv_lload_n (pc := 10) hx hb dJ13_bitCount_95d88_10 rfl (lv_at hl 0 rfl) ?_
  refine lv_ldc2 (pc := 11) hx hb hown (hts _ (lg_in mw_679 rfl)) dJ13_bitCount_95d88_11 ?_
  refine lv_land (pc := 14) hx hb dJ13_bitCount_95d88_14 ?_
  refine lv_lload_n (pc := 15) hx hb dJ13_bitCount_95d88_15 rfl (lv_at hl 0 rfl) ?_
  refine lv_iconst (pc := 16) (v := 2) hx hb dJ13_bitCount_95d88_16 ic_2 ?_
  refine lv_lushr (pc := 17) hx hb dJ13_bitCount_95d88_17 rfl ?_
  refine lv_ldc2 (pc := 18) hx hb hown (hts _ (lg_in mw_679 rfl)) dJ13_bitCount_95d88_18 ?_
  refine lv_land (pc := 21) hx hb dJ13_bitCount_95d88_21 ?_
  refine lv_ladd (pc := 22) hx hb dJ13_bitCount_95d88_22 ?_
  obtain ⟨v2, e_v2, hf⟩ := letv_some hf
  refine tp_l e_v2 ?_
  refine lv_lstore_n (pc := 23) (lv' := [(0, .long v2)]) hx hb dJ13_bitCount_95d88_23 rfl hl (Nat.le_of_ble_eq_true rfl) rfl (fun ls hl => ?_)
  refine lv_lload_n (pc := 24) hx hb dJ13_bitCount_95d88_24 rfl (lv_at hl 0 rfl) ?_
  refine lv_lload_n (pc := 25) hx hb dJ13_bitCount_95d88_25 rfl (lv_at hl 0 rfl) ?_
  refine lv_iconst (pc := 26) (v := 4) hx hb dJ13_bitCount_95d88_26 ic_4 ?_
  refine lv_lushr (pc := 27) hx hb dJ13_bitCount_95d88_27 rfl ?_
  refine lv_ladd (pc := 28) hx hb dJ13_bitCount_95d88_28 ?_
  refine lv_ldc2 (pc := 29) hx hb hown (hts _ (lg_in mw_680 rfl)) dJ13_bitCount_95d88_29 ?_
  refine lv_land (pc := 32) hx hb dJ13_bitCount_95d88_32 ?_
  obtain ⟨v3, e_v3, hf⟩ := letv_some hf
  refine tp_l e_v3 ?_
  refine lv_lstore_n (pc := 33) (lv' := [(0, .long v3)]) hx hb dJ13_bitCount_95d88_33 rfl hl (Nat.le_of_ble_eq_true rfl) rfl (fun ls hl => ?_)
  refine lv_lload_n (pc := 34) hx hb dJ13_bitCount_95d88_34 rfl (lv_at hl 0 rfl) ?_
  refine lv_lload_n (pc := 35) hx hb dJ13_bitCount_95d88_35 rfl (lv_at hl 0 rfl) ?_
  refine lv_bipush (pc := 36) (v := 8) hx hb dJ13_bitCount_95d88_36 bp_8 ?_
  refine lv_lushr (pc := 38) hx hb dJ13_bitCount_95d88_38 rfl ?_
  refine lv_ladd (pc := 39) hx hb dJ13_bitCount_95d88_39 ?_
  obtain ⟨v4, e_v4, hf⟩ := letv_some hf
  refine tp_l e_v4 ?_
  refine lv_lstore_n (pc := 40) (lv' := [(0, .long v4)]) hx hb dJ13_bitCount_95d88_40 rfl hl (Nat.le_of_ble_eq_true rfl) rfl (fun ls hl => ?_)
  refine lv_lload_n (pc := 41) hx hb dJ13_bitCount_95d88_41 rfl (lv_at hl 0 rfl) ?_
  refine lv_lload_n (pc := 42) hx hb dJ13_bitCount_95d88_42 rfl (lv_at hl 0 rfl) ?_
  refine lv_bipush (pc := 43) (v := 16) hx hb dJ13_bitCount_95d88_43 bp_16 ?_
  refine lv_lushr (pc := 45) hx hb dJ13_bitCount_95d88_45 rfl ?_
  refine lv_ladd (pc := 46) hx hb dJ13_bitCount_95d88_46 ?_
  obtain ⟨v5, e_v5, hf⟩ := letv_some hf
  refine tp_l e_v5 ?_
  refine lv_lstore_n (pc := 47) (lv' := [(0, .long v5)]) hx hb dJ13_bitCount_95d88_47 rfl hl (Nat.le_of_ble_eq_true rfl) rfl (fun ls hl => ?_)
  refine lv_lload_n (pc := 48) hx hb dJ13_bitCount_95d88_48 rfl (lv_at hl 0 rfl) ?_
  refine lv_lload_n (pc := 49) hx hb dJ13_bitCount_95d88_49 rfl (lv_at hl 0 rfl) ?_
  refine lv_bipush (pc := 50) (v := 32) hx hb dJ13_bitCount_95d88_50 bp_32 ?_
  refine lv_lushr (pc := 52) hx hb dJ13_bitCount_95d88_52 rfl ?_
  refine lv_ladd (pc := 53) hx hb dJ13_bitCount_95d88_53 ?_
  obtain ⟨v6, e_v6, hf⟩ := letv_some hf
  refine tp_l e_v6 ?_
  refine lv_lstore_n (pc := 54) (lv' := [(0, .long v6)]) hx hb dJ13_bitCount_95d88_54 rfl hl (Nat.le_of_ble_eq_true rfl) rfl (fun ls hl => ?_)
  refine lv_lload_n (pc := 55) hx hb dJ13_bitCount_95d88_55 rfl (lv_at hl 0 rfl) ?_
  refine lv_l2i (pc := 56) hx hb dJ13_bitCount_95d88_56 rfl ?_
  refine lv_bipush (pc := 57) (v := 127) hx hb dJ13_bitCount_95d88_57 bp_127 ?_
  refine lv_iand (pc := 59) hx hb dJ13_bitCount_95d88_59 ?_
  have hf := Option.some.inj hf
  subst hf
  exact ret_i C hr hlk hP hS dJ13_bitCount_95d88_60
set_option maxRecDepth 100000 in
theorem c_J13_bitCount_95d88 (l : Launch) (D : va_G) (cA : Nat → ClassId) (x0 : Int64) (r : Int32) (hf : f_J13_bitCount_95d88 x0 = some r) (sz : Nat) : Met l yJ13_bitCount_95d88 (Cond.code yJ13_bitCount_95d88 cJ13_bitCount_95d88 2 (some .int) :: lw_good) rm_J13_bitCount_95d88 (PreX D cA [.long x0] sz ([] : va_W)) (PostI D r ([] : va_W) ([] : va_W) sz) 0 0 (va_A ([] : va_W) sz) :=
  met_of (by decide) (Nat.le_of_ble_eq_true rfl) (fun p e s m args below meth c C hr hlk hA => k_J13_bitCount_95d88 C hr hlk hA x0 r hf)
end
