theorem me_30 : Cond.instantiable RX8 14 ∈ lw_tbl := List.mem_of_getElem? (i := 98) (by decide +kernel)
theorem me_31 : Cond.instantiable RX9 25 ∈ lw_tbl := List.mem_of_getElem? (i := 782) (by decide +kernel)
theorem me_32 : Cond.arrayOver (.object "HedgehogBorder$Text") ∈ lw_tbl := List.mem_of_getElem? (i := 106) (by decide +kernel)
theorem me_33 : Cond.arrayOver (.object "HedgehogBorder$Sheet") ∈ lw_tbl := List.mem_of_getElem? (i := 318) (by decide +kernel)
theorem me_34 : Cond.classLink RL 7 RX8 ∈ lw_tbl := List.mem_of_getElem? (i := 97) (by decide +kernel)
theorem df_X8 : ∀ j, j < 14 → defaultValue (tyX8 j) = vp_V [.null, .null, .null, .null, .null, .null, .null, .null, .null, .null, .null, .null, .int 0, .int 0] j := by
  intro j hj
  rcases (show j = 0 ∨ j = 1 ∨ j = 2 ∨ j = 3 ∨ j = 4 ∨ j = 5 ∨ j = 6 ∨ j = 7 ∨ j = 8 ∨ j = 9 ∨ j = 10 ∨ j = 11 ∨ j = 12 ∨ j = 13 by omega) with rfl | rfl | rfl | rfl | rfl | rfl | rfl | rfl | rfl | rfl | rfl | rfl | rfl | rfl <;> rfl
theorem nf_L_7 : NF RL 7 8 14 [.null, .null, .null, .null, .null, .null, .null, .null, .null, .null, .null, .null, .int 0, .int 0] := ⟨_, _, tyX8, rfl, inX8, tyX8_ok, lg_in me_34 rfl, lg_in me_30 rfl, lg_in mw_167 rfl, df_X8⟩
theorem me_35 : Cond.classLink RL 10 RX9 ∈ lw_tbl := List.mem_of_getElem? (i := 781) (by decide +kernel)
theorem df_X9 : ∀ j, j < 25 → defaultValue (tyX9 j) = vp_V [.null, .null, .null, .null, .int 0, .null, .null, .int 0, .int 0, .null, .int 0, .null, .null, .int 0, .null, .int 0, .null, .int 0, .null, .null, .null, .int 0, .null, .null, .int 0] j := by
  intro j hj
  rcases (show j = 0 ∨ j = 1 ∨ j = 2 ∨ j = 3 ∨ j = 4 ∨ j = 5 ∨ j = 6 ∨ j = 7 ∨ j = 8 ∨ j = 9 ∨ j = 10 ∨ j = 11 ∨ j = 12 ∨ j = 13 ∨ j = 14 ∨ j = 15 ∨ j = 16 ∨ j = 17 ∨ j = 18 ∨ j = 19 ∨ j = 20 ∨ j = 21 ∨ j = 22 ∨ j = 23 ∨ j = 24 by omega) with rfl | rfl | rfl | rfl | rfl | rfl | rfl | rfl | rfl | rfl | rfl | rfl | rfl | rfl | rfl | rfl | rfl | rfl | rfl | rfl | rfl | rfl | rfl | rfl | rfl <;> rfl
theorem nf_L_10 : NF RL 10 9 25 [.null, .null, .null, .null, .int 0, .null, .null, .int 0, .int 0, .null, .int 0, .null, .null, .int 0, .null, .int 0, .null, .int 0, .null, .null, .null, .int 0, .null, .null, .int 0] := ⟨_, _, tyX9, rfl, inX9, tyX9_ok, lg_in me_35 rfl, lg_in me_31 rfl, lg_in mw_457 rfl, df_X9⟩
theorem lw_six : (6 : Int32) = nI 6 := by decide
theorem lw_gt {L i : Nat} {x3 : Int32} (hL : L ≤ 3072) (hlt : L < i + 6) (hi : i ≤ L + 5) (ex : x3 = nI i) : Int32.ofNat L - 6 < x3 := by
  rw [ex, lw_six]
  show nI L - nI 6 < nI i
  rw [Int32.lt_iff_toInt_lt, pk_sub_toInt (by omega) (by omega), nI_toInt (by omega)]
  omega
theorem lw_le {L i : Nat} {x3 : Int32} (hL : L ≤ 3072) (hle : i + 6 ≤ L) (ex : x3 = nI i) : ¬ Int32.ofNat L - 6 < x3 := by
  rw [ex, lw_six]
  show ¬ nI L - nI 6 < nI i
  rw [Int32.lt_iff_toInt_lt, pk_sub_toInt (by omega) (by omega), nI_toInt (by omega)]
  omega
theorem lw_k {L i : Nat} {x3 : Int32} (hL : L ≤ 3072) (hle : i + 6 ≤ L) (ex : x3 = nI i) (k : Int32) (n : Nat) (hk : k = nI n) (hn : n < 6) : vp_in (x3 + k) L := by
  rw [ex, hk, nI_add]
  exact vp_in_nI (by omega) (by omega)
set_option maxHeartbeats 4000000 in
set_option maxRecDepth 100000 in
theorem law_exit {p : Program} {l : Launch} {e : Env} {s : State} {m : MethodId} {below : List Frame} {meth : Method} {c : Code} {D : va_G} {cA : Nat → ClassId} {bs L : Nat} {xs : Nat → Int32} (C : Cx RL code 4 D cA p s m #[Value.ref bs] c) (hr : meth.sig.returnType = ret) (hlk : meth.locks = false) (hX : va_X bs L xs s s.heap) (hbl : bs < s.heap.size) (hbA : ¬ (fun q : Nat => s.heap.size ≤ q) bs) (hL : L ≤ 3072) (a b : Nat → Nat) (xi : Nat → Int32) (xa : Nat → Nat → Int32) (xl : Nat → Int64) (xm : Nat → Nat → Int64) (mi : Nat → Int32) (ma : Nat → Nat → Int32) (i : Nat) (x3 : Int32) (ex : x3 = nI i) (hi : i ≤ L + 5) (hlt : L < i + 6) : At p l e room_1 s m #[Value.ref bs] below meth c D (fun q : Nat => s.heap.size ≤ q) 71 2515 (lw_Z below #[Value.ref bs] s) 4 18 (wl_law cA a b xi xa xl xm mi ma) [(0, .ref bs), (1, .ref (a 0)), (2, .ref (b 0)), (3, .int x3)] [] := by
  intro H locs ls hP hD hS hl
  have hx := C.1
  have hb := C.2.1
  refine lv_iload_n (pc := 18) hx hb dL_law_18 rfl (lv_at hl 3 rfl) ?_
  refine lv_aload_n (pc := 19) hx hb dL_law_19 rfl (lv_at hl 0 rfl) ?_
  refine va_slen (pc := 20) hx hb hX hbl hbA hS dL_law_20 ?_
  refine lv_bipush (pc := 21) (v := 6) hx hb dL_law_21 (by decide) ?_
  refine lv_isub (pc := 23) hx hb dL_law_23 ?_
  refine lv_icmp_gt (pc := 24) (tgt := 1375) hx hb dL_law_24 (by decide) (fun hc => ?_) (fun hc => absurd (lw_gt hL hlt hi ex) hc)
  refine lv_iconst (pc := 1375) (v := 1) hx hb dL_law_1375 (by decide) ?_
  refine va_forget (fun q hq => hS.2.2 q hq) ?_
  refine W.widen (k := 600000) (n := 7302249) (Nat.le_of_ble_eq_true rfl) (Nat.le_of_ble_eq_true rfl) ?_
  exact lw_ret hx hb hr hlk dL_law_1376
set_option maxHeartbeats 4000000 in
set_option maxRecDepth 100000 in
theorem law_loop {p : Program} {l : Launch} {e : Env} {s : State} {m : MethodId} {below : List Frame} {meth : Method} {c : Code} {D : va_G} {cA : Nat → ClassId} {bs L : Nat} {xs : Nat → Int32} (C : Cx RL code 4 D cA p s m #[Value.ref bs] c) (hA : ∀ q, s.heap.size ≤ q → (fun q : Nat => s.heap.size ≤ q) q) (hr : meth.sig.returnType = ret) (hlk : meth.locks = false) (hX : va_X bs L xs s s.heap) (hbl : bs < s.heap.size) (hbA : ¬ (fun q : Nat => s.heap.size ≤ q) bs) (hL : L ≤ 3072) (a b : Nat → Nat) : ∀ (n i : Nat) (x3 : Int32), x3 = nI i → i ≤ L + 5 → L < i + n → ∀ (xi : Nat → Int32) (xa : Nat → Nat → Int32) (xl : Nat → Int64) (xm : Nat → Nat → Int64) (mi : Nat → Int32) (ma : Nat → Nat → Int32), Rel xi xa xl xm mi ma → At p l e room_1 s m #[Value.ref bs] below meth c D (fun q : Nat => s.heap.size ≤ q) 71 2515 (lw_Z below #[Value.ref bs] s) 4 18 (wl_law cA a b xi xa xl xm mi ma) [(0, .ref bs), (1, .ref (a 0)), (2, .ref (b 0)), (3, .int x3)] [] := by
  intro n
  induction n with
  | zero => intro i x3 ex hi hn xi xa xl xm mi ma h; exact law_exit C hr hlk hX hbl hbA hL a b xi xa xl xm mi ma i x3 ex hi (by omega)
  | succ n ih =>
    intro i x3 ex hi hn xi xa xl xm mi ma h
    by_cases hgt : L < i + 6
    · exact law_exit C hr hlk hX hbl hbA hL a b xi xa xl xm mi ma i x3 ex hi hgt
    have hle : i + 6 ≤ L := by omega
    have hx := C.1
    have hb := C.2.1
    have hn : ∀ (xi : Nat → Int32) (xa : Nat → Nat → Int32) (xl : Nat → Int64) (xm : Nat → Nat → Int64) (mi : Nat → Int32) (ma : Nat → Nat → Int32), Rel xi xa xl xm mi ma → At p l e room_1 s m #[Value.ref bs] below meth c D (fun q : Nat => s.heap.size ≤ q) 71 2515 (lw_Z below #[Value.ref bs] s) 4 1369 (wl_law cA a b xi xa xl xm mi ma) [(0, .ref bs), (1, .ref (a 0)), (2, .ref (b 0)), (3, .int x3)] [] := by
      intro xi xa xl xm mi ma h H locs ls hP hD hS hl
      refine lv_iinc (pc := 1369) (v := x3 + 6) (lv' := [(3, .int (x3 + 6)), (0, .ref bs), (1, .ref (a 0)), (2, .ref (b 0))]) hx hb dL_law_1369 hl (k := 3) rfl rfl (Nat.le_of_ble_eq_true rfl) rfl (fun ls hl => ?_)
      refine lv_goto (pc := 1372) (tgt := 18) hx hb dL_law_1372 (by decide) ?_
      exact ih (i + 6) (x3 + 6) (by rw [ex, lw_six, nI_add]) (by omega) (by omega) xi xa xl xm mi ma h H locs ls hP hD hS (lv_sub hl [1, 2, 3, 0] rfl)
    intro H locs ls hP hD hS hl
    refine lv_iload_n (pc := 18) hx hb dL_law_18 rfl (lv_at hl 3 rfl) ?_
    refine lv_aload_n (pc := 19) hx hb dL_law_19 rfl (lv_at hl 0 rfl) ?_
    refine va_slen (pc := 20) hx hb hX hbl hbA hS dL_law_20 ?_
    refine lv_bipush (pc := 21) (v := 6) hx hb dL_law_21 (by decide) ?_
    refine lv_isub (pc := 23) hx hb dL_law_23 ?_
    refine lv_icmp_gt (pc := 24) (tgt := 1375) hx hb dL_law_24 (by decide) (fun hc => absurd hc (lw_le hL hle ex)) (fun hc => ?_)
    refine lv_aload_n (pc := 27) hx hb dL_law_27 rfl (lv_at hl 0 rfl) ?_
    refine lv_iload_n (pc := 28) hx hb dL_law_28 rfl (lv_at hl 3 rfl) ?_
    refine va_sld (pc := 29) hx hb hX hbl hbA hS (by rw [ex]; exact vp_in_nI (by omega) (by omega)) dL_law_29 ?_
    refine lv_bipush (pc := 30) (v := 63) hx hb dL_law_30 (by decide) ?_
    refine lv_iand (pc := 32) hx hb dL_law_32 ?_
    obtain ⟨j, hj, ej⟩ := pk_andE (xs x3.toNatClampNeg) (m := 63) 6 (by decide)
    refine tp_i ej.symm ?_
    rcases (show j = 0 ∨ j = 1 ∨ j = 2 ∨ j = 3 ∨ j = 4 ∨ j = 5 ∨ j = 6 ∨ j = 7 ∨ j = 8 ∨ j = 9 ∨ j = 10 ∨ j = 11 ∨ j = 12 ∨ j = 13 ∨ j = 14 ∨ j = 15 ∨ j = 16 ∨ j = 17 ∨ j = 18 ∨ j = 19 ∨ j = 20 ∨ j = 21 ∨ j = 22 ∨ j = 23 ∨ j = 24 ∨ j = 25 ∨ j = 26 ∨ j = 27 ∨ j = 28 ∨ j = 29 ∨ j = 30 ∨ j = 31 ∨ j = 32 ∨ j = 33 ∨ j = 34 ∨ j = 35 ∨ j = 36 ∨ 36 < j by omega) with rfl | rfl | rfl | rfl | rfl | rfl | rfl | rfl | rfl | rfl | rfl | rfl | rfl | rfl | rfl | rfl | rfl | rfl | rfl | rfl | rfl | rfl | rfl | rfl | rfl | rfl | rfl | rfl | rfl | rfl | rfl | rfl | rfl | rfl | rfl | rfl | rfl | hj2
    · refine lv_tableIn (pc := 33) (off := 163) (tgt := 196) hx hb dL_law_33 (by decide) (by decide) (by decide) (by decide) ?_
      exact lc_0 C hA hX hbl hbA (lw_k hL hle ex 1 1 (by decide) (by omega)) (lw_k hL hle ex 2 2 (by decide) (by omega)) (lw_k hL hle ex 3 3 (by decide) (by omega)) (lw_k hL hle ex 4 4 (by decide) (by omega)) (lw_k hL hle ex 5 5 (by decide) (by omega)) a b xi xa xl xm mi ma h hn H locs ls hP hD hS hl
    · refine lv_tableIn (pc := 33) (off := 196) (tgt := 229) hx hb dL_law_33 (by decide) (by decide) (by decide) (by decide) ?_
      exact lc_1 C hA hX hbl hbA (lw_k hL hle ex 1 1 (by decide) (by omega)) (lw_k hL hle ex 2 2 (by decide) (by omega)) (lw_k hL hle ex 3 3 (by decide) (by omega)) (lw_k hL hle ex 4 4 (by decide) (by omega)) (lw_k hL hle ex 5 5 (by decide) (by omega)) a b xi xa xl xm mi ma h hn H locs ls hP hD hS hl
    · refine lv_tableIn (pc := 33) (off := 219) (tgt := 252) hx hb dL_law_33 (by decide) (by decide) (by decide) (by decide) ?_
      exact lc_2 C hA hX hbl hbA (lw_k hL hle ex 1 1 (by decide) (by omega)) (lw_k hL hle ex 2 2 (by decide) (by omega)) (lw_k hL hle ex 3 3 (by decide) (by omega)) (lw_k hL hle ex 4 4 (by decide) (by omega)) (lw_k hL hle ex 5 5 (by decide) (by omega)) a b xi xa xl xm mi ma h hn H locs ls hP hD hS hl
    · refine lv_tableIn (pc := 33) (off := 242) (tgt := 275) hx hb dL_law_33 (by decide) (by decide) (by decide) (by decide) ?_
      exact lc_3 C hA hX hbl hbA (lw_k hL hle ex 1 1 (by decide) (by omega)) (lw_k hL hle ex 2 2 (by decide) (by omega)) (lw_k hL hle ex 3 3 (by decide) (by omega)) (lw_k hL hle ex 4 4 (by decide) (by omega)) (lw_k hL hle ex 5 5 (by decide) (by omega)) a b xi xa xl xm mi ma h hn H locs ls hP hD hS hl
    · refine lv_tableIn (pc := 33) (off := 265) (tgt := 298) hx hb dL_law_33 (by decide) (by decide) (by decide) (by decide) ?_
      exact lc_4 C hA hX hbl hbA (lw_k hL hle ex 1 1 (by decide) (by omega)) (lw_k hL hle ex 2 2 (by decide) (by omega)) (lw_k hL hle ex 3 3 (by decide) (by omega)) (lw_k hL hle ex 4 4 (by decide) (by omega)) (lw_k hL hle ex 5 5 (by decide) (by omega)) a b xi xa xl xm mi ma h hn H locs ls hP hD hS hl
    · refine lv_tableIn (pc := 33) (off := 288) (tgt := 321) hx hb dL_law_33 (by decide) (by decide) (by decide) (by decide) ?_
      exact lc_5 C hA hX hbl hbA (lw_k hL hle ex 1 1 (by decide) (by omega)) (lw_k hL hle ex 2 2 (by decide) (by omega)) (lw_k hL hle ex 3 3 (by decide) (by omega)) (lw_k hL hle ex 4 4 (by decide) (by omega)) (lw_k hL hle ex 5 5 (by decide) (by omega)) a b xi xa xl xm mi ma h hn H locs ls hP hD hS hl
    · refine lv_tableIn (pc := 33) (off := 321) (tgt := 354) hx hb dL_law_33 (by decide) (by decide) (by decide) (by decide) ?_
      exact lc_6 C hA hX hbl hbA (lw_k hL hle ex 1 1 (by decide) (by omega)) (lw_k hL hle ex 2 2 (by decide) (by omega)) (lw_k hL hle ex 3 3 (by decide) (by omega)) (lw_k hL hle ex 4 4 (by decide) (by omega)) (lw_k hL hle ex 5 5 (by decide) (by omega)) a b xi xa xl xm mi ma h hn H locs ls hP hD hS hl
    · refine lv_tableIn (pc := 33) (off := 354) (tgt := 387) hx hb dL_law_33 (by decide) (by decide) (by decide) (by decide) ?_
      exact lc_7 C hA hX hbl hbA (lw_k hL hle ex 1 1 (by decide) (by omega)) (lw_k hL hle ex 2 2 (by decide) (by omega)) (lw_k hL hle ex 3 3 (by decide) (by omega)) (lw_k hL hle ex 4 4 (by decide) (by omega)) (lw_k hL hle ex 5 5 (by decide) (by omega)) a b xi xa xl xm mi ma h hn H locs ls hP hD hS hl
    · refine lv_tableIn (pc := 33) (off := 387) (tgt := 420) hx hb dL_law_33 (by decide) (by decide) (by decide) (by decide) ?_
      exact lc_8 C hA hX hbl hbA (lw_k hL hle ex 1 1 (by decide) (by omega)) (lw_k hL hle ex 2 2 (by decide) (by omega)) (lw_k hL hle ex 3 3 (by decide) (by omega)) (lw_k hL hle ex 4 4 (by decide) (by omega)) (lw_k hL hle ex 5 5 (by decide) (by omega)) a b xi xa xl xm mi ma h hn H locs ls hP hD hS hl
    · refine lv_tableIn (pc := 33) (off := 420) (tgt := 453) hx hb dL_law_33 (by decide) (by decide) (by decide) (by decide) ?_
      exact lc_9 C hA hX hbl hbA (lw_k hL hle ex 1 1 (by decide) (by omega)) (lw_k hL hle ex 2 2 (by decide) (by omega)) (lw_k hL hle ex 3 3 (by decide) (by omega)) (lw_k hL hle ex 4 4 (by decide) (by omega)) (lw_k hL hle ex 5 5 (by decide) (by omega)) a b xi xa xl xm mi ma h hn H locs ls hP hD hS hl
    · refine lv_tableIn (pc := 33) (off := 443) (tgt := 476) hx hb dL_law_33 (by decide) (by decide) (by decide) (by decide) ?_
      exact lc_10 C hA hX hbl hbA (lw_k hL hle ex 1 1 (by decide) (by omega)) (lw_k hL hle ex 2 2 (by decide) (by omega)) (lw_k hL hle ex 3 3 (by decide) (by omega)) (lw_k hL hle ex 4 4 (by decide) (by omega)) (lw_k hL hle ex 5 5 (by decide) (by omega)) a b xi xa xl xm mi ma h hn H locs ls hP hD hS hl
    · refine lv_tableIn (pc := 33) (off := 466) (tgt := 499) hx hb dL_law_33 (by decide) (by decide) (by decide) (by decide) ?_
      exact lc_11 C hA hX hbl hbA (lw_k hL hle ex 1 1 (by decide) (by omega)) (lw_k hL hle ex 2 2 (by decide) (by omega)) (lw_k hL hle ex 3 3 (by decide) (by omega)) (lw_k hL hle ex 4 4 (by decide) (by omega)) (lw_k hL hle ex 5 5 (by decide) (by omega)) a b xi xa xl xm mi ma h hn H locs ls hP hD hS hl
    · refine lv_tableIn (pc := 33) (off := 499) (tgt := 532) hx hb dL_law_33 (by decide) (by decide) (by decide) (by decide) ?_
      exact lc_12 C hA hX hbl hbA (lw_k hL hle ex 1 1 (by decide) (by omega)) (lw_k hL hle ex 2 2 (by decide) (by omega)) (lw_k hL hle ex 3 3 (by decide) (by omega)) (lw_k hL hle ex 4 4 (by decide) (by omega)) (lw_k hL hle ex 5 5 (by decide) (by omega)) a b xi xa xl xm mi ma h hn H locs ls hP hD hS hl
    · refine lv_tableIn (pc := 33) (off := 522) (tgt := 555) hx hb dL_law_33 (by decide) (by decide) (by decide) (by decide) ?_
      exact lc_13 C hA hX hbl hbA (lw_k hL hle ex 1 1 (by decide) (by omega)) (lw_k hL hle ex 2 2 (by decide) (by omega)) (lw_k hL hle ex 3 3 (by decide) (by omega)) (lw_k hL hle ex 4 4 (by decide) (by omega)) (lw_k hL hle ex 5 5 (by decide) (by omega)) a b xi xa xl xm mi ma h hn H locs ls hP hD hS hl
    · refine lv_tableIn (pc := 33) (off := 555) (tgt := 588) hx hb dL_law_33 (by decide) (by decide) (by decide) (by decide) ?_
      exact lc_14 C hA hX hbl hbA (lw_k hL hle ex 1 1 (by decide) (by omega)) (lw_k hL hle ex 2 2 (by decide) (by omega)) (lw_k hL hle ex 3 3 (by decide) (by omega)) (lw_k hL hle ex 4 4 (by decide) (by omega)) (lw_k hL hle ex 5 5 (by decide) (by omega)) a b xi xa xl xm mi ma h hn H locs ls hP hD hS hl
    · refine lv_tableIn (pc := 33) (off := 588) (tgt := 621) hx hb dL_law_33 (by decide) (by decide) (by decide) (by decide) ?_
      exact lc_15 C hA hX hbl hbA (lw_k hL hle ex 1 1 (by decide) (by omega)) (lw_k hL hle ex 2 2 (by decide) (by omega)) (lw_k hL hle ex 3 3 (by decide) (by omega)) (lw_k hL hle ex 4 4 (by decide) (by omega)) (lw_k hL hle ex 5 5 (by decide) (by omega)) a b xi xa xl xm mi ma h hn H locs ls hP hD hS hl
    · refine lv_tableIn (pc := 33) (off := 621) (tgt := 654) hx hb dL_law_33 (by decide) (by decide) (by decide) (by decide) ?_
      exact lc_16 C hA hX hbl hbA (lw_k hL hle ex 1 1 (by decide) (by omega)) (lw_k hL hle ex 2 2 (by decide) (by omega)) (lw_k hL hle ex 3 3 (by decide) (by omega)) (lw_k hL hle ex 4 4 (by decide) (by omega)) (lw_k hL hle ex 5 5 (by decide) (by omega)) a b xi xa xl xm mi ma h hn H locs ls hP hD hS hl
    · refine lv_tableIn (pc := 33) (off := 644) (tgt := 677) hx hb dL_law_33 (by decide) (by decide) (by decide) (by decide) ?_
      exact lc_17 C hA hX hbl hbA (lw_k hL hle ex 1 1 (by decide) (by omega)) (lw_k hL hle ex 2 2 (by decide) (by omega)) (lw_k hL hle ex 3 3 (by decide) (by omega)) (lw_k hL hle ex 4 4 (by decide) (by omega)) (lw_k hL hle ex 5 5 (by decide) (by omega)) a b xi xa xl xm mi ma h hn H locs ls hP hD hS hl
    · refine lv_tableIn (pc := 33) (off := 677) (tgt := 710) hx hb dL_law_33 (by decide) (by decide) (by decide) (by decide) ?_
      exact lc_18 C hA hX hbl hbA (lw_k hL hle ex 1 1 (by decide) (by omega)) (lw_k hL hle ex 2 2 (by decide) (by omega)) (lw_k hL hle ex 3 3 (by decide) (by omega)) (lw_k hL hle ex 4 4 (by decide) (by omega)) (lw_k hL hle ex 5 5 (by decide) (by omega)) a b xi xa xl xm mi ma h hn H locs ls hP hD hS hl
    · refine lv_tableIn (pc := 33) (off := 700) (tgt := 733) hx hb dL_law_33 (by decide) (by decide) (by decide) (by decide) ?_
      exact lc_19 C hA hX hbl hbA (lw_k hL hle ex 1 1 (by decide) (by omega)) (lw_k hL hle ex 2 2 (by decide) (by omega)) (lw_k hL hle ex 3 3 (by decide) (by omega)) (lw_k hL hle ex 4 4 (by decide) (by omega)) (lw_k hL hle ex 5 5 (by decide) (by omega)) a b xi xa xl xm mi ma h hn H locs ls hP hD hS hl
    · refine lv_tableIn (pc := 33) (off := 753) (tgt := 786) hx hb dL_law_33 (by decide) (by decide) (by decide) (by decide) ?_
      exact lc_20 C hA hX hbl hbA (lw_k hL hle ex 1 1 (by decide) (by omega)) (lw_k hL hle ex 2 2 (by decide) (by omega)) (lw_k hL hle ex 3 3 (by decide) (by omega)) (lw_k hL hle ex 4 4 (by decide) (by omega)) (lw_k hL hle ex 5 5 (by decide) (by omega)) a b xi xa xl xm mi ma h hn H locs ls hP hD hS hl
    · refine lv_tableIn (pc := 33) (off := 796) (tgt := 829) hx hb dL_law_33 (by decide) (by decide) (by decide) (by decide) ?_
      exact lc_21 C hA hX hbl hbA (lw_k hL hle ex 1 1 (by decide) (by omega)) (lw_k hL hle ex 2 2 (by decide) (by omega)) (lw_k hL hle ex 3 3 (by decide) (by omega)) (lw_k hL hle ex 4 4 (by decide) (by omega)) (lw_k hL hle ex 5 5 (by decide) (by omega)) a b xi xa xl xm mi ma h hn H locs ls hP hD hS hl
    · refine lv_tableIn (pc := 33) (off := 829) (tgt := 862) hx hb dL_law_33 (by decide) (by decide) (by decide) (by decide) ?_
      exact lc_22 C hA hX hbl hbA (lw_k hL hle ex 1 1 (by decide) (by omega)) (lw_k hL hle ex 2 2 (by decide) (by omega)) (lw_k hL hle ex 3 3 (by decide) (by omega)) (lw_k hL hle ex 4 4 (by decide) (by omega)) (lw_k hL hle ex 5 5 (by decide) (by omega)) a b xi xa xl xm mi ma h hn H locs ls hP hD hS hl
    · refine lv_tableIn (pc := 33) (off := 872) (tgt := 905) hx hb dL_law_33 (by decide) (by decide) (by decide) (by decide) ?_
      exact lc_23 C hA hX hbl hbA (lw_k hL hle ex 1 1 (by decide) (by omega)) (lw_k hL hle ex 2 2 (by decide) (by omega)) (lw_k hL hle ex 3 3 (by decide) (by omega)) (lw_k hL hle ex 4 4 (by decide) (by omega)) (lw_k hL hle ex 5 5 (by decide) (by omega)) a b xi xa xl xm mi ma h hn H locs ls hP hD hS hl
    · refine lv_tableIn (pc := 33) (off := 885) (tgt := 918) hx hb dL_law_33 (by decide) (by decide) (by decide) (by decide) ?_
      exact lc_24 C hA hX hbl hbA (lw_k hL hle ex 1 1 (by decide) (by omega)) (lw_k hL hle ex 2 2 (by decide) (by omega)) (lw_k hL hle ex 3 3 (by decide) (by omega)) (lw_k hL hle ex 4 4 (by decide) (by omega)) (lw_k hL hle ex 5 5 (by decide) (by omega)) a b xi xa xl xm mi ma h hn H locs ls hP hD hS hl
    · refine lv_tableIn (pc := 33) (off := 898) (tgt := 931) hx hb dL_law_33 (by decide) (by decide) (by decide) (by decide) ?_
      exact lc_25 C hA hX hbl hbA (lw_k hL hle ex 1 1 (by decide) (by omega)) (lw_k hL hle ex 2 2 (by decide) (by omega)) (lw_k hL hle ex 3 3 (by decide) (by omega)) (lw_k hL hle ex 4 4 (by decide) (by omega)) (lw_k hL hle ex 5 5 (by decide) (by omega)) a b xi xa xl xm mi ma h hn H locs ls hP hD hS hl
    · refine lv_tableIn (pc := 33) (off := 911) (tgt := 944) hx hb dL_law_33 (by decide) (by decide) (by decide) (by decide) ?_
      exact lc_26 C hA hX hbl hbA (lw_k hL hle ex 1 1 (by decide) (by omega)) (lw_k hL hle ex 2 2 (by decide) (by omega)) (lw_k hL hle ex 3 3 (by decide) (by omega)) (lw_k hL hle ex 4 4 (by decide) (by omega)) (lw_k hL hle ex 5 5 (by decide) (by omega)) a b xi xa xl xm mi ma h hn H locs ls hP hD hS hl
    · refine lv_tableIn (pc := 33) (off := 934) (tgt := 967) hx hb dL_law_33 (by decide) (by decide) (by decide) (by decide) ?_
      exact lc_27 C hA hX hbl hbA (lw_k hL hle ex 1 1 (by decide) (by omega)) (lw_k hL hle ex 2 2 (by decide) (by omega)) (lw_k hL hle ex 3 3 (by decide) (by omega)) (lw_k hL hle ex 4 4 (by decide) (by omega)) (lw_k hL hle ex 5 5 (by decide) (by omega)) a b xi xa xl xm mi ma h hn H locs ls hP hD hS hl
    · refine lv_tableIn (pc := 33) (off := 998) (tgt := 1031) hx hb dL_law_33 (by decide) (by decide) (by decide) (by decide) ?_
      exact lc_28 C hA hX hbl hbA (lw_k hL hle ex 1 1 (by decide) (by omega)) (lw_k hL hle ex 2 2 (by decide) (by omega)) (lw_k hL hle ex 3 3 (by decide) (by omega)) (lw_k hL hle ex 4 4 (by decide) (by omega)) (lw_k hL hle ex 5 5 (by decide) (by omega)) a b xi xa xl xm mi ma h hn H locs ls hP hD hS hl
    · refine lv_tableIn (pc := 33) (off := 1041) (tgt := 1074) hx hb dL_law_33 (by decide) (by decide) (by decide) (by decide) ?_
      exact lc_29 C hA hX hbl hbA (lw_k hL hle ex 1 1 (by decide) (by omega)) (lw_k hL hle ex 2 2 (by decide) (by omega)) (lw_k hL hle ex 3 3 (by decide) (by omega)) (lw_k hL hle ex 4 4 (by decide) (by omega)) (lw_k hL hle ex 5 5 (by decide) (by omega)) a b xi xa xl xm mi ma h hn H locs ls hP hD hS hl
    · refine lv_tableIn (pc := 33) (off := 1084) (tgt := 1117) hx hb dL_law_33 (by decide) (by decide) (by decide) (by decide) ?_
      exact lc_30 C hA hX hbl hbA (lw_k hL hle ex 1 1 (by decide) (by omega)) (lw_k hL hle ex 2 2 (by decide) (by omega)) (lw_k hL hle ex 3 3 (by decide) (by omega)) (lw_k hL hle ex 4 4 (by decide) (by omega)) (lw_k hL hle ex 5 5 (by decide) (by omega)) a b xi xa xl xm mi ma h hn H locs ls hP hD hS hl
    · refine lv_tableIn (pc := 33) (off := 1107) (tgt := 1140) hx hb dL_law_33 (by decide) (by decide) (by decide) (by decide) ?_
      exact lc_31 C hA hX hbl hbA (lw_k hL hle ex 1 1 (by decide) (by omega)) (lw_k hL hle ex 2 2 (by decide) (by omega)) (lw_k hL hle ex 3 3 (by decide) (by omega)) (lw_k hL hle ex 4 4 (by decide) (by omega)) (lw_k hL hle ex 5 5 (by decide) (by omega)) a b xi xa xl xm mi ma h hn H locs ls hP hD hS hl
    · refine lv_tableIn (pc := 33) (off := 1160) (tgt := 1193) hx hb dL_law_33 (by decide) (by decide) (by decide) (by decide) ?_
      exact lc_32 C hA hX hbl hbA (lw_k hL hle ex 1 1 (by decide) (by omega)) (lw_k hL hle ex 2 2 (by decide) (by omega)) (lw_k hL hle ex 3 3 (by decide) (by omega)) (lw_k hL hle ex 4 4 (by decide) (by omega)) (lw_k hL hle ex 5 5 (by decide) (by omega)) a b xi xa xl xm mi ma h hn H locs ls hP hD hS hl
    · refine lv_tableIn (pc := 33) (off := 1203) (tgt := 1236) hx hb dL_law_33 (by decide) (by decide) (by decide) (by decide) ?_
      exact lc_33 C hA hX hbl hbA (lw_k hL hle ex 1 1 (by decide) (by omega)) (lw_k hL hle ex 2 2 (by decide) (by omega)) (lw_k hL hle ex 3 3 (by decide) (by omega)) (lw_k hL hle ex 4 4 (by decide) (by omega)) (lw_k hL hle ex 5 5 (by decide) (by omega)) a b xi xa xl xm mi ma h hn H locs ls hP hD hS hl
    · refine lv_tableIn (pc := 33) (off := 1266) (tgt := 1299) hx hb dL_law_33 (by decide) (by decide) (by decide) (by decide) ?_
      exact lc_34 C hA hX hbl hbA (lw_k hL hle ex 1 1 (by decide) (by omega)) (lw_k hL hle ex 2 2 (by decide) (by omega)) (lw_k hL hle ex 3 3 (by decide) (by omega)) (lw_k hL hle ex 4 4 (by decide) (by omega)) (lw_k hL hle ex 5 5 (by decide) (by omega)) a b xi xa xl xm mi ma h hn H locs ls hP hD hS hl
    · refine lv_tableIn (pc := 33) (off := 1299) (tgt := 1332) hx hb dL_law_33 (by decide) (by decide) (by decide) (by decide) ?_
      exact lc_35 C hA hX hbl hbA (lw_k hL hle ex 1 1 (by decide) (by omega)) (lw_k hL hle ex 2 2 (by decide) (by omega)) (lw_k hL hle ex 3 3 (by decide) (by omega)) (lw_k hL hle ex 4 4 (by decide) (by omega)) (lw_k hL hle ex 5 5 (by decide) (by omega)) a b xi xa xl xm mi ma h hn H locs ls hP hD hS hl
    · refine lv_tableIn (pc := 33) (off := 1322) (tgt := 1355) hx hb dL_law_33 (by decide) (by decide) (by decide) (by decide) ?_
      exact lc_36 C hA hX hbl hbA (lw_k hL hle ex 1 1 (by decide) (by omega)) (lw_k hL hle ex 2 2 (by decide) (by omega)) (lw_k hL hle ex 3 3 (by decide) (by omega)) (lw_k hL hle ex 4 4 (by decide) (by omega)) (lw_k hL hle ex 5 5 (by decide) (by omega)) a b xi xa xl xm mi ma h hn H locs ls hP hD hS hl
    · refine lv_tableOut (pc := 33) (tgt := 1369) hx hb dL_law_33 (Or.inr (by rw [nI_toInt (by omega)]; omega)) (by decide) ?_
      exact hn xi xa xl xm mi ma h H locs ls hP hD hS hl
