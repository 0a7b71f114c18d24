set_option maxHeartbeats 4000000 in
set_option maxRecDepth 100000 in
theorem lc_13 {p : Program} {l : Launch} {e : Env} {s : State} {m : MethodId} {below : List Frame} {meth : Method} {c : Code} {D : va_G} {cA : Nat → ClassId} {bs L : Nat} {xs : Nat → Int32} {Q : State → Prop} (C : Cx RL code 4 D cA p s m #[Value.ref bs] c) (hA : ∀ q, s.heap.size ≤ q → (fun q : Nat => s.heap.size ≤ q) q) (hX : va_X bs L xs s s.heap) (hbl : bs < s.heap.size) (hbA : ¬ (fun q : Nat => s.heap.size ≤ q) bs) {x3 : Int32} (hi1 : vp_in (x3 + 1) L) (hi2 : vp_in (x3 + 2) L) (hi3 : vp_in (x3 + 3) L) (hi4 : vp_in (x3 + 4) L) (hi5 : vp_in (x3 + 5) L) (a b : Nat → Nat) (xi : Nat → Int32) (xa : Nat → Nat → Int32) (xl : Nat → Int64) (xm : Nat → Nat → Int64) (mi : Nat → Int32) (ma : Nat → Nat → Int32) (h : Rel xi xa xl xm mi ma) (hn : ∀ (xi : Nat → Int32) (xa : Nat → Nat → Int32) (xl : Nat → Int64) (xm : Nat → Nat → Int64) (mi : Nat → Int32) (ma : Nat → Nat → Int32), Rel xi xa xl xm mi ma → At p l e room_1 s m #[Value.ref bs] below meth c D (fun q : Nat => s.heap.size ≤ q) 71 2515 Q 4 1369 (wl_law cA a b xi xa xl xm mi ma) [(0, .ref bs), (1, .ref (a 0)), (2, .ref (b 0)), (3, .int x3)] []) : At p l e room_1 s m #[Value.ref bs] below meth c D (fun q : Nat => s.heap.size ≤ q) 71 2515 Q 4 555 (wl_law cA a b xi xa xl xm mi ma) [(0, .ref bs), (1, .ref (a 0)), (2, .ref (b 0)), (3, .int x3)] [] := by
  intro H locs ls hP hD hS hl
  have hx := C.1
  have hb := C.2.1
  have hown := C.2.2.2.1
  have hts := C.2.2.2.2.1
  obtain ⟨r, c1, c2, c3, c4, c5, c6, c7, d1, d2, d3, d4, d5, d6, d7, d8, hq1, hq2, hrel⟩ := sim_line h (xs (x3 + 1).toNatClampNeg) (xs (x3 + 2).toNatClampNeg)
  refine lv_aload_n (pc := 555) hx hb dL_law_555 rfl (lv_at hl 1 rfl) ?_
  refine lv_aload_n (pc := 556) hx hb dL_law_556 rfl (lv_at hl 0 rfl) ?_
  refine lv_iload_n (pc := 557) hx hb dL_law_557 rfl (lv_at hl 3 rfl) ?_
  refine lv_iconst (pc := 558) (v := 1) hx hb dL_law_558 ic_1 ?_
  refine lv_iadd (pc := 559) hx hb dL_law_559 ?_
  refine va_sld (pc := 560) hx hb hX hbl hbA hS hi1 dL_law_560 ?_
  refine lv_aload_n (pc := 561) hx hb dL_law_561 rfl (lv_at hl 0 rfl) ?_
  refine lv_iload_n (pc := 562) hx hb dL_law_562 rfl (lv_at hl 3 rfl) ?_
  refine lv_iconst (pc := 563) (v := 2) hx hb dL_law_563 ic_2 ?_
  refine lv_iadd (pc := 564) hx hb dL_law_564 ?_
  refine va_sld (pc := 565) hx hb hX hbl hbA hS hi2 dL_law_565 ?_
  refine fin2_i (wl_law cA a b (va_up xi 0 c1) (va_up (va_up (va_up (va_up (va_up xa 18 c2) 19 c3) 20 c4) 21 c5) 22 c7) xl (va_up xm 0 c6) mi ma) (run_V (rest := []) (pc := 566) (As := [.int (xs (x3 + 1).toNatClampNeg), .int (xs (x3 + 2).toNatClampNeg)]) C mf_L_67 (c_X8_line l D cA a (xi 0) (xi 1) (xi 4) (xi 5) (xi 6) (xi 7) (xa 2) (xa 3) (xa 4) (xa 5) (xa 6) (xi 10) (xa 9) (xa 10) (xi 11) (xa 12) (xa 13) (xi 13) (xi 14) (xi 15) (xi 16) (xa 18) (xa 19) (xa 20) (xa 21) (xm 0) (xa 22) (xs (x3 + 1).toNatClampNeg) (xs (x3 + 2).toNatClampNeg) (r, c1, c2, c3, c4, c5, c6, c7) hq1 H.size) rfl rfl ⟨(Nat.le_of_ble_eq_true rfl), (Nat.le_of_ble_eq_true rfl)⟩ (preV_of C hP hD [0, 6, 7, 8, 9, 10, 11, 15, 16, 17, 19, 20, 21, 27, 28, 29, 30, 31, 32, 33] rfl (pl_nd pw_19) 0 rfl rfl rfl) rfl hl.1 rfl (Nat.le_of_ble_eq_true rfl) dL_law_566 ⟨(Nat.le_of_ble_eq_true rfl), (Nat.le_of_ble_eq_true rfl)⟩) hP hD hS hA [0, 6, 7, 8, 9, 10, 11, 15, 16, 17, 19, 20, 21, 27, 28, 29, 30, 31, 32, 33] [1, 2, 3, 4, 5, 12, 13, 14, 18, 22, 23, 24, 25, 26, 34, 35, 36, 37, 38, 39, 40, 41, 42, 43, 44, 45, 46, 47, 48, 49, 50, 51, 52, 53, 54, 55, 56, 57, 58, 59, 60, 61, 62, 63, 64, 65, 66, 67, 68, 69, 70] rfl rfl rfl rfl pw_19 (fun H locs hP hS => ?_)
  have hD : va_D (fun q : Nat => s.heap.size ≤ q) (wl_law cA a b (va_up xi 0 c1) (va_up (va_up (va_up (va_up (va_up xa 18 c2) 19 c3) 20 c4) 21 c5) 22 c7) xl (va_up xm 0 c6) mi ma) := vd_a hD rfl
  refine lv_aload_n (pc := 569) hx hb dL_law_569 rfl (lv_at hl 2 rfl) ?_
  refine lv_aload_n (pc := 570) hx hb dL_law_570 rfl (lv_at hl 0 rfl) ?_
  refine lv_iload_n (pc := 571) hx hb dL_law_571 rfl (lv_at hl 3 rfl) ?_
  refine lv_iconst (pc := 572) (v := 1) hx hb dL_law_572 ic_1 ?_
  refine lv_iadd (pc := 573) hx hb dL_law_573 ?_
  refine va_sld (pc := 574) hx hb hX hbl hbA hS hi1 dL_law_574 ?_
  refine lv_aload_n (pc := 575) hx hb dL_law_575 rfl (lv_at hl 0 rfl) ?_
  refine lv_iload_n (pc := 576) hx hb dL_law_576 rfl (lv_at hl 3 rfl) ?_
  refine lv_iconst (pc := 577) (v := 2) hx hb dL_law_577 ic_2 ?_
  refine lv_iadd (pc := 578) hx hb dL_law_578 ?_
  refine va_sld (pc := 579) hx hb hX hbl hbA hS hi2 dL_law_579 ?_
  refine fin2_i (wl_law cA a b (va_up xi 0 c1) (va_up (va_up (va_up (va_up (va_up xa 18 c2) 19 c3) 20 c4) 21 c5) 22 c7) xl (va_up xm 0 c6) (va_up (va_up (va_up mi 1 d1) 2 d2) 3 d3) (va_up (va_up (va_up (va_up (va_up ma 6 d4) 7 d5) 11 d6) 12 d7) 13 d8)) (run_V (rest := [.int r]) (pc := 580) (As := [.int (xs (x3 + 1).toNatClampNeg), .int (xs (x3 + 2).toNatClampNeg)]) C mf_L_70 (c_X9_line l D cA b (mi 0) (mi 1) (mi 2) (mi 3) (mi 4) (mi 5) (mi 6) (mi 7) (mi 8) (ma 4) (ma 5) (ma 6) (ma 7) (ma 8) (ma 9) (ma 10) (ma 11) (ma 12) (ma 13) (xs (x3 + 1).toNatClampNeg) (xs (x3 + 2).toNatClampNeg) (r, d1, d2, d3, d4, d5, d6, d7, d8) hq2 H.size) rfl rfl ⟨(Nat.le_of_ble_eq_true rfl), (Nat.le_of_ble_eq_true rfl)⟩ (preV_of C hP hD [54, 59, 60, 61, 62, 63, 64, 65, 66, 67, 68] rfl (pl_nd pw_20) 0 rfl rfl rfl) rfl hl.1 rfl (Nat.le_of_ble_eq_true rfl) dL_law_580 ⟨(Nat.le_of_ble_eq_true rfl), (Nat.le_of_ble_eq_true rfl)⟩) hP hD hS hA [54, 59, 60, 61, 62, 63, 64, 65, 66, 67, 68] [0, 1, 2, 3, 4, 5, 6, 7, 8, 9, 10, 11, 12, 13, 14, 15, 16, 17, 18, 19, 20, 21, 22, 23, 24, 25, 26, 27, 28, 29, 30, 31, 32, 33, 34, 35, 36, 37, 38, 39, 40, 41, 42, 43, 44, 45, 46, 47, 48, 49, 50, 51, 52, 53, 55, 56, 57, 58, 69, 70] rfl rfl rfl rfl pw_20 (fun H locs hP hS => ?_)
  have hD : va_D (fun q : Nat => s.heap.size ≤ q) (wl_law cA a b (va_up xi 0 c1) (va_up (va_up (va_up (va_up (va_up xa 18 c2) 19 c3) 20 c4) 21 c5) 22 c7) xl (va_up xm 0 c6) (va_up (va_up (va_up mi 1 d1) 2 d2) 3 d3) (va_up (va_up (va_up (va_up (va_up ma 6 d4) 7 d5) 11 d6) 12 d7) 13 d8)) := vd_a hD rfl
  refine lv_icmp_eq (pc := 583) (tgt := 1369) hx hb dL_law_583 (by decide) (fun hc => ?_) (fun hc => absurd rfl hc)
  exact hn (va_up xi 0 c1) (va_up (va_up (va_up (va_up (va_up xa 18 c2) 19 c3) 20 c4) 21 c5) 22 c7) xl (va_up xm 0 c6) (va_up (va_up (va_up mi 1 d1) 2 d2) 3 d3) (va_up (va_up (va_up (va_up (va_up ma 6 d4) 7 d5) 11 d6) 12 d7) 13 d8) hrel H locs ls hP hD hS hl
set_option maxHeartbeats 4000000 in
set_option maxRecDepth 100000 in
theorem lc_14 {p : Program} {l : Launch} {e : Env} {s : State} {m : MethodId} {below : List Frame} {meth : Method} {c : Code} {D : va_G} {cA : Nat → ClassId} {bs L : Nat} {xs : Nat → Int32} {Q : State → Prop} (C : Cx RL code 4 D cA p s m #[Value.ref bs] c) (hA : ∀ q, s.heap.size ≤ q → (fun q : Nat => s.heap.size ≤ q) q) (hX : va_X bs L xs s s.heap) (hbl : bs < s.heap.size) (hbA : ¬ (fun q : Nat => s.heap.size ≤ q) bs) {x3 : Int32} (hi1 : vp_in (x3 + 1) L) (hi2 : vp_in (x3 + 2) L) (hi3 : vp_in (x3 + 3) L) (hi4 : vp_in (x3 + 4) L) (hi5 : vp_in (x3 + 5) L) (a b : Nat → Nat) (xi : Nat → Int32) (xa : Nat → Nat → Int32) (xl : Nat → Int64) (xm : Nat → Nat → Int64) (mi : Nat → Int32) (ma : Nat → Nat → Int32) (h : Rel xi xa xl xm mi ma) (hn : ∀ (xi : Nat → Int32) (xa : Nat → Nat → Int32) (xl : Nat → Int64) (xm : Nat → Nat → Int64) (mi : Nat → Int32) (ma : Nat → Nat → Int32), Rel xi xa xl xm mi ma → At p l e room_1 s m #[Value.ref bs] below meth c D (fun q : Nat => s.heap.size ≤ q) 71 2515 Q 4 1369 (wl_law cA a b xi xa xl xm mi ma) [(0, .ref bs), (1, .ref (a 0)), (2, .ref (b 0)), (3, .int x3)] []) : At p l e room_1 s m #[Value.ref bs] below meth c D (fun q : Nat => s.heap.size ≤ q) 71 2515 Q 4 588 (wl_law cA a b xi xa xl xm mi ma) [(0, .ref bs), (1, .ref (a 0)), (2, .ref (b 0)), (3, .int x3)] [] := by
  intro H locs ls hP hD hS hl
  have hx := C.1
  have hb := C.2.1
  have hown := C.2.2.2.1
  have hts := C.2.2.2.2.1
  obtain ⟨r, c1, c2, c3, c4, c5, c6, c7, d1, d2, d3, d4, d5, d6, d7, d8, hq1, hq2, hrel⟩ := sim_realm h (xs (x3 + 1).toNatClampNeg) (xs (x3 + 2).toNatClampNeg)
  refine lv_aload_n (pc := 588) hx hb dL_law_588 rfl (lv_at hl 1 rfl) ?_
  refine lv_aload_n (pc := 589) hx hb dL_law_589 rfl (lv_at hl 0 rfl) ?_
  refine lv_iload_n (pc := 590) hx hb dL_law_590 rfl (lv_at hl 3 rfl) ?_
  refine lv_iconst (pc := 591) (v := 1) hx hb dL_law_591 ic_1 ?_
  refine lv_iadd (pc := 592) hx hb dL_law_592 ?_
  refine va_sld (pc := 593) hx hb hX hbl hbA hS hi1 dL_law_593 ?_
  refine lv_aload_n (pc := 594) hx hb dL_law_594 rfl (lv_at hl 0 rfl) ?_
  refine lv_iload_n (pc := 595) hx hb dL_law_595 rfl (lv_at hl 3 rfl) ?_
  refine lv_iconst (pc := 596) (v := 2) hx hb dL_law_596 ic_2 ?_
  refine lv_iadd (pc := 597) hx hb dL_law_597 ?_
  refine va_sld (pc := 598) hx hb hX hbl hbA hS hi2 dL_law_598 ?_
  refine fin2_i (wl_law cA a b (va_up xi 0 c1) (va_up (va_up (va_up (va_up (va_up xa 18 c2) 19 c3) 20 c4) 21 c5) 22 c7) xl (va_up xm 0 c6) mi ma) (run_V (rest := []) (pc := 599) (As := [.int (xs (x3 + 1).toNatClampNeg), .int (xs (x3 + 2).toNatClampNeg)]) C mf_L_71 (c_X8_realm l D cA a (xi 0) (xi 1) (xi 4) (xi 5) (xi 6) (xi 7) (xa 2) (xa 3) (xa 4) (xa 5) (xa 6) (xi 10) (xa 9) (xa 10) (xi 11) (xa 12) (xa 13) (xi 13) (xi 14) (xi 15) (xi 16) (xa 18) (xa 19) (xa 20) (xa 21) (xm 0) (xa 22) (xs (x3 + 1).toNatClampNeg) (xs (x3 + 2).toNatClampNeg) (r, c1, c2, c3, c4, c5, c6, c7) hq1 H.size) rfl rfl ⟨(Nat.le_of_ble_eq_true rfl), (Nat.le_of_ble_eq_true rfl)⟩ (preV_of C hP hD [0, 6, 7, 8, 9, 10, 11, 15, 16, 17, 19, 20, 21, 27, 28, 29, 30, 31, 32, 33] rfl (pl_nd pw_19) 0 rfl rfl rfl) rfl hl.1 rfl (Nat.le_of_ble_eq_true rfl) dL_law_599 ⟨(Nat.le_of_ble_eq_true rfl), (Nat.le_of_ble_eq_true rfl)⟩) hP hD hS hA [0, 6, 7, 8, 9, 10, 11, 15, 16, 17, 19, 20, 21, 27, 28, 29, 30, 31, 32, 33] [1, 2, 3, 4, 5, 12, 13, 14, 18, 22, 23, 24, 25, 26, 34, 35, 36, 37, 38, 39, 40, 41, 42, 43, 44, 45, 46, 47, 48, 49, 50, 51, 52, 53, 54, 55, 56, 57, 58, 59, 60, 61, 62, 63, 64, 65, 66, 67, 68, 69, 70] rfl rfl rfl rfl pw_19 (fun H locs hP hS => ?_)
  have hD : va_D (fun q : Nat => s.heap.size ≤ q) (wl_law cA a b (va_up xi 0 c1) (va_up (va_up (va_up (va_up (va_up xa 18 c2) 19 c3) 20 c4) 21 c5) 22 c7) xl (va_up xm 0 c6) mi ma) := vd_a hD rfl
  refine lv_aload_n (pc := 602) hx hb dL_law_602 rfl (lv_at hl 2 rfl) ?_
  refine lv_aload_n (pc := 603) hx hb dL_law_603 rfl (lv_at hl 0 rfl) ?_
  refine lv_iload_n (pc := 604) hx hb dL_law_604 rfl (lv_at hl 3 rfl) ?_
  refine lv_iconst (pc := 605) (v := 1) hx hb dL_law_605 ic_1 ?_
  refine lv_iadd (pc := 606) hx hb dL_law_606 ?_
  refine va_sld (pc := 607) hx hb hX hbl hbA hS hi1 dL_law_607 ?_
  refine lv_aload_n (pc := 608) hx hb dL_law_608 rfl (lv_at hl 0 rfl) ?_
  refine lv_iload_n (pc := 609) hx hb dL_law_609 rfl (lv_at hl 3 rfl) ?_
  refine lv_iconst (pc := 610) (v := 2) hx hb dL_law_610 ic_2 ?_
  refine lv_iadd (pc := 611) hx hb dL_law_611 ?_
  refine va_sld (pc := 612) hx hb hX hbl hbA hS hi2 dL_law_612 ?_
  refine fin2_i (wl_law cA a b (va_up xi 0 c1) (va_up (va_up (va_up (va_up (va_up xa 18 c2) 19 c3) 20 c4) 21 c5) 22 c7) xl (va_up xm 0 c6) (va_up (va_up (va_up mi 1 d1) 2 d2) 3 d3) (va_up (va_up (va_up (va_up (va_up ma 6 d4) 7 d5) 11 d6) 12 d7) 13 d8)) (run_V (rest := [.int r]) (pc := 613) (As := [.int (xs (x3 + 1).toNatClampNeg), .int (xs (x3 + 2).toNatClampNeg)]) C mf_L_74 (c_X9_realm l D cA b (mi 0) (mi 1) (mi 2) (mi 3) (mi 4) (mi 5) (mi 6) (mi 7) (mi 8) (ma 4) (ma 5) (ma 6) (ma 7) (ma 8) (ma 9) (ma 10) (ma 11) (ma 12) (ma 13) (xs (x3 + 1).toNatClampNeg) (xs (x3 + 2).toNatClampNeg) (r, d1, d2, d3, d4, d5, d6, d7, d8) hq2 H.size) rfl rfl ⟨(Nat.le_of_ble_eq_true rfl), (Nat.le_of_ble_eq_true rfl)⟩ (preV_of C hP hD [54, 59, 60, 61, 62, 63, 64, 65, 66, 67, 68] rfl (pl_nd pw_20) 0 rfl rfl rfl) rfl hl.1 rfl (Nat.le_of_ble_eq_true rfl) dL_law_613 ⟨(Nat.le_of_ble_eq_true rfl), (Nat.le_of_ble_eq_true rfl)⟩) hP hD hS hA [54, 59, 60, 61, 62, 63, 64, 65, 66, 67, 68] [0, 1, 2, 3, 4, 5, 6, 7, 8, 9, 10, 11, 12, 13, 14, 15, 16, 17, 18, 19, 20, 21, 22, 23, 24, 25, 26, 27, 28, 29, 30, 31, 32, 33, 34, 35, 36, 37, 38, 39, 40, 41, 42, 43, 44, 45, 46, 47, 48, 49, 50, 51, 52, 53, 55, 56, 57, 58, 69, 70] rfl rfl rfl rfl pw_20 (fun H locs hP hS => ?_)
  have hD : va_D (fun q : Nat => s.heap.size ≤ q) (wl_law cA a b (va_up xi 0 c1) (va_up (va_up (va_up (va_up (va_up xa 18 c2) 19 c3) 20 c4) 21 c5) 22 c7) xl (va_up xm 0 c6) (va_up (va_up (va_up mi 1 d1) 2 d2) 3 d3) (va_up (va_up (va_up (va_up (va_up ma 6 d4) 7 d5) 11 d6) 12 d7) 13 d8)) := vd_a hD rfl
  refine lv_icmp_eq (pc := 616) (tgt := 1369) hx hb dL_law_616 (by decide) (fun hc => ?_) (fun hc => absurd rfl hc)
  exact hn (va_up xi 0 c1) (va_up (va_up (va_up (va_up (va_up xa 18 c2) 19 c3) 20 c4) 21 c5) 22 c7) xl (va_up xm 0 c6) (va_up (va_up (va_up mi 1 d1) 2 d2) 3 d3) (va_up (va_up (va_up (va_up (va_up ma 6 d4) 7 d5) 11 d6) 12 d7) 13 d8) hrel H locs ls hP hD hS hl
set_option maxHeartbeats 4000000 in
set_option maxRecDepth 100000 in
theorem lc_15 {p : Program} {l : Launch} {e : Env} {s : State} {m : MethodId} {below : List Frame} {meth : Method} {c : Code} {D : va_G} {cA : Nat → ClassId} {bs L : Nat} {xs : Nat → Int32} {Q : State → Prop} (C : Cx RL code 4 D cA p s m #[Value.ref bs] c) (hA : ∀ q, s.heap.size ≤ q → (fun q : Nat => s.heap.size ≤ q) q) (hX : va_X bs L xs s s.heap) (hbl : bs < s.heap.size) (hbA : ¬ (fun q : Nat => s.heap.size ≤ q) bs) {x3 : Int32} (hi1 : vp_in (x3 + 1) L) (hi2 : vp_in (x3 + 2) L) (hi3 : vp_in (x3 + 3) L) (hi4 : vp_in (x3 + 4) L) (hi5 : vp_in (x3 + 5) L) (a b : Nat → Nat) (xi : Nat → Int32) (xa : Nat → Nat → Int32) (xl : Nat → Int64) (xm : Nat → Nat → Int64) (mi : Nat → Int32) (ma : Nat → Nat → Int32) (h : Rel xi xa xl xm mi ma) (hn : ∀ (xi : Nat → Int32) (xa : Nat → Nat → Int32) (xl : Nat → Int64) (xm : Nat → Nat → Int64) (mi : Nat → Int32) (ma : Nat → Nat → Int32), Rel xi xa xl xm mi ma → At p l e room_1 s m #[Value.ref bs] below meth c D (fun q : Nat => s.heap.size ≤ q) 71 2515 Q 4 1369 (wl_law cA a b xi xa xl xm mi ma) [(0, .ref bs), (1, .ref (a 0)), (2, .ref (b 0)), (3, .int x3)] []) : At p l e room_1 s m #[Value.ref bs] below meth c D (fun q : Nat => s.heap.size ≤ q) 71 2515 Q 4 621 (wl_law cA a b xi xa xl xm mi ma) [(0, .ref bs), (1, .ref (a 0)), (2, .ref (b 0)), (3, .int x3)] [] := by
  intro H locs ls hP hD hS hl
  have hx := C.1
  have hb := C.2.1
  have hown := C.2.2.2.1
  have hts := C.2.2.2.2.1
  obtain ⟨r, c1, c2, c3, c4, c5, c6, c7, d1, d2, d3, d4, d5, d6, d7, d8, hq1, hq2, hrel⟩ := sim_lies h (xs (x3 + 1).toNatClampNeg) (xs (x3 + 2).toNatClampNeg)
  refine lv_aload_n (pc := 621) hx hb dL_law_621 rfl (lv_at hl 1 rfl) ?_
  refine lv_aload_n (pc := 622) hx hb dL_law_622 rfl (lv_at hl 0 rfl) ?_
  refine lv_iload_n (pc := 623) hx hb dL_law_623 rfl (lv_at hl 3 rfl) ?_
  refine lv_iconst (pc := 624) (v := 1) hx hb dL_law_624 ic_1 ?_
  refine lv_iadd (pc := 625) hx hb dL_law_625 ?_
  refine va_sld (pc := 626) hx hb hX hbl hbA hS hi1 dL_law_626 ?_
  refine lv_aload_n (pc := 627) hx hb dL_law_627 rfl (lv_at hl 0 rfl) ?_
  refine lv_iload_n (pc := 628) hx hb dL_law_628 rfl (lv_at hl 3 rfl) ?_
  refine lv_iconst (pc := 629) (v := 2) hx hb dL_law_629 ic_2 ?_
  refine lv_iadd (pc := 630) hx hb dL_law_630 ?_
  refine va_sld (pc := 631) hx hb hX hbl hbA hS hi2 dL_law_631 ?_
  refine fin2_i (wl_law cA a b (va_up xi 0 c1) (va_up (va_up (va_up (va_up (va_up xa 18 c2) 19 c3) 20 c4) 21 c5) 22 c7) xl (va_up xm 0 c6) mi ma) (run_V (rest := []) (pc := 632) (As := [.int (xs (x3 + 1).toNatClampNeg), .int (xs (x3 + 2).toNatClampNeg)]) C mf_L_75 (c_X8_lies l D cA a (xi 0) (xi 1) (xi 4) (xi 5) (xi 6) (xi 7) (xa 2) (xa 3) (xa 4) (xa 5) (xa 6) (xi 8) (xi 9) (xa 7) (xi 10) (xa 9) (xa 10) (xi 11) (xa 12) (xa 13) (xi 13) (xi 14) (xi 15) (xi 16) (xa 18) (xa 19) (xa 20) (xa 21) (xm 0) (xa 22) (xs (x3 + 1).toNatClampNeg) (xs (x3 + 2).toNatClampNeg) (r, c1, c2, c3, c4, c5, c6, c7) hq1 H.size) rfl rfl ⟨(Nat.le_of_ble_eq_true rfl), (Nat.le_of_ble_eq_true rfl)⟩ (preV_of C hP hD [0, 6, 7, 8, 9, 10, 11, 12, 13, 15, 16, 17, 19, 20, 21, 27, 28, 29, 30, 31, 32, 33] rfl (pl_nd pw_21) 0 rfl rfl rfl) rfl hl.1 rfl (Nat.le_of_ble_eq_true rfl) dL_law_632 ⟨(Nat.le_of_ble_eq_true rfl), (Nat.le_of_ble_eq_true rfl)⟩) hP hD hS hA [0, 6, 7, 8, 9, 10, 11, 12, 13, 15, 16, 17, 19, 20, 21, 27, 28, 29, 30, 31, 32, 33] [1, 2, 3, 4, 5, 14, 18, 22, 23, 24, 25, 26, 34, 35, 36, 37, 38, 39, 40, 41, 42, 43, 44, 45, 46, 47, 48, 49, 50, 51, 52, 53, 54, 55, 56, 57, 58, 59, 60, 61, 62, 63, 64, 65, 66, 67, 68, 69, 70] rfl rfl rfl rfl pw_21 (fun H locs hP hS => ?_)
  have hD : va_D (fun q : Nat => s.heap.size ≤ q) (wl_law cA a b (va_up xi 0 c1) (va_up (va_up (va_up (va_up (va_up xa 18 c2) 19 c3) 20 c4) 21 c5) 22 c7) xl (va_up xm 0 c6) mi ma) := vd_a hD rfl
  refine lv_aload_n (pc := 635) hx hb dL_law_635 rfl (lv_at hl 2 rfl) ?_
  refine lv_aload_n (pc := 636) hx hb dL_law_636 rfl (lv_at hl 0 rfl) ?_
  refine lv_iload_n (pc := 637) hx hb dL_law_637 rfl (lv_at hl 3 rfl) ?_
  refine lv_iconst (pc := 638) (v := 1) hx hb dL_law_638 ic_1 ?_
  refine lv_iadd (pc := 639) hx hb dL_law_639 ?_
  refine va_sld (pc := 640) hx hb hX hbl hbA hS hi1 dL_law_640 ?_
  refine lv_aload_n (pc := 641) hx hb dL_law_641 rfl (lv_at hl 0 rfl) ?_
  refine lv_iload_n (pc := 642) hx hb dL_law_642 rfl (lv_at hl 3 rfl) ?_
  refine lv_iconst (pc := 643) (v := 2) hx hb dL_law_643 ic_2 ?_
  refine lv_iadd (pc := 644) hx hb dL_law_644 ?_
  refine va_sld (pc := 645) hx hb hX hbl hbA hS hi2 dL_law_645 ?_
  refine fin2_i (wl_law cA a b (va_up xi 0 c1) (va_up (va_up (va_up (va_up (va_up xa 18 c2) 19 c3) 20 c4) 21 c5) 22 c7) xl (va_up xm 0 c6) (va_up (va_up (va_up mi 1 d1) 2 d2) 3 d3) (va_up (va_up (va_up (va_up (va_up ma 6 d4) 7 d5) 11 d6) 12 d7) 13 d8)) (run_V (rest := [.int r]) (pc := 646) (As := [.int (xs (x3 + 1).toNatClampNeg), .int (xs (x3 + 2).toNatClampNeg)]) C mf_L_78 (c_X9_lies l D cA b (mi 0) (mi 1) (mi 2) (mi 3) (mi 4) (mi 5) (mi 6) (mi 7) (mi 8) (ma 4) (ma 5) (ma 6) (ma 7) (ma 8) (ma 9) (ma 10) (ma 11) (ma 12) (ma 13) (xs (x3 + 1).toNatClampNeg) (xs (x3 + 2).toNatClampNeg) (r, d1, d2, d3, d4, d5, d6, d7, d8) hq2 H.size) rfl rfl ⟨(Nat.le_of_ble_eq_true rfl), (Nat.le_of_ble_eq_true rfl)⟩ (preV_of C hP hD [54, 59, 60, 61, 62, 63, 64, 65, 66, 67, 68] rfl (pl_nd pw_20) 0 rfl rfl rfl) rfl hl.1 rfl (Nat.le_of_ble_eq_true rfl) dL_law_646 ⟨(Nat.le_of_ble_eq_true rfl), (Nat.le_of_ble_eq_true rfl)⟩) hP hD hS hA [54, 59, 60, 61, 62, 63, 64, 65, 66, 67, 68] [0, 1, 2, 3, 4, 5, 6, 7, 8, 9, 10, 11, 12, 13, 14, 15, 16, 17, 18, 19, 20, 21, 22, 23, 24, 25, 26, 27, 28, 29, 30, 31, 32, 33, 34, 35, 36, 37, 38, 39, 40, 41, 42, 43, 44, 45, 46, 47, 48, 49, 50, 51, 52, 53, 55, 56, 57, 58, 69, 70] rfl rfl rfl rfl pw_20 (fun H locs hP hS => ?_)
  have hD : va_D (fun q : Nat => s.heap.size ≤ q) (wl_law cA a b (va_up xi 0 c1) (va_up (va_up (va_up (va_up (va_up xa 18 c2) 19 c3) 20 c4) 21 c5) 22 c7) xl (va_up xm 0 c6) (va_up (va_up (va_up mi 1 d1) 2 d2) 3 d3) (va_up (va_up (va_up (va_up (va_up ma 6 d4) 7 d5) 11 d6) 12 d7) 13 d8)) := vd_a hD rfl
  refine lv_icmp_eq (pc := 649) (tgt := 1369) hx hb dL_law_649 (by decide) (fun hc => ?_) (fun hc => absurd rfl hc)
  exact hn (va_up xi 0 c1) (va_up (va_up (va_up (va_up (va_up xa 18 c2) 19 c3) 20 c4) 21 c5) 22 c7) xl (va_up xm 0 c6) (va_up (va_up (va_up mi 1 d1) 2 d2) 3 d3) (va_up (va_up (va_up (va_up (va_up ma 6 d4) 7 d5) 11 d6) 12 d7) 13 d8) hrel H locs ls hP hD hS hl
set_option maxHeartbeats 4000000 in
set_option maxRecDepth 100000 in
theorem lc_16 {p : Program} {l : Launch} {e : Env} {s : State} {m : MethodId} {below : List Frame} {meth : Method} {c : Code} {D : va_G} {cA : Nat → ClassId} {bs L : Nat} {xs : Nat → Int32} {Q : State → Prop} (C : Cx RL code 4 D cA p s m #[Value.ref bs] c) (hA : ∀ q, s.heap.size ≤ q → (fun q : Nat => s.heap.size ≤ q) q) (hX : va_X bs L xs s s.heap) (hbl : bs < s.heap.size) (hbA : ¬ (fun q : Nat => s.heap.size ≤ q) bs) {x3 : Int32} (hi1 : vp_in (x3 + 1) L) (hi2 : vp_in (x3 + 2) L) (hi3 : vp_in (x3 + 3) L) (hi4 : vp_in (x3 + 4) L) (hi5 : vp_in (x3 + 5) L) (a b : Nat → Nat) (xi : Nat → Int32) (xa : Nat → Nat → Int32) (xl : Nat → Int64) (xm : Nat → Nat → Int64) (mi : Nat → Int32) (ma : Nat → Nat → Int32) (h : Rel xi xa xl xm mi ma) (hn : ∀ (xi : Nat → Int32) (xa : Nat → Nat → Int32) (xl : Nat → Int64) (xm : Nat → Nat → Int64) (mi : Nat → Int32) (ma : Nat → Nat → Int32), Rel xi xa xl xm mi ma → At p l e room_1 s m #[Value.ref bs] below meth c D (fun q : Nat => s.heap.size ≤ q) 71 2515 Q 4 1369 (wl_law cA a b xi xa xl xm mi ma) [(0, .ref bs), (1, .ref (a 0)), (2, .ref (b 0)), (3, .int x3)] []) : At p l e room_1 s m #[Value.ref bs] below meth c D (fun q : Nat => s.heap.size ≤ q) 71 2515 Q 4 654 (wl_law cA a b xi xa xl xm mi ma) [(0, .ref bs), (1, .ref (a 0)), (2, .ref (b 0)), (3, .int x3)] [] := by
  intro H locs ls hP hD hS hl
  have hx := C.1
  have hb := C.2.1
  have hown := C.2.2.2.1
  have hts := C.2.2.2.2.1
  obtain ⟨r, c1, c2, c3, c4, c5, c6, c7, d1, d2, d3, d4, d5, d6, d7, d8, hq1, hq2, hrel⟩ := sim_changes h (xs (x3 + 1).toNatClampNeg)
  refine lv_aload_n (pc := 654) hx hb dL_law_654 rfl (lv_at hl 1 rfl) ?_
  refine lv_aload_n (pc := 655) hx hb dL_law_655 rfl (lv_at hl 0 rfl) ?_
  refine lv_iload_n (pc := 656) hx hb dL_law_656 rfl (lv_at hl 3 rfl) ?_
  refine lv_iconst (pc := 657) (v := 1) hx hb dL_law_657 ic_1 ?_
  refine lv_iadd (pc := 658) hx hb dL_law_658 ?_
  refine va_sld (pc := 659) hx hb hX hbl hbA hS hi1 dL_law_659 ?_
  refine fin2_i (wl_law cA a b (va_up xi 0 c1) (va_up (va_up (va_up (va_up (va_up xa 18 c2) 19 c3) 20 c4) 21 c5) 22 c7) xl (va_up xm 0 c6) mi ma) (run_V (rest := []) (pc := 660) (As := [.int (xs (x3 + 1).toNatClampNeg)]) C mf_L_79 (c_X8_changes l D cA a (xi 0) (xi 1) (xi 4) (xi 5) (xi 6) (xi 7) (xa 2) (xa 3) (xa 4) (xa 5) (xa 6) (xi 8) (xi 9) (xa 7) (xi 10) (xa 9) (xa 10) (xi 11) (xa 12) (xa 13) (xi 13) (xi 14) (xi 15) (xi 16) (xa 18) (xa 19) (xa 20) (xa 21) (xm 0) (xa 22) (xs (x3 + 1).toNatClampNeg) (r, c1, c2, c3, c4, c5, c6, c7) hq1 H.size) rfl rfl ⟨(Nat.le_of_ble_eq_true rfl), (Nat.le_of_ble_eq_true rfl)⟩ (preV_of C hP hD [0, 6, 7, 8, 9, 10, 11, 12, 13, 15, 16, 17, 19, 20, 21, 27, 28, 29, 30, 31, 32, 33] rfl (pl_nd pw_21) 0 rfl rfl rfl) rfl hl.1 rfl (Nat.le_of_ble_eq_true rfl) dL_law_660 ⟨(Nat.le_of_ble_eq_true rfl), (Nat.le_of_ble_eq_true rfl)⟩) hP hD hS hA [0, 6, 7, 8, 9, 10, 11, 12, 13, 15, 16, 17, 19, 20, 21, 27, 28, 29, 30, 31, 32, 33] [1, 2, 3, 4, 5, 14, 18, 22, 23, 24, 25, 26, 34, 35, 36, 37, 38, 39, 40, 41, 42, 43, 44, 45, 46, 47, 48, 49, 50, 51, 52, 53, 54, 55, 56, 57, 58, 59, 60, 61, 62, 63, 64, 65, 66, 67, 68, 69, 70] rfl rfl rfl rfl pw_21 (fun H locs hP hS => ?_)
  have hD : va_D (fun q : Nat => s.heap.size ≤ q) (wl_law cA a b (va_up xi 0 c1) (va_up (va_up (va_up (va_up (va_up xa 18 c2) 19 c3) 20 c4) 21 c5) 22 c7) xl (va_up xm 0 c6) mi ma) := vd_a hD rfl
  refine lv_aload_n (pc := 663) hx hb dL_law_663 rfl (lv_at hl 2 rfl) ?_
  refine lv_aload_n (pc := 664) hx hb dL_law_664 rfl (lv_at hl 0 rfl) ?_
  refine lv_iload_n (pc := 665) hx hb dL_law_665 rfl (lv_at hl 3 rfl) ?_
  refine lv_iconst (pc := 666) (v := 1) hx hb dL_law_666 ic_1 ?_
  refine lv_iadd (pc := 667) hx hb dL_law_667 ?_
  refine va_sld (pc := 668) hx hb hX hbl hbA hS hi1 dL_law_668 ?_
  refine fin2_i (wl_law cA a b (va_up xi 0 c1) (va_up (va_up (va_up (va_up (va_up xa 18 c2) 19 c3) 20 c4) 21 c5) 22 c7) xl (va_up xm 0 c6) (va_up (va_up (va_up mi 1 d1) 2 d2) 3 d3) (va_up (va_up (va_up (va_up (va_up ma 6 d4) 7 d5) 11 d6) 12 d7) 13 d8)) (run_V (rest := [.int r]) (pc := 669) (As := [.int (xs (x3 + 1).toNatClampNeg)]) C mf_L_82 (c_X9_changes l D cA b (mi 0) (mi 1) (mi 2) (mi 3) (mi 4) (mi 5) (mi 6) (mi 7) (mi 8) (ma 4) (ma 5) (ma 6) (ma 7) (ma 8) (ma 9) (ma 10) (ma 11) (ma 12) (ma 13) (xs (x3 + 1).toNatClampNeg) (r, d1, d2, d3, d4, d5, d6, d7, d8) hq2 H.size) rfl rfl ⟨(Nat.le_of_ble_eq_true rfl), (Nat.le_of_ble_eq_true rfl)⟩ (preV_of C hP hD [54, 59, 60, 61, 62, 63, 64, 65, 66, 67, 68] rfl (pl_nd pw_20) 0 rfl rfl rfl) rfl hl.1 rfl (Nat.le_of_ble_eq_true rfl) dL_law_669 ⟨(Nat.le_of_ble_eq_true rfl), (Nat.le_of_ble_eq_true rfl)⟩) hP hD hS hA [54, 59, 60, 61, 62, 63, 64, 65, 66, 67, 68] [0, 1, 2, 3, 4, 5, 6, 7, 8, 9, 10, 11, 12, 13, 14, 15, 16, 17, 18, 19, 20, 21, 22, 23, 24, 25, 26, 27, 28, 29, 30, 31, 32, 33, 34, 35, 36, 37, 38, 39, 40, 41, 42, 43, 44, 45, 46, 47, 48, 49, 50, 51, 52, 53, 55, 56, 57, 58, 69, 70] rfl rfl rfl rfl pw_20 (fun H locs hP hS => ?_)
  have hD : va_D (fun q : Nat => s.heap.size ≤ q) (wl_law cA a b (va_up xi 0 c1) (va_up (va_up (va_up (va_up (va_up xa 18 c2) 19 c3) 20 c4) 21 c5) 22 c7) xl (va_up xm 0 c6) (va_up (va_up (va_up mi 1 d1) 2 d2) 3 d3) (va_up (va_up (va_up (va_up (va_up ma 6 d4) 7 d5) 11 d6) 12 d7) 13 d8)) := vd_a hD rfl
  refine lv_icmp_eq (pc := 672) (tgt := 1369) hx hb dL_law_672 (by decide) (fun hc => ?_) (fun hc => absurd rfl hc)
  exact hn (va_up xi 0 c1) (va_up (va_up (va_up (va_up (va_up xa 18 c2) 19 c3) 20 c4) 21 c5) 22 c7) xl (va_up xm 0 c6) (va_up (va_up (va_up mi 1 d1) 2 d2) 3 d3) (va_up (va_up (va_up (va_up (va_up ma 6 d4) 7 d5) 11 d6) 12 d7) 13 d8) hrel H locs ls hP hD hS hl
set_option maxHeartbeats 4000000 in
set_option maxRecDepth 100000 in
theorem lc_17 {p : Program} {l : Launch} {e : Env} {s : State} {m : MethodId} {below : List Frame} {meth : Method} {c : Code} {D : va_G} {cA : Nat → ClassId} {bs L : Nat} {xs : Nat → Int32} {Q : State → Prop} (C : Cx RL code 4 D cA p s m #[Value.ref bs] c) (hA : ∀ q, s.heap.size ≤ q → (fun q : Nat => s.heap.size ≤ q) q) (hX : va_X bs L xs s s.heap) (hbl : bs < s.heap.size) (hbA : ¬ (fun q : Nat => s.heap.size ≤ q) bs) {x3 : Int32} (hi1 : vp_in (x3 + 1) L) (hi2 : vp_in (x3 + 2) L) (hi3 : vp_in (x3 + 3) L) (hi4 : vp_in (x3 + 4) L) (hi5 : vp_in (x3 + 5) L) (a b : Nat → Nat) (xi : Nat → Int32) (xa : Nat → Nat → Int32) (xl : Nat → Int64) (xm : Nat → Nat → Int64) (mi : Nat → Int32) (ma : Nat → Nat → Int32) (h : Rel xi xa xl xm mi ma) (hn : ∀ (xi : Nat → Int32) (xa : Nat → Nat → Int32) (xl : Nat → Int64) (xm : Nat → Nat → Int64) (mi : Nat → Int32) (ma : Nat → Nat → Int32), Rel xi xa xl xm mi ma → At p l e room_1 s m #[Value.ref bs] below meth c D (fun q : Nat => s.heap.size ≤ q) 71 2515 Q 4 1369 (wl_law cA a b xi xa xl xm mi ma) [(0, .ref bs), (1, .ref (a 0)), (2, .ref (b 0)), (3, .int x3)] []) : At p l e room_1 s m #[Value.ref bs] below meth c D (fun q : Nat => s.heap.size ≤ q) 71 2515 Q 4 677 (wl_law cA a b xi xa xl xm mi ma) [(0, .ref bs), (1, .ref (a 0)), (2, .ref (b 0)), (3, .int x3)] [] := by
  intro H locs ls hP hD hS hl
  have hx := C.1
  have hb := C.2.1
  have hown := C.2.2.2.1
  have hts := C.2.2.2.2.1
  obtain ⟨r, c1, c2, c3, c4, c5, c6, c7, d1, d2, d3, d4, d5, d6, d7, d8, hq1, hq2, hrel⟩ := sim_taxes h (xs (x3 + 1).toNatClampNeg) (xs (x3 + 2).toNatClampNeg)
  refine lv_aload_n (pc := 677) hx hb dL_law_677 rfl (lv_at hl 1 rfl) ?_
  refine lv_aload_n (pc := 678) hx hb dL_law_678 rfl (lv_at hl 0 rfl) ?_
  refine lv_iload_n (pc := 679) hx hb dL_law_679 rfl (lv_at hl 3 rfl) ?_
  refine lv_iconst (pc := 680) (v := 1) hx hb dL_law_680 ic_1 ?_
  refine lv_iadd (pc := 681) hx hb dL_law_681 ?_
  refine va_sld (pc := 682) hx hb hX hbl hbA hS hi1 dL_law_682 ?_
  refine lv_aload_n (pc := 683) hx hb dL_law_683 rfl (lv_at hl 0 rfl) ?_
  refine lv_iload_n (pc := 684) hx hb dL_law_684 rfl (lv_at hl 3 rfl) ?_
  refine lv_iconst (pc := 685) (v := 2) hx hb dL_law_685 ic_2 ?_
  refine lv_iadd (pc := 686) hx hb dL_law_686 ?_
  refine va_sld (pc := 687) hx hb hX hbl hbA hS hi2 dL_law_687 ?_
  refine fin2_i (wl_law cA a b (va_up xi 0 c1) (va_up (va_up (va_up (va_up (va_up xa 18 c2) 19 c3) 20 c4) 21 c5) 22 c7) xl (va_up xm 0 c6) mi ma) (run_V (rest := []) (pc := 688) (As := [.int (xs (x3 + 1).toNatClampNeg), .int (xs (x3 + 2).toNatClampNeg)]) C mf_L_83 (c_X8_taxes l D cA a (xi 0) (xi 1) (xi 4) (xi 5) (xi 6) (xi 7) (xa 2) (xa 3) (xa 4) (xa 5) (xa 6) (xi 8) (xi 9) (xa 7) (xa 8) (xi 10) (xa 9) (xa 10) (xi 11) (xa 12) (xa 13) (xi 13) (xi 14) (xi 15) (xi 16) (xa 18) (xa 19) (xa 20) (xa 21) (xm 0) (xa 22) (xs (x3 + 1).toNatClampNeg) (xs (x3 + 2).toNatClampNeg) (r, c1, c2, c3, c4, c5, c6, c7) hq1 H.size) rfl rfl ⟨(Nat.le_of_ble_eq_true rfl), (Nat.le_of_ble_eq_true rfl)⟩ (preV_of C hP hD [0, 6, 7, 8, 9, 10, 11, 12, 13, 14, 15, 16, 17, 19, 20, 21, 27, 28, 29, 30, 31, 32, 33] rfl (pl_nd pw_22) 0 rfl rfl rfl) rfl hl.1 rfl (Nat.le_of_ble_eq_true rfl) dL_law_688 ⟨(Nat.le_of_ble_eq_true rfl), (Nat.le_of_ble_eq_true rfl)⟩) hP hD hS hA [0, 6, 7, 8, 9, 10, 11, 12, 13, 14, 15, 16, 17, 19, 20, 21, 27, 28, 29, 30, 31, 32, 33] [1, 2, 3, 4, 5, 18, 22, 23, 24, 25, 26, 34, 35, 36, 37, 38, 39, 40, 41, 42, 43, 44, 45, 46, 47, 48, 49, 50, 51, 52, 53, 54, 55, 56, 57, 58, 59, 60, 61, 62, 63, 64, 65, 66, 67, 68, 69, 70] rfl rfl rfl rfl pw_22 (fun H locs hP hS => ?_)
  have hD : va_D (fun q : Nat => s.heap.size ≤ q) (wl_law cA a b (va_up xi 0 c1) (va_up (va_up (va_up (va_up (va_up xa 18 c2) 19 c3) 20 c4) 21 c5) 22 c7) xl (va_up xm 0 c6) mi ma) := vd_a hD rfl
  refine lv_aload_n (pc := 691) hx hb dL_law_691 rfl (lv_at hl 2 rfl) ?_
  refine lv_aload_n (pc := 692) hx hb dL_law_692 rfl (lv_at hl 0 rfl) ?_
  refine lv_iload_n (pc := 693) hx hb dL_law_693 rfl (lv_at hl 3 rfl) ?_
  refine lv_iconst (pc := 694) (v := 1) hx hb dL_law_694 ic_1 ?_
  refine lv_iadd (pc := 695) hx hb dL_law_695 ?_
  refine va_sld (pc := 696) hx hb hX hbl hbA hS hi1 dL_law_696 ?_
  refine lv_aload_n (pc := 697) hx hb dL_law_697 rfl (lv_at hl 0 rfl) ?_
  refine lv_iload_n (pc := 698) hx hb dL_law_698 rfl (lv_at hl 3 rfl) ?_
  refine lv_iconst (pc := 699) (v := 2) hx hb dL_law_699 ic_2 ?_
  refine lv_iadd (pc := 700) hx hb dL_law_700 ?_
  refine va_sld (pc := 701) hx hb hX hbl hbA hS hi2 dL_law_701 ?_
  refine fin2_i (wl_law cA a b (va_up xi 0 c1) (va_up (va_up (va_up (va_up (va_up xa 18 c2) 19 c3) 20 c4) 21 c5) 22 c7) xl (va_up xm 0 c6) (va_up (va_up (va_up mi 1 d1) 2 d2) 3 d3) (va_up (va_up (va_up (va_up (va_up ma 6 d4) 7 d5) 11 d6) 12 d7) 13 d8)) (run_V (rest := [.int r]) (pc := 702) (As := [.int (xs (x3 + 1).toNatClampNeg), .int (xs (x3 + 2).toNatClampNeg)]) C mf_L_86 (c_X9_taxes l D cA b (mi 0) (mi 1) (mi 2) (mi 3) (mi 4) (mi 5) (mi 6) (mi 7) (mi 8) (ma 4) (ma 5) (ma 6) (ma 7) (ma 8) (ma 9) (ma 10) (ma 11) (ma 12) (ma 13) (xs (x3 + 1).toNatClampNeg) (xs (x3 + 2).toNatClampNeg) (r, d1, d2, d3, d4, d5, d6, d7, d8) hq2 H.size) rfl rfl ⟨(Nat.le_of_ble_eq_true rfl), (Nat.le_of_ble_eq_true rfl)⟩ (preV_of C hP hD [54, 59, 60, 61, 62, 63, 64, 65, 66, 67, 68] rfl (pl_nd pw_20) 0 rfl rfl rfl) rfl hl.1 rfl (Nat.le_of_ble_eq_true rfl) dL_law_702 ⟨(Nat.le_of_ble_eq_true rfl), (Nat.le_of_ble_eq_true rfl)⟩) hP hD hS hA [54, 59, 60, 61, 62, 63, 64, 65, 66, 67, 68] [0, 1, 2, 3, 4, 5, 6, 7, 8, 9, 10, 11, 12, 13, 14, 15, 16, 17, 18, 19, 20, 21, 22, 23, 24, 25, 26, 27, 28, 29, 30, 31, 32, 33, 34, 35, 36, 37, 38, 39, 40, 41, 42, 43, 44, 45, 46, 47, 48, 49, 50, 51, 52, 53, 55, 56, 57, 58, 69, 70] rfl rfl rfl rfl pw_20 (fun H locs hP hS => ?_)
  have hD : va_D (fun q : Nat => s.heap.size ≤ q) (wl_law cA a b (va_up xi 0 c1) (va_up (va_up (va_up (va_up (va_up xa 18 c2) 19 c3) 20 c4) 21 c5) 22 c7) xl (va_up xm 0 c6) (va_up (va_up (va_up mi 1 d1) 2 d2) 3 d3) (va_up (va_up (va_up (va_up (va_up ma 6 d4) 7 d5) 11 d6) 12 d7) 13 d8)) := vd_a hD rfl
  refine lv_icmp_eq (pc := 705) (tgt := 1369) hx hb dL_law_705 (by decide) (fun hc => ?_) (fun hc => absurd rfl hc)
  exact hn (va_up xi 0 c1) (va_up (va_up (va_up (va_up (va_up xa 18 c2) 19 c3) 20 c4) 21 c5) 22 c7) xl (va_up xm 0 c6) (va_up (va_up (va_up mi 1 d1) 2 d2) 3 d3) (va_up (va_up (va_up (va_up (va_up ma 6 d4) 7 d5) 11 d6) 12 d7) 13 d8) hrel H locs ls hP hD hS hl
set_option maxHeartbeats 4000000 in
set_option maxRecDepth 100000 in
theorem lc_18 {p : Program} {l : Launch} {e : Env} {s : State} {m : MethodId} {below : List Frame} {meth : Method} {c : Code} {D : va_G} {cA : Nat → ClassId} {bs L : Nat} {xs : Nat → Int32} {Q : State → Prop} (C : Cx RL code 4 D cA p s m #[Value.ref bs] c) (hA : ∀ q, s.heap.size ≤ q → (fun q : Nat => s.heap.size ≤ q) q) (hX : va_X bs L xs s s.heap) (hbl : bs < s.heap.size) (hbA : ¬ (fun q : Nat => s.heap.size ≤ q) bs) {x3 : Int32} (hi1 : vp_in (x3 + 1) L) (hi2 : vp_in (x3 + 2) L) (hi3 : vp_in (x3 + 3) L) (hi4 : vp_in (x3 + 4) L) (hi5 : vp_in (x3 + 5) L) (a b : Nat → Nat) (xi : Nat → Int32) (xa : Nat → Nat → Int32) (xl : Nat → Int64) (xm : Nat → Nat → Int64) (mi : Nat → Int32) (ma : Nat → Nat → Int32) (h : Rel xi xa xl xm mi ma) (hn : ∀ (xi : Nat → Int32) (xa : Nat → Nat → Int32) (xl : Nat → Int64) (xm : Nat → Nat → Int64) (mi : Nat → Int32) (ma : Nat → Nat → Int32), Rel xi xa xl xm mi ma → At p l e room_1 s m #[Value.ref bs] below meth c D (fun q : Nat => s.heap.size ≤ q) 71 2515 Q 4 1369 (wl_law cA a b xi xa xl xm mi ma) [(0, .ref bs), (1, .ref (a 0)), (2, .ref (b 0)), (3, .int x3)] []) : At p l e room_1 s m #[Value.ref bs] below meth c D (fun q : Nat => s.heap.size ≤ q) 71 2515 Q 4 710 (wl_law cA a b xi xa xl xm mi ma) [(0, .ref bs), (1, .ref (a 0)), (2, .ref (b 0)), (3, .int x3)] [] := by
  intro H locs ls hP hD hS hl
  have hx := C.1
  have hb := C.2.1
  have hown := C.2.2.2.1
  have hts := C.2.2.2.2.1
  obtain ⟨r, c1, c2, c3, c4, c5, c6, c7, d1, d2, d3, d4, d5, d6, d7, d8, hq1, hq2, hrel⟩ := sim_first h (xs (x3 + 1).toNatClampNeg)
  refine lv_aload_n (pc := 710) hx hb dL_law_710 rfl (lv_at hl 1 rfl) ?_
  refine lv_aload_n (pc := 711) hx hb dL_law_711 rfl (lv_at hl 0 rfl) ?_
  refine lv_iload_n (pc := 712) hx hb dL_law_712 rfl (lv_at hl 3 rfl) ?_
  refine lv_iconst (pc := 713) (v := 1) hx hb dL_law_713 ic_1 ?_
  refine lv_iadd (pc := 714) hx hb dL_law_714 ?_
  refine va_sld (pc := 715) hx hb hX hbl hbA hS hi1 dL_law_715 ?_
  refine fin2_i (wl_law cA a b (va_up xi 0 c1) (va_up (va_up (va_up (va_up (va_up xa 18 c2) 19 c3) 20 c4) 21 c5) 22 c7) xl (va_up xm 0 c6) mi ma) (run_V (rest := []) (pc := 716) (As := [.int (xs (x3 + 1).toNatClampNeg)]) C mf_L_87 (c_X8_first l D cA a (xi 0) (xi 1) (xi 4) (xi 5) (xi 6) (xi 7) (xa 2) (xa 3) (xa 4) (xa 5) (xa 6) (xi 8) (xi 9) (xa 7) (xi 10) (xa 9) (xa 10) (xi 11) (xa 12) (xa 13) (xi 13) (xi 14) (xi 15) (xi 16) (xa 18) (xa 19) (xa 20) (xa 21) (xm 0) (xa 22) (xs (x3 + 1).toNatClampNeg) (r, c1, c2, c3, c4, c5, c6, c7) hq1 H.size) rfl rfl ⟨(Nat.le_of_ble_eq_true rfl), (Nat.le_of_ble_eq_true rfl)⟩ (preV_of C hP hD [0, 6, 7, 8, 9, 10, 11, 12, 13, 15, 16, 17, 19, 20, 21, 27, 28, 29, 30, 31, 32, 33] rfl (pl_nd pw_21) 0 rfl rfl rfl) rfl hl.1 rfl (Nat.le_of_ble_eq_true rfl) dL_law_716 ⟨(Nat.le_of_ble_eq_true rfl), (Nat.le_of_ble_eq_true rfl)⟩) hP hD hS hA [0, 6, 7, 8, 9, 10, 11, 12, 13, 15, 16, 17, 19, 20, 21, 27, 28, 29, 30, 31, 32, 33] [1, 2, 3, 4, 5, 14, 18, 22, 23, 24, 25, 26, 34, 35, 36, 37, 38, 39, 40, 41, 42, 43, 44, 45, 46, 47, 48, 49, 50, 51, 52, 53, 54, 55, 56, 57, 58, 59, 60, 61, 62, 63, 64, 65, 66, 67, 68, 69, 70] rfl rfl rfl rfl pw_21 (fun H locs hP hS => ?_)
  have hD : va_D (fun q : Nat => s.heap.size ≤ q) (wl_law cA a b (va_up xi 0 c1) (va_up (va_up (va_up (va_up (va_up xa 18 c2) 19 c3) 20 c4) 21 c5) 22 c7) xl (va_up xm 0 c6) mi ma) := vd_a hD rfl
  refine lv_aload_n (pc := 719) hx hb dL_law_719 rfl (lv_at hl 2 rfl) ?_
  refine lv_aload_n (pc := 720) hx hb dL_law_720 rfl (lv_at hl 0 rfl) ?_
  refine lv_iload_n (pc := 721) hx hb dL_law_721 rfl (lv_at hl 3 rfl) ?_
  refine lv_iconst (pc := 722) (v := 1) hx hb dL_law_722 ic_1 ?_
  refine lv_iadd (pc := 723) hx hb dL_law_723 ?_
  refine va_sld (pc := 724) hx hb hX hbl hbA hS hi1 dL_law_724 ?_
  refine fin2_i (wl_law cA a b (va_up xi 0 c1) (va_up (va_up (va_up (va_up (va_up xa 18 c2) 19 c3) 20 c4) 21 c5) 22 c7) xl (va_up xm 0 c6) (va_up (va_up (va_up mi 1 d1) 2 d2) 3 d3) (va_up (va_up (va_up (va_up (va_up ma 6 d4) 7 d5) 11 d6) 12 d7) 13 d8)) (run_V (rest := [.int r]) (pc := 725) (As := [.int (xs (x3 + 1).toNatClampNeg)]) C mf_L_90 (c_X9_first l D cA b (mi 0) (mi 1) (mi 2) (mi 3) (mi 4) (mi 5) (mi 6) (mi 7) (mi 8) (ma 4) (ma 5) (ma 6) (ma 7) (ma 8) (ma 9) (ma 10) (ma 11) (ma 12) (ma 13) (xs (x3 + 1).toNatClampNeg) (r, d1, d2, d3, d4, d5, d6, d7, d8) hq2 H.size) rfl rfl ⟨(Nat.le_of_ble_eq_true rfl), (Nat.le_of_ble_eq_true rfl)⟩ (preV_of C hP hD [54, 59, 60, 61, 62, 63, 64, 65, 66, 67, 68] rfl (pl_nd pw_20) 0 rfl rfl rfl) rfl hl.1 rfl (Nat.le_of_ble_eq_true rfl) dL_law_725 ⟨(Nat.le_of_ble_eq_true rfl), (Nat.le_of_ble_eq_true rfl)⟩) hP hD hS hA [54, 59, 60, 61, 62, 63, 64, 65, 66, 67, 68] [0, 1, 2, 3, 4, 5, 6, 7, 8, 9, 10, 11, 12, 13, 14, 15, 16, 17, 18, 19, 20, 21, 22, 23, 24, 25, 26, 27, 28, 29, 30, 31, 32, 33, 34, 35, 36, 37, 38, 39, 40, 41, 42, 43, 44, 45, 46, 47, 48, 49, 50, 51, 52, 53, 55, 56, 57, 58, 69, 70] rfl rfl rfl rfl pw_20 (fun H locs hP hS => ?_)
  have hD : va_D (fun q : Nat => s.heap.size ≤ q) (wl_law cA a b (va_up xi 0 c1) (va_up (va_up (va_up (va_up (va_up xa 18 c2) 19 c3) 20 c4) 21 c5) 22 c7) xl (va_up xm 0 c6) (va_up (va_up (va_up mi 1 d1) 2 d2) 3 d3) (va_up (va_up (va_up (va_up (va_up ma 6 d4) 7 d5) 11 d6) 12 d7) 13 d8)) := vd_a hD rfl
  refine lv_icmp_eq (pc := 728) (tgt := 1369) hx hb dL_law_728 (by decide) (fun hc => ?_) (fun hc => absurd rfl hc)
  exact hn (va_up xi 0 c1) (va_up (va_up (va_up (va_up (va_up xa 18 c2) 19 c3) 20 c4) 21 c5) 22 c7) xl (va_up xm 0 c6) (va_up (va_up (va_up mi 1 d1) 2 d2) 3 d3) (va_up (va_up (va_up (va_up (va_up ma 6 d4) 7 d5) 11 d6) 12 d7) 13 d8) hrel H locs ls hP hD hS hl
set_option maxHeartbeats 4000000 in
set_option maxRecDepth 100000 in
theorem lc_19 {p : Program} {l : Launch} {e : Env} {s : State} {m : MethodId} {below : List Frame} {meth : Method} {c : Code} {D : va_G} {cA : Nat → ClassId} {bs L : Nat} {xs : Nat → Int32} {Q : State → Prop} (C : Cx RL code 4 D cA p s m #[Value.ref bs] c) (hA : ∀ q, s.heap.size ≤ q → (fun q : Nat => s.heap.size ≤ q) q) (hX : va_X bs L xs s s.heap) (hbl : bs < s.heap.size) (hbA : ¬ (fun q : Nat => s.heap.size ≤ q) bs) {x3 : Int32} (hi1 : vp_in (x3 + 1) L) (hi2 : vp_in (x3 + 2) L) (hi3 : vp_in (x3 + 3) L) (hi4 : vp_in (x3 + 4) L) (hi5 : vp_in (x3 + 5) L) (a b : Nat → Nat) (xi : Nat → Int32) (xa : Nat → Nat → Int32) (xl : Nat → Int64) (xm : Nat → Nat → Int64) (mi : Nat → Int32) (ma : Nat → Nat → Int32) (h : Rel xi xa xl xm mi ma) (hn : ∀ (xi : Nat → Int32) (xa : Nat → Nat → Int32) (xl : Nat → Int64) (xm : Nat → Nat → Int64) (mi : Nat → Int32) (ma : Nat → Nat → Int32), Rel xi xa xl xm mi ma → At p l e room_1 s m #[Value.ref bs] below meth c D (fun q : Nat => s.heap.size ≤ q) 71 2515 Q 4 1369 (wl_law cA a b xi xa xl xm mi ma) [(0, .ref bs), (1, .ref (a 0)), (2, .ref (b 0)), (3, .int x3)] []) : At p l e room_1 s m #[Value.ref bs] below meth c D (fun q : Nat => s.heap.size ≤ q) 71 2515 Q 4 733 (wl_law cA a b xi xa xl xm mi ma) [(0, .ref bs), (1, .ref (a 0)), (2, .ref (b 0)), (3, .int x3)] [] := by
  intro H locs ls hP hD hS hl
  have hx := C.1
  have hb := C.2.1
  have hown := C.2.2.2.1
  have hts := C.2.2.2.2.1
  obtain ⟨r, c1, c2, c3, c4, c5, c6, c7, c8, c9, c10, c11, c12, c13, d1, d2, d3, d4, d5, d6, d7, d8, d9, d10, hq1, hq2, hrel⟩ := sim_layOut h (xs (x3 + 1).toNatClampNeg) (xs (x3 + 2).toNatClampNeg) (xs (x3 + 3).toNatClampNeg) (xs (x3 + 4).toNatClampNeg)
  refine lv_aload_n (pc := 733) hx hb dL_law_733 rfl (lv_at hl 1 rfl) ?_
  refine lv_aload_n (pc := 734) hx hb dL_law_734 rfl (lv_at hl 0 rfl) ?_
  refine lv_iload_n (pc := 735) hx hb dL_law_735 rfl (lv_at hl 3 rfl) ?_
  refine lv_iconst (pc := 736) (v := 1) hx hb dL_law_736 ic_1 ?_
  refine lv_iadd (pc := 737) hx hb dL_law_737 ?_
  refine va_sld (pc := 738) hx hb hX hbl hbA hS hi1 dL_law_738 ?_
  refine lv_aload_n (pc := 739) hx hb dL_law_739 rfl (lv_at hl 0 rfl) ?_
  refine lv_iload_n (pc := 740) hx hb dL_law_740 rfl (lv_at hl 3 rfl) ?_
  refine lv_iconst (pc := 741) (v := 2) hx hb dL_law_741 ic_2 ?_
  refine lv_iadd (pc := 742) hx hb dL_law_742 ?_
  refine va_sld (pc := 743) hx hb hX hbl hbA hS hi2 dL_law_743 ?_
  refine lv_aload_n (pc := 744) hx hb dL_law_744 rfl (lv_at hl 0 rfl) ?_
  refine lv_iload_n (pc := 745) hx hb dL_law_745 rfl (lv_at hl 3 rfl) ?_
  refine lv_iconst (pc := 746) (v := 3) hx hb dL_law_746 ic_3 ?_
  refine lv_iadd (pc := 747) hx hb dL_law_747 ?_
  refine va_sld (pc := 748) hx hb hX hbl hbA hS hi3 dL_law_748 ?_
  refine lv_aload_n (pc := 749) hx hb dL_law_749 rfl (lv_at hl 0 rfl) ?_
  refine lv_iload_n (pc := 750) hx hb dL_law_750 rfl (lv_at hl 3 rfl) ?_
  refine lv_iconst (pc := 751) (v := 4) hx hb dL_law_751 ic_4 ?_
  refine lv_iadd (pc := 752) hx hb dL_law_752 ?_
  refine va_sld (pc := 753) hx hb hX hbl hbA hS hi4 dL_law_753 ?_
  refine fin2_i (wl_law cA a b (va_up (va_up (va_up (va_up (va_up (va_up (va_up xi 17 c1) 18 c2) 19 c3) 20 c4) 21 c11) 22 c12) 23 c13) (va_up (va_up (va_up (va_up (va_up xa 23 c5) 24 c6) 25 c7) 26 c8) 27 c10) xl (va_up xm 1 c9) mi ma) (run_V (rest := []) (pc := 754) (As := [.int (xs (x3 + 1).toNatClampNeg), .int (xs (x3 + 2).toNatClampNeg), .int (xs (x3 + 3).toNatClampNeg), .int (xs (x3 + 4).toNatClampNeg)]) C mf_L_91 (c_X8_layOut l D cA a (xi 0) (xi 1) (xi 4) (xi 5) (xi 6) (xi 7) (xa 2) (xa 3) (xa 4) (xa 5) (xa 6) (xi 8) (xi 9) (xa 7) (xi 10) (xa 9) (xa 10) (xi 11) (xa 12) (xa 13) (xi 13) (xi 14) (xi 15) (xi 16) (xi 17) (xi 18) (xi 19) (xi 20) (xa 23) (xa 24) (xa 25) (xa 26) (xm 1) (xa 27) (xi 21) (xi 22) (xi 23) (xs (x3 + 1).toNatClampNeg) (xs (x3 + 2).toNatClampNeg) (xs (x3 + 3).toNatClampNeg) (xs (x3 + 4).toNatClampNeg) (r, c1, c2, c3, c4, c5, c6, c7, c8, c9, c10, c11, c12, c13) hq1 H.size) rfl rfl ⟨(Nat.le_of_ble_eq_true rfl), (Nat.le_of_ble_eq_true rfl)⟩ (preV_of C hP hD [0, 6, 7, 8, 9, 10, 11, 12, 13, 15, 16, 17, 19, 20, 21, 27, 34, 35, 36, 37, 38, 39, 40, 41] rfl (pl_nd pw_23) 0 rfl rfl rfl) rfl hl.1 rfl (Nat.le_of_ble_eq_true rfl) dL_law_754 ⟨(Nat.le_of_ble_eq_true rfl), (Nat.le_of_ble_eq_true rfl)⟩) hP hD hS hA [0, 6, 7, 8, 9, 10, 11, 12, 13, 15, 16, 17, 19, 20, 21, 27, 34, 35, 36, 37, 38, 39, 40, 41] [1, 2, 3, 4, 5, 14, 18, 22, 23, 24, 25, 26, 28, 29, 30, 31, 32, 33, 42, 43, 44, 45, 46, 47, 48, 49, 50, 51, 52, 53, 54, 55, 56, 57, 58, 59, 60, 61, 62, 63, 64, 65, 66, 67, 68, 69, 70] rfl rfl rfl rfl pw_23 (fun H locs hP hS => ?_)
  have hD : va_D (fun q : Nat => s.heap.size ≤ q) (wl_law cA a b (va_up (va_up (va_up (va_up (va_up (va_up (va_up xi 17 c1) 18 c2) 19 c3) 20 c4) 21 c11) 22 c12) 23 c13) (va_up (va_up (va_up (va_up (va_up xa 23 c5) 24 c6) 25 c7) 26 c8) 27 c10) xl (va_up xm 1 c9) mi ma) := vd_a hD rfl
  refine lv_aload_n (pc := 757) hx hb dL_law_757 rfl (lv_at hl 2 rfl) ?_
  refine lv_aload_n (pc := 758) hx hb dL_law_758 rfl (lv_at hl 0 rfl) ?_
  refine lv_iload_n (pc := 759) hx hb dL_law_759 rfl (lv_at hl 3 rfl) ?_
  refine lv_iconst (pc := 760) (v := 1) hx hb dL_law_760 ic_1 ?_
  refine lv_iadd (pc := 761) hx hb dL_law_761 ?_
  refine va_sld (pc := 762) hx hb hX hbl hbA hS hi1 dL_law_762 ?_
  refine lv_aload_n (pc := 763) hx hb dL_law_763 rfl (lv_at hl 0 rfl) ?_
  refine lv_iload_n (pc := 764) hx hb dL_law_764 rfl (lv_at hl 3 rfl) ?_
  refine lv_iconst (pc := 765) (v := 2) hx hb dL_law_765 ic_2 ?_
  refine lv_iadd (pc := 766) hx hb dL_law_766 ?_
  refine va_sld (pc := 767) hx hb hX hbl hbA hS hi2 dL_law_767 ?_
  refine lv_aload_n (pc := 768) hx hb dL_law_768 rfl (lv_at hl 0 rfl) ?_
  refine lv_iload_n (pc := 769) hx hb dL_law_769 rfl (lv_at hl 3 rfl) ?_
  refine lv_iconst (pc := 770) (v := 3) hx hb dL_law_770 ic_3 ?_
  refine lv_iadd (pc := 771) hx hb dL_law_771 ?_
  refine va_sld (pc := 772) hx hb hX hbl hbA hS hi3 dL_law_772 ?_
  refine lv_aload_n (pc := 773) hx hb dL_law_773 rfl (lv_at hl 0 rfl) ?_
  refine lv_iload_n (pc := 774) hx hb dL_law_774 rfl (lv_at hl 3 rfl) ?_
  refine lv_iconst (pc := 775) (v := 4) hx hb dL_law_775 ic_4 ?_
  refine lv_iadd (pc := 776) hx hb dL_law_776 ?_
  refine va_sld (pc := 777) hx hb hX hbl hbA hS hi4 dL_law_777 ?_
  refine fin2_i (wl_law cA a b (va_up (va_up (va_up (va_up (va_up (va_up (va_up xi 17 c1) 18 c2) 19 c3) 20 c4) 21 c11) 22 c12) 23 c13) (va_up (va_up (va_up (va_up (va_up xa 23 c5) 24 c6) 25 c7) 26 c8) 27 c10) xl (va_up xm 1 c9) (va_up (va_up (va_up (va_up mi 1 d1) 2 d2) 3 d3) 4 d4) (va_up (va_up (va_up (va_up (va_up (va_up ma 6 d5) 7 d6) 9 d7) 11 d8) 12 d9) 13 d10)) (run_V (rest := [.int r]) (pc := 778) (As := [.int (xs (x3 + 1).toNatClampNeg), .int (xs (x3 + 2).toNatClampNeg), .int (xs (x3 + 3).toNatClampNeg), .int (xs (x3 + 4).toNatClampNeg)]) C mf_L_95 (c_X9_layOut l D cA b (mi 0) (mi 1) (mi 2) (mi 3) (mi 4) (mi 5) (mi 6) (mi 7) (mi 8) (ma 4) (ma 5) (ma 6) (ma 7) (ma 8) (ma 9) (ma 10) (ma 11) (ma 12) (ma 13) (xs (x3 + 1).toNatClampNeg) (xs (x3 + 2).toNatClampNeg) (xs (x3 + 3).toNatClampNeg) (xs (x3 + 4).toNatClampNeg) (r, d1, d2, d3, d4, d5, d6, d7, d8, d9, d10) hq2 H.size) rfl rfl ⟨(Nat.le_of_ble_eq_true rfl), (Nat.le_of_ble_eq_true rfl)⟩ (preV_of C hP hD [54, 59, 60, 61, 62, 63, 64, 65, 66, 67, 68] rfl (pl_nd pw_20) 0 rfl rfl rfl) rfl hl.1 rfl (Nat.le_of_ble_eq_true rfl) dL_law_778 ⟨(Nat.le_of_ble_eq_true rfl), (Nat.le_of_ble_eq_true rfl)⟩) hP hD hS hA [54, 59, 60, 61, 62, 63, 64, 65, 66, 67, 68] [0, 1, 2, 3, 4, 5, 6, 7, 8, 9, 10, 11, 12, 13, 14, 15, 16, 17, 18, 19, 20, 21, 22, 23, 24, 25, 26, 27, 28, 29, 30, 31, 32, 33, 34, 35, 36, 37, 38, 39, 40, 41, 42, 43, 44, 45, 46, 47, 48, 49, 50, 51, 52, 53, 55, 56, 57, 58, 69, 70] rfl rfl rfl rfl pw_20 (fun H locs hP hS => ?_)
  have hD : va_D (fun q : Nat => s.heap.size ≤ q) (wl_law cA a b (va_up (va_up (va_up (va_up (va_up (va_up (va_up xi 17 c1) 18 c2) 19 c3) 20 c4) 21 c11) 22 c12) 23 c13) (va_up (va_up (va_up (va_up (va_up xa 23 c5) 24 c6) 25 c7) 26 c8) 27 c10) xl (va_up xm 1 c9) (va_up (va_up (va_up (va_up mi 1 d1) 2 d2) 3 d3) 4 d4) (va_up (va_up (va_up (va_up (va_up (va_up ma 6 d5) 7 d6) 9 d7) 11 d8) 12 d9) 13 d10)) := vd_a hD rfl
  refine lv_icmp_eq (pc := 781) (tgt := 1369) hx hb dL_law_781 (by decide) (fun hc => ?_) (fun hc => absurd rfl hc)
  exact hn (va_up (va_up (va_up (va_up (va_up (va_up (va_up xi 17 c1) 18 c2) 19 c3) 20 c4) 21 c11) 22 c12) 23 c13) (va_up (va_up (va_up (va_up (va_up xa 23 c5) 24 c6) 25 c7) 26 c8) 27 c10) xl (va_up xm 1 c9) (va_up (va_up (va_up (va_up mi 1 d1) 2 d2) 3 d3) 4 d4) (va_up (va_up (va_up (va_up (va_up (va_up ma 6 d5) 7 d6) 9 d7) 11 d8) 12 d9) 13 d10) hrel H locs ls hP hD hS hl
set_option maxHeartbeats 4000000 in
set_option maxRecDepth 100000 in
theorem lc_20 {p : Program} {l : Launch} {e : Env} {s : State} {m : MethodId} {below : List Frame} {meth : Method} {c : Code} {D : va_G} {cA : Nat → ClassId} {bs L : Nat} {xs : Nat → Int32} {Q : State → Prop} (C : Cx RL code 4 D cA p s m #[Value.ref bs] c) (hA : ∀ q, s.heap.size ≤ q → (fun q : Nat => s.heap.size ≤ q) q) (hX : va_X bs L xs s s.heap) (hbl : bs < s.heap.size) (hbA : ¬ (fun q : Nat => s.heap.size ≤ q) bs) {x3 : Int32} (hi1 : vp_in (x3 + 1) L) (hi2 : vp_in (x3 + 2) L) (hi3 : vp_in (x3 + 3) L) (hi4 : vp_in (x3 + 4) L) (hi5 : vp_in (x3 + 5) L) (a b : Nat → Nat) (xi : Nat → Int32) (xa : Nat → Nat → Int32) (xl : Nat → Int64) (xm : Nat → Nat → Int64) (mi : Nat → Int32) (ma : Nat → Nat → Int32) (h : Rel xi xa xl xm mi ma) (hn : ∀ (xi : Nat → Int32) (xa : Nat → Nat → Int32) (xl : Nat → Int64) (xm : Nat → Nat → Int64) (mi : Nat → Int32) (ma : Nat → Nat → Int32), Rel xi xa xl xm mi ma → At p l e room_1 s m #[Value.ref bs] below meth c D (fun q : Nat => s.heap.size ≤ q) 71 2515 Q 4 1369 (wl_law cA a b xi xa xl xm mi ma) [(0, .ref bs), (1, .ref (a 0)), (2, .ref (b 0)), (3, .int x3)] []) : At p l e room_1 s m #[Value.ref bs] below meth c D (fun q : Nat => s.heap.size ≤ q) 71 2515 Q 4 786 (wl_law cA a b xi xa xl xm mi ma) [(0, .ref bs), (1, .ref (a 0)), (2, .ref (b 0)), (3, .int x3)] [] := by
  intro H locs ls hP hD hS hl
  have hx := C.1
  have hb := C.2.1
  have hown := C.2.2.2.1
  have hts := C.2.2.2.2.1
  obtain ⟨r, c1, c2, c3, c4, c5, c6, c7, c8, c9, c10, d1, d2, d3, d4, d5, d6, d7, d8, hq1, hq2, hrel⟩ := sim_rake h (xs (x3 + 1).toNatClampNeg) (xs (x3 + 2).toNatClampNeg) (xs (x3 + 3).toNatClampNeg)
  refine lv_aload_n (pc := 786) hx hb dL_law_786 rfl (lv_at hl 1 rfl) ?_
  refine lv_aload_n (pc := 787) hx hb dL_law_787 rfl (lv_at hl 0 rfl) ?_
  refine lv_iload_n (pc := 788) hx hb dL_law_788 rfl (lv_at hl 3 rfl) ?_
  refine lv_iconst (pc := 789) (v := 1) hx hb dL_law_789 ic_1 ?_
  refine lv_iadd (pc := 790) hx hb dL_law_790 ?_
  refine va_sld (pc := 791) hx hb hX hbl hbA hS hi1 dL_law_791 ?_
  refine lv_aload_n (pc := 792) hx hb dL_law_792 rfl (lv_at hl 0 rfl) ?_
  refine lv_iload_n (pc := 793) hx hb dL_law_793 rfl (lv_at hl 3 rfl) ?_
  refine lv_iconst (pc := 794) (v := 2) hx hb dL_law_794 ic_2 ?_
  refine lv_iadd (pc := 795) hx hb dL_law_795 ?_
  refine va_sld (pc := 796) hx hb hX hbl hbA hS hi2 dL_law_796 ?_
  refine lv_aload_n (pc := 797) hx hb dL_law_797 rfl (lv_at hl 0 rfl) ?_
  refine lv_iload_n (pc := 798) hx hb dL_law_798 rfl (lv_at hl 3 rfl) ?_
  refine lv_iconst (pc := 799) (v := 3) hx hb dL_law_799 ic_3 ?_
  refine lv_iadd (pc := 800) hx hb dL_law_800 ?_
  refine va_sld (pc := 801) hx hb hX hbl hbA hS hi3 dL_law_801 ?_
  refine fin2_i (wl_law cA a b (va_up (va_up (va_up (va_up xi 17 c1) 18 c2) 19 c3) 20 c4) (va_up (va_up (va_up (va_up (va_up xa 23 c5) 24 c6) 25 c7) 26 c8) 27 c10) xl (va_up xm 1 c9) mi ma) (run_V (rest := []) (pc := 802) (As := [.int (xs (x3 + 1).toNatClampNeg), .int (xs (x3 + 2).toNatClampNeg), .int (xs (x3 + 3).toNatClampNeg)]) C mf_L_96 (c_X8_rake l D cA a (xi 0) (xi 1) (xi 4) (xi 5) (xi 6) (xi 7) (xa 2) (xa 3) (xa 4) (xa 5) (xa 6) (xi 8) (xi 9) (xa 7) (xi 10) (xa 9) (xa 10) (xi 11) (xa 12) (xa 13) (xi 13) (xi 14) (xi 15) (xi 16) (xi 17) (xi 18) (xi 19) (xi 20) (xa 23) (xa 24) (xa 25) (xa 26) (xm 1) (xa 27) (xs (x3 + 1).toNatClampNeg) (xs (x3 + 2).toNatClampNeg) (xs (x3 + 3).toNatClampNeg) (r, c1, c2, c3, c4, c5, c6, c7, c8, c9, c10) hq1 H.size) rfl rfl ⟨(Nat.le_of_ble_eq_true rfl), (Nat.le_of_ble_eq_true rfl)⟩ (preV_of C hP hD [0, 6, 7, 8, 9, 10, 11, 12, 13, 15, 16, 17, 19, 20, 21, 27, 34, 35, 36, 37, 38, 39, 40] rfl (pl_nd pw_24) 0 rfl rfl rfl) rfl hl.1 rfl (Nat.le_of_ble_eq_true rfl) dL_law_802 ⟨(Nat.le_of_ble_eq_true rfl), (Nat.le_of_ble_eq_true rfl)⟩) hP hD hS hA [0, 6, 7, 8, 9, 10, 11, 12, 13, 15, 16, 17, 19, 20, 21, 27, 34, 35, 36, 37, 38, 39, 40] [1, 2, 3, 4, 5, 14, 18, 22, 23, 24, 25, 26, 28, 29, 30, 31, 32, 33, 41, 42, 43, 44, 45, 46, 47, 48, 49, 50, 51, 52, 53, 54, 55, 56, 57, 58, 59, 60, 61, 62, 63, 64, 65, 66, 67, 68, 69, 70] rfl rfl rfl rfl pw_24 (fun H locs hP hS => ?_)
  have hD : va_D (fun q : Nat => s.heap.size ≤ q) (wl_law cA a b (va_up (va_up (va_up (va_up xi 17 c1) 18 c2) 19 c3) 20 c4) (va_up (va_up (va_up (va_up (va_up xa 23 c5) 24 c6) 25 c7) 26 c8) 27 c10) xl (va_up xm 1 c9) mi ma) := vd_a hD rfl
  refine lv_aload_n (pc := 805) hx hb dL_law_805 rfl (lv_at hl 2 rfl) ?_
  refine lv_aload_n (pc := 806) hx hb dL_law_806 rfl (lv_at hl 0 rfl) ?_
  refine lv_iload_n (pc := 807) hx hb dL_law_807 rfl (lv_at hl 3 rfl) ?_
  refine lv_iconst (pc := 808) (v := 1) hx hb dL_law_808 ic_1 ?_
  refine lv_iadd (pc := 809) hx hb dL_law_809 ?_
  refine va_sld (pc := 810) hx hb hX hbl hbA hS hi1 dL_law_810 ?_
  refine lv_aload_n (pc := 811) hx hb dL_law_811 rfl (lv_at hl 0 rfl) ?_
  refine lv_iload_n (pc := 812) hx hb dL_law_812 rfl (lv_at hl 3 rfl) ?_
  refine lv_iconst (pc := 813) (v := 2) hx hb dL_law_813 ic_2 ?_
  refine lv_iadd (pc := 814) hx hb dL_law_814 ?_
  refine va_sld (pc := 815) hx hb hX hbl hbA hS hi2 dL_law_815 ?_
  refine lv_aload_n (pc := 816) hx hb dL_law_816 rfl (lv_at hl 0 rfl) ?_
  refine lv_iload_n (pc := 817) hx hb dL_law_817 rfl (lv_at hl 3 rfl) ?_
  refine lv_iconst (pc := 818) (v := 3) hx hb dL_law_818 ic_3 ?_
  refine lv_iadd (pc := 819) hx hb dL_law_819 ?_
  refine va_sld (pc := 820) hx hb hX hbl hbA hS hi3 dL_law_820 ?_
  refine fin2_i (wl_law cA a b (va_up (va_up (va_up (va_up xi 17 c1) 18 c2) 19 c3) 20 c4) (va_up (va_up (va_up (va_up (va_up xa 23 c5) 24 c6) 25 c7) 26 c8) 27 c10) xl (va_up xm 1 c9) (va_up (va_up (va_up mi 1 d1) 2 d2) 3 d3) (va_up (va_up (va_up (va_up (va_up ma 6 d4) 7 d5) 11 d6) 12 d7) 13 d8)) (run_V (rest := [.int r]) (pc := 821) (As := [.int (xs (x3 + 1).toNatClampNeg), .int (xs (x3 + 2).toNatClampNeg), .int (xs (x3 + 3).toNatClampNeg)]) C mf_L_100 (c_X9_rake l D cA b (mi 0) (mi 1) (mi 2) (mi 3) (mi 4) (mi 5) (mi 6) (mi 7) (mi 8) (ma 4) (ma 5) (ma 6) (ma 7) (ma 8) (ma 9) (ma 10) (ma 11) (ma 12) (ma 13) (xs (x3 + 1).toNatClampNeg) (xs (x3 + 2).toNatClampNeg) (xs (x3 + 3).toNatClampNeg) (r, d1, d2, d3, d4, d5, d6, d7, d8) hq2 H.size) rfl rfl ⟨(Nat.le_of_ble_eq_true rfl), (Nat.le_of_ble_eq_true rfl)⟩ (preV_of C hP hD [54, 59, 60, 61, 62, 63, 64, 65, 66, 67, 68] rfl (pl_nd pw_20) 0 rfl rfl rfl) rfl hl.1 rfl (Nat.le_of_ble_eq_true rfl) dL_law_821 ⟨(Nat.le_of_ble_eq_true rfl), (Nat.le_of_ble_eq_true rfl)⟩) hP hD hS hA [54, 59, 60, 61, 62, 63, 64, 65, 66, 67, 68] [0, 1, 2, 3, 4, 5, 6, 7, 8, 9, 10, 11, 12, 13, 14, 15, 16, 17, 18, 19, 20, 21, 22, 23, 24, 25, 26, 27, 28, 29, 30, 31, 32, 33, 34, 35, 36, 37, 38, 39, 40, 41, 42, 43, 44, 45, 46, 47, 48, 49, 50, 51, 52, 53, 55, 56, 57, 58, 69, 70] rfl rfl rfl rfl pw_20 (fun H locs hP hS => ?_)
  have hD : va_D (fun q : Nat => s.heap.size ≤ q) (wl_law cA a b (va_up (va_up (va_up (va_up xi 17 c1) 18 c2) 19 c3) 20 c4) (va_up (va_up (va_up (va_up (va_up xa 23 c5) 24 c6) 25 c7) 26 c8) 27 c10) xl (va_up xm 1 c9) (va_up (va_up (va_up mi 1 d1) 2 d2) 3 d3) (va_up (va_up (va_up (va_up (va_up ma 6 d4) 7 d5) 11 d6) 12 d7) 13 d8)) := vd_a hD rfl
  refine lv_icmp_eq (pc := 824) (tgt := 1369) hx hb dL_law_824 (by decide) (fun hc => ?_) (fun hc => absurd rfl hc)
  exact hn (va_up (va_up (va_up (va_up xi 17 c1) 18 c2) 19 c3) 20 c4) (va_up (va_up (va_up (va_up (va_up xa 23 c5) 24 c6) 25 c7) 26 c8) 27 c10) xl (va_up xm 1 c9) (va_up (va_up (va_up mi 1 d1) 2 d2) 3 d3) (va_up (va_up (va_up (va_up (va_up ma 6 d4) 7 d5) 11 d6) 12 d7) 13 d8) hrel H locs ls hP hD hS hl
set_option maxHeartbeats 4000000 in
set_option maxRecDepth 100000 in
theorem lc_21 {p : Program} {l : Launch} {e : Env} {s : State} {m : MethodId} {below : List Frame} {meth : Method} {c : Code} {D : va_G} {cA : Nat → ClassId} {bs L : Nat} {xs : Nat → Int32} {Q : State → Prop} (C : Cx RL code 4 D cA p s m #[Value.ref bs] c) (hA : ∀ q, s.heap.size ≤ q → (fun q : Nat => s.heap.size ≤ q) q) (hX : va_X bs L xs s s.heap) (hbl : bs < s.heap.size) (hbA : ¬ (fun q : Nat => s.heap.size ≤ q) bs) {x3 : Int32} (hi1 : vp_in (x3 + 1) L) (hi2 : vp_in (x3 + 2) L) (hi3 : vp_in (x3 + 3) L) (hi4 : vp_in (x3 + 4) L) (hi5 : vp_in (x3 + 5) L) (a b : Nat → Nat) (xi : Nat → Int32) (xa : Nat → Nat → Int32) (xl : Nat → Int64) (xm : Nat → Nat → Int64) (mi : Nat → Int32) (ma : Nat → Nat → Int32) (h : Rel xi xa xl xm mi ma) (hn : ∀ (xi : Nat → Int32) (xa : Nat → Nat → Int32) (xl : Nat → Int64) (xm : Nat → Nat → Int64) (mi : Nat → Int32) (ma : Nat → Nat → Int32), Rel xi xa xl xm mi ma → At p l e room_1 s m #[Value.ref bs] below meth c D (fun q : Nat => s.heap.size ≤ q) 71 2515 Q 4 1369 (wl_law cA a b xi xa xl xm mi ma) [(0, .ref bs), (1, .ref (a 0)), (2, .ref (b 0)), (3, .int x3)] []) : At p l e room_1 s m #[Value.ref bs] below meth c D (fun q : Nat => s.heap.size ≤ q) 71 2515 Q 4 829 (wl_law cA a b xi xa xl xm mi ma) [(0, .ref bs), (1, .ref (a 0)), (2, .ref (b 0)), (3, .int x3)] [] := by
  intro H locs ls hP hD hS hl
  have hx := C.1
  have hb := C.2.1
  have hown := C.2.2.2.1
  have hts := C.2.2.2.2.1
  obtain ⟨r, c1, c2, c3, c4, c5, c6, c7, d1, d2, d3, d4, d5, d6, d7, d8, hq1, hq2, hrel⟩ := sim_live h (xs (x3 + 1).toNatClampNeg) (xs (x3 + 2).toNatClampNeg)
  refine lv_aload_n (pc := 829) hx hb dL_law_829 rfl (lv_at hl 1 rfl) ?_
  refine lv_aload_n (pc := 830) hx hb dL_law_830 rfl (lv_at hl 0 rfl) ?_
  refine lv_iload_n (pc := 831) hx hb dL_law_831 rfl (lv_at hl 3 rfl) ?_
  refine lv_iconst (pc := 832) (v := 1) hx hb dL_law_832 ic_1 ?_
  refine lv_iadd (pc := 833) hx hb dL_law_833 ?_
  refine va_sld (pc := 834) hx hb hX hbl hbA hS hi1 dL_law_834 ?_
  refine lv_aload_n (pc := 835) hx hb dL_law_835 rfl (lv_at hl 0 rfl) ?_
  refine lv_iload_n (pc := 836) hx hb dL_law_836 rfl (lv_at hl 3 rfl) ?_
  refine lv_iconst (pc := 837) (v := 2) hx hb dL_law_837 ic_2 ?_
  refine lv_iadd (pc := 838) hx hb dL_law_838 ?_
  refine va_sld (pc := 839) hx hb hX hbl hbA hS hi2 dL_law_839 ?_
  refine fin2_i (wl_law cA a b (va_up xi 0 c1) (va_up (va_up (va_up (va_up (va_up xa 18 c2) 19 c3) 20 c4) 21 c5) 22 c7) xl (va_up xm 0 c6) mi ma) (run_V (rest := []) (pc := 840) (As := [.int (xs (x3 + 1).toNatClampNeg), .int (xs (x3 + 2).toNatClampNeg)]) C mf_L_101 (c_X8_live l D cA a (xi 0) (xi 1) (xi 4) (xi 5) (xi 6) (xi 7) (xa 2) (xa 3) (xa 4) (xa 5) (xa 6) (xi 8) (xi 9) (xa 7) (xi 10) (xa 9) (xa 10) (xi 11) (xa 12) (xa 13) (xi 13) (xi 14) (xi 15) (xi 16) (xa 18) (xa 19) (xa 20) (xa 21) (xm 0) (xa 22) (xs (x3 + 1).toNatClampNeg) (xs (x3 + 2).toNatClampNeg) (r, c1, c2, c3, c4, c5, c6, c7) hq1 H.size) rfl rfl ⟨(Nat.le_of_ble_eq_true rfl), (Nat.le_of_ble_eq_true rfl)⟩ (preV_of C hP hD [0, 6, 7, 8, 9, 10, 11, 12, 13, 15, 16, 17, 19, 20, 21, 27, 28, 29, 30, 31, 32, 33] rfl (pl_nd pw_21) 0 rfl rfl rfl) rfl hl.1 rfl (Nat.le_of_ble_eq_true rfl) dL_law_840 ⟨(Nat.le_of_ble_eq_true rfl), (Nat.le_of_ble_eq_true rfl)⟩) hP hD hS hA [0, 6, 7, 8, 9, 10, 11, 12, 13, 15, 16, 17, 19, 20, 21, 27, 28, 29, 30, 31, 32, 33] [1, 2, 3, 4, 5, 14, 18, 22, 23, 24, 25, 26, 34, 35, 36, 37, 38, 39, 40, 41, 42, 43, 44, 45, 46, 47, 48, 49, 50, 51, 52, 53, 54, 55, 56, 57, 58, 59, 60, 61, 62, 63, 64, 65, 66, 67, 68, 69, 70] rfl rfl rfl rfl pw_21 (fun H locs hP hS => ?_)
  have hD : va_D (fun q : Nat => s.heap.size ≤ q) (wl_law cA a b (va_up xi 0 c1) (va_up (va_up (va_up (va_up (va_up xa 18 c2) 19 c3) 20 c4) 21 c5) 22 c7) xl (va_up xm 0 c6) mi ma) := vd_a hD rfl
  refine lv_aload_n (pc := 843) hx hb dL_law_843 rfl (lv_at hl 2 rfl) ?_
  refine lv_aload_n (pc := 844) hx hb dL_law_844 rfl (lv_at hl 0 rfl) ?_
  refine lv_iload_n (pc := 845) hx hb dL_law_845 rfl (lv_at hl 3 rfl) ?_
  refine lv_iconst (pc := 846) (v := 1) hx hb dL_law_846 ic_1 ?_
  refine lv_iadd (pc := 847) hx hb dL_law_847 ?_
  refine va_sld (pc := 848) hx hb hX hbl hbA hS hi1 dL_law_848 ?_
  refine lv_aload_n (pc := 849) hx hb dL_law_849 rfl (lv_at hl 0 rfl) ?_
  refine lv_iload_n (pc := 850) hx hb dL_law_850 rfl (lv_at hl 3 rfl) ?_
  refine lv_iconst (pc := 851) (v := 2) hx hb dL_law_851 ic_2 ?_
  refine lv_iadd (pc := 852) hx hb dL_law_852 ?_
  refine va_sld (pc := 853) hx hb hX hbl hbA hS hi2 dL_law_853 ?_
  refine fin2_i (wl_law cA a b (va_up xi 0 c1) (va_up (va_up (va_up (va_up (va_up xa 18 c2) 19 c3) 20 c4) 21 c5) 22 c7) xl (va_up xm 0 c6) (va_up (va_up (va_up mi 1 d1) 2 d2) 3 d3) (va_up (va_up (va_up (va_up (va_up ma 6 d4) 7 d5) 11 d6) 12 d7) 13 d8)) (run_V (rest := [.int r]) (pc := 854) (As := [.int (xs (x3 + 1).toNatClampNeg), .int (xs (x3 + 2).toNatClampNeg)]) C mf_L_104 (c_X9_live l D cA b (mi 0) (mi 1) (mi 2) (mi 3) (mi 4) (mi 5) (mi 6) (mi 7) (mi 8) (ma 4) (ma 5) (ma 6) (ma 7) (ma 8) (ma 9) (ma 10) (ma 11) (ma 12) (ma 13) (xs (x3 + 1).toNatClampNeg) (xs (x3 + 2).toNatClampNeg) (r, d1, d2, d3, d4, d5, d6, d7, d8) hq2 H.size) rfl rfl ⟨(Nat.le_of_ble_eq_true rfl), (Nat.le_of_ble_eq_true rfl)⟩ (preV_of C hP hD [54, 59, 60, 61, 62, 63, 64, 65, 66, 67, 68] rfl (pl_nd pw_20) 0 rfl rfl rfl) rfl hl.1 rfl (Nat.le_of_ble_eq_true rfl) dL_law_854 ⟨(Nat.le_of_ble_eq_true rfl), (Nat.le_of_ble_eq_true rfl)⟩) hP hD hS hA [54, 59, 60, 61, 62, 63, 64, 65, 66, 67, 68] [0, 1, 2, 3, 4, 5, 6, 7, 8, 9, 10, 11, 12, 13, 14, 15, 16, 17, 18, 19, 20, 21, 22, 23, 24, 25, 26, 27, 28, 29, 30, 31, 32, 33, 34, 35, 36, 37, 38, 39, 40, 41, 42, 43, 44, 45, 46, 47, 48, 49, 50, 51, 52, 53, 55, 56, 57, 58, 69, 70] rfl rfl rfl rfl pw_20 (fun H locs hP hS => ?_)
  have hD : va_D (fun q : Nat => s.heap.size ≤ q) (wl_law cA a b (va_up xi 0 c1) (va_up (va_up (va_up (va_up (va_up xa 18 c2) 19 c3) 20 c4) 21 c5) 22 c7) xl (va_up xm 0 c6) (va_up (va_up (va_up mi 1 d1) 2 d2) 3 d3) (va_up (va_up (va_up (va_up (va_up ma 6 d4) 7 d5) 11 d6) 12 d7) 13 d8)) := vd_a hD rfl
  refine lv_icmp_eq (pc := 857) (tgt := 1369) hx hb dL_law_857 (by decide) (fun hc => ?_) (fun hc => absurd rfl hc)
  exact hn (va_up xi 0 c1) (va_up (va_up (va_up (va_up (va_up xa 18 c2) 19 c3) 20 c4) 21 c5) 22 c7) xl (va_up xm 0 c6) (va_up (va_up (va_up mi 1 d1) 2 d2) 3 d3) (va_up (va_up (va_up (va_up (va_up ma 6 d4) 7 d5) 11 d6) 12 d7) 13 d8) hrel H locs ls hP hD hS hl
set_option maxHeartbeats 4000000 in
set_option maxRecDepth 100000 in
theorem lc_22 {p : Program} {l : Launch} {e : Env} {s : State} {m : MethodId} {below : List Frame} {meth : Method} {c : Code} {D : va_G} {cA : Nat → ClassId} {bs L : Nat} {xs : Nat → Int32} {Q : State → Prop} (C : Cx RL code 4 D cA p s m #[Value.ref bs] c) (hA : ∀ q, s.heap.size ≤ q → (fun q : Nat => s.heap.size ≤ q) q) (hX : va_X bs L xs s s.heap) (hbl : bs < s.heap.size) (hbA : ¬ (fun q : Nat => s.heap.size ≤ q) bs) {x3 : Int32} (hi1 : vp_in (x3 + 1) L) (hi2 : vp_in (x3 + 2) L) (hi3 : vp_in (x3 + 3) L) (hi4 : vp_in (x3 + 4) L) (hi5 : vp_in (x3 + 5) L) (a b : Nat → Nat) (xi : Nat → Int32) (xa : Nat → Nat → Int32) (xl : Nat → Int64) (xm : Nat → Nat → Int64) (mi : Nat → Int32) (ma : Nat → Nat → Int32) (h : Rel xi xa xl xm mi ma) (hn : ∀ (xi : Nat → Int32) (xa : Nat → Nat → Int32) (xl : Nat → Int64) (xm : Nat → Nat → Int64) (mi : Nat → Int32) (ma : Nat → Nat → Int32), Rel xi xa xl xm mi ma → At p l e room_1 s m #[Value.ref bs] below meth c D (fun q : Nat => s.heap.size ≤ q) 71 2515 Q 4 1369 (wl_law cA a b xi xa xl xm mi ma) [(0, .ref bs), (1, .ref (a 0)), (2, .ref (b 0)), (3, .int x3)] []) : At p l e room_1 s m #[Value.ref bs] below meth c D (fun q : Nat => s.heap.size ≤ q) 71 2515 Q 4 862 (wl_law cA a b xi xa xl xm mi ma) [(0, .ref bs), (1, .ref (a 0)), (2, .ref (b 0)), (3, .int x3)] [] := by
  intro H locs ls hP hD hS hl
  have hx := C.1
  have hb := C.2.1
  have hown := C.2.2.2.1
  have hts := C.2.2.2.2.1
  obtain ⟨r, c1, c2, c3, c4, d1, d2, hq1, hq2, hrel⟩ := sim_seen h (xs (x3 + 1).toNatClampNeg) (xs (x3 + 2).toNatClampNeg) (xs (x3 + 3).toNatClampNeg)
  refine lv_aload_n (pc := 862) hx hb dL_law_862 rfl (lv_at hl 1 rfl) ?_
  refine lv_aload_n (pc := 863) hx hb dL_law_863 rfl (lv_at hl 0 rfl) ?_
  refine lv_iload_n (pc := 864) hx hb dL_law_864 rfl (lv_at hl 3 rfl) ?_
  refine lv_iconst (pc := 865) (v := 1) hx hb dL_law_865 ic_1 ?_
  refine lv_iadd (pc := 866) hx hb dL_law_866 ?_
  refine va_sld (pc := 867) hx hb hX hbl hbA hS hi1 dL_law_867 ?_
  refine lv_aload_n (pc := 868) hx hb dL_law_868 rfl (lv_at hl 0 rfl) ?_
  refine lv_iload_n (pc := 869) hx hb dL_law_869 rfl (lv_at hl 3 rfl) ?_
  refine lv_iconst (pc := 870) (v := 2) hx hb dL_law_870 ic_2 ?_
  refine lv_iadd (pc := 871) hx hb dL_law_871 ?_
  refine va_sld (pc := 872) hx hb hX hbl hbA hS hi2 dL_law_872 ?_
  refine lv_aload_n (pc := 873) hx hb dL_law_873 rfl (lv_at hl 0 rfl) ?_
  refine lv_iload_n (pc := 874) hx hb dL_law_874 rfl (lv_at hl 3 rfl) ?_
  refine lv_iconst (pc := 875) (v := 3) hx hb dL_law_875 ic_3 ?_
  refine lv_iadd (pc := 876) hx hb dL_law_876 ?_
  refine va_sld (pc := 877) hx hb hX hbl hbA hS hi3 dL_law_877 ?_
  refine fin2_i (wl_law cA a b (va_up xi 12 c1) (va_up (va_up (va_up xa 15 c2) 16 c3) 17 c4) xl xm mi ma) (run_V (rest := []) (pc := 878) (As := [.int (xs (x3 + 1).toNatClampNeg), .int (xs (x3 + 2).toNatClampNeg), .int (xs (x3 + 3).toNatClampNeg)]) C mf_L_105 (c_X8_seen l D cA a (xi 0) (xi 1) (xi 12) (xa 15) (xa 16) (xa 17) (xs (x3 + 1).toNatClampNeg) (xs (x3 + 2).toNatClampNeg) (xs (x3 + 3).toNatClampNeg) (r, c1, c2, c3, c4) hq1 H.size) rfl rfl ⟨(Nat.le_of_ble_eq_true rfl), (Nat.le_of_ble_eq_true rfl)⟩ (preV_of C hP hD [0, 23, 24, 25, 26] rfl (pl_nd pw_25) 0 rfl rfl rfl) rfl hl.1 rfl (Nat.le_of_ble_eq_true rfl) dL_law_878 ⟨(Nat.le_of_ble_eq_true rfl), (Nat.le_of_ble_eq_true rfl)⟩) hP hD hS hA [0, 23, 24, 25, 26] [1, 2, 3, 4, 5, 6, 7, 8, 9, 10, 11, 12, 13, 14, 15, 16, 17, 18, 19, 20, 21, 22, 27, 28, 29, 30, 31, 32, 33, 34, 35, 36, 37, 38, 39, 40, 41, 42, 43, 44, 45, 46, 47, 48, 49, 50, 51, 52, 53, 54, 55, 56, 57, 58, 59, 60, 61, 62, 63, 64, 65, 66, 67, 68, 69, 70] rfl rfl rfl rfl pw_25 (fun H locs hP hS => ?_)
  have hD : va_D (fun q : Nat => s.heap.size ≤ q) (wl_law cA a b (va_up xi 12 c1) (va_up (va_up (va_up xa 15 c2) 16 c3) 17 c4) xl xm mi ma) := vd_a hD rfl
  refine lv_aload_n (pc := 881) hx hb dL_law_881 rfl (lv_at hl 2 rfl) ?_
  refine lv_aload_n (pc := 882) hx hb dL_law_882 rfl (lv_at hl 0 rfl) ?_
  refine lv_iload_n (pc := 883) hx hb dL_law_883 rfl (lv_at hl 3 rfl) ?_
  refine lv_iconst (pc := 884) (v := 1) hx hb dL_law_884 ic_1 ?_
  refine lv_iadd (pc := 885) hx hb dL_law_885 ?_
  refine va_sld (pc := 886) hx hb hX hbl hbA hS hi1 dL_law_886 ?_
  refine lv_aload_n (pc := 887) hx hb dL_law_887 rfl (lv_at hl 0 rfl) ?_
  refine lv_iload_n (pc := 888) hx hb dL_law_888 rfl (lv_at hl 3 rfl) ?_
  refine lv_iconst (pc := 889) (v := 2) hx hb dL_law_889 ic_2 ?_
  refine lv_iadd (pc := 890) hx hb dL_law_890 ?_
  refine va_sld (pc := 891) hx hb hX hbl hbA hS hi2 dL_law_891 ?_
  refine lv_aload_n (pc := 892) hx hb dL_law_892 rfl (lv_at hl 0 rfl) ?_
  refine lv_iload_n (pc := 893) hx hb dL_law_893 rfl (lv_at hl 3 rfl) ?_
  refine lv_iconst (pc := 894) (v := 3) hx hb dL_law_894 ic_3 ?_
  refine lv_iadd (pc := 895) hx hb dL_law_895 ?_
  refine va_sld (pc := 896) hx hb hX hbl hbA hS hi3 dL_law_896 ?_
  refine fin2_i (wl_law cA a b (va_up xi 12 c1) (va_up (va_up (va_up xa 15 c2) 16 c3) 17 c4) xl xm (va_up mi 7 d1) (va_up ma 14 d2)) (run_V (rest := [.int r]) (pc := 897) (As := [.int (xs (x3 + 1).toNatClampNeg), .int (xs (x3 + 2).toNatClampNeg), .int (xs (x3 + 3).toNatClampNeg)]) C mf_L_108 (c_X9_seen l D cA b (mi 0) (mi 1) (mi 2) (mi 3) (mi 4) (mi 5) (mi 6) (mi 7) (mi 8) (ma 14) (xs (x3 + 1).toNatClampNeg) (xs (x3 + 2).toNatClampNeg) (xs (x3 + 3).toNatClampNeg) (r, d1, d2) hq2 H.size) rfl rfl ⟨(Nat.le_of_ble_eq_true rfl), (Nat.le_of_ble_eq_true rfl)⟩ (preV_of C hP hD [54, 69] rfl (pl_nd pw_26) 0 rfl rfl rfl) rfl hl.1 rfl (Nat.le_of_ble_eq_true rfl) dL_law_897 ⟨(Nat.le_of_ble_eq_true rfl), (Nat.le_of_ble_eq_true rfl)⟩) hP hD hS hA [54, 69] [0, 1, 2, 3, 4, 5, 6, 7, 8, 9, 10, 11, 12, 13, 14, 15, 16, 17, 18, 19, 20, 21, 22, 23, 24, 25, 26, 27, 28, 29, 30, 31, 32, 33, 34, 35, 36, 37, 38, 39, 40, 41, 42, 43, 44, 45, 46, 47, 48, 49, 50, 51, 52, 53, 55, 56, 57, 58, 59, 60, 61, 62, 63, 64, 65, 66, 67, 68, 70] rfl rfl rfl rfl pw_26 (fun H locs hP hS => ?_)
  have hD : va_D (fun q : Nat => s.heap.size ≤ q) (wl_law cA a b (va_up xi 12 c1) (va_up (va_up (va_up xa 15 c2) 16 c3) 17 c4) xl xm (va_up mi 7 d1) (va_up ma 14 d2)) := vd_a hD rfl
  refine lv_icmp_eq (pc := 900) (tgt := 1369) hx hb dL_law_900 (by decide) (fun hc => ?_) (fun hc => absurd rfl hc)
  exact hn (va_up xi 12 c1) (va_up (va_up (va_up xa 15 c2) 16 c3) 17 c4) xl xm (va_up mi 7 d1) (va_up ma 14 d2) hrel H locs ls hP hD hS hl
set_option maxHeartbeats 4000000 in
set_option maxRecDepth 100000 in
theorem lc_23 {p : Program} {l : Launch} {e : Env} {s : State} {m : MethodId} {below : List Frame} {meth : Method} {c : Code} {D : va_G} {cA : Nat → ClassId} {bs L : Nat} {xs : Nat → Int32} {Q : State → Prop} (C : Cx RL code 4 D cA p s m #[Value.ref bs] c) (hA : ∀ q, s.heap.size ≤ q → (fun q : Nat => s.heap.size ≤ q) q) (hX : va_X bs L xs s s.heap) (hbl : bs < s.heap.size) (hbA : ¬ (fun q : Nat => s.heap.size ≤ q) bs) {x3 : Int32} (hi1 : vp_in (x3 + 1) L) (hi2 : vp_in (x3 + 2) L) (hi3 : vp_in (x3 + 3) L) (hi4 : vp_in (x3 + 4) L) (hi5 : vp_in (x3 + 5) L) (a b : Nat → Nat) (xi : Nat → Int32) (xa : Nat → Nat → Int32) (xl : Nat → Int64) (xm : Nat → Nat → Int64) (mi : Nat → Int32) (ma : Nat → Nat → Int32) (h : Rel xi xa xl xm mi ma) (hn : ∀ (xi : Nat → Int32) (xa : Nat → Nat → Int32) (xl : Nat → Int64) (xm : Nat → Nat → Int64) (mi : Nat → Int32) (ma : Nat → Nat → Int32), Rel xi xa xl xm mi ma → At p l e room_1 s m #[Value.ref bs] below meth c D (fun q : Nat => s.heap.size ≤ q) 71 2515 Q 4 1369 (wl_law cA a b xi xa xl xm mi ma) [(0, .ref bs), (1, .ref (a 0)), (2, .ref (b 0)), (3, .int x3)] []) : At p l e room_1 s m #[Value.ref bs] below meth c D (fun q : Nat => s.heap.size ≤ q) 71 2515 Q 4 905 (wl_law cA a b xi xa xl xm mi ma) [(0, .ref bs), (1, .ref (a 0)), (2, .ref (b 0)), (3, .int x3)] [] := by
  intro H locs ls hP hD hS hl
  have hx := C.1
  have hb := C.2.1
  have hown := C.2.2.2.1
  have hts := C.2.2.2.2.1
  obtain ⟨r, c1, d1, hq1, hq2, hrel⟩ := sim_forget h 
  refine lv_aload_n (pc := 905) hx hb dL_law_905 rfl (lv_at hl 1 rfl) ?_
  refine fin2_i (wl_law cA a b (va_up xi 12 c1) xa xl xm mi ma) (run_V (rest := []) (pc := 906) (As := []) C mf_L_109 (c_X8_forget l D cA a (xi 0) (xi 1) (xi 12)  (r, c1) hq1 H.size) rfl rfl ⟨(Nat.le_of_ble_eq_true rfl), (Nat.le_of_ble_eq_true rfl)⟩ (preV_of C hP hD [0, 23] rfl (pl_nd pw_27) 0 rfl rfl rfl) rfl hl.1 rfl (Nat.le_of_ble_eq_true rfl) dL_law_906 ⟨(Nat.le_of_ble_eq_true rfl), (Nat.le_of_ble_eq_true rfl)⟩) hP hD hS hA [0, 23] [1, 2, 3, 4, 5, 6, 7, 8, 9, 10, 11, 12, 13, 14, 15, 16, 17, 18, 19, 20, 21, 22, 24, 25, 26, 27, 28, 29, 30, 31, 32, 33, 34, 35, 36, 37, 38, 39, 40, 41, 42, 43, 44, 45, 46, 47, 48, 49, 50, 51, 52, 53, 54, 55, 56, 57, 58, 59, 60, 61, 62, 63, 64, 65, 66, 67, 68, 69, 70] rfl rfl rfl rfl pw_27 (fun H locs hP hS => ?_)
  have hD : va_D (fun q : Nat => s.heap.size ≤ q) (wl_law cA a b (va_up xi 12 c1) xa xl xm mi ma) := vd_a hD rfl
  refine lv_aload_n (pc := 909) hx hb dL_law_909 rfl (lv_at hl 2 rfl) ?_
  refine fin2_i (wl_law cA a b (va_up xi 12 c1) xa xl xm (va_up mi 7 d1) ma) (run_V (rest := [.int r]) (pc := 910) (As := []) C mf_L_113 (c_X9_forget l D cA b (mi 0) (mi 1) (mi 2) (mi 3) (mi 4) (mi 5) (mi 6) (mi 7) (mi 8)  (r, d1) hq2 H.size) rfl rfl ⟨(Nat.le_of_ble_eq_true rfl), (Nat.le_of_ble_eq_true rfl)⟩ (preV_of C hP hD [54] rfl (pl_nd pw_16) 0 rfl rfl rfl) rfl hl.1 rfl (Nat.le_of_ble_eq_true rfl) dL_law_910 ⟨(Nat.le_of_ble_eq_true rfl), (Nat.le_of_ble_eq_true rfl)⟩) hP hD hS hA [54] [0, 1, 2, 3, 4, 5, 6, 7, 8, 9, 10, 11, 12, 13, 14, 15, 16, 17, 18, 19, 20, 21, 22, 23, 24, 25, 26, 27, 28, 29, 30, 31, 32, 33, 34, 35, 36, 37, 38, 39, 40, 41, 42, 43, 44, 45, 46, 47, 48, 49, 50, 51, 52, 53, 55, 56, 57, 58, 59, 60, 61, 62, 63, 64, 65, 66, 67, 68, 69, 70] rfl rfl rfl rfl pw_16 (fun H locs hP hS => ?_)
  have hD : va_D (fun q : Nat => s.heap.size ≤ q) (wl_law cA a b (va_up xi 12 c1) xa xl xm (va_up mi 7 d1) ma) := vd_a hD rfl
  refine lv_icmp_eq (pc := 913) (tgt := 1369) hx hb dL_law_913 (by decide) (fun hc => ?_) (fun hc => absurd rfl hc)
  exact hn (va_up xi 12 c1) xa xl xm (va_up mi 7 d1) ma hrel H locs ls hP hD hS hl
set_option maxHeartbeats 4000000 in
set_option maxRecDepth 100000 in
theorem lc_24 {p : Program} {l : Launch} {e : Env} {s : State} {m : MethodId} {below : List Frame} {meth : Method} {c : Code} {D : va_G} {cA : Nat → ClassId} {bs L : Nat} {xs : Nat → Int32} {Q : State → Prop} (C : Cx RL code 4 D cA p s m #[Value.ref bs] c) (hA : ∀ q, s.heap.size ≤ q → (fun q : Nat => s.heap.size ≤ q) q) (hX : va_X bs L xs s s.heap) (hbl : bs < s.heap.size) (hbA : ¬ (fun q : Nat => s.heap.size ≤ q) bs) {x3 : Int32} (hi1 : vp_in (x3 + 1) L) (hi2 : vp_in (x3 + 2) L) (hi3 : vp_in (x3 + 3) L) (hi4 : vp_in (x3 + 4) L) (hi5 : vp_in (x3 + 5) L) (a b : Nat → Nat) (xi : Nat → Int32) (xa : Nat → Nat → Int32) (xl : Nat → Int64) (xm : Nat → Nat → Int64) (mi : Nat → Int32) (ma : Nat → Nat → Int32) (h : Rel xi xa xl xm mi ma) (hn : ∀ (xi : Nat → Int32) (xa : Nat → Nat → Int32) (xl : Nat → Int64) (xm : Nat → Nat → Int64) (mi : Nat → Int32) (ma : Nat → Nat → Int32), Rel xi xa xl xm mi ma → At p l e room_1 s m #[Value.ref bs] below meth c D (fun q : Nat => s.heap.size ≤ q) 71 2515 Q 4 1369 (wl_law cA a b xi xa xl xm mi ma) [(0, .ref bs), (1, .ref (a 0)), (2, .ref (b 0)), (3, .int x3)] []) : At p l e room_1 s m #[Value.ref bs] below meth c D (fun q : Nat => s.heap.size ≤ q) 71 2515 Q 4 918 (wl_law cA a b xi xa xl xm mi ma) [(0, .ref bs), (1, .ref (a 0)), (2, .ref (b 0)), (3, .int x3)] [] := by
  intro H locs ls hP hD hS hl
  have hx := C.1
  have hb := C.2.1
  have hown := C.2.2.2.1
  have hts := C.2.2.2.2.1
  obtain ⟨r, c1, c2, c3, c4, c5, c6, c7, c8, c9, c10, d1, d2, d3, d4, d5, d6, d7, d8, d9, hq1, hq2, hrel⟩ := sim_never h 
  refine lv_aload_n (pc := 918) hx hb dL_law_918 rfl (lv_at hl 1 rfl) ?_
  refine fin2_i (wl_law cA a b (va_up (va_up (va_up (va_up xi 17 c1) 18 c2) 19 c3) 20 c4) (va_up (va_up (va_up (va_up (va_up xa 23 c5) 24 c6) 25 c7) 26 c8) 27 c10) xl (va_up xm 1 c9) mi ma) (run_V (rest := []) (pc := 919) (As := []) C mf_L_114 (c_X8_never l D cA a (xi 0) (xi 1) (xi 4) (xi 5) (xi 6) (xi 7) (xa 2) (xa 3) (xa 4) (xa 5) (xa 6) (xi 8) (xi 9) (xa 7) (xi 10) (xa 9) (xa 10) (xi 11) (xa 12) (xa 13) (xi 12) (xa 15) (xa 16) (xa 17) (xi 13) (xi 14) (xi 15) (xi 16) (xi 17) (xi 18) (xi 19) (xi 20) (xa 23) (xa 24) (xa 25) (xa 26) (xm 1) (xa 27)  (r, c1, c2, c3, c4, c5, c6, c7, c8, c9, c10) hq1 H.size) rfl rfl ⟨(Nat.le_of_ble_eq_true rfl), (Nat.le_of_ble_eq_true rfl)⟩ (preV_of C hP hD [0, 6, 7, 8, 9, 10, 11, 12, 13, 15, 16, 17, 19, 20, 21, 23, 24, 25, 26, 27, 34, 35, 36, 37, 38, 39, 40] rfl (pl_nd pw_28) 0 rfl rfl rfl) rfl hl.1 rfl (Nat.le_of_ble_eq_true rfl) dL_law_919 ⟨(Nat.le_of_ble_eq_true rfl), (Nat.le_of_ble_eq_true rfl)⟩) hP hD hS hA [0, 6, 7, 8, 9, 10, 11, 12, 13, 15, 16, 17, 19, 20, 21, 23, 24, 25, 26, 27, 34, 35, 36, 37, 38, 39, 40] [1, 2, 3, 4, 5, 14, 18, 22, 28, 29, 30, 31, 32, 33, 41, 42, 43, 44, 45, 46, 47, 48, 49, 50, 51, 52, 53, 54, 55, 56, 57, 58, 59, 60, 61, 62, 63, 64, 65, 66, 67, 68, 69, 70] rfl rfl rfl rfl pw_28 (fun H locs hP hS => ?_)
  have hD : va_D (fun q : Nat => s.heap.size ≤ q) (wl_law cA a b (va_up (va_up (va_up (va_up xi 17 c1) 18 c2) 19 c3) 20 c4) (va_up (va_up (va_up (va_up (va_up xa 23 c5) 24 c6) 25 c7) 26 c8) 27 c10) xl (va_up xm 1 c9) mi ma) := vd_a hD rfl
  refine lv_aload_n (pc := 922) hx hb dL_law_922 rfl (lv_at hl 2 rfl) ?_
  refine fin2_i (wl_law cA a b (va_up (va_up (va_up (va_up xi 17 c1) 18 c2) 19 c3) 20 c4) (va_up (va_up (va_up (va_up (va_up xa 23 c5) 24 c6) 25 c7) 26 c8) 27 c10) xl (va_up xm 1 c9) (va_up (va_up (va_up (va_up mi 1 d1) 2 d2) 3 d3) 6 d4) (va_up (va_up (va_up (va_up (va_up ma 6 d5) 7 d6) 11 d7) 12 d8) 13 d9)) (run_V (rest := [.int r]) (pc := 923) (As := []) C mf_L_117 (c_X9_never l D cA b (mi 0) (mi 1) (mi 2) (mi 3) (mi 4) (mi 5) (mi 6) (mi 7) (mi 8) (ma 4) (ma 5) (ma 6) (ma 7) (ma 8) (ma 9) (ma 10) (ma 11) (ma 12) (ma 13) (ma 14)  (r, d1, d2, d3, d4, d5, d6, d7, d8, d9) hq2 H.size) rfl rfl ⟨(Nat.le_of_ble_eq_true rfl), (Nat.le_of_ble_eq_true rfl)⟩ (preV_of C hP hD [54, 59, 60, 61, 62, 63, 64, 65, 66, 67, 68, 69] rfl (pl_nd pw_29) 0 rfl rfl rfl) rfl hl.1 rfl (Nat.le_of_ble_eq_true rfl) dL_law_923 ⟨(Nat.le_of_ble_eq_true rfl), (Nat.le_of_ble_eq_true rfl)⟩) hP hD hS hA [54, 59, 60, 61, 62, 63, 64, 65, 66, 67, 68, 69] [0, 1, 2, 3, 4, 5, 6, 7, 8, 9, 10, 11, 12, 13, 14, 15, 16, 17, 18, 19, 20, 21, 22, 23, 24, 25, 26, 27, 28, 29, 30, 31, 32, 33, 34, 35, 36, 37, 38, 39, 40, 41, 42, 43, 44, 45, 46, 47, 48, 49, 50, 51, 52, 53, 55, 56, 57, 58, 70] rfl rfl rfl rfl pw_29 (fun H locs hP hS => ?_)
  have hD : va_D (fun q : Nat => s.heap.size ≤ q) (wl_law cA a b (va_up (va_up (va_up (va_up xi 17 c1) 18 c2) 19 c3) 20 c4) (va_up (va_up (va_up (va_up (va_up xa 23 c5) 24 c6) 25 c7) 26 c8) 27 c10) xl (va_up xm 1 c9) (va_up (va_up (va_up (va_up mi 1 d1) 2 d2) 3 d3) 6 d4) (va_up (va_up (va_up (va_up (va_up ma 6 d5) 7 d6) 11 d7) 12 d8) 13 d9)) := vd_a hD rfl
  refine lv_icmp_eq (pc := 926) (tgt := 1369) hx hb dL_law_926 (by decide) (fun hc => ?_) (fun hc => absurd rfl hc)
  exact hn (va_up (va_up (va_up (va_up xi 17 c1) 18 c2) 19 c3) 20 c4) (va_up (va_up (va_up (va_up (va_up xa 23 c5) 24 c6) 25 c7) 26 c8) 27 c10) xl (va_up xm 1 c9) (va_up (va_up (va_up (va_up mi 1 d1) 2 d2) 3 d3) 6 d4) (va_up (va_up (va_up (va_up (va_up ma 6 d5) 7 d6) 11 d7) 12 d8) 13 d9) hrel H locs ls hP hD hS hl
set_option maxHeartbeats 4000000 in
set_option maxRecDepth 100000 in
theorem lc_25 {p : Program} {l : Launch} {e : Env} {s : State} {m : MethodId} {below : List Frame} {meth : Method} {c : Code} {D : va_G} {cA : Nat → ClassId} {bs L : Nat} {xs : Nat → Int32} {Q : State → Prop} (C : Cx RL code 4 D cA p s m #[Value.ref bs] c) (hA : ∀ q, s.heap.size ≤ q → (fun q : Nat => s.heap.size ≤ q) q) (hX : va_X bs L xs s s.heap) (hbl : bs < s.heap.size) (hbA : ¬ (fun q : Nat => s.heap.size ≤ q) bs) {x3 : Int32} (hi1 : vp_in (x3 + 1) L) (hi2 : vp_in (x3 + 2) L) (hi3 : vp_in (x3 + 3) L) (hi4 : vp_in (x3 + 4) L) (hi5 : vp_in (x3 + 5) L) (a b : Nat → Nat) (xi : Nat → Int32) (xa : Nat → Nat → Int32) (xl : Nat → Int64) (xm : Nat → Nat → Int64) (mi : Nat → Int32) (ma : Nat → Nat → Int32) (h : Rel xi xa xl xm mi ma) (hn : ∀ (xi : Nat → Int32) (xa : Nat → Nat → Int32) (xl : Nat → Int64) (xm : Nat → Nat → Int64) (mi : Nat → Int32) (ma : Nat → Nat → Int32), Rel xi xa xl xm mi ma → At p l e room_1 s m #[Value.ref bs] below meth c D (fun q : Nat => s.heap.size ≤ q) 71 2515 Q 4 1369 (wl_law cA a b xi xa xl xm mi ma) [(0, .ref bs), (1, .ref (a 0)), (2, .ref (b 0)), (3, .int x3)] []) : At p l e room_1 s m #[Value.ref bs] below meth c D (fun q : Nat => s.heap.size ≤ q) 71 2515 Q 4 931 (wl_law cA a b xi xa xl xm mi ma) [(0, .ref bs), (1, .ref (a 0)), (2, .ref (b 0)), (3, .int x3)] [] := by
  intro H locs ls hP hD hS hl
  have hx := C.1
  have hb := C.2.1
  have hown := C.2.2.2.1
  have hts := C.2.2.2.2.1
  obtain ⟨r, c1, c2, c3, c4, c5, c6, c7, c8, c9, c10, d1, d2, d3, d4, d5, d6, d7, d8, d9, hq1, hq2, hrel⟩ := sim_began h 
  refine lv_aload_n (pc := 931) hx hb dL_law_931 rfl (lv_at hl 1 rfl) ?_
  refine fin2_i (wl_law cA a b (va_up (va_up (va_up (va_up xi 17 c1) 18 c2) 19 c3) 20 c4) (va_up (va_up (va_up (va_up (va_up xa 23 c5) 24 c6) 25 c7) 26 c8) 27 c10) xl (va_up xm 1 c9) mi ma) (run_V (rest := []) (pc := 932) (As := []) C mf_L_118 (c_X8_began l D cA a (xi 0) (xi 1) (xi 4) (xi 5) (xi 6) (xi 7) (xa 2) (xa 3) (xa 4) (xa 5) (xa 6) (xi 8) (xi 9) (xa 7) (xi 10) (xa 9) (xa 10) (xi 11) (xa 12) (xa 13) (xi 12) (xa 15) (xa 16) (xa 17) (xi 13) (xi 14) (xi 15) (xi 16) (xi 17) (xi 18) (xi 19) (xi 20) (xa 23) (xa 24) (xa 25) (xa 26) (xm 1) (xa 27)  (r, c1, c2, c3, c4, c5, c6, c7, c8, c9, c10) hq1 H.size) rfl rfl ⟨(Nat.le_of_ble_eq_true rfl), (Nat.le_of_ble_eq_true rfl)⟩ (preV_of C hP hD [0, 6, 7, 8, 9, 10, 11, 12, 13, 15, 16, 17, 19, 20, 21, 23, 24, 25, 26, 27, 34, 35, 36, 37, 38, 39, 40] rfl (pl_nd pw_28) 0 rfl rfl rfl) rfl hl.1 rfl (Nat.le_of_ble_eq_true rfl) dL_law_932 ⟨(Nat.le_of_ble_eq_true rfl), (Nat.le_of_ble_eq_true rfl)⟩) hP hD hS hA [0, 6, 7, 8, 9, 10, 11, 12, 13, 15, 16, 17, 19, 20, 21, 23, 24, 25, 26, 27, 34, 35, 36, 37, 38, 39, 40] [1, 2, 3, 4, 5, 14, 18, 22, 28, 29, 30, 31, 32, 33, 41, 42, 43, 44, 45, 46, 47, 48, 49, 50, 51, 52, 53, 54, 55, 56, 57, 58, 59, 60, 61, 62, 63, 64, 65, 66, 67, 68, 69, 70] rfl rfl rfl rfl pw_28 (fun H locs hP hS => ?_)
  have hD : va_D (fun q : Nat => s.heap.size ≤ q) (wl_law cA a b (va_up (va_up (va_up (va_up xi 17 c1) 18 c2) 19 c3) 20 c4) (va_up (va_up (va_up (va_up (va_up xa 23 c5) 24 c6) 25 c7) 26 c8) 27 c10) xl (va_up xm 1 c9) mi ma) := vd_a hD rfl
  refine lv_aload_n (pc := 935) hx hb dL_law_935 rfl (lv_at hl 2 rfl) ?_
  refine fin2_i (wl_law cA a b (va_up (va_up (va_up (va_up xi 17 c1) 18 c2) 19 c3) 20 c4) (va_up (va_up (va_up (va_up (va_up xa 23 c5) 24 c6) 25 c7) 26 c8) 27 c10) xl (va_up xm 1 c9) (va_up (va_up (va_up mi 1 d1) 2 d2) 3 d3) (va_up (va_up (va_up (va_up (va_up (va_up ma 6 d4) 7 d5) 8 d6) 11 d7) 12 d8) 13 d9)) (run_V (rest := [.int r]) (pc := 936) (As := []) C mf_L_121 (c_X9_began l D cA b (mi 0) (mi 1) (mi 2) (mi 3) (mi 4) (mi 5) (mi 6) (mi 7) (mi 8) (ma 4) (ma 5) (ma 6) (ma 7) (ma 8) (ma 9) (ma 10) (ma 11) (ma 12) (ma 13) (ma 14)  (r, d1, d2, d3, d4, d5, d6, d7, d8, d9) hq2 H.size) rfl rfl ⟨(Nat.le_of_ble_eq_true rfl), (Nat.le_of_ble_eq_true rfl)⟩ (preV_of C hP hD [54, 59, 60, 61, 62, 63, 64, 65, 66, 67, 68, 69] rfl (pl_nd pw_29) 0 rfl rfl rfl) rfl hl.1 rfl (Nat.le_of_ble_eq_true rfl) dL_law_936 ⟨(Nat.le_of_ble_eq_true rfl), (Nat.le_of_ble_eq_true rfl)⟩) hP hD hS hA [54, 59, 60, 61, 62, 63, 64, 65, 66, 67, 68, 69] [0, 1, 2, 3, 4, 5, 6, 7, 8, 9, 10, 11, 12, 13, 14, 15, 16, 17, 18, 19, 20, 21, 22, 23, 24, 25, 26, 27, 28, 29, 30, 31, 32, 33, 34, 35, 36, 37, 38, 39, 40, 41, 42, 43, 44, 45, 46, 47, 48, 49, 50, 51, 52, 53, 55, 56, 57, 58, 70] rfl rfl rfl rfl pw_29 (fun H locs hP hS => ?_)
  have hD : va_D (fun q : Nat => s.heap.size ≤ q) (wl_law cA a b (va_up (va_up (va_up (va_up xi 17 c1) 18 c2) 19 c3) 20 c4) (va_up (va_up (va_up (va_up (va_up xa 23 c5) 24 c6) 25 c7) 26 c8) 27 c10) xl (va_up xm 1 c9) (va_up (va_up (va_up mi 1 d1) 2 d2) 3 d3) (va_up (va_up (va_up (va_up (va_up (va_up ma 6 d4) 7 d5) 8 d6) 11 d7) 12 d8) 13 d9)) := vd_a hD rfl
  refine lv_icmp_eq (pc := 939) (tgt := 1369) hx hb dL_law_939 (by decide) (fun hc => ?_) (fun hc => absurd rfl hc)
  exact hn (va_up (va_up (va_up (va_up xi 17 c1) 18 c2) 19 c3) 20 c4) (va_up (va_up (va_up (va_up (va_up xa 23 c5) 24 c6) 25 c7) 26 c8) 27 c10) xl (va_up xm 1 c9) (va_up (va_up (va_up mi 1 d1) 2 d2) 3 d3) (va_up (va_up (va_up (va_up (va_up (va_up ma 6 d4) 7 d5) 8 d6) 11 d7) 12 d8) 13 d9) hrel H locs ls hP hD hS hl
