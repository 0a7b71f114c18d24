set_option maxHeartbeats 4000000 in
set_option maxRecDepth 100000 in
theorem lc_26 {p : Program} {l : Launch} {e : Env} {s : State} {m : MethodId} {below : List Frame} {meth : Method} {c : Code} {D : va_G} {cA : Nat → ClassId} {bs L : Nat} {xs : Nat → Int32} {Q : State → Prop} (C : Cx RL code 4 D cA p s m #[Value.ref bs] c) (hA : ∀ q, s.heap.size ≤ q → (fun q : Nat => s.heap.size ≤ q) q) (hX : va_X bs L xs s s.heap) (hbl : bs < s.heap.size) (hbA : ¬ (fun q : Nat => s.heap.size ≤ q) bs) {x3 : Int32} (hi1 : vp_in (x3 + 1) L) (hi2 : vp_in (x3 + 2) L) (hi3 : vp_in (x3 + 3) L) (hi4 : vp_in (x3 + 4) L) (hi5 : vp_in (x3 + 5) L) (a b : Nat → Nat) (xi : Nat → Int32) (xa : Nat → Nat → Int32) (xl : Nat → Int64) (xm : Nat → Nat → Int64) (mi : Nat → Int32) (ma : Nat → Nat → Int32) (h : Rel xi xa xl xm mi ma) (hn : ∀ (xi : Nat → Int32) (xa : Nat → Nat → Int32) (xl : Nat → Int64) (xm : Nat → Nat → Int64) (mi : Nat → Int32) (ma : Nat → Nat → Int32), Rel xi xa xl xm mi ma → At p l e room_1 s m #[Value.ref bs] below meth c D (fun q : Nat => s.heap.size ≤ q) 71 2515 Q 4 1369 (wl_law cA a b xi xa xl xm mi ma) [(0, .ref bs), (1, .ref (a 0)), (2, .ref (b 0)), (3, .int x3)] []) : At p l e room_1 s m #[Value.ref bs] below meth c D (fun q : Nat => s.heap.size ≤ q) 71 2515 Q 4 944 (wl_law cA a b xi xa xl xm mi ma) [(0, .ref bs), (1, .ref (a 0)), (2, .ref (b 0)), (3, .int x3)] [] := by
  intro H locs ls hP hD hS hl
  have hx := C.1
  have hb := C.2.1
  have hown := C.2.2.2.1
  have hts := C.2.2.2.2.1
  obtain ⟨r, c1, c2, c3, c4, c5, c6, c7, c8, c9, c10, c11, d1, d2, d3, d4, d5, d6, d7, d8, d9, d10, hq1, hq2, hrel⟩ := sim_ask h (xs (x3 + 1).toNatClampNeg)
  refine lv_aload_n (pc := 944) hx hb dL_law_944 rfl (lv_at hl 1 rfl) ?_
  refine lv_aload_n (pc := 945) hx hb dL_law_945 rfl (lv_at hl 0 rfl) ?_
  refine lv_iload_n (pc := 946) hx hb dL_law_946 rfl (lv_at hl 3 rfl) ?_
  refine lv_iconst (pc := 947) (v := 1) hx hb dL_law_947 ic_1 ?_
  refine lv_iadd (pc := 948) hx hb dL_law_948 ?_
  refine va_sld (pc := 949) hx hb hX hbl hbA hS hi1 dL_law_949 ?_
  refine fin2_i (wl_law cA a b (va_up (va_up (va_up (va_up xi 17 c1) 18 c2) 19 c3) 20 c4) (va_up (va_up (va_up (va_up (va_up (va_up xa 23 c5) 24 c6) 25 c7) 26 c8) 27 c10) 28 c11) xl (va_up xm 1 c9) mi ma) (run_V (rest := []) (pc := 950) (As := [.int (xs (x3 + 1).toNatClampNeg)]) C mf_L_122 (c_X8_ask l D cA a (xi 0) (xi 1) (xi 4) (xi 5) (xi 6) (xi 7) (xa 2) (xa 3) (xa 4) (xa 5) (xa 6) (xi 8) (xi 9) (xa 7) (xi 10) (xa 9) (xa 10) (xi 11) (xa 12) (xa 13) (xi 12) (xa 15) (xa 16) (xa 17) (xi 13) (xi 14) (xi 15) (xi 16) (xi 17) (xi 18) (xi 19) (xi 20) (xa 23) (xa 24) (xa 25) (xa 26) (xm 1) (xa 27) (xa 28) (xs (x3 + 1).toNatClampNeg) (r, c1, c2, c3, c4, c5, c6, c7, c8, c9, c10, c11) hq1 H.size) rfl rfl ⟨(Nat.le_of_ble_eq_true rfl), (Nat.le_of_ble_eq_true rfl)⟩ (preV_of C hP hD [0, 6, 7, 8, 9, 10, 11, 12, 13, 15, 16, 17, 19, 20, 21, 23, 24, 25, 26, 27, 34, 35, 36, 37, 38, 39, 40, 44] rfl (pl_nd pw_30) 0 rfl rfl rfl) rfl hl.1 rfl (Nat.le_of_ble_eq_true rfl) dL_law_950 ⟨(Nat.le_of_ble_eq_true rfl), (Nat.le_of_ble_eq_true rfl)⟩) hP hD hS hA [0, 6, 7, 8, 9, 10, 11, 12, 13, 15, 16, 17, 19, 20, 21, 23, 24, 25, 26, 27, 34, 35, 36, 37, 38, 39, 40, 44] [1, 2, 3, 4, 5, 14, 18, 22, 28, 29, 30, 31, 32, 33, 41, 42, 43, 45, 46, 47, 48, 49, 50, 51, 52, 53, 54, 55, 56, 57, 58, 59, 60, 61, 62, 63, 64, 65, 66, 67, 68, 69, 70] rfl rfl rfl rfl pw_30 (fun H locs hP hS => ?_)
  have hD : va_D (fun q : Nat => s.heap.size ≤ q) (wl_law cA a b (va_up (va_up (va_up (va_up xi 17 c1) 18 c2) 19 c3) 20 c4) (va_up (va_up (va_up (va_up (va_up (va_up xa 23 c5) 24 c6) 25 c7) 26 c8) 27 c10) 28 c11) xl (va_up xm 1 c9) mi ma) := vd_a hD rfl
  refine lv_aload_n (pc := 953) hx hb dL_law_953 rfl (lv_at hl 2 rfl) ?_
  refine lv_aload_n (pc := 954) hx hb dL_law_954 rfl (lv_at hl 0 rfl) ?_
  refine lv_iload_n (pc := 955) hx hb dL_law_955 rfl (lv_at hl 3 rfl) ?_
  refine lv_iconst (pc := 956) (v := 1) hx hb dL_law_956 ic_1 ?_
  refine lv_iadd (pc := 957) hx hb dL_law_957 ?_
  refine va_sld (pc := 958) hx hb hX hbl hbA hS hi1 dL_law_958 ?_
  refine fin2_i (wl_law cA a b (va_up (va_up (va_up (va_up xi 17 c1) 18 c2) 19 c3) 20 c4) (va_up (va_up (va_up (va_up (va_up (va_up xa 23 c5) 24 c6) 25 c7) 26 c8) 27 c10) 28 c11) xl (va_up xm 1 c9) (va_up (va_up (va_up mi 1 d1) 2 d2) 3 d3) (va_up (va_up (va_up (va_up (va_up (va_up (va_up ma 6 d4) 7 d5) 8 d6) 11 d7) 12 d8) 13 d9) 15 d10)) (run_V (rest := [.int r]) (pc := 959) (As := [.int (xs (x3 + 1).toNatClampNeg)]) C mf_L_125 (c_X9_ask l D cA b (mi 0) (mi 1) (mi 2) (mi 3) (mi 4) (mi 5) (mi 6) (mi 7) (mi 8) (ma 4) (ma 5) (ma 6) (ma 7) (ma 8) (ma 9) (ma 10) (ma 11) (ma 12) (ma 13) (ma 14) (ma 15) (xs (x3 + 1).toNatClampNeg) (r, d1, d2, d3, d4, d5, d6, d7, d8, d9, d10) hq2 H.size) rfl rfl ⟨(Nat.le_of_ble_eq_true rfl), (Nat.le_of_ble_eq_true rfl)⟩ (preV_of C hP hD [54, 59, 60, 61, 62, 63, 64, 65, 66, 67, 68, 69, 70] rfl (pl_nd pw_31) 0 rfl rfl rfl) rfl hl.1 rfl (Nat.le_of_ble_eq_true rfl) dL_law_959 ⟨(Nat.le_of_ble_eq_true rfl), (Nat.le_of_ble_eq_true rfl)⟩) hP hD hS hA [54, 59, 60, 61, 62, 63, 64, 65, 66, 67, 68, 69, 70] [0, 1, 2, 3, 4, 5, 6, 7, 8, 9, 10, 11, 12, 13, 14, 15, 16, 17, 18, 19, 20, 21, 22, 23, 24, 25, 26, 27, 28, 29, 30, 31, 32, 33, 34, 35, 36, 37, 38, 39, 40, 41, 42, 43, 44, 45, 46, 47, 48, 49, 50, 51, 52, 53, 55, 56, 57, 58] rfl rfl rfl rfl pw_31 (fun H locs hP hS => ?_)
  have hD : va_D (fun q : Nat => s.heap.size ≤ q) (wl_law cA a b (va_up (va_up (va_up (va_up xi 17 c1) 18 c2) 19 c3) 20 c4) (va_up (va_up (va_up (va_up (va_up (va_up xa 23 c5) 24 c6) 25 c7) 26 c8) 27 c10) 28 c11) xl (va_up xm 1 c9) (va_up (va_up (va_up mi 1 d1) 2 d2) 3 d3) (va_up (va_up (va_up (va_up (va_up (va_up (va_up ma 6 d4) 7 d5) 8 d6) 11 d7) 12 d8) 13 d9) 15 d10)) := vd_a hD rfl
  refine lv_icmp_eq (pc := 962) (tgt := 1369) hx hb dL_law_962 (by decide) (fun hc => ?_) (fun hc => absurd rfl hc)
  exact hn (va_up (va_up (va_up (va_up xi 17 c1) 18 c2) 19 c3) 20 c4) (va_up (va_up (va_up (va_up (va_up (va_up xa 23 c5) 24 c6) 25 c7) 26 c8) 27 c10) 28 c11) xl (va_up xm 1 c9) (va_up (va_up (va_up mi 1 d1) 2 d2) 3 d3) (va_up (va_up (va_up (va_up (va_up (va_up (va_up ma 6 d4) 7 d5) 8 d6) 11 d7) 12 d8) 13 d9) 15 d10) hrel H locs ls hP hD hS hl
set_option maxHeartbeats 4000000 in
set_option maxRecDepth 100000 in
theorem lc_27 {p : Program} {l : Launch} {e : Env} {s : State} {m : MethodId} {below : List Frame} {meth : Method} {c : Code} {D : va_G} {cA : Nat → ClassId} {bs L : Nat} {xs : Nat → Int32} {Q : State → Prop} (C : Cx RL code 4 D cA p s m #[Value.ref bs] c) (hA : ∀ q, s.heap.size ≤ q → (fun q : Nat => s.heap.size ≤ q) q) (hX : va_X bs L xs s s.heap) (hbl : bs < s.heap.size) (hbA : ¬ (fun q : Nat => s.heap.size ≤ q) bs) {x3 : Int32} (hi1 : vp_in (x3 + 1) L) (hi2 : vp_in (x3 + 2) L) (hi3 : vp_in (x3 + 3) L) (hi4 : vp_in (x3 + 4) L) (hi5 : vp_in (x3 + 5) L) (a b : Nat → Nat) (xi : Nat → Int32) (xa : Nat → Nat → Int32) (xl : Nat → Int64) (xm : Nat → Nat → Int64) (mi : Nat → Int32) (ma : Nat → Nat → Int32) (h : Rel xi xa xl xm mi ma) (hn : ∀ (xi : Nat → Int32) (xa : Nat → Nat → Int32) (xl : Nat → Int64) (xm : Nat → Nat → Int64) (mi : Nat → Int32) (ma : Nat → Nat → Int32), Rel xi xa xl xm mi ma → At p l e room_1 s m #[Value.ref bs] below meth c D (fun q : Nat => s.heap.size ≤ q) 71 2515 Q 4 1369 (wl_law cA a b xi xa xl xm mi ma) [(0, .ref bs), (1, .ref (a 0)), (2, .ref (b 0)), (3, .int x3)] []) : At p l e room_1 s m #[Value.ref bs] below meth c D (fun q : Nat => s.heap.size ≤ q) 71 2515 Q 4 967 (wl_law cA a b xi xa xl xm mi ma) [(0, .ref bs), (1, .ref (a 0)), (2, .ref (b 0)), (3, .int x3)] [] := by
  intro H locs ls hP hD hS hl
  have hx := C.1
  have hb := C.2.1
  have hown := C.2.2.2.1
  have hts := C.2.2.2.2.1
  obtain ⟨r, c1, c2, c3, c4, c5, c6, c7, c8, c9, c10, c11, c12, c13, c14, d1, d2, d3, d4, d5, d6, d7, d8, d9, hq1, hq2, hrel⟩ := sim_cat h (xs (x3 + 1).toNatClampNeg) (xs (x3 + 2).toNatClampNeg) (xs (x3 + 3).toNatClampNeg) (xs (x3 + 4).toNatClampNeg) (xs (x3 + 5).toNatClampNeg)
  refine lv_aload_n (pc := 967) hx hb dL_law_967 rfl (lv_at hl 1 rfl) ?_
  refine lv_aload_n (pc := 968) hx hb dL_law_968 rfl (lv_at hl 0 rfl) ?_
  refine lv_iload_n (pc := 969) hx hb dL_law_969 rfl (lv_at hl 3 rfl) ?_
  refine lv_iconst (pc := 970) (v := 1) hx hb dL_law_970 ic_1 ?_
  refine lv_iadd (pc := 971) hx hb dL_law_971 ?_
  refine va_sld (pc := 972) hx hb hX hbl hbA hS hi1 dL_law_972 ?_
  refine lv_aload_n (pc := 973) hx hb dL_law_973 rfl (lv_at hl 0 rfl) ?_
  refine lv_iload_n (pc := 974) hx hb dL_law_974 rfl (lv_at hl 3 rfl) ?_
  refine lv_iconst (pc := 975) (v := 2) hx hb dL_law_975 ic_2 ?_
  refine lv_iadd (pc := 976) hx hb dL_law_976 ?_
  refine va_sld (pc := 977) hx hb hX hbl hbA hS hi2 dL_law_977 ?_
  refine lv_aload_n (pc := 978) hx hb dL_law_978 rfl (lv_at hl 0 rfl) ?_
  refine lv_iload_n (pc := 979) hx hb dL_law_979 rfl (lv_at hl 3 rfl) ?_
  refine lv_iconst (pc := 980) (v := 3) hx hb dL_law_980 ic_3 ?_
  refine lv_iadd (pc := 981) hx hb dL_law_981 ?_
  refine va_sld (pc := 982) hx hb hX hbl hbA hS hi3 dL_law_982 ?_
  refine lv_aload_n (pc := 983) hx hb dL_law_983 rfl (lv_at hl 0 rfl) ?_
  refine lv_iload_n (pc := 984) hx hb dL_law_984 rfl (lv_at hl 3 rfl) ?_
  refine lv_iconst (pc := 985) (v := 4) hx hb dL_law_985 ic_4 ?_
  refine lv_iadd (pc := 986) hx hb dL_law_986 ?_
  refine va_sld (pc := 987) hx hb hX hbl hbA hS hi4 dL_law_987 ?_
  refine lv_aload_n (pc := 988) hx hb dL_law_988 rfl (lv_at hl 0 rfl) ?_
  refine lv_iload_n (pc := 989) hx hb dL_law_989 rfl (lv_at hl 3 rfl) ?_
  refine lv_iconst (pc := 990) (v := 5) hx hb dL_law_990 ic_5 ?_
  refine lv_iadd (pc := 991) hx hb dL_law_991 ?_
  refine va_sld (pc := 992) hx hb hX hbl hbA hS hi5 dL_law_992 ?_
  refine fin2_l (wl_law cA a b (va_up (va_up (va_up (va_up xi 17 c1) 18 c2) 19 c3) 20 c4) (va_up (va_up (va_up (va_up (va_up xa 23 c5) 24 c6) 25 c7) 26 c8) 27 c10) (va_up (va_up (va_up xl 0 c11) 1 c12) 2 c13) (va_up (va_up xm 1 c9) 2 c14) mi ma) (run_V (rest := []) (pc := 993) (As := [.int (xs (x3 + 1).toNatClampNeg), .int (xs (x3 + 2).toNatClampNeg), .int (xs (x3 + 3).toNatClampNeg), .int (xs (x3 + 4).toNatClampNeg), .int (xs (x3 + 5).toNatClampNeg)]) C mf_L_126 (c_X8_cat l D cA a (xi 0) (xi 1) (xi 4) (xi 5) (xi 6) (xi 7) (xa 2) (xa 3) (xa 4) (xa 5) (xa 6) (xi 8) (xi 9) (xa 7) (xi 10) (xa 9) (xa 10) (xi 11) (xa 12) (xa 13) (xi 13) (xi 14) (xi 15) (xi 16) (xi 17) (xi 18) (xi 19) (xi 20) (xa 23) (xa 24) (xa 25) (xa 26) (xm 1) (xa 27) (xl 0) (xl 1) (xl 2) (xm 2) (xs (x3 + 1).toNatClampNeg) (xs (x3 + 2).toNatClampNeg) (xs (x3 + 3).toNatClampNeg) (xs (x3 + 4).toNatClampNeg) (xs (x3 + 5).toNatClampNeg) (r, c1, c2, c3, c4, c5, c6, c7, c8, c9, c10, c11, c12, c13, c14) hq1 H.size) rfl rfl ⟨(Nat.le_of_ble_eq_true rfl), (Nat.le_of_ble_eq_true rfl)⟩ (preV_of C hP hD [0, 6, 7, 8, 9, 10, 11, 12, 13, 15, 16, 17, 19, 20, 21, 27, 34, 35, 36, 37, 38, 39, 40, 42, 43] rfl (pl_nd pw_32) 0 rfl rfl rfl) rfl hl.1 rfl (Nat.le_of_ble_eq_true rfl) dL_law_993 ⟨(Nat.le_of_ble_eq_true rfl), (Nat.le_of_ble_eq_true rfl)⟩) hP hD hS hA [0, 6, 7, 8, 9, 10, 11, 12, 13, 15, 16, 17, 19, 20, 21, 27, 34, 35, 36, 37, 38, 39, 40, 42, 43] [1, 2, 3, 4, 5, 14, 18, 22, 23, 24, 25, 26, 28, 29, 30, 31, 32, 33, 41, 44, 45, 46, 47, 48, 49, 50, 51, 52, 53, 54, 55, 56, 57, 58, 59, 60, 61, 62, 63, 64, 65, 66, 67, 68, 69, 70] rfl rfl rfl rfl pw_32 (fun H locs hP hS => ?_)
  have hD : va_D (fun q : Nat => s.heap.size ≤ q) (wl_law cA a b (va_up (va_up (va_up (va_up xi 17 c1) 18 c2) 19 c3) 20 c4) (va_up (va_up (va_up (va_up (va_up xa 23 c5) 24 c6) 25 c7) 26 c8) 27 c10) (va_up (va_up (va_up xl 0 c11) 1 c12) 2 c13) (va_up (va_up xm 1 c9) 2 c14) mi ma) := vd_a hD rfl
  refine lv_aload_n (pc := 996) hx hb dL_law_996 rfl (lv_at hl 2 rfl) ?_
  refine lv_aload_n (pc := 997) hx hb dL_law_997 rfl (lv_at hl 0 rfl) ?_
  refine lv_iload_n (pc := 998) hx hb dL_law_998 rfl (lv_at hl 3 rfl) ?_
  refine lv_iconst (pc := 999) (v := 1) hx hb dL_law_999 ic_1 ?_
  refine lv_iadd (pc := 1000) hx hb dL_law_1000 ?_
  refine va_sld (pc := 1001) hx hb hX hbl hbA hS hi1 dL_law_1001 ?_
  refine lv_aload_n (pc := 1002) hx hb dL_law_1002 rfl (lv_at hl 0 rfl) ?_
  refine lv_iload_n (pc := 1003) hx hb dL_law_1003 rfl (lv_at hl 3 rfl) ?_
  refine lv_iconst (pc := 1004) (v := 2) hx hb dL_law_1004 ic_2 ?_
  refine lv_iadd (pc := 1005) hx hb dL_law_1005 ?_
  refine va_sld (pc := 1006) hx hb hX hbl hbA hS hi2 dL_law_1006 ?_
  refine lv_aload_n (pc := 1007) hx hb dL_law_1007 rfl (lv_at hl 0 rfl) ?_
  refine lv_iload_n (pc := 1008) hx hb dL_law_1008 rfl (lv_at hl 3 rfl) ?_
  refine lv_iconst (pc := 1009) (v := 3) hx hb dL_law_1009 ic_3 ?_
  refine lv_iadd (pc := 1010) hx hb dL_law_1010 ?_
  refine va_sld (pc := 1011) hx hb hX hbl hbA hS hi3 dL_law_1011 ?_
  refine lv_aload_n (pc := 1012) hx hb dL_law_1012 rfl (lv_at hl 0 rfl) ?_
  refine lv_iload_n (pc := 1013) hx hb dL_law_1013 rfl (lv_at hl 3 rfl) ?_
  refine lv_iconst (pc := 1014) (v := 4) hx hb dL_law_1014 ic_4 ?_
  refine lv_iadd (pc := 1015) hx hb dL_law_1015 ?_
  refine va_sld (pc := 1016) hx hb hX hbl hbA hS hi4 dL_law_1016 ?_
  refine lv_aload_n (pc := 1017) hx hb dL_law_1017 rfl (lv_at hl 0 rfl) ?_
  refine lv_iload_n (pc := 1018) hx hb dL_law_1018 rfl (lv_at hl 3 rfl) ?_
  refine lv_iconst (pc := 1019) (v := 5) hx hb dL_law_1019 ic_5 ?_
  refine lv_iadd (pc := 1020) hx hb dL_law_1020 ?_
  refine va_sld (pc := 1021) hx hb hX hbl hbA hS hi5 dL_law_1021 ?_
  refine fin2_l (wl_law cA a b (va_up (va_up (va_up (va_up xi 17 c1) 18 c2) 19 c3) 20 c4) (va_up (va_up (va_up (va_up (va_up xa 23 c5) 24 c6) 25 c7) 26 c8) 27 c10) (va_up (va_up (va_up xl 0 c11) 1 c12) 2 c13) (va_up (va_up xm 1 c9) 2 c14) (va_up (va_up (va_up (va_up mi 1 d1) 2 d2) 3 d3) 6 d4) (va_up (va_up (va_up (va_up (va_up ma 6 d5) 7 d6) 11 d7) 12 d8) 13 d9)) (run_V (rest := [.long r]) (pc := 1022) (As := [.int (xs (x3 + 1).toNatClampNeg), .int (xs (x3 + 2).toNatClampNeg), .int (xs (x3 + 3).toNatClampNeg), .int (xs (x3 + 4).toNatClampNeg), .int (xs (x3 + 5).toNatClampNeg)]) C mf_L_130 (c_X9_cat l D cA b (mi 0) (mi 1) (mi 2) (mi 3) (mi 4) (mi 5) (mi 6) (mi 7) (mi 8) (ma 4) (ma 5) (ma 6) (ma 7) (ma 8) (ma 9) (ma 10) (ma 11) (ma 12) (ma 13) (xs (x3 + 1).toNatClampNeg) (xs (x3 + 2).toNatClampNeg) (xs (x3 + 3).toNatClampNeg) (xs (x3 + 4).toNatClampNeg) (xs (x3 + 5).toNatClampNeg) (r, d1, d2, d3, d4, d5, d6, d7, d8, d9) hq2 H.size) rfl rfl ⟨(Nat.le_of_ble_eq_true rfl), (Nat.le_of_ble_eq_true rfl)⟩ (preV_of C hP hD [54, 59, 60, 61, 62, 63, 64, 65, 66, 67, 68] rfl (pl_nd pw_20) 0 rfl rfl rfl) rfl hl.1 rfl (Nat.le_of_ble_eq_true rfl) dL_law_1022 ⟨(Nat.le_of_ble_eq_true rfl), (Nat.le_of_ble_eq_true rfl)⟩) hP hD hS hA [54, 59, 60, 61, 62, 63, 64, 65, 66, 67, 68] [0, 1, 2, 3, 4, 5, 6, 7, 8, 9, 10, 11, 12, 13, 14, 15, 16, 17, 18, 19, 20, 21, 22, 23, 24, 25, 26, 27, 28, 29, 30, 31, 32, 33, 34, 35, 36, 37, 38, 39, 40, 41, 42, 43, 44, 45, 46, 47, 48, 49, 50, 51, 52, 53, 55, 56, 57, 58, 69, 70] rfl rfl rfl rfl pw_20 (fun H locs hP hS => ?_)
  have hD : va_D (fun q : Nat => s.heap.size ≤ q) (wl_law cA a b (va_up (va_up (va_up (va_up xi 17 c1) 18 c2) 19 c3) 20 c4) (va_up (va_up (va_up (va_up (va_up xa 23 c5) 24 c6) 25 c7) 26 c8) 27 c10) (va_up (va_up (va_up xl 0 c11) 1 c12) 2 c13) (va_up (va_up xm 1 c9) 2 c14) (va_up (va_up (va_up (va_up mi 1 d1) 2 d2) 3 d3) 6 d4) (va_up (va_up (va_up (va_up (va_up ma 6 d5) 7 d6) 11 d7) 12 d8) 13 d9)) := vd_a hD rfl
  refine W.lcmp (pc := 1025) hx hb dL_law_1025 ?_
  refine lv_if_eq (pc := 1026) (tgt := 1369) hx hb dL_law_1026 (by decide) (fun hc => ?_) (fun hc => absurd (lg_self r) hc)
  exact hn (va_up (va_up (va_up (va_up xi 17 c1) 18 c2) 19 c3) 20 c4) (va_up (va_up (va_up (va_up (va_up xa 23 c5) 24 c6) 25 c7) 26 c8) 27 c10) (va_up (va_up (va_up xl 0 c11) 1 c12) 2 c13) (va_up (va_up xm 1 c9) 2 c14) (va_up (va_up (va_up (va_up mi 1 d1) 2 d2) 3 d3) 6 d4) (va_up (va_up (va_up (va_up (va_up ma 6 d5) 7 d6) 11 d7) 12 d8) 13 d9) hrel H locs ls hP hD hS hl
set_option maxHeartbeats 4000000 in
set_option maxRecDepth 100000 in
theorem lc_28 {p : Program} {l : Launch} {e : Env} {s : State} {m : MethodId} {below : List Frame} {meth : Method} {c : Code} {D : va_G} {cA : Nat → ClassId} {bs L : Nat} {xs : Nat → Int32} {Q : State → Prop} (C : Cx RL code 4 D cA p s m #[Value.ref bs] c) (hA : ∀ q, s.heap.size ≤ q → (fun q : Nat => s.heap.size ≤ q) q) (hX : va_X bs L xs s s.heap) (hbl : bs < s.heap.size) (hbA : ¬ (fun q : Nat => s.heap.size ≤ q) bs) {x3 : Int32} (hi1 : vp_in (x3 + 1) L) (hi2 : vp_in (x3 + 2) L) (hi3 : vp_in (x3 + 3) L) (hi4 : vp_in (x3 + 4) L) (hi5 : vp_in (x3 + 5) L) (a b : Nat → Nat) (xi : Nat → Int32) (xa : Nat → Nat → Int32) (xl : Nat → Int64) (xm : Nat → Nat → Int64) (mi : Nat → Int32) (ma : Nat → Nat → Int32) (h : Rel xi xa xl xm mi ma) (hn : ∀ (xi : Nat → Int32) (xa : Nat → Nat → Int32) (xl : Nat → Int64) (xm : Nat → Nat → Int64) (mi : Nat → Int32) (ma : Nat → Nat → Int32), Rel xi xa xl xm mi ma → At p l e room_1 s m #[Value.ref bs] below meth c D (fun q : Nat => s.heap.size ≤ q) 71 2515 Q 4 1369 (wl_law cA a b xi xa xl xm mi ma) [(0, .ref bs), (1, .ref (a 0)), (2, .ref (b 0)), (3, .int x3)] []) : At p l e room_1 s m #[Value.ref bs] below meth c D (fun q : Nat => s.heap.size ≤ q) 71 2515 Q 4 1031 (wl_law cA a b xi xa xl xm mi ma) [(0, .ref bs), (1, .ref (a 0)), (2, .ref (b 0)), (3, .int x3)] [] := by
  intro H locs ls hP hD hS hl
  have hx := C.1
  have hb := C.2.1
  have hown := C.2.2.2.1
  have hts := C.2.2.2.2.1
  obtain ⟨r, d1, d2, d3, d4, d5, d6, d7, d8, d9, hq1, hq2, hrel⟩ := sim_roam h (xs (x3 + 1).toNatClampNeg) (xs (x3 + 2).toNatClampNeg) (xs (x3 + 3).toNatClampNeg)
  refine lv_aload_n (pc := 1031) hx hb dL_law_1031 rfl (lv_at hl 1 rfl) ?_
  refine lv_aload_n (pc := 1032) hx hb dL_law_1032 rfl (lv_at hl 0 rfl) ?_
  refine lv_iload_n (pc := 1033) hx hb dL_law_1033 rfl (lv_at hl 3 rfl) ?_
  refine lv_iconst (pc := 1034) (v := 1) hx hb dL_law_1034 ic_1 ?_
  refine lv_iadd (pc := 1035) hx hb dL_law_1035 ?_
  refine va_sld (pc := 1036) hx hb hX hbl hbA hS hi1 dL_law_1036 ?_
  refine lv_aload_n (pc := 1037) hx hb dL_law_1037 rfl (lv_at hl 0 rfl) ?_
  refine lv_iload_n (pc := 1038) hx hb dL_law_1038 rfl (lv_at hl 3 rfl) ?_
  refine lv_iconst (pc := 1039) (v := 2) hx hb dL_law_1039 ic_2 ?_
  refine lv_iadd (pc := 1040) hx hb dL_law_1040 ?_
  refine va_sld (pc := 1041) hx hb hX hbl hbA hS hi2 dL_law_1041 ?_
  refine lv_aload_n (pc := 1042) hx hb dL_law_1042 rfl (lv_at hl 0 rfl) ?_
  refine lv_iload_n (pc := 1043) hx hb dL_law_1043 rfl (lv_at hl 3 rfl) ?_
  refine lv_iconst (pc := 1044) (v := 3) hx hb dL_law_1044 ic_3 ?_
  refine lv_iadd (pc := 1045) hx hb dL_law_1045 ?_
  refine va_sld (pc := 1046) hx hb hX hbl hbA hS hi3 dL_law_1046 ?_
  refine fin2_i (wl_law cA a b xi xa xl xm mi ma) (run_V (rest := []) (pc := 1047) (As := [.int (xs (x3 + 1).toNatClampNeg), .int (xs (x3 + 2).toNatClampNeg), .int (xs (x3 + 3).toNatClampNeg)]) C mf_L_131 (c_X8_roam l D cA a (xi 0) (xi 1) (xi 4) (xi 5) (xi 6) (xi 7) (xa 2) (xa 5) (xa 6) (xi 13) (xi 14) (xi 15) (xi 16) (xs (x3 + 1).toNatClampNeg) (xs (x3 + 2).toNatClampNeg) (xs (x3 + 3).toNatClampNeg) r hq1 H.size) rfl rfl ⟨(Nat.le_of_ble_eq_true rfl), (Nat.le_of_ble_eq_true rfl)⟩ (preV_of C hP hD [0, 6, 7, 10, 11, 27] rfl (pl_nd pw_33) 0 rfl rfl rfl) rfl hl.1 rfl (Nat.le_of_ble_eq_true rfl) dL_law_1047 ⟨(Nat.le_of_ble_eq_true rfl), (Nat.le_of_ble_eq_true rfl)⟩) hP hD hS hA [0, 6, 7, 10, 11, 27] [1, 2, 3, 4, 5, 8, 9, 12, 13, 14, 15, 16, 17, 18, 19, 20, 21, 22, 23, 24, 25, 26, 28, 29, 30, 31, 32, 33, 34, 35, 36, 37, 38, 39, 40, 41, 42, 43, 44, 45, 46, 47, 48, 49, 50, 51, 52, 53, 54, 55, 56, 57, 58, 59, 60, 61, 62, 63, 64, 65, 66, 67, 68, 69, 70] rfl rfl rfl rfl pw_33 (fun H locs hP hS => ?_)
  have hD : va_D (fun q : Nat => s.heap.size ≤ q) (wl_law cA a b xi xa xl xm mi ma) := vd_a hD rfl
  refine lv_aload_n (pc := 1050) hx hb dL_law_1050 rfl (lv_at hl 2 rfl) ?_
  refine lv_aload_n (pc := 1051) hx hb dL_law_1051 rfl (lv_at hl 0 rfl) ?_
  refine lv_iload_n (pc := 1052) hx hb dL_law_1052 rfl (lv_at hl 3 rfl) ?_
  refine lv_iconst (pc := 1053) (v := 1) hx hb dL_law_1053 ic_1 ?_
  refine lv_iadd (pc := 1054) hx hb dL_law_1054 ?_
  refine va_sld (pc := 1055) hx hb hX hbl hbA hS hi1 dL_law_1055 ?_
  refine lv_aload_n (pc := 1056) hx hb dL_law_1056 rfl (lv_at hl 0 rfl) ?_
  refine lv_iload_n (pc := 1057) hx hb dL_law_1057 rfl (lv_at hl 3 rfl) ?_
  refine lv_iconst (pc := 1058) (v := 2) hx hb dL_law_1058 ic_2 ?_
  refine lv_iadd (pc := 1059) hx hb dL_law_1059 ?_
  refine va_sld (pc := 1060) hx hb hX hbl hbA hS hi2 dL_law_1060 ?_
  refine lv_aload_n (pc := 1061) hx hb dL_law_1061 rfl (lv_at hl 0 rfl) ?_
  refine lv_iload_n (pc := 1062) hx hb dL_law_1062 rfl (lv_at hl 3 rfl) ?_
  refine lv_iconst (pc := 1063) (v := 3) hx hb dL_law_1063 ic_3 ?_
  refine lv_iadd (pc := 1064) hx hb dL_law_1064 ?_
  refine va_sld (pc := 1065) hx hb hX hbl hbA hS hi3 dL_law_1065 ?_
  refine fin2_i (wl_law cA a b xi xa xl xm (va_up (va_up (va_up (va_up mi 1 d1) 2 d2) 3 d3) 8 d4) (va_up (va_up (va_up (va_up (va_up ma 6 d5) 7 d6) 11 d7) 12 d8) 13 d9)) (run_V (rest := [.int r]) (pc := 1066) (As := [.int (xs (x3 + 1).toNatClampNeg), .int (xs (x3 + 2).toNatClampNeg), .int (xs (x3 + 3).toNatClampNeg)]) C mf_L_134 (c_X9_roam l D cA b (mi 0) (mi 1) (mi 2) (mi 3) (mi 4) (mi 5) (mi 6) (mi 7) (mi 8) (ma 4) (ma 5) (ma 6) (ma 7) (ma 8) (ma 9) (ma 10) (ma 11) (ma 12) (ma 13) (xs (x3 + 1).toNatClampNeg) (xs (x3 + 2).toNatClampNeg) (xs (x3 + 3).toNatClampNeg) (r, d1, d2, d3, d4, d5, d6, d7, d8, d9) hq2 H.size) rfl rfl ⟨(Nat.le_of_ble_eq_true rfl), (Nat.le_of_ble_eq_true rfl)⟩ (preV_of C hP hD [54, 59, 60, 61, 62, 63, 64, 65, 66, 67, 68] rfl (pl_nd pw_20) 0 rfl rfl rfl) rfl hl.1 rfl (Nat.le_of_ble_eq_true rfl) dL_law_1066 ⟨(Nat.le_of_ble_eq_true rfl), (Nat.le_of_ble_eq_true rfl)⟩) hP hD hS hA [54, 59, 60, 61, 62, 63, 64, 65, 66, 67, 68] [0, 1, 2, 3, 4, 5, 6, 7, 8, 9, 10, 11, 12, 13, 14, 15, 16, 17, 18, 19, 20, 21, 22, 23, 24, 25, 26, 27, 28, 29, 30, 31, 32, 33, 34, 35, 36, 37, 38, 39, 40, 41, 42, 43, 44, 45, 46, 47, 48, 49, 50, 51, 52, 53, 55, 56, 57, 58, 69, 70] rfl rfl rfl rfl pw_20 (fun H locs hP hS => ?_)
  have hD : va_D (fun q : Nat => s.heap.size ≤ q) (wl_law cA a b xi xa xl xm (va_up (va_up (va_up (va_up mi 1 d1) 2 d2) 3 d3) 8 d4) (va_up (va_up (va_up (va_up (va_up ma 6 d5) 7 d6) 11 d7) 12 d8) 13 d9)) := vd_a hD rfl
  refine lv_icmp_eq (pc := 1069) (tgt := 1369) hx hb dL_law_1069 (by decide) (fun hc => ?_) (fun hc => absurd rfl hc)
  exact hn xi xa xl xm (va_up (va_up (va_up (va_up mi 1 d1) 2 d2) 3 d3) 8 d4) (va_up (va_up (va_up (va_up (va_up ma 6 d5) 7 d6) 11 d7) 12 d8) 13 d9) hrel H locs ls hP hD hS hl
set_option maxHeartbeats 4000000 in
set_option maxRecDepth 100000 in
theorem lc_29 {p : Program} {l : Launch} {e : Env} {s : State} {m : MethodId} {below : List Frame} {meth : Method} {c : Code} {D : va_G} {cA : Nat → ClassId} {bs L : Nat} {xs : Nat → Int32} {Q : State → Prop} (C : Cx RL code 4 D cA p s m #[Value.ref bs] c) (hA : ∀ q, s.heap.size ≤ q → (fun q : Nat => s.heap.size ≤ q) q) (hX : va_X bs L xs s s.heap) (hbl : bs < s.heap.size) (hbA : ¬ (fun q : Nat => s.heap.size ≤ q) bs) {x3 : Int32} (hi1 : vp_in (x3 + 1) L) (hi2 : vp_in (x3 + 2) L) (hi3 : vp_in (x3 + 3) L) (hi4 : vp_in (x3 + 4) L) (hi5 : vp_in (x3 + 5) L) (a b : Nat → Nat) (xi : Nat → Int32) (xa : Nat → Nat → Int32) (xl : Nat → Int64) (xm : Nat → Nat → Int64) (mi : Nat → Int32) (ma : Nat → Nat → Int32) (h : Rel xi xa xl xm mi ma) (hn : ∀ (xi : Nat → Int32) (xa : Nat → Nat → Int32) (xl : Nat → Int64) (xm : Nat → Nat → Int64) (mi : Nat → Int32) (ma : Nat → Nat → Int32), Rel xi xa xl xm mi ma → At p l e room_1 s m #[Value.ref bs] below meth c D (fun q : Nat => s.heap.size ≤ q) 71 2515 Q 4 1369 (wl_law cA a b xi xa xl xm mi ma) [(0, .ref bs), (1, .ref (a 0)), (2, .ref (b 0)), (3, .int x3)] []) : At p l e room_1 s m #[Value.ref bs] below meth c D (fun q : Nat => s.heap.size ≤ q) 71 2515 Q 4 1074 (wl_law cA a b xi xa xl xm mi ma) [(0, .ref bs), (1, .ref (a 0)), (2, .ref (b 0)), (3, .int x3)] [] := by
  intro H locs ls hP hD hS hl
  have hx := C.1
  have hb := C.2.1
  have hown := C.2.2.2.1
  have hts := C.2.2.2.2.1
  obtain ⟨r, c1, c2, c3, c4, c5, c6, c7, c8, c9, c10, c11, c12, c13, c14, c15, c16, c17, d1, d2, d3, d4, hq1, hq2, hrel⟩ := sim_sheet h (xs (x3 + 1).toNatClampNeg) (xs (x3 + 2).toNatClampNeg) (xs (x3 + 3).toNatClampNeg)
  refine lv_aload_n (pc := 1074) hx hb dL_law_1074 rfl (lv_at hl 1 rfl) ?_
  refine lv_aload_n (pc := 1075) hx hb dL_law_1075 rfl (lv_at hl 0 rfl) ?_
  refine lv_iload_n (pc := 1076) hx hb dL_law_1076 rfl (lv_at hl 3 rfl) ?_
  refine lv_iconst (pc := 1077) (v := 1) hx hb dL_law_1077 ic_1 ?_
  refine lv_iadd (pc := 1078) hx hb dL_law_1078 ?_
  refine va_sld (pc := 1079) hx hb hX hbl hbA hS hi1 dL_law_1079 ?_
  refine lv_aload_n (pc := 1080) hx hb dL_law_1080 rfl (lv_at hl 0 rfl) ?_
  refine lv_iload_n (pc := 1081) hx hb dL_law_1081 rfl (lv_at hl 3 rfl) ?_
  refine lv_iconst (pc := 1082) (v := 2) hx hb dL_law_1082 ic_2 ?_
  refine lv_iadd (pc := 1083) hx hb dL_law_1083 ?_
  refine va_sld (pc := 1084) hx hb hX hbl hbA hS hi2 dL_law_1084 ?_
  refine lv_aload_n (pc := 1085) hx hb dL_law_1085 rfl (lv_at hl 0 rfl) ?_
  refine lv_iload_n (pc := 1086) hx hb dL_law_1086 rfl (lv_at hl 3 rfl) ?_
  refine lv_iconst (pc := 1087) (v := 3) hx hb dL_law_1087 ic_3 ?_
  refine lv_iadd (pc := 1088) hx hb dL_law_1088 ?_
  refine va_sld (pc := 1089) hx hb hX hbl hbA hS hi3 dL_law_1089 ?_
  refine fin2_i (wl_law cA a b (va_up (va_up (va_up (va_up (va_up (va_up (va_up (va_up (va_up (va_up (va_up (va_up (va_up xi 1 c1) 24 c2) 25 c3) 26 c4) 27 c6) 28 c7) 29 c8) 30 c10) 31 c11) 32 c12) 33 c14) 34 c15) 35 c16) (va_up (va_up (va_up (va_up xa 29 c5) 30 c9) 31 c13) 32 c17) xl xm mi ma) (run_V (rest := []) (pc := 1090) (As := [.int (xs (x3 + 1).toNatClampNeg), .int (xs (x3 + 2).toNatClampNeg), .int (xs (x3 + 3).toNatClampNeg)]) C mf_L_135 (c_X8_sheet l D cA a (xi 0) (xi 1) (xi 24) (xi 25) (xi 26) (xa 29) (xi 27) (xi 28) (xi 29) (xa 30) (xi 30) (xi 31) (xi 32) (xa 31) (xi 33) (xi 34) (xi 35) (xa 32) (xs (x3 + 1).toNatClampNeg) (xs (x3 + 2).toNatClampNeg) (xs (x3 + 3).toNatClampNeg) (r, c1, c2, c3, c4, c5, c6, c7, c8, c9, c10, c11, c12, c13, c14, c15, c16, c17) hq1 H.size) rfl rfl ⟨(Nat.le_of_ble_eq_true rfl), (Nat.le_of_ble_eq_true rfl)⟩ (preV_of C hP hD [0, 45, 46, 47, 48, 49, 50, 51, 52, 53] rfl (pl_nd pw_34) 0 rfl rfl rfl) rfl hl.1 rfl (Nat.le_of_ble_eq_true rfl) dL_law_1090 ⟨(Nat.le_of_ble_eq_true rfl), (Nat.le_of_ble_eq_true rfl)⟩) hP hD hS hA [0, 45, 46, 47, 48, 49, 50, 51, 52, 53] [1, 2, 3, 4, 5, 6, 7, 8, 9, 10, 11, 12, 13, 14, 15, 16, 17, 18, 19, 20, 21, 22, 23, 24, 25, 26, 27, 28, 29, 30, 31, 32, 33, 34, 35, 36, 37, 38, 39, 40, 41, 42, 43, 44, 54, 55, 56, 57, 58, 59, 60, 61, 62, 63, 64, 65, 66, 67, 68, 69, 70] rfl rfl rfl rfl pw_34 (fun H locs hP hS => ?_)
  have hD : va_D (fun q : Nat => s.heap.size ≤ q) (wl_law cA a b (va_up (va_up (va_up (va_up (va_up (va_up (va_up (va_up (va_up (va_up (va_up (va_up (va_up xi 1 c1) 24 c2) 25 c3) 26 c4) 27 c6) 28 c7) 29 c8) 30 c10) 31 c11) 32 c12) 33 c14) 34 c15) 35 c16) (va_up (va_up (va_up (va_up xa 29 c5) 30 c9) 31 c13) 32 c17) xl xm mi ma) := vd_a hD rfl
  refine lv_aload_n (pc := 1093) hx hb dL_law_1093 rfl (lv_at hl 2 rfl) ?_
  refine lv_aload_n (pc := 1094) hx hb dL_law_1094 rfl (lv_at hl 0 rfl) ?_
  refine lv_iload_n (pc := 1095) hx hb dL_law_1095 rfl (lv_at hl 3 rfl) ?_
  refine lv_iconst (pc := 1096) (v := 1) hx hb dL_law_1096 ic_1 ?_
  refine lv_iadd (pc := 1097) hx hb dL_law_1097 ?_
  refine va_sld (pc := 1098) hx hb hX hbl hbA hS hi1 dL_law_1098 ?_
  refine lv_aload_n (pc := 1099) hx hb dL_law_1099 rfl (lv_at hl 0 rfl) ?_
  refine lv_iload_n (pc := 1100) hx hb dL_law_1100 rfl (lv_at hl 3 rfl) ?_
  refine lv_iconst (pc := 1101) (v := 2) hx hb dL_law_1101 ic_2 ?_
  refine lv_iadd (pc := 1102) hx hb dL_law_1102 ?_
  refine va_sld (pc := 1103) hx hb hX hbl hbA hS hi2 dL_law_1103 ?_
  refine lv_aload_n (pc := 1104) hx hb dL_law_1104 rfl (lv_at hl 0 rfl) ?_
  refine lv_iload_n (pc := 1105) hx hb dL_law_1105 rfl (lv_at hl 3 rfl) ?_
  refine lv_iconst (pc := 1106) (v := 3) hx hb dL_law_1106 ic_3 ?_
  refine lv_iadd (pc := 1107) hx hb dL_law_1107 ?_
  refine va_sld (pc := 1108) hx hb hX hbl hbA hS hi3 dL_law_1108 ?_
  refine fin2_i (wl_law cA a b (va_up (va_up (va_up (va_up (va_up (va_up (va_up (va_up (va_up (va_up (va_up (va_up (va_up xi 1 c1) 24 c2) 25 c3) 26 c4) 27 c6) 28 c7) 29 c8) 30 c10) 31 c11) 32 c12) 33 c14) 34 c15) 35 c16) (va_up (va_up (va_up (va_up xa 29 c5) 30 c9) 31 c13) 32 c17) xl xm (va_up mi 0 d1) (va_up (va_up (va_up ma 0 d2) 1 d3) 2 d4)) (run_V (rest := [.int r]) (pc := 1109) (As := [.int (xs (x3 + 1).toNatClampNeg), .int (xs (x3 + 2).toNatClampNeg), .int (xs (x3 + 3).toNatClampNeg)]) C mf_L_138 (c_X9_sheet l D cA b (mi 0) (mi 1) (mi 2) (mi 3) (mi 4) (mi 5) (mi 6) (mi 7) (mi 8) (ma 0) (ma 1) (ma 2) (xs (x3 + 1).toNatClampNeg) (xs (x3 + 2).toNatClampNeg) (xs (x3 + 3).toNatClampNeg) (r, d1, d2, d3, d4) hq2 H.size) rfl rfl ⟨(Nat.le_of_ble_eq_true rfl), (Nat.le_of_ble_eq_true rfl)⟩ (preV_of C hP hD [54, 55, 56, 57] rfl (pl_nd pw_35) 0 rfl rfl rfl) rfl hl.1 rfl (Nat.le_of_ble_eq_true rfl) dL_law_1109 ⟨(Nat.le_of_ble_eq_true rfl), (Nat.le_of_ble_eq_true rfl)⟩) hP hD hS hA [54, 55, 56, 57] [0, 1, 2, 3, 4, 5, 6, 7, 8, 9, 10, 11, 12, 13, 14, 15, 16, 17, 18, 19, 20, 21, 22, 23, 24, 25, 26, 27, 28, 29, 30, 31, 32, 33, 34, 35, 36, 37, 38, 39, 40, 41, 42, 43, 44, 45, 46, 47, 48, 49, 50, 51, 52, 53, 58, 59, 60, 61, 62, 63, 64, 65, 66, 67, 68, 69, 70] rfl rfl rfl rfl pw_35 (fun H locs hP hS => ?_)
  have hD : va_D (fun q : Nat => s.heap.size ≤ q) (wl_law cA a b (va_up (va_up (va_up (va_up (va_up (va_up (va_up (va_up (va_up (va_up (va_up (va_up (va_up xi 1 c1) 24 c2) 25 c3) 26 c4) 27 c6) 28 c7) 29 c8) 30 c10) 31 c11) 32 c12) 33 c14) 34 c15) 35 c16) (va_up (va_up (va_up (va_up xa 29 c5) 30 c9) 31 c13) 32 c17) xl xm (va_up mi 0 d1) (va_up (va_up (va_up ma 0 d2) 1 d3) 2 d4)) := vd_a hD rfl
  refine lv_icmp_eq (pc := 1112) (tgt := 1369) hx hb dL_law_1112 (by decide) (fun hc => ?_) (fun hc => absurd rfl hc)
  exact hn (va_up (va_up (va_up (va_up (va_up (va_up (va_up (va_up (va_up (va_up (va_up (va_up (va_up xi 1 c1) 24 c2) 25 c3) 26 c4) 27 c6) 28 c7) 29 c8) 30 c10) 31 c11) 32 c12) 33 c14) 34 c15) 35 c16) (va_up (va_up (va_up (va_up xa 29 c5) 30 c9) 31 c13) 32 c17) xl xm (va_up mi 0 d1) (va_up (va_up (va_up ma 0 d2) 1 d3) 2 d4) hrel H locs ls hP hD hS hl
set_option maxHeartbeats 4000000 in
set_option maxRecDepth 100000 in
theorem lc_30 {p : Program} {l : Launch} {e : Env} {s : State} {m : MethodId} {below : List Frame} {meth : Method} {c : Code} {D : va_G} {cA : Nat → ClassId} {bs L : Nat} {xs : Nat → Int32} {Q : State → Prop} (C : Cx RL code 4 D cA p s m #[Value.ref bs] c) (hA : ∀ q, s.heap.size ≤ q → (fun q : Nat => s.heap.size ≤ q) q) (hX : va_X bs L xs s s.heap) (hbl : bs < s.heap.size) (hbA : ¬ (fun q : Nat => s.heap.size ≤ q) bs) {x3 : Int32} (hi1 : vp_in (x3 + 1) L) (hi2 : vp_in (x3 + 2) L) (hi3 : vp_in (x3 + 3) L) (hi4 : vp_in (x3 + 4) L) (hi5 : vp_in (x3 + 5) L) (a b : Nat → Nat) (xi : Nat → Int32) (xa : Nat → Nat → Int32) (xl : Nat → Int64) (xm : Nat → Nat → Int64) (mi : Nat → Int32) (ma : Nat → Nat → Int32) (h : Rel xi xa xl xm mi ma) (hn : ∀ (xi : Nat → Int32) (xa : Nat → Nat → Int32) (xl : Nat → Int64) (xm : Nat → Nat → Int64) (mi : Nat → Int32) (ma : Nat → Nat → Int32), Rel xi xa xl xm mi ma → At p l e room_1 s m #[Value.ref bs] below meth c D (fun q : Nat => s.heap.size ≤ q) 71 2515 Q 4 1369 (wl_law cA a b xi xa xl xm mi ma) [(0, .ref bs), (1, .ref (a 0)), (2, .ref (b 0)), (3, .int x3)] []) : At p l e room_1 s m #[Value.ref bs] below meth c D (fun q : Nat => s.heap.size ≤ q) 71 2515 Q 4 1117 (wl_law cA a b xi xa xl xm mi ma) [(0, .ref bs), (1, .ref (a 0)), (2, .ref (b 0)), (3, .int x3)] [] := by
  intro H locs ls hP hD hS hl
  have hx := C.1
  have hb := C.2.1
  have hown := C.2.2.2.1
  have hts := C.2.2.2.2.1
  obtain ⟨r, c1, c2, c3, c4, c5, d1, d2, hq1, hq2, hrel⟩ := sim_lose h (xs (x3 + 1).toNatClampNeg)
  refine lv_aload_n (pc := 1117) hx hb dL_law_1117 rfl (lv_at hl 1 rfl) ?_
  refine lv_aload_n (pc := 1118) hx hb dL_law_1118 rfl (lv_at hl 0 rfl) ?_
  refine lv_iload_n (pc := 1119) hx hb dL_law_1119 rfl (lv_at hl 3 rfl) ?_
  refine lv_iconst (pc := 1120) (v := 1) hx hb dL_law_1120 ic_1 ?_
  refine lv_iadd (pc := 1121) hx hb dL_law_1121 ?_
  refine va_sld (pc := 1122) hx hb hX hbl hbA hS hi1 dL_law_1122 ?_
  refine fin2_i (wl_law cA a b (va_up (va_up (va_up (va_up (va_up xi 1 c1) 24 c2) 27 c3) 30 c4) 33 c5) xa xl xm mi ma) (run_V (rest := []) (pc := 1123) (As := [.int (xs (x3 + 1).toNatClampNeg)]) C mf_L_139 (c_X8_lose l D cA a (xi 0) (xi 1) (xi 24) (xi 25) (xi 26) (xi 27) (xi 28) (xi 29) (xi 30) (xi 31) (xi 32) (xi 33) (xi 34) (xi 35) (xs (x3 + 1).toNatClampNeg) (r, c1, c2, c3, c4, c5) hq1 H.size) rfl rfl ⟨(Nat.le_of_ble_eq_true rfl), (Nat.le_of_ble_eq_true rfl)⟩ (preV_of C hP hD [0, 45, 46, 48, 50, 52] rfl (pl_nd pw_36) 0 rfl rfl rfl) rfl hl.1 rfl (Nat.le_of_ble_eq_true rfl) dL_law_1123 ⟨(Nat.le_of_ble_eq_true rfl), (Nat.le_of_ble_eq_true rfl)⟩) hP hD hS hA [0, 45, 46, 48, 50, 52] [1, 2, 3, 4, 5, 6, 7, 8, 9, 10, 11, 12, 13, 14, 15, 16, 17, 18, 19, 20, 21, 22, 23, 24, 25, 26, 27, 28, 29, 30, 31, 32, 33, 34, 35, 36, 37, 38, 39, 40, 41, 42, 43, 44, 47, 49, 51, 53, 54, 55, 56, 57, 58, 59, 60, 61, 62, 63, 64, 65, 66, 67, 68, 69, 70] rfl rfl rfl rfl pw_36 (fun H locs hP hS => ?_)
  have hD : va_D (fun q : Nat => s.heap.size ≤ q) (wl_law cA a b (va_up (va_up (va_up (va_up (va_up xi 1 c1) 24 c2) 27 c3) 30 c4) 33 c5) xa xl xm mi ma) := vd_a hD rfl
  refine lv_aload_n (pc := 1126) hx hb dL_law_1126 rfl (lv_at hl 2 rfl) ?_
  refine lv_aload_n (pc := 1127) hx hb dL_law_1127 rfl (lv_at hl 0 rfl) ?_
  refine lv_iload_n (pc := 1128) hx hb dL_law_1128 rfl (lv_at hl 3 rfl) ?_
  refine lv_iconst (pc := 1129) (v := 1) hx hb dL_law_1129 ic_1 ?_
  refine lv_iadd (pc := 1130) hx hb dL_law_1130 ?_
  refine va_sld (pc := 1131) hx hb hX hbl hbA hS hi1 dL_law_1131 ?_
  refine fin2_i (wl_law cA a b (va_up (va_up (va_up (va_up (va_up xi 1 c1) 24 c2) 27 c3) 30 c4) 33 c5) xa xl xm (va_up mi 0 d1) (va_up ma 0 d2)) (run_V (rest := [.int r]) (pc := 1132) (As := [.int (xs (x3 + 1).toNatClampNeg)]) C mf_L_142 (c_X9_lose l D cA b (mi 0) (mi 1) (mi 2) (mi 3) (mi 4) (mi 5) (mi 6) (mi 7) (mi 8) (ma 0) (ma 1) (xs (x3 + 1).toNatClampNeg) (r, d1, d2) hq2 H.size) rfl rfl ⟨(Nat.le_of_ble_eq_true rfl), (Nat.le_of_ble_eq_true rfl)⟩ (preV_of C hP hD [54, 55, 56] rfl (pl_nd pw_37) 0 rfl rfl rfl) rfl hl.1 rfl (Nat.le_of_ble_eq_true rfl) dL_law_1132 ⟨(Nat.le_of_ble_eq_true rfl), (Nat.le_of_ble_eq_true rfl)⟩) hP hD hS hA [54, 55, 56] [0, 1, 2, 3, 4, 5, 6, 7, 8, 9, 10, 11, 12, 13, 14, 15, 16, 17, 18, 19, 20, 21, 22, 23, 24, 25, 26, 27, 28, 29, 30, 31, 32, 33, 34, 35, 36, 37, 38, 39, 40, 41, 42, 43, 44, 45, 46, 47, 48, 49, 50, 51, 52, 53, 57, 58, 59, 60, 61, 62, 63, 64, 65, 66, 67, 68, 69, 70] rfl rfl rfl rfl pw_37 (fun H locs hP hS => ?_)
  have hD : va_D (fun q : Nat => s.heap.size ≤ q) (wl_law cA a b (va_up (va_up (va_up (va_up (va_up xi 1 c1) 24 c2) 27 c3) 30 c4) 33 c5) xa xl xm (va_up mi 0 d1) (va_up ma 0 d2)) := vd_a hD rfl
  refine lv_icmp_eq (pc := 1135) (tgt := 1369) hx hb dL_law_1135 (by decide) (fun hc => ?_) (fun hc => absurd rfl hc)
  exact hn (va_up (va_up (va_up (va_up (va_up xi 1 c1) 24 c2) 27 c3) 30 c4) 33 c5) xa xl xm (va_up mi 0 d1) (va_up ma 0 d2) hrel H locs ls hP hD hS hl
set_option maxHeartbeats 4000000 in
set_option maxRecDepth 100000 in
theorem lc_31 {p : Program} {l : Launch} {e : Env} {s : State} {m : MethodId} {below : List Frame} {meth : Method} {c : Code} {D : va_G} {cA : Nat → ClassId} {bs L : Nat} {xs : Nat → Int32} {Q : State → Prop} (C : Cx RL code 4 D cA p s m #[Value.ref bs] c) (hA : ∀ q, s.heap.size ≤ q → (fun q : Nat => s.heap.size ≤ q) q) (hX : va_X bs L xs s s.heap) (hbl : bs < s.heap.size) (hbA : ¬ (fun q : Nat => s.heap.size ≤ q) bs) {x3 : Int32} (hi1 : vp_in (x3 + 1) L) (hi2 : vp_in (x3 + 2) L) (hi3 : vp_in (x3 + 3) L) (hi4 : vp_in (x3 + 4) L) (hi5 : vp_in (x3 + 5) L) (a b : Nat → Nat) (xi : Nat → Int32) (xa : Nat → Nat → Int32) (xl : Nat → Int64) (xm : Nat → Nat → Int64) (mi : Nat → Int32) (ma : Nat → Nat → Int32) (h : Rel xi xa xl xm mi ma) (hn : ∀ (xi : Nat → Int32) (xa : Nat → Nat → Int32) (xl : Nat → Int64) (xm : Nat → Nat → Int64) (mi : Nat → Int32) (ma : Nat → Nat → Int32), Rel xi xa xl xm mi ma → At p l e room_1 s m #[Value.ref bs] below meth c D (fun q : Nat => s.heap.size ≤ q) 71 2515 Q 4 1369 (wl_law cA a b xi xa xl xm mi ma) [(0, .ref bs), (1, .ref (a 0)), (2, .ref (b 0)), (3, .int x3)] []) : At p l e room_1 s m #[Value.ref bs] below meth c D (fun q : Nat => s.heap.size ≤ q) 71 2515 Q 4 1140 (wl_law cA a b xi xa xl xm mi ma) [(0, .ref bs), (1, .ref (a 0)), (2, .ref (b 0)), (3, .int x3)] [] := by
  intro H locs ls hP hD hS hl
  have hx := C.1
  have hb := C.2.1
  have hown := C.2.2.2.1
  have hts := C.2.2.2.2.1
  obtain ⟨r, c1, c2, c3, c4, c5, d1, d2, hq1, hq2, hrel⟩ := sim_lay h (xs (x3 + 1).toNatClampNeg) (xs (x3 + 2).toNatClampNeg) (xs (x3 + 3).toNatClampNeg) (xs (x3 + 4).toNatClampNeg)
  refine lv_aload_n (pc := 1140) hx hb dL_law_1140 rfl (lv_at hl 1 rfl) ?_
  refine lv_aload_n (pc := 1141) hx hb dL_law_1141 rfl (lv_at hl 0 rfl) ?_
  refine lv_iload_n (pc := 1142) hx hb dL_law_1142 rfl (lv_at hl 3 rfl) ?_
  refine lv_iconst (pc := 1143) (v := 1) hx hb dL_law_1143 ic_1 ?_
  refine lv_iadd (pc := 1144) hx hb dL_law_1144 ?_
  refine va_sld (pc := 1145) hx hb hX hbl hbA hS hi1 dL_law_1145 ?_
  refine lv_aload_n (pc := 1146) hx hb dL_law_1146 rfl (lv_at hl 0 rfl) ?_
  refine lv_iload_n (pc := 1147) hx hb dL_law_1147 rfl (lv_at hl 3 rfl) ?_
  refine lv_iconst (pc := 1148) (v := 2) hx hb dL_law_1148 ic_2 ?_
  refine lv_iadd (pc := 1149) hx hb dL_law_1149 ?_
  refine va_sld (pc := 1150) hx hb hX hbl hbA hS hi2 dL_law_1150 ?_
  refine lv_aload_n (pc := 1151) hx hb dL_law_1151 rfl (lv_at hl 0 rfl) ?_
  refine lv_iload_n (pc := 1152) hx hb dL_law_1152 rfl (lv_at hl 3 rfl) ?_
  refine lv_iconst (pc := 1153) (v := 3) hx hb dL_law_1153 ic_3 ?_
  refine lv_iadd (pc := 1154) hx hb dL_law_1154 ?_
  refine va_sld (pc := 1155) hx hb hX hbl hbA hS hi3 dL_law_1155 ?_
  refine lv_aload_n (pc := 1156) hx hb dL_law_1156 rfl (lv_at hl 0 rfl) ?_
  refine lv_iload_n (pc := 1157) hx hb dL_law_1157 rfl (lv_at hl 3 rfl) ?_
  refine lv_iconst (pc := 1158) (v := 4) hx hb dL_law_1158 ic_4 ?_
  refine lv_iadd (pc := 1159) hx hb dL_law_1159 ?_
  refine va_sld (pc := 1160) hx hb hX hbl hbA hS hi4 dL_law_1160 ?_
  refine fin2_i (wl_law cA a b (va_up xi 1 c1) (va_up (va_up (va_up (va_up xa 29 c2) 30 c3) 31 c4) 32 c5) xl xm mi ma) (run_V (rest := []) (pc := 1161) (As := [.int (xs (x3 + 1).toNatClampNeg), .int (xs (x3 + 2).toNatClampNeg), .int (xs (x3 + 3).toNatClampNeg), .int (xs (x3 + 4).toNatClampNeg)]) C mf_L_143 (c_X8_lay l D cA a (xi 0) (xi 1) (xi 24) (xi 25) (xi 26) (xa 29) (xi 27) (xi 28) (xi 29) (xa 30) (xi 30) (xi 31) (xi 32) (xa 31) (xi 33) (xi 34) (xi 35) (xa 32) (xs (x3 + 1).toNatClampNeg) (xs (x3 + 2).toNatClampNeg) (xs (x3 + 3).toNatClampNeg) (xs (x3 + 4).toNatClampNeg) (r, c1, c2, c3, c4, c5) hq1 H.size) rfl rfl ⟨(Nat.le_of_ble_eq_true rfl), (Nat.le_of_ble_eq_true rfl)⟩ (preV_of C hP hD [0, 45, 46, 47, 48, 49, 50, 51, 52, 53] rfl (pl_nd pw_34) 0 rfl rfl rfl) rfl hl.1 rfl (Nat.le_of_ble_eq_true rfl) dL_law_1161 ⟨(Nat.le_of_ble_eq_true rfl), (Nat.le_of_ble_eq_true rfl)⟩) hP hD hS hA [0, 45, 46, 47, 48, 49, 50, 51, 52, 53] [1, 2, 3, 4, 5, 6, 7, 8, 9, 10, 11, 12, 13, 14, 15, 16, 17, 18, 19, 20, 21, 22, 23, 24, 25, 26, 27, 28, 29, 30, 31, 32, 33, 34, 35, 36, 37, 38, 39, 40, 41, 42, 43, 44, 54, 55, 56, 57, 58, 59, 60, 61, 62, 63, 64, 65, 66, 67, 68, 69, 70] rfl rfl rfl rfl pw_34 (fun H locs hP hS => ?_)
  have hD : va_D (fun q : Nat => s.heap.size ≤ q) (wl_law cA a b (va_up xi 1 c1) (va_up (va_up (va_up (va_up xa 29 c2) 30 c3) 31 c4) 32 c5) xl xm mi ma) := vd_a hD rfl
  refine lv_aload_n (pc := 1164) hx hb dL_law_1164 rfl (lv_at hl 2 rfl) ?_
  refine lv_aload_n (pc := 1165) hx hb dL_law_1165 rfl (lv_at hl 0 rfl) ?_
  refine lv_iload_n (pc := 1166) hx hb dL_law_1166 rfl (lv_at hl 3 rfl) ?_
  refine lv_iconst (pc := 1167) (v := 1) hx hb dL_law_1167 ic_1 ?_
  refine lv_iadd (pc := 1168) hx hb dL_law_1168 ?_
  refine va_sld (pc := 1169) hx hb hX hbl hbA hS hi1 dL_law_1169 ?_
  refine lv_aload_n (pc := 1170) hx hb dL_law_1170 rfl (lv_at hl 0 rfl) ?_
  refine lv_iload_n (pc := 1171) hx hb dL_law_1171 rfl (lv_at hl 3 rfl) ?_
  refine lv_iconst (pc := 1172) (v := 2) hx hb dL_law_1172 ic_2 ?_
  refine lv_iadd (pc := 1173) hx hb dL_law_1173 ?_
  refine va_sld (pc := 1174) hx hb hX hbl hbA hS hi2 dL_law_1174 ?_
  refine lv_aload_n (pc := 1175) hx hb dL_law_1175 rfl (lv_at hl 0 rfl) ?_
  refine lv_iload_n (pc := 1176) hx hb dL_law_1176 rfl (lv_at hl 3 rfl) ?_
  refine lv_iconst (pc := 1177) (v := 3) hx hb dL_law_1177 ic_3 ?_
  refine lv_iadd (pc := 1178) hx hb dL_law_1178 ?_
  refine va_sld (pc := 1179) hx hb hX hbl hbA hS hi3 dL_law_1179 ?_
  refine lv_aload_n (pc := 1180) hx hb dL_law_1180 rfl (lv_at hl 0 rfl) ?_
  refine lv_iload_n (pc := 1181) hx hb dL_law_1181 rfl (lv_at hl 3 rfl) ?_
  refine lv_iconst (pc := 1182) (v := 4) hx hb dL_law_1182 ic_4 ?_
  refine lv_iadd (pc := 1183) hx hb dL_law_1183 ?_
  refine va_sld (pc := 1184) hx hb hX hbl hbA hS hi4 dL_law_1184 ?_
  refine fin2_i (wl_law cA a b (va_up xi 1 c1) (va_up (va_up (va_up (va_up xa 29 c2) 30 c3) 31 c4) 32 c5) xl xm (va_up mi 0 d1) (va_up ma 2 d2)) (run_V (rest := [.int r]) (pc := 1185) (As := [.int (xs (x3 + 1).toNatClampNeg), .int (xs (x3 + 2).toNatClampNeg), .int (xs (x3 + 3).toNatClampNeg), .int (xs (x3 + 4).toNatClampNeg)]) C mf_L_146 (c_X9_lay l D cA b (mi 0) (mi 1) (mi 2) (mi 3) (mi 4) (mi 5) (mi 6) (mi 7) (mi 8) (ma 0) (ma 1) (ma 2) (xs (x3 + 1).toNatClampNeg) (xs (x3 + 2).toNatClampNeg) (xs (x3 + 3).toNatClampNeg) (xs (x3 + 4).toNatClampNeg) (r, d1, d2) hq2 H.size) rfl rfl ⟨(Nat.le_of_ble_eq_true rfl), (Nat.le_of_ble_eq_true rfl)⟩ (preV_of C hP hD [54, 55, 56, 57] rfl (pl_nd pw_35) 0 rfl rfl rfl) rfl hl.1 rfl (Nat.le_of_ble_eq_true rfl) dL_law_1185 ⟨(Nat.le_of_ble_eq_true rfl), (Nat.le_of_ble_eq_true rfl)⟩) hP hD hS hA [54, 55, 56, 57] [0, 1, 2, 3, 4, 5, 6, 7, 8, 9, 10, 11, 12, 13, 14, 15, 16, 17, 18, 19, 20, 21, 22, 23, 24, 25, 26, 27, 28, 29, 30, 31, 32, 33, 34, 35, 36, 37, 38, 39, 40, 41, 42, 43, 44, 45, 46, 47, 48, 49, 50, 51, 52, 53, 58, 59, 60, 61, 62, 63, 64, 65, 66, 67, 68, 69, 70] rfl rfl rfl rfl pw_35 (fun H locs hP hS => ?_)
  have hD : va_D (fun q : Nat => s.heap.size ≤ q) (wl_law cA a b (va_up xi 1 c1) (va_up (va_up (va_up (va_up xa 29 c2) 30 c3) 31 c4) 32 c5) xl xm (va_up mi 0 d1) (va_up ma 2 d2)) := vd_a hD rfl
  refine lv_icmp_eq (pc := 1188) (tgt := 1369) hx hb dL_law_1188 (by decide) (fun hc => ?_) (fun hc => absurd rfl hc)
  exact hn (va_up xi 1 c1) (va_up (va_up (va_up (va_up xa 29 c2) 30 c3) 31 c4) 32 c5) xl xm (va_up mi 0 d1) (va_up ma 2 d2) hrel H locs ls hP hD hS hl
set_option maxHeartbeats 4000000 in
set_option maxRecDepth 100000 in
theorem lc_32 {p : Program} {l : Launch} {e : Env} {s : State} {m : MethodId} {below : List Frame} {meth : Method} {c : Code} {D : va_G} {cA : Nat → ClassId} {bs L : Nat} {xs : Nat → Int32} {Q : State → Prop} (C : Cx RL code 4 D cA p s m #[Value.ref bs] c) (hA : ∀ q, s.heap.size ≤ q → (fun q : Nat => s.heap.size ≤ q) q) (hX : va_X bs L xs s s.heap) (hbl : bs < s.heap.size) (hbA : ¬ (fun q : Nat => s.heap.size ≤ q) bs) {x3 : Int32} (hi1 : vp_in (x3 + 1) L) (hi2 : vp_in (x3 + 2) L) (hi3 : vp_in (x3 + 3) L) (hi4 : vp_in (x3 + 4) L) (hi5 : vp_in (x3 + 5) L) (a b : Nat → Nat) (xi : Nat → Int32) (xa : Nat → Nat → Int32) (xl : Nat → Int64) (xm : Nat → Nat → Int64) (mi : Nat → Int32) (ma : Nat → Nat → Int32) (h : Rel xi xa xl xm mi ma) (hn : ∀ (xi : Nat → Int32) (xa : Nat → Nat → Int32) (xl : Nat → Int64) (xm : Nat → Nat → Int64) (mi : Nat → Int32) (ma : Nat → Nat → Int32), Rel xi xa xl xm mi ma → At p l e room_1 s m #[Value.ref bs] below meth c D (fun q : Nat => s.heap.size ≤ q) 71 2515 Q 4 1369 (wl_law cA a b xi xa xl xm mi ma) [(0, .ref bs), (1, .ref (a 0)), (2, .ref (b 0)), (3, .int x3)] []) : At p l e room_1 s m #[Value.ref bs] below meth c D (fun q : Nat => s.heap.size ≤ q) 71 2515 Q 4 1193 (wl_law cA a b xi xa xl xm mi ma) [(0, .ref bs), (1, .ref (a 0)), (2, .ref (b 0)), (3, .int x3)] [] := by
  intro H locs ls hP hD hS hl
  have hx := C.1
  have hb := C.2.1
  have hown := C.2.2.2.1
  have hts := C.2.2.2.2.1
  obtain ⟨r, c1, d1, hq1, hq2, hrel⟩ := sim_get h (xs (x3 + 1).toNatClampNeg) (xs (x3 + 2).toNatClampNeg) (xs (x3 + 3).toNatClampNeg)
  refine lv_aload_n (pc := 1193) hx hb dL_law_1193 rfl (lv_at hl 1 rfl) ?_
  refine lv_aload_n (pc := 1194) hx hb dL_law_1194 rfl (lv_at hl 0 rfl) ?_
  refine lv_iload_n (pc := 1195) hx hb dL_law_1195 rfl (lv_at hl 3 rfl) ?_
  refine lv_iconst (pc := 1196) (v := 1) hx hb dL_law_1196 ic_1 ?_
  refine lv_iadd (pc := 1197) hx hb dL_law_1197 ?_
  refine va_sld (pc := 1198) hx hb hX hbl hbA hS hi1 dL_law_1198 ?_
  refine lv_aload_n (pc := 1199) hx hb dL_law_1199 rfl (lv_at hl 0 rfl) ?_
  refine lv_iload_n (pc := 1200) hx hb dL_law_1200 rfl (lv_at hl 3 rfl) ?_
  refine lv_iconst (pc := 1201) (v := 2) hx hb dL_law_1201 ic_2 ?_
  refine lv_iadd (pc := 1202) hx hb dL_law_1202 ?_
  refine va_sld (pc := 1203) hx hb hX hbl hbA hS hi2 dL_law_1203 ?_
  refine lv_aload_n (pc := 1204) hx hb dL_law_1204 rfl (lv_at hl 0 rfl) ?_
  refine lv_iload_n (pc := 1205) hx hb dL_law_1205 rfl (lv_at hl 3 rfl) ?_
  refine lv_iconst (pc := 1206) (v := 3) hx hb dL_law_1206 ic_3 ?_
  refine lv_iadd (pc := 1207) hx hb dL_law_1207 ?_
  refine va_sld (pc := 1208) hx hb hX hbl hbA hS hi3 dL_law_1208 ?_
  refine fin2_i (wl_law cA a b (va_up xi 1 c1) xa xl xm mi ma) (run_V (rest := []) (pc := 1209) (As := [.int (xs (x3 + 1).toNatClampNeg), .int (xs (x3 + 2).toNatClampNeg), .int (xs (x3 + 3).toNatClampNeg)]) C mf_L_147 (c_X8_get l D cA a (xi 0) (xi 1) (xi 24) (xi 25) (xi 26) (xa 29) (xi 27) (xi 28) (xi 29) (xa 30) (xi 30) (xi 31) (xi 32) (xa 31) (xi 33) (xi 34) (xi 35) (xa 32) (xs (x3 + 1).toNatClampNeg) (xs (x3 + 2).toNatClampNeg) (xs (x3 + 3).toNatClampNeg) (r, c1) hq1 H.size) rfl rfl ⟨(Nat.le_of_ble_eq_true rfl), (Nat.le_of_ble_eq_true rfl)⟩ (preV_of C hP hD [0, 45, 46, 47, 48, 49, 50, 51, 52, 53] rfl (pl_nd pw_34) 0 rfl rfl rfl) rfl hl.1 rfl (Nat.le_of_ble_eq_true rfl) dL_law_1209 ⟨(Nat.le_of_ble_eq_true rfl), (Nat.le_of_ble_eq_true rfl)⟩) hP hD hS hA [0, 45, 46, 47, 48, 49, 50, 51, 52, 53] [1, 2, 3, 4, 5, 6, 7, 8, 9, 10, 11, 12, 13, 14, 15, 16, 17, 18, 19, 20, 21, 22, 23, 24, 25, 26, 27, 28, 29, 30, 31, 32, 33, 34, 35, 36, 37, 38, 39, 40, 41, 42, 43, 44, 54, 55, 56, 57, 58, 59, 60, 61, 62, 63, 64, 65, 66, 67, 68, 69, 70] rfl rfl rfl rfl pw_34 (fun H locs hP hS => ?_)
  have hD : va_D (fun q : Nat => s.heap.size ≤ q) (wl_law cA a b (va_up xi 1 c1) xa xl xm mi ma) := vd_a hD rfl
  refine lv_aload_n (pc := 1212) hx hb dL_law_1212 rfl (lv_at hl 2 rfl) ?_
  refine lv_aload_n (pc := 1213) hx hb dL_law_1213 rfl (lv_at hl 0 rfl) ?_
  refine lv_iload_n (pc := 1214) hx hb dL_law_1214 rfl (lv_at hl 3 rfl) ?_
  refine lv_iconst (pc := 1215) (v := 1) hx hb dL_law_1215 ic_1 ?_
  refine lv_iadd (pc := 1216) hx hb dL_law_1216 ?_
  refine va_sld (pc := 1217) hx hb hX hbl hbA hS hi1 dL_law_1217 ?_
  refine lv_aload_n (pc := 1218) hx hb dL_law_1218 rfl (lv_at hl 0 rfl) ?_
  refine lv_iload_n (pc := 1219) hx hb dL_law_1219 rfl (lv_at hl 3 rfl) ?_
  refine lv_iconst (pc := 1220) (v := 2) hx hb dL_law_1220 ic_2 ?_
  refine lv_iadd (pc := 1221) hx hb dL_law_1221 ?_
  refine va_sld (pc := 1222) hx hb hX hbl hbA hS hi2 dL_law_1222 ?_
  refine lv_aload_n (pc := 1223) hx hb dL_law_1223 rfl (lv_at hl 0 rfl) ?_
  refine lv_iload_n (pc := 1224) hx hb dL_law_1224 rfl (lv_at hl 3 rfl) ?_
  refine lv_iconst (pc := 1225) (v := 3) hx hb dL_law_1225 ic_3 ?_
  refine lv_iadd (pc := 1226) hx hb dL_law_1226 ?_
  refine va_sld (pc := 1227) hx hb hX hbl hbA hS hi3 dL_law_1227 ?_
  refine fin2_i (wl_law cA a b (va_up xi 1 c1) xa xl xm (va_up mi 0 d1) ma) (run_V (rest := [.int r]) (pc := 1228) (As := [.int (xs (x3 + 1).toNatClampNeg), .int (xs (x3 + 2).toNatClampNeg), .int (xs (x3 + 3).toNatClampNeg)]) C mf_L_150 (c_X9_get l D cA b (mi 0) (mi 1) (mi 2) (mi 3) (mi 4) (mi 5) (mi 6) (mi 7) (mi 8) (ma 0) (ma 1) (ma 2) (xs (x3 + 1).toNatClampNeg) (xs (x3 + 2).toNatClampNeg) (xs (x3 + 3).toNatClampNeg) (r, d1) hq2 H.size) rfl rfl ⟨(Nat.le_of_ble_eq_true rfl), (Nat.le_of_ble_eq_true rfl)⟩ (preV_of C hP hD [54, 55, 56, 57] rfl (pl_nd pw_35) 0 rfl rfl rfl) rfl hl.1 rfl (Nat.le_of_ble_eq_true rfl) dL_law_1228 ⟨(Nat.le_of_ble_eq_true rfl), (Nat.le_of_ble_eq_true rfl)⟩) hP hD hS hA [54, 55, 56, 57] [0, 1, 2, 3, 4, 5, 6, 7, 8, 9, 10, 11, 12, 13, 14, 15, 16, 17, 18, 19, 20, 21, 22, 23, 24, 25, 26, 27, 28, 29, 30, 31, 32, 33, 34, 35, 36, 37, 38, 39, 40, 41, 42, 43, 44, 45, 46, 47, 48, 49, 50, 51, 52, 53, 58, 59, 60, 61, 62, 63, 64, 65, 66, 67, 68, 69, 70] rfl rfl rfl rfl pw_35 (fun H locs hP hS => ?_)
  have hD : va_D (fun q : Nat => s.heap.size ≤ q) (wl_law cA a b (va_up xi 1 c1) xa xl xm (va_up mi 0 d1) ma) := vd_a hD rfl
  refine lv_icmp_eq (pc := 1231) (tgt := 1369) hx hb dL_law_1231 (by decide) (fun hc => ?_) (fun hc => absurd rfl hc)
  exact hn (va_up xi 1 c1) xa xl xm (va_up mi 0 d1) ma hrel H locs ls hP hD hS hl
set_option maxHeartbeats 4000000 in
set_option maxRecDepth 100000 in
theorem lc_33 {p : Program} {l : Launch} {e : Env} {s : State} {m : MethodId} {below : List Frame} {meth : Method} {c : Code} {D : va_G} {cA : Nat → ClassId} {bs L : Nat} {xs : Nat → Int32} {Q : State → Prop} (C : Cx RL code 4 D cA p s m #[Value.ref bs] c) (hA : ∀ q, s.heap.size ≤ q → (fun q : Nat => s.heap.size ≤ q) q) (hX : va_X bs L xs s s.heap) (hbl : bs < s.heap.size) (hbA : ¬ (fun q : Nat => s.heap.size ≤ q) bs) {x3 : Int32} (hi1 : vp_in (x3 + 1) L) (hi2 : vp_in (x3 + 2) L) (hi3 : vp_in (x3 + 3) L) (hi4 : vp_in (x3 + 4) L) (hi5 : vp_in (x3 + 5) L) (a b : Nat → Nat) (xi : Nat → Int32) (xa : Nat → Nat → Int32) (xl : Nat → Int64) (xm : Nat → Nat → Int64) (mi : Nat → Int32) (ma : Nat → Nat → Int32) (h : Rel xi xa xl xm mi ma) (hn : ∀ (xi : Nat → Int32) (xa : Nat → Nat → Int32) (xl : Nat → Int64) (xm : Nat → Nat → Int64) (mi : Nat → Int32) (ma : Nat → Nat → Int32), Rel xi xa xl xm mi ma → At p l e room_1 s m #[Value.ref bs] below meth c D (fun q : Nat => s.heap.size ≤ q) 71 2515 Q 4 1369 (wl_law cA a b xi xa xl xm mi ma) [(0, .ref bs), (1, .ref (a 0)), (2, .ref (b 0)), (3, .int x3)] []) : At p l e room_1 s m #[Value.ref bs] below meth c D (fun q : Nat => s.heap.size ≤ q) 71 2515 Q 4 1236 (wl_law cA a b xi xa xl xm mi ma) [(0, .ref bs), (1, .ref (a 0)), (2, .ref (b 0)), (3, .int x3)] [] := by
  intro H locs ls hP hD hS hl
  have hx := C.1
  have hb := C.2.1
  have hown := C.2.2.2.1
  have hts := C.2.2.2.2.1
  obtain ⟨r, c1, c2, c3, c4, c5, d1, d2, d3, hq1, hq2, hrel⟩ := sim_copy h (xs (x3 + 1).toNatClampNeg) (xs (x3 + 2).toNatClampNeg) (xs (x3 + 3).toNatClampNeg) (xs (x3 + 4).toNatClampNeg) (xs (x3 + 5).toNatClampNeg)
  refine lv_aload_n (pc := 1236) hx hb dL_law_1236 rfl (lv_at hl 1 rfl) ?_
  refine lv_aload_n (pc := 1237) hx hb dL_law_1237 rfl (lv_at hl 0 rfl) ?_
  refine lv_iload_n (pc := 1238) hx hb dL_law_1238 rfl (lv_at hl 3 rfl) ?_
  refine lv_iconst (pc := 1239) (v := 1) hx hb dL_law_1239 ic_1 ?_
  refine lv_iadd (pc := 1240) hx hb dL_law_1240 ?_
  refine va_sld (pc := 1241) hx hb hX hbl hbA hS hi1 dL_law_1241 ?_
  refine lv_aload_n (pc := 1242) hx hb dL_law_1242 rfl (lv_at hl 0 rfl) ?_
  refine lv_iload_n (pc := 1243) hx hb dL_law_1243 rfl (lv_at hl 3 rfl) ?_
  refine lv_iconst (pc := 1244) (v := 2) hx hb dL_law_1244 ic_2 ?_
  refine lv_iadd (pc := 1245) hx hb dL_law_1245 ?_
  refine va_sld (pc := 1246) hx hb hX hbl hbA hS hi2 dL_law_1246 ?_
  refine lv_aload_n (pc := 1247) hx hb dL_law_1247 rfl (lv_at hl 0 rfl) ?_
  refine lv_iload_n (pc := 1248) hx hb dL_law_1248 rfl (lv_at hl 3 rfl) ?_
  refine lv_iconst (pc := 1249) (v := 3) hx hb dL_law_1249 ic_3 ?_
  refine lv_iadd (pc := 1250) hx hb dL_law_1250 ?_
  refine va_sld (pc := 1251) hx hb hX hbl hbA hS hi3 dL_law_1251 ?_
  refine lv_aload_n (pc := 1252) hx hb dL_law_1252 rfl (lv_at hl 0 rfl) ?_
  refine lv_iload_n (pc := 1253) hx hb dL_law_1253 rfl (lv_at hl 3 rfl) ?_
  refine lv_iconst (pc := 1254) (v := 4) hx hb dL_law_1254 ic_4 ?_
  refine lv_iadd (pc := 1255) hx hb dL_law_1255 ?_
  refine va_sld (pc := 1256) hx hb hX hbl hbA hS hi4 dL_law_1256 ?_
  refine lv_aload_n (pc := 1257) hx hb dL_law_1257 rfl (lv_at hl 0 rfl) ?_
  refine lv_iload_n (pc := 1258) hx hb dL_law_1258 rfl (lv_at hl 3 rfl) ?_
  refine lv_iconst (pc := 1259) (v := 5) hx hb dL_law_1259 ic_5 ?_
  refine lv_iadd (pc := 1260) hx hb dL_law_1260 ?_
  refine va_sld (pc := 1261) hx hb hX hbl hbA hS hi5 dL_law_1261 ?_
  refine fin2_i (wl_law cA a b (va_up xi 1 c1) (va_up (va_up (va_up (va_up xa 29 c2) 30 c3) 31 c4) 32 c5) xl xm mi ma) (run_V (rest := []) (pc := 1262) (As := [.int (xs (x3 + 1).toNatClampNeg), .int (xs (x3 + 2).toNatClampNeg), .int (xs (x3 + 3).toNatClampNeg), .int (xs (x3 + 4).toNatClampNeg), .int (xs (x3 + 5).toNatClampNeg)]) C mf_L_151 (c_X8_copy l D cA a (xi 0) (xi 1) (xi 24) (xi 25) (xi 26) (xa 29) (xi 27) (xi 28) (xi 29) (xa 30) (xi 30) (xi 31) (xi 32) (xa 31) (xi 33) (xi 34) (xi 35) (xa 32) (xs (x3 + 1).toNatClampNeg) (xs (x3 + 2).toNatClampNeg) (xs (x3 + 3).toNatClampNeg) (xs (x3 + 4).toNatClampNeg) (xs (x3 + 5).toNatClampNeg) (r, c1, c2, c3, c4, c5) hq1 H.size) rfl rfl ⟨(Nat.le_of_ble_eq_true rfl), (Nat.le_of_ble_eq_true rfl)⟩ (preV_of C hP hD [0, 45, 46, 47, 48, 49, 50, 51, 52, 53] rfl (pl_nd pw_34) 0 rfl rfl rfl) rfl hl.1 rfl (Nat.le_of_ble_eq_true rfl) dL_law_1262 ⟨(Nat.le_of_ble_eq_true rfl), (Nat.le_of_ble_eq_true rfl)⟩) hP hD hS hA [0, 45, 46, 47, 48, 49, 50, 51, 52, 53] [1, 2, 3, 4, 5, 6, 7, 8, 9, 10, 11, 12, 13, 14, 15, 16, 17, 18, 19, 20, 21, 22, 23, 24, 25, 26, 27, 28, 29, 30, 31, 32, 33, 34, 35, 36, 37, 38, 39, 40, 41, 42, 43, 44, 54, 55, 56, 57, 58, 59, 60, 61, 62, 63, 64, 65, 66, 67, 68, 69, 70] rfl rfl rfl rfl pw_34 (fun H locs hP hS => ?_)
  have hD : va_D (fun q : Nat => s.heap.size ≤ q) (wl_law cA a b (va_up xi 1 c1) (va_up (va_up (va_up (va_up xa 29 c2) 30 c3) 31 c4) 32 c5) xl xm mi ma) := vd_a hD rfl
  refine lv_aload_n (pc := 1265) hx hb dL_law_1265 rfl (lv_at hl 2 rfl) ?_
  refine lv_aload_n (pc := 1266) hx hb dL_law_1266 rfl (lv_at hl 0 rfl) ?_
  refine lv_iload_n (pc := 1267) hx hb dL_law_1267 rfl (lv_at hl 3 rfl) ?_
  refine lv_iconst (pc := 1268) (v := 1) hx hb dL_law_1268 ic_1 ?_
  refine lv_iadd (pc := 1269) hx hb dL_law_1269 ?_
  refine va_sld (pc := 1270) hx hb hX hbl hbA hS hi1 dL_law_1270 ?_
  refine lv_aload_n (pc := 1271) hx hb dL_law_1271 rfl (lv_at hl 0 rfl) ?_
  refine lv_iload_n (pc := 1272) hx hb dL_law_1272 rfl (lv_at hl 3 rfl) ?_
  refine lv_iconst (pc := 1273) (v := 2) hx hb dL_law_1273 ic_2 ?_
  refine lv_iadd (pc := 1274) hx hb dL_law_1274 ?_
  refine va_sld (pc := 1275) hx hb hX hbl hbA hS hi2 dL_law_1275 ?_
  refine lv_aload_n (pc := 1276) hx hb dL_law_1276 rfl (lv_at hl 0 rfl) ?_
  refine lv_iload_n (pc := 1277) hx hb dL_law_1277 rfl (lv_at hl 3 rfl) ?_
  refine lv_iconst (pc := 1278) (v := 3) hx hb dL_law_1278 ic_3 ?_
  refine lv_iadd (pc := 1279) hx hb dL_law_1279 ?_
  refine va_sld (pc := 1280) hx hb hX hbl hbA hS hi3 dL_law_1280 ?_
  refine lv_aload_n (pc := 1281) hx hb dL_law_1281 rfl (lv_at hl 0 rfl) ?_
  refine lv_iload_n (pc := 1282) hx hb dL_law_1282 rfl (lv_at hl 3 rfl) ?_
  refine lv_iconst (pc := 1283) (v := 4) hx hb dL_law_1283 ic_4 ?_
  refine lv_iadd (pc := 1284) hx hb dL_law_1284 ?_
  refine va_sld (pc := 1285) hx hb hX hbl hbA hS hi4 dL_law_1285 ?_
  refine lv_aload_n (pc := 1286) hx hb dL_law_1286 rfl (lv_at hl 0 rfl) ?_
  refine lv_iload_n (pc := 1287) hx hb dL_law_1287 rfl (lv_at hl 3 rfl) ?_
  refine lv_iconst (pc := 1288) (v := 5) hx hb dL_law_1288 ic_5 ?_
  refine lv_iadd (pc := 1289) hx hb dL_law_1289 ?_
  refine va_sld (pc := 1290) hx hb hX hbl hbA hS hi5 dL_law_1290 ?_
  refine fin2_i (wl_law cA a b (va_up xi 1 c1) (va_up (va_up (va_up (va_up xa 29 c2) 30 c3) 31 c4) 32 c5) xl xm (va_up mi 0 d1) (va_up (va_up ma 2 d2) 3 d3)) (run_V (rest := [.int r]) (pc := 1291) (As := [.int (xs (x3 + 1).toNatClampNeg), .int (xs (x3 + 2).toNatClampNeg), .int (xs (x3 + 3).toNatClampNeg), .int (xs (x3 + 4).toNatClampNeg), .int (xs (x3 + 5).toNatClampNeg)]) C mf_L_155 (c_X9_copy l D cA b (mi 0) (mi 1) (mi 2) (mi 3) (mi 4) (mi 5) (mi 6) (mi 7) (mi 8) (ma 0) (ma 1) (ma 2) (ma 3) (xs (x3 + 1).toNatClampNeg) (xs (x3 + 2).toNatClampNeg) (xs (x3 + 3).toNatClampNeg) (xs (x3 + 4).toNatClampNeg) (xs (x3 + 5).toNatClampNeg) (r, d1, d2, d3) hq2 H.size) rfl rfl ⟨(Nat.le_of_ble_eq_true rfl), (Nat.le_of_ble_eq_true rfl)⟩ (preV_of C hP hD [54, 55, 56, 57, 58] rfl (pl_nd pw_38) 0 rfl rfl rfl) rfl hl.1 rfl (Nat.le_of_ble_eq_true rfl) dL_law_1291 ⟨(Nat.le_of_ble_eq_true rfl), (Nat.le_of_ble_eq_true rfl)⟩) hP hD hS hA [54, 55, 56, 57, 58] [0, 1, 2, 3, 4, 5, 6, 7, 8, 9, 10, 11, 12, 13, 14, 15, 16, 17, 18, 19, 20, 21, 22, 23, 24, 25, 26, 27, 28, 29, 30, 31, 32, 33, 34, 35, 36, 37, 38, 39, 40, 41, 42, 43, 44, 45, 46, 47, 48, 49, 50, 51, 52, 53, 59, 60, 61, 62, 63, 64, 65, 66, 67, 68, 69, 70] rfl rfl rfl rfl pw_38 (fun H locs hP hS => ?_)
  have hD : va_D (fun q : Nat => s.heap.size ≤ q) (wl_law cA a b (va_up xi 1 c1) (va_up (va_up (va_up (va_up xa 29 c2) 30 c3) 31 c4) 32 c5) xl xm (va_up mi 0 d1) (va_up (va_up ma 2 d2) 3 d3)) := vd_a hD rfl
  refine lv_icmp_eq (pc := 1294) (tgt := 1369) hx hb dL_law_1294 (by decide) (fun hc => ?_) (fun hc => absurd rfl hc)
  exact hn (va_up xi 1 c1) (va_up (va_up (va_up (va_up xa 29 c2) 30 c3) 31 c4) 32 c5) xl xm (va_up mi 0 d1) (va_up (va_up ma 2 d2) 3 d3) hrel H locs ls hP hD hS hl
set_option maxHeartbeats 4000000 in
set_option maxRecDepth 100000 in
theorem lc_34 {p : Program} {l : Launch} {e : Env} {s : State} {m : MethodId} {below : List Frame} {meth : Method} {c : Code} {D : va_G} {cA : Nat → ClassId} {bs L : Nat} {xs : Nat → Int32} {Q : State → Prop} (C : Cx RL code 4 D cA p s m #[Value.ref bs] c) (hA : ∀ q, s.heap.size ≤ q → (fun q : Nat => s.heap.size ≤ q) q) (hX : va_X bs L xs s s.heap) (hbl : bs < s.heap.size) (hbA : ¬ (fun q : Nat => s.heap.size ≤ q) bs) {x3 : Int32} (hi1 : vp_in (x3 + 1) L) (hi2 : vp_in (x3 + 2) L) (hi3 : vp_in (x3 + 3) L) (hi4 : vp_in (x3 + 4) L) (hi5 : vp_in (x3 + 5) L) (a b : Nat → Nat) (xi : Nat → Int32) (xa : Nat → Nat → Int32) (xl : Nat → Int64) (xm : Nat → Nat → Int64) (mi : Nat → Int32) (ma : Nat → Nat → Int32) (h : Rel xi xa xl xm mi ma) (hn : ∀ (xi : Nat → Int32) (xa : Nat → Nat → Int32) (xl : Nat → Int64) (xm : Nat → Nat → Int64) (mi : Nat → Int32) (ma : Nat → Nat → Int32), Rel xi xa xl xm mi ma → At p l e room_1 s m #[Value.ref bs] below meth c D (fun q : Nat => s.heap.size ≤ q) 71 2515 Q 4 1369 (wl_law cA a b xi xa xl xm mi ma) [(0, .ref bs), (1, .ref (a 0)), (2, .ref (b 0)), (3, .int x3)] []) : At p l e room_1 s m #[Value.ref bs] below meth c D (fun q : Nat => s.heap.size ≤ q) 71 2515 Q 4 1299 (wl_law cA a b xi xa xl xm mi ma) [(0, .ref bs), (1, .ref (a 0)), (2, .ref (b 0)), (3, .int x3)] [] := by
  intro H locs ls hP hD hS hl
  have hx := C.1
  have hb := C.2.1
  have hown := C.2.2.2.1
  have hts := C.2.2.2.2.1
  obtain ⟨r, c1, c2, c3, c4, c5, c6, c7, c8, c9, c10, c11, c12, d1, d2, d3, d4, d5, d6, d7, d8, d9, d10, hq1, hq2, hrel⟩ := sim_write h (xs (x3 + 1).toNatClampNeg) (xs (x3 + 2).toNatClampNeg)
  refine lv_aload_n (pc := 1299) hx hb dL_law_1299 rfl (lv_at hl 1 rfl) ?_
  refine lv_aload_n (pc := 1300) hx hb dL_law_1300 rfl (lv_at hl 0 rfl) ?_
  refine lv_iload_n (pc := 1301) hx hb dL_law_1301 rfl (lv_at hl 3 rfl) ?_
  refine lv_iconst (pc := 1302) (v := 1) hx hb dL_law_1302 ic_1 ?_
  refine lv_iadd (pc := 1303) hx hb dL_law_1303 ?_
  refine va_sld (pc := 1304) hx hb hX hbl hbA hS hi1 dL_law_1304 ?_
  refine lv_aload_n (pc := 1305) hx hb dL_law_1305 rfl (lv_at hl 0 rfl) ?_
  refine lv_iload_n (pc := 1306) hx hb dL_law_1306 rfl (lv_at hl 3 rfl) ?_
  refine lv_iconst (pc := 1307) (v := 2) hx hb dL_law_1307 ic_2 ?_
  refine lv_iadd (pc := 1308) hx hb dL_law_1308 ?_
  refine va_sld (pc := 1309) hx hb hX hbl hbA hS hi2 dL_law_1309 ?_
  refine fin2_i (wl_law cA a b (va_up (va_up xi 0 c1) 1 c2) (va_up (va_up (va_up (va_up (va_up (va_up (va_up (va_up (va_up xa 18 c3) 19 c4) 20 c5) 21 c6) 22 c8) 29 c9) 30 c10) 31 c11) 32 c12) xl (va_up xm 0 c7) mi ma) (run_V (rest := []) (pc := 1310) (As := [.int (xs (x3 + 1).toNatClampNeg), .int (xs (x3 + 2).toNatClampNeg)]) C mf_L_156 (c_X8_write l D cA a (xi 0) (xi 1) (xi 4) (xi 5) (xi 6) (xi 7) (xa 2) (xa 3) (xa 4) (xa 5) (xa 6) (xi 10) (xa 9) (xa 10) (xi 11) (xa 12) (xa 13) (xi 13) (xi 14) (xi 15) (xi 16) (xa 18) (xa 19) (xa 20) (xa 21) (xm 0) (xa 22) (xi 24) (xi 25) (xi 26) (xa 29) (xi 27) (xi 28) (xi 29) (xa 30) (xi 30) (xi 31) (xi 32) (xa 31) (xi 33) (xi 34) (xi 35) (xa 32) (xs (x3 + 1).toNatClampNeg) (xs (x3 + 2).toNatClampNeg) (r, c1, c2, c3, c4, c5, c6, c7, c8, c9, c10, c11, c12) hq1 H.size) rfl rfl ⟨(Nat.le_of_ble_eq_true rfl), (Nat.le_of_ble_eq_true rfl)⟩ (preV_of C hP hD [0, 6, 7, 8, 9, 10, 11, 15, 16, 17, 19, 20, 21, 27, 28, 29, 30, 31, 32, 33, 45, 46, 47, 48, 49, 50, 51, 52, 53] rfl (pl_nd pw_39) 0 rfl rfl rfl) rfl hl.1 rfl (Nat.le_of_ble_eq_true rfl) dL_law_1310 ⟨(Nat.le_of_ble_eq_true rfl), (Nat.le_of_ble_eq_true rfl)⟩) hP hD hS hA [0, 6, 7, 8, 9, 10, 11, 15, 16, 17, 19, 20, 21, 27, 28, 29, 30, 31, 32, 33, 45, 46, 47, 48, 49, 50, 51, 52, 53] [1, 2, 3, 4, 5, 12, 13, 14, 18, 22, 23, 24, 25, 26, 34, 35, 36, 37, 38, 39, 40, 41, 42, 43, 44, 54, 55, 56, 57, 58, 59, 60, 61, 62, 63, 64, 65, 66, 67, 68, 69, 70] rfl rfl rfl rfl pw_39 (fun H locs hP hS => ?_)
  have hD : va_D (fun q : Nat => s.heap.size ≤ q) (wl_law cA a b (va_up (va_up xi 0 c1) 1 c2) (va_up (va_up (va_up (va_up (va_up (va_up (va_up (va_up (va_up xa 18 c3) 19 c4) 20 c5) 21 c6) 22 c8) 29 c9) 30 c10) 31 c11) 32 c12) xl (va_up xm 0 c7) mi ma) := vd_a hD rfl
  refine lv_aload_n (pc := 1313) hx hb dL_law_1313 rfl (lv_at hl 2 rfl) ?_
  refine lv_aload_n (pc := 1314) hx hb dL_law_1314 rfl (lv_at hl 0 rfl) ?_
  refine lv_iload_n (pc := 1315) hx hb dL_law_1315 rfl (lv_at hl 3 rfl) ?_
  refine lv_iconst (pc := 1316) (v := 1) hx hb dL_law_1316 ic_1 ?_
  refine lv_iadd (pc := 1317) hx hb dL_law_1317 ?_
  refine va_sld (pc := 1318) hx hb hX hbl hbA hS hi1 dL_law_1318 ?_
  refine lv_aload_n (pc := 1319) hx hb dL_law_1319 rfl (lv_at hl 0 rfl) ?_
  refine lv_iload_n (pc := 1320) hx hb dL_law_1320 rfl (lv_at hl 3 rfl) ?_
  refine lv_iconst (pc := 1321) (v := 2) hx hb dL_law_1321 ic_2 ?_
  refine lv_iadd (pc := 1322) hx hb dL_law_1322 ?_
  refine va_sld (pc := 1323) hx hb hX hbl hbA hS hi2 dL_law_1323 ?_
  refine fin2_i (wl_law cA a b (va_up (va_up xi 0 c1) 1 c2) (va_up (va_up (va_up (va_up (va_up (va_up (va_up (va_up (va_up xa 18 c3) 19 c4) 20 c5) 21 c6) 22 c8) 29 c9) 30 c10) 31 c11) 32 c12) xl (va_up xm 0 c7) (va_up (va_up (va_up (va_up mi 0 d1) 1 d2) 2 d3) 3 d4) (va_up (va_up (va_up (va_up (va_up (va_up ma 2 d5) 6 d6) 7 d7) 11 d8) 12 d9) 13 d10)) (run_V (rest := [.int r]) (pc := 1324) (As := [.int (xs (x3 + 1).toNatClampNeg), .int (xs (x3 + 2).toNatClampNeg)]) C mf_L_159 (c_X9_write l D cA b (mi 0) (mi 1) (mi 2) (mi 3) (mi 4) (mi 5) (mi 6) (mi 7) (mi 8) (ma 0) (ma 1) (ma 2) (ma 4) (ma 5) (ma 6) (ma 7) (ma 8) (ma 9) (ma 10) (ma 11) (ma 12) (ma 13) (xs (x3 + 1).toNatClampNeg) (xs (x3 + 2).toNatClampNeg) (r, d1, d2, d3, d4, d5, d6, d7, d8, d9, d10) hq2 H.size) rfl rfl ⟨(Nat.le_of_ble_eq_true rfl), (Nat.le_of_ble_eq_true rfl)⟩ (preV_of C hP hD [54, 55, 56, 57, 59, 60, 61, 62, 63, 64, 65, 66, 67, 68] rfl (pl_nd pw_40) 0 rfl rfl rfl) rfl hl.1 rfl (Nat.le_of_ble_eq_true rfl) dL_law_1324 ⟨(Nat.le_of_ble_eq_true rfl), (Nat.le_of_ble_eq_true rfl)⟩) hP hD hS hA [54, 55, 56, 57, 59, 60, 61, 62, 63, 64, 65, 66, 67, 68] [0, 1, 2, 3, 4, 5, 6, 7, 8, 9, 10, 11, 12, 13, 14, 15, 16, 17, 18, 19, 20, 21, 22, 23, 24, 25, 26, 27, 28, 29, 30, 31, 32, 33, 34, 35, 36, 37, 38, 39, 40, 41, 42, 43, 44, 45, 46, 47, 48, 49, 50, 51, 52, 53, 58, 69, 70] rfl rfl rfl rfl pw_40 (fun H locs hP hS => ?_)
  have hD : va_D (fun q : Nat => s.heap.size ≤ q) (wl_law cA a b (va_up (va_up xi 0 c1) 1 c2) (va_up (va_up (va_up (va_up (va_up (va_up (va_up (va_up (va_up xa 18 c3) 19 c4) 20 c5) 21 c6) 22 c8) 29 c9) 30 c10) 31 c11) 32 c12) xl (va_up xm 0 c7) (va_up (va_up (va_up (va_up mi 0 d1) 1 d2) 2 d3) 3 d4) (va_up (va_up (va_up (va_up (va_up (va_up ma 2 d5) 6 d6) 7 d7) 11 d8) 12 d9) 13 d10)) := vd_a hD rfl
  refine lv_icmp_eq (pc := 1327) (tgt := 1369) hx hb dL_law_1327 (by decide) (fun hc => ?_) (fun hc => absurd rfl hc)
  exact hn (va_up (va_up xi 0 c1) 1 c2) (va_up (va_up (va_up (va_up (va_up (va_up (va_up (va_up (va_up xa 18 c3) 19 c4) 20 c5) 21 c6) 22 c8) 29 c9) 30 c10) 31 c11) 32 c12) xl (va_up xm 0 c7) (va_up (va_up (va_up (va_up mi 0 d1) 1 d2) 2 d3) 3 d4) (va_up (va_up (va_up (va_up (va_up (va_up ma 2 d5) 6 d6) 7 d7) 11 d8) 12 d9) 13 d10) hrel H locs ls hP hD hS hl
set_option maxHeartbeats 4000000 in
set_option maxRecDepth 100000 in
theorem lc_35 {p : Program} {l : Launch} {e : Env} {s : State} {m : MethodId} {below : List Frame} {meth : Method} {c : Code} {D : va_G} {cA : Nat → ClassId} {bs L : Nat} {xs : Nat → Int32} {Q : State → Prop} (C : Cx RL code 4 D cA p s m #[Value.ref bs] c) (hA : ∀ q, s.heap.size ≤ q → (fun q : Nat => s.heap.size ≤ q) q) (hX : va_X bs L xs s s.heap) (hbl : bs < s.heap.size) (hbA : ¬ (fun q : Nat => s.heap.size ≤ q) bs) {x3 : Int32} (hi1 : vp_in (x3 + 1) L) (hi2 : vp_in (x3 + 2) L) (hi3 : vp_in (x3 + 3) L) (hi4 : vp_in (x3 + 4) L) (hi5 : vp_in (x3 + 5) L) (a b : Nat → Nat) (xi : Nat → Int32) (xa : Nat → Nat → Int32) (xl : Nat → Int64) (xm : Nat → Nat → Int64) (mi : Nat → Int32) (ma : Nat → Nat → Int32) (h : Rel xi xa xl xm mi ma) (hn : ∀ (xi : Nat → Int32) (xa : Nat → Nat → Int32) (xl : Nat → Int64) (xm : Nat → Nat → Int64) (mi : Nat → Int32) (ma : Nat → Nat → Int32), Rel xi xa xl xm mi ma → At p l e room_1 s m #[Value.ref bs] below meth c D (fun q : Nat => s.heap.size ≤ q) 71 2515 Q 4 1369 (wl_law cA a b xi xa xl xm mi ma) [(0, .ref bs), (1, .ref (a 0)), (2, .ref (b 0)), (3, .int x3)] []) : At p l e room_1 s m #[Value.ref bs] below meth c D (fun q : Nat => s.heap.size ≤ q) 71 2515 Q 4 1332 (wl_law cA a b xi xa xl xm mi ma) [(0, .ref bs), (1, .ref (a 0)), (2, .ref (b 0)), (3, .int x3)] [] := by
  intro H locs ls hP hD hS hl
  have hx := C.1
  have hb := C.2.1
  have hown := C.2.2.2.1
  have hts := C.2.2.2.2.1
  obtain ⟨r, d1, d2, d3, d4, d5, d6, d7, d8, hq1, hq2, hrel⟩ := sim_count h (xs (x3 + 1).toNatClampNeg)
  refine lv_aload_n (pc := 1332) hx hb dL_law_1332 rfl (lv_at hl 1 rfl) ?_
  refine lv_aload_n (pc := 1333) hx hb dL_law_1333 rfl (lv_at hl 0 rfl) ?_
  refine lv_iload_n (pc := 1334) hx hb dL_law_1334 rfl (lv_at hl 3 rfl) ?_
  refine lv_iconst (pc := 1335) (v := 1) hx hb dL_law_1335 ic_1 ?_
  refine lv_iadd (pc := 1336) hx hb dL_law_1336 ?_
  refine va_sld (pc := 1337) hx hb hX hbl hbA hS hi1 dL_law_1337 ?_
  refine fin2_i (wl_law cA a b xi xa xl xm mi ma) (run_V (rest := []) (pc := 1338) (As := [.int (xs (x3 + 1).toNatClampNeg)]) C mf_L_160 (c_X8_count l D cA a (xi 0) (xi 1) (xi 2) (xi 3) (xi 4) (xi 5) (xi 6) (xi 7) (xi 8) (xi 9) (xi 10) (xi 11) (xi 12) (xs (x3 + 1).toNatClampNeg) r hq1 H.size) rfl rfl ⟨(Nat.le_of_ble_eq_true rfl), (Nat.le_of_ble_eq_true rfl)⟩ (preV_of C hP hD [0, 1, 2, 4, 6, 12, 15, 19, 23] rfl (pl_nd pw_41) 0 rfl rfl rfl) rfl hl.1 rfl (Nat.le_of_ble_eq_true rfl) dL_law_1338 ⟨(Nat.le_of_ble_eq_true rfl), (Nat.le_of_ble_eq_true rfl)⟩) hP hD hS hA [0, 1, 2, 4, 6, 12, 15, 19, 23] [3, 5, 7, 8, 9, 10, 11, 13, 14, 16, 17, 18, 20, 21, 22, 24, 25, 26, 27, 28, 29, 30, 31, 32, 33, 34, 35, 36, 37, 38, 39, 40, 41, 42, 43, 44, 45, 46, 47, 48, 49, 50, 51, 52, 53, 54, 55, 56, 57, 58, 59, 60, 61, 62, 63, 64, 65, 66, 67, 68, 69, 70] rfl rfl rfl rfl pw_41 (fun H locs hP hS => ?_)
  have hD : va_D (fun q : Nat => s.heap.size ≤ q) (wl_law cA a b xi xa xl xm mi ma) := vd_a hD rfl
  refine lv_aload_n (pc := 1341) hx hb dL_law_1341 rfl (lv_at hl 2 rfl) ?_
  refine lv_aload_n (pc := 1342) hx hb dL_law_1342 rfl (lv_at hl 0 rfl) ?_
  refine lv_iload_n (pc := 1343) hx hb dL_law_1343 rfl (lv_at hl 3 rfl) ?_
  refine lv_iconst (pc := 1344) (v := 1) hx hb dL_law_1344 ic_1 ?_
  refine lv_iadd (pc := 1345) hx hb dL_law_1345 ?_
  refine va_sld (pc := 1346) hx hb hX hbl hbA hS hi1 dL_law_1346 ?_
  refine fin2_i (wl_law cA a b xi xa xl xm (va_up (va_up (va_up mi 1 d1) 2 d2) 3 d3) (va_up (va_up (va_up (va_up (va_up ma 6 d4) 7 d5) 11 d6) 12 d7) 13 d8)) (run_V (rest := [.int r]) (pc := 1347) (As := [.int (xs (x3 + 1).toNatClampNeg)]) C mf_L_163 (c_X9_count l D cA b (mi 0) (mi 1) (mi 2) (mi 3) (mi 4) (mi 5) (mi 6) (mi 7) (mi 8) (ma 4) (ma 5) (ma 6) (ma 7) (ma 8) (ma 9) (ma 10) (ma 11) (ma 12) (ma 13) (xs (x3 + 1).toNatClampNeg) (r, d1, d2, d3, d4, d5, d6, d7, d8) hq2 H.size) rfl rfl ⟨(Nat.le_of_ble_eq_true rfl), (Nat.le_of_ble_eq_true rfl)⟩ (preV_of C hP hD [54, 59, 60, 61, 62, 63, 64, 65, 66, 67, 68] rfl (pl_nd pw_20) 0 rfl rfl rfl) rfl hl.1 rfl (Nat.le_of_ble_eq_true rfl) dL_law_1347 ⟨(Nat.le_of_ble_eq_true rfl), (Nat.le_of_ble_eq_true rfl)⟩) hP hD hS hA [54, 59, 60, 61, 62, 63, 64, 65, 66, 67, 68] [0, 1, 2, 3, 4, 5, 6, 7, 8, 9, 10, 11, 12, 13, 14, 15, 16, 17, 18, 19, 20, 21, 22, 23, 24, 25, 26, 27, 28, 29, 30, 31, 32, 33, 34, 35, 36, 37, 38, 39, 40, 41, 42, 43, 44, 45, 46, 47, 48, 49, 50, 51, 52, 53, 55, 56, 57, 58, 69, 70] rfl rfl rfl rfl pw_20 (fun H locs hP hS => ?_)
  have hD : va_D (fun q : Nat => s.heap.size ≤ q) (wl_law cA a b xi xa xl xm (va_up (va_up (va_up mi 1 d1) 2 d2) 3 d3) (va_up (va_up (va_up (va_up (va_up ma 6 d4) 7 d5) 11 d6) 12 d7) 13 d8)) := vd_a hD rfl
  refine lv_icmp_eq (pc := 1350) (tgt := 1369) hx hb dL_law_1350 (by decide) (fun hc => ?_) (fun hc => absurd rfl hc)
  exact hn xi xa xl xm (va_up (va_up (va_up mi 1 d1) 2 d2) 3 d3) (va_up (va_up (va_up (va_up (va_up ma 6 d4) 7 d5) 11 d6) 12 d7) 13 d8) hrel H locs ls hP hD hS hl
set_option maxHeartbeats 4000000 in
set_option maxRecDepth 100000 in
theorem lc_36 {p : Program} {l : Launch} {e : Env} {s : State} {m : MethodId} {below : List Frame} {meth : Method} {c : Code} {D : va_G} {cA : Nat → ClassId} {bs L : Nat} {xs : Nat → Int32} {Q : State → Prop} (C : Cx RL code 4 D cA p s m #[Value.ref bs] c) (hA : ∀ q, s.heap.size ≤ q → (fun q : Nat => s.heap.size ≤ q) q) (hX : va_X bs L xs s s.heap) (hbl : bs < s.heap.size) (hbA : ¬ (fun q : Nat => s.heap.size ≤ q) bs) {x3 : Int32} (hi1 : vp_in (x3 + 1) L) (hi2 : vp_in (x3 + 2) L) (hi3 : vp_in (x3 + 3) L) (hi4 : vp_in (x3 + 4) L) (hi5 : vp_in (x3 + 5) L) (a b : Nat → Nat) (xi : Nat → Int32) (xa : Nat → Nat → Int32) (xl : Nat → Int64) (xm : Nat → Nat → Int64) (mi : Nat → Int32) (ma : Nat → Nat → Int32) (h : Rel xi xa xl xm mi ma) (hn : ∀ (xi : Nat → Int32) (xa : Nat → Nat → Int32) (xl : Nat → Int64) (xm : Nat → Nat → Int64) (mi : Nat → Int32) (ma : Nat → Nat → Int32), Rel xi xa xl xm mi ma → At p l e room_1 s m #[Value.ref bs] below meth c D (fun q : Nat => s.heap.size ≤ q) 71 2515 Q 4 1369 (wl_law cA a b xi xa xl xm mi ma) [(0, .ref bs), (1, .ref (a 0)), (2, .ref (b 0)), (3, .int x3)] []) : At p l e room_1 s m #[Value.ref bs] below meth c D (fun q : Nat => s.heap.size ≤ q) 71 2515 Q 4 1355 (wl_law cA a b xi xa xl xm mi ma) [(0, .ref bs), (1, .ref (a 0)), (2, .ref (b 0)), (3, .int x3)] [] := by
  intro H locs ls hP hD hS hl
  have hx := C.1
  have hb := C.2.1
  have hown := C.2.2.2.1
  have hts := C.2.2.2.2.1
  obtain ⟨r, c1, c2, c3, c4, c5, c6, c7, c8, c9, c10, c11, c12, c13, c14, c15, c16, c17, c18, c19, c20, c21, c22, c23, c24, c25, d1, d2, d3, d4, d5, d6, d7, d8, d9, d10, d11, d12, d13, d14, hq1, hq2, hrel⟩ := sim_digest h 
  refine lv_aload_n (pc := 1355) hx hb dL_law_1355 rfl (lv_at hl 1 rfl) ?_
  refine fin2_l (wl_law cA a b (va_up (va_up (va_up (va_up (va_up (va_up (va_up (va_up xi 0 c1) 17 c8) 18 c9) 19 c10) 20 c11) 21 c18) 22 c19) 23 c20) (va_up (va_up (va_up (va_up (va_up (va_up (va_up (va_up (va_up (va_up (va_up xa 18 c2) 19 c3) 20 c4) 21 c5) 22 c7) 23 c12) 24 c13) 25 c14) 26 c15) 27 c17) 28 c25) (va_up (va_up (va_up xl 0 c21) 1 c22) 2 c23) (va_up (va_up (va_up xm 0 c6) 1 c16) 2 c24) mi ma) (run_V (rest := []) (pc := 1356) (As := []) C mf_L_164 (c_X8_digest l D cA a (xi 0) (xi 1) (xi 2) (xi 3) (xi 4) (xi 5) (xi 6) (xi 7) (xa 2) (xa 3) (xa 4) (xa 5) (xa 6) (xi 8) (xi 9) (xa 7) (xa 8) (xi 10) (xa 9) (xa 10) (xi 11) (xa 12) (xa 13) (xi 12) (xa 15) (xa 16) (xa 17) (xi 13) (xi 14) (xi 15) (xi 16) (xa 18) (xa 19) (xa 20) (xa 21) (xm 0) (xa 22) (xi 17) (xi 18) (xi 19) (xi 20) (xa 23) (xa 24) (xa 25) (xa 26) (xm 1) (xa 27) (xi 21) (xi 22) (xi 23) (xl 0) (xl 1) (xl 2) (xm 2) (xa 28)  (r, c1, c2, c3, c4, c5, c6, c7, c8, c9, c10, c11, c12, c13, c14, c15, c16, c17, c18, c19, c20, c21, c22, c23, c24, c25) hq1 H.size) rfl rfl ⟨(Nat.le_of_ble_eq_true rfl), (Nat.le_of_ble_eq_true rfl)⟩ (preV_of C hP hD [0, 1, 2, 4, 6, 7, 8, 9, 10, 11, 12, 13, 14, 15, 16, 17, 19, 20, 21, 23, 24, 25, 26, 27, 28, 29, 30, 31, 32, 33, 34, 35, 36, 37, 38, 39, 40, 41, 42, 43, 44] rfl (pl_nd pw_42) 0 rfl rfl rfl) rfl hl.1 rfl (Nat.le_of_ble_eq_true rfl) dL_law_1356 ⟨(Nat.le_of_ble_eq_true rfl), (Nat.le_of_ble_eq_true rfl)⟩) hP hD hS hA [0, 1, 2, 4, 6, 7, 8, 9, 10, 11, 12, 13, 14, 15, 16, 17, 19, 20, 21, 23, 24, 25, 26, 27, 28, 29, 30, 31, 32, 33, 34, 35, 36, 37, 38, 39, 40, 41, 42, 43, 44] [3, 5, 18, 22, 45, 46, 47, 48, 49, 50, 51, 52, 53, 54, 55, 56, 57, 58, 59, 60, 61, 62, 63, 64, 65, 66, 67, 68, 69, 70] rfl rfl rfl rfl pw_42 (fun H locs hP hS => ?_)
  have hD : va_D (fun q : Nat => s.heap.size ≤ q) (wl_law cA a b (va_up (va_up (va_up (va_up (va_up (va_up (va_up (va_up xi 0 c1) 17 c8) 18 c9) 19 c10) 20 c11) 21 c18) 22 c19) 23 c20) (va_up (va_up (va_up (va_up (va_up (va_up (va_up (va_up (va_up (va_up (va_up xa 18 c2) 19 c3) 20 c4) 21 c5) 22 c7) 23 c12) 24 c13) 25 c14) 26 c15) 27 c17) 28 c25) (va_up (va_up (va_up xl 0 c21) 1 c22) 2 c23) (va_up (va_up (va_up xm 0 c6) 1 c16) 2 c24) mi ma) := vd_a hD rfl
  refine lv_aload_n (pc := 1359) hx hb dL_law_1359 rfl (lv_at hl 2 rfl) ?_
  refine fin2_l (wl_law cA a b (va_up (va_up (va_up (va_up (va_up (va_up (va_up (va_up xi 0 c1) 17 c8) 18 c9) 19 c10) 20 c11) 21 c18) 22 c19) 23 c20) (va_up (va_up (va_up (va_up (va_up (va_up (va_up (va_up (va_up (va_up (va_up xa 18 c2) 19 c3) 20 c4) 21 c5) 22 c7) 23 c12) 24 c13) 25 c14) 26 c15) 27 c17) 28 c25) (va_up (va_up (va_up xl 0 c21) 1 c22) 2 c23) (va_up (va_up (va_up xm 0 c6) 1 c16) 2 c24) (va_up (va_up (va_up (va_up (va_up (va_up mi 1 d1) 2 d2) 3 d3) 4 d4) 6 d5) 8 d6) (va_up (va_up (va_up (va_up (va_up (va_up (va_up (va_up ma 6 d7) 7 d8) 8 d9) 9 d10) 11 d11) 12 d12) 13 d13) 15 d14)) (run_V (rest := [.long r]) (pc := 1360) (As := []) C mf_L_168 (c_X9_digest l D cA b (mi 0) (mi 1) (mi 2) (mi 3) (mi 4) (mi 5) (mi 6) (mi 7) (mi 8) (ma 4) (ma 5) (ma 6) (ma 7) (ma 8) (ma 9) (ma 10) (ma 11) (ma 12) (ma 13) (ma 14) (ma 15)  (r, d1, d2, d3, d4, d5, d6, d7, d8, d9, d10, d11, d12, d13, d14) hq2 H.size) rfl rfl ⟨(Nat.le_of_ble_eq_true rfl), (Nat.le_of_ble_eq_true rfl)⟩ (preV_of C hP hD [54, 59, 60, 61, 62, 63, 64, 65, 66, 67, 68, 69, 70] rfl (pl_nd pw_31) 0 rfl rfl rfl) rfl hl.1 rfl (Nat.le_of_ble_eq_true rfl) dL_law_1360 ⟨(Nat.le_of_ble_eq_true rfl), (Nat.le_of_ble_eq_true rfl)⟩) hP hD hS hA [54, 59, 60, 61, 62, 63, 64, 65, 66, 67, 68, 69, 70] [0, 1, 2, 3, 4, 5, 6, 7, 8, 9, 10, 11, 12, 13, 14, 15, 16, 17, 18, 19, 20, 21, 22, 23, 24, 25, 26, 27, 28, 29, 30, 31, 32, 33, 34, 35, 36, 37, 38, 39, 40, 41, 42, 43, 44, 45, 46, 47, 48, 49, 50, 51, 52, 53, 55, 56, 57, 58] rfl rfl rfl rfl pw_31 (fun H locs hP hS => ?_)
  have hD : va_D (fun q : Nat => s.heap.size ≤ q) (wl_law cA a b (va_up (va_up (va_up (va_up (va_up (va_up (va_up (va_up xi 0 c1) 17 c8) 18 c9) 19 c10) 20 c11) 21 c18) 22 c19) 23 c20) (va_up (va_up (va_up (va_up (va_up (va_up (va_up (va_up (va_up (va_up (va_up xa 18 c2) 19 c3) 20 c4) 21 c5) 22 c7) 23 c12) 24 c13) 25 c14) 26 c15) 27 c17) 28 c25) (va_up (va_up (va_up xl 0 c21) 1 c22) 2 c23) (va_up (va_up (va_up xm 0 c6) 1 c16) 2 c24) (va_up (va_up (va_up (va_up (va_up (va_up mi 1 d1) 2 d2) 3 d3) 4 d4) 6 d5) 8 d6) (va_up (va_up (va_up (va_up (va_up (va_up (va_up (va_up ma 6 d7) 7 d8) 8 d9) 9 d10) 11 d11) 12 d12) 13 d13) 15 d14)) := vd_a hD rfl
  refine W.lcmp (pc := 1363) hx hb dL_law_1363 ?_
  refine lv_if_eq (pc := 1364) (tgt := 1369) hx hb dL_law_1364 (by decide) (fun hc => ?_) (fun hc => absurd (lg_self r) hc)
  exact hn (va_up (va_up (va_up (va_up (va_up (va_up (va_up (va_up xi 0 c1) 17 c8) 18 c9) 19 c10) 20 c11) 21 c18) 22 c19) 23 c20) (va_up (va_up (va_up (va_up (va_up (va_up (va_up (va_up (va_up (va_up (va_up xa 18 c2) 19 c3) 20 c4) 21 c5) 22 c7) 23 c12) 24 c13) 25 c14) 26 c15) 27 c17) 28 c25) (va_up (va_up (va_up xl 0 c21) 1 c22) 2 c23) (va_up (va_up (va_up xm 0 c6) 1 c16) 2 c24) (va_up (va_up (va_up (va_up (va_up (va_up mi 1 d1) 2 d2) 3 d3) 4 d4) 6 d5) 8 d6) (va_up (va_up (va_up (va_up (va_up (va_up (va_up (va_up ma 6 d7) 7 d8) 8 d9) 9 d10) 11 d11) 12 d12) 13 d13) 15 d14) hrel H locs ls hP hD hS hl
