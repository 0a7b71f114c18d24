set_option maxHeartbeats 4000000 in
set_option maxRecDepth 100000 in
theorem lc_0 {p : Program} {l : Launch} {e : Env} {s : State} {m : MethodId} {below : List Frame} {meth : Method} {c : Code} {D : va_G} {cA : Nat → ClassId} {bs L : Nat} {xs : Nat → Int32} {Q : State → Prop} (C : Cx RL code 4 D cA p s m #[Value.ref bs] c) (hA : ∀ q, s.heap.size ≤ q → (fun q : Nat => s.heap.size ≤ q) q) (hX : va_X bs L xs s s.heap) (hbl : bs < s.heap.size) (hbA : ¬ (fun q : Nat => s.heap.size ≤ q) bs) {x3 : Int32} (hi1 : vp_in (x3 + 1) L) (hi2 : vp_in (x3 + 2) L) (hi3 : vp_in (x3 + 3) L) (hi4 : vp_in (x3 + 4) L) (hi5 : vp_in (x3 + 5) L) (a b : Nat → Nat) (xi : Nat → Int32) (xa : Nat → Nat → Int32) (xl : Nat → Int64) (xm : Nat → Nat → Int64) (mi : Nat → Int32) (ma : Nat → Nat → Int32) (h : Rel xi xa xl xm mi ma) (hn : ∀ (xi : Nat → Int32) (xa : Nat → Nat → Int32) (xl : Nat → Int64) (xm : Nat → Nat → Int64) (mi : Nat → Int32) (ma : Nat → Nat → Int32), Rel xi xa xl xm mi ma → At p l e room_1 s m #[Value.ref bs] below meth c D (fun q : Nat => s.heap.size ≤ q) 71 2515 Q 4 1369 (wl_law cA a b xi xa xl xm mi ma) [(0, .ref bs), (1, .ref (a 0)), (2, .ref (b 0)), (3, .int x3)] []) : At p l e room_1 s m #[Value.ref bs] below meth c D (fun q : Nat => s.heap.size ≤ q) 71 2515 Q 4 196 (wl_law cA a b xi xa xl xm mi ma) [(0, .ref bs), (1, .ref (a 0)), (2, .ref (b 0)), (3, .int x3)] [] := by
  intro H locs ls hP hD hS hl
  have hx := C.1
  have hb := C.2.1
  have hown := C.2.2.2.1
  have hts := C.2.2.2.2.1
  obtain ⟨r, c1, c2, c3, c4, c5, c6, c7, c8, c9, c10, c11, c12, c13, c14, c15, c16, c17, c18, d1, d2, hq1, hq2, hrel⟩ := sim_type h (xs (x3 + 1).toNatClampNeg) (xs (x3 + 2).toNatClampNeg)
  refine lv_aload_n (pc := 196) hx hb dL_law_196 rfl (lv_at hl 1 rfl) ?_
  refine lv_aload_n (pc := 197) hx hb dL_law_197 rfl (lv_at hl 0 rfl) ?_
  refine lv_iload_n (pc := 198) hx hb dL_law_198 rfl (lv_at hl 3 rfl) ?_
  refine lv_iconst (pc := 199) (v := 1) hx hb dL_law_199 ic_1 ?_
  refine lv_iadd (pc := 200) hx hb dL_law_200 ?_
  refine va_sld (pc := 201) hx hb hX hbl hbA hS hi1 dL_law_201 ?_
  refine lv_aload_n (pc := 202) hx hb dL_law_202 rfl (lv_at hl 0 rfl) ?_
  refine lv_iload_n (pc := 203) hx hb dL_law_203 rfl (lv_at hl 3 rfl) ?_
  refine lv_iconst (pc := 204) (v := 2) hx hb dL_law_204 ic_2 ?_
  refine lv_iadd (pc := 205) hx hb dL_law_205 ?_
  refine va_sld (pc := 206) hx hb hX hbl hbA hS hi2 dL_law_206 ?_
  refine fin2_i (wl_law cA a b (va_up (va_up (va_up (va_up (va_up (va_up (va_up (va_up (va_up xi 0 c1) 2 c2) 3 c4) 4 c6) 5 c7) 6 c8) 7 c9) 8 c15) 9 c16) (va_up (va_up (va_up (va_up (va_up (va_up (va_up (va_up (va_up xa 0 c3) 1 c5) 2 c10) 3 c11) 4 c12) 5 c13) 6 c14) 7 c17) 8 c18) xl xm mi ma) (run_V (rest := []) (pc := 207) (As := [.int (xs (x3 + 1).toNatClampNeg), .int (xs (x3 + 2).toNatClampNeg)]) C mf_L_13 (c_X8_type l D cA a (xi 0) (xi 1) (xi 2) (xa 0) (xi 3) (xa 1) (xi 4) (xi 5) (xi 6) (xi 7) (xa 2) (xa 3) (xa 4) (xa 5) (xa 6) (xi 8) (xi 9) (xa 7) (xa 8) (xs (x3 + 1).toNatClampNeg) (xs (x3 + 2).toNatClampNeg) (r, c1, c2, c3, c4, c5, c6, c7, c8, c9, c10, c11, c12, c13, c14, c15, c16, c17, c18) hq1 H.size) rfl rfl ⟨(Nat.le_of_ble_eq_true rfl), (Nat.le_of_ble_eq_true rfl)⟩ (preV_of C hP hD [0, 1, 2, 3, 4, 5, 6, 7, 8, 9, 10, 11, 12, 13, 14] rfl (pl_nd pw_0) 0 rfl rfl rfl) rfl hl.1 rfl (Nat.le_of_ble_eq_true rfl) dL_law_207 ⟨(Nat.le_of_ble_eq_true rfl), (Nat.le_of_ble_eq_true rfl)⟩) hP hD hS hA [0, 1, 2, 3, 4, 5, 6, 7, 8, 9, 10, 11, 12, 13, 14] [15, 16, 17, 18, 19, 20, 21, 22, 23, 24, 25, 26, 27, 28, 29, 30, 31, 32, 33, 34, 35, 36, 37, 38, 39, 40, 41, 42, 43, 44, 45, 46, 47, 48, 49, 50, 51, 52, 53, 54, 55, 56, 57, 58, 59, 60, 61, 62, 63, 64, 65, 66, 67, 68, 69, 70] rfl rfl rfl rfl pw_0 (fun H locs hP hS => ?_)
  have hD : va_D (fun q : Nat => s.heap.size ≤ q) (wl_law cA a b (va_up (va_up (va_up (va_up (va_up (va_up (va_up (va_up (va_up xi 0 c1) 2 c2) 3 c4) 4 c6) 5 c7) 6 c8) 7 c9) 8 c15) 9 c16) (va_up (va_up (va_up (va_up (va_up (va_up (va_up (va_up (va_up xa 0 c3) 1 c5) 2 c10) 3 c11) 4 c12) 5 c13) 6 c14) 7 c17) 8 c18) xl xm mi ma) := vd_a hD rfl
  refine lv_aload_n (pc := 210) hx hb dL_law_210 rfl (lv_at hl 2 rfl) ?_
  refine lv_aload_n (pc := 211) hx hb dL_law_211 rfl (lv_at hl 0 rfl) ?_
  refine lv_iload_n (pc := 212) hx hb dL_law_212 rfl (lv_at hl 3 rfl) ?_
  refine lv_iconst (pc := 213) (v := 1) hx hb dL_law_213 ic_1 ?_
  refine lv_iadd (pc := 214) hx hb dL_law_214 ?_
  refine va_sld (pc := 215) hx hb hX hbl hbA hS hi1 dL_law_215 ?_
  refine lv_aload_n (pc := 216) hx hb dL_law_216 rfl (lv_at hl 0 rfl) ?_
  refine lv_iload_n (pc := 217) hx hb dL_law_217 rfl (lv_at hl 3 rfl) ?_
  refine lv_iconst (pc := 218) (v := 2) hx hb dL_law_218 ic_2 ?_
  refine lv_iadd (pc := 219) hx hb dL_law_219 ?_
  refine va_sld (pc := 220) hx hb hX hbl hbA hS hi2 dL_law_220 ?_
  refine fin2_i (wl_law cA a b (va_up (va_up (va_up (va_up (va_up (va_up (va_up (va_up (va_up xi 0 c1) 2 c2) 3 c4) 4 c6) 5 c7) 6 c8) 7 c9) 8 c15) 9 c16) (va_up (va_up (va_up (va_up (va_up (va_up (va_up (va_up (va_up xa 0 c3) 1 c5) 2 c10) 3 c11) 4 c12) 5 c13) 6 c14) 7 c17) 8 c18) xl xm mi (va_up (va_up ma 4 d1) 5 d2)) (run_V (rest := [.int r]) (pc := 221) (As := [.int (xs (x3 + 1).toNatClampNeg), .int (xs (x3 + 2).toNatClampNeg)]) C mf_L_17 (c_X9_type l D cA b (mi 0) (mi 1) (mi 2) (mi 3) (mi 4) (mi 5) (mi 6) (mi 7) (mi 8) (ma 4) (ma 5) (xs (x3 + 1).toNatClampNeg) (xs (x3 + 2).toNatClampNeg) (r, d1, d2) hq2 H.size) rfl rfl ⟨(Nat.le_of_ble_eq_true rfl), (Nat.le_of_ble_eq_true rfl)⟩ (preV_of C hP hD [54, 59, 60] rfl (pl_nd pw_1) 0 rfl rfl rfl) rfl hl.1 rfl (Nat.le_of_ble_eq_true rfl) dL_law_221 ⟨(Nat.le_of_ble_eq_true rfl), (Nat.le_of_ble_eq_true rfl)⟩) hP hD hS hA [54, 59, 60] [0, 1, 2, 3, 4, 5, 6, 7, 8, 9, 10, 11, 12, 13, 14, 15, 16, 17, 18, 19, 20, 21, 22, 23, 24, 25, 26, 27, 28, 29, 30, 31, 32, 33, 34, 35, 36, 37, 38, 39, 40, 41, 42, 43, 44, 45, 46, 47, 48, 49, 50, 51, 52, 53, 55, 56, 57, 58, 61, 62, 63, 64, 65, 66, 67, 68, 69, 70] rfl rfl rfl rfl pw_1 (fun H locs hP hS => ?_)
  have hD : va_D (fun q : Nat => s.heap.size ≤ q) (wl_law cA a b (va_up (va_up (va_up (va_up (va_up (va_up (va_up (va_up (va_up xi 0 c1) 2 c2) 3 c4) 4 c6) 5 c7) 6 c8) 7 c9) 8 c15) 9 c16) (va_up (va_up (va_up (va_up (va_up (va_up (va_up (va_up (va_up xa 0 c3) 1 c5) 2 c10) 3 c11) 4 c12) 5 c13) 6 c14) 7 c17) 8 c18) xl xm mi (va_up (va_up ma 4 d1) 5 d2)) := vd_a hD rfl
  refine lv_icmp_eq (pc := 224) (tgt := 1369) hx hb dL_law_224 (by decide) (fun hc => ?_) (fun hc => absurd rfl hc)
  exact hn (va_up (va_up (va_up (va_up (va_up (va_up (va_up (va_up (va_up xi 0 c1) 2 c2) 3 c4) 4 c6) 5 c7) 6 c8) 7 c9) 8 c15) 9 c16) (va_up (va_up (va_up (va_up (va_up (va_up (va_up (va_up (va_up xa 0 c3) 1 c5) 2 c10) 3 c11) 4 c12) 5 c13) 6 c14) 7 c17) 8 c18) xl xm mi (va_up (va_up ma 4 d1) 5 d2) hrel H locs ls hP hD hS hl
set_option maxHeartbeats 4000000 in
set_option maxRecDepth 100000 in
theorem lc_1 {p : Program} {l : Launch} {e : Env} {s : State} {m : MethodId} {below : List Frame} {meth : Method} {c : Code} {D : va_G} {cA : Nat → ClassId} {bs L : Nat} {xs : Nat → Int32} {Q : State → Prop} (C : Cx RL code 4 D cA p s m #[Value.ref bs] c) (hA : ∀ q, s.heap.size ≤ q → (fun q : Nat => s.heap.size ≤ q) q) (hX : va_X bs L xs s s.heap) (hbl : bs < s.heap.size) (hbA : ¬ (fun q : Nat => s.heap.size ≤ q) bs) {x3 : Int32} (hi1 : vp_in (x3 + 1) L) (hi2 : vp_in (x3 + 2) L) (hi3 : vp_in (x3 + 3) L) (hi4 : vp_in (x3 + 4) L) (hi5 : vp_in (x3 + 5) L) (a b : Nat → Nat) (xi : Nat → Int32) (xa : Nat → Nat → Int32) (xl : Nat → Int64) (xm : Nat → Nat → Int64) (mi : Nat → Int32) (ma : Nat → Nat → Int32) (h : Rel xi xa xl xm mi ma) (hn : ∀ (xi : Nat → Int32) (xa : Nat → Nat → Int32) (xl : Nat → Int64) (xm : Nat → Nat → Int64) (mi : Nat → Int32) (ma : Nat → Nat → Int32), Rel xi xa xl xm mi ma → At p l e room_1 s m #[Value.ref bs] below meth c D (fun q : Nat => s.heap.size ≤ q) 71 2515 Q 4 1369 (wl_law cA a b xi xa xl xm mi ma) [(0, .ref bs), (1, .ref (a 0)), (2, .ref (b 0)), (3, .int x3)] []) : At p l e room_1 s m #[Value.ref bs] below meth c D (fun q : Nat => s.heap.size ≤ q) 71 2515 Q 4 229 (wl_law cA a b xi xa xl xm mi ma) [(0, .ref bs), (1, .ref (a 0)), (2, .ref (b 0)), (3, .int x3)] [] := by
  intro H locs ls hP hD hS hl
  have hx := C.1
  have hb := C.2.1
  have hown := C.2.2.2.1
  have hts := C.2.2.2.2.1
  obtain ⟨r, c1, c2, c3, c4, c5, c6, c7, c8, c9, c10, c11, c12, c13, c14, c15, c16, d1, hq1, hq2, hrel⟩ := sim_wipe h (xs (x3 + 1).toNatClampNeg)
  refine lv_aload_n (pc := 229) hx hb dL_law_229 rfl (lv_at hl 1 rfl) ?_
  refine lv_aload_n (pc := 230) hx hb dL_law_230 rfl (lv_at hl 0 rfl) ?_
  refine lv_iload_n (pc := 231) hx hb dL_law_231 rfl (lv_at hl 3 rfl) ?_
  refine lv_iconst (pc := 232) (v := 1) hx hb dL_law_232 ic_1 ?_
  refine lv_iadd (pc := 233) hx hb dL_law_233 ?_
  refine va_sld (pc := 234) hx hb hX hbl hbA hS hi1 dL_law_234 ?_
  refine fin2_i (wl_law cA a b (va_up (va_up (va_up (va_up (va_up (va_up (va_up (va_up (va_up xi 0 c1) 2 c2) 3 c3) 4 c4) 5 c5) 6 c6) 7 c7) 8 c13) 9 c14) (va_up (va_up (va_up (va_up (va_up (va_up (va_up xa 2 c8) 3 c9) 4 c10) 5 c11) 6 c12) 7 c15) 8 c16) xl xm mi ma) (run_V (rest := []) (pc := 235) (As := [.int (xs (x3 + 1).toNatClampNeg)]) C mf_L_18 (c_X8_wipe l D cA a (xi 0) (xi 1) (xi 2) (xa 0) (xi 3) (xa 1) (xi 4) (xi 5) (xi 6) (xi 7) (xa 2) (xa 3) (xa 4) (xa 5) (xa 6) (xi 8) (xi 9) (xa 7) (xa 8) (xs (x3 + 1).toNatClampNeg) (r, c1, c2, c3, c4, c5, c6, c7, c8, c9, c10, c11, c12, c13, c14, c15, c16) hq1 H.size) rfl rfl ⟨(Nat.le_of_ble_eq_true rfl), (Nat.le_of_ble_eq_true rfl)⟩ (preV_of C hP hD [0, 1, 2, 3, 4, 5, 6, 7, 8, 9, 10, 11, 12, 13, 14] rfl (pl_nd pw_0) 0 rfl rfl rfl) rfl hl.1 rfl (Nat.le_of_ble_eq_true rfl) dL_law_235 ⟨(Nat.le_of_ble_eq_true rfl), (Nat.le_of_ble_eq_true rfl)⟩) hP hD hS hA [0, 1, 2, 3, 4, 5, 6, 7, 8, 9, 10, 11, 12, 13, 14] [15, 16, 17, 18, 19, 20, 21, 22, 23, 24, 25, 26, 27, 28, 29, 30, 31, 32, 33, 34, 35, 36, 37, 38, 39, 40, 41, 42, 43, 44, 45, 46, 47, 48, 49, 50, 51, 52, 53, 54, 55, 56, 57, 58, 59, 60, 61, 62, 63, 64, 65, 66, 67, 68, 69, 70] rfl rfl rfl rfl pw_0 (fun H locs hP hS => ?_)
  have hD : va_D (fun q : Nat => s.heap.size ≤ q) (wl_law cA a b (va_up (va_up (va_up (va_up (va_up (va_up (va_up (va_up (va_up xi 0 c1) 2 c2) 3 c3) 4 c4) 5 c5) 6 c6) 7 c7) 8 c13) 9 c14) (va_up (va_up (va_up (va_up (va_up (va_up (va_up xa 2 c8) 3 c9) 4 c10) 5 c11) 6 c12) 7 c15) 8 c16) xl xm mi ma) := vd_a hD rfl
  refine lv_aload_n (pc := 238) hx hb dL_law_238 rfl (lv_at hl 2 rfl) ?_
  refine lv_aload_n (pc := 239) hx hb dL_law_239 rfl (lv_at hl 0 rfl) ?_
  refine lv_iload_n (pc := 240) hx hb dL_law_240 rfl (lv_at hl 3 rfl) ?_
  refine lv_iconst (pc := 241) (v := 1) hx hb dL_law_241 ic_1 ?_
  refine lv_iadd (pc := 242) hx hb dL_law_242 ?_
  refine va_sld (pc := 243) hx hb hX hbl hbA hS hi1 dL_law_243 ?_
  refine fin2_i (wl_law cA a b (va_up (va_up (va_up (va_up (va_up (va_up (va_up (va_up (va_up xi 0 c1) 2 c2) 3 c3) 4 c4) 5 c5) 6 c6) 7 c7) 8 c13) 9 c14) (va_up (va_up (va_up (va_up (va_up (va_up (va_up xa 2 c8) 3 c9) 4 c10) 5 c11) 6 c12) 7 c15) 8 c16) xl xm mi (va_up ma 5 d1)) (run_V (rest := [.int r]) (pc := 244) (As := [.int (xs (x3 + 1).toNatClampNeg)]) C mf_L_22 (c_X9_wipe l D cA b (mi 0) (mi 1) (mi 2) (mi 3) (mi 4) (mi 5) (mi 6) (mi 7) (mi 8) (ma 5) (xs (x3 + 1).toNatClampNeg) (r, d1) hq2 H.size) rfl rfl ⟨(Nat.le_of_ble_eq_true rfl), (Nat.le_of_ble_eq_true rfl)⟩ (preV_of C hP hD [54, 60] rfl (pl_nd pw_2) 0 rfl rfl rfl) rfl hl.1 rfl (Nat.le_of_ble_eq_true rfl) dL_law_244 ⟨(Nat.le_of_ble_eq_true rfl), (Nat.le_of_ble_eq_true rfl)⟩) hP hD hS hA [54, 60] [0, 1, 2, 3, 4, 5, 6, 7, 8, 9, 10, 11, 12, 13, 14, 15, 16, 17, 18, 19, 20, 21, 22, 23, 24, 25, 26, 27, 28, 29, 30, 31, 32, 33, 34, 35, 36, 37, 38, 39, 40, 41, 42, 43, 44, 45, 46, 47, 48, 49, 50, 51, 52, 53, 55, 56, 57, 58, 59, 61, 62, 63, 64, 65, 66, 67, 68, 69, 70] rfl rfl rfl rfl pw_2 (fun H locs hP hS => ?_)
  have hD : va_D (fun q : Nat => s.heap.size ≤ q) (wl_law cA a b (va_up (va_up (va_up (va_up (va_up (va_up (va_up (va_up (va_up xi 0 c1) 2 c2) 3 c3) 4 c4) 5 c5) 6 c6) 7 c7) 8 c13) 9 c14) (va_up (va_up (va_up (va_up (va_up (va_up (va_up xa 2 c8) 3 c9) 4 c10) 5 c11) 6 c12) 7 c15) 8 c16) xl xm mi (va_up ma 5 d1)) := vd_a hD rfl
  refine lv_icmp_eq (pc := 247) (tgt := 1369) hx hb dL_law_247 (by decide) (fun hc => ?_) (fun hc => absurd rfl hc)
  exact hn (va_up (va_up (va_up (va_up (va_up (va_up (va_up (va_up (va_up xi 0 c1) 2 c2) 3 c3) 4 c4) 5 c5) 6 c6) 7 c7) 8 c13) 9 c14) (va_up (va_up (va_up (va_up (va_up (va_up (va_up xa 2 c8) 3 c9) 4 c10) 5 c11) 6 c12) 7 c15) 8 c16) xl xm mi (va_up ma 5 d1) hrel H locs ls hP hD hS hl
set_option maxHeartbeats 4000000 in
set_option maxRecDepth 100000 in
theorem lc_2 {p : Program} {l : Launch} {e : Env} {s : State} {m : MethodId} {below : List Frame} {meth : Method} {c : Code} {D : va_G} {cA : Nat → ClassId} {bs L : Nat} {xs : Nat → Int32} {Q : State → Prop} (C : Cx RL code 4 D cA p s m #[Value.ref bs] c) (hA : ∀ q, s.heap.size ≤ q → (fun q : Nat => s.heap.size ≤ q) q) (hX : va_X bs L xs s s.heap) (hbl : bs < s.heap.size) (hbA : ¬ (fun q : Nat => s.heap.size ≤ q) bs) {x3 : Int32} (hi1 : vp_in (x3 + 1) L) (hi2 : vp_in (x3 + 2) L) (hi3 : vp_in (x3 + 3) L) (hi4 : vp_in (x3 + 4) L) (hi5 : vp_in (x3 + 5) L) (a b : Nat → Nat) (xi : Nat → Int32) (xa : Nat → Nat → Int32) (xl : Nat → Int64) (xm : Nat → Nat → Int64) (mi : Nat → Int32) (ma : Nat → Nat → Int32) (h : Rel xi xa xl xm mi ma) (hn : ∀ (xi : Nat → Int32) (xa : Nat → Nat → Int32) (xl : Nat → Int64) (xm : Nat → Nat → Int64) (mi : Nat → Int32) (ma : Nat → Nat → Int32), Rel xi xa xl xm mi ma → At p l e room_1 s m #[Value.ref bs] below meth c D (fun q : Nat => s.heap.size ≤ q) 71 2515 Q 4 1369 (wl_law cA a b xi xa xl xm mi ma) [(0, .ref bs), (1, .ref (a 0)), (2, .ref (b 0)), (3, .int x3)] []) : At p l e room_1 s m #[Value.ref bs] below meth c D (fun q : Nat => s.heap.size ≤ q) 71 2515 Q 4 252 (wl_law cA a b xi xa xl xm mi ma) [(0, .ref bs), (1, .ref (a 0)), (2, .ref (b 0)), (3, .int x3)] [] := by
  intro H locs ls hP hD hS hl
  have hx := C.1
  have hb := C.2.1
  have hown := C.2.2.2.1
  have hts := C.2.2.2.2.1
  obtain ⟨r, c1, c2, c3, c4, c5, c6, c7, c8, c9, c10, c11, c12, c13, c14, c15, c16, d1, hq1, hq2, hrel⟩ := sim_undo h (xs (x3 + 1).toNatClampNeg)
  refine lv_aload_n (pc := 252) hx hb dL_law_252 rfl (lv_at hl 1 rfl) ?_
  refine lv_aload_n (pc := 253) hx hb dL_law_253 rfl (lv_at hl 0 rfl) ?_
  refine lv_iload_n (pc := 254) hx hb dL_law_254 rfl (lv_at hl 3 rfl) ?_
  refine lv_iconst (pc := 255) (v := 1) hx hb dL_law_255 ic_1 ?_
  refine lv_iadd (pc := 256) hx hb dL_law_256 ?_
  refine va_sld (pc := 257) hx hb hX hbl hbA hS hi1 dL_law_257 ?_
  refine fin2_i (wl_law cA a b (va_up (va_up (va_up (va_up (va_up (va_up (va_up (va_up (va_up xi 0 c1) 2 c2) 3 c3) 4 c4) 5 c5) 6 c6) 7 c7) 8 c13) 9 c14) (va_up (va_up (va_up (va_up (va_up (va_up (va_up xa 2 c8) 3 c9) 4 c10) 5 c11) 6 c12) 7 c15) 8 c16) xl xm mi ma) (run_V (rest := []) (pc := 258) (As := [.int (xs (x3 + 1).toNatClampNeg)]) C mf_L_23 (c_X8_undo l D cA a (xi 0) (xi 1) (xi 2) (xa 0) (xi 3) (xa 1) (xi 4) (xi 5) (xi 6) (xi 7) (xa 2) (xa 3) (xa 4) (xa 5) (xa 6) (xi 8) (xi 9) (xa 7) (xa 8) (xs (x3 + 1).toNatClampNeg) (r, c1, c2, c3, c4, c5, c6, c7, c8, c9, c10, c11, c12, c13, c14, c15, c16) hq1 H.size) rfl rfl ⟨(Nat.le_of_ble_eq_true rfl), (Nat.le_of_ble_eq_true rfl)⟩ (preV_of C hP hD [0, 1, 2, 3, 4, 5, 6, 7, 8, 9, 10, 11, 12, 13, 14] rfl (pl_nd pw_0) 0 rfl rfl rfl) rfl hl.1 rfl (Nat.le_of_ble_eq_true rfl) dL_law_258 ⟨(Nat.le_of_ble_eq_true rfl), (Nat.le_of_ble_eq_true rfl)⟩) hP hD hS hA [0, 1, 2, 3, 4, 5, 6, 7, 8, 9, 10, 11, 12, 13, 14] [15, 16, 17, 18, 19, 20, 21, 22, 23, 24, 25, 26, 27, 28, 29, 30, 31, 32, 33, 34, 35, 36, 37, 38, 39, 40, 41, 42, 43, 44, 45, 46, 47, 48, 49, 50, 51, 52, 53, 54, 55, 56, 57, 58, 59, 60, 61, 62, 63, 64, 65, 66, 67, 68, 69, 70] rfl rfl rfl rfl pw_0 (fun H locs hP hS => ?_)
  have hD : va_D (fun q : Nat => s.heap.size ≤ q) (wl_law cA a b (va_up (va_up (va_up (va_up (va_up (va_up (va_up (va_up (va_up xi 0 c1) 2 c2) 3 c3) 4 c4) 5 c5) 6 c6) 7 c7) 8 c13) 9 c14) (va_up (va_up (va_up (va_up (va_up (va_up (va_up xa 2 c8) 3 c9) 4 c10) 5 c11) 6 c12) 7 c15) 8 c16) xl xm mi ma) := vd_a hD rfl
  refine lv_aload_n (pc := 261) hx hb dL_law_261 rfl (lv_at hl 2 rfl) ?_
  refine lv_aload_n (pc := 262) hx hb dL_law_262 rfl (lv_at hl 0 rfl) ?_
  refine lv_iload_n (pc := 263) hx hb dL_law_263 rfl (lv_at hl 3 rfl) ?_
  refine lv_iconst (pc := 264) (v := 1) hx hb dL_law_264 ic_1 ?_
  refine lv_iadd (pc := 265) hx hb dL_law_265 ?_
  refine va_sld (pc := 266) hx hb hX hbl hbA hS hi1 dL_law_266 ?_
  refine fin2_i (wl_law cA a b (va_up (va_up (va_up (va_up (va_up (va_up (va_up (va_up (va_up xi 0 c1) 2 c2) 3 c3) 4 c4) 5 c5) 6 c6) 7 c7) 8 c13) 9 c14) (va_up (va_up (va_up (va_up (va_up (va_up (va_up xa 2 c8) 3 c9) 4 c10) 5 c11) 6 c12) 7 c15) 8 c16) xl xm mi (va_up ma 5 d1)) (run_V (rest := [.int r]) (pc := 267) (As := [.int (xs (x3 + 1).toNatClampNeg)]) C mf_L_26 (c_X9_undo l D cA b (mi 0) (mi 1) (mi 2) (mi 3) (mi 4) (mi 5) (mi 6) (mi 7) (mi 8) (ma 5) (xs (x3 + 1).toNatClampNeg) (r, d1) hq2 H.size) rfl rfl ⟨(Nat.le_of_ble_eq_true rfl), (Nat.le_of_ble_eq_true rfl)⟩ (preV_of C hP hD [54, 60] rfl (pl_nd pw_2) 0 rfl rfl rfl) rfl hl.1 rfl (Nat.le_of_ble_eq_true rfl) dL_law_267 ⟨(Nat.le_of_ble_eq_true rfl), (Nat.le_of_ble_eq_true rfl)⟩) hP hD hS hA [54, 60] [0, 1, 2, 3, 4, 5, 6, 7, 8, 9, 10, 11, 12, 13, 14, 15, 16, 17, 18, 19, 20, 21, 22, 23, 24, 25, 26, 27, 28, 29, 30, 31, 32, 33, 34, 35, 36, 37, 38, 39, 40, 41, 42, 43, 44, 45, 46, 47, 48, 49, 50, 51, 52, 53, 55, 56, 57, 58, 59, 61, 62, 63, 64, 65, 66, 67, 68, 69, 70] rfl rfl rfl rfl pw_2 (fun H locs hP hS => ?_)
  have hD : va_D (fun q : Nat => s.heap.size ≤ q) (wl_law cA a b (va_up (va_up (va_up (va_up (va_up (va_up (va_up (va_up (va_up xi 0 c1) 2 c2) 3 c3) 4 c4) 5 c5) 6 c6) 7 c7) 8 c13) 9 c14) (va_up (va_up (va_up (va_up (va_up (va_up (va_up xa 2 c8) 3 c9) 4 c10) 5 c11) 6 c12) 7 c15) 8 c16) xl xm mi (va_up ma 5 d1)) := vd_a hD rfl
  refine lv_icmp_eq (pc := 270) (tgt := 1369) hx hb dL_law_270 (by decide) (fun hc => ?_) (fun hc => absurd rfl hc)
  exact hn (va_up (va_up (va_up (va_up (va_up (va_up (va_up (va_up (va_up xi 0 c1) 2 c2) 3 c3) 4 c4) 5 c5) 6 c6) 7 c7) 8 c13) 9 c14) (va_up (va_up (va_up (va_up (va_up (va_up (va_up xa 2 c8) 3 c9) 4 c10) 5 c11) 6 c12) 7 c15) 8 c16) xl xm mi (va_up ma 5 d1) hrel H locs ls hP hD hS hl
set_option maxHeartbeats 4000000 in
set_option maxRecDepth 100000 in
theorem lc_3 {p : Program} {l : Launch} {e : Env} {s : State} {m : MethodId} {below : List Frame} {meth : Method} {c : Code} {D : va_G} {cA : Nat → ClassId} {bs L : Nat} {xs : Nat → Int32} {Q : State → Prop} (C : Cx RL code 4 D cA p s m #[Value.ref bs] c) (hA : ∀ q, s.heap.size ≤ q → (fun q : Nat => s.heap.size ≤ q) q) (hX : va_X bs L xs s s.heap) (hbl : bs < s.heap.size) (hbA : ¬ (fun q : Nat => s.heap.size ≤ q) bs) {x3 : Int32} (hi1 : vp_in (x3 + 1) L) (hi2 : vp_in (x3 + 2) L) (hi3 : vp_in (x3 + 3) L) (hi4 : vp_in (x3 + 4) L) (hi5 : vp_in (x3 + 5) L) (a b : Nat → Nat) (xi : Nat → Int32) (xa : Nat → Nat → Int32) (xl : Nat → Int64) (xm : Nat → Nat → Int64) (mi : Nat → Int32) (ma : Nat → Nat → Int32) (h : Rel xi xa xl xm mi ma) (hn : ∀ (xi : Nat → Int32) (xa : Nat → Nat → Int32) (xl : Nat → Int64) (xm : Nat → Nat → Int64) (mi : Nat → Int32) (ma : Nat → Nat → Int32), Rel xi xa xl xm mi ma → At p l e room_1 s m #[Value.ref bs] below meth c D (fun q : Nat => s.heap.size ≤ q) 71 2515 Q 4 1369 (wl_law cA a b xi xa xl xm mi ma) [(0, .ref bs), (1, .ref (a 0)), (2, .ref (b 0)), (3, .int x3)] []) : At p l e room_1 s m #[Value.ref bs] below meth c D (fun q : Nat => s.heap.size ≤ q) 71 2515 Q 4 275 (wl_law cA a b xi xa xl xm mi ma) [(0, .ref bs), (1, .ref (a 0)), (2, .ref (b 0)), (3, .int x3)] [] := by
  intro H locs ls hP hD hS hl
  have hx := C.1
  have hb := C.2.1
  have hown := C.2.2.2.1
  have hts := C.2.2.2.2.1
  obtain ⟨r, d1, d2, d3, d4, d5, hq1, hq2, hrel⟩ := sim_fault h (xs (x3 + 1).toNatClampNeg)
  refine lv_aload_n (pc := 275) hx hb dL_law_275 rfl (lv_at hl 1 rfl) ?_
  refine lv_aload_n (pc := 276) hx hb dL_law_276 rfl (lv_at hl 0 rfl) ?_
  refine lv_iload_n (pc := 277) hx hb dL_law_277 rfl (lv_at hl 3 rfl) ?_
  refine lv_iconst (pc := 278) (v := 1) hx hb dL_law_278 ic_1 ?_
  refine lv_iadd (pc := 279) hx hb dL_law_279 ?_
  refine va_sld (pc := 280) hx hb hX hbl hbA hS hi1 dL_law_280 ?_
  refine fin2_i (wl_law cA a b xi xa xl xm mi ma) (run_V (rest := []) (pc := 281) (As := [.int (xs (x3 + 1).toNatClampNeg)]) C mf_L_27 (c_X8_fault l D cA a (xi 0) (xi 1) (xi 4) (xi 5) (xi 6) (xi 7) (xi 8) (xi 9) (xs (x3 + 1).toNatClampNeg) r hq1 H.size) rfl rfl ⟨(Nat.le_of_ble_eq_true rfl), (Nat.le_of_ble_eq_true rfl)⟩ (preV_of C hP hD [0, 6, 12] rfl (pl_nd pw_3) 0 rfl rfl rfl) rfl hl.1 rfl (Nat.le_of_ble_eq_true rfl) dL_law_281 ⟨(Nat.le_of_ble_eq_true rfl), (Nat.le_of_ble_eq_true rfl)⟩) hP hD hS hA [0, 6, 12] [1, 2, 3, 4, 5, 7, 8, 9, 10, 11, 13, 14, 15, 16, 17, 18, 19, 20, 21, 22, 23, 24, 25, 26, 27, 28, 29, 30, 31, 32, 33, 34, 35, 36, 37, 38, 39, 40, 41, 42, 43, 44, 45, 46, 47, 48, 49, 50, 51, 52, 53, 54, 55, 56, 57, 58, 59, 60, 61, 62, 63, 64, 65, 66, 67, 68, 69, 70] rfl rfl rfl rfl pw_3 (fun H locs hP hS => ?_)
  have hD : va_D (fun q : Nat => s.heap.size ≤ q) (wl_law cA a b xi xa xl xm mi ma) := vd_a hD rfl
  refine lv_aload_n (pc := 284) hx hb dL_law_284 rfl (lv_at hl 2 rfl) ?_
  refine lv_aload_n (pc := 285) hx hb dL_law_285 rfl (lv_at hl 0 rfl) ?_
  refine lv_iload_n (pc := 286) hx hb dL_law_286 rfl (lv_at hl 3 rfl) ?_
  refine lv_iconst (pc := 287) (v := 1) hx hb dL_law_287 ic_1 ?_
  refine lv_iadd (pc := 288) hx hb dL_law_288 ?_
  refine va_sld (pc := 289) hx hb hX hbl hbA hS hi1 dL_law_289 ?_
  refine fin2_i (wl_law cA a b xi xa xl xm (va_up (va_up (va_up mi 1 d1) 2 d2) 3 d3) (va_up (va_up ma 6 d4) 7 d5)) (run_V (rest := [.int r]) (pc := 290) (As := [.int (xs (x3 + 1).toNatClampNeg)]) C mf_L_30 (c_X9_fault l D cA b (mi 0) (mi 1) (mi 2) (mi 3) (mi 4) (mi 5) (mi 6) (mi 7) (mi 8) (ma 4) (ma 5) (ma 6) (ma 7) (xs (x3 + 1).toNatClampNeg) (r, d1, d2, d3, d4, d5) hq2 H.size) rfl rfl ⟨(Nat.le_of_ble_eq_true rfl), (Nat.le_of_ble_eq_true rfl)⟩ (preV_of C hP hD [54, 59, 60, 61, 62] rfl (pl_nd pw_4) 0 rfl rfl rfl) rfl hl.1 rfl (Nat.le_of_ble_eq_true rfl) dL_law_290 ⟨(Nat.le_of_ble_eq_true rfl), (Nat.le_of_ble_eq_true rfl)⟩) hP hD hS hA [54, 59, 60, 61, 62] [0, 1, 2, 3, 4, 5, 6, 7, 8, 9, 10, 11, 12, 13, 14, 15, 16, 17, 18, 19, 20, 21, 22, 23, 24, 25, 26, 27, 28, 29, 30, 31, 32, 33, 34, 35, 36, 37, 38, 39, 40, 41, 42, 43, 44, 45, 46, 47, 48, 49, 50, 51, 52, 53, 55, 56, 57, 58, 63, 64, 65, 66, 67, 68, 69, 70] rfl rfl rfl rfl pw_4 (fun H locs hP hS => ?_)
  have hD : va_D (fun q : Nat => s.heap.size ≤ q) (wl_law cA a b xi xa xl xm (va_up (va_up (va_up mi 1 d1) 2 d2) 3 d3) (va_up (va_up ma 6 d4) 7 d5)) := vd_a hD rfl
  refine lv_icmp_eq (pc := 293) (tgt := 1369) hx hb dL_law_293 (by decide) (fun hc => ?_) (fun hc => absurd rfl hc)
  exact hn xi xa xl xm (va_up (va_up (va_up mi 1 d1) 2 d2) 3 d3) (va_up (va_up ma 6 d4) 7 d5) hrel H locs ls hP hD hS hl
set_option maxHeartbeats 4000000 in
set_option maxRecDepth 100000 in
theorem lc_4 {p : Program} {l : Launch} {e : Env} {s : State} {m : MethodId} {below : List Frame} {meth : Method} {c : Code} {D : va_G} {cA : Nat → ClassId} {bs L : Nat} {xs : Nat → Int32} {Q : State → Prop} (C : Cx RL code 4 D cA p s m #[Value.ref bs] c) (hA : ∀ q, s.heap.size ≤ q → (fun q : Nat => s.heap.size ≤ q) q) (hX : va_X bs L xs s s.heap) (hbl : bs < s.heap.size) (hbA : ¬ (fun q : Nat => s.heap.size ≤ q) bs) {x3 : Int32} (hi1 : vp_in (x3 + 1) L) (hi2 : vp_in (x3 + 2) L) (hi3 : vp_in (x3 + 3) L) (hi4 : vp_in (x3 + 4) L) (hi5 : vp_in (x3 + 5) L) (a b : Nat → Nat) (xi : Nat → Int32) (xa : Nat → Nat → Int32) (xl : Nat → Int64) (xm : Nat → Nat → Int64) (mi : Nat → Int32) (ma : Nat → Nat → Int32) (h : Rel xi xa xl xm mi ma) (hn : ∀ (xi : Nat → Int32) (xa : Nat → Nat → Int32) (xl : Nat → Int64) (xm : Nat → Nat → Int64) (mi : Nat → Int32) (ma : Nat → Nat → Int32), Rel xi xa xl xm mi ma → At p l e room_1 s m #[Value.ref bs] below meth c D (fun q : Nat => s.heap.size ≤ q) 71 2515 Q 4 1369 (wl_law cA a b xi xa xl xm mi ma) [(0, .ref bs), (1, .ref (a 0)), (2, .ref (b 0)), (3, .int x3)] []) : At p l e room_1 s m #[Value.ref bs] below meth c D (fun q : Nat => s.heap.size ≤ q) 71 2515 Q 4 298 (wl_law cA a b xi xa xl xm mi ma) [(0, .ref bs), (1, .ref (a 0)), (2, .ref (b 0)), (3, .int x3)] [] := by
  intro H locs ls hP hD hS hl
  have hx := C.1
  have hb := C.2.1
  have hown := C.2.2.2.1
  have hts := C.2.2.2.2.1
  obtain ⟨r, d1, d2, d3, hq1, hq2, hrel⟩ := sim_cell h (xs (x3 + 1).toNatClampNeg)
  refine lv_aload_n (pc := 298) hx hb dL_law_298 rfl (lv_at hl 1 rfl) ?_
  refine lv_aload_n (pc := 299) hx hb dL_law_299 rfl (lv_at hl 0 rfl) ?_
  refine lv_iload_n (pc := 300) hx hb dL_law_300 rfl (lv_at hl 3 rfl) ?_
  refine lv_iconst (pc := 301) (v := 1) hx hb dL_law_301 ic_1 ?_
  refine lv_iadd (pc := 302) hx hb dL_law_302 ?_
  refine va_sld (pc := 303) hx hb hX hbl hbA hS hi1 dL_law_303 ?_
  refine fin2_i (wl_law cA a b xi xa xl xm mi ma) (run_V (rest := []) (pc := 304) (As := [.int (xs (x3 + 1).toNatClampNeg)]) C mf_L_31 (c_X8_cell l D cA a (xi 0) (xi 1) (xi 4) (xi 5) (xi 6) (xi 7) (xa 2) (xs (x3 + 1).toNatClampNeg) r hq1 H.size) rfl rfl ⟨(Nat.le_of_ble_eq_true rfl), (Nat.le_of_ble_eq_true rfl)⟩ (preV_of C hP hD [0, 6, 7] rfl (pl_nd pw_5) 0 rfl rfl rfl) rfl hl.1 rfl (Nat.le_of_ble_eq_true rfl) dL_law_304 ⟨(Nat.le_of_ble_eq_true rfl), (Nat.le_of_ble_eq_true rfl)⟩) hP hD hS hA [0, 6, 7] [1, 2, 3, 4, 5, 8, 9, 10, 11, 12, 13, 14, 15, 16, 17, 18, 19, 20, 21, 22, 23, 24, 25, 26, 27, 28, 29, 30, 31, 32, 33, 34, 35, 36, 37, 38, 39, 40, 41, 42, 43, 44, 45, 46, 47, 48, 49, 50, 51, 52, 53, 54, 55, 56, 57, 58, 59, 60, 61, 62, 63, 64, 65, 66, 67, 68, 69, 70] rfl rfl rfl rfl pw_5 (fun H locs hP hS => ?_)
  have hD : va_D (fun q : Nat => s.heap.size ≤ q) (wl_law cA a b xi xa xl xm mi ma) := vd_a hD rfl
  refine lv_aload_n (pc := 307) hx hb dL_law_307 rfl (lv_at hl 2 rfl) ?_
  refine lv_aload_n (pc := 308) hx hb dL_law_308 rfl (lv_at hl 0 rfl) ?_
  refine lv_iload_n (pc := 309) hx hb dL_law_309 rfl (lv_at hl 3 rfl) ?_
  refine lv_iconst (pc := 310) (v := 1) hx hb dL_law_310 ic_1 ?_
  refine lv_iadd (pc := 311) hx hb dL_law_311 ?_
  refine va_sld (pc := 312) hx hb hX hbl hbA hS hi1 dL_law_312 ?_
  refine fin2_i (wl_law cA a b xi xa xl xm (va_up (va_up mi 1 d1) 2 d2) (va_up ma 6 d3)) (run_V (rest := [.int r]) (pc := 313) (As := [.int (xs (x3 + 1).toNatClampNeg)]) C mf_L_34 (c_X9_cell l D cA b (mi 0) (mi 1) (mi 2) (mi 3) (mi 4) (mi 5) (mi 6) (mi 7) (mi 8) (ma 4) (ma 5) (ma 6) (xs (x3 + 1).toNatClampNeg) (r, d1, d2, d3) hq2 H.size) rfl rfl ⟨(Nat.le_of_ble_eq_true rfl), (Nat.le_of_ble_eq_true rfl)⟩ (preV_of C hP hD [54, 59, 60, 61] rfl (pl_nd pw_6) 0 rfl rfl rfl) rfl hl.1 rfl (Nat.le_of_ble_eq_true rfl) dL_law_313 ⟨(Nat.le_of_ble_eq_true rfl), (Nat.le_of_ble_eq_true rfl)⟩) hP hD hS hA [54, 59, 60, 61] [0, 1, 2, 3, 4, 5, 6, 7, 8, 9, 10, 11, 12, 13, 14, 15, 16, 17, 18, 19, 20, 21, 22, 23, 24, 25, 26, 27, 28, 29, 30, 31, 32, 33, 34, 35, 36, 37, 38, 39, 40, 41, 42, 43, 44, 45, 46, 47, 48, 49, 50, 51, 52, 53, 55, 56, 57, 58, 62, 63, 64, 65, 66, 67, 68, 69, 70] rfl rfl rfl rfl pw_6 (fun H locs hP hS => ?_)
  have hD : va_D (fun q : Nat => s.heap.size ≤ q) (wl_law cA a b xi xa xl xm (va_up (va_up mi 1 d1) 2 d2) (va_up ma 6 d3)) := vd_a hD rfl
  refine lv_icmp_eq (pc := 316) (tgt := 1369) hx hb dL_law_316 (by decide) (fun hc => ?_) (fun hc => absurd rfl hc)
  exact hn xi xa xl xm (va_up (va_up mi 1 d1) 2 d2) (va_up ma 6 d3) hrel H locs ls hP hD hS hl
set_option maxHeartbeats 4000000 in
set_option maxRecDepth 100000 in
theorem lc_5 {p : Program} {l : Launch} {e : Env} {s : State} {m : MethodId} {below : List Frame} {meth : Method} {c : Code} {D : va_G} {cA : Nat → ClassId} {bs L : Nat} {xs : Nat → Int32} {Q : State → Prop} (C : Cx RL code 4 D cA p s m #[Value.ref bs] c) (hA : ∀ q, s.heap.size ≤ q → (fun q : Nat => s.heap.size ≤ q) q) (hX : va_X bs L xs s s.heap) (hbl : bs < s.heap.size) (hbA : ¬ (fun q : Nat => s.heap.size ≤ q) bs) {x3 : Int32} (hi1 : vp_in (x3 + 1) L) (hi2 : vp_in (x3 + 2) L) (hi3 : vp_in (x3 + 3) L) (hi4 : vp_in (x3 + 4) L) (hi5 : vp_in (x3 + 5) L) (a b : Nat → Nat) (xi : Nat → Int32) (xa : Nat → Nat → Int32) (xl : Nat → Int64) (xm : Nat → Nat → Int64) (mi : Nat → Int32) (ma : Nat → Nat → Int32) (h : Rel xi xa xl xm mi ma) (hn : ∀ (xi : Nat → Int32) (xa : Nat → Nat → Int32) (xl : Nat → Int64) (xm : Nat → Nat → Int64) (mi : Nat → Int32) (ma : Nat → Nat → Int32), Rel xi xa xl xm mi ma → At p l e room_1 s m #[Value.ref bs] below meth c D (fun q : Nat => s.heap.size ≤ q) 71 2515 Q 4 1369 (wl_law cA a b xi xa xl xm mi ma) [(0, .ref bs), (1, .ref (a 0)), (2, .ref (b 0)), (3, .int x3)] []) : At p l e room_1 s m #[Value.ref bs] below meth c D (fun q : Nat => s.heap.size ≤ q) 71 2515 Q 4 321 (wl_law cA a b xi xa xl xm mi ma) [(0, .ref bs), (1, .ref (a 0)), (2, .ref (b 0)), (3, .int x3)] [] := by
  intro H locs ls hP hD hS hl
  have hx := C.1
  have hb := C.2.1
  have hown := C.2.2.2.1
  have hts := C.2.2.2.2.1
  obtain ⟨r, d1, d2, hq1, hq2, hrel⟩ := sim_house h (xs (x3 + 1).toNatClampNeg) (xs (x3 + 2).toNatClampNeg)
  refine lv_aload_n (pc := 321) hx hb dL_law_321 rfl (lv_at hl 1 rfl) ?_
  refine lv_aload_n (pc := 322) hx hb dL_law_322 rfl (lv_at hl 0 rfl) ?_
  refine lv_iload_n (pc := 323) hx hb dL_law_323 rfl (lv_at hl 3 rfl) ?_
  refine lv_iconst (pc := 324) (v := 1) hx hb dL_law_324 ic_1 ?_
  refine lv_iadd (pc := 325) hx hb dL_law_325 ?_
  refine va_sld (pc := 326) hx hb hX hbl hbA hS hi1 dL_law_326 ?_
  refine lv_aload_n (pc := 327) hx hb dL_law_327 rfl (lv_at hl 0 rfl) ?_
  refine lv_iload_n (pc := 328) hx hb dL_law_328 rfl (lv_at hl 3 rfl) ?_
  refine lv_iconst (pc := 329) (v := 2) hx hb dL_law_329 ic_2 ?_
  refine lv_iadd (pc := 330) hx hb dL_law_330 ?_
  refine va_sld (pc := 331) hx hb hX hbl hbA hS hi2 dL_law_331 ?_
  refine fin2_i (wl_law cA a b xi xa xl xm mi ma) (run_V (rest := []) (pc := 332) (As := [.int (xs (x3 + 1).toNatClampNeg), .int (xs (x3 + 2).toNatClampNeg)]) C mf_L_35 (c_X8_house l D cA a (xi 0) (xi 1) (xi 8) (xi 9) (xa 7) (xa 8) (xs (x3 + 1).toNatClampNeg) (xs (x3 + 2).toNatClampNeg) r hq1 H.size) rfl rfl ⟨(Nat.le_of_ble_eq_true rfl), (Nat.le_of_ble_eq_true rfl)⟩ (preV_of C hP hD [0, 12, 13, 14] rfl (pl_nd pw_7) 0 rfl rfl rfl) rfl hl.1 rfl (Nat.le_of_ble_eq_true rfl) dL_law_332 ⟨(Nat.le_of_ble_eq_true rfl), (Nat.le_of_ble_eq_true rfl)⟩) hP hD hS hA [0, 12, 13, 14] [1, 2, 3, 4, 5, 6, 7, 8, 9, 10, 11, 15, 16, 17, 18, 19, 20, 21, 22, 23, 24, 25, 26, 27, 28, 29, 30, 31, 32, 33, 34, 35, 36, 37, 38, 39, 40, 41, 42, 43, 44, 45, 46, 47, 48, 49, 50, 51, 52, 53, 54, 55, 56, 57, 58, 59, 60, 61, 62, 63, 64, 65, 66, 67, 68, 69, 70] rfl rfl rfl rfl pw_7 (fun H locs hP hS => ?_)
  have hD : va_D (fun q : Nat => s.heap.size ≤ q) (wl_law cA a b xi xa xl xm mi ma) := vd_a hD rfl
  refine lv_aload_n (pc := 335) hx hb dL_law_335 rfl (lv_at hl 2 rfl) ?_
  refine lv_aload_n (pc := 336) hx hb dL_law_336 rfl (lv_at hl 0 rfl) ?_
  refine lv_iload_n (pc := 337) hx hb dL_law_337 rfl (lv_at hl 3 rfl) ?_
  refine lv_iconst (pc := 338) (v := 1) hx hb dL_law_338 ic_1 ?_
  refine lv_iadd (pc := 339) hx hb dL_law_339 ?_
  refine va_sld (pc := 340) hx hb hX hbl hbA hS hi1 dL_law_340 ?_
  refine lv_aload_n (pc := 341) hx hb dL_law_341 rfl (lv_at hl 0 rfl) ?_
  refine lv_iload_n (pc := 342) hx hb dL_law_342 rfl (lv_at hl 3 rfl) ?_
  refine lv_iconst (pc := 343) (v := 2) hx hb dL_law_343 ic_2 ?_
  refine lv_iadd (pc := 344) hx hb dL_law_344 ?_
  refine va_sld (pc := 345) hx hb hX hbl hbA hS hi2 dL_law_345 ?_
  refine fin2_i (wl_law cA a b xi xa xl xm (va_up mi 3 d1) (va_up ma 7 d2)) (run_V (rest := [.int r]) (pc := 346) (As := [.int (xs (x3 + 1).toNatClampNeg), .int (xs (x3 + 2).toNatClampNeg)]) C mf_L_38 (c_X9_house l D cA b (mi 0) (mi 1) (mi 2) (mi 3) (mi 4) (mi 5) (mi 6) (mi 7) (mi 8) (ma 4) (ma 5) (ma 7) (xs (x3 + 1).toNatClampNeg) (xs (x3 + 2).toNatClampNeg) (r, d1, d2) hq2 H.size) rfl rfl ⟨(Nat.le_of_ble_eq_true rfl), (Nat.le_of_ble_eq_true rfl)⟩ (preV_of C hP hD [54, 59, 60, 62] rfl (pl_nd pw_8) 0 rfl rfl rfl) rfl hl.1 rfl (Nat.le_of_ble_eq_true rfl) dL_law_346 ⟨(Nat.le_of_ble_eq_true rfl), (Nat.le_of_ble_eq_true rfl)⟩) hP hD hS hA [54, 59, 60, 62] [0, 1, 2, 3, 4, 5, 6, 7, 8, 9, 10, 11, 12, 13, 14, 15, 16, 17, 18, 19, 20, 21, 22, 23, 24, 25, 26, 27, 28, 29, 30, 31, 32, 33, 34, 35, 36, 37, 38, 39, 40, 41, 42, 43, 44, 45, 46, 47, 48, 49, 50, 51, 52, 53, 55, 56, 57, 58, 61, 63, 64, 65, 66, 67, 68, 69, 70] rfl rfl rfl rfl pw_8 (fun H locs hP hS => ?_)
  have hD : va_D (fun q : Nat => s.heap.size ≤ q) (wl_law cA a b xi xa xl xm (va_up mi 3 d1) (va_up ma 7 d2)) := vd_a hD rfl
  refine lv_icmp_eq (pc := 349) (tgt := 1369) hx hb dL_law_349 (by decide) (fun hc => ?_) (fun hc => absurd rfl hc)
  exact hn xi xa xl xm (va_up mi 3 d1) (va_up ma 7 d2) hrel H locs ls hP hD hS hl
set_option maxHeartbeats 4000000 in
set_option maxRecDepth 100000 in
theorem lc_6 {p : Program} {l : Launch} {e : Env} {s : State} {m : MethodId} {below : List Frame} {meth : Method} {c : Code} {D : va_G} {cA : Nat → ClassId} {bs L : Nat} {xs : Nat → Int32} {Q : State → Prop} (C : Cx RL code 4 D cA p s m #[Value.ref bs] c) (hA : ∀ q, s.heap.size ≤ q → (fun q : Nat => s.heap.size ≤ q) q) (hX : va_X bs L xs s s.heap) (hbl : bs < s.heap.size) (hbA : ¬ (fun q : Nat => s.heap.size ≤ q) bs) {x3 : Int32} (hi1 : vp_in (x3 + 1) L) (hi2 : vp_in (x3 + 2) L) (hi3 : vp_in (x3 + 3) L) (hi4 : vp_in (x3 + 4) L) (hi5 : vp_in (x3 + 5) L) (a b : Nat → Nat) (xi : Nat → Int32) (xa : Nat → Nat → Int32) (xl : Nat → Int64) (xm : Nat → Nat → Int64) (mi : Nat → Int32) (ma : Nat → Nat → Int32) (h : Rel xi xa xl xm mi ma) (hn : ∀ (xi : Nat → Int32) (xa : Nat → Nat → Int32) (xl : Nat → Int64) (xm : Nat → Nat → Int64) (mi : Nat → Int32) (ma : Nat → Nat → Int32), Rel xi xa xl xm mi ma → At p l e room_1 s m #[Value.ref bs] below meth c D (fun q : Nat => s.heap.size ≤ q) 71 2515 Q 4 1369 (wl_law cA a b xi xa xl xm mi ma) [(0, .ref bs), (1, .ref (a 0)), (2, .ref (b 0)), (3, .int x3)] []) : At p l e room_1 s m #[Value.ref bs] below meth c D (fun q : Nat => s.heap.size ≤ q) 71 2515 Q 4 354 (wl_law cA a b xi xa xl xm mi ma) [(0, .ref bs), (1, .ref (a 0)), (2, .ref (b 0)), (3, .int x3)] [] := by
  intro H locs ls hP hD hS hl
  have hx := C.1
  have hb := C.2.1
  have hown := C.2.2.2.1
  have hts := C.2.2.2.2.1
  obtain ⟨r, c1, c2, c3, d1, hq1, hq2, hrel⟩ := sim_set h (xs (x3 + 1).toNatClampNeg) (xs (x3 + 2).toNatClampNeg)
  refine lv_aload_n (pc := 354) hx hb dL_law_354 rfl (lv_at hl 1 rfl) ?_
  refine lv_aload_n (pc := 355) hx hb dL_law_355 rfl (lv_at hl 0 rfl) ?_
  refine lv_iload_n (pc := 356) hx hb dL_law_356 rfl (lv_at hl 3 rfl) ?_
  refine lv_iconst (pc := 357) (v := 1) hx hb dL_law_357 ic_1 ?_
  refine lv_iadd (pc := 358) hx hb dL_law_358 ?_
  refine va_sld (pc := 359) hx hb hX hbl hbA hS hi1 dL_law_359 ?_
  refine lv_aload_n (pc := 360) hx hb dL_law_360 rfl (lv_at hl 0 rfl) ?_
  refine lv_iload_n (pc := 361) hx hb dL_law_361 rfl (lv_at hl 3 rfl) ?_
  refine lv_iconst (pc := 362) (v := 2) hx hb dL_law_362 ic_2 ?_
  refine lv_iadd (pc := 363) hx hb dL_law_363 ?_
  refine va_sld (pc := 364) hx hb hX hbl hbA hS hi2 dL_law_364 ?_
  refine fin2_i (wl_law cA a b (va_up (va_up (va_up xi 0 c1) 13 c2) 14 c3) xa xl xm mi ma) (run_V (rest := []) (pc := 365) (As := [.int (xs (x3 + 1).toNatClampNeg), .int (xs (x3 + 2).toNatClampNeg)]) C mf_L_39 (c_X8_set l D cA a (xi 0) (xi 1) (xi 13) (xi 14) (xi 15) (xi 16) (xs (x3 + 1).toNatClampNeg) (xs (x3 + 2).toNatClampNeg) (r, c1, c2, c3) hq1 H.size) rfl rfl ⟨(Nat.le_of_ble_eq_true rfl), (Nat.le_of_ble_eq_true rfl)⟩ (preV_of C hP hD [0, 27] rfl (pl_nd pw_9) 0 rfl rfl rfl) rfl hl.1 rfl (Nat.le_of_ble_eq_true rfl) dL_law_365 ⟨(Nat.le_of_ble_eq_true rfl), (Nat.le_of_ble_eq_true rfl)⟩) hP hD hS hA [0, 27] [1, 2, 3, 4, 5, 6, 7, 8, 9, 10, 11, 12, 13, 14, 15, 16, 17, 18, 19, 20, 21, 22, 23, 24, 25, 26, 28, 29, 30, 31, 32, 33, 34, 35, 36, 37, 38, 39, 40, 41, 42, 43, 44, 45, 46, 47, 48, 49, 50, 51, 52, 53, 54, 55, 56, 57, 58, 59, 60, 61, 62, 63, 64, 65, 66, 67, 68, 69, 70] rfl rfl rfl rfl pw_9 (fun H locs hP hS => ?_)
  have hD : va_D (fun q : Nat => s.heap.size ≤ q) (wl_law cA a b (va_up (va_up (va_up xi 0 c1) 13 c2) 14 c3) xa xl xm mi ma) := vd_a hD rfl
  refine lv_aload_n (pc := 368) hx hb dL_law_368 rfl (lv_at hl 2 rfl) ?_
  refine lv_aload_n (pc := 369) hx hb dL_law_369 rfl (lv_at hl 0 rfl) ?_
  refine lv_iload_n (pc := 370) hx hb dL_law_370 rfl (lv_at hl 3 rfl) ?_
  refine lv_iconst (pc := 371) (v := 1) hx hb dL_law_371 ic_1 ?_
  refine lv_iadd (pc := 372) hx hb dL_law_372 ?_
  refine va_sld (pc := 373) hx hb hX hbl hbA hS hi1 dL_law_373 ?_
  refine lv_aload_n (pc := 374) hx hb dL_law_374 rfl (lv_at hl 0 rfl) ?_
  refine lv_iload_n (pc := 375) hx hb dL_law_375 rfl (lv_at hl 3 rfl) ?_
  refine lv_iconst (pc := 376) (v := 2) hx hb dL_law_376 ic_2 ?_
  refine lv_iadd (pc := 377) hx hb dL_law_377 ?_
  refine va_sld (pc := 378) hx hb hX hbl hbA hS hi2 dL_law_378 ?_
  refine fin2_i (wl_law cA a b (va_up (va_up (va_up xi 0 c1) 13 c2) 14 c3) xa xl xm mi (va_up ma 8 d1)) (run_V (rest := [.int r]) (pc := 379) (As := [.int (xs (x3 + 1).toNatClampNeg), .int (xs (x3 + 2).toNatClampNeg)]) C mf_L_42 (c_X9_set l D cA b (mi 0) (mi 1) (mi 2) (mi 3) (mi 4) (mi 5) (mi 6) (mi 7) (mi 8) (ma 8) (xs (x3 + 1).toNatClampNeg) (xs (x3 + 2).toNatClampNeg) (r, d1) hq2 H.size) rfl rfl ⟨(Nat.le_of_ble_eq_true rfl), (Nat.le_of_ble_eq_true rfl)⟩ (preV_of C hP hD [54, 63] rfl (pl_nd pw_10) 0 rfl rfl rfl) rfl hl.1 rfl (Nat.le_of_ble_eq_true rfl) dL_law_379 ⟨(Nat.le_of_ble_eq_true rfl), (Nat.le_of_ble_eq_true rfl)⟩) hP hD hS hA [54, 63] [0, 1, 2, 3, 4, 5, 6, 7, 8, 9, 10, 11, 12, 13, 14, 15, 16, 17, 18, 19, 20, 21, 22, 23, 24, 25, 26, 27, 28, 29, 30, 31, 32, 33, 34, 35, 36, 37, 38, 39, 40, 41, 42, 43, 44, 45, 46, 47, 48, 49, 50, 51, 52, 53, 55, 56, 57, 58, 59, 60, 61, 62, 64, 65, 66, 67, 68, 69, 70] rfl rfl rfl rfl pw_10 (fun H locs hP hS => ?_)
  have hD : va_D (fun q : Nat => s.heap.size ≤ q) (wl_law cA a b (va_up (va_up (va_up xi 0 c1) 13 c2) 14 c3) xa xl xm mi (va_up ma 8 d1)) := vd_a hD rfl
  refine lv_icmp_eq (pc := 382) (tgt := 1369) hx hb dL_law_382 (by decide) (fun hc => ?_) (fun hc => absurd rfl hc)
  exact hn (va_up (va_up (va_up xi 0 c1) 13 c2) 14 c3) xa xl xm mi (va_up ma 8 d1) hrel H locs ls hP hD hS hl
set_option maxHeartbeats 4000000 in
set_option maxRecDepth 100000 in
theorem lc_7 {p : Program} {l : Launch} {e : Env} {s : State} {m : MethodId} {below : List Frame} {meth : Method} {c : Code} {D : va_G} {cA : Nat → ClassId} {bs L : Nat} {xs : Nat → Int32} {Q : State → Prop} (C : Cx RL code 4 D cA p s m #[Value.ref bs] c) (hA : ∀ q, s.heap.size ≤ q → (fun q : Nat => s.heap.size ≤ q) q) (hX : va_X bs L xs s s.heap) (hbl : bs < s.heap.size) (hbA : ¬ (fun q : Nat => s.heap.size ≤ q) bs) {x3 : Int32} (hi1 : vp_in (x3 + 1) L) (hi2 : vp_in (x3 + 2) L) (hi3 : vp_in (x3 + 3) L) (hi4 : vp_in (x3 + 4) L) (hi5 : vp_in (x3 + 5) L) (a b : Nat → Nat) (xi : Nat → Int32) (xa : Nat → Nat → Int32) (xl : Nat → Int64) (xm : Nat → Nat → Int64) (mi : Nat → Int32) (ma : Nat → Nat → Int32) (h : Rel xi xa xl xm mi ma) (hn : ∀ (xi : Nat → Int32) (xa : Nat → Nat → Int32) (xl : Nat → Int64) (xm : Nat → Nat → Int64) (mi : Nat → Int32) (ma : Nat → Nat → Int32), Rel xi xa xl xm mi ma → At p l e room_1 s m #[Value.ref bs] below meth c D (fun q : Nat => s.heap.size ≤ q) 71 2515 Q 4 1369 (wl_law cA a b xi xa xl xm mi ma) [(0, .ref bs), (1, .ref (a 0)), (2, .ref (b 0)), (3, .int x3)] []) : At p l e room_1 s m #[Value.ref bs] below meth c D (fun q : Nat => s.heap.size ≤ q) 71 2515 Q 4 387 (wl_law cA a b xi xa xl xm mi ma) [(0, .ref bs), (1, .ref (a 0)), (2, .ref (b 0)), (3, .int x3)] [] := by
  intro H locs ls hP hD hS hl
  have hx := C.1
  have hb := C.2.1
  have hown := C.2.2.2.1
  have hts := C.2.2.2.2.1
  obtain ⟨r, c1, c2, c3, c4, c5, d1, d2, hq1, hq2, hrel⟩ := sim_bowl h (xs (x3 + 1).toNatClampNeg) (xs (x3 + 2).toNatClampNeg)
  refine lv_aload_n (pc := 387) hx hb dL_law_387 rfl (lv_at hl 1 rfl) ?_
  refine lv_aload_n (pc := 388) hx hb dL_law_388 rfl (lv_at hl 0 rfl) ?_
  refine lv_iload_n (pc := 389) hx hb dL_law_389 rfl (lv_at hl 3 rfl) ?_
  refine lv_iconst (pc := 390) (v := 1) hx hb dL_law_390 ic_1 ?_
  refine lv_iadd (pc := 391) hx hb dL_law_391 ?_
  refine va_sld (pc := 392) hx hb hX hbl hbA hS hi1 dL_law_392 ?_
  refine lv_aload_n (pc := 393) hx hb dL_law_393 rfl (lv_at hl 0 rfl) ?_
  refine lv_iload_n (pc := 394) hx hb dL_law_394 rfl (lv_at hl 3 rfl) ?_
  refine lv_iconst (pc := 395) (v := 2) hx hb dL_law_395 ic_2 ?_
  refine lv_iadd (pc := 396) hx hb dL_law_396 ?_
  refine va_sld (pc := 397) hx hb hX hbl hbA hS hi2 dL_law_397 ?_
  refine fin2_i (wl_law cA a b (va_up (va_up xi 0 c1) 10 c2) (va_up (va_up (va_up xa 9 c3) 10 c4) 11 c5) xl xm mi ma) (run_V (rest := []) (pc := 398) (As := [.int (xs (x3 + 1).toNatClampNeg), .int (xs (x3 + 2).toNatClampNeg)]) C mf_L_43 (c_X8_bowl l D cA a (xi 0) (xi 1) (xi 10) (xa 9) (xa 10) (xa 11) (xs (x3 + 1).toNatClampNeg) (xs (x3 + 2).toNatClampNeg) (r, c1, c2, c3, c4, c5) hq1 H.size) rfl rfl ⟨(Nat.le_of_ble_eq_true rfl), (Nat.le_of_ble_eq_true rfl)⟩ (preV_of C hP hD [0, 15, 16, 17, 18] rfl (pl_nd pw_11) 0 rfl rfl rfl) rfl hl.1 rfl (Nat.le_of_ble_eq_true rfl) dL_law_398 ⟨(Nat.le_of_ble_eq_true rfl), (Nat.le_of_ble_eq_true rfl)⟩) hP hD hS hA [0, 15, 16, 17, 18] [1, 2, 3, 4, 5, 6, 7, 8, 9, 10, 11, 12, 13, 14, 19, 20, 21, 22, 23, 24, 25, 26, 27, 28, 29, 30, 31, 32, 33, 34, 35, 36, 37, 38, 39, 40, 41, 42, 43, 44, 45, 46, 47, 48, 49, 50, 51, 52, 53, 54, 55, 56, 57, 58, 59, 60, 61, 62, 63, 64, 65, 66, 67, 68, 69, 70] rfl rfl rfl rfl pw_11 (fun H locs hP hS => ?_)
  have hD : va_D (fun q : Nat => s.heap.size ≤ q) (wl_law cA a b (va_up (va_up xi 0 c1) 10 c2) (va_up (va_up (va_up xa 9 c3) 10 c4) 11 c5) xl xm mi ma) := vd_a hD rfl
  refine lv_aload_n (pc := 401) hx hb dL_law_401 rfl (lv_at hl 2 rfl) ?_
  refine lv_aload_n (pc := 402) hx hb dL_law_402 rfl (lv_at hl 0 rfl) ?_
  refine lv_iload_n (pc := 403) hx hb dL_law_403 rfl (lv_at hl 3 rfl) ?_
  refine lv_iconst (pc := 404) (v := 1) hx hb dL_law_404 ic_1 ?_
  refine lv_iadd (pc := 405) hx hb dL_law_405 ?_
  refine va_sld (pc := 406) hx hb hX hbl hbA hS hi1 dL_law_406 ?_
  refine lv_aload_n (pc := 407) hx hb dL_law_407 rfl (lv_at hl 0 rfl) ?_
  refine lv_iload_n (pc := 408) hx hb dL_law_408 rfl (lv_at hl 3 rfl) ?_
  refine lv_iconst (pc := 409) (v := 2) hx hb dL_law_409 ic_2 ?_
  refine lv_iadd (pc := 410) hx hb dL_law_410 ?_
  refine va_sld (pc := 411) hx hb hX hbl hbA hS hi2 dL_law_411 ?_
  refine fin2_i (wl_law cA a b (va_up (va_up xi 0 c1) 10 c2) (va_up (va_up (va_up xa 9 c3) 10 c4) 11 c5) xl xm (va_up mi 4 d1) (va_up ma 9 d2)) (run_V (rest := [.int r]) (pc := 412) (As := [.int (xs (x3 + 1).toNatClampNeg), .int (xs (x3 + 2).toNatClampNeg)]) C mf_L_46 (c_X9_bowl l D cA b (mi 0) (mi 1) (mi 2) (mi 3) (mi 4) (mi 5) (mi 6) (mi 7) (mi 8) (ma 9) (xs (x3 + 1).toNatClampNeg) (xs (x3 + 2).toNatClampNeg) (r, d1, d2) hq2 H.size) rfl rfl ⟨(Nat.le_of_ble_eq_true rfl), (Nat.le_of_ble_eq_true rfl)⟩ (preV_of C hP hD [54, 64] rfl (pl_nd pw_12) 0 rfl rfl rfl) rfl hl.1 rfl (Nat.le_of_ble_eq_true rfl) dL_law_412 ⟨(Nat.le_of_ble_eq_true rfl), (Nat.le_of_ble_eq_true rfl)⟩) hP hD hS hA [54, 64] [0, 1, 2, 3, 4, 5, 6, 7, 8, 9, 10, 11, 12, 13, 14, 15, 16, 17, 18, 19, 20, 21, 22, 23, 24, 25, 26, 27, 28, 29, 30, 31, 32, 33, 34, 35, 36, 37, 38, 39, 40, 41, 42, 43, 44, 45, 46, 47, 48, 49, 50, 51, 52, 53, 55, 56, 57, 58, 59, 60, 61, 62, 63, 65, 66, 67, 68, 69, 70] rfl rfl rfl rfl pw_12 (fun H locs hP hS => ?_)
  have hD : va_D (fun q : Nat => s.heap.size ≤ q) (wl_law cA a b (va_up (va_up xi 0 c1) 10 c2) (va_up (va_up (va_up xa 9 c3) 10 c4) 11 c5) xl xm (va_up mi 4 d1) (va_up ma 9 d2)) := vd_a hD rfl
  refine lv_icmp_eq (pc := 415) (tgt := 1369) hx hb dL_law_415 (by decide) (fun hc => ?_) (fun hc => absurd rfl hc)
  exact hn (va_up (va_up xi 0 c1) 10 c2) (va_up (va_up (va_up xa 9 c3) 10 c4) 11 c5) xl xm (va_up mi 4 d1) (va_up ma 9 d2) hrel H locs ls hP hD hS hl
set_option maxHeartbeats 4000000 in
set_option maxRecDepth 100000 in
theorem lc_8 {p : Program} {l : Launch} {e : Env} {s : State} {m : MethodId} {below : List Frame} {meth : Method} {c : Code} {D : va_G} {cA : Nat → ClassId} {bs L : Nat} {xs : Nat → Int32} {Q : State → Prop} (C : Cx RL code 4 D cA p s m #[Value.ref bs] c) (hA : ∀ q, s.heap.size ≤ q → (fun q : Nat => s.heap.size ≤ q) q) (hX : va_X bs L xs s s.heap) (hbl : bs < s.heap.size) (hbA : ¬ (fun q : Nat => s.heap.size ≤ q) bs) {x3 : Int32} (hi1 : vp_in (x3 + 1) L) (hi2 : vp_in (x3 + 2) L) (hi3 : vp_in (x3 + 3) L) (hi4 : vp_in (x3 + 4) L) (hi5 : vp_in (x3 + 5) L) (a b : Nat → Nat) (xi : Nat → Int32) (xa : Nat → Nat → Int32) (xl : Nat → Int64) (xm : Nat → Nat → Int64) (mi : Nat → Int32) (ma : Nat → Nat → Int32) (h : Rel xi xa xl xm mi ma) (hn : ∀ (xi : Nat → Int32) (xa : Nat → Nat → Int32) (xl : Nat → Int64) (xm : Nat → Nat → Int64) (mi : Nat → Int32) (ma : Nat → Nat → Int32), Rel xi xa xl xm mi ma → At p l e room_1 s m #[Value.ref bs] below meth c D (fun q : Nat => s.heap.size ≤ q) 71 2515 Q 4 1369 (wl_law cA a b xi xa xl xm mi ma) [(0, .ref bs), (1, .ref (a 0)), (2, .ref (b 0)), (3, .int x3)] []) : At p l e room_1 s m #[Value.ref bs] below meth c D (fun q : Nat => s.heap.size ≤ q) 71 2515 Q 4 420 (wl_law cA a b xi xa xl xm mi ma) [(0, .ref bs), (1, .ref (a 0)), (2, .ref (b 0)), (3, .int x3)] [] := by
  intro H locs ls hP hD hS hl
  have hx := C.1
  have hb := C.2.1
  have hown := C.2.2.2.1
  have hts := C.2.2.2.2.1
  obtain ⟨r, c1, c2, c3, c4, c5, d1, d2, hq1, hq2, hrel⟩ := sim_dog h (xs (x3 + 1).toNatClampNeg) (xs (x3 + 2).toNatClampNeg)
  refine lv_aload_n (pc := 420) hx hb dL_law_420 rfl (lv_at hl 1 rfl) ?_
  refine lv_aload_n (pc := 421) hx hb dL_law_421 rfl (lv_at hl 0 rfl) ?_
  refine lv_iload_n (pc := 422) hx hb dL_law_422 rfl (lv_at hl 3 rfl) ?_
  refine lv_iconst (pc := 423) (v := 1) hx hb dL_law_423 ic_1 ?_
  refine lv_iadd (pc := 424) hx hb dL_law_424 ?_
  refine va_sld (pc := 425) hx hb hX hbl hbA hS hi1 dL_law_425 ?_
  refine lv_aload_n (pc := 426) hx hb dL_law_426 rfl (lv_at hl 0 rfl) ?_
  refine lv_iload_n (pc := 427) hx hb dL_law_427 rfl (lv_at hl 3 rfl) ?_
  refine lv_iconst (pc := 428) (v := 2) hx hb dL_law_428 ic_2 ?_
  refine lv_iadd (pc := 429) hx hb dL_law_429 ?_
  refine va_sld (pc := 430) hx hb hX hbl hbA hS hi2 dL_law_430 ?_
  refine fin2_i (wl_law cA a b (va_up (va_up xi 0 c1) 11 c2) (va_up (va_up (va_up xa 12 c3) 13 c4) 14 c5) xl xm mi ma) (run_V (rest := []) (pc := 431) (As := [.int (xs (x3 + 1).toNatClampNeg), .int (xs (x3 + 2).toNatClampNeg)]) C mf_L_47 (c_X8_dog l D cA a (xi 0) (xi 1) (xi 11) (xa 12) (xa 13) (xa 14) (xs (x3 + 1).toNatClampNeg) (xs (x3 + 2).toNatClampNeg) (r, c1, c2, c3, c4, c5) hq1 H.size) rfl rfl ⟨(Nat.le_of_ble_eq_true rfl), (Nat.le_of_ble_eq_true rfl)⟩ (preV_of C hP hD [0, 19, 20, 21, 22] rfl (pl_nd pw_13) 0 rfl rfl rfl) rfl hl.1 rfl (Nat.le_of_ble_eq_true rfl) dL_law_431 ⟨(Nat.le_of_ble_eq_true rfl), (Nat.le_of_ble_eq_true rfl)⟩) hP hD hS hA [0, 19, 20, 21, 22] [1, 2, 3, 4, 5, 6, 7, 8, 9, 10, 11, 12, 13, 14, 15, 16, 17, 18, 23, 24, 25, 26, 27, 28, 29, 30, 31, 32, 33, 34, 35, 36, 37, 38, 39, 40, 41, 42, 43, 44, 45, 46, 47, 48, 49, 50, 51, 52, 53, 54, 55, 56, 57, 58, 59, 60, 61, 62, 63, 64, 65, 66, 67, 68, 69, 70] rfl rfl rfl rfl pw_13 (fun H locs hP hS => ?_)
  have hD : va_D (fun q : Nat => s.heap.size ≤ q) (wl_law cA a b (va_up (va_up xi 0 c1) 11 c2) (va_up (va_up (va_up xa 12 c3) 13 c4) 14 c5) xl xm mi ma) := vd_a hD rfl
  refine lv_aload_n (pc := 434) hx hb dL_law_434 rfl (lv_at hl 2 rfl) ?_
  refine lv_aload_n (pc := 435) hx hb dL_law_435 rfl (lv_at hl 0 rfl) ?_
  refine lv_iload_n (pc := 436) hx hb dL_law_436 rfl (lv_at hl 3 rfl) ?_
  refine lv_iconst (pc := 437) (v := 1) hx hb dL_law_437 ic_1 ?_
  refine lv_iadd (pc := 438) hx hb dL_law_438 ?_
  refine va_sld (pc := 439) hx hb hX hbl hbA hS hi1 dL_law_439 ?_
  refine lv_aload_n (pc := 440) hx hb dL_law_440 rfl (lv_at hl 0 rfl) ?_
  refine lv_iload_n (pc := 441) hx hb dL_law_441 rfl (lv_at hl 3 rfl) ?_
  refine lv_iconst (pc := 442) (v := 2) hx hb dL_law_442 ic_2 ?_
  refine lv_iadd (pc := 443) hx hb dL_law_443 ?_
  refine va_sld (pc := 444) hx hb hX hbl hbA hS hi2 dL_law_444 ?_
  refine fin2_i (wl_law cA a b (va_up (va_up xi 0 c1) 11 c2) (va_up (va_up (va_up xa 12 c3) 13 c4) 14 c5) xl xm (va_up mi 5 d1) (va_up ma 10 d2)) (run_V (rest := [.int r]) (pc := 445) (As := [.int (xs (x3 + 1).toNatClampNeg), .int (xs (x3 + 2).toNatClampNeg)]) C mf_L_50 (c_X9_dog l D cA b (mi 0) (mi 1) (mi 2) (mi 3) (mi 4) (mi 5) (mi 6) (mi 7) (mi 8) (ma 10) (xs (x3 + 1).toNatClampNeg) (xs (x3 + 2).toNatClampNeg) (r, d1, d2) hq2 H.size) rfl rfl ⟨(Nat.le_of_ble_eq_true rfl), (Nat.le_of_ble_eq_true rfl)⟩ (preV_of C hP hD [54, 65] rfl (pl_nd pw_14) 0 rfl rfl rfl) rfl hl.1 rfl (Nat.le_of_ble_eq_true rfl) dL_law_445 ⟨(Nat.le_of_ble_eq_true rfl), (Nat.le_of_ble_eq_true rfl)⟩) hP hD hS hA [54, 65] [0, 1, 2, 3, 4, 5, 6, 7, 8, 9, 10, 11, 12, 13, 14, 15, 16, 17, 18, 19, 20, 21, 22, 23, 24, 25, 26, 27, 28, 29, 30, 31, 32, 33, 34, 35, 36, 37, 38, 39, 40, 41, 42, 43, 44, 45, 46, 47, 48, 49, 50, 51, 52, 53, 55, 56, 57, 58, 59, 60, 61, 62, 63, 64, 66, 67, 68, 69, 70] rfl rfl rfl rfl pw_14 (fun H locs hP hS => ?_)
  have hD : va_D (fun q : Nat => s.heap.size ≤ q) (wl_law cA a b (va_up (va_up xi 0 c1) 11 c2) (va_up (va_up (va_up xa 12 c3) 13 c4) 14 c5) xl xm (va_up mi 5 d1) (va_up ma 10 d2)) := vd_a hD rfl
  refine lv_icmp_eq (pc := 448) (tgt := 1369) hx hb dL_law_448 (by decide) (fun hc => ?_) (fun hc => absurd rfl hc)
  exact hn (va_up (va_up xi 0 c1) 11 c2) (va_up (va_up (va_up xa 12 c3) 13 c4) 14 c5) xl xm (va_up mi 5 d1) (va_up ma 10 d2) hrel H locs ls hP hD hS hl
set_option maxHeartbeats 4000000 in
set_option maxRecDepth 100000 in
theorem lc_9 {p : Program} {l : Launch} {e : Env} {s : State} {m : MethodId} {below : List Frame} {meth : Method} {c : Code} {D : va_G} {cA : Nat → ClassId} {bs L : Nat} {xs : Nat → Int32} {Q : State → Prop} (C : Cx RL code 4 D cA p s m #[Value.ref bs] c) (hA : ∀ q, s.heap.size ≤ q → (fun q : Nat => s.heap.size ≤ q) q) (hX : va_X bs L xs s s.heap) (hbl : bs < s.heap.size) (hbA : ¬ (fun q : Nat => s.heap.size ≤ q) bs) {x3 : Int32} (hi1 : vp_in (x3 + 1) L) (hi2 : vp_in (x3 + 2) L) (hi3 : vp_in (x3 + 3) L) (hi4 : vp_in (x3 + 4) L) (hi5 : vp_in (x3 + 5) L) (a b : Nat → Nat) (xi : Nat → Int32) (xa : Nat → Nat → Int32) (xl : Nat → Int64) (xm : Nat → Nat → Int64) (mi : Nat → Int32) (ma : Nat → Nat → Int32) (h : Rel xi xa xl xm mi ma) (hn : ∀ (xi : Nat → Int32) (xa : Nat → Nat → Int32) (xl : Nat → Int64) (xm : Nat → Nat → Int64) (mi : Nat → Int32) (ma : Nat → Nat → Int32), Rel xi xa xl xm mi ma → At p l e room_1 s m #[Value.ref bs] below meth c D (fun q : Nat => s.heap.size ≤ q) 71 2515 Q 4 1369 (wl_law cA a b xi xa xl xm mi ma) [(0, .ref bs), (1, .ref (a 0)), (2, .ref (b 0)), (3, .int x3)] []) : At p l e room_1 s m #[Value.ref bs] below meth c D (fun q : Nat => s.heap.size ≤ q) 71 2515 Q 4 453 (wl_law cA a b xi xa xl xm mi ma) [(0, .ref bs), (1, .ref (a 0)), (2, .ref (b 0)), (3, .int x3)] [] := by
  intro H locs ls hP hD hS hl
  have hx := C.1
  have hb := C.2.1
  have hown := C.2.2.2.1
  have hts := C.2.2.2.2.1
  obtain ⟨r, c1, c2, c3, d1, d2, hq1, hq2, hrel⟩ := sim_back h (xs (x3 + 1).toNatClampNeg)
  refine lv_aload_n (pc := 453) hx hb dL_law_453 rfl (lv_at hl 1 rfl) ?_
  refine lv_aload_n (pc := 454) hx hb dL_law_454 rfl (lv_at hl 0 rfl) ?_
  refine lv_iload_n (pc := 455) hx hb dL_law_455 rfl (lv_at hl 3 rfl) ?_
  refine lv_iconst (pc := 456) (v := 1) hx hb dL_law_456 ic_1 ?_
  refine lv_iadd (pc := 457) hx hb dL_law_457 ?_
  refine va_sld (pc := 458) hx hb hX hbl hbA hS hi1 dL_law_458 ?_
  refine fin2_i (wl_law cA a b (va_up (va_up (va_up xi 0 c1) 10 c2) 11 c3) xa xl xm mi ma) (run_V (rest := []) (pc := 459) (As := [.int (xs (x3 + 1).toNatClampNeg)]) C mf_L_51 (c_X8_back l D cA a (xi 0) (xi 1) (xi 10) (xi 11) (xs (x3 + 1).toNatClampNeg) (r, c1, c2, c3) hq1 H.size) rfl rfl ⟨(Nat.le_of_ble_eq_true rfl), (Nat.le_of_ble_eq_true rfl)⟩ (preV_of C hP hD [0, 15, 19] rfl (pl_nd pw_15) 0 rfl rfl rfl) rfl hl.1 rfl (Nat.le_of_ble_eq_true rfl) dL_law_459 ⟨(Nat.le_of_ble_eq_true rfl), (Nat.le_of_ble_eq_true rfl)⟩) hP hD hS hA [0, 15, 19] [1, 2, 3, 4, 5, 6, 7, 8, 9, 10, 11, 12, 13, 14, 16, 17, 18, 20, 21, 22, 23, 24, 25, 26, 27, 28, 29, 30, 31, 32, 33, 34, 35, 36, 37, 38, 39, 40, 41, 42, 43, 44, 45, 46, 47, 48, 49, 50, 51, 52, 53, 54, 55, 56, 57, 58, 59, 60, 61, 62, 63, 64, 65, 66, 67, 68, 69, 70] rfl rfl rfl rfl pw_15 (fun H locs hP hS => ?_)
  have hD : va_D (fun q : Nat => s.heap.size ≤ q) (wl_law cA a b (va_up (va_up (va_up xi 0 c1) 10 c2) 11 c3) xa xl xm mi ma) := vd_a hD rfl
  refine lv_aload_n (pc := 462) hx hb dL_law_462 rfl (lv_at hl 2 rfl) ?_
  refine lv_aload_n (pc := 463) hx hb dL_law_463 rfl (lv_at hl 0 rfl) ?_
  refine lv_iload_n (pc := 464) hx hb dL_law_464 rfl (lv_at hl 3 rfl) ?_
  refine lv_iconst (pc := 465) (v := 1) hx hb dL_law_465 ic_1 ?_
  refine lv_iadd (pc := 466) hx hb dL_law_466 ?_
  refine va_sld (pc := 467) hx hb hX hbl hbA hS hi1 dL_law_467 ?_
  refine fin2_i (wl_law cA a b (va_up (va_up (va_up xi 0 c1) 10 c2) 11 c3) xa xl xm (va_up (va_up mi 4 d1) 5 d2) ma) (run_V (rest := [.int r]) (pc := 468) (As := [.int (xs (x3 + 1).toNatClampNeg)]) C mf_L_54 (c_X9_back l D cA b (mi 0) (mi 1) (mi 2) (mi 3) (mi 4) (mi 5) (mi 6) (mi 7) (mi 8) (xs (x3 + 1).toNatClampNeg) (r, d1, d2) hq2 H.size) rfl rfl ⟨(Nat.le_of_ble_eq_true rfl), (Nat.le_of_ble_eq_true rfl)⟩ (preV_of C hP hD [54] rfl (pl_nd pw_16) 0 rfl rfl rfl) rfl hl.1 rfl (Nat.le_of_ble_eq_true rfl) dL_law_468 ⟨(Nat.le_of_ble_eq_true rfl), (Nat.le_of_ble_eq_true rfl)⟩) hP hD hS hA [54] [0, 1, 2, 3, 4, 5, 6, 7, 8, 9, 10, 11, 12, 13, 14, 15, 16, 17, 18, 19, 20, 21, 22, 23, 24, 25, 26, 27, 28, 29, 30, 31, 32, 33, 34, 35, 36, 37, 38, 39, 40, 41, 42, 43, 44, 45, 46, 47, 48, 49, 50, 51, 52, 53, 55, 56, 57, 58, 59, 60, 61, 62, 63, 64, 65, 66, 67, 68, 69, 70] rfl rfl rfl rfl pw_16 (fun H locs hP hS => ?_)
  have hD : va_D (fun q : Nat => s.heap.size ≤ q) (wl_law cA a b (va_up (va_up (va_up xi 0 c1) 10 c2) 11 c3) xa xl xm (va_up (va_up mi 4 d1) 5 d2) ma) := vd_a hD rfl
  refine lv_icmp_eq (pc := 471) (tgt := 1369) hx hb dL_law_471 (by decide) (fun hc => ?_) (fun hc => absurd rfl hc)
  exact hn (va_up (va_up (va_up xi 0 c1) 10 c2) 11 c3) xa xl xm (va_up (va_up mi 4 d1) 5 d2) ma hrel H locs ls hP hD hS hl
set_option maxHeartbeats 4000000 in
set_option maxRecDepth 100000 in
theorem lc_10 {p : Program} {l : Launch} {e : Env} {s : State} {m : MethodId} {below : List Frame} {meth : Method} {c : Code} {D : va_G} {cA : Nat → ClassId} {bs L : Nat} {xs : Nat → Int32} {Q : State → Prop} (C : Cx RL code 4 D cA p s m #[Value.ref bs] c) (hA : ∀ q, s.heap.size ≤ q → (fun q : Nat => s.heap.size ≤ q) q) (hX : va_X bs L xs s s.heap) (hbl : bs < s.heap.size) (hbA : ¬ (fun q : Nat => s.heap.size ≤ q) bs) {x3 : Int32} (hi1 : vp_in (x3 + 1) L) (hi2 : vp_in (x3 + 2) L) (hi3 : vp_in (x3 + 3) L) (hi4 : vp_in (x3 + 4) L) (hi5 : vp_in (x3 + 5) L) (a b : Nat → Nat) (xi : Nat → Int32) (xa : Nat → Nat → Int32) (xl : Nat → Int64) (xm : Nat → Nat → Int64) (mi : Nat → Int32) (ma : Nat → Nat → Int32) (h : Rel xi xa xl xm mi ma) (hn : ∀ (xi : Nat → Int32) (xa : Nat → Nat → Int32) (xl : Nat → Int64) (xm : Nat → Nat → Int64) (mi : Nat → Int32) (ma : Nat → Nat → Int32), Rel xi xa xl xm mi ma → At p l e room_1 s m #[Value.ref bs] below meth c D (fun q : Nat => s.heap.size ≤ q) 71 2515 Q 4 1369 (wl_law cA a b xi xa xl xm mi ma) [(0, .ref bs), (1, .ref (a 0)), (2, .ref (b 0)), (3, .int x3)] []) : At p l e room_1 s m #[Value.ref bs] below meth c D (fun q : Nat => s.heap.size ≤ q) 71 2515 Q 4 476 (wl_law cA a b xi xa xl xm mi ma) [(0, .ref bs), (1, .ref (a 0)), (2, .ref (b 0)), (3, .int x3)] [] := by
  intro H locs ls hP hD hS hl
  have hx := C.1
  have hb := C.2.1
  have hown := C.2.2.2.1
  have hts := C.2.2.2.2.1
  obtain ⟨r, c1, c2, c3, c4, c5, c6, d1, d2, d3, hq1, hq2, hrel⟩ := sim_read h (xs (x3 + 1).toNatClampNeg)
  refine lv_aload_n (pc := 476) hx hb dL_law_476 rfl (lv_at hl 1 rfl) ?_
  refine lv_aload_n (pc := 477) hx hb dL_law_477 rfl (lv_at hl 0 rfl) ?_
  refine lv_iload_n (pc := 478) hx hb dL_law_478 rfl (lv_at hl 3 rfl) ?_
  refine lv_iconst (pc := 479) (v := 1) hx hb dL_law_479 ic_1 ?_
  refine lv_iadd (pc := 480) hx hb dL_law_480 ?_
  refine va_sld (pc := 481) hx hb hX hbl hbA hS hi1 dL_law_481 ?_
  refine fin2_i (wl_law cA a b (va_up (va_up (va_up xi 0 c1) 1 c2) 10 c3) (va_up (va_up (va_up xa 9 c4) 10 c5) 11 c6) xl xm mi ma) (run_V (rest := []) (pc := 482) (As := [.int (xs (x3 + 1).toNatClampNeg)]) C mf_L_55 (c_X8_read l D cA a (xi 0) (xi 1) (xi 10) (xa 9) (xa 10) (xa 11) (xi 24) (xi 25) (xi 26) (xa 29) (xi 27) (xi 28) (xi 29) (xa 30) (xi 30) (xi 31) (xi 32) (xa 31) (xi 33) (xi 34) (xi 35) (xa 32) (xs (x3 + 1).toNatClampNeg) (r, c1, c2, c3, c4, c5, c6) hq1 H.size) rfl rfl ⟨(Nat.le_of_ble_eq_true rfl), (Nat.le_of_ble_eq_true rfl)⟩ (preV_of C hP hD [0, 15, 16, 17, 18, 45, 46, 47, 48, 49, 50, 51, 52, 53] rfl (pl_nd pw_17) 0 rfl rfl rfl) rfl hl.1 rfl (Nat.le_of_ble_eq_true rfl) dL_law_482 ⟨(Nat.le_of_ble_eq_true rfl), (Nat.le_of_ble_eq_true rfl)⟩) hP hD hS hA [0, 15, 16, 17, 18, 45, 46, 47, 48, 49, 50, 51, 52, 53] [1, 2, 3, 4, 5, 6, 7, 8, 9, 10, 11, 12, 13, 14, 19, 20, 21, 22, 23, 24, 25, 26, 27, 28, 29, 30, 31, 32, 33, 34, 35, 36, 37, 38, 39, 40, 41, 42, 43, 44, 54, 55, 56, 57, 58, 59, 60, 61, 62, 63, 64, 65, 66, 67, 68, 69, 70] rfl rfl rfl rfl pw_17 (fun H locs hP hS => ?_)
  have hD : va_D (fun q : Nat => s.heap.size ≤ q) (wl_law cA a b (va_up (va_up (va_up xi 0 c1) 1 c2) 10 c3) (va_up (va_up (va_up xa 9 c4) 10 c5) 11 c6) xl xm mi ma) := vd_a hD rfl
  refine lv_aload_n (pc := 485) hx hb dL_law_485 rfl (lv_at hl 2 rfl) ?_
  refine lv_aload_n (pc := 486) hx hb dL_law_486 rfl (lv_at hl 0 rfl) ?_
  refine lv_iload_n (pc := 487) hx hb dL_law_487 rfl (lv_at hl 3 rfl) ?_
  refine lv_iconst (pc := 488) (v := 1) hx hb dL_law_488 ic_1 ?_
  refine lv_iadd (pc := 489) hx hb dL_law_489 ?_
  refine va_sld (pc := 490) hx hb hX hbl hbA hS hi1 dL_law_490 ?_
  refine fin2_i (wl_law cA a b (va_up (va_up (va_up xi 0 c1) 1 c2) 10 c3) (va_up (va_up (va_up xa 9 c4) 10 c5) 11 c6) xl xm (va_up (va_up mi 0 d1) 4 d2) (va_up ma 9 d3)) (run_V (rest := [.int r]) (pc := 491) (As := [.int (xs (x3 + 1).toNatClampNeg)]) C mf_L_58 (c_X9_read l D cA b (mi 0) (mi 1) (mi 2) (mi 3) (mi 4) (mi 5) (mi 6) (mi 7) (mi 8) (ma 0) (ma 1) (ma 2) (ma 9) (xs (x3 + 1).toNatClampNeg) (r, d1, d2, d3) hq2 H.size) rfl rfl ⟨(Nat.le_of_ble_eq_true rfl), (Nat.le_of_ble_eq_true rfl)⟩ (preV_of C hP hD [54, 55, 56, 57, 64] rfl (pl_nd pw_18) 0 rfl rfl rfl) rfl hl.1 rfl (Nat.le_of_ble_eq_true rfl) dL_law_491 ⟨(Nat.le_of_ble_eq_true rfl), (Nat.le_of_ble_eq_true rfl)⟩) hP hD hS hA [54, 55, 56, 57, 64] [0, 1, 2, 3, 4, 5, 6, 7, 8, 9, 10, 11, 12, 13, 14, 15, 16, 17, 18, 19, 20, 21, 22, 23, 24, 25, 26, 27, 28, 29, 30, 31, 32, 33, 34, 35, 36, 37, 38, 39, 40, 41, 42, 43, 44, 45, 46, 47, 48, 49, 50, 51, 52, 53, 58, 59, 60, 61, 62, 63, 65, 66, 67, 68, 69, 70] rfl rfl rfl rfl pw_18 (fun H locs hP hS => ?_)
  have hD : va_D (fun q : Nat => s.heap.size ≤ q) (wl_law cA a b (va_up (va_up (va_up xi 0 c1) 1 c2) 10 c3) (va_up (va_up (va_up xa 9 c4) 10 c5) 11 c6) xl xm (va_up (va_up mi 0 d1) 4 d2) (va_up ma 9 d3)) := vd_a hD rfl
  refine lv_icmp_eq (pc := 494) (tgt := 1369) hx hb dL_law_494 (by decide) (fun hc => ?_) (fun hc => absurd rfl hc)
  exact hn (va_up (va_up (va_up xi 0 c1) 1 c2) 10 c3) (va_up (va_up (va_up xa 9 c4) 10 c5) 11 c6) xl xm (va_up (va_up mi 0 d1) 4 d2) (va_up ma 9 d3) hrel H locs ls hP hD hS hl
set_option maxHeartbeats 4000000 in
set_option maxRecDepth 100000 in
theorem lc_11 {p : Program} {l : Launch} {e : Env} {s : State} {m : MethodId} {below : List Frame} {meth : Method} {c : Code} {D : va_G} {cA : Nat → ClassId} {bs L : Nat} {xs : Nat → Int32} {Q : State → Prop} (C : Cx RL code 4 D cA p s m #[Value.ref bs] c) (hA : ∀ q, s.heap.size ≤ q → (fun q : Nat => s.heap.size ≤ q) q) (hX : va_X bs L xs s s.heap) (hbl : bs < s.heap.size) (hbA : ¬ (fun q : Nat => s.heap.size ≤ q) bs) {x3 : Int32} (hi1 : vp_in (x3 + 1) L) (hi2 : vp_in (x3 + 2) L) (hi3 : vp_in (x3 + 3) L) (hi4 : vp_in (x3 + 4) L) (hi5 : vp_in (x3 + 5) L) (a b : Nat → Nat) (xi : Nat → Int32) (xa : Nat → Nat → Int32) (xl : Nat → Int64) (xm : Nat → Nat → Int64) (mi : Nat → Int32) (ma : Nat → Nat → Int32) (h : Rel xi xa xl xm mi ma) (hn : ∀ (xi : Nat → Int32) (xa : Nat → Nat → Int32) (xl : Nat → Int64) (xm : Nat → Nat → Int64) (mi : Nat → Int32) (ma : Nat → Nat → Int32), Rel xi xa xl xm mi ma → At p l e room_1 s m #[Value.ref bs] below meth c D (fun q : Nat => s.heap.size ≤ q) 71 2515 Q 4 1369 (wl_law cA a b xi xa xl xm mi ma) [(0, .ref bs), (1, .ref (a 0)), (2, .ref (b 0)), (3, .int x3)] []) : At p l e room_1 s m #[Value.ref bs] below meth c D (fun q : Nat => s.heap.size ≤ q) 71 2515 Q 4 499 (wl_law cA a b xi xa xl xm mi ma) [(0, .ref bs), (1, .ref (a 0)), (2, .ref (b 0)), (3, .int x3)] [] := by
  intro H locs ls hP hD hS hl
  have hx := C.1
  have hb := C.2.1
  have hown := C.2.2.2.1
  have hts := C.2.2.2.2.1
  obtain ⟨r, c1, c2, c3, c4, c5, c6, c7, d1, d2, d3, d4, d5, d6, d7, d8, hq1, hq2, hrel⟩ := sim_at h (xs (x3 + 1).toNatClampNeg) (xs (x3 + 2).toNatClampNeg)
  refine lv_aload_n (pc := 499) hx hb dL_law_499 rfl (lv_at hl 1 rfl) ?_
  refine lv_aload_n (pc := 500) hx hb dL_law_500 rfl (lv_at hl 0 rfl) ?_
  refine lv_iload_n (pc := 501) hx hb dL_law_501 rfl (lv_at hl 3 rfl) ?_
  refine lv_iconst (pc := 502) (v := 1) hx hb dL_law_502 ic_1 ?_
  refine lv_iadd (pc := 503) hx hb dL_law_503 ?_
  refine va_sld (pc := 504) hx hb hX hbl hbA hS hi1 dL_law_504 ?_
  refine lv_aload_n (pc := 505) hx hb dL_law_505 rfl (lv_at hl 0 rfl) ?_
  refine lv_iload_n (pc := 506) hx hb dL_law_506 rfl (lv_at hl 3 rfl) ?_
  refine lv_iconst (pc := 507) (v := 2) hx hb dL_law_507 ic_2 ?_
  refine lv_iadd (pc := 508) hx hb dL_law_508 ?_
  refine va_sld (pc := 509) hx hb hX hbl hbA hS hi2 dL_law_509 ?_
  refine fin2_i (wl_law cA a b (va_up xi 0 c1) (va_up (va_up (va_up (va_up (va_up xa 18 c2) 19 c3) 20 c4) 21 c5) 22 c7) xl (va_up xm 0 c6) mi ma) (run_V (rest := []) (pc := 510) (As := [.int (xs (x3 + 1).toNatClampNeg), .int (xs (x3 + 2).toNatClampNeg)]) C mf_L_59 (c_X8_at l D cA a (xi 0) (xi 1) (xi 4) (xi 5) (xi 6) (xi 7) (xa 2) (xa 3) (xa 4) (xa 5) (xa 6) (xi 10) (xa 9) (xa 10) (xi 11) (xa 12) (xa 13) (xi 13) (xi 14) (xi 15) (xi 16) (xa 18) (xa 19) (xa 20) (xa 21) (xm 0) (xa 22) (xs (x3 + 1).toNatClampNeg) (xs (x3 + 2).toNatClampNeg) (r, c1, c2, c3, c4, c5, c6, c7) hq1 H.size) rfl rfl ⟨(Nat.le_of_ble_eq_true rfl), (Nat.le_of_ble_eq_true rfl)⟩ (preV_of C hP hD [0, 6, 7, 8, 9, 10, 11, 15, 16, 17, 19, 20, 21, 27, 28, 29, 30, 31, 32, 33] rfl (pl_nd pw_19) 0 rfl rfl rfl) rfl hl.1 rfl (Nat.le_of_ble_eq_true rfl) dL_law_510 ⟨(Nat.le_of_ble_eq_true rfl), (Nat.le_of_ble_eq_true rfl)⟩) hP hD hS hA [0, 6, 7, 8, 9, 10, 11, 15, 16, 17, 19, 20, 21, 27, 28, 29, 30, 31, 32, 33] [1, 2, 3, 4, 5, 12, 13, 14, 18, 22, 23, 24, 25, 26, 34, 35, 36, 37, 38, 39, 40, 41, 42, 43, 44, 45, 46, 47, 48, 49, 50, 51, 52, 53, 54, 55, 56, 57, 58, 59, 60, 61, 62, 63, 64, 65, 66, 67, 68, 69, 70] rfl rfl rfl rfl pw_19 (fun H locs hP hS => ?_)
  have hD : va_D (fun q : Nat => s.heap.size ≤ q) (wl_law cA a b (va_up xi 0 c1) (va_up (va_up (va_up (va_up (va_up xa 18 c2) 19 c3) 20 c4) 21 c5) 22 c7) xl (va_up xm 0 c6) mi ma) := vd_a hD rfl
  refine lv_aload_n (pc := 513) hx hb dL_law_513 rfl (lv_at hl 2 rfl) ?_
  refine lv_aload_n (pc := 514) hx hb dL_law_514 rfl (lv_at hl 0 rfl) ?_
  refine lv_iload_n (pc := 515) hx hb dL_law_515 rfl (lv_at hl 3 rfl) ?_
  refine lv_iconst (pc := 516) (v := 1) hx hb dL_law_516 ic_1 ?_
  refine lv_iadd (pc := 517) hx hb dL_law_517 ?_
  refine va_sld (pc := 518) hx hb hX hbl hbA hS hi1 dL_law_518 ?_
  refine lv_aload_n (pc := 519) hx hb dL_law_519 rfl (lv_at hl 0 rfl) ?_
  refine lv_iload_n (pc := 520) hx hb dL_law_520 rfl (lv_at hl 3 rfl) ?_
  refine lv_iconst (pc := 521) (v := 2) hx hb dL_law_521 ic_2 ?_
  refine lv_iadd (pc := 522) hx hb dL_law_522 ?_
  refine va_sld (pc := 523) hx hb hX hbl hbA hS hi2 dL_law_523 ?_
  refine fin2_i (wl_law cA a b (va_up xi 0 c1) (va_up (va_up (va_up (va_up (va_up xa 18 c2) 19 c3) 20 c4) 21 c5) 22 c7) xl (va_up xm 0 c6) (va_up (va_up (va_up mi 1 d1) 2 d2) 3 d3) (va_up (va_up (va_up (va_up (va_up ma 6 d4) 7 d5) 11 d6) 12 d7) 13 d8)) (run_V (rest := [.int r]) (pc := 524) (As := [.int (xs (x3 + 1).toNatClampNeg), .int (xs (x3 + 2).toNatClampNeg)]) C mf_L_62 (c_X9_at l D cA b (mi 0) (mi 1) (mi 2) (mi 3) (mi 4) (mi 5) (mi 6) (mi 7) (mi 8) (ma 4) (ma 5) (ma 6) (ma 7) (ma 8) (ma 9) (ma 10) (ma 11) (ma 12) (ma 13) (xs (x3 + 1).toNatClampNeg) (xs (x3 + 2).toNatClampNeg) (r, d1, d2, d3, d4, d5, d6, d7, d8) hq2 H.size) rfl rfl ⟨(Nat.le_of_ble_eq_true rfl), (Nat.le_of_ble_eq_true rfl)⟩ (preV_of C hP hD [54, 59, 60, 61, 62, 63, 64, 65, 66, 67, 68] rfl (pl_nd pw_20) 0 rfl rfl rfl) rfl hl.1 rfl (Nat.le_of_ble_eq_true rfl) dL_law_524 ⟨(Nat.le_of_ble_eq_true rfl), (Nat.le_of_ble_eq_true rfl)⟩) hP hD hS hA [54, 59, 60, 61, 62, 63, 64, 65, 66, 67, 68] [0, 1, 2, 3, 4, 5, 6, 7, 8, 9, 10, 11, 12, 13, 14, 15, 16, 17, 18, 19, 20, 21, 22, 23, 24, 25, 26, 27, 28, 29, 30, 31, 32, 33, 34, 35, 36, 37, 38, 39, 40, 41, 42, 43, 44, 45, 46, 47, 48, 49, 50, 51, 52, 53, 55, 56, 57, 58, 69, 70] rfl rfl rfl rfl pw_20 (fun H locs hP hS => ?_)
  have hD : va_D (fun q : Nat => s.heap.size ≤ q) (wl_law cA a b (va_up xi 0 c1) (va_up (va_up (va_up (va_up (va_up xa 18 c2) 19 c3) 20 c4) 21 c5) 22 c7) xl (va_up xm 0 c6) (va_up (va_up (va_up mi 1 d1) 2 d2) 3 d3) (va_up (va_up (va_up (va_up (va_up ma 6 d4) 7 d5) 11 d6) 12 d7) 13 d8)) := vd_a hD rfl
  refine lv_icmp_eq (pc := 527) (tgt := 1369) hx hb dL_law_527 (by decide) (fun hc => ?_) (fun hc => absurd rfl hc)
  exact hn (va_up xi 0 c1) (va_up (va_up (va_up (va_up (va_up xa 18 c2) 19 c3) 20 c4) 21 c5) 22 c7) xl (va_up xm 0 c6) (va_up (va_up (va_up mi 1 d1) 2 d2) 3 d3) (va_up (va_up (va_up (va_up (va_up ma 6 d4) 7 d5) 11 d6) 12 d7) 13 d8) hrel H locs ls hP hD hS hl
set_option maxHeartbeats 4000000 in
set_option maxRecDepth 100000 in
theorem lc_12 {p : Program} {l : Launch} {e : Env} {s : State} {m : MethodId} {below : List Frame} {meth : Method} {c : Code} {D : va_G} {cA : Nat → ClassId} {bs L : Nat} {xs : Nat → Int32} {Q : State → Prop} (C : Cx RL code 4 D cA p s m #[Value.ref bs] c) (hA : ∀ q, s.heap.size ≤ q → (fun q : Nat => s.heap.size ≤ q) q) (hX : va_X bs L xs s s.heap) (hbl : bs < s.heap.size) (hbA : ¬ (fun q : Nat => s.heap.size ≤ q) bs) {x3 : Int32} (hi1 : vp_in (x3 + 1) L) (hi2 : vp_in (x3 + 2) L) (hi3 : vp_in (x3 + 3) L) (hi4 : vp_in (x3 + 4) L) (hi5 : vp_in (x3 + 5) L) (a b : Nat → Nat) (xi : Nat → Int32) (xa : Nat → Nat → Int32) (xl : Nat → Int64) (xm : Nat → Nat → Int64) (mi : Nat → Int32) (ma : Nat → Nat → Int32) (h : Rel xi xa xl xm mi ma) (hn : ∀ (xi : Nat → Int32) (xa : Nat → Nat → Int32) (xl : Nat → Int64) (xm : Nat → Nat → Int64) (mi : Nat → Int32) (ma : Nat → Nat → Int32), Rel xi xa xl xm mi ma → At p l e room_1 s m #[Value.ref bs] below meth c D (fun q : Nat => s.heap.size ≤ q) 71 2515 Q 4 1369 (wl_law cA a b xi xa xl xm mi ma) [(0, .ref bs), (1, .ref (a 0)), (2, .ref (b 0)), (3, .int x3)] []) : At p l e room_1 s m #[Value.ref bs] below meth c D (fun q : Nat => s.heap.size ≤ q) 71 2515 Q 4 532 (wl_law cA a b xi xa xl xm mi ma) [(0, .ref bs), (1, .ref (a 0)), (2, .ref (b 0)), (3, .int x3)] [] := by
  intro H locs ls hP hD hS hl
  have hx := C.1
  have hb := C.2.1
  have hown := C.2.2.2.1
  have hts := C.2.2.2.2.1
  obtain ⟨r, c1, c2, c3, c4, c5, c6, c7, d1, d2, d3, d4, d5, d6, d7, d8, hq1, hq2, hrel⟩ := sim_goes h (xs (x3 + 1).toNatClampNeg)
  refine lv_aload_n (pc := 532) hx hb dL_law_532 rfl (lv_at hl 1 rfl) ?_
  refine lv_aload_n (pc := 533) hx hb dL_law_533 rfl (lv_at hl 0 rfl) ?_
  refine lv_iload_n (pc := 534) hx hb dL_law_534 rfl (lv_at hl 3 rfl) ?_
  refine lv_iconst (pc := 535) (v := 1) hx hb dL_law_535 ic_1 ?_
  refine lv_iadd (pc := 536) hx hb dL_law_536 ?_
  refine va_sld (pc := 537) hx hb hX hbl hbA hS hi1 dL_law_537 ?_
  refine fin2_i (wl_law cA a b (va_up xi 0 c1) (va_up (va_up (va_up (va_up (va_up xa 18 c2) 19 c3) 20 c4) 21 c5) 22 c7) xl (va_up xm 0 c6) mi ma) (run_V (rest := []) (pc := 538) (As := [.int (xs (x3 + 1).toNatClampNeg)]) C mf_L_63 (c_X8_goes l D cA a (xi 0) (xi 1) (xi 4) (xi 5) (xi 6) (xi 7) (xa 2) (xa 3) (xa 4) (xa 5) (xa 6) (xi 10) (xa 9) (xa 10) (xi 11) (xa 12) (xa 13) (xi 13) (xi 14) (xi 15) (xi 16) (xa 18) (xa 19) (xa 20) (xa 21) (xm 0) (xa 22) (xs (x3 + 1).toNatClampNeg) (r, c1, c2, c3, c4, c5, c6, c7) hq1 H.size) rfl rfl ⟨(Nat.le_of_ble_eq_true rfl), (Nat.le_of_ble_eq_true rfl)⟩ (preV_of C hP hD [0, 6, 7, 8, 9, 10, 11, 15, 16, 17, 19, 20, 21, 27, 28, 29, 30, 31, 32, 33] rfl (pl_nd pw_19) 0 rfl rfl rfl) rfl hl.1 rfl (Nat.le_of_ble_eq_true rfl) dL_law_538 ⟨(Nat.le_of_ble_eq_true rfl), (Nat.le_of_ble_eq_true rfl)⟩) hP hD hS hA [0, 6, 7, 8, 9, 10, 11, 15, 16, 17, 19, 20, 21, 27, 28, 29, 30, 31, 32, 33] [1, 2, 3, 4, 5, 12, 13, 14, 18, 22, 23, 24, 25, 26, 34, 35, 36, 37, 38, 39, 40, 41, 42, 43, 44, 45, 46, 47, 48, 49, 50, 51, 52, 53, 54, 55, 56, 57, 58, 59, 60, 61, 62, 63, 64, 65, 66, 67, 68, 69, 70] rfl rfl rfl rfl pw_19 (fun H locs hP hS => ?_)
  have hD : va_D (fun q : Nat => s.heap.size ≤ q) (wl_law cA a b (va_up xi 0 c1) (va_up (va_up (va_up (va_up (va_up xa 18 c2) 19 c3) 20 c4) 21 c5) 22 c7) xl (va_up xm 0 c6) mi ma) := vd_a hD rfl
  refine lv_aload_n (pc := 541) hx hb dL_law_541 rfl (lv_at hl 2 rfl) ?_
  refine lv_aload_n (pc := 542) hx hb dL_law_542 rfl (lv_at hl 0 rfl) ?_
  refine lv_iload_n (pc := 543) hx hb dL_law_543 rfl (lv_at hl 3 rfl) ?_
  refine lv_iconst (pc := 544) (v := 1) hx hb dL_law_544 ic_1 ?_
  refine lv_iadd (pc := 545) hx hb dL_law_545 ?_
  refine va_sld (pc := 546) hx hb hX hbl hbA hS hi1 dL_law_546 ?_
  refine fin2_i (wl_law cA a b (va_up xi 0 c1) (va_up (va_up (va_up (va_up (va_up xa 18 c2) 19 c3) 20 c4) 21 c5) 22 c7) xl (va_up xm 0 c6) (va_up (va_up (va_up mi 1 d1) 2 d2) 3 d3) (va_up (va_up (va_up (va_up (va_up ma 6 d4) 7 d5) 11 d6) 12 d7) 13 d8)) (run_V (rest := [.int r]) (pc := 547) (As := [.int (xs (x3 + 1).toNatClampNeg)]) C mf_L_66 (c_X9_goes l D cA b (mi 0) (mi 1) (mi 2) (mi 3) (mi 4) (mi 5) (mi 6) (mi 7) (mi 8) (ma 4) (ma 5) (ma 6) (ma 7) (ma 8) (ma 9) (ma 10) (ma 11) (ma 12) (ma 13) (xs (x3 + 1).toNatClampNeg) (r, d1, d2, d3, d4, d5, d6, d7, d8) hq2 H.size) rfl rfl ⟨(Nat.le_of_ble_eq_true rfl), (Nat.le_of_ble_eq_true rfl)⟩ (preV_of C hP hD [54, 59, 60, 61, 62, 63, 64, 65, 66, 67, 68] rfl (pl_nd pw_20) 0 rfl rfl rfl) rfl hl.1 rfl (Nat.le_of_ble_eq_true rfl) dL_law_547 ⟨(Nat.le_of_ble_eq_true rfl), (Nat.le_of_ble_eq_true rfl)⟩) hP hD hS hA [54, 59, 60, 61, 62, 63, 64, 65, 66, 67, 68] [0, 1, 2, 3, 4, 5, 6, 7, 8, 9, 10, 11, 12, 13, 14, 15, 16, 17, 18, 19, 20, 21, 22, 23, 24, 25, 26, 27, 28, 29, 30, 31, 32, 33, 34, 35, 36, 37, 38, 39, 40, 41, 42, 43, 44, 45, 46, 47, 48, 49, 50, 51, 52, 53, 55, 56, 57, 58, 69, 70] rfl rfl rfl rfl pw_20 (fun H locs hP hS => ?_)
  have hD : va_D (fun q : Nat => s.heap.size ≤ q) (wl_law cA a b (va_up xi 0 c1) (va_up (va_up (va_up (va_up (va_up xa 18 c2) 19 c3) 20 c4) 21 c5) 22 c7) xl (va_up xm 0 c6) (va_up (va_up (va_up mi 1 d1) 2 d2) 3 d3) (va_up (va_up (va_up (va_up (va_up ma 6 d4) 7 d5) 11 d6) 12 d7) 13 d8)) := vd_a hD rfl
  refine lv_icmp_eq (pc := 550) (tgt := 1369) hx hb dL_law_550 (by decide) (fun hc => ?_) (fun hc => absurd rfl hc)
  exact hn (va_up xi 0 c1) (va_up (va_up (va_up (va_up (va_up xa 18 c2) 19 c3) 20 c4) 21 c5) 22 c7) xl (va_up xm 0 c6) (va_up (va_up (va_up mi 1 d1) 2 d2) 3 d3) (va_up (va_up (va_up (va_up (va_up ma 6 d4) 7 d5) 11 d6) 12 d7) 13 d8) hrel H locs ls hP hD hS hl
