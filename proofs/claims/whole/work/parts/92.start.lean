theorem q_swap {D : va_G} {cl : List vw_C} {ws : va_W} {H : Heap} {a n : Nat} {k0 : ClassId} {f g : Nat → Option Nat} (k : Nat) (he : ws[k]? = some (a, .inl (k0, n, .inr (.inr (.inr (.inr f)))))) (hfg : ∀ j, j < n → f j = g j) (hP : va_P D cl ws H) : va_P D cl (ws.set k (a, .inl (k0, n, .inr (.inr (.inr (.inr g)))))) H := by
  intro i q hq
  by_cases hk : k = i
  · subst hk
    rw [List.getElem?_set] at hq
    simp only [if_true] at hq
    split at hq
    · have e : q = (a, .inl (k0, n, .inr (.inr (.inr (.inr g))))) := (Option.some.inj hq).symm
      subst e
      have h1 : H[a]? = some (vp_cell k0 (n, .inr (.inr (.inr (.inr f))))) := hP k _ he
      show H[a]? = some (vp_cell k0 (n, .inr (.inr (.inr (.inr g)))))
      rw [h1, vp_cell_q, vp_cell_q]
      unfold arrV
      congr 2
      congr 1
      funext j
      show va_rf (f j.val) = va_rf (g j.val)
      rw [hfg j.val j.isLt]
    · cases hq
  · rw [List.getElem?_set_ne hk] at hq
    exact hP i q hq
def xi0 : Nat → Int32 := fun k => ([(1 : Int32), (0 : Int32), (0 : Int32), (0 : Int32), (-1 : Int32), (0 : Int32), (0 : Int32), (0 : Int32), (-1 : Int32), (0 : Int32), (0 : Int32), (0 : Int32), (0 : Int32), (0 : Int32), (10 : Int32), (-1 : Int32), (-1 : Int32), (0 : Int32), (10 : Int32), (-1 : Int32), (-1 : Int32), (-1 : Int32), (-1 : Int32), (-1 : Int32), (1 : Int32), (0 : Int32), (0 : Int32), (1 : Int32), (0 : Int32), (0 : Int32), (1 : Int32), (0 : Int32), (0 : Int32), (1 : Int32), (0 : Int32), (0 : Int32)] : List (Int32)).getD k 0
def xa0 : Nat → Nat → Int32 := fun k => ([(fun _ => 0), (fun _ => 0), (fun _ => 0), (fun _ => 0), (fun _ => 0), (fun _ => 0), (fun _ => 0), (fun _ => 0), (fun _ => 0), (fun _ => 0), (fun _ => 0), (fun _ => 0), (fun _ => 0), (fun _ => 0), (fun _ => 0), (fun _ => 0), (fun _ => 0), (fun _ => 0), (fun _ => 0), (fun _ => 0), (fun _ => 0), (fun _ => 0), (fun _ => 0), (fun _ => 0), (fun _ => 0), (fun _ => 0), (fun _ => 0), (fun _ => 0), (fun _ => 0), (fun _ => 0), (fun _ => 0), (fun _ => 0), (fun _ => 0)] : List (Nat → Int32)).getD k (fun _ => 0)
def xl0 : Nat → Int64 := fun k => ([(1 : Int64), (0 : Int64), (1 : Int64)] : List (Int64)).getD k 0
def xm0 : Nat → Nat → Int64 := fun k => ([(fun _ => 0), (fun _ => 0), (fun _ => 0)] : List (Nat → Int64)).getD k (fun _ => 0)
def mi0 : Nat → Int32 := fun k => ([0, 0, 0, 0, 0, 0, 0, 0, 0] : List (Int32)).getD k 0
def ma0 : Nat → Nat → Int32 := fun k => ([(upd (upd (upd (upd (fun _ => 0) (0 : Int32).toNatClampNeg (-1 : Int32)) (1 : Int32).toNatClampNeg (-1 : Int32)) (2 : Int32).toNatClampNeg (-1 : Int32)) (3 : Int32).toNatClampNeg (-1 : Int32)), (fun _ => 0), (fun _ => 0), (fun _ => 0), (fun _ => 0), (fun _ => 0), (fun _ => 0), (fun _ => 0), (upd (fun _ => 0) (1 : Int32).toNatClampNeg (10 : Int32)), (fun _ => 0), (fun _ => 0), (fun _ => 0), (fun _ => 0), (fun _ => 0), (fun _ => 0), (fun _ => 0)] : List (Nat → Int32)).getD k (fun _ => 0)
theorem rel0_land : f_X3_understand 41 (-1) 0 0 0 (fun _ => 0) (fun _ => 0) (fun _ => 0) (fun _ => 0) (fun _ => 0) 0 (fun _ => 0) = some (-1, 0, 0, 0, (fun _ => 0), (fun _ => 0), (fun _ => 0), (fun _ => 0), (fun _ => 0)) := by
  unfold f_X3_understand f_X3_becomeEmpty
  rw [bind3_def, if_pos rfl]
  unfold f_X3_understand_b21
  rw [if_pos rfl]
  exact und_b36_0 _ _ _ _ _ _ _ _ _ _
theorem rel0_house : f_X1_understand 31 (-1) 0 (fun _ => 0) (fun _ => 0) 0 (fun _ => 0) = some (-1, 0, (fun _ => 0), (fun _ => 0)) := by
  have e1 : f_X1_findFlaw 31 0 (fun _ => 0) = some (-1) := by
    unfold f_X1_findFlaw
    have e : loopF (fun q : Int32 => f_X1_findFlaw_L2 31 0 (fun _ => 0) q) FU 0 = some (.inr ()) := by
      show loopF _ (4095 + 1) _ = _
      refine loopF_end ?_
      show f_X1_findFlaw_L2 31 0 (fun _ => 0) 0 = _
      unfold f_X1_findFlaw_L2
      rw [if_pos (by decide)]
    rw [e]; rfl
  have e2 : loopF (fun q : Int32 × Int32 × (Nat → Int32) × (Nat → Int32) => f_X1_understand_L33 31 (fun _ => 0) (nI 0) q.1 q.2.1 q.2.2.1 q.2.2.2) FU (0, 0, (fun _ => 0), (fun _ => 0)) = some (0, (fun _ => 0), (fun _ => 0)) := by
    show loopF _ (4095 + 1) _ = _
    refine loopF_end ?_
    dsimp only
    unfold f_X1_understand_L33
    rw [if_pos (by decide)]
  unfold f_X1_understand
  rw [e1, bind1_def, if_pos rfl, letv_def, show ((0 : Int32) + 1) / 4 = nI 0 from by decide, e2]; rfl
theorem rel0 : Rel xi0 xa0 xl0 xm0 mi0 ma0 :=
  ⟨⟨0, by omega, rfl, rfl, fun k hk => absurd hk (Nat.not_lt_zero _)⟩, ⟨0, by omega, rfl, rfl, fun k hk => absurd hk (Nat.not_lt_zero _)⟩, ⟨_, _, _, _, _, _, _, _, _, rel0_land⟩, ⟨_, _, _, _, rel0_house⟩,
    ⟨0, by omega, rfl, rfl, fun k hk => absurd hk (Nat.not_lt_zero _)⟩, ⟨0, by omega, rfl, rfl, fun k hk => absurd hk (Nat.not_lt_zero _)⟩, ⟨0, by omega, rfl, rfl, fun k hk => absurd hk (Nat.not_lt_zero _)⟩,
    ⟨⟨0, by omega, rfl, rfl⟩, ⟨10, by omega, rfl, rfl⟩, rfl, rfl, rfl⟩, rfl, ⟨Or.inl ⟨rfl, rfl⟩, Or.inl ⟨rfl, rfl⟩, Or.inl ⟨rfl, rfl⟩, Or.inl ⟨rfl, rfl⟩⟩, Or.inl rfl⟩
set_option maxHeartbeats 8000000 in
set_option maxRecDepth 100000 in
theorem whole_start {p : Program} {e : Env} {s : State} {m : MethodId} {below : List Frame} {meth : Method} {c : Code} (l : Launch) {b L : Nat} {xs : Nat → Int32} (hL : L ≤ 3072) (C0 : lw_At p s m meth c b L xs) : W p l e room_1 s m #[Value.ref b] below meth c s.heap [] 0 0 (lw_Z below #[Value.ref b] s) (entryFrame m ([Value.ref b] : List Value).toArray 4) := by
  obtain ⟨hx, hb, hr, hml, hown, hts, hX, hbl, hlk, hgv⟩ := id C0
  have hA : ∀ q : Nat, s.heap.size ≤ q → (fun q : Nat => s.heap.size ≤ q) q := fun _ h => h
  have hbA : ¬ (fun q : Nat => s.heap.size ≤ q) b := Nat.not_le.mpr hbl
  have htg : ∀ w ∈ lw_good, w.before #[Value.ref b] s = true := fun w h => hts w (lg_of h).1
  obtain ⟨c0, iS0, hKn0⟩ := u_known (C := RX0) (T := TX0) (N := 4) (n := 4) htg inX0 (htg _ (lg_in me_26 rfl))
  obtain ⟨c1, iS1, hKn1⟩ := u_known (C := RX1) (T := TX1) (N := 4) (n := 4) htg inX1 (htg _ (lg_in me_18 rfl))
  obtain ⟨c2, iS2, hKn2⟩ := u_known (C := RX2) (T := TX2) (N := 3) (n := 3) htg inX2 (htg _ (lg_in me_24 rfl))
  obtain ⟨c3, iS3, hKn3⟩ := u_known (C := RX3) (T := TX3) (N := 9) (n := 9) htg inX3 (htg _ (lg_in me_16 rfl))
  obtain ⟨c4, iS4, hKn4⟩ := u_known (C := RX4) (T := TX4) (N := 4) (n := 4) htg inX4 (htg _ (lg_in me_20 rfl))
  obtain ⟨c5, iS5, hKn5⟩ := u_known (C := RX5) (T := TX5) (N := 4) (n := 4) htg inX5 (htg _ (lg_in me_28 rfl))
  obtain ⟨c6, iS6, hKn6⟩ := u_known (C := RX6) (T := TX6) (N := 2) (n := 2) htg inX6 (htg _ (lg_in me_14 rfl))
  obtain ⟨c7, iS7, hKn7⟩ := u_known (C := RX7) (T := TX7) (N := 13) (n := 13) htg inX7 (htg _ (lg_in me_22 rfl))
  obtain ⟨c8, iS8, hKn8⟩ := u_known (C := RX8) (T := TX8) (N := 14) (n := 14) htg inX8 (htg _ (lg_in me_30 rfl))
  obtain ⟨c9, iS9, hKn9⟩ := u_known (C := RX9) (T := TX9) (N := 25) (n := 25) htg inX9 (htg _ (lg_in me_31 rfl))
  obtain ⟨dC, dI, hKc⟩ : ∃ (dC : Nat → ClassId) (dI : Nat → Nat → Nat), ∀ (k : Nat) (q : vw_C), classes[k]? = some q → u_Kn s q.1 q.2.1 q.2.2 (dC k) (dI k) := by
    refine ⟨fun k => if k = 0 then c0 else if k = 1 then c1 else if k = 2 then c2 else if k = 3 then c3 else if k = 4 then c4 else if k = 5 then c5 else if k = 6 then c6 else if k = 7 then c7 else if k = 8 then c8 else c9, fun k => if k = 0 then iS0 else if k = 1 then iS1 else if k = 2 then iS2 else if k = 3 then iS3 else if k = 4 then iS4 else if k = 5 then iS5 else if k = 6 then iS6 else if k = 7 then iS7 else if k = 8 then iS8 else iS9, ?_⟩
    intro k q hq
    match k, hq with
    | 0, hq => cases hq; exact hKn0
    | 1, hq => cases hq; exact hKn1
    | 2, hq => cases hq; exact hKn2
    | 3, hq => cases hq; exact hKn3
    | 4, hq => cases hq; exact hKn4
    | 5, hq => cases hq; exact hKn5
    | 6, hq => cases hq; exact hKn6
    | 7, hq => cases hq; exact hKn7
    | 8, hq => cases hq; exact hKn8
    | 9, hq => cases hq; exact hKn9
    | k + 10, hq => simp [classes] at hq
  obtain ⟨aI, kI, pI, i1, i2, i3⟩ := Cond.arrayClass_spec (htg _ (lg_in me_3 rfl))
  obtain ⟨aL, kL, pL, l1, l2, l3⟩ := Cond.arrayClass_spec (htg _ (lg_in me_8 rfl))
  have hT := hts _ me_32
  have hSh := hts _ me_33
  obtain ⟨pT, aT, kT, t1, t2, t3, t4, t5⟩ := Cond.arrayOver_spec hT
  obtain ⟨pS, aS, kS, g1, g2, g3, g4, g5⟩ := Cond.arrayOver_spec hSh
  obtain ⟨cA, hcA⟩ : ∃ cA : Nat → ClassId, cA = fun k => if k = 0 then aI else if k = 1 then aL else if k = 2 then aT else aS := ⟨_, rfl⟩
  have hK : va_K (dC, dI) classes (ar_tys cA) s := by
    refine ⟨hKc, fun k q h => ?_⟩
    subst hcA
    match k, h with
    | 0, h => cases h; exact ⟨fun n z => ⟨fun k h => (by cases h), kI, i2, pI, i3⟩, i1⟩
    | 1, h => cases h; exact ⟨fun n z => ⟨fun k h => (by cases h), kL, l2, pL, l3⟩, l1⟩
    | 2, h => cases h; exact ⟨fun n z => ⟨fun k h => (by cases h), kT, t3, pT, t4⟩, kT, pT, t3, t4, t1, t5⟩
    | 3, h => cases h; exact ⟨fun n z => ⟨fun k h => (by cases h), kS, g3, pS, g4⟩, kS, pS, g3, g4, g1, g5⟩
    | k + 4, h => simp [ar_tys] at h
  have hN : nw_all s := by
    intro w hw hn
    have h1 := hts w hw
    cases w <;> first | exact va_Nw.of rfl h1 | exact absurd hn (by simp [is_nest])
  have hE : E1 s := ⟨va_AO.of hT, va_AO.of hSh⟩
  have C : Cx RL code 4 (dC, dI) cA p s m #[Value.ref b] c := ⟨hx, hb, hml, hown, htg, hK, hN⟩
  have hS : va_S (fun q : Nat => s.heap.size ≤ q) s.heap s.heap [] := va_S.rf
  have hP : va_P (dC, dI) classes [] s.heap := fun k q h => by simp at h
  have hD : va_D (fun q : Nat => s.heap.size ≤ q) [] := ⟨fun i j p q h => by simp at h, fun k q h => by simp at h⟩
  have hl := lv_entry ([.ref b]) (n := 4) (Nat.le_of_ble_eq_true rfl)
  rw [lg_entry_eq]
  generalize (lg_sl ([.ref b]) ++ List.replicate (4 - (lg_sl ([.ref b])).length) Slot.unset).toArray = ls at hl ⊢
  have hl : lv_has ls 4 [(0, .ref b)] := hl
  refine g_new (pc := 0) C nf_L_7 hP hD hS hA (Nat.le_of_ble_eq_true rfl) (Nat.le_of_ble_eq_true rfl) dL_law_0 (fun qx H hP hD hS => ?_)
  have hP : va_P (dC, dI) classes [(qx, .inr (8, [.null, .null, .null, .null, .null, .null, .null, .null, .null, .null, .null, .null, .int 0, .int 0]))] H := hP
  have hD : va_D (fun q : Nat => s.heap.size ≤ q) [(qx, .inr (8, [.null, .null, .null, .null, .null, .null, .null, .null, .null, .null, .null, .null, .int 0, .int 0]))] := hD
  refine lv_dup (pc := 3) hx hb dL_law_3 rfl ?_
  refine fin_c [] (run_I (rest := [.ref qx]) (pc := 4) (As := []) C mf_L_9 rfl (c_X8_init l (dC, dI) cA qx H.size) rfl rfl ⟨(Nat.le_of_ble_eq_true rfl), (Nat.le_of_ble_eq_true rfl)⟩ (preE e1_ok hE C hP hD [0] rfl rfl) rfl hl.1 rfl (Nat.le_of_ble_eq_true rfl) dL_law_4 ⟨(Nat.le_of_ble_eq_true rfl), (Nat.le_of_ble_eq_true rfl)⟩) hP hD hS hA [0] [] rfl rfl (by decide) (by decide) (fun u H locs hP hD hS => ?_)
  have hP : va_P (dC, dI) classes (wi_X8_init cA qx u) H := hP
  have hD : va_D (fun q : Nat => s.heap.size ≤ q) (wi_X8_init cA qx u) := hD
  refine lv_astore_n (pc := 7) (lv' := [(1, .ref qx), (0, .ref b)]) hx hb dL_law_7 rfl hl (Nat.le_of_ble_eq_true rfl) rfl (fun ls hl => ?_)
  refine g_new (pc := 8) C nf_L_10 hP hD hS hA (Nat.le_of_ble_eq_true rfl) (Nat.le_of_ble_eq_true rfl) dL_law_8 (fun qm H hP hD hS => ?_)
  have hP : va_P (dC, dI) classes ((wi_X8_init cA qx u) ++ [(qm, .inr (9, [.null, .null, .null, .null, .int 0, .null, .null, .int 0, .int 0, .null, .int 0, .null, .null, .int 0, .null, .int 0, .null, .int 0, .null, .null, .null, .int 0, .null, .null, .int 0]))]) H := hP
  have hD : va_D (fun q : Nat => s.heap.size ≤ q) ((wi_X8_init cA qx u) ++ [(qm, .inr (9, [.null, .null, .null, .null, .int 0, .null, .null, .int 0, .int 0, .null, .int 0, .null, .null, .int 0, .null, .int 0, .null, .int 0, .null, .null, .null, .int 0, .null, .null, .int 0]))]) := hD
  refine lv_dup (pc := 11) hx hb dL_law_11 rfl ?_
  refine fin_c (wi_X8_init cA qx u) (run_I (rest := [.ref qm]) (pc := 12) (As := []) C mf_L_12 rfl (c_X9_init l (dC, dI) cA qm H.size) rfl rfl ⟨(Nat.le_of_ble_eq_true rfl), (Nat.le_of_ble_eq_true rfl)⟩ (preE e0_ok trivial C hP hD [54] rfl rfl) rfl hl.1 rfl (Nat.le_of_ble_eq_true rfl) dL_law_12 ⟨(Nat.le_of_ble_eq_true rfl), (Nat.le_of_ble_eq_true rfl)⟩) hP hD hS hA [54] [0, 1, 2, 3, 4, 5, 6, 7, 8, 9, 10, 11, 12, 13, 14, 15, 16, 17, 18, 19, 20, 21, 22, 23, 24, 25, 26, 27, 28, 29, 30, 31, 32, 33, 34, 35, 36, 37, 38, 39, 40, 41, 42, 43, 44, 45, 46, 47, 48, 49, 50, 51, 52, 53] rfl rfl (by decide) (by decide) (fun v H locs hP hD hS => ?_)
  have hP : va_P (dC, dI) classes ((wi_X8_init cA qx u) ++ (wi_X9_init cA qm v)) H := hP
  have hD : va_D (fun q : Nat => s.heap.size ≤ q) ((wi_X8_init cA qx u) ++ (wi_X9_init cA qm v)) := hD
  refine lv_astore_n (pc := 15) (lv' := [(2, .ref qm), (1, .ref qx), (0, .ref b)]) hx hb dL_law_15 rfl hl (Nat.le_of_ble_eq_true rfl) rfl (fun ls hl => ?_)
  refine lv_iconst (pc := 16) (v := 0) hx hb dL_law_16 (by decide) ?_
  refine lv_istore_n (pc := 17) (lv' := [(3, .int 0), (2, .ref qm), (1, .ref qx), (0, .ref b)]) hx hb dL_law_17 rfl hl (Nat.le_of_ble_eq_true rfl) rfl (fun ls hl => ?_)
  have hP := q_swap (g := (fun k : Nat => if k = 0 then some (u 1) else some (u 3))) 1 rfl (by intro j hj; rcases (show j = 0 ∨ j = 1 by omega) with rfl | rfl <;> simp [va_up, tn_0, tn_1]) hP
  have hP := q_swap (g := (fun k : Nat => if k = 0 then some (u 45) else if k = 1 then some (u 47) else if k = 2 then some (u 49) else some (u 51))) 45 rfl (by intro j hj; rcases (show j = 0 ∨ j = 1 ∨ j = 2 ∨ j = 3 by omega) with rfl | rfl | rfl | rfl <;> simp [va_up, tn_0, tn_1, tn_2, tn_3]) hP
  have hP2 : va_P (dC, dI) classes (wl_law cA (fun k => if k = 0 then qx else u (k - 1)) (fun k => if k = 0 then qm else v (k - 1)) xi0 xa0 xl0 xm0 mi0 ma0) H := hP
  have hD2 : va_D (fun q : Nat => s.heap.size ≤ q) (wl_law cA (fun k => if k = 0 then qx else u (k - 1)) (fun k => if k = 0 then qm else v (k - 1)) xi0 xa0 xl0 xm0 mi0 ma0) := vd_a hD rfl
  exact law_loop C hA hr hlk hX hbl hbA hL (fun k => if k = 0 then qx else u (k - 1)) (fun k => if k = 0 then qm else v (k - 1)) (L + 1) 0 0 nI_0.symm (by omega) (by omega) xi0 xa0 xl0 xm0 mi0 ma0 rel0 H locs ls hP2 hD2 hS (lv_sub hl [3, 2, 1, 0] rfl)
