def rdX (it : Nat → Int32) (x3 x4 x_stale bowls_number : Int32) (bowls_nights bowls_things bowls_realms : Nat → Int32) : Option ((Int32 × Int32 × Int32 × (Nat → Int32) × (Nat → Int32) × (Nat → Int32)) ⊕ (Int32 × Int32 × Int32 × (Nat → Int32) × (Nat → Int32) × (Nat → Int32))) :=
  if x3 ≤ x4 then (some (.inr (x4, x_stale, bowls_number, bowls_nights, bowls_things, bowls_realms))) else (gd (inb ((2 : Int32) * x4) 60) (gd (inb (((2 : Int32) * x4) + (1 : Int32)) 60) (bind6 (f_X8_putMark x_stale bowls_number bowls_nights bowls_things bowls_realms (it ((2 : Int32) * x4).toNatClampNeg) (it (((2 : Int32) * x4) + (1 : Int32)).toNatClampNeg)) (fun r3 c4 c5 c6 c7 c8 => if r3 ≤ 0 then (some (.inr (x4, c4, c5, c6, c7, c8))) else (some (.inl ((x4 + 1), c4, c5, c6, c7, c8)))))))
theorem m2_lt : (-2 : Int32) < 0 := by decide
theorem m4_lt : (-4 : Int32) < 0 := by decide
theorem m2_le : (-2 : Int32) ≤ 0 := by decide
theorem m4_le : (-4 : Int32) ≤ 0 := by decide
set_option maxHeartbeats 1000000 in
theorem read_loops (s n : Nat) (hs : s < 4) (hn : n ≤ 60) (sizes its it : Nat → Int32) (hsz : sizes s = nI n) (hit : ∀ i, i < n → its (60 * s + i) = it i) : ∀ (m came : Nat) (stale num mnum : Int32) (nights things realms mm : Nat → Int32) (N : Nat), RMark num nights things mnum mm → came + m = n / 2 → m + 2 ≤ N →
    ∃ (e : Nat) (stale' num' mnum' : Int32) (nights' things' realms' mm' : Nat → Int32), loopF (fun q : Int32 × Int32 × Int32 × (Nat → Int32) × (Nat → Int32) × (Nat → Int32) => rdX it (nI (n / 2)) q.1 q.2.1 q.2.2.1 q.2.2.2.1 q.2.2.2.2.1 q.2.2.2.2.2) N (nI came, stale, num, nights, things, realms) = some (nI e, stale', num', nights', things', realms') ∧
      loopF (fun q : Int32 × Int32 × Int32 × (Nat → Int32) => f_X9_read_L29 sizes its (nI s) q.1 q.2.1 q.2.2.1 q.2.2.2) N (nI came, 1, mnum, mm) = some (nI e, mnum', mm') ∧ RMark num' nights' things' mnum' mm' ∧ (stale' = 1 ∨ (stale' = stale ∧ num' = num ∧ nights' = nights ∧ things' = things ∧ realms' = realms ∧ mnum' = mnum ∧ mm' = mm)) := by
  have gs : inb (nI s) 4 = true := inb_n hs (by omega)
  have ts : (nI s).toNatClampNeg = s := tnN (by omega)
  intro m
  induction m with
  | zero =>
    intro came stale num mnum nights things realms mm N hR hc hN
    obtain ⟨N, rfl⟩ : ∃ N', N = N' + 1 := ⟨N - 1, by omega⟩
    refine ⟨came, stale, num, mnum, nights, things, realms, mm, loopF_end ?_, loopF_end ?_, hR, Or.inr ⟨rfl, rfl, rfl, rfl, rfl, rfl, rfl⟩⟩
    · show rdX it (nI (n / 2)) (nI came) stale num nights things realms = _
      unfold rdX
      rw [if_pos (by rw [nI_le_i (by omega) (by omega)]; omega)]
    · show f_X9_read_L29 sizes its (nI s) (nI came) 1 mnum mm = _
      unfold f_X9_read_L29
      rw [if_neg one_ne0, gd_t gs, ts, hsz, show (2 : Int32) * nI came + 2 = nI (2 * came + 2) from by rw [show (2 : Int32) = nI 2 from rfl, pk_mul, nI_add], if_pos (by rw [nI_lt_i (by omega) (by omega)]; omega)]
  | succ m ih =>
    intro came stale num mnum nights things realms mm N hR hc hN
    obtain ⟨N, rfl⟩ : ∃ N', N = N' + 1 := ⟨N - 1, by omega⟩
    have t2 : (2 : Int32) * nI came = nI (2 * came) := pk_mul 2 came
    have t3 : nI (2 * came) + 1 = nI (2 * came + 1) := nI_1 _
    have bx : rdX it (nI (n / 2)) (nI came) stale num nights things realms = bind6 (f_X8_putMark stale num nights things realms (it (2 * came)) (it (2 * came + 1))) (fun r3 c4 c5 c6 c7 c8 => if r3 ≤ 0 then (some (.inr (nI came, c4, c5, c6, c7, c8))) else (some (.inl ((nI came + 1), c4, c5, c6, c7, c8)))) := by
      unfold rdX
      rw [if_neg (by rw [nI_le_i (by omega) (by omega)]; omega), t2, t3, gd_t (inb_n (by omega) (by omega)), gd_t (inb_n (by omega) (by omega)), tnN (by omega), tnN (by omega)]
    have bm : f_X9_read_L29 sizes its (nI s) (nI came) 1 mnum mm = bind3 (f_X9_bowl mnum mm (it (2 * came)) (it (2 * came + 1))) (fun r2 c3 c4 => if r2 < 0 then (f_X9_read_b87L29 c3 sizes its c4 (nI s) (nI came) (0 : Int32)) else (f_X9_read_b87L29 c3 sizes its c4 (nI s) (nI came) (1 : Int32))) := by
      unfold f_X9_read_L29
      rw [if_neg one_ne0, gd_t gs, ts, hsz, t2, show nI (2 * came) + 2 = nI (2 * came + 2) from nI_add _ 2, if_neg (by rw [nI_lt_i (by omega) (by omega)]; omega), show (60 : Int32) * nI s + nI (2 * came) = nI (60 * s + 2 * came) from by rw [show (60 : Int32) = nI 60 from rfl, pk_mul, nI_add], show nI (60 * s + 2 * came) + 1 = nI (60 * s + (2 * came + 1)) from nI_1 _, gd_t (inb_n (by omega) (by omega)), gd_t (inb_n (by omega) (by omega)), tnN (by omega), tnN (by omega), hit _ (by omega), hit _ (by omega)]
    have stop : ∀ r : Int32, r < 0 → r ≤ 0 → f_X8_putMark stale num nights things realms (it (2 * came)) (it (2 * came + 1)) = some (r, stale, num, nights, things, realms) → f_X9_bowl mnum mm (it (2 * came)) (it (2 * came + 1)) = some (r, mnum, mm) → ∃ (e : Nat) (stale' num' mnum' : Int32) (nights' things' realms' mm' : Nat → Int32), loopF (fun q : Int32 × Int32 × Int32 × (Nat → Int32) × (Nat → Int32) × (Nat → Int32) => rdX it (nI (n / 2)) q.1 q.2.1 q.2.2.1 q.2.2.2.1 q.2.2.2.2.1 q.2.2.2.2.2) (N + 1) (nI came, stale, num, nights, things, realms) = some (nI e, stale', num', nights', things', realms') ∧
      loopF (fun q : Int32 × Int32 × Int32 × (Nat → Int32) => f_X9_read_L29 sizes its (nI s) q.1 q.2.1 q.2.2.1 q.2.2.2) (N + 1) (nI came, 1, mnum, mm) = some (nI e, mnum', mm') ∧ RMark num' nights' things' mnum' mm' ∧ (stale' = 1 ∨ (stale' = stale ∧ num' = num ∧ nights' = nights ∧ things' = things ∧ realms' = realms ∧ mnum' = mnum ∧ mm' = mm)) := by
      intro r h1 h2 p1 p2
      refine ⟨came, stale, num, mnum, nights, things, realms, mm, loopF_end ?_, ?_, hR, Or.inr ⟨rfl, rfl, rfl, rfl, rfl, rfl, rfl⟩⟩
      · show rdX it (nI (n / 2)) (nI came) stale num nights things realms = _
        rw [bx, p1, bind6_def, if_pos h2]
      · obtain ⟨N, rfl⟩ : ∃ N', N = N' + 1 := ⟨N - 1, by omega⟩
        refine (loopF_go (q' := (nI came, 0, mnum, mm)) ?_).trans (loopF_end ?_)
        · show f_X9_read_L29 sizes its (nI s) (nI came) 1 mnum mm = _
          rw [bm, p2, bind3_def, if_pos h1]
          show some (Sum.inl (nI came + 0, (0 : Int32), mnum, mm)) = _
          rw [show nI came + 0 = nI came from nI_add came 0]
        · show f_X9_read_L29 sizes its (nI s) (nI came) 0 mnum mm = _
          unfold f_X9_read_L29
          rw [if_pos rfl]
    rcases mark_more (realms := realms) hR stale (it (2 * came)) (it (2 * came + 1)) with ⟨p1, p2, -⟩ | ⟨p1, p2, -⟩ | ⟨c, a, b, d, hc8, hc0, p1, mm', p2, -, p3⟩
    · exact stop _ m2_lt m2_le p1 p2
    · exact stop _ m4_lt m4_le p1 p2
    · obtain ⟨e, stale', num', mnum', nights', things', realms', mm2, q1, q2, q3, q4⟩ := ih (came + 1) 1 (nI c) (nI c) a b d mm' N p3 (by omega) (by omega)
      refine ⟨e, stale', num', mnum', nights', things', realms', mm2, (loopF_go ?_).trans q1, (loopF_go ?_).trans q2, q3, Or.inl (q4.elim id (fun z => z.1))⟩
      · show rdX it (nI (n / 2)) (nI came) stale num nights things realms = _
        rw [bx, p1, bind6_def, if_neg (by rw [show (0 : Int32) = nI 0 from rfl, nI_le_i (by omega) (by omega)]; omega), show nI came + 1 = nI (came + 1) from nI_1 _]
      · show f_X9_read_L29 sizes its (nI s) (nI came) 1 mnum mm = _
        rw [bm, p2, bind3_def, if_neg (nI_pos (by omega))]
        show some (Sum.inl (nI came + 1, (1 : Int32), nI c, mm')) = _
        rw [show nI came + 1 = nI (came + 1) from nI_1 _]
set_option maxHeartbeats 1000000 in
theorem sim_read {xi : Nat → Int32} {xa : Nat → Nat → Int32} {xl : Nat → Int64} {xm : Nat → Nat → Int64} {mi : Nat → Int32} {ma : Nat → Nat → Int32} (h : Rel xi xa xl xm mi ma) (z1 : Int32) : ∃ (r : Int32) (c1 : Int32) (c2 : Int32) (c3 : Int32) (c4 : Nat → Int32) (c5 : Nat → Int32) (c6 : Nat → Int32) (d1 : Int32) (d2 : Int32) (d3 : Nat → Int32) , f_X8_read (xi 0) (xi 1) (xi 10) (xa 9) (xa 10) (xa 11) (xi 24) (xi 26) (xa 29) (xi 27) (xi 29) (xa 30) (xi 30) (xi 32) (xa 31) (xi 33) (xi 35) (xa 32) z1 = some (r, c1, c2, c3, c4, c5, c6) ∧ f_X9_read (mi 0) (mi 4) (ma 0) (ma 1) (ma 2) (ma 9) z1 = some (r, d1, d2, d3) ∧ Rel (va_up (va_up (va_up xi 0 c1) 1 c2) 10 c3) (va_up (va_up (va_up xa 9 c4) 10 c5) 11 c6) xl xm (va_up (va_up mi 0 d1) 4 d2) (va_up ma 9 d3) := by
  obtain ⟨hT0, hT1, hL, hH, hB, hD, hS, hSe, hF, hSh, hW⟩ := id h
  rcases upTo_cases z1 (M := 3) (by omega) with ⟨e1, -⟩ | ⟨e1, k, hk, rfl⟩
  · refine ⟨-2, xi 0, xi 1, xi 10, xa 9, xa 10, xa 11, mi 0, mi 4, ma 9, ?_, ?_, by simpa only [up_self] using h⟩
    · unfold f_X8_read; rw [show f_X8_isUpTo z1 (3 : Int32) = some 0 from e1]; rfl
    · unfold f_X9_read; rw [isSheet_eq, show f_X8_isUpTo z1 (3 : Int32) = some 0 from e1]; rfl
  have hSh0 : RSheets xi xa (ma 0) (ma 1) (ma 2) := hSh
  rcases (show k = 0 ∨ k = 1 ∨ k = 2 ∨ k = 3 by omega) with rfl | rfl | rfl | rfl
  · rcases hSh.1 with ⟨l, f⟩ | ⟨l, ⟨f, hf2, e3, e4⟩, n, hn, e5, e6, hit⟩
    · refine ⟨-11, xi 0, 1, xi 10, xa 9, xa 10, xa 11, 1, mi 4, ma 9, ?_, ?_, hT0, hT1, hL, hH, hB, hD, hS, hSe, rfl, hSh0, hW⟩
      · unfold f_X8_read; rw [show f_X8_isUpTo (nI 0) (3 : Int32) = some 1 from e1, bind1_def, if_neg one_ne0]
        simp only [if_pos (show nI 0 = (0 : Int32) from rfl)]
        rw [if_neg (by rw [l]; exact one_ne0)]; rfl
      · unfold f_X9_read; rw [isSheet_eq, show f_X8_isUpTo (nI 0) (3 : Int32) = some 1 from e1, bind1_def, if_neg one_ne0, gd_t (inb_n (by omega) (by omega)), tnN (by omega), f, if_neg nle_m1]; rfl
    · obtain ⟨e, stale, num, mnum, nights, things, realms, mm, q1, q2, q3, q4⟩ := read_loops 0 n (by omega) hn (ma 1) (ma 2) (xa 29) e6 hit (n / 2) 0 (xi 0) (xi 10) (mi 4) (xa 9) (xa 10) (xa 11) (ma 9) FU hB (by omega) (Nat.le_trans (by omega) (Nat.le_of_lt FU_big))
      refine ⟨nI e, stale, xi 1, num, nights, things, realms, mi 0, mnum, mm, ?_, ?_, ?_⟩
      · unfold f_X8_read; rw [show f_X8_isUpTo (nI 0) (3 : Int32) = some 1 from e1, bind1_def, if_neg one_ne0]
        simp only [if_pos (show nI 0 = (0 : Int32) from rfl)]
        rw [if_pos l, letv_def, e5, show nI n / (2 : Int32) = nI (n / 2) from pk_div (d := 2) (by omega) (by omega) (by omega)]
        exact (congrArg (fun z => bind6 z _) q1).trans rfl
      · unfold f_X9_read; rw [isSheet_eq, show f_X8_isUpTo (nI 0) (3 : Int32) = some 1 from e1, bind1_def, if_neg one_ne0, gd_t (inb_n (by omega) (by omega)), tnN (by omega), e4, if_pos (nI_ge0 (by omega))]
        exact (congrArg (fun z => bind3 z _) q2).trans rfl
      · have hW2 : RWalk (va_up (va_up xi 0 stale) 10 num) (va_up (va_up (va_up xa 9 nights) 10 things) 11 realms) xm := by
          rcases q4 with q4 | ⟨g1, g2, g3, g4, g5, -, -⟩
          · exact Or.inl q4
          · rw [g1, g2, g3, g4, g5]; simpa only [up_self] using hW
        exact ⟨hT0, hT1, hL, hH, q3, hD, hS, hSe, hF, hSh0, hW2⟩
  · rcases hSh.2.1 with ⟨l, f⟩ | ⟨l, ⟨f, hf2, e3, e4⟩, n, hn, e5, e6, hit⟩
    · refine ⟨-11, xi 0, 1, xi 10, xa 9, xa 10, xa 11, 1, mi 4, ma 9, ?_, ?_, hT0, hT1, hL, hH, hB, hD, hS, hSe, rfl, hSh0, hW⟩
      · unfold f_X8_read; rw [show f_X8_isUpTo (nI 1) (3 : Int32) = some 1 from e1, bind1_def, if_neg one_ne0]
        simp only [if_neg (show ¬ nI 1 = (0 : Int32) by decide), if_pos (show nI 1 = (1 : Int32) from rfl)]
        rw [if_neg (by rw [l]; exact one_ne0)]; rfl
      · unfold f_X9_read; rw [isSheet_eq, show f_X8_isUpTo (nI 1) (3 : Int32) = some 1 from e1, bind1_def, if_neg one_ne0, gd_t (inb_n (by omega) (by omega)), tnN (by omega), f, if_neg nle_m1]; rfl
    · obtain ⟨e, stale, num, mnum, nights, things, realms, mm, q1, q2, q3, q4⟩ := read_loops 1 n (by omega) hn (ma 1) (ma 2) (xa 30) e6 hit (n / 2) 0 (xi 0) (xi 10) (mi 4) (xa 9) (xa 10) (xa 11) (ma 9) FU hB (by omega) (Nat.le_trans (by omega) (Nat.le_of_lt FU_big))
      refine ⟨nI e, stale, xi 1, num, nights, things, realms, mi 0, mnum, mm, ?_, ?_, ?_⟩
      · unfold f_X8_read; rw [show f_X8_isUpTo (nI 1) (3 : Int32) = some 1 from e1, bind1_def, if_neg one_ne0]
        simp only [if_neg (show ¬ nI 1 = (0 : Int32) by decide), if_pos (show nI 1 = (1 : Int32) from rfl)]
        rw [if_pos l, letv_def, e5, show nI n / (2 : Int32) = nI (n / 2) from pk_div (d := 2) (by omega) (by omega) (by omega)]
        exact (congrArg (fun z => bind6 z _) q1).trans rfl
      · unfold f_X9_read; rw [isSheet_eq, show f_X8_isUpTo (nI 1) (3 : Int32) = some 1 from e1, bind1_def, if_neg one_ne0, gd_t (inb_n (by omega) (by omega)), tnN (by omega), e4, if_pos (nI_ge0 (by omega))]
        exact (congrArg (fun z => bind3 z _) q2).trans rfl
      · have hW2 : RWalk (va_up (va_up xi 0 stale) 10 num) (va_up (va_up (va_up xa 9 nights) 10 things) 11 realms) xm := by
          rcases q4 with q4 | ⟨g1, g2, g3, g4, g5, -, -⟩
          · exact Or.inl q4
          · rw [g1, g2, g3, g4, g5]; simpa only [up_self] using hW
        exact ⟨hT0, hT1, hL, hH, q3, hD, hS, hSe, hF, hSh0, hW2⟩
  · rcases hSh.2.2.1 with ⟨l, f⟩ | ⟨l, ⟨f, hf2, e3, e4⟩, n, hn, e5, e6, hit⟩
    · refine ⟨-11, xi 0, 1, xi 10, xa 9, xa 10, xa 11, 1, mi 4, ma 9, ?_, ?_, hT0, hT1, hL, hH, hB, hD, hS, hSe, rfl, hSh0, hW⟩
      · unfold f_X8_read; rw [show f_X8_isUpTo (nI 2) (3 : Int32) = some 1 from e1, bind1_def, if_neg one_ne0]
        simp only [if_neg (show ¬ nI 2 = (0 : Int32) by decide), if_neg (show ¬ nI 2 = (1 : Int32) by decide), if_pos (show nI 2 = (2 : Int32) from rfl)]
        rw [if_neg (by rw [l]; exact one_ne0)]; rfl
      · unfold f_X9_read; rw [isSheet_eq, show f_X8_isUpTo (nI 2) (3 : Int32) = some 1 from e1, bind1_def, if_neg one_ne0, gd_t (inb_n (by omega) (by omega)), tnN (by omega), f, if_neg nle_m1]; rfl
    · obtain ⟨e, stale, num, mnum, nights, things, realms, mm, q1, q2, q3, q4⟩ := read_loops 2 n (by omega) hn (ma 1) (ma 2) (xa 31) e6 hit (n / 2) 0 (xi 0) (xi 10) (mi 4) (xa 9) (xa 10) (xa 11) (ma 9) FU hB (by omega) (Nat.le_trans (by omega) (Nat.le_of_lt FU_big))
      refine ⟨nI e, stale, xi 1, num, nights, things, realms, mi 0, mnum, mm, ?_, ?_, ?_⟩
      · unfold f_X8_read; rw [show f_X8_isUpTo (nI 2) (3 : Int32) = some 1 from e1, bind1_def, if_neg one_ne0]
        simp only [if_neg (show ¬ nI 2 = (0 : Int32) by decide), if_neg (show ¬ nI 2 = (1 : Int32) by decide), if_pos (show nI 2 = (2 : Int32) from rfl)]
        rw [if_pos l, letv_def, e5, show nI n / (2 : Int32) = nI (n / 2) from pk_div (d := 2) (by omega) (by omega) (by omega)]
        exact (congrArg (fun z => bind6 z _) q1).trans rfl
      · unfold f_X9_read; rw [isSheet_eq, show f_X8_isUpTo (nI 2) (3 : Int32) = some 1 from e1, bind1_def, if_neg one_ne0, gd_t (inb_n (by omega) (by omega)), tnN (by omega), e4, if_pos (nI_ge0 (by omega))]
        exact (congrArg (fun z => bind3 z _) q2).trans rfl
      · have hW2 : RWalk (va_up (va_up xi 0 stale) 10 num) (va_up (va_up (va_up xa 9 nights) 10 things) 11 realms) xm := by
          rcases q4 with q4 | ⟨g1, g2, g3, g4, g5, -, -⟩
          · exact Or.inl q4
          · rw [g1, g2, g3, g4, g5]; simpa only [up_self] using hW
        exact ⟨hT0, hT1, hL, hH, q3, hD, hS, hSe, hF, hSh0, hW2⟩
  · rcases hSh.2.2.2 with ⟨l, f⟩ | ⟨l, ⟨f, hf2, e3, e4⟩, n, hn, e5, e6, hit⟩
    · refine ⟨-11, xi 0, 1, xi 10, xa 9, xa 10, xa 11, 1, mi 4, ma 9, ?_, ?_, hT0, hT1, hL, hH, hB, hD, hS, hSe, rfl, hSh0, hW⟩
      · unfold f_X8_read; rw [show f_X8_isUpTo (nI 3) (3 : Int32) = some 1 from e1, bind1_def, if_neg one_ne0]
        simp only [if_neg (show ¬ nI 3 = (0 : Int32) by decide), if_neg (show ¬ nI 3 = (1 : Int32) by decide), if_neg (show ¬ nI 3 = (2 : Int32) by decide), if_pos (show nI 3 = (3 : Int32) from rfl)]
        rw [if_neg (by rw [l]; exact one_ne0)]; rfl
      · unfold f_X9_read; rw [isSheet_eq, show f_X8_isUpTo (nI 3) (3 : Int32) = some 1 from e1, bind1_def, if_neg one_ne0, gd_t (inb_n (by omega) (by omega)), tnN (by omega), f, if_neg nle_m1]; rfl
    · obtain ⟨e, stale, num, mnum, nights, things, realms, mm, q1, q2, q3, q4⟩ := read_loops 3 n (by omega) hn (ma 1) (ma 2) (xa 32) e6 hit (n / 2) 0 (xi 0) (xi 10) (mi 4) (xa 9) (xa 10) (xa 11) (ma 9) FU hB (by omega) (Nat.le_trans (by omega) (Nat.le_of_lt FU_big))
      refine ⟨nI e, stale, xi 1, num, nights, things, realms, mi 0, mnum, mm, ?_, ?_, ?_⟩
      · unfold f_X8_read; rw [show f_X8_isUpTo (nI 3) (3 : Int32) = some 1 from e1, bind1_def, if_neg one_ne0]
        simp only [if_neg (show ¬ nI 3 = (0 : Int32) by decide), if_neg (show ¬ nI 3 = (1 : Int32) by decide), if_neg (show ¬ nI 3 = (2 : Int32) by decide), if_pos (show nI 3 = (3 : Int32) from rfl)]
        rw [if_pos l, letv_def, e5, show nI n / (2 : Int32) = nI (n / 2) from pk_div (d := 2) (by omega) (by omega) (by omega)]
        exact (congrArg (fun z => bind6 z _) q1).trans rfl
      · unfold f_X9_read; rw [isSheet_eq, show f_X8_isUpTo (nI 3) (3 : Int32) = some 1 from e1, bind1_def, if_neg one_ne0, gd_t (inb_n (by omega) (by omega)), tnN (by omega), e4, if_pos (nI_ge0 (by omega))]
        exact (congrArg (fun z => bind3 z _) q2).trans rfl
      · have hW2 : RWalk (va_up (va_up xi 0 stale) 10 num) (va_up (va_up (va_up xa 9 nights) 10 things) 11 realms) xm := by
          rcases q4 with q4 | ⟨g1, g2, g3, g4, g5, -, -⟩
          · exact Or.inl q4
          · rw [g1, g2, g3, g4, g5]; simpa only [up_self] using hW
        exact ⟨hT0, hT1, hL, hH, q3, hD, hS, hSe, hF, hSh0, hW2⟩
