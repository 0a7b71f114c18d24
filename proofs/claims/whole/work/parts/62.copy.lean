theorem i64_add (a b : Int32) : (a.toInt64 + b.toInt64).toInt = a.toInt + b.toInt := by
  rw [Int64.toInt_add, Int32.toInt_toInt64, Int32.toInt_toInt64]
  have h1 := Int32.le_toInt a
  have h2 := Int32.toInt_lt a
  have h3 := Int32.le_toInt b
  have h4 := Int32.toInt_lt b
  have e : (2 : Nat) ^ 64 = 18446744073709551616 := by decide
  rw [Int.bmod_eq_of_le] <;> omega
/-- items from i on, n of them, in a sheet of N -/
theorem has_eq {N : Nat} (hN : N ≤ 60) (x y : Int32) : (f_X5_hasItems (nI N) x y = some 1 ∧ ∃ i n : Nat, x = nI i ∧ y = nI n ∧ i + n ≤ N) ∨ (f_X5_hasItems (nI N) x y = some 0 ∧ (x < 0 ∨ y < 0 ∨ (nI N).toInt64 < x.toInt64 + y.toInt64)) := by
  unfold f_X5_hasItems
  by_cases hx : x < 0
  · exact Or.inr ⟨by rw [if_pos hx], Or.inl hx⟩
  by_cases hy : y < 0
  · exact Or.inr ⟨by rw [if_neg hx, if_pos hy], Or.inr (Or.inl hy)⟩
  obtain ⟨i, hi, rfl⟩ := nI_of hx
  obtain ⟨n, hn, rfl⟩ := nI_of hy
  have key : ((nI N).toInt64 < (nI i).toInt64 + (nI n).toInt64) ↔ N < i + n := by
    rw [Int64.lt_iff_toInt_lt, i64_add, Int32.toInt_toInt64, nI_toInt (by omega), nI_toInt (by omega), nI_toInt (by omega)]
    omega
  rw [if_neg hx, if_neg hy]
  by_cases h1 : N < n
  · exact Or.inr ⟨by rw [if_pos (by rw [nI_lt_i (by omega) (by omega)]; exact h1)], Or.inr (Or.inr (key.mpr (by omega)))⟩
  rw [if_neg (by rw [nI_lt_i (by omega) (by omega)]; exact h1), pk_sub (by omega)]
  by_cases h2 : N - n < i
  · exact Or.inr ⟨if_pos (by rw [nI_lt_i (by omega) (by omega)]; exact h2), Or.inr (Or.inr (key.mpr (by omega)))⟩
  · exact Or.inl ⟨if_neg (by rw [nI_lt_i (by omega) (by omega)]; exact h2), i, n, rfl, rfl, by omega⟩
theorem copy_out (its : Nat → Int32) (s i n : Nat) (hs : s < 4) (hin : i + n ≤ 60) (mv : Nat → Int32) : ∃ g, loopF (fun q : Int32 × (Nat → Int32) => f_X9_copy_L120 its (nI s) (nI i) (nI n) q.1 q.2) FU (0, mv) = some g ∧ ∀ a, a < n → g a = its (60 * s + i + a) := by
  refine loopF_run (fun (m : Nat) (q : Int32 × (Nat → Int32)) => ∃ k : Nat, k + m = n ∧ q.1 = nI k ∧ ∀ a, a < k → q.2 a = its (60 * s + i + a)) (fun g : Nat → Int32 => ∀ a, a < n → g a = its (60 * s + i + a)) ?_ FU n (0, mv) ⟨0, by omega, rfl, fun i hi => absurd hi (Nat.not_lt_zero _)⟩ (Nat.lt_trans (by omega) FU_big)
  rintro m ⟨q1, q2⟩ ⟨k, hk, rfl, hq⟩
  show (∃ x, f_X9_copy_L120 its (nI s) (nI i) (nI n) (nI k) q2 = some (.inr x) ∧ _) ∨ (∃ q' m', m' < m ∧ f_X9_copy_L120 its (nI s) (nI i) (nI n) (nI k) q2 = some (.inl q') ∧ _)
  unfold f_X9_copy_L120
  by_cases h : n ≤ k
  · exact Or.inl ⟨q2, by rw [if_pos (by rw [nI_le_i (by omega) (by omega)]; exact h)], fun i hi => hq i (by omega)⟩
  · right
    refine ⟨(nI (k + 1), upd q2 k (its (60 * s + i + k))), m - 1, by omega, ?_, k + 1, by omega, rfl, fun a ha => ?_⟩
    · rw [if_neg (by rw [nI_le_i (by omega) (by omega)]; exact h), show (60 : Int32) * nI s + nI i + nI k = nI (60 * s + i + k) from by rw [show (60 : Int32) = nI 60 from rfl, pk_mul, nI_add, nI_add], gd_t (inb_n (by omega) (by omega)), letv_def, gd_t (inb_n (by omega) (by omega)), tnN (by omega), tnN (by omega), show nI k + 1 = nI (k + 1) from nI_1 k]
    · by_cases hik : a = k
      · rw [hik]; exact upd_at _ _ _
      · show upd q2 k _ a = _
        rw [upd_ne _ _ hik]; exact hq a (by omega)
theorem copy_in (mv : Nat → Int32) (t j n : Nat) (ht : t < 4) (hjn : j + n ≤ 60) (its : Nat → Int32) : ∃ g, loopF (fun q : Int32 × (Nat → Int32) => f_X9_copy_L157 mv (nI t) (nI j) (nI n) q.1 q.2) FU (0, its) = some g ∧ (∀ a, a < n → g (60 * t + j + a) = mv a) ∧ ∀ q, (q < 60 * t + j ∨ 60 * t + j + n ≤ q) → g q = its q := by
  refine loopF_run (fun (m : Nat) (q : Int32 × (Nat → Int32)) => ∃ k : Nat, k + m = n ∧ q.1 = nI k ∧ (∀ a, a < k → q.2 (60 * t + j + a) = mv a) ∧ ∀ p, (p < 60 * t + j ∨ 60 * t + j + n ≤ p) → q.2 p = its p) (fun g : Nat → Int32 => (∀ a, a < n → g (60 * t + j + a) = mv a) ∧ ∀ q, (q < 60 * t + j ∨ 60 * t + j + n ≤ q) → g q = its q) ?_ FU n (0, its) ⟨0, by omega, rfl, fun i hi => absurd hi (Nat.not_lt_zero _), fun _ _ => rfl⟩ (Nat.lt_trans (by omega) FU_big)
  rintro m ⟨q1, q2⟩ ⟨k, hk, rfl, hq, hq2⟩
  show (∃ x, f_X9_copy_L157 mv (nI t) (nI j) (nI n) (nI k) q2 = some (.inr x) ∧ _) ∨ (∃ q' m', m' < m ∧ f_X9_copy_L157 mv (nI t) (nI j) (nI n) (nI k) q2 = some (.inl q') ∧ _)
  unfold f_X9_copy_L157
  by_cases h : n ≤ k
  · exact Or.inl ⟨q2, by rw [if_pos (by rw [nI_le_i (by omega) (by omega)]; exact h)], fun i hi => hq i (by omega), hq2⟩
  · right
    refine ⟨(nI (k + 1), upd q2 (60 * t + j + k) (mv k)), m - 1, by omega, ?_, k + 1, by omega, rfl, fun a ha => ?_, fun p hp => ?_⟩
    · rw [if_neg (by rw [nI_le_i (by omega) (by omega)]; exact h), gd_t (inb_n (by omega) (by omega)), letv_def, show (60 : Int32) * nI t + nI j + nI k = nI (60 * t + j + k) from by rw [show (60 : Int32) = nI 60 from rfl, pk_mul, nI_add, nI_add], gd_t (inb_n (by omega) (by omega)), tnN (by omega), tnN (by omega), show nI k + 1 = nI (k + 1) from nI_1 k]
    · by_cases hik : a = k
      · rw [hik]; exact upd_at _ _ _
      · show upd q2 _ _ _ = _
        rw [upd_ne _ _ (by omega)]; exact hq a (by omega)
    · show upd q2 _ _ _ = _
      rw [upd_ne _ _ (by omega)]; exact hq2 p hp
/-- what comes of a copy -/
theorem cp_cases {s t : Nat} {l1 f1 n1 l2 f2 n2 : Int32} {it1 it2 forms sizes its : Nat → Int32} (hs : s < 4) (ht : t < 4) (h1 : RSheet s l1 f1 n1 it1 forms sizes its) (h2 : RSheet t l2 f2 n2 it2 forms sizes its) (latest : Int32) (mv : Nat → Int32) (x2 x4 x5 : Int32) (e1 : f_X8_isUpTo (nI s) (3 : Int32) = some 1) (e2 : f_X8_isUpTo (nI t) (3 : Int32) = some 1) :
    ((l1 = 1 ∨ (l1 = 0 ∧ l2 = 1)) ∧ f_X9_copy latest forms sizes its mv (nI s) x2 (nI t) x4 x5 = some (-11, 1, its, mv)) ∨
    (l1 = 0 ∧ l2 = 0 ∧ ¬ f1 = f2 ∧ f_X9_copy latest forms sizes its mv (nI s) x2 (nI t) x4 x5 = some (-14, 4, its, mv)) ∨
    (l1 = 0 ∧ l2 = 0 ∧ f1 = f2 ∧ (f_X5_hasItems n1 x2 x5 = some 0 ∨ (f_X5_hasItems n1 x2 x5 = some 1 ∧ f_X5_hasItems n2 x4 x5 = some 0)) ∧ f_X9_copy latest forms sizes its mv (nI s) x2 (nI t) x4 x5 = some (-12, 2, its, mv)) ∨
    (l1 = 0 ∧ l2 = 0 ∧ f1 = f2 ∧ f_X5_hasItems n1 x2 x5 = some 1 ∧ f_X5_hasItems n2 x4 x5 = some 1 ∧ acp x2 x4 x5 60 60 = true ∧ ∃ g mv', f_X9_copy latest forms sizes its mv (nI s) x2 (nI t) x4 x5 = some (1, latest, g, mv') ∧
      RSheet t l2 f2 n2 (va_cpy it1 it2 x2.toNatClampNeg x4.toNatClampNeg x5.toNatClampNeg) forms sizes g ∧ ∀ q, (q < 60 * t ∨ 60 * t + 60 ≤ q) → g q = its q) := by
  have gs : inb (nI s) 4 = true := inb_n hs (by omega)
  have gt : inb (nI t) 4 = true := inb_n ht (by omega)
  have ts : (nI s).toNatClampNeg = s := tnN (by omega)
  have tt : (nI t).toNatClampNeg = t := tnN (by omega)
  have nl : ∀ {k : Nat}, k < 2147483648 → ¬ nI k < 0 := fun h => nI_pos (by omega)
  unfold f_X9_copy f_X9_copy_b35 f_X9_copy_b111
  rw [isSheet_eq, e1, isSheet_eq, e2, bind1_def, if_neg one_ne0, bind1_def, if_neg one_ne0, gd_t gs, ts, gd_t gt, tt]
  rcases h1 with ⟨a1, a2⟩ | ⟨a1, ⟨fa, ha, a3, a4⟩, na, hna, a5, a6, hit1⟩
  · exact Or.inl ⟨Or.inl a1, by rw [a2, if_pos (by decide)]; rfl⟩
  rw [a4, if_neg (nl (by omega))]
  rcases h2 with ⟨b1, b2⟩ | ⟨b1, ⟨fb, hb, b3, b4⟩, nb, hnb, b5, b6, hit2⟩
  · exact Or.inl ⟨Or.inr ⟨a1, b1⟩, by rw [b2, if_neg nle_m1]; rfl⟩
  rw [b4, if_pos (nI_ge0 (by omega)), gd_t gs, gd_t gt]
  right
  by_cases hf : ¬ nI fa = nI fb
  · exact Or.inl ⟨a1, b1, by rw [a3, b3]; exact hf, by rw [if_neg hf]; rfl⟩
  have hf : nI fa = nI fb := Classical.byContradiction hf
  right
  rw [if_pos hf, gd_t gs, gd_t gt, a6, b6, a5, b5]
  have bad : (x2 < 0 ∨ x4 < 0 ∨ x5 < 0 ∨ (nI na).toInt64 < x2.toInt64 + x5.toInt64 ∨ (nI nb).toInt64 < x4.toInt64 + x5.toInt64) →
      (if x2 < 0 then bind2 (f_X9_finds latest 2) (fun r5 c6 => some (r5, c6, its, mv)) else if x4 < 0 then bind2 (f_X9_finds latest 2) (fun r5 c6 => some (r5, c6, its, mv)) else if x5 < 0 then bind2 (f_X9_finds latest 2) (fun r5 c6 => some (r5, c6, its, mv)) else if 0 < lg_cmp (x2.toInt64 + x5.toInt64) (nI na).toInt64 then bind2 (f_X9_finds latest 2) (fun r5 c6 => some (r5, c6, its, mv)) else if lg_cmp (x4.toInt64 + x5.toInt64) (nI nb).toInt64 ≤ 0 then bind1 (loopF (fun q : Int32 × (Nat → Int32) => f_X9_copy_L120 its (nI s) x2 x5 q.1 q.2) FU (0, mv)) (fun u8 => bind1 (loopF (fun q : Int32 × (Nat → Int32) => f_X9_copy_L157 u8 (nI t) x4 x5 q.1 q.2) FU (0, its)) (fun u10 => some (1, latest, u10, u8))) else bind2 (f_X9_finds latest 2) (fun r5 c6 => some (r5, c6, its, mv))) = some ((-12 : Int32), (2 : Int32), its, mv) := by
    intro hb
    by_cases c1 : x2 < 0
    · rw [if_pos c1]; rfl
    by_cases c2 : x4 < 0
    · rw [if_neg c1, if_pos c2]; rfl
    by_cases c3 : x5 < 0
    · rw [if_neg c1, if_neg c2, if_pos c3]; rfl
    rw [if_neg c1, if_neg c2, if_neg c3]
    by_cases c4 : (nI na).toInt64 < x2.toInt64 + x5.toInt64
    · rw [if_pos ((lg_gt0 _ _).mpr c4)]; rfl
    rw [if_neg (fun q => c4 ((lg_gt0 _ _).mp q))]
    rcases hb with q | q | q | q | q
    · exact absurd q c1
    · exact absurd q c2
    · exact absurd q c3
    · exact absurd q c4
    · rw [if_neg (fun z => absurd ((lg_gt0 _ _).mpr q) (Int32.not_lt.mpr z))]; rfl
  rcases (has_eq hna x2 x5).symm with ⟨p1, hb⟩ | ⟨p1, i, n, rfl, rfl, hin⟩
  · exact Or.inl ⟨a1, b1, by rw [a3, b3]; exact hf, Or.inl p1, bad (hb.elim Or.inl (fun q => q.elim (fun q => Or.inr (Or.inr (Or.inl q))) (fun q => Or.inr (Or.inr (Or.inr (Or.inl q))))))⟩
  rcases (has_eq hnb x4 (nI n)).symm with ⟨p2, hb⟩ | ⟨p2, j, n', rfl, en, hjn⟩
  · exact Or.inl ⟨a1, b1, by rw [a3, b3]; exact hf, Or.inr ⟨p1, p2⟩, bad (hb.elim (fun q => Or.inr (Or.inl q)) (fun q => q.elim (fun q => Or.inr (Or.inr (Or.inl q))) (fun q => Or.inr (Or.inr (Or.inr (Or.inr q))))))⟩
  right
  have en : n = n' := by rw [nI_eq_i (by omega) (by omega)] at en; exact en
  subst en
  have c1 : ¬ nI i < 0 := nl (by omega)
  have c2 : ¬ nI j < 0 := nl (by omega)
  have c3 : ¬ nI n < 0 := nl (by omega)
  have c4 : ¬ 0 < lg_cmp ((nI i).toInt64 + (nI n).toInt64) (nI na).toInt64 := fun q => by
    have q := (lg_gt0 _ _).mp q
    rw [Int64.lt_iff_toInt_lt, i64_add, Int32.toInt_toInt64, nI_toInt (by omega), nI_toInt (by omega), nI_toInt (by omega)] at q
    omega
  have c5 : lg_cmp ((nI j).toInt64 + (nI n).toInt64) (nI nb).toInt64 ≤ 0 := Int32.not_lt.mp fun q => by
    have q := (lg_gt0 _ _).mp q
    rw [Int64.lt_iff_toInt_lt, i64_add, Int32.toInt_toInt64, nI_toInt (by omega), nI_toInt (by omega), nI_toInt (by omega)] at q
    omega
  obtain ⟨mv', hm1, hm2⟩ := copy_out its s i n hs (by omega) mv
  obtain ⟨g, hg1, hg2, hg3⟩ := copy_in mv' t j n ht (by omega) its
  refine ⟨a1, b1, by rw [a3, b3]; exact hf, p1, p2, ?_, g, mv', ?_, ?_, fun q hq => hg3 q (by omega)⟩
  · unfold acp
    rw [tnN (by omega), tnN (by omega), tnN (by omega)]
    exact decide_eq_true ⟨c1, c2, c3, by omega, by omega⟩
  · rw [if_neg c1, if_neg c2, if_neg c3, if_neg c4, if_pos c5, hm1, bind1_def, hg1]; rfl
  · refine Or.inr ⟨b1, ⟨fb, hb, b3, b4⟩, nb, hnb, rfl, b6, fun k hk => ?_⟩
    rw [tnN (by omega), tnN (by omega), tnN (by omega)]
    unfold va_cpy
    by_cases hk2 : j ≤ k ∧ k < j + n
    · rw [if_pos hk2]
      have e := hg2 (k - j) (by omega)
      rw [show 60 * t + j + (k - j) = 60 * t + k by omega] at e
      rw [e, hm2 (k - j) (by omega), show 60 * s + i + (k - j) = 60 * s + (i + (k - j)) by omega]
      exact hit1 _ (by omega)
    · rw [if_neg hk2, hg3 _ (by omega)]
      exact hit2 k hk

set_option maxHeartbeats 4000000 in
theorem sim_copy {xi : Nat → Int32} {xa : Nat → Nat → Int32} {xl : Nat → Int64} {xm : Nat → Nat → Int64} {mi : Nat → Int32} {ma : Nat → Nat → Int32} (h : Rel xi xa xl xm mi ma) (z1 z2 z3 z4 z5 : Int32) : ∃ (r : Int32) (c1 : Int32) (c2 : Nat → Int32) (c3 : Nat → Int32) (c4 : Nat → Int32) (c5 : Nat → Int32) (d1 : Int32) (d2 : Nat → Int32) (d3 : Nat → Int32) , f_X8_copy (xi 1) (xi 24) (xi 25) (xi 26) (xa 29) (xi 27) (xi 28) (xi 29) (xa 30) (xi 30) (xi 31) (xi 32) (xa 31) (xi 33) (xi 34) (xi 35) (xa 32) z1 z2 z3 z4 z5 = some (r, c1, c2, c3, c4, c5) ∧ f_X9_copy (mi 0) (ma 0) (ma 1) (ma 2) (ma 3) z1 z2 z3 z4 z5 = some (r, d1, d2, d3) ∧ Rel (va_up xi 1 c1) (va_up (va_up (va_up (va_up xa 29 c2) 30 c3) 31 c4) 32 c5) xl xm (va_up mi 0 d1) (va_up (va_up ma 2 d2) 3 d3) := by
  obtain ⟨hT0, hT1, hL, hH, hB, hD, hS, hSe, hF, hSh, hW⟩ := id h
  rcases upTo_cases z1 (M := 3) (by omega) with ⟨e1, -⟩ | ⟨e1, k, hk, rfl⟩
  · refine ⟨-2, xi 1, xa 29, xa 30, xa 31, xa 32, mi 0, ma 2, ma 3, ?_, ?_, by simpa only [up_self] using h⟩
    · unfold f_X8_copy; rw [show f_X8_isUpTo z1 (3 : Int32) = some 0 from e1]; rfl
    · unfold f_X9_copy; rw [isSheet_eq, show f_X8_isUpTo z1 (3 : Int32) = some 0 from e1]; rfl
  rcases upTo_cases z3 (M := 3) (by omega) with ⟨e2, -⟩ | ⟨e2, k2, hk2, rfl⟩
  · refine ⟨-2, xi 1, xa 29, xa 30, xa 31, xa 32, mi 0, ma 2, ma 3, ?_, ?_, by simpa only [up_self] using h⟩
    · unfold f_X8_copy; rw [show f_X8_isUpTo (nI k) (3 : Int32) = some 1 from e1, show f_X8_isUpTo z3 (3 : Int32) = some 0 from e2]; rfl
    · unfold f_X9_copy; rw [isSheet_eq, show f_X8_isUpTo (nI k) (3 : Int32) = some 1 from e1, isSheet_eq, show f_X8_isUpTo z3 (3 : Int32) = some 0 from e2]; rfl
  have e1 : f_X8_isUpTo (nI k) (3 : Int32) = some 1 := e1
  have e2 : f_X8_isUpTo (nI k2) (3 : Int32) = some 1 := e2
  have hSh0 : RSheets xi xa (ma 0) (ma 1) (ma 2) := hSh
  rcases (show k = 0 ∨ k = 1 ∨ k = 2 ∨ k = 3 by omega) with rfl | rfl | rfl | rfl <;> rcases (show k2 = 0 ∨ k2 = 1 ∨ k2 = 2 ∨ k2 = 3 by omega) with rfl | rfl | rfl | rfl
  · rcases cp_cases (s := 0) (t := 0) (by omega) (by omega) hSh.1 hSh.1 (mi 0) (ma 3) z2 z4 z5 e1 e2 with ⟨hl, hm⟩ | ⟨a1, a2, a3, hm⟩ | ⟨a1, a2, a3, a4, hm⟩ | ⟨a1, a2, a3, a4, a5, a6, g, mv, hm, hg, hg2⟩
    · refine ⟨-11, 1, xa 29, xa 30, xa 31, xa 32, 1, ma 2, ma 3, ?_, hm, hT0, hT1, hL, hH, hB, hD, hS, hSe, rfl, hSh0, hW⟩
      unfold f_X8_copy f_X8_copy_b51 f_X8_copy_b99
      rw [e1, bind1_def, if_neg one_ne0, bind1_def, if_neg one_ne0]
      simp only [if_pos (show nI 0 = (0 : Int32) from rfl)]
      rcases hl with hl | ⟨hl, hl2⟩
      · rw [hl, if_neg one_ne0]; rfl
      · rw [hl] at hl2; exact absurd hl2.symm one_ne0
    · refine ⟨-14, 4, xa 29, xa 30, xa 31, xa 32, 4, ma 2, ma 3, ?_, hm, hT0, hT1, hL, hH, hB, hD, hS, hSe, rfl, hSh0, hW⟩
      exact absurd rfl a3
    · refine ⟨-12, 2, xa 29, xa 30, xa 31, xa 32, 2, ma 2, ma 3, ?_, hm, hT0, hT1, hL, hH, hB, hD, hS, hSe, rfl, hSh0, hW⟩
      unfold f_X8_copy f_X8_copy_b51 f_X8_copy_b99
      rw [e1, bind1_def, if_neg one_ne0, bind1_def, if_neg one_ne0]
      simp only [if_pos (show nI 0 = (0 : Int32) from rfl)]
      rw [if_pos a1, if_pos a2, if_pos trivial]
      rcases a4 with a4 | ⟨a4, a5⟩
      · rw [a4]; rfl
      · rw [a4, bind1_def, if_neg one_ne0, a5]; rfl
    · refine ⟨1, xi 1, va_cpy (xa 29) (xa 29) z2.toNatClampNeg z4.toNatClampNeg z5.toNatClampNeg, xa 30, xa 31, xa 32, mi 0, g, mv, ?_, hm, ?_⟩
      · unfold f_X8_copy f_X8_copy_b51 f_X8_copy_b99
        rw [e1, bind1_def, if_neg one_ne0, bind1_def, if_neg one_ne0]
        simp only [if_pos (show nI 0 = (0 : Int32) from rfl)]
        rw [if_pos a1, if_pos a2, if_pos trivial, a4, bind1_def, if_neg one_ne0, a5, bind1_def, if_neg one_ne0, gd_t a6]
      · have hSh2 : RSheet 0 (xi 24) (xi 25) (xi 26) (va_cpy (xa 29) (xa 29) z2.toNatClampNeg z4.toNatClampNeg z5.toNatClampNeg) (ma 0) (ma 1) g ∧ RSheet 1 (xi 27) (xi 28) (xi 29) (xa 30) (ma 0) (ma 1) g ∧ RSheet 2 (xi 30) (xi 31) (xi 32) (xa 31) (ma 0) (ma 1) g ∧ RSheet 3 (xi 33) (xi 34) (xi 35) (xa 32) (ma 0) (ma 1) g := ⟨hg, hSh.2.1.keep rfl rfl (fun j hj => hg2 _ (by omega)), hSh.2.2.1.keep rfl rfl (fun j hj => hg2 _ (by omega)), hSh.2.2.2.keep rfl rfl (fun j hj => hg2 _ (by omega))⟩
        exact ⟨hT0, hT1, hL, hH, hB, hD, hS, hSe, hF, hSh2, hW⟩
  · rcases cp_cases (s := 0) (t := 1) (by omega) (by omega) hSh.1 hSh.2.1 (mi 0) (ma 3) z2 z4 z5 e1 e2 with ⟨hl, hm⟩ | ⟨a1, a2, a3, hm⟩ | ⟨a1, a2, a3, a4, hm⟩ | ⟨a1, a2, a3, a4, a5, a6, g, mv, hm, hg, hg2⟩
    · refine ⟨-11, 1, xa 29, xa 30, xa 31, xa 32, 1, ma 2, ma 3, ?_, hm, hT0, hT1, hL, hH, hB, hD, hS, hSe, rfl, hSh0, hW⟩
      unfold f_X8_copy f_X8_copy_b51 f_X8_copy_b99
      rw [e1, e2, bind1_def, if_neg one_ne0, bind1_def, if_neg one_ne0]
      simp only [if_pos (show nI 0 = (0 : Int32) from rfl), if_neg (show ¬ nI 1 = (0 : Int32) by decide), if_pos (show nI 1 = (1 : Int32) from rfl)]
      rcases hl with hl | ⟨hl, hl2⟩
      · rw [hl, if_neg one_ne0]; rfl
      · rw [hl, if_pos rfl, hl2, if_neg one_ne0]; rfl
    · refine ⟨-14, 4, xa 29, xa 30, xa 31, xa 32, 4, ma 2, ma 3, ?_, hm, hT0, hT1, hL, hH, hB, hD, hS, hSe, rfl, hSh0, hW⟩
      unfold f_X8_copy f_X8_copy_b51 f_X8_copy_b99
      rw [e1, e2, bind1_def, if_neg one_ne0, bind1_def, if_neg one_ne0]
      simp only [if_pos (show nI 0 = (0 : Int32) from rfl), if_neg (show ¬ nI 1 = (0 : Int32) by decide), if_pos (show nI 1 = (1 : Int32) from rfl)]
      rw [if_pos a1, if_pos a2, if_neg a3]; rfl
    · refine ⟨-12, 2, xa 29, xa 30, xa 31, xa 32, 2, ma 2, ma 3, ?_, hm, hT0, hT1, hL, hH, hB, hD, hS, hSe, rfl, hSh0, hW⟩
      unfold f_X8_copy f_X8_copy_b51 f_X8_copy_b99
      rw [e1, e2, bind1_def, if_neg one_ne0, bind1_def, if_neg one_ne0]
      simp only [if_pos (show nI 0 = (0 : Int32) from rfl), if_neg (show ¬ nI 1 = (0 : Int32) by decide), if_pos (show nI 1 = (1 : Int32) from rfl)]
      rw [if_pos a1, if_pos a2, if_pos a3]
      rcases a4 with a4 | ⟨a4, a5⟩
      · rw [a4]; rfl
      · rw [a4, bind1_def, if_neg one_ne0, a5]; rfl
    · refine ⟨1, xi 1, xa 29, va_cpy (xa 29) (xa 30) z2.toNatClampNeg z4.toNatClampNeg z5.toNatClampNeg, xa 31, xa 32, mi 0, g, mv, ?_, hm, ?_⟩
      · unfold f_X8_copy f_X8_copy_b51 f_X8_copy_b99
        rw [e1, e2, bind1_def, if_neg one_ne0, bind1_def, if_neg one_ne0]
        simp only [if_pos (show nI 0 = (0 : Int32) from rfl), if_neg (show ¬ nI 1 = (0 : Int32) by decide), if_pos (show nI 1 = (1 : Int32) from rfl)]
        rw [if_pos a1, if_pos a2, if_pos a3, a4, bind1_def, if_neg one_ne0, a5, bind1_def, if_neg one_ne0, gd_t a6]
      · have hSh2 : RSheet 0 (xi 24) (xi 25) (xi 26) (xa 29) (ma 0) (ma 1) g ∧ RSheet 1 (xi 27) (xi 28) (xi 29) (va_cpy (xa 29) (xa 30) z2.toNatClampNeg z4.toNatClampNeg z5.toNatClampNeg) (ma 0) (ma 1) g ∧ RSheet 2 (xi 30) (xi 31) (xi 32) (xa 31) (ma 0) (ma 1) g ∧ RSheet 3 (xi 33) (xi 34) (xi 35) (xa 32) (ma 0) (ma 1) g := ⟨hSh.1.keep rfl rfl (fun j hj => hg2 _ (by omega)), hg, hSh.2.2.1.keep rfl rfl (fun j hj => hg2 _ (by omega)), hSh.2.2.2.keep rfl rfl (fun j hj => hg2 _ (by omega))⟩
        exact ⟨hT0, hT1, hL, hH, hB, hD, hS, hSe, hF, hSh2, hW⟩
  · rcases cp_cases (s := 0) (t := 2) (by omega) (by omega) hSh.1 hSh.2.2.1 (mi 0) (ma 3) z2 z4 z5 e1 e2 with ⟨hl, hm⟩ | ⟨a1, a2, a3, hm⟩ | ⟨a1, a2, a3, a4, hm⟩ | ⟨a1, a2, a3, a4, a5, a6, g, mv, hm, hg, hg2⟩
    · refine ⟨-11, 1, xa 29, xa 30, xa 31, xa 32, 1, ma 2, ma 3, ?_, hm, hT0, hT1, hL, hH, hB, hD, hS, hSe, rfl, hSh0, hW⟩
      unfold f_X8_copy f_X8_copy_b51 f_X8_copy_b99
      rw [e1, e2, bind1_def, if_neg one_ne0, bind1_def, if_neg one_ne0]
      simp only [if_pos (show nI 0 = (0 : Int32) from rfl), if_neg (show ¬ nI 2 = (0 : Int32) by decide), if_neg (show ¬ nI 2 = (1 : Int32) by decide), if_pos (show nI 2 = (2 : Int32) from rfl)]
      rcases hl with hl | ⟨hl, hl2⟩
      · rw [hl, if_neg one_ne0]; rfl
      · rw [hl, if_pos rfl, hl2, if_neg one_ne0]; rfl
    · refine ⟨-14, 4, xa 29, xa 30, xa 31, xa 32, 4, ma 2, ma 3, ?_, hm, hT0, hT1, hL, hH, hB, hD, hS, hSe, rfl, hSh0, hW⟩
      unfold f_X8_copy f_X8_copy_b51 f_X8_copy_b99
      rw [e1, e2, bind1_def, if_neg one_ne0, bind1_def, if_neg one_ne0]
      simp only [if_pos (show nI 0 = (0 : Int32) from rfl), if_neg (show ¬ nI 2 = (0 : Int32) by decide), if_neg (show ¬ nI 2 = (1 : Int32) by decide), if_pos (show nI 2 = (2 : Int32) from rfl)]
      rw [if_pos a1, if_pos a2, if_neg a3]; rfl
    · refine ⟨-12, 2, xa 29, xa 30, xa 31, xa 32, 2, ma 2, ma 3, ?_, hm, hT0, hT1, hL, hH, hB, hD, hS, hSe, rfl, hSh0, hW⟩
      unfold f_X8_copy f_X8_copy_b51 f_X8_copy_b99
      rw [e1, e2, bind1_def, if_neg one_ne0, bind1_def, if_neg one_ne0]
      simp only [if_pos (show nI 0 = (0 : Int32) from rfl), if_neg (show ¬ nI 2 = (0 : Int32) by decide), if_neg (show ¬ nI 2 = (1 : Int32) by decide), if_pos (show nI 2 = (2 : Int32) from rfl)]
      rw [if_pos a1, if_pos a2, if_pos a3]
      rcases a4 with a4 | ⟨a4, a5⟩
      · rw [a4]; rfl
      · rw [a4, bind1_def, if_neg one_ne0, a5]; rfl
    · refine ⟨1, xi 1, xa 29, xa 30, va_cpy (xa 29) (xa 31) z2.toNatClampNeg z4.toNatClampNeg z5.toNatClampNeg, xa 32, mi 0, g, mv, ?_, hm, ?_⟩
      · unfold f_X8_copy f_X8_copy_b51 f_X8_copy_b99
        rw [e1, e2, bind1_def, if_neg one_ne0, bind1_def, if_neg one_ne0]
        simp only [if_pos (show nI 0 = (0 : Int32) from rfl), if_neg (show ¬ nI 2 = (0 : Int32) by decide), if_neg (show ¬ nI 2 = (1 : Int32) by decide), if_pos (show nI 2 = (2 : Int32) from rfl)]
        rw [if_pos a1, if_pos a2, if_pos a3, a4, bind1_def, if_neg one_ne0, a5, bind1_def, if_neg one_ne0, gd_t a6]
      · have hSh2 : RSheet 0 (xi 24) (xi 25) (xi 26) (xa 29) (ma 0) (ma 1) g ∧ RSheet 1 (xi 27) (xi 28) (xi 29) (xa 30) (ma 0) (ma 1) g ∧ RSheet 2 (xi 30) (xi 31) (xi 32) (va_cpy (xa 29) (xa 31) z2.toNatClampNeg z4.toNatClampNeg z5.toNatClampNeg) (ma 0) (ma 1) g ∧ RSheet 3 (xi 33) (xi 34) (xi 35) (xa 32) (ma 0) (ma 1) g := ⟨hSh.1.keep rfl rfl (fun j hj => hg2 _ (by omega)), hSh.2.1.keep rfl rfl (fun j hj => hg2 _ (by omega)), hg, hSh.2.2.2.keep rfl rfl (fun j hj => hg2 _ (by omega))⟩
        exact ⟨hT0, hT1, hL, hH, hB, hD, hS, hSe, hF, hSh2, hW⟩
  · rcases cp_cases (s := 0) (t := 3) (by omega) (by omega) hSh.1 hSh.2.2.2 (mi 0) (ma 3) z2 z4 z5 e1 e2 with ⟨hl, hm⟩ | ⟨a1, a2, a3, hm⟩ | ⟨a1, a2, a3, a4, hm⟩ | ⟨a1, a2, a3, a4, a5, a6, g, mv, hm, hg, hg2⟩
    · refine ⟨-11, 1, xa 29, xa 30, xa 31, xa 32, 1, ma 2, ma 3, ?_, hm, hT0, hT1, hL, hH, hB, hD, hS, hSe, rfl, hSh0, hW⟩
      unfold f_X8_copy f_X8_copy_b51 f_X8_copy_b99
      rw [e1, e2, bind1_def, if_neg one_ne0, bind1_def, if_neg one_ne0]
      simp only [if_pos (show nI 0 = (0 : Int32) from rfl), if_neg (show ¬ nI 3 = (0 : Int32) by decide), if_neg (show ¬ nI 3 = (1 : Int32) by decide), if_neg (show ¬ nI 3 = (2 : Int32) by decide), if_pos (show nI 3 = (3 : Int32) from rfl)]
      rcases hl with hl | ⟨hl, hl2⟩
      · rw [hl, if_neg one_ne0]; rfl
      · rw [hl, if_pos rfl, hl2, if_neg one_ne0]; rfl
    · refine ⟨-14, 4, xa 29, xa 30, xa 31, xa 32, 4, ma 2, ma 3, ?_, hm, hT0, hT1, hL, hH, hB, hD, hS, hSe, rfl, hSh0, hW⟩
      unfold f_X8_copy f_X8_copy_b51 f_X8_copy_b99
      rw [e1, e2, bind1_def, if_neg one_ne0, bind1_def, if_neg one_ne0]
      simp only [if_pos (show nI 0 = (0 : Int32) from rfl), if_neg (show ¬ nI 3 = (0 : Int32) by decide), if_neg (show ¬ nI 3 = (1 : Int32) by decide), if_neg (show ¬ nI 3 = (2 : Int32) by decide), if_pos (show nI 3 = (3 : Int32) from rfl)]
      rw [if_pos a1, if_pos a2, if_neg a3]; rfl
    · refine ⟨-12, 2, xa 29, xa 30, xa 31, xa 32, 2, ma 2, ma 3, ?_, hm, hT0, hT1, hL, hH, hB, hD, hS, hSe, rfl, hSh0, hW⟩
      unfold f_X8_copy f_X8_copy_b51 f_X8_copy_b99
      rw [e1, e2, bind1_def, if_neg one_ne0, bind1_def, if_neg one_ne0]
      simp only [if_pos (show nI 0 = (0 : Int32) from rfl), if_neg (show ¬ nI 3 = (0 : Int32) by decide), if_neg (show ¬ nI 3 = (1 : Int32) by decide), if_neg (show ¬ nI 3 = (2 : Int32) by decide), if_pos (show nI 3 = (3 : Int32) from rfl)]
      rw [if_pos a1, if_pos a2, if_pos a3]
      rcases a4 with a4 | ⟨a4, a5⟩
      · rw [a4]; rfl
      · rw [a4, bind1_def, if_neg one_ne0, a5]; rfl
    · refine ⟨1, xi 1, xa 29, xa 30, xa 31, va_cpy (xa 29) (xa 32) z2.toNatClampNeg z4.toNatClampNeg z5.toNatClampNeg, mi 0, g, mv, ?_, hm, ?_⟩
      · unfold f_X8_copy f_X8_copy_b51 f_X8_copy_b99
        rw [e1, e2, bind1_def, if_neg one_ne0, bind1_def, if_neg one_ne0]
        simp only [if_pos (show nI 0 = (0 : Int32) from rfl), if_neg (show ¬ nI 3 = (0 : Int32) by decide), if_neg (show ¬ nI 3 = (1 : Int32) by decide), if_neg (show ¬ nI 3 = (2 : Int32) by decide), if_pos (show nI 3 = (3 : Int32) from rfl)]
        rw [if_pos a1, if_pos a2, if_pos a3, a4, bind1_def, if_neg one_ne0, a5, bind1_def, if_neg one_ne0, gd_t a6]
      · have hSh2 : RSheet 0 (xi 24) (xi 25) (xi 26) (xa 29) (ma 0) (ma 1) g ∧ RSheet 1 (xi 27) (xi 28) (xi 29) (xa 30) (ma 0) (ma 1) g ∧ RSheet 2 (xi 30) (xi 31) (xi 32) (xa 31) (ma 0) (ma 1) g ∧ RSheet 3 (xi 33) (xi 34) (xi 35) (va_cpy (xa 29) (xa 32) z2.toNatClampNeg z4.toNatClampNeg z5.toNatClampNeg) (ma 0) (ma 1) g := ⟨hSh.1.keep rfl rfl (fun j hj => hg2 _ (by omega)), hSh.2.1.keep rfl rfl (fun j hj => hg2 _ (by omega)), hSh.2.2.1.keep rfl rfl (fun j hj => hg2 _ (by omega)), hg⟩
        exact ⟨hT0, hT1, hL, hH, hB, hD, hS, hSe, hF, hSh2, hW⟩
  · rcases cp_cases (s := 1) (t := 0) (by omega) (by omega) hSh.2.1 hSh.1 (mi 0) (ma 3) z2 z4 z5 e1 e2 with ⟨hl, hm⟩ | ⟨a1, a2, a3, hm⟩ | ⟨a1, a2, a3, a4, hm⟩ | ⟨a1, a2, a3, a4, a5, a6, g, mv, hm, hg, hg2⟩
    · refine ⟨-11, 1, xa 29, xa 30, xa 31, xa 32, 1, ma 2, ma 3, ?_, hm, hT0, hT1, hL, hH, hB, hD, hS, hSe, rfl, hSh0, hW⟩
      unfold f_X8_copy f_X8_copy_b51 f_X8_copy_b99
      rw [e1, e2, bind1_def, if_neg one_ne0, bind1_def, if_neg one_ne0]
      simp only [if_neg (show ¬ nI 1 = (0 : Int32) by decide), if_pos (show nI 1 = (1 : Int32) from rfl), if_pos (show nI 0 = (0 : Int32) from rfl)]
      rcases hl with hl | ⟨hl, hl2⟩
      · rw [hl, if_neg one_ne0]; rfl
      · rw [hl, if_pos rfl, hl2, if_neg one_ne0]; rfl
    · refine ⟨-14, 4, xa 29, xa 30, xa 31, xa 32, 4, ma 2, ma 3, ?_, hm, hT0, hT1, hL, hH, hB, hD, hS, hSe, rfl, hSh0, hW⟩
      unfold f_X8_copy f_X8_copy_b51 f_X8_copy_b99
      rw [e1, e2, bind1_def, if_neg one_ne0, bind1_def, if_neg one_ne0]
      simp only [if_neg (show ¬ nI 1 = (0 : Int32) by decide), if_pos (show nI 1 = (1 : Int32) from rfl), if_pos (show nI 0 = (0 : Int32) from rfl)]
      rw [if_pos a1, if_pos a2, if_neg a3]; rfl
    · refine ⟨-12, 2, xa 29, xa 30, xa 31, xa 32, 2, ma 2, ma 3, ?_, hm, hT0, hT1, hL, hH, hB, hD, hS, hSe, rfl, hSh0, hW⟩
      unfold f_X8_copy f_X8_copy_b51 f_X8_copy_b99
      rw [e1, e2, bind1_def, if_neg one_ne0, bind1_def, if_neg one_ne0]
      simp only [if_neg (show ¬ nI 1 = (0 : Int32) by decide), if_pos (show nI 1 = (1 : Int32) from rfl), if_pos (show nI 0 = (0 : Int32) from rfl)]
      rw [if_pos a1, if_pos a2, if_pos a3]
      rcases a4 with a4 | ⟨a4, a5⟩
      · rw [a4]; rfl
      · rw [a4, bind1_def, if_neg one_ne0, a5]; rfl
    · refine ⟨1, xi 1, va_cpy (xa 30) (xa 29) z2.toNatClampNeg z4.toNatClampNeg z5.toNatClampNeg, xa 30, xa 31, xa 32, mi 0, g, mv, ?_, hm, ?_⟩
      · unfold f_X8_copy f_X8_copy_b51 f_X8_copy_b99
        rw [e1, e2, bind1_def, if_neg one_ne0, bind1_def, if_neg one_ne0]
        simp only [if_neg (show ¬ nI 1 = (0 : Int32) by decide), if_pos (show nI 1 = (1 : Int32) from rfl), if_pos (show nI 0 = (0 : Int32) from rfl)]
        rw [if_pos a1, if_pos a2, if_pos a3, a4, bind1_def, if_neg one_ne0, a5, bind1_def, if_neg one_ne0, gd_t a6]
      · have hSh2 : RSheet 0 (xi 24) (xi 25) (xi 26) (va_cpy (xa 30) (xa 29) z2.toNatClampNeg z4.toNatClampNeg z5.toNatClampNeg) (ma 0) (ma 1) g ∧ RSheet 1 (xi 27) (xi 28) (xi 29) (xa 30) (ma 0) (ma 1) g ∧ RSheet 2 (xi 30) (xi 31) (xi 32) (xa 31) (ma 0) (ma 1) g ∧ RSheet 3 (xi 33) (xi 34) (xi 35) (xa 32) (ma 0) (ma 1) g := ⟨hg, hSh.2.1.keep rfl rfl (fun j hj => hg2 _ (by omega)), hSh.2.2.1.keep rfl rfl (fun j hj => hg2 _ (by omega)), hSh.2.2.2.keep rfl rfl (fun j hj => hg2 _ (by omega))⟩
        exact ⟨hT0, hT1, hL, hH, hB, hD, hS, hSe, hF, hSh2, hW⟩
  · rcases cp_cases (s := 1) (t := 1) (by omega) (by omega) hSh.2.1 hSh.2.1 (mi 0) (ma 3) z2 z4 z5 e1 e2 with ⟨hl, hm⟩ | ⟨a1, a2, a3, hm⟩ | ⟨a1, a2, a3, a4, hm⟩ | ⟨a1, a2, a3, a4, a5, a6, g, mv, hm, hg, hg2⟩
    · refine ⟨-11, 1, xa 29, xa 30, xa 31, xa 32, 1, ma 2, ma 3, ?_, hm, hT0, hT1, hL, hH, hB, hD, hS, hSe, rfl, hSh0, hW⟩
      unfold f_X8_copy f_X8_copy_b51 f_X8_copy_b99
      rw [e1, bind1_def, if_neg one_ne0, bind1_def, if_neg one_ne0]
      simp only [if_neg (show ¬ nI 1 = (0 : Int32) by decide), if_pos (show nI 1 = (1 : Int32) from rfl)]
      rcases hl with hl | ⟨hl, hl2⟩
      · rw [hl, if_neg one_ne0]; rfl
      · rw [hl] at hl2; exact absurd hl2.symm one_ne0
    · refine ⟨-14, 4, xa 29, xa 30, xa 31, xa 32, 4, ma 2, ma 3, ?_, hm, hT0, hT1, hL, hH, hB, hD, hS, hSe, rfl, hSh0, hW⟩
      exact absurd rfl a3
    · refine ⟨-12, 2, xa 29, xa 30, xa 31, xa 32, 2, ma 2, ma 3, ?_, hm, hT0, hT1, hL, hH, hB, hD, hS, hSe, rfl, hSh0, hW⟩
      unfold f_X8_copy f_X8_copy_b51 f_X8_copy_b99
      rw [e1, bind1_def, if_neg one_ne0, bind1_def, if_neg one_ne0]
      simp only [if_neg (show ¬ nI 1 = (0 : Int32) by decide), if_pos (show nI 1 = (1 : Int32) from rfl)]
      rw [if_pos a1, if_pos a2, if_pos trivial]
      rcases a4 with a4 | ⟨a4, a5⟩
      · rw [a4]; rfl
      · rw [a4, bind1_def, if_neg one_ne0, a5]; rfl
    · refine ⟨1, xi 1, xa 29, va_cpy (xa 30) (xa 30) z2.toNatClampNeg z4.toNatClampNeg z5.toNatClampNeg, xa 31, xa 32, mi 0, g, mv, ?_, hm, ?_⟩
      · unfold f_X8_copy f_X8_copy_b51 f_X8_copy_b99
        rw [e1, bind1_def, if_neg one_ne0, bind1_def, if_neg one_ne0]
        simp only [if_neg (show ¬ nI 1 = (0 : Int32) by decide), if_pos (show nI 1 = (1 : Int32) from rfl)]
        rw [if_pos a1, if_pos a2, if_pos trivial, a4, bind1_def, if_neg one_ne0, a5, bind1_def, if_neg one_ne0, gd_t a6]
      · have hSh2 : RSheet 0 (xi 24) (xi 25) (xi 26) (xa 29) (ma 0) (ma 1) g ∧ RSheet 1 (xi 27) (xi 28) (xi 29) (va_cpy (xa 30) (xa 30) z2.toNatClampNeg z4.toNatClampNeg z5.toNatClampNeg) (ma 0) (ma 1) g ∧ RSheet 2 (xi 30) (xi 31) (xi 32) (xa 31) (ma 0) (ma 1) g ∧ RSheet 3 (xi 33) (xi 34) (xi 35) (xa 32) (ma 0) (ma 1) g := ⟨hSh.1.keep rfl rfl (fun j hj => hg2 _ (by omega)), hg, hSh.2.2.1.keep rfl rfl (fun j hj => hg2 _ (by omega)), hSh.2.2.2.keep rfl rfl (fun j hj => hg2 _ (by omega))⟩
        exact ⟨hT0, hT1, hL, hH, hB, hD, hS, hSe, hF, hSh2, hW⟩
  · rcases cp_cases (s := 1) (t := 2) (by omega) (by omega) hSh.2.1 hSh.2.2.1 (mi 0) (ma 3) z2 z4 z5 e1 e2 with ⟨hl, hm⟩ | ⟨a1, a2, a3, hm⟩ | ⟨a1, a2, a3, a4, hm⟩ | ⟨a1, a2, a3, a4, a5, a6, g, mv, hm, hg, hg2⟩
    · refine ⟨-11, 1, xa 29, xa 30, xa 31, xa 32, 1, ma 2, ma 3, ?_, hm, hT0, hT1, hL, hH, hB, hD, hS, hSe, rfl, hSh0, hW⟩
      unfold f_X8_copy f_X8_copy_b51 f_X8_copy_b99
      rw [e1, e2, bind1_def, if_neg one_ne0, bind1_def, if_neg one_ne0]
      simp only [if_neg (show ¬ nI 1 = (0 : Int32) by decide), if_pos (show nI 1 = (1 : Int32) from rfl), if_neg (show ¬ nI 2 = (0 : Int32) by decide), if_neg (show ¬ nI 2 = (1 : Int32) by decide), if_pos (show nI 2 = (2 : Int32) from rfl)]
      rcases hl with hl | ⟨hl, hl2⟩
      · rw [hl, if_neg one_ne0]; rfl
      · rw [hl, if_pos rfl, hl2, if_neg one_ne0]; rfl
    · refine ⟨-14, 4, xa 29, xa 30, xa 31, xa 32, 4, ma 2, ma 3, ?_, hm, hT0, hT1, hL, hH, hB, hD, hS, hSe, rfl, hSh0, hW⟩
      unfold f_X8_copy f_X8_copy_b51 f_X8_copy_b99
      rw [e1, e2, bind1_def, if_neg one_ne0, bind1_def, if_neg one_ne0]
      simp only [if_neg (show ¬ nI 1 = (0 : Int32) by decide), if_pos (show nI 1 = (1 : Int32) from rfl), if_neg (show ¬ nI 2 = (0 : Int32) by decide), if_neg (show ¬ nI 2 = (1 : Int32) by decide), if_pos (show nI 2 = (2 : Int32) from rfl)]
      rw [if_pos a1, if_pos a2, if_neg a3]; rfl
    · refine ⟨-12, 2, xa 29, xa 30, xa 31, xa 32, 2, ma 2, ma 3, ?_, hm, hT0, hT1, hL, hH, hB, hD, hS, hSe, rfl, hSh0, hW⟩
      unfold f_X8_copy f_X8_copy_b51 f_X8_copy_b99
      rw [e1, e2, bind1_def, if_neg one_ne0, bind1_def, if_neg one_ne0]
      simp only [if_neg (show ¬ nI 1 = (0 : Int32) by decide), if_pos (show nI 1 = (1 : Int32) from rfl), if_neg (show ¬ nI 2 = (0 : Int32) by decide), if_neg (show ¬ nI 2 = (1 : Int32) by decide), if_pos (show nI 2 = (2 : Int32) from rfl)]
      rw [if_pos a1, if_pos a2, if_pos a3]
      rcases a4 with a4 | ⟨a4, a5⟩
      · rw [a4]; rfl
      · rw [a4, bind1_def, if_neg one_ne0, a5]; rfl
    · refine ⟨1, xi 1, xa 29, xa 30, va_cpy (xa 30) (xa 31) z2.toNatClampNeg z4.toNatClampNeg z5.toNatClampNeg, xa 32, mi 0, g, mv, ?_, hm, ?_⟩
      · unfold f_X8_copy f_X8_copy_b51 f_X8_copy_b99
        rw [e1, e2, bind1_def, if_neg one_ne0, bind1_def, if_neg one_ne0]
        simp only [if_neg (show ¬ nI 1 = (0 : Int32) by decide), if_pos (show nI 1 = (1 : Int32) from rfl), if_neg (show ¬ nI 2 = (0 : Int32) by decide), if_neg (show ¬ nI 2 = (1 : Int32) by decide), if_pos (show nI 2 = (2 : Int32) from rfl)]
        rw [if_pos a1, if_pos a2, if_pos a3, a4, bind1_def, if_neg one_ne0, a5, bind1_def, if_neg one_ne0, gd_t a6]
      · have hSh2 : RSheet 0 (xi 24) (xi 25) (xi 26) (xa 29) (ma 0) (ma 1) g ∧ RSheet 1 (xi 27) (xi 28) (xi 29) (xa 30) (ma 0) (ma 1) g ∧ RSheet 2 (xi 30) (xi 31) (xi 32) (va_cpy (xa 30) (xa 31) z2.toNatClampNeg z4.toNatClampNeg z5.toNatClampNeg) (ma 0) (ma 1) g ∧ RSheet 3 (xi 33) (xi 34) (xi 35) (xa 32) (ma 0) (ma 1) g := ⟨hSh.1.keep rfl rfl (fun j hj => hg2 _ (by omega)), hSh.2.1.keep rfl rfl (fun j hj => hg2 _ (by omega)), hg, hSh.2.2.2.keep rfl rfl (fun j hj => hg2 _ (by omega))⟩
        exact ⟨hT0, hT1, hL, hH, hB, hD, hS, hSe, hF, hSh2, hW⟩
  · rcases cp_cases (s := 1) (t := 3) (by omega) (by omega) hSh.2.1 hSh.2.2.2 (mi 0) (ma 3) z2 z4 z5 e1 e2 with ⟨hl, hm⟩ | ⟨a1, a2, a3, hm⟩ | ⟨a1, a2, a3, a4, hm⟩ | ⟨a1, a2, a3, a4, a5, a6, g, mv, hm, hg, hg2⟩
    · refine ⟨-11, 1, xa 29, xa 30, xa 31, xa 32, 1, ma 2, ma 3, ?_, hm, hT0, hT1, hL, hH, hB, hD, hS, hSe, rfl, hSh0, hW⟩
      unfold f_X8_copy f_X8_copy_b51 f_X8_copy_b99
      rw [e1, e2, bind1_def, if_neg one_ne0, bind1_def, if_neg one_ne0]
      simp only [if_neg (show ¬ nI 1 = (0 : Int32) by decide), if_pos (show nI 1 = (1 : Int32) from rfl), if_neg (show ¬ nI 3 = (0 : Int32) by decide), if_neg (show ¬ nI 3 = (1 : Int32) by decide), if_neg (show ¬ nI 3 = (2 : Int32) by decide), if_pos (show nI 3 = (3 : Int32) from rfl)]
      rcases hl with hl | ⟨hl, hl2⟩
      · rw [hl, if_neg one_ne0]; rfl
      · rw [hl, if_pos rfl, hl2, if_neg one_ne0]; rfl
    · refine ⟨-14, 4, xa 29, xa 30, xa 31, xa 32, 4, ma 2, ma 3, ?_, hm, hT0, hT1, hL, hH, hB, hD, hS, hSe, rfl, hSh0, hW⟩
      unfold f_X8_copy f_X8_copy_b51 f_X8_copy_b99
      rw [e1, e2, bind1_def, if_neg one_ne0, bind1_def, if_neg one_ne0]
      simp only [if_neg (show ¬ nI 1 = (0 : Int32) by decide), if_pos (show nI 1 = (1 : Int32) from rfl), if_neg (show ¬ nI 3 = (0 : Int32) by decide), if_neg (show ¬ nI 3 = (1 : Int32) by decide), if_neg (show ¬ nI 3 = (2 : Int32) by decide), if_pos (show nI 3 = (3 : Int32) from rfl)]
      rw [if_pos a1, if_pos a2, if_neg a3]; rfl
    · refine ⟨-12, 2, xa 29, xa 30, xa 31, xa 32, 2, ma 2, ma 3, ?_, hm, hT0, hT1, hL, hH, hB, hD, hS, hSe, rfl, hSh0, hW⟩
      unfold f_X8_copy f_X8_copy_b51 f_X8_copy_b99
      rw [e1, e2, bind1_def, if_neg one_ne0, bind1_def, if_neg one_ne0]
      simp only [if_neg (show ¬ nI 1 = (0 : Int32) by decide), if_pos (show nI 1 = (1 : Int32) from rfl), if_neg (show ¬ nI 3 = (0 : Int32) by decide), if_neg (show ¬ nI 3 = (1 : Int32) by decide), if_neg (show ¬ nI 3 = (2 : Int32) by decide), if_pos (show nI 3 = (3 : Int32) from rfl)]
      rw [if_pos a1, if_pos a2, if_pos a3]
      rcases a4 with a4 | ⟨a4, a5⟩
      · rw [a4]; rfl
      · rw [a4, bind1_def, if_neg one_ne0, a5]; rfl
    · refine ⟨1, xi 1, xa 29, xa 30, xa 31, va_cpy (xa 30) (xa 32) z2.toNatClampNeg z4.toNatClampNeg z5.toNatClampNeg, mi 0, g, mv, ?_, hm, ?_⟩
      · unfold f_X8_copy f_X8_copy_b51 f_X8_copy_b99
        rw [e1, e2, bind1_def, if_neg one_ne0, bind1_def, if_neg one_ne0]
        simp only [if_neg (show ¬ nI 1 = (0 : Int32) by decide), if_pos (show nI 1 = (1 : Int32) from rfl), if_neg (show ¬ nI 3 = (0 : Int32) by decide), if_neg (show ¬ nI 3 = (1 : Int32) by decide), if_neg (show ¬ nI 3 = (2 : Int32) by decide), if_pos (show nI 3 = (3 : Int32) from rfl)]
        rw [if_pos a1, if_pos a2, if_pos a3, a4, bind1_def, if_neg one_ne0, a5, bind1_def, if_neg one_ne0, gd_t a6]
      · have hSh2 : RSheet 0 (xi 24) (xi 25) (xi 26) (xa 29) (ma 0) (ma 1) g ∧ RSheet 1 (xi 27) (xi 28) (xi 29) (xa 30) (ma 0) (ma 1) g ∧ RSheet 2 (xi 30) (xi 31) (xi 32) (xa 31) (ma 0) (ma 1) g ∧ RSheet 3 (xi 33) (xi 34) (xi 35) (va_cpy (xa 30) (xa 32) z2.toNatClampNeg z4.toNatClampNeg z5.toNatClampNeg) (ma 0) (ma 1) g := ⟨hSh.1.keep rfl rfl (fun j hj => hg2 _ (by omega)), hSh.2.1.keep rfl rfl (fun j hj => hg2 _ (by omega)), hSh.2.2.1.keep rfl rfl (fun j hj => hg2 _ (by omega)), hg⟩
        exact ⟨hT0, hT1, hL, hH, hB, hD, hS, hSe, hF, hSh2, hW⟩
  · rcases cp_cases (s := 2) (t := 0) (by omega) (by omega) hSh.2.2.1 hSh.1 (mi 0) (ma 3) z2 z4 z5 e1 e2 with ⟨hl, hm⟩ | ⟨a1, a2, a3, hm⟩ | ⟨a1, a2, a3, a4, hm⟩ | ⟨a1, a2, a3, a4, a5, a6, g, mv, hm, hg, hg2⟩
    · refine ⟨-11, 1, xa 29, xa 30, xa 31, xa 32, 1, ma 2, ma 3, ?_, hm, hT0, hT1, hL, hH, hB, hD, hS, hSe, rfl, hSh0, hW⟩
      unfold f_X8_copy f_X8_copy_b51 f_X8_copy_b99
      rw [e1, e2, bind1_def, if_neg one_ne0, bind1_def, if_neg one_ne0]
      simp only [if_neg (show ¬ nI 2 = (0 : Int32) by decide), if_neg (show ¬ nI 2 = (1 : Int32) by decide), if_pos (show nI 2 = (2 : Int32) from rfl), if_pos (show nI 0 = (0 : Int32) from rfl)]
      rcases hl with hl | ⟨hl, hl2⟩
      · rw [hl, if_neg one_ne0]; rfl
      · rw [hl, if_pos rfl, hl2, if_neg one_ne0]; rfl
    · refine ⟨-14, 4, xa 29, xa 30, xa 31, xa 32, 4, ma 2, ma 3, ?_, hm, hT0, hT1, hL, hH, hB, hD, hS, hSe, rfl, hSh0, hW⟩
      unfold f_X8_copy f_X8_copy_b51 f_X8_copy_b99
      rw [e1, e2, bind1_def, if_neg one_ne0, bind1_def, if_neg one_ne0]
      simp only [if_neg (show ¬ nI 2 = (0 : Int32) by decide), if_neg (show ¬ nI 2 = (1 : Int32) by decide), if_pos (show nI 2 = (2 : Int32) from rfl), if_pos (show nI 0 = (0 : Int32) from rfl)]
      rw [if_pos a1, if_pos a2, if_neg a3]; rfl
    · refine ⟨-12, 2, xa 29, xa 30, xa 31, xa 32, 2, ma 2, ma 3, ?_, hm, hT0, hT1, hL, hH, hB, hD, hS, hSe, rfl, hSh0, hW⟩
      unfold f_X8_copy f_X8_copy_b51 f_X8_copy_b99
      rw [e1, e2, bind1_def, if_neg one_ne0, bind1_def, if_neg one_ne0]
      simp only [if_neg (show ¬ nI 2 = (0 : Int32) by decide), if_neg (show ¬ nI 2 = (1 : Int32) by decide), if_pos (show nI 2 = (2 : Int32) from rfl), if_pos (show nI 0 = (0 : Int32) from rfl)]
      rw [if_pos a1, if_pos a2, if_pos a3]
      rcases a4 with a4 | ⟨a4, a5⟩
      · rw [a4]; rfl
      · rw [a4, bind1_def, if_neg one_ne0, a5]; rfl
    · refine ⟨1, xi 1, va_cpy (xa 31) (xa 29) z2.toNatClampNeg z4.toNatClampNeg z5.toNatClampNeg, xa 30, xa 31, xa 32, mi 0, g, mv, ?_, hm, ?_⟩
      · unfold f_X8_copy f_X8_copy_b51 f_X8_copy_b99
        rw [e1, e2, bind1_def, if_neg one_ne0, bind1_def, if_neg one_ne0]
        simp only [if_neg (show ¬ nI 2 = (0 : Int32) by decide), if_neg (show ¬ nI 2 = (1 : Int32) by decide), if_pos (show nI 2 = (2 : Int32) from rfl), if_pos (show nI 0 = (0 : Int32) from rfl)]
        rw [if_pos a1, if_pos a2, if_pos a3, a4, bind1_def, if_neg one_ne0, a5, bind1_def, if_neg one_ne0, gd_t a6]
      · have hSh2 : RSheet 0 (xi 24) (xi 25) (xi 26) (va_cpy (xa 31) (xa 29) z2.toNatClampNeg z4.toNatClampNeg z5.toNatClampNeg) (ma 0) (ma 1) g ∧ RSheet 1 (xi 27) (xi 28) (xi 29) (xa 30) (ma 0) (ma 1) g ∧ RSheet 2 (xi 30) (xi 31) (xi 32) (xa 31) (ma 0) (ma 1) g ∧ RSheet 3 (xi 33) (xi 34) (xi 35) (xa 32) (ma 0) (ma 1) g := ⟨hg, hSh.2.1.keep rfl rfl (fun j hj => hg2 _ (by omega)), hSh.2.2.1.keep rfl rfl (fun j hj => hg2 _ (by omega)), hSh.2.2.2.keep rfl rfl (fun j hj => hg2 _ (by omega))⟩
        exact ⟨hT0, hT1, hL, hH, hB, hD, hS, hSe, hF, hSh2, hW⟩
  · rcases cp_cases (s := 2) (t := 1) (by omega) (by omega) hSh.2.2.1 hSh.2.1 (mi 0) (ma 3) z2 z4 z5 e1 e2 with ⟨hl, hm⟩ | ⟨a1, a2, a3, hm⟩ | ⟨a1, a2, a3, a4, hm⟩ | ⟨a1, a2, a3, a4, a5, a6, g, mv, hm, hg, hg2⟩
    · refine ⟨-11, 1, xa 29, xa 30, xa 31, xa 32, 1, ma 2, ma 3, ?_, hm, hT0, hT1, hL, hH, hB, hD, hS, hSe, rfl, hSh0, hW⟩
      unfold f_X8_copy f_X8_copy_b51 f_X8_copy_b99
      rw [e1, e2, bind1_def, if_neg one_ne0, bind1_def, if_neg one_ne0]
      simp only [if_neg (show ¬ nI 2 = (0 : Int32) by decide), if_neg (show ¬ nI 2 = (1 : Int32) by decide), if_pos (show nI 2 = (2 : Int32) from rfl), if_neg (show ¬ nI 1 = (0 : Int32) by decide), if_pos (show nI 1 = (1 : Int32) from rfl)]
      rcases hl with hl | ⟨hl, hl2⟩
      · rw [hl, if_neg one_ne0]; rfl
      · rw [hl, if_pos rfl, hl2, if_neg one_ne0]; rfl
    · refine ⟨-14, 4, xa 29, xa 30, xa 31, xa 32, 4, ma 2, ma 3, ?_, hm, hT0, hT1, hL, hH, hB, hD, hS, hSe, rfl, hSh0, hW⟩
      unfold f_X8_copy f_X8_copy_b51 f_X8_copy_b99
      rw [e1, e2, bind1_def, if_neg one_ne0, bind1_def, if_neg one_ne0]
      simp only [if_neg (show ¬ nI 2 = (0 : Int32) by decide), if_neg (show ¬ nI 2 = (1 : Int32) by decide), if_pos (show nI 2 = (2 : Int32) from rfl), if_neg (show ¬ nI 1 = (0 : Int32) by decide), if_pos (show nI 1 = (1 : Int32) from rfl)]
      rw [if_pos a1, if_pos a2, if_neg a3]; rfl
    · refine ⟨-12, 2, xa 29, xa 30, xa 31, xa 32, 2, ma 2, ma 3, ?_, hm, hT0, hT1, hL, hH, hB, hD, hS, hSe, rfl, hSh0, hW⟩
      unfold f_X8_copy f_X8_copy_b51 f_X8_copy_b99
      rw [e1, e2, bind1_def, if_neg one_ne0, bind1_def, if_neg one_ne0]
      simp only [if_neg (show ¬ nI 2 = (0 : Int32) by decide), if_neg (show ¬ nI 2 = (1 : Int32) by decide), if_pos (show nI 2 = (2 : Int32) from rfl), if_neg (show ¬ nI 1 = (0 : Int32) by decide), if_pos (show nI 1 = (1 : Int32) from rfl)]
      rw [if_pos a1, if_pos a2, if_pos a3]
      rcases a4 with a4 | ⟨a4, a5⟩
      · rw [a4]; rfl
      · rw [a4, bind1_def, if_neg one_ne0, a5]; rfl
    · refine ⟨1, xi 1, xa 29, va_cpy (xa 31) (xa 30) z2.toNatClampNeg z4.toNatClampNeg z5.toNatClampNeg, xa 31, xa 32, mi 0, g, mv, ?_, hm, ?_⟩
      · unfold f_X8_copy f_X8_copy_b51 f_X8_copy_b99
        rw [e1, e2, bind1_def, if_neg one_ne0, bind1_def, if_neg one_ne0]
        simp only [if_neg (show ¬ nI 2 = (0 : Int32) by decide), if_neg (show ¬ nI 2 = (1 : Int32) by decide), if_pos (show nI 2 = (2 : Int32) from rfl), if_neg (show ¬ nI 1 = (0 : Int32) by decide), if_pos (show nI 1 = (1 : Int32) from rfl)]
        rw [if_pos a1, if_pos a2, if_pos a3, a4, bind1_def, if_neg one_ne0, a5, bind1_def, if_neg one_ne0, gd_t a6]
      · have hSh2 : RSheet 0 (xi 24) (xi 25) (xi 26) (xa 29) (ma 0) (ma 1) g ∧ RSheet 1 (xi 27) (xi 28) (xi 29) (va_cpy (xa 31) (xa 30) z2.toNatClampNeg z4.toNatClampNeg z5.toNatClampNeg) (ma 0) (ma 1) g ∧ RSheet 2 (xi 30) (xi 31) (xi 32) (xa 31) (ma 0) (ma 1) g ∧ RSheet 3 (xi 33) (xi 34) (xi 35) (xa 32) (ma 0) (ma 1) g := ⟨hSh.1.keep rfl rfl (fun j hj => hg2 _ (by omega)), hg, hSh.2.2.1.keep rfl rfl (fun j hj => hg2 _ (by omega)), hSh.2.2.2.keep rfl rfl (fun j hj => hg2 _ (by omega))⟩
        exact ⟨hT0, hT1, hL, hH, hB, hD, hS, hSe, hF, hSh2, hW⟩
  · rcases cp_cases (s := 2) (t := 2) (by omega) (by omega) hSh.2.2.1 hSh.2.2.1 (mi 0) (ma 3) z2 z4 z5 e1 e2 with ⟨hl, hm⟩ | ⟨a1, a2, a3, hm⟩ | ⟨a1, a2, a3, a4, hm⟩ | ⟨a1, a2, a3, a4, a5, a6, g, mv, hm, hg, hg2⟩
    · refine ⟨-11, 1, xa 29, xa 30, xa 31, xa 32, 1, ma 2, ma 3, ?_, hm, hT0, hT1, hL, hH, hB, hD, hS, hSe, rfl, hSh0, hW⟩
      unfold f_X8_copy f_X8_copy_b51 f_X8_copy_b99
      rw [e1, bind1_def, if_neg one_ne0, bind1_def, if_neg one_ne0]
      simp only [if_neg (show ¬ nI 2 = (0 : Int32) by decide), if_neg (show ¬ nI 2 = (1 : Int32) by decide), if_pos (show nI 2 = (2 : Int32) from rfl)]
      rcases hl with hl | ⟨hl, hl2⟩
      · rw [hl, if_neg one_ne0]; rfl
      · rw [hl] at hl2; exact absurd hl2.symm one_ne0
    · refine ⟨-14, 4, xa 29, xa 30, xa 31, xa 32, 4, ma 2, ma 3, ?_, hm, hT0, hT1, hL, hH, hB, hD, hS, hSe, rfl, hSh0, hW⟩
      exact absurd rfl a3
    · refine ⟨-12, 2, xa 29, xa 30, xa 31, xa 32, 2, ma 2, ma 3, ?_, hm, hT0, hT1, hL, hH, hB, hD, hS, hSe, rfl, hSh0, hW⟩
      unfold f_X8_copy f_X8_copy_b51 f_X8_copy_b99
      rw [e1, bind1_def, if_neg one_ne0, bind1_def, if_neg one_ne0]
      simp only [if_neg (show ¬ nI 2 = (0 : Int32) by decide), if_neg (show ¬ nI 2 = (1 : Int32) by decide), if_pos (show nI 2 = (2 : Int32) from rfl)]
      rw [if_pos a1, if_pos a2, if_pos trivial]
      rcases a4 with a4 | ⟨a4, a5⟩
      · rw [a4]; rfl
      · rw [a4, bind1_def, if_neg one_ne0, a5]; rfl
    · refine ⟨1, xi 1, xa 29, xa 30, va_cpy (xa 31) (xa 31) z2.toNatClampNeg z4.toNatClampNeg z5.toNatClampNeg, xa 32, mi 0, g, mv, ?_, hm, ?_⟩
      · unfold f_X8_copy f_X8_copy_b51 f_X8_copy_b99
        rw [e1, bind1_def, if_neg one_ne0, bind1_def, if_neg one_ne0]
        simp only [if_neg (show ¬ nI 2 = (0 : Int32) by decide), if_neg (show ¬ nI 2 = (1 : Int32) by decide), if_pos (show nI 2 = (2 : Int32) from rfl)]
        rw [if_pos a1, if_pos a2, if_pos trivial, a4, bind1_def, if_neg one_ne0, a5, bind1_def, if_neg one_ne0, gd_t a6]
      · have hSh2 : RSheet 0 (xi 24) (xi 25) (xi 26) (xa 29) (ma 0) (ma 1) g ∧ RSheet 1 (xi 27) (xi 28) (xi 29) (xa 30) (ma 0) (ma 1) g ∧ RSheet 2 (xi 30) (xi 31) (xi 32) (va_cpy (xa 31) (xa 31) z2.toNatClampNeg z4.toNatClampNeg z5.toNatClampNeg) (ma 0) (ma 1) g ∧ RSheet 3 (xi 33) (xi 34) (xi 35) (xa 32) (ma 0) (ma 1) g := ⟨hSh.1.keep rfl rfl (fun j hj => hg2 _ (by omega)), hSh.2.1.keep rfl rfl (fun j hj => hg2 _ (by omega)), hg, hSh.2.2.2.keep rfl rfl (fun j hj => hg2 _ (by omega))⟩
        exact ⟨hT0, hT1, hL, hH, hB, hD, hS, hSe, hF, hSh2, hW⟩
  · rcases cp_cases (s := 2) (t := 3) (by omega) (by omega) hSh.2.2.1 hSh.2.2.2 (mi 0) (ma 3) z2 z4 z5 e1 e2 with ⟨hl, hm⟩ | ⟨a1, a2, a3, hm⟩ | ⟨a1, a2, a3, a4, hm⟩ | ⟨a1, a2, a3, a4, a5, a6, g, mv, hm, hg, hg2⟩
    · refine ⟨-11, 1, xa 29, xa 30, xa 31, xa 32, 1, ma 2, ma 3, ?_, hm, hT0, hT1, hL, hH, hB, hD, hS, hSe, rfl, hSh0, hW⟩
      unfold f_X8_copy f_X8_copy_b51 f_X8_copy_b99
      rw [e1, e2, bind1_def, if_neg one_ne0, bind1_def, if_neg one_ne0]
      simp only [if_neg (show ¬ nI 2 = (0 : Int32) by decide), if_neg (show ¬ nI 2 = (1 : Int32) by decide), if_pos (show nI 2 = (2 : Int32) from rfl), if_neg (show ¬ nI 3 = (0 : Int32) by decide), if_neg (show ¬ nI 3 = (1 : Int32) by decide), if_neg (show ¬ nI 3 = (2 : Int32) by decide), if_pos (show nI 3 = (3 : Int32) from rfl)]
      rcases hl with hl | ⟨hl, hl2⟩
      · rw [hl, if_neg one_ne0]; rfl
      · rw [hl, if_pos rfl, hl2, if_neg one_ne0]; rfl
    · refine ⟨-14, 4, xa 29, xa 30, xa 31, xa 32, 4, ma 2, ma 3, ?_, hm, hT0, hT1, hL, hH, hB, hD, hS, hSe, rfl, hSh0, hW⟩
      unfold f_X8_copy f_X8_copy_b51 f_X8_copy_b99
      rw [e1, e2, bind1_def, if_neg one_ne0, bind1_def, if_neg one_ne0]
      simp only [if_neg (show ¬ nI 2 = (0 : Int32) by decide), if_neg (show ¬ nI 2 = (1 : Int32) by decide), if_pos (show nI 2 = (2 : Int32) from rfl), if_neg (show ¬ nI 3 = (0 : Int32) by decide), if_neg (show ¬ nI 3 = (1 : Int32) by decide), if_neg (show ¬ nI 3 = (2 : Int32) by decide), if_pos (show nI 3 = (3 : Int32) from rfl)]
      rw [if_pos a1, if_pos a2, if_neg a3]; rfl
    · refine ⟨-12, 2, xa 29, xa 30, xa 31, xa 32, 2, ma 2, ma 3, ?_, hm, hT0, hT1, hL, hH, hB, hD, hS, hSe, rfl, hSh0, hW⟩
      unfold f_X8_copy f_X8_copy_b51 f_X8_copy_b99
      rw [e1, e2, bind1_def, if_neg one_ne0, bind1_def, if_neg one_ne0]
      simp only [if_neg (show ¬ nI 2 = (0 : Int32) by decide), if_neg (show ¬ nI 2 = (1 : Int32) by decide), if_pos (show nI 2 = (2 : Int32) from rfl), if_neg (show ¬ nI 3 = (0 : Int32) by decide), if_neg (show ¬ nI 3 = (1 : Int32) by decide), if_neg (show ¬ nI 3 = (2 : Int32) by decide), if_pos (show nI 3 = (3 : Int32) from rfl)]
      rw [if_pos a1, if_pos a2, if_pos a3]
      rcases a4 with a4 | ⟨a4, a5⟩
      · rw [a4]; rfl
      · rw [a4, bind1_def, if_neg one_ne0, a5]; rfl
    · refine ⟨1, xi 1, xa 29, xa 30, xa 31, va_cpy (xa 31) (xa 32) z2.toNatClampNeg z4.toNatClampNeg z5.toNatClampNeg, mi 0, g, mv, ?_, hm, ?_⟩
      · unfold f_X8_copy f_X8_copy_b51 f_X8_copy_b99
        rw [e1, e2, bind1_def, if_neg one_ne0, bind1_def, if_neg one_ne0]
        simp only [if_neg (show ¬ nI 2 = (0 : Int32) by decide), if_neg (show ¬ nI 2 = (1 : Int32) by decide), if_pos (show nI 2 = (2 : Int32) from rfl), if_neg (show ¬ nI 3 = (0 : Int32) by decide), if_neg (show ¬ nI 3 = (1 : Int32) by decide), if_neg (show ¬ nI 3 = (2 : Int32) by decide), if_pos (show nI 3 = (3 : Int32) from rfl)]
        rw [if_pos a1, if_pos a2, if_pos a3, a4, bind1_def, if_neg one_ne0, a5, bind1_def, if_neg one_ne0, gd_t a6]
      · have hSh2 : RSheet 0 (xi 24) (xi 25) (xi 26) (xa 29) (ma 0) (ma 1) g ∧ RSheet 1 (xi 27) (xi 28) (xi 29) (xa 30) (ma 0) (ma 1) g ∧ RSheet 2 (xi 30) (xi 31) (xi 32) (xa 31) (ma 0) (ma 1) g ∧ RSheet 3 (xi 33) (xi 34) (xi 35) (va_cpy (xa 31) (xa 32) z2.toNatClampNeg z4.toNatClampNeg z5.toNatClampNeg) (ma 0) (ma 1) g := ⟨hSh.1.keep rfl rfl (fun j hj => hg2 _ (by omega)), hSh.2.1.keep rfl rfl (fun j hj => hg2 _ (by omega)), hSh.2.2.1.keep rfl rfl (fun j hj => hg2 _ (by omega)), hg⟩
        exact ⟨hT0, hT1, hL, hH, hB, hD, hS, hSe, hF, hSh2, hW⟩
  · rcases cp_cases (s := 3) (t := 0) (by omega) (by omega) hSh.2.2.2 hSh.1 (mi 0) (ma 3) z2 z4 z5 e1 e2 with ⟨hl, hm⟩ | ⟨a1, a2, a3, hm⟩ | ⟨a1, a2, a3, a4, hm⟩ | ⟨a1, a2, a3, a4, a5, a6, g, mv, hm, hg, hg2⟩
    · refine ⟨-11, 1, xa 29, xa 30, xa 31, xa 32, 1, ma 2, ma 3, ?_, hm, hT0, hT1, hL, hH, hB, hD, hS, hSe, rfl, hSh0, hW⟩
      unfold f_X8_copy f_X8_copy_b51 f_X8_copy_b99
      rw [e1, e2, bind1_def, if_neg one_ne0, bind1_def, if_neg one_ne0]
      simp only [if_neg (show ¬ nI 3 = (0 : Int32) by decide), if_neg (show ¬ nI 3 = (1 : Int32) by decide), if_neg (show ¬ nI 3 = (2 : Int32) by decide), if_pos (show nI 3 = (3 : Int32) from rfl), if_pos (show nI 0 = (0 : Int32) from rfl)]
      rcases hl with hl | ⟨hl, hl2⟩
      · rw [hl, if_neg one_ne0]; rfl
      · rw [hl, if_pos rfl, hl2, if_neg one_ne0]; rfl
    · refine ⟨-14, 4, xa 29, xa 30, xa 31, xa 32, 4, ma 2, ma 3, ?_, hm, hT0, hT1, hL, hH, hB, hD, hS, hSe, rfl, hSh0, hW⟩
      unfold f_X8_copy f_X8_copy_b51 f_X8_copy_b99
      rw [e1, e2, bind1_def, if_neg one_ne0, bind1_def, if_neg one_ne0]
      simp only [if_neg (show ¬ nI 3 = (0 : Int32) by decide), if_neg (show ¬ nI 3 = (1 : Int32) by decide), if_neg (show ¬ nI 3 = (2 : Int32) by decide), if_pos (show nI 3 = (3 : Int32) from rfl), if_pos (show nI 0 = (0 : Int32) from rfl)]
      rw [if_pos a1, if_pos a2, if_neg a3]; rfl
    · refine ⟨-12, 2, xa 29, xa 30, xa 31, xa 32, 2, ma 2, ma 3, ?_, hm, hT0, hT1, hL, hH, hB, hD, hS, hSe, rfl, hSh0, hW⟩
      unfold f_X8_copy f_X8_copy_b51 f_X8_copy_b99
      rw [e1, e2, bind1_def, if_neg one_ne0, bind1_def, if_neg one_ne0]
      simp only [if_neg (show ¬ nI 3 = (0 : Int32) by decide), if_neg (show ¬ nI 3 = (1 : Int32) by decide), if_neg (show ¬ nI 3 = (2 : Int32) by decide), if_pos (show nI 3 = (3 : Int32) from rfl), if_pos (show nI 0 = (0 : Int32) from rfl)]
      rw [if_pos a1, if_pos a2, if_pos a3]
      rcases a4 with a4 | ⟨a4, a5⟩
      · rw [a4]; rfl
      · rw [a4, bind1_def, if_neg one_ne0, a5]; rfl
    · refine ⟨1, xi 1, va_cpy (xa 32) (xa 29) z2.toNatClampNeg z4.toNatClampNeg z5.toNatClampNeg, xa 30, xa 31, xa 32, mi 0, g, mv, ?_, hm, ?_⟩
      · unfold f_X8_copy f_X8_copy_b51 f_X8_copy_b99
        rw [e1, e2, bind1_def, if_neg one_ne0, bind1_def, if_neg one_ne0]
        simp only [if_neg (show ¬ nI 3 = (0 : Int32) by decide), if_neg (show ¬ nI 3 = (1 : Int32) by decide), if_neg (show ¬ nI 3 = (2 : Int32) by decide), if_pos (show nI 3 = (3 : Int32) from rfl), if_pos (show nI 0 = (0 : Int32) from rfl)]
        rw [if_pos a1, if_pos a2, if_pos a3, a4, bind1_def, if_neg one_ne0, a5, bind1_def, if_neg one_ne0, gd_t a6]
      · have hSh2 : RSheet 0 (xi 24) (xi 25) (xi 26) (va_cpy (xa 32) (xa 29) z2.toNatClampNeg z4.toNatClampNeg z5.toNatClampNeg) (ma 0) (ma 1) g ∧ RSheet 1 (xi 27) (xi 28) (xi 29) (xa 30) (ma 0) (ma 1) g ∧ RSheet 2 (xi 30) (xi 31) (xi 32) (xa 31) (ma 0) (ma 1) g ∧ RSheet 3 (xi 33) (xi 34) (xi 35) (xa 32) (ma 0) (ma 1) g := ⟨hg, hSh.2.1.keep rfl rfl (fun j hj => hg2 _ (by omega)), hSh.2.2.1.keep rfl rfl (fun j hj => hg2 _ (by omega)), hSh.2.2.2.keep rfl rfl (fun j hj => hg2 _ (by omega))⟩
        exact ⟨hT0, hT1, hL, hH, hB, hD, hS, hSe, hF, hSh2, hW⟩
  · rcases cp_cases (s := 3) (t := 1) (by omega) (by omega) hSh.2.2.2 hSh.2.1 (mi 0) (ma 3) z2 z4 z5 e1 e2 with ⟨hl, hm⟩ | ⟨a1, a2, a3, hm⟩ | ⟨a1, a2, a3, a4, hm⟩ | ⟨a1, a2, a3, a4, a5, a6, g, mv, hm, hg, hg2⟩
    · refine ⟨-11, 1, xa 29, xa 30, xa 31, xa 32, 1, ma 2, ma 3, ?_, hm, hT0, hT1, hL, hH, hB, hD, hS, hSe, rfl, hSh0, hW⟩
      unfold f_X8_copy f_X8_copy_b51 f_X8_copy_b99
      rw [e1, e2, bind1_def, if_neg one_ne0, bind1_def, if_neg one_ne0]
      simp only [if_neg (show ¬ nI 3 = (0 : Int32) by decide), if_neg (show ¬ nI 3 = (1 : Int32) by decide), if_neg (show ¬ nI 3 = (2 : Int32) by decide), if_pos (show nI 3 = (3 : Int32) from rfl), if_neg (show ¬ nI 1 = (0 : Int32) by decide), if_pos (show nI 1 = (1 : Int32) from rfl)]
      rcases hl with hl | ⟨hl, hl2⟩
      · rw [hl, if_neg one_ne0]; rfl
      · rw [hl, if_pos rfl, hl2, if_neg one_ne0]; rfl
    · refine ⟨-14, 4, xa 29, xa 30, xa 31, xa 32, 4, ma 2, ma 3, ?_, hm, hT0, hT1, hL, hH, hB, hD, hS, hSe, rfl, hSh0, hW⟩
      unfold f_X8_copy f_X8_copy_b51 f_X8_copy_b99
      rw [e1, e2, bind1_def, if_neg one_ne0, bind1_def, if_neg one_ne0]
      simp only [if_neg (show ¬ nI 3 = (0 : Int32) by decide), if_neg (show ¬ nI 3 = (1 : Int32) by decide), if_neg (show ¬ nI 3 = (2 : Int32) by decide), if_pos (show nI 3 = (3 : Int32) from rfl), if_neg (show ¬ nI 1 = (0 : Int32) by decide), if_pos (show nI 1 = (1 : Int32) from rfl)]
      rw [if_pos a1, if_pos a2, if_neg a3]; rfl
    · refine ⟨-12, 2, xa 29, xa 30, xa 31, xa 32, 2, ma 2, ma 3, ?_, hm, hT0, hT1, hL, hH, hB, hD, hS, hSe, rfl, hSh0, hW⟩
      unfold f_X8_copy f_X8_copy_b51 f_X8_copy_b99
      rw [e1, e2, bind1_def, if_neg one_ne0, bind1_def, if_neg one_ne0]
      simp only [if_neg (show ¬ nI 3 = (0 : Int32) by decide), if_neg (show ¬ nI 3 = (1 : Int32) by decide), if_neg (show ¬ nI 3 = (2 : Int32) by decide), if_pos (show nI 3 = (3 : Int32) from rfl), if_neg (show ¬ nI 1 = (0 : Int32) by decide), if_pos (show nI 1 = (1 : Int32) from rfl)]
      rw [if_pos a1, if_pos a2, if_pos a3]
      rcases a4 with a4 | ⟨a4, a5⟩
      · rw [a4]; rfl
      · rw [a4, bind1_def, if_neg one_ne0, a5]; rfl
    · refine ⟨1, xi 1, xa 29, va_cpy (xa 32) (xa 30) z2.toNatClampNeg z4.toNatClampNeg z5.toNatClampNeg, xa 31, xa 32, mi 0, g, mv, ?_, hm, ?_⟩
      · unfold f_X8_copy f_X8_copy_b51 f_X8_copy_b99
        rw [e1, e2, bind1_def, if_neg one_ne0, bind1_def, if_neg one_ne0]
        simp only [if_neg (show ¬ nI 3 = (0 : Int32) by decide), if_neg (show ¬ nI 3 = (1 : Int32) by decide), if_neg (show ¬ nI 3 = (2 : Int32) by decide), if_pos (show nI 3 = (3 : Int32) from rfl), if_neg (show ¬ nI 1 = (0 : Int32) by decide), if_pos (show nI 1 = (1 : Int32) from rfl)]
        rw [if_pos a1, if_pos a2, if_pos a3, a4, bind1_def, if_neg one_ne0, a5, bind1_def, if_neg one_ne0, gd_t a6]
      · have hSh2 : RSheet 0 (xi 24) (xi 25) (xi 26) (xa 29) (ma 0) (ma 1) g ∧ RSheet 1 (xi 27) (xi 28) (xi 29) (va_cpy (xa 32) (xa 30) z2.toNatClampNeg z4.toNatClampNeg z5.toNatClampNeg) (ma 0) (ma 1) g ∧ RSheet 2 (xi 30) (xi 31) (xi 32) (xa 31) (ma 0) (ma 1) g ∧ RSheet 3 (xi 33) (xi 34) (xi 35) (xa 32) (ma 0) (ma 1) g := ⟨hSh.1.keep rfl rfl (fun j hj => hg2 _ (by omega)), hg, hSh.2.2.1.keep rfl rfl (fun j hj => hg2 _ (by omega)), hSh.2.2.2.keep rfl rfl (fun j hj => hg2 _ (by omega))⟩
        exact ⟨hT0, hT1, hL, hH, hB, hD, hS, hSe, hF, hSh2, hW⟩
  · rcases cp_cases (s := 3) (t := 2) (by omega) (by omega) hSh.2.2.2 hSh.2.2.1 (mi 0) (ma 3) z2 z4 z5 e1 e2 with ⟨hl, hm⟩ | ⟨a1, a2, a3, hm⟩ | ⟨a1, a2, a3, a4, hm⟩ | ⟨a1, a2, a3, a4, a5, a6, g, mv, hm, hg, hg2⟩
    · refine ⟨-11, 1, xa 29, xa 30, xa 31, xa 32, 1, ma 2, ma 3, ?_, hm, hT0, hT1, hL, hH, hB, hD, hS, hSe, rfl, hSh0, hW⟩
      unfold f_X8_copy f_X8_copy_b51 f_X8_copy_b99
      rw [e1, e2, bind1_def, if_neg one_ne0, bind1_def, if_neg one_ne0]
      simp only [if_neg (show ¬ nI 3 = (0 : Int32) by decide), if_neg (show ¬ nI 3 = (1 : Int32) by decide), if_neg (show ¬ nI 3 = (2 : Int32) by decide), if_pos (show nI 3 = (3 : Int32) from rfl), if_neg (show ¬ nI 2 = (0 : Int32) by decide), if_neg (show ¬ nI 2 = (1 : Int32) by decide), if_pos (show nI 2 = (2 : Int32) from rfl)]
      rcases hl with hl | ⟨hl, hl2⟩
      · rw [hl, if_neg one_ne0]; rfl
      · rw [hl, if_pos rfl, hl2, if_neg one_ne0]; rfl
    · refine ⟨-14, 4, xa 29, xa 30, xa 31, xa 32, 4, ma 2, ma 3, ?_, hm, hT0, hT1, hL, hH, hB, hD, hS, hSe, rfl, hSh0, hW⟩
      unfold f_X8_copy f_X8_copy_b51 f_X8_copy_b99
      rw [e1, e2, bind1_def, if_neg one_ne0, bind1_def, if_neg one_ne0]
      simp only [if_neg (show ¬ nI 3 = (0 : Int32) by decide), if_neg (show ¬ nI 3 = (1 : Int32) by decide), if_neg (show ¬ nI 3 = (2 : Int32) by decide), if_pos (show nI 3 = (3 : Int32) from rfl), if_neg (show ¬ nI 2 = (0 : Int32) by decide), if_neg (show ¬ nI 2 = (1 : Int32) by decide), if_pos (show nI 2 = (2 : Int32) from rfl)]
      rw [if_pos a1, if_pos a2, if_neg a3]; rfl
    · refine ⟨-12, 2, xa 29, xa 30, xa 31, xa 32, 2, ma 2, ma 3, ?_, hm, hT0, hT1, hL, hH, hB, hD, hS, hSe, rfl, hSh0, hW⟩
      unfold f_X8_copy f_X8_copy_b51 f_X8_copy_b99
      rw [e1, e2, bind1_def, if_neg one_ne0, bind1_def, if_neg one_ne0]
      simp only [if_neg (show ¬ nI 3 = (0 : Int32) by decide), if_neg (show ¬ nI 3 = (1 : Int32) by decide), if_neg (show ¬ nI 3 = (2 : Int32) by decide), if_pos (show nI 3 = (3 : Int32) from rfl), if_neg (show ¬ nI 2 = (0 : Int32) by decide), if_neg (show ¬ nI 2 = (1 : Int32) by decide), if_pos (show nI 2 = (2 : Int32) from rfl)]
      rw [if_pos a1, if_pos a2, if_pos a3]
      rcases a4 with a4 | ⟨a4, a5⟩
      · rw [a4]; rfl
      · rw [a4, bind1_def, if_neg one_ne0, a5]; rfl
    · refine ⟨1, xi 1, xa 29, xa 30, va_cpy (xa 32) (xa 31) z2.toNatClampNeg z4.toNatClampNeg z5.toNatClampNeg, xa 32, mi 0, g, mv, ?_, hm, ?_⟩
      · unfold f_X8_copy f_X8_copy_b51 f_X8_copy_b99
        rw [e1, e2, bind1_def, if_neg one_ne0, bind1_def, if_neg one_ne0]
        simp only [if_neg (show ¬ nI 3 = (0 : Int32) by decide), if_neg (show ¬ nI 3 = (1 : Int32) by decide), if_neg (show ¬ nI 3 = (2 : Int32) by decide), if_pos (show nI 3 = (3 : Int32) from rfl), if_neg (show ¬ nI 2 = (0 : Int32) by decide), if_neg (show ¬ nI 2 = (1 : Int32) by decide), if_pos (show nI 2 = (2 : Int32) from rfl)]
        rw [if_pos a1, if_pos a2, if_pos a3, a4, bind1_def, if_neg one_ne0, a5, bind1_def, if_neg one_ne0, gd_t a6]
      · have hSh2 : RSheet 0 (xi 24) (xi 25) (xi 26) (xa 29) (ma 0) (ma 1) g ∧ RSheet 1 (xi 27) (xi 28) (xi 29) (xa 30) (ma 0) (ma 1) g ∧ RSheet 2 (xi 30) (xi 31) (xi 32) (va_cpy (xa 32) (xa 31) z2.toNatClampNeg z4.toNatClampNeg z5.toNatClampNeg) (ma 0) (ma 1) g ∧ RSheet 3 (xi 33) (xi 34) (xi 35) (xa 32) (ma 0) (ma 1) g := ⟨hSh.1.keep rfl rfl (fun j hj => hg2 _ (by omega)), hSh.2.1.keep rfl rfl (fun j hj => hg2 _ (by omega)), hg, hSh.2.2.2.keep rfl rfl (fun j hj => hg2 _ (by omega))⟩
        exact ⟨hT0, hT1, hL, hH, hB, hD, hS, hSe, hF, hSh2, hW⟩
  · rcases cp_cases (s := 3) (t := 3) (by omega) (by omega) hSh.2.2.2 hSh.2.2.2 (mi 0) (ma 3) z2 z4 z5 e1 e2 with ⟨hl, hm⟩ | ⟨a1, a2, a3, hm⟩ | ⟨a1, a2, a3, a4, hm⟩ | ⟨a1, a2, a3, a4, a5, a6, g, mv, hm, hg, hg2⟩
    · refine ⟨-11, 1, xa 29, xa 30, xa 31, xa 32, 1, ma 2, ma 3, ?_, hm, hT0, hT1, hL, hH, hB, hD, hS, hSe, rfl, hSh0, hW⟩
      unfold f_X8_copy f_X8_copy_b51 f_X8_copy_b99
      rw [e1, bind1_def, if_neg one_ne0, bind1_def, if_neg one_ne0]
      simp only [if_neg (show ¬ nI 3 = (0 : Int32) by decide), if_neg (show ¬ nI 3 = (1 : Int32) by decide), if_neg (show ¬ nI 3 = (2 : Int32) by decide), if_pos (show nI 3 = (3 : Int32) from rfl)]
      rcases hl with hl | ⟨hl, hl2⟩
      · rw [hl, if_neg one_ne0]; rfl
      · rw [hl] at hl2; exact absurd hl2.symm one_ne0
    · refine ⟨-14, 4, xa 29, xa 30, xa 31, xa 32, 4, ma 2, ma 3, ?_, hm, hT0, hT1, hL, hH, hB, hD, hS, hSe, rfl, hSh0, hW⟩
      exact absurd rfl a3
    · refine ⟨-12, 2, xa 29, xa 30, xa 31, xa 32, 2, ma 2, ma 3, ?_, hm, hT0, hT1, hL, hH, hB, hD, hS, hSe, rfl, hSh0, hW⟩
      unfold f_X8_copy f_X8_copy_b51 f_X8_copy_b99
      rw [e1, bind1_def, if_neg one_ne0, bind1_def, if_neg one_ne0]
      simp only [if_neg (show ¬ nI 3 = (0 : Int32) by decide), if_neg (show ¬ nI 3 = (1 : Int32) by decide), if_neg (show ¬ nI 3 = (2 : Int32) by decide), if_pos (show nI 3 = (3 : Int32) from rfl)]
      rw [if_pos a1, if_pos a2, if_pos trivial]
      rcases a4 with a4 | ⟨a4, a5⟩
      · rw [a4]; rfl
      · rw [a4, bind1_def, if_neg one_ne0, a5]; rfl
    · refine ⟨1, xi 1, xa 29, xa 30, xa 31, va_cpy (xa 32) (xa 32) z2.toNatClampNeg z4.toNatClampNeg z5.toNatClampNeg, mi 0, g, mv, ?_, hm, ?_⟩
      · unfold f_X8_copy f_X8_copy_b51 f_X8_copy_b99
        rw [e1, bind1_def, if_neg one_ne0, bind1_def, if_neg one_ne0]
        simp only [if_neg (show ¬ nI 3 = (0 : Int32) by decide), if_neg (show ¬ nI 3 = (1 : Int32) by decide), if_neg (show ¬ nI 3 = (2 : Int32) by decide), if_pos (show nI 3 = (3 : Int32) from rfl)]
        rw [if_pos a1, if_pos a2, if_pos trivial, a4, bind1_def, if_neg one_ne0, a5, bind1_def, if_neg one_ne0, gd_t a6]
      · have hSh2 : RSheet 0 (xi 24) (xi 25) (xi 26) (xa 29) (ma 0) (ma 1) g ∧ RSheet 1 (xi 27) (xi 28) (xi 29) (xa 30) (ma 0) (ma 1) g ∧ RSheet 2 (xi 30) (xi 31) (xi 32) (xa 31) (ma 0) (ma 1) g ∧ RSheet 3 (xi 33) (xi 34) (xi 35) (va_cpy (xa 32) (xa 32) z2.toNatClampNeg z4.toNatClampNeg z5.toNatClampNeg) (ma 0) (ma 1) g := ⟨hSh.1.keep rfl rfl (fun j hj => hg2 _ (by omega)), hSh.2.1.keep rfl rfl (fun j hj => hg2 _ (by omega)), hSh.2.2.1.keep rfl rfl (fun j hj => hg2 _ (by omega)), hg⟩
        exact ⟨hT0, hT1, hL, hH, hB, hD, hS, hSe, hF, hSh2, hW⟩
