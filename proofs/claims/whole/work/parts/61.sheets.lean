theorem RSheet.keep {s : Nat} {lost form size : Int32} {items forms sizes its forms' sizes' its' : Nat → Int32} (h : RSheet s lost form size items forms sizes its) (hf : forms' s = forms s) (hs : sizes' s = sizes s) (hi : ∀ i, i < 60 → its' (60 * s + i) = its (60 * s + i)) : RSheet s lost form size items forms' sizes' its' := by
  rcases h with ⟨a, b⟩ | ⟨a, ⟨f, h1, h2, h3⟩, n, hn, h4, h5, h6⟩
  · exact Or.inl ⟨a, hf.trans b⟩
  · exact Or.inr ⟨a, ⟨f, h1, h2, hf.trans h3⟩, n, hn, h4, hs.trans h5, fun i q => (hi i (by omega)).trans (h6 i q)⟩
theorem nle_m1 : ¬ (0 : Int32) ≤ -1 := by decide
theorem nI_ge0 {k : Nat} (h : k < 2147483648) : (0 : Int32) ≤ nI k := nI_pos' (by omega)
theorem in2_eq (z : Int32) : f_X9_in z.toInt64 (0 : Int64) (2 : Int64) = f_X8_isUpTo z 2 := by rw [show (2 : Int64) = (2 : Int32).toInt64 from by decide, in_up]
/-- which finding, as both sides have it -/
theorem lacks_eq {s : Nat} {lost form size : Int32} {items forms sizes its : Nat → Int32} (hs4 : s < 4) (h : RSheet s lost form size items forms sizes its) (latest x2 x3 : Int32) :
    (∃ w : Nat, 1 ≤ w ∧ w ≤ 3 ∧ f_X5_wrongWith lost form size x2 x3 = some (nI w) ∧ f_X9_lacks latest forms sizes (nI s) x2 x3 = some (-10 - nI w, nI w)) ∨
    (f_X5_wrongWith lost form size x2 x3 = some 0 ∧ f_X9_lacks latest forms sizes (nI s) x2 x3 = some (0, latest) ∧ lost = 0 ∧ ∃ n i f : Nat, i < n ∧ n ≤ 60 ∧ f ≤ 2 ∧ x2 = nI f ∧ form = nI f ∧ forms s = nI f ∧ x3 = nI i ∧ size = nI n ∧ sizes s = nI n ∧ ∀ i, i < n → its (60 * s + i) = items i) := by
  have g : inb (nI s) 4 = true := inb_n hs4 (by omega)
  have t : (nI s).toNatClampNeg = s := tnN (by omega)
  rcases h with ⟨l, f⟩ | ⟨l, ⟨f, hf2, e3, e4⟩, n, hn, e5, e6, hit⟩
  · refine Or.inl ⟨1, by omega, by omega, ?_, ?_⟩
    · unfold f_X5_wrongWith; rw [l]; rfl
    · unfold f_X9_lacks; rw [gd_t g, t, f, if_neg nle_m1]; rfl
  · by_cases hfo : nI f = x2
    · rcases Classical.em (x3 < 0 ∨ ¬ x3 < size) with hb | hb
      · refine Or.inl ⟨2, by omega, by omega, ?_, ?_⟩
        · unfold f_X5_wrongWith f_X5_wrongWith_b31
          rw [if_pos l, e3, if_pos hfo]
          rcases hb with hb | hb
          · rw [if_pos hb]; rfl
          · by_cases h0 : x3 < 0
            · rw [if_pos h0]; rfl
            · rw [if_neg h0, if_neg hb]; rfl
        · unfold f_X9_lacks
          rw [gd_t g, t, e4, if_pos (nI_ge0 (by omega)), gd_t g, if_pos hfo, gd_t g, e6, in_up]
          have hz : f_X8_isUpTo x3 (nI n - 1) = some 0 := by
            unfold f_X8_isUpTo
            by_cases h0 : x3 < 0
            · rw [if_pos h0]
            · rw [if_neg h0]
              rcases hb with hb | hb
              · exact absurd hb h0
              · rw [e5] at hb
                refine if_pos ?_
                obtain ⟨j, hj, ej⟩ := nI_of h0
                rw [ej] at hb ⊢
                rw [nI_lt_i (by omega) (by omega)] at hb
                rw [show (1 : Int32) = nI 1 from rfl, Int32.lt_iff_toInt_lt, pk_sub_toInt (by omega) (by omega), nI_toInt (by omega)]
                omega
          rw [hz]; rfl
      · have h0 : ¬ x3 < 0 := fun q => hb (Or.inl q)
        have h1 : x3 < size := Classical.byContradiction fun q => hb (Or.inr q)
        obtain ⟨j, hj, ej⟩ := nI_of h0
        have hjn : j < n := by rw [ej, e5, nI_lt_i (by omega) (by omega)] at h1; exact h1
        refine Or.inr ⟨?_, ?_, l, n, j, f, hjn, hn, hf2, hfo.symm, e3, e4, ej, e5, e6, hit⟩
        · unfold f_X5_wrongWith
          rw [if_pos l, e3, if_pos hfo, if_neg h0, if_pos h1]
        · unfold f_X9_lacks
          rw [gd_t g, t, e4, if_pos (nI_ge0 (by omega)), gd_t g, if_pos hfo, gd_t g, e6, in_up]
          have hz : f_X8_isUpTo x3 (nI n - 1) = some 1 := by
            unfold f_X8_isUpTo
            rw [if_neg h0, if_neg]
            rw [ej, show (1 : Int32) = nI 1 from rfl, Int32.lt_iff_toInt_lt, pk_sub_toInt (by omega) (by omega), nI_toInt (by omega)]
            omega
          rw [hz]; rfl
    · refine Or.inl ⟨3, by omega, by omega, ?_, ?_⟩
      · unfold f_X5_wrongWith
        rw [if_pos l, e3, if_neg hfo]; rfl
      · unfold f_X9_lacks
        rw [gd_t g, t, e4, if_pos (nI_ge0 (by omega)), gd_t g, if_neg hfo]; rfl
theorem keep_eq {f i : Nat} (hf : f ≤ 2) (hi : i < 60) (items : Nat → Int32) (v : Int32) : ∃ w, f_X5_keep (nI f) items (nI i) v = some (upd items i w) ∧ f_X9_cut (nI f) v = some w := by
  have g : inb (nI i) 60 = true := inb_n hi (by omega)
  have t : (nI i).toNatClampNeg = i := tnN (by omega)
  unfold f_X5_keep f_X9_cut
  rcases (show f = 0 ∨ f = 1 ∨ f = 2 by omega) with rfl | rfl | rfl
  · exact ⟨_, by rw [if_pos (show nI 0 = 0 from rfl), letv_def, gd_t g, t], rfl⟩
  · exact ⟨_, by rw [if_neg (show ¬ nI 1 = 0 from one_ne0), if_pos (show nI 1 = 1 from rfl), letv_def, gd_t g, t], rfl⟩
  · exact ⟨_, by rw [if_neg (show ¬ nI 2 = 0 by decide), if_neg (show ¬ nI 2 = 1 by decide), gd_t g, t], rfl⟩
theorem w_ne0 {w : Nat} (h1 : 1 ≤ w) (h3 : w ≤ 3) : ¬ nI w = 0 := nI_ne0 (by omega) (by omega)
theorem w_ne1 {w : Nat} (h1 : 1 ≤ w) (h3 : w ≤ 3) : ¬ (-10 : Int32) - nI w = 0 := by
  rcases (show w = 1 ∨ w = 2 ∨ w = 3 by omega) with rfl | rfl | rfl <;> decide
theorem fill0 (f : Nat → Int32) : ∃ g, f_J7_fill_53178 60 f 0 = some g ∧ ∀ i, i < 60 → g i = 0 := by
  have h := loopF_run (body := fun q : Int32 × (Nat → Int32) => f_J7_fill_53178_L5 60 0 (nI 60) q.1 q.2) (fun m q => ∃ k : Nat, k + m = 60 ∧ q.1 = nI k ∧ ∀ i, i < k → q.2 i = 0) (fun g => ∀ i, i < 60 → g i = 0) ?_ FU 60 (0, f) ⟨0, by omega, rfl, fun i hi => absurd hi (Nat.not_lt_zero _)⟩ (Nat.lt_trans (by decide) FU_big)
  · obtain ⟨g, h1, h2⟩ := h
    refine ⟨g, ?_, h2⟩
    unfold f_J7_fill_53178
    rw [letv_def, show Int32.ofNat 60 = nI 60 from rfl, h1]; rfl
  · rintro m ⟨q1, q2⟩ ⟨k, hk, rfl, hq⟩
    show (∃ x, f_J7_fill_53178_L5 60 0 (nI 60) (nI k) q2 = some (.inr x) ∧ _) ∨ (∃ q' m', m' < m ∧ f_J7_fill_53178_L5 60 0 (nI 60) (nI k) q2 = some (.inl q') ∧ _)
    unfold f_J7_fill_53178_L5
    by_cases h : 60 ≤ k
    · left
      refine ⟨q2, by rw [if_pos (by rw [nI_le_i (by omega) (by omega)]; exact h)], fun i hi => hq i (by omega)⟩
    · right
      refine ⟨(nI (k + 1), upd q2 k 0), m - 1, by omega, ?_, k + 1, by omega, rfl, fun i hi => ?_⟩
      · rw [if_neg (by rw [nI_le_i (by omega) (by omega)]; exact h), gd_t (inb_n (by omega) (by omega)), tnN (by omega), show nI k + 1 = nI (k + 1) from nI_1 k]
      · by_cases hik : i = k
        · rw [hik]; exact upd_at _ _ _
        · show upd q2 k 0 i = 0
          rw [upd_ne _ _ hik]; exact hq i (by omega)
theorem sheet_fill (s n : Nat) (hs : s < 4) (hn : n ≤ 60) (its : Nat → Int32) : ∃ g, loopF (fun q : Int32 × (Nat → Int32) => f_X9_sheet_L55 (nI s) (nI n) q.1 q.2) FU (0, its) = some g ∧ (∀ i, i < n → g (60 * s + i) = 0) ∧ ∀ j, (j < 60 * s ∨ 60 * s + 60 ≤ j) → g j = its j := by
  refine loopF_run (fun (m : Nat) (q : Int32 × (Nat → Int32)) => ∃ k : Nat, k + m = n ∧ q.1 = nI k ∧ (∀ i, i < k → q.2 (60 * s + i) = 0) ∧ ∀ j, (j < 60 * s ∨ 60 * s + 60 ≤ j) → q.2 j = its j) (fun g : Nat → Int32 => (∀ i, i < n → g (60 * s + i) = 0) ∧ ∀ j, (j < 60 * s ∨ 60 * s + 60 ≤ j) → g j = its j) ?_ FU n (0, its) ⟨0, by omega, rfl, fun i hi => absurd hi (Nat.not_lt_zero _), fun _ _ => rfl⟩ (Nat.lt_trans (by omega) FU_big)
  rintro m ⟨q1, q2⟩ ⟨k, hk, rfl, hq, hq2⟩
  show (∃ x, f_X9_sheet_L55 (nI s) (nI n) (nI k) q2 = some (.inr x) ∧ _) ∨ (∃ q' m', m' < m ∧ f_X9_sheet_L55 (nI s) (nI n) (nI k) q2 = some (.inl q') ∧ _)
  unfold f_X9_sheet_L55
  by_cases h : n ≤ k
  · left
    exact ⟨q2, by rw [if_pos (by rw [nI_le_i (by omega) (by omega)]; exact h)], fun i hi => hq i (by omega), hq2⟩
  · right
    refine ⟨(nI (k + 1), upd q2 (60 * s + k) 0), m - 1, by omega, ?_, k + 1, by omega, rfl, fun i hi => ?_, fun j hj => ?_⟩
    · rw [if_neg (by rw [nI_le_i (by omega) (by omega)]; exact h), show (60 : Int32) * nI s + nI k = nI (60 * s + k) from by rw [show (60 : Int32) = nI 60 from rfl, pk_mul, nI_add], gd_t (inb_n (by omega) (by omega)), tnN (by omega), show nI k + 1 = nI (k + 1) from nI_1 k]
    · by_cases hik : i = k
      · rw [hik]; exact upd_at _ _ _
      · show upd q2 (60 * s + k) 0 (60 * s + i) = 0
        rw [upd_ne _ _ (by omega)]; exact hq i (by omega)
    · show upd q2 (60 * s + k) 0 j = its j
      rw [upd_ne _ _ (by omega)]; exact hq2 j hj

theorem sim_lose {xi : Nat → Int32} {xa : Nat → Nat → Int32} {xl : Nat → Int64} {xm : Nat → Nat → Int64} {mi : Nat → Int32} {ma : Nat → Nat → Int32} (h : Rel xi xa xl xm mi ma) (z1 : Int32) : ∃ (r : Int32) (c1 : Int32) (c2 : Int32) (c3 : Int32) (c4 : Int32) (c5 : Int32) (d1 : Int32) (d2 : Nat → Int32) , f_X8_lose (xi 1) (xi 24) (xi 26) (xi 27) (xi 29) (xi 30) (xi 32) (xi 33) (xi 35) z1 = some (r, c1, c2, c3, c4, c5) ∧ f_X9_lose (mi 0) (ma 0) (ma 1) z1 = some (r, d1, d2) ∧ Rel (va_up (va_up (va_up (va_up (va_up xi 1 c1) 24 c2) 27 c3) 30 c4) 33 c5) xa xl xm (va_up mi 0 d1) (va_up ma 0 d2) := by
  obtain ⟨hT0, hT1, hL, hH, hB, hD, hS, hSe, hF, hSh, hW⟩ := id h
  rcases upTo_cases z1 (M := 3) (by omega) with ⟨e1, -⟩ | ⟨e1, k, hk, rfl⟩
  · refine ⟨-2, xi 1, xi 24, xi 27, xi 30, xi 33, mi 0, ma 0, ?_, ?_, by simpa only [up_self] using h⟩
    · unfold f_X8_lose; rw [show f_X8_isUpTo z1 (3 : Int32) = some 0 from e1]; rfl
    · unfold f_X9_lose; rw [isSheet_eq, show f_X8_isUpTo z1 (3 : Int32) = some 0 from e1]; rfl
  rcases (show k = 0 ∨ k = 1 ∨ k = 2 ∨ k = 3 by omega) with rfl | rfl | rfl | rfl
  · rcases hSh.1 with ⟨l, f⟩ | ⟨l, ⟨f, hf2, e3, e4⟩, n, hn, e5, e6, hit⟩
    · refine ⟨-11, 1, xi 24, xi 27, xi 30, xi 33, 1, ma 0, ?_, ?_, ?_⟩
      · unfold f_X8_lose; rw [show f_X8_isUpTo (nI 0) (3 : Int32) = some 1 from e1, l]; rfl
      · unfold f_X9_lose; rw [isSheet_eq, show f_X8_isUpTo (nI 0) (3 : Int32) = some 1 from e1, bind1_def, if_neg one_ne0, gd_t (inb_n (by omega) (by omega)), tnN (by omega), f, if_neg nle_m1]; rfl
      · exact ⟨hT0, hT1, hL, hH, hB, hD, hS, hSe, rfl, hSh, hW⟩
    · refine ⟨xi 26, xi 1, 1, xi 27, xi 30, xi 33, mi 0, upd (ma 0) 0 (-1), ?_, ?_, ?_⟩
      · unfold f_X8_lose; rw [show f_X8_isUpTo (nI 0) (3 : Int32) = some 1 from e1, l]; rfl
      · unfold f_X9_lose; rw [isSheet_eq, show f_X8_isUpTo (nI 0) (3 : Int32) = some 1 from e1, bind1_def, if_neg one_ne0, gd_t (inb_n (by omega) (by omega)), tnN (by omega), e4, if_pos (nI_ge0 (by omega)), gd_t (inb_n (by omega) (by omega)), gd_t (inb_n (by omega) (by omega)), e6, e5]
      · have hSh2 : RSheet 0 (1) (xi 25) (xi 26) (xa 29) (upd (ma 0) 0 (-1)) (ma 1) (ma 2) ∧ RSheet 1 (xi 27) (xi 28) (xi 29) (xa 30) (upd (ma 0) 0 (-1)) (ma 1) (ma 2) ∧ RSheet 2 (xi 30) (xi 31) (xi 32) (xa 31) (upd (ma 0) 0 (-1)) (ma 1) (ma 2) ∧ RSheet 3 (xi 33) (xi 34) (xi 35) (xa 32) (upd (ma 0) 0 (-1)) (ma 1) (ma 2) := ⟨Or.inl ⟨rfl, upd_at _ _ _⟩, hSh.2.1.keep (upd_ne _ _ (by omega)) rfl (fun _ _ => rfl), hSh.2.2.1.keep (upd_ne _ _ (by omega)) rfl (fun _ _ => rfl), hSh.2.2.2.keep (upd_ne _ _ (by omega)) rfl (fun _ _ => rfl)⟩
        exact ⟨hT0, hT1, hL, hH, hB, hD, hS, hSe, hF, hSh2, hW⟩
  · rcases hSh.2.1 with ⟨l, f⟩ | ⟨l, ⟨f, hf2, e3, e4⟩, n, hn, e5, e6, hit⟩
    · refine ⟨-11, 1, xi 24, xi 27, xi 30, xi 33, 1, ma 0, ?_, ?_, ?_⟩
      · unfold f_X8_lose; rw [show f_X8_isUpTo (nI 1) (3 : Int32) = some 1 from e1, l]; rfl
      · unfold f_X9_lose; rw [isSheet_eq, show f_X8_isUpTo (nI 1) (3 : Int32) = some 1 from e1, bind1_def, if_neg one_ne0, gd_t (inb_n (by omega) (by omega)), tnN (by omega), f, if_neg nle_m1]; rfl
      · exact ⟨hT0, hT1, hL, hH, hB, hD, hS, hSe, rfl, hSh, hW⟩
    · refine ⟨xi 29, xi 1, xi 24, 1, xi 30, xi 33, mi 0, upd (ma 0) 1 (-1), ?_, ?_, ?_⟩
      · unfold f_X8_lose; rw [show f_X8_isUpTo (nI 1) (3 : Int32) = some 1 from e1, l]; rfl
      · unfold f_X9_lose; rw [isSheet_eq, show f_X8_isUpTo (nI 1) (3 : Int32) = some 1 from e1, bind1_def, if_neg one_ne0, gd_t (inb_n (by omega) (by omega)), tnN (by omega), e4, if_pos (nI_ge0 (by omega)), gd_t (inb_n (by omega) (by omega)), gd_t (inb_n (by omega) (by omega)), e6, e5]
      · have hSh2 : RSheet 0 (xi 24) (xi 25) (xi 26) (xa 29) (upd (ma 0) 1 (-1)) (ma 1) (ma 2) ∧ RSheet 1 (1) (xi 28) (xi 29) (xa 30) (upd (ma 0) 1 (-1)) (ma 1) (ma 2) ∧ RSheet 2 (xi 30) (xi 31) (xi 32) (xa 31) (upd (ma 0) 1 (-1)) (ma 1) (ma 2) ∧ RSheet 3 (xi 33) (xi 34) (xi 35) (xa 32) (upd (ma 0) 1 (-1)) (ma 1) (ma 2) := ⟨hSh.1.keep (upd_ne _ _ (by omega)) rfl (fun _ _ => rfl), Or.inl ⟨rfl, upd_at _ _ _⟩, hSh.2.2.1.keep (upd_ne _ _ (by omega)) rfl (fun _ _ => rfl), hSh.2.2.2.keep (upd_ne _ _ (by omega)) rfl (fun _ _ => rfl)⟩
        exact ⟨hT0, hT1, hL, hH, hB, hD, hS, hSe, hF, hSh2, hW⟩
  · rcases hSh.2.2.1 with ⟨l, f⟩ | ⟨l, ⟨f, hf2, e3, e4⟩, n, hn, e5, e6, hit⟩
    · refine ⟨-11, 1, xi 24, xi 27, xi 30, xi 33, 1, ma 0, ?_, ?_, ?_⟩
      · unfold f_X8_lose; rw [show f_X8_isUpTo (nI 2) (3 : Int32) = some 1 from e1, l]; rfl
      · unfold f_X9_lose; rw [isSheet_eq, show f_X8_isUpTo (nI 2) (3 : Int32) = some 1 from e1, bind1_def, if_neg one_ne0, gd_t (inb_n (by omega) (by omega)), tnN (by omega), f, if_neg nle_m1]; rfl
      · exact ⟨hT0, hT1, hL, hH, hB, hD, hS, hSe, rfl, hSh, hW⟩
    · refine ⟨xi 32, xi 1, xi 24, xi 27, 1, xi 33, mi 0, upd (ma 0) 2 (-1), ?_, ?_, ?_⟩
      · unfold f_X8_lose; rw [show f_X8_isUpTo (nI 2) (3 : Int32) = some 1 from e1, l]; rfl
      · unfold f_X9_lose; rw [isSheet_eq, show f_X8_isUpTo (nI 2) (3 : Int32) = some 1 from e1, bind1_def, if_neg one_ne0, gd_t (inb_n (by omega) (by omega)), tnN (by omega), e4, if_pos (nI_ge0 (by omega)), gd_t (inb_n (by omega) (by omega)), gd_t (inb_n (by omega) (by omega)), e6, e5]
      · have hSh2 : RSheet 0 (xi 24) (xi 25) (xi 26) (xa 29) (upd (ma 0) 2 (-1)) (ma 1) (ma 2) ∧ RSheet 1 (xi 27) (xi 28) (xi 29) (xa 30) (upd (ma 0) 2 (-1)) (ma 1) (ma 2) ∧ RSheet 2 (1) (xi 31) (xi 32) (xa 31) (upd (ma 0) 2 (-1)) (ma 1) (ma 2) ∧ RSheet 3 (xi 33) (xi 34) (xi 35) (xa 32) (upd (ma 0) 2 (-1)) (ma 1) (ma 2) := ⟨hSh.1.keep (upd_ne _ _ (by omega)) rfl (fun _ _ => rfl), hSh.2.1.keep (upd_ne _ _ (by omega)) rfl (fun _ _ => rfl), Or.inl ⟨rfl, upd_at _ _ _⟩, hSh.2.2.2.keep (upd_ne _ _ (by omega)) rfl (fun _ _ => rfl)⟩
        exact ⟨hT0, hT1, hL, hH, hB, hD, hS, hSe, hF, hSh2, hW⟩
  · rcases hSh.2.2.2 with ⟨l, f⟩ | ⟨l, ⟨f, hf2, e3, e4⟩, n, hn, e5, e6, hit⟩
    · refine ⟨-11, 1, xi 24, xi 27, xi 30, xi 33, 1, ma 0, ?_, ?_, ?_⟩
      · unfold f_X8_lose; rw [show f_X8_isUpTo (nI 3) (3 : Int32) = some 1 from e1, l]; rfl
      · unfold f_X9_lose; rw [isSheet_eq, show f_X8_isUpTo (nI 3) (3 : Int32) = some 1 from e1, bind1_def, if_neg one_ne0, gd_t (inb_n (by omega) (by omega)), tnN (by omega), f, if_neg nle_m1]; rfl
      · exact ⟨hT0, hT1, hL, hH, hB, hD, hS, hSe, rfl, hSh, hW⟩
    · refine ⟨xi 35, xi 1, xi 24, xi 27, xi 30, 1, mi 0, upd (ma 0) 3 (-1), ?_, ?_, ?_⟩
      · unfold f_X8_lose; rw [show f_X8_isUpTo (nI 3) (3 : Int32) = some 1 from e1, l]; rfl
      · unfold f_X9_lose; rw [isSheet_eq, show f_X8_isUpTo (nI 3) (3 : Int32) = some 1 from e1, bind1_def, if_neg one_ne0, gd_t (inb_n (by omega) (by omega)), tnN (by omega), e4, if_pos (nI_ge0 (by omega)), gd_t (inb_n (by omega) (by omega)), gd_t (inb_n (by omega) (by omega)), e6, e5]
      · have hSh2 : RSheet 0 (xi 24) (xi 25) (xi 26) (xa 29) (upd (ma 0) 3 (-1)) (ma 1) (ma 2) ∧ RSheet 1 (xi 27) (xi 28) (xi 29) (xa 30) (upd (ma 0) 3 (-1)) (ma 1) (ma 2) ∧ RSheet 2 (xi 30) (xi 31) (xi 32) (xa 31) (upd (ma 0) 3 (-1)) (ma 1) (ma 2) ∧ RSheet 3 (1) (xi 34) (xi 35) (xa 32) (upd (ma 0) 3 (-1)) (ma 1) (ma 2) := ⟨hSh.1.keep (upd_ne _ _ (by omega)) rfl (fun _ _ => rfl), hSh.2.1.keep (upd_ne _ _ (by omega)) rfl (fun _ _ => rfl), hSh.2.2.1.keep (upd_ne _ _ (by omega)) rfl (fun _ _ => rfl), Or.inl ⟨rfl, upd_at _ _ _⟩⟩
        exact ⟨hT0, hT1, hL, hH, hB, hD, hS, hSe, hF, hSh2, hW⟩
theorem sim_get {xi : Nat → Int32} {xa : Nat → Nat → Int32} {xl : Nat → Int64} {xm : Nat → Nat → Int64} {mi : Nat → Int32} {ma : Nat → Nat → Int32} (h : Rel xi xa xl xm mi ma) (z1 z2 z3 : Int32) : ∃ (r : Int32) (c1 : Int32) (d1 : Int32) , f_X8_get (xi 1) (xi 24) (xi 25) (xi 26) (xa 29) (xi 27) (xi 28) (xi 29) (xa 30) (xi 30) (xi 31) (xi 32) (xa 31) (xi 33) (xi 34) (xi 35) (xa 32) z1 z2 z3 = some (r, c1) ∧ f_X9_get (mi 0) (ma 0) (ma 1) (ma 2) z1 z2 z3 = some (r, d1) ∧ Rel (va_up xi 1 c1) xa xl xm (va_up mi 0 d1) ma := by
  obtain ⟨hT0, hT1, hL, hH, hB, hD, hS, hSe, hF, hSh, hW⟩ := id h
  rcases upTo_cases z1 (M := 3) (by omega) with ⟨e1, -⟩ | ⟨e1, k, hk, rfl⟩
  · refine ⟨-2147483648, xi 1, mi 0, ?_, ?_, by simpa only [up_self] using h⟩
    · unfold f_X8_get; rw [show f_X8_isUpTo z1 (3 : Int32) = some 0 from e1]; rfl
    · unfold f_X9_get; rw [isSheet_eq, show f_X8_isUpTo z1 (3 : Int32) = some 0 from e1]; rfl
  rcases upTo_cases z2 (M := 2) (by omega) with ⟨e2, -⟩ | ⟨e2, fo, hfo, rfl⟩
  · refine ⟨-2147483648, xi 1, mi 0, ?_, ?_, by simpa only [up_self] using h⟩
    · unfold f_X8_get; rw [show f_X8_isUpTo (nI k) (3 : Int32) = some 1 from e1, show f_X8_isUpTo z2 (2 : Int32) = some 0 from e2]; rfl
    · unfold f_X9_get; rw [isSheet_eq, show f_X8_isUpTo (nI k) (3 : Int32) = some 1 from e1, in2_eq, show f_X8_isUpTo z2 (2 : Int32) = some 0 from e2]; rfl
  rcases (show k = 0 ∨ k = 1 ∨ k = 2 ∨ k = 3 by omega) with rfl | rfl | rfl | rfl
  · rcases lacks_eq (s := 0) (by omega) hSh.1 (mi 0) (nI fo) z3 with ⟨w, w1, w3, a1, a2⟩ | ⟨a1, a2, l, n, i, f, hin, hn, hf2, b1, b2, b3, rfl, b5, b6, hit⟩
    · refine ⟨-2147483648, nI w, nI w, ?_, ?_, ?_⟩
      · unfold f_X8_get; rw [show f_X8_isUpTo (nI 0) (3 : Int32) = some 1 from e1, show f_X8_isUpTo (nI fo) (2 : Int32) = some 1 from e2, bind1_def, if_neg one_ne0, bind1_def, if_neg one_ne0]
        simp only [if_pos (show nI 0 = (0 : Int32) from rfl)]
        rw [a1, bind1_def, if_neg (w_ne0 w1 w3)]
      · unfold f_X9_get f_X9_get_b29; rw [isSheet_eq, show f_X8_isUpTo (nI 0) (3 : Int32) = some 1 from e1, in2_eq, show f_X8_isUpTo (nI fo) (2 : Int32) = some 1 from e2, bind1_def, if_neg one_ne0, bind1_def, if_neg one_ne0, a2, bind2_def, if_neg (w_ne1 w1 w3)]
      · exact ⟨hT0, hT1, hL, hH, hB, hD, hS, hSe, rfl, hSh, hW⟩
    · refine ⟨xa 29 i, xi 1, mi 0, ?_, ?_, by simpa only [up_self] using h⟩
      · unfold f_X8_get; rw [show f_X8_isUpTo (nI 0) (3 : Int32) = some 1 from e1, show f_X8_isUpTo (nI fo) (2 : Int32) = some 1 from e2, bind1_def, if_neg one_ne0, bind1_def, if_neg one_ne0]
        simp only [if_pos (show nI 0 = (0 : Int32) from rfl)]
        rw [a1, bind1_def, if_pos rfl, gd_t (inb_n (by omega) (by omega)), tnN (by omega)]
      · unfold f_X9_get; rw [isSheet_eq, show f_X8_isUpTo (nI 0) (3 : Int32) = some 1 from e1, in2_eq, show f_X8_isUpTo (nI fo) (2 : Int32) = some 1 from e2, bind1_def, if_neg one_ne0, bind1_def, if_neg one_ne0, a2, bind2_def, if_pos rfl, show (60 : Int32) * nI 0 + nI i = nI (60 * 0 + i) from by rw [show (60 : Int32) = nI 60 from rfl, pk_mul, nI_add], gd_t (inb_n (by omega) (by omega)), tnN (by omega), hit i hin]
  · rcases lacks_eq (s := 1) (by omega) hSh.2.1 (mi 0) (nI fo) z3 with ⟨w, w1, w3, a1, a2⟩ | ⟨a1, a2, l, n, i, f, hin, hn, hf2, b1, b2, b3, rfl, b5, b6, hit⟩
    · refine ⟨-2147483648, nI w, nI w, ?_, ?_, ?_⟩
      · unfold f_X8_get; rw [show f_X8_isUpTo (nI 1) (3 : Int32) = some 1 from e1, show f_X8_isUpTo (nI fo) (2 : Int32) = some 1 from e2, bind1_def, if_neg one_ne0, bind1_def, if_neg one_ne0]
        simp only [if_neg (show ¬ nI 1 = (0 : Int32) by decide), if_pos (show nI 1 = (1 : Int32) from rfl)]
        rw [a1, bind1_def, if_neg (w_ne0 w1 w3)]
      · unfold f_X9_get f_X9_get_b29; rw [isSheet_eq, show f_X8_isUpTo (nI 1) (3 : Int32) = some 1 from e1, in2_eq, show f_X8_isUpTo (nI fo) (2 : Int32) = some 1 from e2, bind1_def, if_neg one_ne0, bind1_def, if_neg one_ne0, a2, bind2_def, if_neg (w_ne1 w1 w3)]
      · exact ⟨hT0, hT1, hL, hH, hB, hD, hS, hSe, rfl, hSh, hW⟩
    · refine ⟨xa 30 i, xi 1, mi 0, ?_, ?_, by simpa only [up_self] using h⟩
      · unfold f_X8_get; rw [show f_X8_isUpTo (nI 1) (3 : Int32) = some 1 from e1, show f_X8_isUpTo (nI fo) (2 : Int32) = some 1 from e2, bind1_def, if_neg one_ne0, bind1_def, if_neg one_ne0]
        simp only [if_neg (show ¬ nI 1 = (0 : Int32) by decide), if_pos (show nI 1 = (1 : Int32) from rfl)]
        rw [a1, bind1_def, if_pos rfl, gd_t (inb_n (by omega) (by omega)), tnN (by omega)]
      · unfold f_X9_get; rw [isSheet_eq, show f_X8_isUpTo (nI 1) (3 : Int32) = some 1 from e1, in2_eq, show f_X8_isUpTo (nI fo) (2 : Int32) = some 1 from e2, bind1_def, if_neg one_ne0, bind1_def, if_neg one_ne0, a2, bind2_def, if_pos rfl, show (60 : Int32) * nI 1 + nI i = nI (60 * 1 + i) from by rw [show (60 : Int32) = nI 60 from rfl, pk_mul, nI_add], gd_t (inb_n (by omega) (by omega)), tnN (by omega), hit i hin]
  · rcases lacks_eq (s := 2) (by omega) hSh.2.2.1 (mi 0) (nI fo) z3 with ⟨w, w1, w3, a1, a2⟩ | ⟨a1, a2, l, n, i, f, hin, hn, hf2, b1, b2, b3, rfl, b5, b6, hit⟩
    · refine ⟨-2147483648, nI w, nI w, ?_, ?_, ?_⟩
      · unfold f_X8_get; rw [show f_X8_isUpTo (nI 2) (3 : Int32) = some 1 from e1, show f_X8_isUpTo (nI fo) (2 : Int32) = some 1 from e2, bind1_def, if_neg one_ne0, bind1_def, if_neg one_ne0]
        simp only [if_neg (show ¬ nI 2 = (0 : Int32) by decide), if_neg (show ¬ nI 2 = (1 : Int32) by decide), if_pos (show nI 2 = (2 : Int32) from rfl)]
        rw [a1, bind1_def, if_neg (w_ne0 w1 w3)]
      · unfold f_X9_get f_X9_get_b29; rw [isSheet_eq, show f_X8_isUpTo (nI 2) (3 : Int32) = some 1 from e1, in2_eq, show f_X8_isUpTo (nI fo) (2 : Int32) = some 1 from e2, bind1_def, if_neg one_ne0, bind1_def, if_neg one_ne0, a2, bind2_def, if_neg (w_ne1 w1 w3)]
      · exact ⟨hT0, hT1, hL, hH, hB, hD, hS, hSe, rfl, hSh, hW⟩
    · refine ⟨xa 31 i, xi 1, mi 0, ?_, ?_, by simpa only [up_self] using h⟩
      · unfold f_X8_get; rw [show f_X8_isUpTo (nI 2) (3 : Int32) = some 1 from e1, show f_X8_isUpTo (nI fo) (2 : Int32) = some 1 from e2, bind1_def, if_neg one_ne0, bind1_def, if_neg one_ne0]
        simp only [if_neg (show ¬ nI 2 = (0 : Int32) by decide), if_neg (show ¬ nI 2 = (1 : Int32) by decide), if_pos (show nI 2 = (2 : Int32) from rfl)]
        rw [a1, bind1_def, if_pos rfl, gd_t (inb_n (by omega) (by omega)), tnN (by omega)]
      · unfold f_X9_get; rw [isSheet_eq, show f_X8_isUpTo (nI 2) (3 : Int32) = some 1 from e1, in2_eq, show f_X8_isUpTo (nI fo) (2 : Int32) = some 1 from e2, bind1_def, if_neg one_ne0, bind1_def, if_neg one_ne0, a2, bind2_def, if_pos rfl, show (60 : Int32) * nI 2 + nI i = nI (60 * 2 + i) from by rw [show (60 : Int32) = nI 60 from rfl, pk_mul, nI_add], gd_t (inb_n (by omega) (by omega)), tnN (by omega), hit i hin]
  · rcases lacks_eq (s := 3) (by omega) hSh.2.2.2 (mi 0) (nI fo) z3 with ⟨w, w1, w3, a1, a2⟩ | ⟨a1, a2, l, n, i, f, hin, hn, hf2, b1, b2, b3, rfl, b5, b6, hit⟩
    · refine ⟨-2147483648, nI w, nI w, ?_, ?_, ?_⟩
      · unfold f_X8_get; rw [show f_X8_isUpTo (nI 3) (3 : Int32) = some 1 from e1, show f_X8_isUpTo (nI fo) (2 : Int32) = some 1 from e2, bind1_def, if_neg one_ne0, bind1_def, if_neg one_ne0]
        simp only [if_neg (show ¬ nI 3 = (0 : Int32) by decide), if_neg (show ¬ nI 3 = (1 : Int32) by decide), if_neg (show ¬ nI 3 = (2 : Int32) by decide), if_pos (show nI 3 = (3 : Int32) from rfl)]
        rw [a1, bind1_def, if_neg (w_ne0 w1 w3)]
      · unfold f_X9_get f_X9_get_b29; rw [isSheet_eq, show f_X8_isUpTo (nI 3) (3 : Int32) = some 1 from e1, in2_eq, show f_X8_isUpTo (nI fo) (2 : Int32) = some 1 from e2, bind1_def, if_neg one_ne0, bind1_def, if_neg one_ne0, a2, bind2_def, if_neg (w_ne1 w1 w3)]
      · exact ⟨hT0, hT1, hL, hH, hB, hD, hS, hSe, rfl, hSh, hW⟩
    · refine ⟨xa 32 i, xi 1, mi 0, ?_, ?_, by simpa only [up_self] using h⟩
      · unfold f_X8_get; rw [show f_X8_isUpTo (nI 3) (3 : Int32) = some 1 from e1, show f_X8_isUpTo (nI fo) (2 : Int32) = some 1 from e2, bind1_def, if_neg one_ne0, bind1_def, if_neg one_ne0]
        simp only [if_neg (show ¬ nI 3 = (0 : Int32) by decide), if_neg (show ¬ nI 3 = (1 : Int32) by decide), if_neg (show ¬ nI 3 = (2 : Int32) by decide), if_pos (show nI 3 = (3 : Int32) from rfl)]
        rw [a1, bind1_def, if_pos rfl, gd_t (inb_n (by omega) (by omega)), tnN (by omega)]
      · unfold f_X9_get; rw [isSheet_eq, show f_X8_isUpTo (nI 3) (3 : Int32) = some 1 from e1, in2_eq, show f_X8_isUpTo (nI fo) (2 : Int32) = some 1 from e2, bind1_def, if_neg one_ne0, bind1_def, if_neg one_ne0, a2, bind2_def, if_pos rfl, show (60 : Int32) * nI 3 + nI i = nI (60 * 3 + i) from by rw [show (60 : Int32) = nI 60 from rfl, pk_mul, nI_add], gd_t (inb_n (by omega) (by omega)), tnN (by omega), hit i hin]
theorem upd_pair {s n i : Nat} {items its : Nat → Int32} {w : Int32} (hit : ∀ i, i < n → its (60 * s + i) = items i) (j : Nat) (hj : j < n) : upd its (60 * s + i) w (60 * s + j) = upd items i w j := by
  by_cases h : j = i
  · rw [h, upd_at, upd_at]
  · rw [upd_ne _ _ h, upd_ne _ _ (by omega)]; exact hit j hj
theorem sim_lay {xi : Nat → Int32} {xa : Nat → Nat → Int32} {xl : Nat → Int64} {xm : Nat → Nat → Int64} {mi : Nat → Int32} {ma : Nat → Nat → Int32} (h : Rel xi xa xl xm mi ma) (z1 z2 z3 z4 : Int32) : ∃ (r : Int32) (c1 : Int32) (c2 : Nat → Int32) (c3 : Nat → Int32) (c4 : Nat → Int32) (c5 : Nat → Int32) (d1 : Int32) (d2 : Nat → Int32) , f_X8_lay (xi 1) (xi 24) (xi 25) (xi 26) (xa 29) (xi 27) (xi 28) (xi 29) (xa 30) (xi 30) (xi 31) (xi 32) (xa 31) (xi 33) (xi 34) (xi 35) (xa 32) z1 z2 z3 z4 = some (r, c1, c2, c3, c4, c5) ∧ f_X9_lay (mi 0) (ma 0) (ma 1) (ma 2) z1 z2 z3 z4 = some (r, d1, d2) ∧ Rel (va_up xi 1 c1) (va_up (va_up (va_up (va_up xa 29 c2) 30 c3) 31 c4) 32 c5) xl xm (va_up mi 0 d1) (va_up ma 2 d2) := by
  obtain ⟨hT0, hT1, hL, hH, hB, hD, hS, hSe, hF, hSh, hW⟩ := id h
  rcases upTo_cases z1 (M := 3) (by omega) with ⟨e1, -⟩ | ⟨e1, k, hk, rfl⟩
  · refine ⟨-2, xi 1, xa 29, xa 30, xa 31, xa 32, mi 0, ma 2, ?_, ?_, by simpa only [up_self] using h⟩
    · unfold f_X8_lay; rw [show f_X8_isUpTo z1 (3 : Int32) = some 0 from e1]; rfl
    · unfold f_X9_lay; rw [isSheet_eq, show f_X8_isUpTo z1 (3 : Int32) = some 0 from e1]; rfl
  rcases upTo_cases z2 (M := 2) (by omega) with ⟨e2, -⟩ | ⟨e2, fo, hfo, rfl⟩
  · refine ⟨-2, xi 1, xa 29, xa 30, xa 31, xa 32, mi 0, ma 2, ?_, ?_, by simpa only [up_self] using h⟩
    · unfold f_X8_lay; rw [show f_X8_isUpTo (nI k) (3 : Int32) = some 1 from e1, show f_X8_isUpTo z2 (2 : Int32) = some 0 from e2]; rfl
    · unfold f_X9_lay; rw [isSheet_eq, show f_X8_isUpTo (nI k) (3 : Int32) = some 1 from e1, in2_eq, show f_X8_isUpTo z2 (2 : Int32) = some 0 from e2]; rfl
  rcases (show k = 0 ∨ k = 1 ∨ k = 2 ∨ k = 3 by omega) with rfl | rfl | rfl | rfl
  · rcases lacks_eq (s := 0) (by omega) hSh.1 (mi 0) (nI fo) z3 with ⟨w, w1, w3, a1, a2⟩ | ⟨a1, a2, l, n, i, f, hin, hn, hf2, b1, b2, b3, rfl, b5, b6, hit⟩
    · refine ⟨-10 - nI w, nI w, xa 29, xa 30, xa 31, xa 32, nI w, ma 2, ?_, ?_, ?_⟩
      · unfold f_X8_lay; rw [show f_X8_isUpTo (nI 0) (3 : Int32) = some 1 from e1, show f_X8_isUpTo (nI fo) (2 : Int32) = some 1 from e2, bind1_def, if_neg one_ne0, bind1_def, if_neg one_ne0]
        simp only [if_pos (show nI 0 = (0 : Int32) from rfl)]
        rw [a1, bind1_def, if_neg (w_ne0 w1 w3)]; rfl
      · unfold f_X9_lay; rw [isSheet_eq, show f_X8_isUpTo (nI 0) (3 : Int32) = some 1 from e1, in2_eq, show f_X8_isUpTo (nI fo) (2 : Int32) = some 1 from e2, bind1_def, if_neg one_ne0, bind1_def, if_neg one_ne0, a2, bind2_def, if_neg (w_ne1 w1 w3)]
      · have hSh2 : RSheets xi xa (ma 0) (ma 1) (ma 2) := hSh
        exact ⟨hT0, hT1, hL, hH, hB, hD, hS, hSe, rfl, hSh2, hW⟩
    · obtain ⟨w, k1, k2⟩ := keep_eq hf2 (show i < 60 by omega) (xa 29) z4
      rw [← b2] at k1
      rw [← b1] at k2
      refine ⟨1, xi 1, upd (xa 29) i w, xa 30, xa 31, xa 32, mi 0, upd (ma 2) (60 * 0 + i) w, ?_, ?_, ?_⟩
      · unfold f_X8_lay; rw [show f_X8_isUpTo (nI 0) (3 : Int32) = some 1 from e1, show f_X8_isUpTo (nI fo) (2 : Int32) = some 1 from e2, bind1_def, if_neg one_ne0, bind1_def, if_neg one_ne0]
        simp only [if_pos (show nI 0 = (0 : Int32) from rfl)]
        rw [a1, bind1_def, if_pos rfl, k1]; rfl
      · unfold f_X9_lay; rw [isSheet_eq, show f_X8_isUpTo (nI 0) (3 : Int32) = some 1 from e1, in2_eq, show f_X8_isUpTo (nI fo) (2 : Int32) = some 1 from e2, bind1_def, if_neg one_ne0, bind1_def, if_neg one_ne0, a2, bind2_def, if_pos rfl, k2, bind1_def, show (60 : Int32) * nI 0 + nI i = nI (60 * 0 + i) from by rw [show (60 : Int32) = nI 60 from rfl, pk_mul, nI_add], gd_t (inb_n (by omega) (by omega)), tnN (by omega)]
      · have hSh2 : RSheet 0 (xi 24) (xi 25) (xi 26) (upd (xa 29) i w) (ma 0) (ma 1) (upd (ma 2) (60 * 0 + i) w) ∧ RSheet 1 (xi 27) (xi 28) (xi 29) (xa 30) (ma 0) (ma 1) (upd (ma 2) (60 * 0 + i) w) ∧ RSheet 2 (xi 30) (xi 31) (xi 32) (xa 31) (ma 0) (ma 1) (upd (ma 2) (60 * 0 + i) w) ∧ RSheet 3 (xi 33) (xi 34) (xi 35) (xa 32) (ma 0) (ma 1) (upd (ma 2) (60 * 0 + i) w) := ⟨Or.inr ⟨l, ⟨f, hf2, b2, b3⟩, n, hn, b5, b6, fun j hj => upd_pair hit j hj⟩, hSh.2.1.keep rfl rfl (fun j hj => upd_ne _ _ (by omega)), hSh.2.2.1.keep rfl rfl (fun j hj => upd_ne _ _ (by omega)), hSh.2.2.2.keep rfl rfl (fun j hj => upd_ne _ _ (by omega))⟩
        exact ⟨hT0, hT1, hL, hH, hB, hD, hS, hSe, hF, hSh2, hW⟩
  · rcases lacks_eq (s := 1) (by omega) hSh.2.1 (mi 0) (nI fo) z3 with ⟨w, w1, w3, a1, a2⟩ | ⟨a1, a2, l, n, i, f, hin, hn, hf2, b1, b2, b3, rfl, b5, b6, hit⟩
    · refine ⟨-10 - nI w, nI w, xa 29, xa 30, xa 31, xa 32, nI w, ma 2, ?_, ?_, ?_⟩
      · unfold f_X8_lay; rw [show f_X8_isUpTo (nI 1) (3 : Int32) = some 1 from e1, show f_X8_isUpTo (nI fo) (2 : Int32) = some 1 from e2, bind1_def, if_neg one_ne0, bind1_def, if_neg one_ne0]
        simp only [if_neg (show ¬ nI 1 = (0 : Int32) by decide), if_pos (show nI 1 = (1 : Int32) from rfl)]
        rw [a1, bind1_def, if_neg (w_ne0 w1 w3)]; rfl
      · unfold f_X9_lay; rw [isSheet_eq, show f_X8_isUpTo (nI 1) (3 : Int32) = some 1 from e1, in2_eq, show f_X8_isUpTo (nI fo) (2 : Int32) = some 1 from e2, bind1_def, if_neg one_ne0, bind1_def, if_neg one_ne0, a2, bind2_def, if_neg (w_ne1 w1 w3)]
      · have hSh2 : RSheets xi xa (ma 0) (ma 1) (ma 2) := hSh
        exact ⟨hT0, hT1, hL, hH, hB, hD, hS, hSe, rfl, hSh2, hW⟩
    · obtain ⟨w, k1, k2⟩ := keep_eq hf2 (show i < 60 by omega) (xa 30) z4
      rw [← b2] at k1
      rw [← b1] at k2
      refine ⟨1, xi 1, xa 29, upd (xa 30) i w, xa 31, xa 32, mi 0, upd (ma 2) (60 * 1 + i) w, ?_, ?_, ?_⟩
      · unfold f_X8_lay; rw [show f_X8_isUpTo (nI 1) (3 : Int32) = some 1 from e1, show f_X8_isUpTo (nI fo) (2 : Int32) = some 1 from e2, bind1_def, if_neg one_ne0, bind1_def, if_neg one_ne0]
        simp only [if_neg (show ¬ nI 1 = (0 : Int32) by decide), if_pos (show nI 1 = (1 : Int32) from rfl)]
        rw [a1, bind1_def, if_pos rfl, k1]; rfl
      · unfold f_X9_lay; rw [isSheet_eq, show f_X8_isUpTo (nI 1) (3 : Int32) = some 1 from e1, in2_eq, show f_X8_isUpTo (nI fo) (2 : Int32) = some 1 from e2, bind1_def, if_neg one_ne0, bind1_def, if_neg one_ne0, a2, bind2_def, if_pos rfl, k2, bind1_def, show (60 : Int32) * nI 1 + nI i = nI (60 * 1 + i) from by rw [show (60 : Int32) = nI 60 from rfl, pk_mul, nI_add], gd_t (inb_n (by omega) (by omega)), tnN (by omega)]
      · have hSh2 : RSheet 0 (xi 24) (xi 25) (xi 26) (xa 29) (ma 0) (ma 1) (upd (ma 2) (60 * 1 + i) w) ∧ RSheet 1 (xi 27) (xi 28) (xi 29) (upd (xa 30) i w) (ma 0) (ma 1) (upd (ma 2) (60 * 1 + i) w) ∧ RSheet 2 (xi 30) (xi 31) (xi 32) (xa 31) (ma 0) (ma 1) (upd (ma 2) (60 * 1 + i) w) ∧ RSheet 3 (xi 33) (xi 34) (xi 35) (xa 32) (ma 0) (ma 1) (upd (ma 2) (60 * 1 + i) w) := ⟨hSh.1.keep rfl rfl (fun j hj => upd_ne _ _ (by omega)), Or.inr ⟨l, ⟨f, hf2, b2, b3⟩, n, hn, b5, b6, fun j hj => upd_pair hit j hj⟩, hSh.2.2.1.keep rfl rfl (fun j hj => upd_ne _ _ (by omega)), hSh.2.2.2.keep rfl rfl (fun j hj => upd_ne _ _ (by omega))⟩
        exact ⟨hT0, hT1, hL, hH, hB, hD, hS, hSe, hF, hSh2, hW⟩
  · rcases lacks_eq (s := 2) (by omega) hSh.2.2.1 (mi 0) (nI fo) z3 with ⟨w, w1, w3, a1, a2⟩ | ⟨a1, a2, l, n, i, f, hin, hn, hf2, b1, b2, b3, rfl, b5, b6, hit⟩
    · refine ⟨-10 - nI w, nI w, xa 29, xa 30, xa 31, xa 32, nI w, ma 2, ?_, ?_, ?_⟩
      · unfold f_X8_lay; rw [show f_X8_isUpTo (nI 2) (3 : Int32) = some 1 from e1, show f_X8_isUpTo (nI fo) (2 : Int32) = some 1 from e2, bind1_def, if_neg one_ne0, bind1_def, if_neg one_ne0]
        simp only [if_neg (show ¬ nI 2 = (0 : Int32) by decide), if_neg (show ¬ nI 2 = (1 : Int32) by decide), if_pos (show nI 2 = (2 : Int32) from rfl)]
        rw [a1, bind1_def, if_neg (w_ne0 w1 w3)]; rfl
      · unfold f_X9_lay; rw [isSheet_eq, show f_X8_isUpTo (nI 2) (3 : Int32) = some 1 from e1, in2_eq, show f_X8_isUpTo (nI fo) (2 : Int32) = some 1 from e2, bind1_def, if_neg one_ne0, bind1_def, if_neg one_ne0, a2, bind2_def, if_neg (w_ne1 w1 w3)]
      · have hSh2 : RSheets xi xa (ma 0) (ma 1) (ma 2) := hSh
        exact ⟨hT0, hT1, hL, hH, hB, hD, hS, hSe, rfl, hSh2, hW⟩
    · obtain ⟨w, k1, k2⟩ := keep_eq hf2 (show i < 60 by omega) (xa 31) z4
      rw [← b2] at k1
      rw [← b1] at k2
      refine ⟨1, xi 1, xa 29, xa 30, upd (xa 31) i w, xa 32, mi 0, upd (ma 2) (60 * 2 + i) w, ?_, ?_, ?_⟩
      · unfold f_X8_lay; rw [show f_X8_isUpTo (nI 2) (3 : Int32) = some 1 from e1, show f_X8_isUpTo (nI fo) (2 : Int32) = some 1 from e2, bind1_def, if_neg one_ne0, bind1_def, if_neg one_ne0]
        simp only [if_neg (show ¬ nI 2 = (0 : Int32) by decide), if_neg (show ¬ nI 2 = (1 : Int32) by decide), if_pos (show nI 2 = (2 : Int32) from rfl)]
        rw [a1, bind1_def, if_pos rfl, k1]; rfl
      · unfold f_X9_lay; rw [isSheet_eq, show f_X8_isUpTo (nI 2) (3 : Int32) = some 1 from e1, in2_eq, show f_X8_isUpTo (nI fo) (2 : Int32) = some 1 from e2, bind1_def, if_neg one_ne0, bind1_def, if_neg one_ne0, a2, bind2_def, if_pos rfl, k2, bind1_def, show (60 : Int32) * nI 2 + nI i = nI (60 * 2 + i) from by rw [show (60 : Int32) = nI 60 from rfl, pk_mul, nI_add], gd_t (inb_n (by omega) (by omega)), tnN (by omega)]
      · have hSh2 : RSheet 0 (xi 24) (xi 25) (xi 26) (xa 29) (ma 0) (ma 1) (upd (ma 2) (60 * 2 + i) w) ∧ RSheet 1 (xi 27) (xi 28) (xi 29) (xa 30) (ma 0) (ma 1) (upd (ma 2) (60 * 2 + i) w) ∧ RSheet 2 (xi 30) (xi 31) (xi 32) (upd (xa 31) i w) (ma 0) (ma 1) (upd (ma 2) (60 * 2 + i) w) ∧ RSheet 3 (xi 33) (xi 34) (xi 35) (xa 32) (ma 0) (ma 1) (upd (ma 2) (60 * 2 + i) w) := ⟨hSh.1.keep rfl rfl (fun j hj => upd_ne _ _ (by omega)), hSh.2.1.keep rfl rfl (fun j hj => upd_ne _ _ (by omega)), Or.inr ⟨l, ⟨f, hf2, b2, b3⟩, n, hn, b5, b6, fun j hj => upd_pair hit j hj⟩, hSh.2.2.2.keep rfl rfl (fun j hj => upd_ne _ _ (by omega))⟩
        exact ⟨hT0, hT1, hL, hH, hB, hD, hS, hSe, hF, hSh2, hW⟩
  · rcases lacks_eq (s := 3) (by omega) hSh.2.2.2 (mi 0) (nI fo) z3 with ⟨w, w1, w3, a1, a2⟩ | ⟨a1, a2, l, n, i, f, hin, hn, hf2, b1, b2, b3, rfl, b5, b6, hit⟩
    · refine ⟨-10 - nI w, nI w, xa 29, xa 30, xa 31, xa 32, nI w, ma 2, ?_, ?_, ?_⟩
      · unfold f_X8_lay; rw [show f_X8_isUpTo (nI 3) (3 : Int32) = some 1 from e1, show f_X8_isUpTo (nI fo) (2 : Int32) = some 1 from e2, bind1_def, if_neg one_ne0, bind1_def, if_neg one_ne0]
        simp only [if_neg (show ¬ nI 3 = (0 : Int32) by decide), if_neg (show ¬ nI 3 = (1 : Int32) by decide), if_neg (show ¬ nI 3 = (2 : Int32) by decide), if_pos (show nI 3 = (3 : Int32) from rfl)]
        rw [a1, bind1_def, if_neg (w_ne0 w1 w3)]; rfl
      · unfold f_X9_lay; rw [isSheet_eq, show f_X8_isUpTo (nI 3) (3 : Int32) = some 1 from e1, in2_eq, show f_X8_isUpTo (nI fo) (2 : Int32) = some 1 from e2, bind1_def, if_neg one_ne0, bind1_def, if_neg one_ne0, a2, bind2_def, if_neg (w_ne1 w1 w3)]
      · have hSh2 : RSheets xi xa (ma 0) (ma 1) (ma 2) := hSh
        exact ⟨hT0, hT1, hL, hH, hB, hD, hS, hSe, rfl, hSh2, hW⟩
    · obtain ⟨w, k1, k2⟩ := keep_eq hf2 (show i < 60 by omega) (xa 32) z4
      rw [← b2] at k1
      rw [← b1] at k2
      refine ⟨1, xi 1, xa 29, xa 30, xa 31, upd (xa 32) i w, mi 0, upd (ma 2) (60 * 3 + i) w, ?_, ?_, ?_⟩
      · unfold f_X8_lay; rw [show f_X8_isUpTo (nI 3) (3 : Int32) = some 1 from e1, show f_X8_isUpTo (nI fo) (2 : Int32) = some 1 from e2, bind1_def, if_neg one_ne0, bind1_def, if_neg one_ne0]
        simp only [if_neg (show ¬ nI 3 = (0 : Int32) by decide), if_neg (show ¬ nI 3 = (1 : Int32) by decide), if_neg (show ¬ nI 3 = (2 : Int32) by decide), if_pos (show nI 3 = (3 : Int32) from rfl)]
        rw [a1, bind1_def, if_pos rfl, k1]; rfl
      · unfold f_X9_lay; rw [isSheet_eq, show f_X8_isUpTo (nI 3) (3 : Int32) = some 1 from e1, in2_eq, show f_X8_isUpTo (nI fo) (2 : Int32) = some 1 from e2, bind1_def, if_neg one_ne0, bind1_def, if_neg one_ne0, a2, bind2_def, if_pos rfl, k2, bind1_def, show (60 : Int32) * nI 3 + nI i = nI (60 * 3 + i) from by rw [show (60 : Int32) = nI 60 from rfl, pk_mul, nI_add], gd_t (inb_n (by omega) (by omega)), tnN (by omega)]
      · have hSh2 : RSheet 0 (xi 24) (xi 25) (xi 26) (xa 29) (ma 0) (ma 1) (upd (ma 2) (60 * 3 + i) w) ∧ RSheet 1 (xi 27) (xi 28) (xi 29) (xa 30) (ma 0) (ma 1) (upd (ma 2) (60 * 3 + i) w) ∧ RSheet 2 (xi 30) (xi 31) (xi 32) (xa 31) (ma 0) (ma 1) (upd (ma 2) (60 * 3 + i) w) ∧ RSheet 3 (xi 33) (xi 34) (xi 35) (upd (xa 32) i w) (ma 0) (ma 1) (upd (ma 2) (60 * 3 + i) w) := ⟨hSh.1.keep rfl rfl (fun j hj => upd_ne _ _ (by omega)), hSh.2.1.keep rfl rfl (fun j hj => upd_ne _ _ (by omega)), hSh.2.2.1.keep rfl rfl (fun j hj => upd_ne _ _ (by omega)), Or.inr ⟨l, ⟨f, hf2, b2, b3⟩, n, hn, b5, b6, fun j hj => upd_pair hit j hj⟩⟩
        exact ⟨hT0, hT1, hL, hH, hB, hD, hS, hSe, hF, hSh2, hW⟩
theorem sim_sheet {xi : Nat → Int32} {xa : Nat → Nat → Int32} {xl : Nat → Int64} {xm : Nat → Nat → Int64} {mi : Nat → Int32} {ma : Nat → Nat → Int32} (h : Rel xi xa xl xm mi ma) (z1 z2 z3 : Int32) : ∃ (r : Int32) (c1 : Int32) (c2 : Int32) (c3 : Int32) (c4 : Int32) (c5 : Nat → Int32) (c6 : Int32) (c7 : Int32) (c8 : Int32) (c9 : Nat → Int32) (c10 : Int32) (c11 : Int32) (c12 : Int32) (c13 : Nat → Int32) (c14 : Int32) (c15 : Int32) (c16 : Int32) (c17 : Nat → Int32) (d1 : Int32) (d2 : Nat → Int32) (d3 : Nat → Int32) (d4 : Nat → Int32) , f_X8_sheet (xi 1) (xi 24) (xi 25) (xi 26) (xa 29) (xi 27) (xi 28) (xi 29) (xa 30) (xi 30) (xi 31) (xi 32) (xa 31) (xi 33) (xi 34) (xi 35) (xa 32) z1 z2 z3 = some (r, c1, c2, c3, c4, c5, c6, c7, c8, c9, c10, c11, c12, c13, c14, c15, c16, c17) ∧ f_X9_sheet (mi 0) (ma 0) (ma 1) (ma 2) z1 z2 z3 = some (r, d1, d2, d3, d4) ∧ Rel (va_up (va_up (va_up (va_up (va_up (va_up (va_up (va_up (va_up (va_up (va_up (va_up (va_up xi 1 c1) 24 c2) 25 c3) 26 c4) 27 c6) 28 c7) 29 c8) 30 c10) 31 c11) 32 c12) 33 c14) 34 c15) 35 c16) (va_up (va_up (va_up (va_up xa 29 c5) 30 c9) 31 c13) 32 c17) xl xm (va_up mi 0 d1) (va_up (va_up (va_up ma 0 d2) 1 d3) 2 d4) := by
  obtain ⟨hT0, hT1, hL, hH, hB, hD, hS, hSe, hF, hSh, hW⟩ := id h
  rcases upTo_cases z1 (M := 3) (by omega) with ⟨e1, -⟩ | ⟨e1, k, hk, rfl⟩
  · refine ⟨-2, xi 1, xi 24, xi 25, xi 26, xa 29, xi 27, xi 28, xi 29, xa 30, xi 30, xi 31, xi 32, xa 31, xi 33, xi 34, xi 35, xa 32, mi 0, ma 0, ma 1, ma 2, ?_, ?_, by simpa only [up_self] using h⟩
    · unfold f_X8_sheet; rw [show f_X8_isUpTo z1 (3 : Int32) = some 0 from e1]; rfl
    · unfold f_X9_sheet; rw [isSheet_eq, show f_X8_isUpTo z1 (3 : Int32) = some 0 from e1]; rfl
  rcases upTo_cases z2 (M := 2) (by omega) with ⟨e2, -⟩ | ⟨e2, fo, hfo, rfl⟩
  · refine ⟨-2, xi 1, xi 24, xi 25, xi 26, xa 29, xi 27, xi 28, xi 29, xa 30, xi 30, xi 31, xi 32, xa 31, xi 33, xi 34, xi 35, xa 32, mi 0, ma 0, ma 1, ma 2, ?_, ?_, by simpa only [up_self] using h⟩
    · unfold f_X8_sheet; rw [show f_X8_isUpTo (nI k) (3 : Int32) = some 1 from e1, show f_X8_isUpTo z2 (2 : Int32) = some 0 from e2]; rfl
    · unfold f_X9_sheet; rw [isSheet_eq, show f_X8_isUpTo (nI k) (3 : Int32) = some 1 from e1, in2_eq, show f_X8_isUpTo z2 (2 : Int32) = some 0 from e2]; rfl
  by_cases h6 : z3 ≤ (60 : Int32)
  · by_cases h0 : (0 : Int32) ≤ z3
    · obtain ⟨n, hn, rfl⟩ := of_bounds (v := z3) (M := 60) (by omega) (Int32.not_lt.mpr h0) (Int32.not_lt.mpr h6)
      obtain ⟨g, hg1, hg2, hg3⟩ := sheet_fill k n (by omega) hn (ma 2)
      have hm : f_X9_sheet (mi 0) (ma 0) (ma 1) (ma 2) (nI k) (nI fo) (nI n) = some (nI n, mi 0, upd (ma 0) k (nI fo), upd (ma 1) k (nI n), g) := by
        unfold f_X9_sheet
        rw [isSheet_eq, show f_X8_isUpTo (nI k) (3 : Int32) = some 1 from e1, in2_eq, show f_X8_isUpTo (nI fo) (2 : Int32) = some 1 from e2, bind1_def, if_neg one_ne0, bind1_def, if_neg one_ne0, if_pos h6, if_pos h0, gd_t (inb_n (by omega) (by omega)), gd_t (inb_n (by omega) (by omega)), hg1, bind1_def, tnN (by omega)]
      rcases (show k = 0 ∨ k = 1 ∨ k = 2 ∨ k = 3 by omega) with rfl | rfl | rfl | rfl
      · obtain ⟨y, hy, hy2⟩ := fill0 (xa 29)
        refine ⟨nI n, xi 1, 0, nI fo, nI n, y, xi 27, xi 28, xi 29, xa 30, xi 30, xi 31, xi 32, xa 31, xi 33, xi 34, xi 35, xa 32, mi 0, _, _, _, ?_, hm, ?_⟩
        · unfold f_X8_sheet f_X5_begin; rw [show f_X8_isUpTo (nI 0) (3 : Int32) = some 1 from e1, show f_X8_isUpTo (nI fo) (2 : Int32) = some 1 from e2, bind1_def, if_neg one_ne0, bind1_def, if_neg one_ne0, if_pos h6, if_pos h0]
          simp only [if_pos (show nI 0 = (0 : Int32) from rfl)]
          rw [hy]; rfl
        · have hSh2 : RSheet 0 0 (nI fo) (nI n) y (upd (ma 0) 0 (nI fo)) (upd (ma 1) 0 (nI n)) g ∧ RSheet 1 (xi 27) (xi 28) (xi 29) (xa 30) (upd (ma 0) 0 (nI fo)) (upd (ma 1) 0 (nI n)) g ∧ RSheet 2 (xi 30) (xi 31) (xi 32) (xa 31) (upd (ma 0) 0 (nI fo)) (upd (ma 1) 0 (nI n)) g ∧ RSheet 3 (xi 33) (xi 34) (xi 35) (xa 32) (upd (ma 0) 0 (nI fo)) (upd (ma 1) 0 (nI n)) g := ⟨Or.inr ⟨rfl, ⟨fo, hfo, rfl, upd_at _ _ _⟩, n, hn, rfl, upd_at _ _ _, fun j hj => (hg2 j hj).trans (hy2 j (by omega)).symm⟩, hSh.2.1.keep (upd_ne _ _ (by omega)) (upd_ne _ _ (by omega)) (fun j hj => hg3 _ (by omega)), hSh.2.2.1.keep (upd_ne _ _ (by omega)) (upd_ne _ _ (by omega)) (fun j hj => hg3 _ (by omega)), hSh.2.2.2.keep (upd_ne _ _ (by omega)) (upd_ne _ _ (by omega)) (fun j hj => hg3 _ (by omega))⟩
          exact ⟨hT0, hT1, hL, hH, hB, hD, hS, hSe, hF, hSh2, hW⟩
      · obtain ⟨y, hy, hy2⟩ := fill0 (xa 30)
        refine ⟨nI n, xi 1, xi 24, xi 25, xi 26, xa 29, 0, nI fo, nI n, y, xi 30, xi 31, xi 32, xa 31, xi 33, xi 34, xi 35, xa 32, mi 0, _, _, _, ?_, hm, ?_⟩
        · unfold f_X8_sheet f_X5_begin; rw [show f_X8_isUpTo (nI 1) (3 : Int32) = some 1 from e1, show f_X8_isUpTo (nI fo) (2 : Int32) = some 1 from e2, bind1_def, if_neg one_ne0, bind1_def, if_neg one_ne0, if_pos h6, if_pos h0]
          simp only [if_neg (show ¬ nI 1 = (0 : Int32) by decide), if_pos (show nI 1 = (1 : Int32) from rfl)]
          rw [hy]; rfl
        · have hSh2 : RSheet 0 (xi 24) (xi 25) (xi 26) (xa 29) (upd (ma 0) 1 (nI fo)) (upd (ma 1) 1 (nI n)) g ∧ RSheet 1 0 (nI fo) (nI n) y (upd (ma 0) 1 (nI fo)) (upd (ma 1) 1 (nI n)) g ∧ RSheet 2 (xi 30) (xi 31) (xi 32) (xa 31) (upd (ma 0) 1 (nI fo)) (upd (ma 1) 1 (nI n)) g ∧ RSheet 3 (xi 33) (xi 34) (xi 35) (xa 32) (upd (ma 0) 1 (nI fo)) (upd (ma 1) 1 (nI n)) g := ⟨hSh.1.keep (upd_ne _ _ (by omega)) (upd_ne _ _ (by omega)) (fun j hj => hg3 _ (by omega)), Or.inr ⟨rfl, ⟨fo, hfo, rfl, upd_at _ _ _⟩, n, hn, rfl, upd_at _ _ _, fun j hj => (hg2 j hj).trans (hy2 j (by omega)).symm⟩, hSh.2.2.1.keep (upd_ne _ _ (by omega)) (upd_ne _ _ (by omega)) (fun j hj => hg3 _ (by omega)), hSh.2.2.2.keep (upd_ne _ _ (by omega)) (upd_ne _ _ (by omega)) (fun j hj => hg3 _ (by omega))⟩
          exact ⟨hT0, hT1, hL, hH, hB, hD, hS, hSe, hF, hSh2, hW⟩
      · obtain ⟨y, hy, hy2⟩ := fill0 (xa 31)
        refine ⟨nI n, xi 1, xi 24, xi 25, xi 26, xa 29, xi 27, xi 28, xi 29, xa 30, 0, nI fo, nI n, y, xi 33, xi 34, xi 35, xa 32, mi 0, _, _, _, ?_, hm, ?_⟩
        · unfold f_X8_sheet f_X5_begin; rw [show f_X8_isUpTo (nI 2) (3 : Int32) = some 1 from e1, show f_X8_isUpTo (nI fo) (2 : Int32) = some 1 from e2, bind1_def, if_neg one_ne0, bind1_def, if_neg one_ne0, if_pos h6, if_pos h0]
          simp only [if_neg (show ¬ nI 2 = (0 : Int32) by decide), if_neg (show ¬ nI 2 = (1 : Int32) by decide), if_pos (show nI 2 = (2 : Int32) from rfl)]
          rw [hy]; rfl
        · have hSh2 : RSheet 0 (xi 24) (xi 25) (xi 26) (xa 29) (upd (ma 0) 2 (nI fo)) (upd (ma 1) 2 (nI n)) g ∧ RSheet 1 (xi 27) (xi 28) (xi 29) (xa 30) (upd (ma 0) 2 (nI fo)) (upd (ma 1) 2 (nI n)) g ∧ RSheet 2 0 (nI fo) (nI n) y (upd (ma 0) 2 (nI fo)) (upd (ma 1) 2 (nI n)) g ∧ RSheet 3 (xi 33) (xi 34) (xi 35) (xa 32) (upd (ma 0) 2 (nI fo)) (upd (ma 1) 2 (nI n)) g := ⟨hSh.1.keep (upd_ne _ _ (by omega)) (upd_ne _ _ (by omega)) (fun j hj => hg3 _ (by omega)), hSh.2.1.keep (upd_ne _ _ (by omega)) (upd_ne _ _ (by omega)) (fun j hj => hg3 _ (by omega)), Or.inr ⟨rfl, ⟨fo, hfo, rfl, upd_at _ _ _⟩, n, hn, rfl, upd_at _ _ _, fun j hj => (hg2 j hj).trans (hy2 j (by omega)).symm⟩, hSh.2.2.2.keep (upd_ne _ _ (by omega)) (upd_ne _ _ (by omega)) (fun j hj => hg3 _ (by omega))⟩
          exact ⟨hT0, hT1, hL, hH, hB, hD, hS, hSe, hF, hSh2, hW⟩
      · obtain ⟨y, hy, hy2⟩ := fill0 (xa 32)
        refine ⟨nI n, xi 1, xi 24, xi 25, xi 26, xa 29, xi 27, xi 28, xi 29, xa 30, xi 30, xi 31, xi 32, xa 31, 0, nI fo, nI n, y, mi 0, _, _, _, ?_, hm, ?_⟩
        · unfold f_X8_sheet f_X5_begin; rw [show f_X8_isUpTo (nI 3) (3 : Int32) = some 1 from e1, show f_X8_isUpTo (nI fo) (2 : Int32) = some 1 from e2, bind1_def, if_neg one_ne0, bind1_def, if_neg one_ne0, if_pos h6, if_pos h0]
          simp only [if_neg (show ¬ nI 3 = (0 : Int32) by decide), if_neg (show ¬ nI 3 = (1 : Int32) by decide), if_neg (show ¬ nI 3 = (2 : Int32) by decide), if_pos (show nI 3 = (3 : Int32) from rfl)]
          rw [hy]; rfl
        · have hSh2 : RSheet 0 (xi 24) (xi 25) (xi 26) (xa 29) (upd (ma 0) 3 (nI fo)) (upd (ma 1) 3 (nI n)) g ∧ RSheet 1 (xi 27) (xi 28) (xi 29) (xa 30) (upd (ma 0) 3 (nI fo)) (upd (ma 1) 3 (nI n)) g ∧ RSheet 2 (xi 30) (xi 31) (xi 32) (xa 31) (upd (ma 0) 3 (nI fo)) (upd (ma 1) 3 (nI n)) g ∧ RSheet 3 0 (nI fo) (nI n) y (upd (ma 0) 3 (nI fo)) (upd (ma 1) 3 (nI n)) g := ⟨hSh.1.keep (upd_ne _ _ (by omega)) (upd_ne _ _ (by omega)) (fun j hj => hg3 _ (by omega)), hSh.2.1.keep (upd_ne _ _ (by omega)) (upd_ne _ _ (by omega)) (fun j hj => hg3 _ (by omega)), hSh.2.2.1.keep (upd_ne _ _ (by omega)) (upd_ne _ _ (by omega)) (fun j hj => hg3 _ (by omega)), Or.inr ⟨rfl, ⟨fo, hfo, rfl, upd_at _ _ _⟩, n, hn, rfl, upd_at _ _ _, fun j hj => (hg2 j hj).trans (hy2 j (by omega)).symm⟩⟩
          exact ⟨hT0, hT1, hL, hH, hB, hD, hS, hSe, hF, hSh2, hW⟩
    · refine ⟨-15, 5, xi 24, xi 25, xi 26, xa 29, xi 27, xi 28, xi 29, xa 30, xi 30, xi 31, xi 32, xa 31, xi 33, xi 34, xi 35, xa 32, 5, ma 0, ma 1, ma 2, ?_, ?_, ?_⟩
      · unfold f_X8_sheet; rw [show f_X8_isUpTo (nI k) (3 : Int32) = some 1 from e1, show f_X8_isUpTo (nI fo) (2 : Int32) = some 1 from e2, bind1_def, if_neg one_ne0, bind1_def, if_neg one_ne0, if_pos h6, if_neg h0]; rfl
      · unfold f_X9_sheet; rw [isSheet_eq, show f_X8_isUpTo (nI k) (3 : Int32) = some 1 from e1, in2_eq, show f_X8_isUpTo (nI fo) (2 : Int32) = some 1 from e2, bind1_def, if_neg one_ne0, bind1_def, if_neg one_ne0, if_pos h6, if_neg h0]; rfl
      · have hSh2 : RSheets xi xa (ma 0) (ma 1) (ma 2) := hSh
        exact ⟨hT0, hT1, hL, hH, hB, hD, hS, hSe, rfl, hSh2, hW⟩
  · refine ⟨-2, xi 1, xi 24, xi 25, xi 26, xa 29, xi 27, xi 28, xi 29, xa 30, xi 30, xi 31, xi 32, xa 31, xi 33, xi 34, xi 35, xa 32, mi 0, ma 0, ma 1, ma 2, ?_, ?_, by simpa only [up_self] using h⟩
    · unfold f_X8_sheet; rw [show f_X8_isUpTo (nI k) (3 : Int32) = some 1 from e1, show f_X8_isUpTo (nI fo) (2 : Int32) = some 1 from e2, bind1_def, if_neg one_ne0, bind1_def, if_neg one_ne0, if_neg h6]
    · unfold f_X9_sheet; rw [isSheet_eq, show f_X8_isUpTo (nI k) (3 : Int32) = some 1 from e1, in2_eq, show f_X8_isUpTo (nI fo) (2 : Int32) = some 1 from e2, bind1_def, if_neg one_ne0, bind1_def, if_neg one_ne0, if_neg h6]
