theorem take_more {L : List Nat} {k : Nat} (h : k < L.length) : L.take (k + 1) = L.take k ++ [L.getD k 0] := by
  rw [List.take_succ_eq_append_getElem h]
  congr 1
  rw [List.getD_eq_getElem?_getD, List.getElem?_eq_getElem h]; rfl
theorem getD_mem {L : List Nat} {k : Nat} (h : k < L.length) : L.getD k 0 ∈ L := by
  rw [List.getD_eq_getElem?_getD, List.getElem?_eq_getElem h]; exact List.getElem_mem h
theorem choose_b75 (ways beside st fr : Nat → Int32) (x1 fm : Int32) (x3 : Int64) (b m : Int32) (k c : Nat) (w : Nat → Int32) : f_X7_choose_b75L9 ways beside st fr x1 fm x3 b m (nI k) (nI c) (w c) = some (.inl ((sel1 w fm (b, m) c).1, (sel1 w fm (b, m) c).2, nI (k + 1))) := by
  unfold f_X7_choose_b75L9 f_X7_choose_b104L9 f_X7_choose_b96L9 f_X7_choose_b104L9 sel1
  rw [show nI k + 1 = nI (k + 1) from nI_1 k]
  by_cases h1 : nI c = fm
  · rw [if_pos h1, if_pos h1]
  · rw [if_neg h1, if_neg h1]
    by_cases h2 : b = -1
    · rw [if_pos h2, if_pos h2]
    · rw [if_neg h2, if_neg h2]
      by_cases h3 : w c ≤ m
      · rw [if_pos h3, if_pos h3]
      · rw [if_neg h3, if_neg h3]
theorem choose_eq {here : Nat} (hh : here < 36) (L : List Nat) (hL4 : L.length ≤ 4) (hLt : ∀ t ∈ L, t < 36) {ways beside : Nat → Int32} (hw : wayOK L ways beside here) (l : List Nat) (hl : ∀ d ∈ l, d < 36) (st fr : Nat → Int32) (fm : Int32) :
    f_X7_choose ways beside st fr (nI here) fm (bitsOf l) = some (sel (wv st fr l) fm L) := by
  have X : ∃ x, loopF (fun q : Int32 × Int32 × Int32 => f_X7_choose_L9 ways beside st fr (nI here) fm (bitsOf l) q.1 q.2.1 q.2.2) FU (-1, 0, 0) = some x ∧ x = (selB (wv st fr l) fm L).1 := by
    refine loopF_run (fun (m : Nat) (q : Int32 × Int32 × Int32) => ∃ k : Nat, k + m = L.length ∧ q.2.2 = nI k ∧ (q.1, q.2.1) = (L.take k).foldl (sel1 (wv st fr l) fm) (-1, 0)) (fun x : Int32 => x = (selB (wv st fr l) fm L).1) ?_ FU L.length (-1, 0, 0) ⟨0, by omega, rfl, by rw [List.take_zero, List.foldl_nil]⟩ (Nat.lt_trans (by omega) FU_big)
    rintro m ⟨b, mm, q3⟩ ⟨k, hk, e1, e2⟩
    dsimp only at e1 e2
    subst e1
    show (∃ x, f_X7_choose_L9 ways beside st fr (nI here) fm (bitsOf l) b mm (nI k) = some (.inr x) ∧ _) ∨ (∃ q' m', m' < m ∧ f_X7_choose_L9 ways beside st fr (nI here) fm (bitsOf l) b mm (nI k) = some (.inl q') ∧ _)
    unfold f_X7_choose_L9
    rw [gd_t (inb_n hh (by omega)), tnN (by omega), hw.1]
    by_cases h : L.length ≤ k
    · refine Or.inl ⟨b, by rw [if_pos (by rw [nI_le_i (by omega) (by omega)]; exact h)], ?_⟩
      rw [List.take_of_length_le h] at e2
      unfold selB
      rw [← e2]
    · right
      have hkl : k < L.length := by omega
      have hc := hLt _ (getD_mem hkl)
      have a1 : nI here * (4 : Int32) + nI k = nI (4 * here + k) := by rw [Int32.mul_comm, show (4 : Int32) * nI here = nI (4 * here) from pk_mul 4 here]; exact nI_add _ _
      refine ⟨((sel1 (wv st fr l) fm (b, mm) (L.getD k 0)).1, (sel1 (wv st fr l) fm (b, mm) (L.getD k 0)).2, nI (k + 1)), m - 1, by omega, ?_, k + 1, by omega, rfl, ?_⟩
      · rw [if_neg (by rw [nI_le_i (by omega) (by omega)]; exact h), a1, gd_t (inb_n (by omega) (by omega)), letv_def, tnN (by omega), hw.2 k hkl, gd_t (inb_n hc (by omega)), gd_t (inb_n hc (by omega)), gd_t (inb_n hc (by omega)), tnN (by omega)]
        by_cases hb : L.getD k 0 ∈ l
        · rw [if_pos ((bit_test _ hc).mpr ((bitsOf_mem l hl hc).mpr hb)), show st (L.getD k 0) = wv st fr l (L.getD k 0) from by unfold wv; rw [if_pos hb]]
          exact choose_b75 ..
        · rw [if_neg (fun q => hb ((bitsOf_mem l hl hc).mp ((bit_test _ hc).mp q))), show st (L.getD k 0) + fr (L.getD k 0) = wv st fr l (L.getD k 0) from by unfold wv; rw [if_neg hb]]
          exact choose_b75 ..
      · rw [take_more hkl, List.foldl_append, ← e2, List.foldl_cons, List.foldl_nil]
  obtain ⟨x, h1, h2⟩ := X
  unfold f_X7_choose sel
  rw [h1, bind1_def, h2]
  by_cases h : (selB (wv st fr l) fm L).1 = -1
  · rw [if_pos h, if_pos h]
  · rw [if_neg h, if_neg h]
