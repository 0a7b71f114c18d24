variable {C W R N nb nd ns a f : Nat} {kinds rowAt colAt ways beside places dues bn bt dn dt sn sh sr mc mh ms mb md mg : Nat → Int32}
/-! neighbours, counted by the reference -/
def fd (o : Option Nat) (L : List Nat) : Int32 := match o with
  | none => -1
  | some i => if i < L.length then nI (L.getD i 0) else -1
def ox (o : Option Nat) : Int32 := match o with
  | none => -1
  | some i => nI i
def OOK (o : Option Nat) : Prop := ∀ i, o = some i → i < 1000
theorem fd_put {o : Option Nat} (ho : OOK o) (L : List Nat) (hL : L.length < 100) (t : Nat) : (if nI L.length = ox o then nI t else fd o L) = fd o (L ++ [t]) := by
  cases o with
  | none =>
    rw [if_neg (show ¬ nI L.length = ox none from nI_neg1 (by omega))]; rfl
  | some i =>
    have hi := ho i rfl
    show (if nI L.length = nI i then nI t else if i < L.length then nI (L.getD i 0) else -1) = (if i < (L ++ [t]).length then nI ((L ++ [t]).getD i 0) else -1)
    rw [List.length_append, List.length_singleton]
    by_cases h : L.length = i
    · rw [if_pos (by rw [h]), if_pos (by omega), ← h, List.getD_eq_getElem?_getD, List.getElem?_append_right (Nat.le_refl _), Nat.sub_self]; rfl
    · rw [if_neg (by rw [nI_eq_i (by omega) (by omega)]; exact h)]
      by_cases h2 : i < L.length
      · rw [if_pos h2, if_pos (by omega), List.getD_eq_getElem?_getD, List.getD_eq_getElem?_getD, List.getElem?_append_left h2]
      · rw [if_neg h2, if_neg (by omega)]
theorem besides_step {o : Option Nat} (ho : OOK o) (mc : Nat → Int32) (x1 : Int32) {k : Nat} (hk : k < 4) (L A : List Nat) (hL : L.length < 100) (hA : A = [] ∨ ∃ t, t < 36 ∧ A = [t]) (hbe : f_X9_beside (nI C) (nI W) mc x1 (nI k) = some (oneI A)) :
    f_X9_besides_L8 (nI C) (nI W) mc x1 (ox o) (nI L.length) (fd o L) (nI k) = some (.inl (nI (L ++ A).length, fd o (L ++ A), nI (k + 1))) := by
  unfold f_X9_besides_L8 f_X9_besides_b39L8 f_X9_besides_b41L8 f_X9_besides_b55L8
  rw [if_neg (by rw [show (4 : Int32) = nI 4 from rfl, nI_le_i (by omega) (by omega)]; omega), hbe, bind1_def, show nI k + 1 = nI (k + 1) from nI_1 _]
  rcases hA with rfl | ⟨t, ht, rfl⟩
  · rw [show oneI [] = -1 from rfl, if_pos rfl, if_pos rfl, letv_def, i_add0, List.append_nil]
  · have hn : ¬ nI t = -1 := nI_neg1 (by omega)
    rw [show oneI [t] = nI t from rfl, if_neg hn, if_neg hn, letv_def, ← fd_put ho L hL t, List.length_append, List.length_singleton, show nI L.length + 1 = nI (L.length + 1) from nI_1 _]
    by_cases h : nI L.length = ox o
    · rw [if_pos h, if_pos h]
    · rw [if_neg h, if_neg h, if_neg hn, letv_def]
theorem one_list2 {p : Prop} [Decidable p] {u : Nat} (h : p → u < 36) : (if p then [u] else []) = [] ∨ ∃ t, t < 36 ∧ (if p then [u] else []) = [t] := one_list h
theorem besidesM (hG : Grid C W R) (mc : Nat → Int32) {c : Nat} (hc : c < C) {o : Option Nat} (ho : OOK o) : f_X9_besides (nI C) (nI W) mc (nI c) (ox o) = some (match o with | none => nI (nbs W C mc c).length | some _ => fd o (nbs W C mc c)) := by
  have h36 := hG.c36
  obtain ⟨g0, g1, g2, g3⟩ := beside_all (R := R) mc hG.1 hG.2.2.1 h36 hc
  obtain ⟨k1, k2, k3⟩ := cell_next (W := W) (R := R) (c := c) (by have := hG.2.2.1; omega)
  have hC := hG.2.2.1
  have l0 := len_one (a := c % W + 1 < W ∧ ¬ mc (c + 1) = 1) (c + 1)
  have l1 := len_one (a := c + W < C ∧ ¬ mc (c + W) = 1) (c + W)
  have l2 := len_one (a := W ≤ c ∧ ¬ mc (c - W) = 1) (c - W)
  have i0 := one_list (a := c % W + 1 < W ∧ ¬ mc (c + 1) = 1) (u := c + 1) (fun q => by have := q.1; omega)
  have i1 := one_list (a := c + W < C ∧ ¬ mc (c + W) = 1) (u := c + W) (fun q => by have := q.1; omega)
  have i2 := one_list (a := W ≤ c ∧ ¬ mc (c - W) = 1) (u := c - W) (fun q => by have := q.1; omega)
  have i3 := one_list (a := 0 < c % W ∧ ¬ mc (c - 1) = 1) (u := c - 1) (fun q => by have := q.1; omega)
  have e : loopF (fun q : Int32 × Int32 × Int32 => f_X9_besides_L8 (nI C) (nI W) mc (nI c) (ox o) q.1 q.2.1 q.2.2) FU (0, -1, 0) = some (nI (nbs W C mc c).length, fd o (nbs W C mc c)) := by
    unfold nbs
    generalize (if c % W + 1 < W ∧ ¬ mc (c + 1) = 1 then [c + 1] else []) = A0 at *
    generalize (if c + W < C ∧ ¬ mc (c + W) = 1 then [c + W] else []) = A1 at *
    generalize (if W ≤ c ∧ ¬ mc (c - W) = 1 then [c - W] else []) = A2 at *
    generalize (if 0 < c % W ∧ ¬ mc (c - 1) = 1 then [c - 1] else []) = A3 at *
    have z : (0, -1, 0) = ((nI ([] : List Nat).length, fd o [], nI 0) : Int32 × Int32 × Int32) := by
      cases o with
      | none => rfl
      | some i => rfl
    rw [z]
    show loopF _ (4092 + 1 + 1 + 1 + 1) _ = _
    rw [loopF_go (q' := (nI ([] ++ A0).length, fd o ([] ++ A0), nI 1)) (besides_step ho mc (nI c) (k := 0) (by omega) [] A0 (by simp) i0 g0),
      loopF_go (q' := (nI (([] ++ A0) ++ A1).length, fd o (([] ++ A0) ++ A1), nI 2)) (besides_step ho mc (nI c) (k := 1) (by omega) ([] ++ A0) A1 (by rw [List.nil_append]; omega) i1 g1),
      loopF_go (q' := (nI ((([] ++ A0) ++ A1) ++ A2).length, fd o ((([] ++ A0) ++ A1) ++ A2), nI 3)) (besides_step ho mc (nI c) (k := 2) (by omega) (([] ++ A0) ++ A1) A2 (by rw [List.nil_append, List.length_append]; omega) i2 g2),
      loopF_go (q' := (nI (((([] ++ A0) ++ A1) ++ A2) ++ A3).length, fd o (((([] ++ A0) ++ A1) ++ A2) ++ A3), nI 4)) (besides_step ho mc (nI c) (k := 3) (by omega) ((([] ++ A0) ++ A1) ++ A2) A3 (by rw [List.nil_append, List.length_append, List.length_append]; omega) i3 g3), List.nil_append]
    show loopF _ (4091 + 1) _ = _
    refine loopF_end ?_
    dsimp only
    unfold f_X9_besides_L8
    rw [if_pos (by decide)]
  unfold f_X9_besides
  rw [e, bind2_def]
  cases o with
  | none => rw [if_pos (show ox none = -1 from rfl)]
  | some i => rw [if_neg (show ¬ ox (some i) = -1 from nI_neg1 (by have := ho i rfl; omega))]
/-! roaming -/
def rmStep (nb : Nat → List Nat) (q : Nat × Int32 × Nat) : Nat × Int32 × Nat :=
  if nb q.1 = [] then q else ((nb q.1).getD (hiN ((1103515245 : Int32) * q.2.1 + 12345) % (nb q.1).length) 0, (1103515245 : Int32) * q.2.1 + 12345, q.2.2 ||| 2 ^ (nb q.1).getD (hiN ((1103515245 : Int32) * q.2.1 + 12345) % (nb q.1).length) 0)
def rmS (nb : Nat → List Nat) (h0 : Nat) (seed : Int32) : Nat → Nat × Int32 × Nat
  | 0 => (h0, seed, 2 ^ h0)
  | k + 1 => rmStep nb (rmS nb h0 seed k)
theorem rm_ok (hG : Grid C W R) {h0 : Nat} (hh : h0 < C) (seed : Int32) (k : Nat) : (rmS (nbs W C kinds) h0 seed k).1 < C ∧ (rmS (nbs W C kinds) h0 seed k).2.2 < 2 ^ 36 ∧ (rmS (nbs W C kinds) h0 seed k).2.2 ||| 2 ^ (rmS (nbs W C kinds) h0 seed k).1 = (rmS (nbs W C kinds) h0 seed k).2.2 := by
  have h36 := hG.c36
  induction k with
  | zero => exact ⟨hh, Nat.pow_lt_pow_right (by decide) (by omega), Nat.or_self _⟩
  | succ k ih =>
    show (rmStep (nbs W C kinds) (rmS (nbs W C kinds) h0 seed k)).1 < C ∧ (rmStep (nbs W C kinds) (rmS (nbs W C kinds) h0 seed k)).2.2 < 2 ^ 36 ∧ (rmStep (nbs W C kinds) (rmS (nbs W C kinds) h0 seed k)).2.2 ||| 2 ^ (rmStep (nbs W C kinds) (rmS (nbs W C kinds) h0 seed k)).1 = (rmStep (nbs W C kinds) (rmS (nbs W C kinds) h0 seed k)).2.2
    generalize rmS (nbs W C kinds) h0 seed k = q at ih ⊢
    unfold rmStep
    by_cases h : nbs W C kinds q.1 = []
    · rw [if_pos h]; exact ih
    · rw [if_neg h]
      dsimp only
      have hl : 0 < (nbs W C kinds q.1).length := List.length_pos_iff.mpr h
      have hm := getD_mem (L := nbs W C kinds q.1) (k := hiN ((1103515245 : Int32) * q.2.1 + 12345) % (nbs W C kinds q.1).length) (Nat.mod_lt _ hl)
      have hlt := nbs_lt hG.2.2.1 ih.1 hm
      refine ⟨hlt, Nat.or_lt_two_pow ih.2.1 (Nat.pow_lt_pow_right (by decide) (by omega)), ?_⟩
      rw [Nat.or_assoc, Nat.or_self]
def roamA (W R C : Nat) (kinds : Nat → Int32) (a n : Nat) (seed w : Int32) : Int32 := match firstF W R kinds a with
  | [] => if w = 0 then -1 else 0
  | h :: _ => if w = 0 then nI (rmS (nbs W C kinds) h seed n).1 else nI (popF 40 (rmS (nbs W C kinds) h seed n).2.2)
theorem roam_x (hX : Ctx C W R N nb nd a f kinds rowAt colAt ways beside places dues bn bt dn dt) {n w : Nat} (seed : Int32) (hn : n ≤ 60) (hw : w ≤ 1) : f_X8_roam (nI W) (nI R) kinds ways beside (nI a) seed (nI n) (nI w) = some (roamA W R C kinds a n seed (nI w)) := by
  have h36 := hX.c36
  have hG := hX.grid
  unfold f_X8_roam roamA
  rw [show f_X8_isUpTo (nI n) (60 : Int32) = some 1 from upTo_yes (M := 60) hn (by omega), bind1_def, if_neg one_ne0, show f_X8_isUpTo (nI w) (1 : Int32) = some 1 from upTo_yes (M := 1) hw (by omega), bind1_def, if_neg one_ne0]
  rcases firstCell_eq (kinds := kinds) (a := a) hG.2.2.1 h36 hG.2.1 hG.1 hG.2.2.2 hX.2.2.2.2.2.1 with ⟨e1, e2⟩ | ⟨h0, hh, e1, e2⟩
  · rw [e1, e2, bind1_def, if_pos rfl]
    dsimp only
    by_cases h : nI w = 0
    · rw [if_pos h, if_pos h]
    · rw [if_neg h, if_neg h]
  · rw [e1, e2, bind1_def, if_neg (nI_neg1 (by omega)), letv_def, bit36 ⟨h0, by omega⟩]
    dsimp only
    have e : loopF (fun q : Int32 × Int32 × Int64 × Int32 => f_X8_roam_L57 ways beside (nI n) q.1 q.2.1 q.2.2.1 q.2.2.2) FU (nI h0, seed, lN (2 ^ h0), 0) = some (nI (rmS (nbs W C kinds) h0 seed n).1, lN (rmS (nbs W C kinds) h0 seed n).2.2) := by
      refine loop_for (fun k => (nI (rmS (nbs W C kinds) h0 seed k).1, (rmS (nbs W C kinds) h0 seed k).2.1, lN (rmS (nbs W C kinds) h0 seed k).2.2, nI k)) n (fun k hk => ?_) ?_ (by omega)
      · dsimp only
        obtain ⟨r1, r2, r3⟩ := rm_ok (kinds := kinds) hG hh seed k
        have es : rmS (nbs W C kinds) h0 seed (k + 1) = rmStep (nbs W C kinds) (rmS (nbs W C kinds) h0 seed k) := rfl
        rw [es]
        generalize rmS (nbs W C kinds) h0 seed k = q at r1 r2 r3 ⊢
        obtain ⟨-, -, -, hway⟩ := hX.1.2.2.2.2 q.1 r1
        have hl4 := nbs_len W C kinds q.1
        unfold f_X8_roam_L57 f_X8_roam_b124L57 rmStep
        rw [if_neg (by rw [nI_le_i (by omega) (by omega)]; omega), gd_t (inb_n (by omega) (by omega)), letv_def, tnN (by omega), hway.1, show nI k + 1 = nI (k + 1) from nI_1 _]
        by_cases h : nbs W C kinds q.1 = []
        · rw [if_pos h, if_pos (by rw [h]; decide)]
        · have hl : 0 < (nbs W C kinds q.1).length := List.length_pos_iff.mpr h
          obtain ⟨v1, v2⟩ := hi_eq ((1103515245 : Int32) * q.2.1 + 12345)
          have hidx := Nat.mod_lt (hiN ((1103515245 : Int32) * q.2.1 + 12345)) hl
          have hlt := nbs_lt hG.2.2.1 r1 (getD_mem hidx)
          rw [if_neg h, if_neg (nI_nle hl (by omega)), letv_def, gd_t (nz_n hl (by omega)), v1, pk_rem (by omega) hl (by omega), mul4, gd_t (inb_n (by omega) (by omega)), letv_def, tnN (by omega), hway.2 _ hidx, letv_def, bit36 ⟨_, by omega⟩, lN_or]
      · dsimp only
        unfold f_X8_roam_L57
        rw [if_pos (by rw [nI_le_i (by omega) (by omega)]; omega)]
    rw [e, bind2_def]
    by_cases h : nI w = 0
    · rw [if_pos h, if_pos h]
    · rw [if_neg h, if_neg h, count64 (rm_ok hG hh seed n).2.1, bind1_def]
theorem roamM (hX : Ctx C W R N nb nd a f kinds rowAt colAt ways beside places dues bn bt dn dt) (hmc : ∀ c, c < C → mc c = kinds c) (hs0 : ms 0 = nI a) {n : Nat} (seed w dr : Int32) (hn : n ≤ 60) : ∃ d, f_X9_roamOf (nI C) (nI W) dr mc ms seed (nI n) w = some (roamA W R C kinds a n seed w, d) := by
  have h36 := hX.c36
  have hG := hX.grid
  have ha := hX.2.2.2.2.2.1
  have hnb : ∀ c, c < C → nbs W C mc c = nbs W C kinds c := fun c hc => nbs_congr hG.2.2.1 hc (fun d hd => by rw [hmc d hd])
  unfold f_X9_roamOf roamA f_X9_roamOf_b33
  rw [letv_def, tn_0, hs0, show nI a * nI W = nI (a * W) from pk_mul a W, isCell_eq]
  have none : firstF W R kinds a = [] → ∃ d, (if w = 0 then (some ((-1 : Int32), dr)) else (some ((0 : Int32), dr))) = some (match firstF W R kinds a with
      | [] => if w = 0 then -1 else 0
      | h :: _ => if w = 0 then nI (rmS (nbs W C kinds) h seed n).1 else nI (popF 40 (rmS (nbs W C kinds) h seed n).2.2), d) := by
    intro e
    rw [e]
    refine ⟨dr, ?_⟩
    dsimp only
    by_cases h : w = 0
    · rw [if_pos h, if_pos h]
    · rw [if_neg h, if_neg h]
  have hW30 : a * W ≤ 5 * 6 := Nat.mul_le_mul ha hG.1
  rcases isHouse_cases (nI (a * W)) (N := C) (by omega) with ⟨e1, q⟩ | ⟨e1, k, hk, q⟩
  · rw [e1, bind1_def, if_pos rfl]
    refine none ?_
    unfold firstF
    rw [if_neg (fun z => q ⟨_, first_lt hG.2.2.1 hG.2.2.2 z.1, rfl⟩)]
  · rw [nI_eq_i (by omega) (by omega)] at q
    subst q
    have haR : a < R := by
      have hC := hG.2.2.1
      rw [hC] at hk
      exact Nat.lt_of_mul_lt_mul_right hk
    rw [e1, bind1_def, if_neg one_ne0, gd_t (inb_n (by omega) (by omega)), tnN (by omega), hmc _ hk]
    by_cases hwall : kinds (a * W) = 1
    · rw [if_pos hwall]
      refine none ?_
      unfold firstF
      rw [if_neg (fun z => z.2 hwall)]
    · have hF : firstF W R kinds a = [a * W] := by unfold firstF; rw [if_pos ⟨haR, hwall⟩]
      rw [if_neg hwall, hF, letv_def, bit36 ⟨a * W, by omega⟩]
      dsimp only
      have e : loopF (fun q : Int32 × Int64 × Int32 × Int32 => f_X9_roamOf_L57 (nI C) (nI W) mc (nI n) q.1 q.2.1 q.2.2.1 q.2.2.2) FU (nI (a * W), lN (2 ^ (a * W)), 0, seed) = some (nI (rmS (nbs W C kinds) (a * W) seed n).1, lN (rmS (nbs W C kinds) (a * W) seed n).2.2, (rmS (nbs W C kinds) (a * W) seed n).2.1) := by
        refine loop_for (fun k => (nI (rmS (nbs W C kinds) (a * W) seed k).1, lN (rmS (nbs W C kinds) (a * W) seed k).2.2, nI k, (rmS (nbs W C kinds) (a * W) seed k).2.1)) n (fun k hkn => ?_) ?_ (by omega)
        · dsimp only
          obtain ⟨r1, r2, r3⟩ := rm_ok (kinds := kinds) hG hk seed k
          have es : rmS (nbs W C kinds) (a * W) seed (k + 1) = rmStep (nbs W C kinds) (rmS (nbs W C kinds) (a * W) seed k) := rfl
          rw [es]
          generalize rmS (nbs W C kinds) (a * W) seed k = q at r1 r2 r3 ⊢
          have hl4 := nbs_len W C kinds q.1
          have b1 := besidesM (R := R) hG mc r1 (o := .none) (fun i hi => by simp at hi)
          rw [show ox .none = -1 from rfl] at b1
          dsimp only at b1
          rw [hnb q.1 r1] at b1
          unfold f_X9_roamOf_L57 f_X9_roamOf_b94L57 rmStep
          rw [if_neg (by rw [nI_le_i (by omega) (by omega)]; omega), b1, bind1_def, show nI k + 1 = nI (k + 1) from nI_1 _]
          by_cases h : nbs W C kinds q.1 = []
          · rw [if_pos h, if_pos (by rw [h]; decide), letv_def, bit36 ⟨q.1, by omega⟩, lN_or]
            dsimp only
            rw [r3]
          · have hl : 0 < (nbs W C kinds q.1).length := List.length_pos_iff.mpr h
            obtain ⟨v1, v2⟩ := hi_eq ((1103515245 : Int32) * q.2.1 + 12345)
            have hidx := Nat.mod_lt (hiN ((1103515245 : Int32) * q.2.1 + 12345)) hl
            have hlt := nbs_lt hG.2.2.1 r1 (getD_mem hidx)
            have b2 := besidesM (R := R) hG mc r1 (o := .some (hiN ((1103515245 : Int32) * q.2.1 + 12345) % (nbs W C kinds q.1).length)) (fun i hi => by have := Option.some.inj hi; omega)
            rw [show ox (.some (hiN ((1103515245 : Int32) * q.2.1 + 12345) % (nbs W C kinds q.1).length)) = nI (hiN ((1103515245 : Int32) * q.2.1 + 12345) % (nbs W C kinds q.1).length) from rfl] at b2
            dsimp only at b2
            rw [hnb q.1 r1] at b2
            have e3 : fd (.some (hiN ((1103515245 : Int32) * q.2.1 + 12345) % (nbs W C kinds q.1).length)) (nbs W C kinds q.1) = nI ((nbs W C kinds q.1).getD (hiN ((1103515245 : Int32) * q.2.1 + 12345) % (nbs W C kinds q.1).length) 0) := by
              show (if _ < _ then _ else _) = _
              rw [if_pos hidx]
            rw [e3] at b2
            unfold f_X9_lot
            rw [if_neg h, if_neg (nI_ne0 hl (by omega)), letv_def, gd_t (nz_n hl (by omega)), v1, pk_rem (by omega) hl (by omega), bind2_def, b2, bind1_def, letv_def, bit36 ⟨_, by omega⟩, lN_or]
        · dsimp only
          unfold f_X9_roamOf_L57
          rw [if_pos (by rw [nI_le_i (by omega) (by omega)]; omega)]
      rw [e, bind3_def, count_loop (rm_ok hG hk seed n).2.1, bind1_def]
      refine ⟨(rmS (nbs W C kinds) (a * W) seed n).2.1, ?_⟩
      by_cases h : w = 0
      · rw [if_pos h, if_pos h]
      · rw [if_neg h, if_neg h]
theorem in60 (v : Int32) : f_X9_in v.toInt64 (0 : Int64) (60 : Int64) = f_X8_isUpTo v 60 := by rw [show (60 : Int64) = (60 : Int32).toInt64 from by decide, in_up]
theorem sim_roam {xi : Nat → Int32} {xa : Nat → Nat → Int32} {xl : Nat → Int64} {xm : Nat → Nat → Int64} {mi : Nat → Int32} {ma : Nat → Nat → Int32} (h : Rel xi xa xl xm mi ma) (z1 z2 z3 : Int32) : ∃ (r : Int32) (d1 : Int32) (d2 : Int32) (d3 : Int32) (d4 : Int32) (d5 : Nat → Int32) (d6 : Nat → Int32) (d7 : Nat → Int32) (d8 : Nat → Int32) (d9 : Nat → Int32) , f_X8_roam (xi 6) (xi 7) (xa 2) (xa 5) (xa 6) (xi 13) z1 z2 z3 = some r ∧ f_X9_roam (mi 1) (mi 2) (mi 3) (mi 4) (mi 5) (mi 6) (mi 8) (ma 4) (ma 5) (ma 6) (ma 7) (ma 8) (ma 9) (ma 10) (ma 11) (ma 12) (ma 13) z1 z2 z3 = some (r, d1, d2, d3, d4, d5, d6, d7, d8, d9) ∧ Rel xi xa xl xm (va_up (va_up (va_up (va_up mi 1 d1) 2 d2) 3 d3) 8 d4) (va_up (va_up (va_up (va_up (va_up ma 6 d5) 7 d6) 11 d7) 12 d8) 13 d9) := by
  obtain ⟨C, W, R, N, nb, nd, ns, a, f, ⟨⟨c1, c2, c3⟩, n1, ⟨b1, d1, s1⟩, a1, f1, p1, p2⟩, ⟨b2, d2, p3, s2⟩, hX, hSO, ⟨st, fr, tr, go, td, li, hT, hC, hR⟩, mc, mh, p, s, l, hF, hM, hN⟩ := h.all
  rw [c2, c3, a1, b2, d2, p3]
  rcases upTo_cases z2 (M := 60) (by omega) with ⟨e1, -⟩ | ⟨e1, n, hn, rfl⟩
  · exact ⟨-2, nI C, nI W, nI N, mi 8, mc, mh, p, s, l, by unfold f_X8_roam; rw [show f_X8_isUpTo z2 (60 : Int32) = some 0 from e1]; rfl, by unfold f_X9_roam; rw [hF, bind8_def, in60, show f_X8_isUpTo z2 (60 : Int32) = some 0 from e1]; rfl, h⟩
  rcases upTo_cases z3 (M := 1) (by omega) with ⟨e2, -⟩ | ⟨e2, w, hw, rfl⟩
  · exact ⟨-2, nI C, nI W, nI N, mi 8, mc, mh, p, s, l, by unfold f_X8_roam; rw [show f_X8_isUpTo (nI n) (60 : Int32) = some 1 from e1, show f_X8_isUpTo z3 (1 : Int32) = some 0 from e2]; rfl, by unfold f_X9_roam; rw [hF, bind8_def, in60, show f_X8_isUpTo (nI n) (60 : Int32) = some 1 from e1, isTwo_eq, show f_X8_isUpTo z3 (1 : Int32) = some 0 from e2]; rfl, h⟩
  obtain ⟨d, hm⟩ := roamM hX hM.1 hM.2.2.1 z1 (nI w) (mi 8) hn
  refine ⟨_, nI C, nI W, nI N, d, mc, mh, p, s, l, roam_x hX z1 hn hw, ?_, h⟩
  unfold f_X9_roam
  rw [hF, bind8_def, in60, show f_X8_isUpTo (nI n) (60 : Int32) = some 1 from e1, bind1_def, if_neg one_ne0, isTwo_eq, show f_X8_isUpTo (nI w) (1 : Int32) = some 1 from e2, bind1_def, if_neg one_ne0, hm, bind2_def]
