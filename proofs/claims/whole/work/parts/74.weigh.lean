def bowlT (pr : Nat → Bool) (bn bt : Nat → Int32) (n c i : Nat) : Bool := pr i && decide (bn i = nI n) && decide (bt i = nI c)
def dogT (dn dt : Nat → Int32) (n c i : Nat) : Bool := decide (dn i = nI n) && decide (dt i = nI c)
def prX (present : Int32) (i : Nat) : Bool := decide (((present >>> (nI i &&& 31)) &&& (1 : Int32)) = 1)
def aOf (kd : Nat → Int32) (nd : Nat) (dn dt : Nat → Int32) (n c : Nat) : Int32 := (if kd c = 2 then 2 else 0) - addIf 5 (dogT dn dt n c) nd
def bOf (kd : Nat → Int32) (pr : Nat → Bool) (nb : Nat) (bn bt : Nat → Int32) (n c : Nat) : Int32 := (if kd c = 3 then 3 else 0) + addIf 4 (bowlT pr bn bt n c) nb
def rakedK (kinds : Nat → Int32) (raked : Int32) (c : Nat) : Int32 := if nI c = raked then 2 else kinds c
theorem i_add0 (x : Int32) : x + 0 = x := Int32.add_zero x
theorem i_sub0 (x : Int32) : x - 0 = x := Int32.sub_zero x
theorem weigh_L20 {C : Nat} (hC2 : C ≤ 36) (kinds : Nat → Int32) (raked : Int32) (prev : List Nat) (hp : ∀ d ∈ prev, d < 36) (st0 fr0 : Nat → Int32) :
    ∃ z, loopF (fun q : Int32 × (Nat → Int32) × (Nat → Int32) => f_X7_weigh_L20 (nI C) kinds raked (bitsOf prev) q.1 q.2.1 q.2.2) FU (0, st0, fr0) = some z ∧ ∀ c, c < C → z.1 c = (if rakedK kinds raked c = 2 then 2 else 0) + (if c ∈ prev then 1 else 0) ∧ z.2 c = if rakedK kinds raked c = 3 then 3 else 0 := by
  refine loopF_run (fun (m : Nat) (q : Int32 × (Nat → Int32) × (Nat → Int32)) => ∃ k : Nat, k + m = C ∧ q.1 = nI k ∧ ∀ c, c < k → q.2.1 c = (if rakedK kinds raked c = 2 then 2 else 0) + (if c ∈ prev then 1 else 0) ∧ q.2.2 c = if rakedK kinds raked c = 3 then 3 else 0) (fun z : (Nat → Int32) × (Nat → Int32) => ∀ c, c < C → z.1 c = (if rakedK kinds raked c = 2 then 2 else 0) + (if c ∈ prev then 1 else 0) ∧ z.2 c = if rakedK kinds raked c = 3 then 3 else 0) ?_ FU C (0, st0, fr0) ⟨0, by omega, rfl, fun c hc => absurd hc (Nat.not_lt_zero _)⟩ (Nat.lt_trans (by omega) FU_big)
  rintro m ⟨q1, q2, q3⟩ ⟨k, hk, e1, e2⟩
  dsimp only at e1 e2
  subst e1
  show (∃ x, f_X7_weigh_L20 (nI C) kinds raked (bitsOf prev) (nI k) q2 q3 = some (.inr x) ∧ _) ∨ (∃ q' m', m' < m ∧ f_X7_weigh_L20 (nI C) kinds raked (bitsOf prev) (nI k) q2 q3 = some (.inl q') ∧ _)
  by_cases h : C ≤ k
  · refine Or.inl ⟨(q2, q3), ?_, fun c hc => e2 c (by omega)⟩
    unfold f_X7_weigh_L20
    rw [if_pos (by rw [nI_le_i (by omega) (by omega)]; exact h)]
  · right
    have X : f_X7_weigh_L20 (nI C) kinds raked (bitsOf prev) (nI k) q2 q3 = f_X7_weigh_b55L20 (nI C) kinds raked q2 q3 (bitsOf prev) (nI k) (rakedK kinds raked k) := by
      unfold f_X7_weigh_L20 rakedK
      rw [if_neg (by rw [nI_le_i (by omega) (by omega)]; exact h), gd_t (inb_n (by omega) (by omega)), tnN (by omega)]
      by_cases hr : nI k = raked
      · rw [if_pos hr, if_pos hr]
      · rw [if_neg hr, if_neg hr]
    have X2 : f_X7_weigh_b55L20 (nI C) kinds raked q2 q3 (bitsOf prev) (nI k) (rakedK kinds raked k) = f_X7_weigh_b74L20 (nI C) kinds raked q2 q3 (bitsOf prev) (nI k) (rakedK kinds raked k) (if rakedK kinds raked k = 2 then 2 else 0) (nI k) := by
      unfold f_X7_weigh_b55L20
      by_cases hr : rakedK kinds raked k = 2
      · rw [if_pos hr, if_pos hr]
      · rw [if_neg hr, if_neg hr]
    have b97 : ∀ (s : Nat → Int32), f_X7_weigh_b97L20 (nI C) kinds raked s q3 (bitsOf prev) (nI k) (rakedK kinds raked k) = some (.inl (nI (k + 1), s, upd q3 k (if rakedK kinds raked k = 3 then 3 else 0))) := by
      intro s
      unfold f_X7_weigh_b97L20 f_X7_weigh_b114L20
      rw [gd_t (inb_n (by omega) (by omega)), gd_t (inb_n (by omega) (by omega)), tnN (by omega), show nI k + 1 = nI (k + 1) from nI_1 k]
      by_cases hr : rakedK kinds raked k = 3
      · rw [if_pos hr, if_pos hr]
      · rw [if_neg hr, if_neg hr]
    have X3 : ∃ s, f_X7_weigh_b74L20 (nI C) kinds raked q2 q3 (bitsOf prev) (nI k) (rakedK kinds raked k) (if rakedK kinds raked k = 2 then 2 else 0) (nI k) = some (.inl (nI (k + 1), s, upd q3 k (if rakedK kinds raked k = 3 then 3 else 0))) ∧ s k = (if rakedK kinds raked k = 2 then 2 else 0) + (if k ∈ prev then 1 else 0) ∧ ∀ c, c ≠ k → s c = q2 c := by
      unfold f_X7_weigh_b74L20
      rw [gd_t (inb_n (by omega) (by omega)), gd_t (inb_n (by omega) (by omega)), letv_def, gd_t (inb_n (by omega) (by omega)), tnN (by omega), upd_at]
      by_cases hb : k ∈ prev
      · rw [if_pos ((bit_test _ (by omega)).mpr ((bitsOf_mem prev hp (by omega)).mpr hb)), if_pos hb, b97]
        exact ⟨_, rfl, upd_at _ _ _, fun c hc => by rw [upd_ne _ _ hc, upd_ne _ _ hc]⟩
      · rw [if_neg (fun q => hb ((bitsOf_mem prev hp (by omega)).mp ((bit_test _ (by omega)).mp q))), if_neg hb, b97]
        exact ⟨_, rfl, by rw [upd_at, i_add0], fun c hc => by rw [upd_ne _ _ hc]⟩
    obtain ⟨s, s1, s2, s3⟩ := X3
    refine ⟨_, m - 1, by omega, X.trans (X2.trans s1), k + 1, by omega, rfl, fun c hc => ?_⟩
    dsimp only
    by_cases hck : c = k
    · rw [hck, upd_at]; exact ⟨s2, rfl⟩
    · rw [upd_ne _ _ hck, s3 c hck]; exact e2 c (by omega)
theorem bowlT_no {pr : Nat → Bool} {bn bt : Nat → Int32} {n c i : Nat} (h : ¬ (pr i = true ∧ bn i = nI n ∧ bt i = nI c)) : bowlT pr bn bt n c i = false := by
  unfold bowlT
  by_cases h1 : pr i = true
  · by_cases h2 : bn i = nI n
    · have h3 : ¬ bt i = nI c := fun q => h ⟨h1, h2, q⟩
      simp [h3]
    · simp [h2]
  · simp [h1]
theorem bowlT_yes {pr : Nat → Bool} {bn bt : Nat → Int32} {n c i : Nat} (h1 : pr i = true) (h2 : bn i = nI n) (h3 : bt i = nI c) : bowlT pr bn bt n c i = true := by
  unfold bowlT
  simp [h1, h2, h3]
theorem addIf_no (v : Int32) (p : Nat → Bool) {k : Nat} (h : p k = false) : addIf v p (k + 1) = addIf v p k := by
  show addIf v p k + (if p k = true then v else 0) = _
  rw [h, if_neg Bool.false_ne_true, i_add0]
theorem addIf_yes (v : Int32) (p : Nat → Bool) {k : Nat} (h : p k = true) : addIf v p (k + 1) = addIf v p k + v := by
  show addIf v p k + (if p k = true then v else 0) = _
  rw [if_pos h]
theorem weigh_L124 {C nb n : Nat} (hC2 : C ≤ 36) (hnb : nb ≤ 8) (bn bt : Nat → Int32) (hbt : ∀ i, i < nb → ∃ t : Nat, t ≤ 35 ∧ bt i = nI t) (present : Int32) (fr0 : Nat → Int32) :
    ∃ z, loopF (fun q : Int32 × (Nat → Int32) => f_X7_weigh_L124 (nI C) (nI nb) bn bt present (nI n) q.1 q.2) FU (0, fr0) = some z ∧ ∀ c, c < C → z c = fr0 c + addIf 4 (bowlT (prX present) bn bt n c) nb := by
  refine loopF_run (fun (m : Nat) (q : Int32 × (Nat → Int32)) => ∃ k : Nat, k + m = nb ∧ q.1 = nI k ∧ ∀ c, c < C → q.2 c = fr0 c + addIf 4 (bowlT (prX present) bn bt n c) k) (fun z : Nat → Int32 => ∀ c, c < C → z c = fr0 c + addIf 4 (bowlT (prX present) bn bt n c) nb) ?_ FU nb (0, fr0) ⟨0, by omega, rfl, fun c hc => (i_add0 _).symm⟩ (Nat.lt_trans (by omega) FU_big)
  rintro m ⟨q1, q2⟩ ⟨k, hk, e1, e2⟩
  dsimp only at e1 e2
  subst e1
  show (∃ x, f_X7_weigh_L124 (nI C) (nI nb) bn bt present (nI n) (nI k) q2 = some (.inr x) ∧ _) ∨ (∃ q' m', m' < m ∧ f_X7_weigh_L124 (nI C) (nI nb) bn bt present (nI n) (nI k) q2 = some (.inl q') ∧ _)
  by_cases h : nb ≤ k
  · refine Or.inl ⟨q2, ?_, fun c hc => by rw [e2 c hc, show k = nb by omega]⟩
    unfold f_X7_weigh_L124
    rw [if_pos (by rw [nI_le_i (by omega) (by omega)]; exact h)]
  · right
    obtain ⟨t, ht, et⟩ := hbt k (by omega)
    have X : f_X7_weigh_L124 (nI C) (nI nb) bn bt present (nI n) (nI k) q2 = if ((present >>> (nI k &&& 31)) &&& (1 : Int32)) = 1 then (if bn k = nI n then (if nI C ≤ nI t then some (.inl (nI (k + 1), q2)) else some (.inl (nI (k + 1), upd q2 t (q2 t + 4)))) else some (.inl (nI (k + 1), q2))) else some (.inl (nI (k + 1), q2)) := by
      unfold f_X7_weigh_L124 f_X7_weigh_b202L124
      rw [if_neg (by rw [nI_le_i (by omega) (by omega)]; exact h), gd_t (inb_n (by omega) (by omega)), gd_t (inb_n (by omega) (by omega)), gd_t (inb_n (by omega) (by omega)), tnN (by omega), et, gd_t (inb_n (by omega) (by omega)), letv_def, gd_t (inb_n (by omega) (by omega)), tnN (by omega), show nI k + 1 = nI (k + 1) from nI_1 k]
    have same : f_X7_weigh_L124 (nI C) (nI nb) bn bt present (nI n) (nI k) q2 = some (.inl (nI (k + 1), q2)) → (∀ c, c < C → bowlT (prX present) bn bt n c k = false) → ∃ q' m', m' < m ∧ f_X7_weigh_L124 (nI C) (nI nb) bn bt present (nI n) (nI k) q2 = some (.inl q') ∧ ∃ k : Nat, k + m' = nb ∧ q'.1 = nI k ∧ ∀ c, c < C → q'.2 c = fr0 c + addIf 4 (bowlT (prX present) bn bt n c) k :=
      fun a b => ⟨_, m - 1, by omega, a, k + 1, by omega, rfl, fun c hc => by rw [addIf_no _ _ (b c hc)]; exact e2 c hc⟩
    by_cases h1 : ((present >>> (nI k &&& 31)) &&& (1 : Int32)) = 1
    · rw [if_pos h1] at X
      by_cases h2 : bn k = nI n
      · rw [if_pos h2] at X
        by_cases h3 : C ≤ t
        · rw [if_pos (by rw [nI_le_i (by omega) (by omega)]; exact h3)] at X
          refine same X fun c hc => bowlT_no fun q => ?_
          have := et.symm.trans q.2.2
          rw [nI_eq_i (by omega) (by omega)] at this
          omega
        · rw [if_neg (by rw [nI_le_i (by omega) (by omega)]; exact h3)] at X
          refine ⟨_, m - 1, by omega, X, k + 1, by omega, rfl, fun c hc => ?_⟩
          dsimp only
          by_cases hct : c = t
          · subst hct
            rw [upd_at, addIf_yes _ _ (bowlT_yes (decide_eq_true h1) h2 et), ← Int32.add_assoc, e2 c hc]
          · rw [upd_ne _ _ hct, addIf_no _ _ (bowlT_no fun q => hct (by
              have := q.2.2.symm.trans et
              rw [nI_eq_i (by omega) (by omega)] at this
              exact this)), e2 c hc]
      · rw [if_neg h2] at X
        exact same X fun c hc => bowlT_no fun q => h2 q.2.1
    · rw [if_neg h1] at X
      exact same X fun c hc => bowlT_no fun q => h1 (of_decide_eq_true q.1)
theorem dogT_no {dn dt : Nat → Int32} {n c i : Nat} (h : ¬ (dn i = nI n ∧ dt i = nI c)) : dogT dn dt n c i = false := by
  unfold dogT
  by_cases h2 : dn i = nI n
  · have h3 : ¬ dt i = nI c := fun q => h ⟨h2, q⟩
    simp [h3]
  · simp [h2]
theorem dogT_yes {dn dt : Nat → Int32} {n c i : Nat} (h2 : dn i = nI n) (h3 : dt i = nI c) : dogT dn dt n c i = true := by
  unfold dogT
  simp [h2, h3]
theorem i_sub_add (x y z : Int32) : x - (y + z) = x - y - z := by
  rw [Int32.sub_eq_add_neg, Int32.sub_eq_add_neg, Int32.sub_eq_add_neg, Int32.neg_add, Int32.sub_eq_add_neg, Int32.add_assoc]
theorem weigh_L211 {C nd n : Nat} (hC2 : C ≤ 36) (hnd : nd ≤ 8) (dn dt : Nat → Int32) (hdt : ∀ i, i < nd → ∃ t : Nat, t ≤ 35 ∧ dt i = nI t) (st0 : Nat → Int32) :
    ∃ z, loopF (fun q : Int32 × (Nat → Int32) => f_X7_weigh_L211 (nI C) (nI nd) dn dt (nI n) q.1 q.2) FU (0, st0) = some z ∧ ∀ c, c < C → z c = st0 c - addIf 5 (dogT dn dt n c) nd := by
  refine loopF_run (fun (m : Nat) (q : Int32 × (Nat → Int32)) => ∃ k : Nat, k + m = nd ∧ q.1 = nI k ∧ ∀ c, c < C → q.2 c = st0 c - addIf 5 (dogT dn dt n c) k) (fun z : Nat → Int32 => ∀ c, c < C → z c = st0 c - addIf 5 (dogT dn dt n c) nd) ?_ FU nd (0, st0) ⟨0, by omega, rfl, fun c hc => (i_sub0 _).symm⟩ (Nat.lt_trans (by omega) FU_big)
  rintro m ⟨q1, q2⟩ ⟨k, hk, e1, e2⟩
  dsimp only at e1 e2
  subst e1
  show (∃ x, f_X7_weigh_L211 (nI C) (nI nd) dn dt (nI n) (nI k) q2 = some (.inr x) ∧ _) ∨ (∃ q' m', m' < m ∧ f_X7_weigh_L211 (nI C) (nI nd) dn dt (nI n) (nI k) q2 = some (.inl q') ∧ _)
  by_cases h : nd ≤ k
  · refine Or.inl ⟨q2, ?_, fun c hc => by rw [e2 c hc, show k = nd by omega]⟩
    unfold f_X7_weigh_L211
    rw [if_pos (by rw [nI_le_i (by omega) (by omega)]; exact h)]
  · right
    obtain ⟨t, ht, et⟩ := hdt k (by omega)
    have X : f_X7_weigh_L211 (nI C) (nI nd) dn dt (nI n) (nI k) q2 = (if dn k = nI n then (if nI C ≤ nI t then some (.inl (nI (k + 1), q2)) else some (.inl (nI (k + 1), upd q2 t (q2 t - 5)))) else some (.inl (nI (k + 1), q2))) := by
      unfold f_X7_weigh_L211 f_X7_weigh_b276L211
      rw [if_neg (by rw [nI_le_i (by omega) (by omega)]; exact h), gd_t (inb_n (by omega) (by omega)), gd_t (inb_n (by omega) (by omega)), gd_t (inb_n (by omega) (by omega)), tnN (by omega), et, gd_t (inb_n (by omega) (by omega)), letv_def, gd_t (inb_n (by omega) (by omega)), tnN (by omega), show nI k + 1 = nI (k + 1) from nI_1 k]
    have same : f_X7_weigh_L211 (nI C) (nI nd) dn dt (nI n) (nI k) q2 = some (.inl (nI (k + 1), q2)) → (∀ c, c < C → dogT dn dt n c k = false) → ∃ q' m', m' < m ∧ f_X7_weigh_L211 (nI C) (nI nd) dn dt (nI n) (nI k) q2 = some (.inl q') ∧ ∃ k : Nat, k + m' = nd ∧ q'.1 = nI k ∧ ∀ c, c < C → q'.2 c = st0 c - addIf 5 (dogT dn dt n c) k :=
      fun a b => ⟨_, m - 1, by omega, a, k + 1, by omega, rfl, fun c hc => by rw [addIf_no _ _ (b c hc)]; exact e2 c hc⟩
    by_cases h2 : dn k = nI n
    · rw [if_pos h2] at X
      by_cases h3 : C ≤ t
      · rw [if_pos (by rw [nI_le_i (by omega) (by omega)]; exact h3)] at X
        refine same X fun c hc => dogT_no fun q => ?_
        have := et.symm.trans q.2
        rw [nI_eq_i (by omega) (by omega)] at this
        omega
      · rw [if_neg (by rw [nI_le_i (by omega) (by omega)]; exact h3)] at X
        refine ⟨_, m - 1, by omega, X, k + 1, by omega, rfl, fun c hc => ?_⟩
        dsimp only
        by_cases hct : c = t
        · subst hct
          rw [upd_at, addIf_yes _ _ (dogT_yes h2 et), i_sub_add, e2 c hc]
        · rw [upd_ne _ _ hct, addIf_no _ _ (dogT_no fun q => hct (by
            have := q.2.symm.trans et
            rw [nI_eq_i (by omega) (by omega)] at this
            exact this)), e2 c hc]
    · rw [if_neg h2] at X
      exact same X fun c hc => dogT_no fun q => h2 q.1
/-- marks as they lie in a row -/
def MarkOK (n : Nat) (things : Nat → Int32) : Prop := n ≤ 8 ∧ ∀ i, i < n → ∃ t : Nat, t ≤ 35 ∧ things i = nI t
theorem weigh_eq {C nb nd n : Nat} (hC2 : C ≤ 36) (hn : n < 10) (kinds bn bt dn dt : Nat → Int32) (hb : MarkOK nb bt) (hd : MarkOK nd dt) (present raked : Int32) (st0 fr0 : Nat → Int32) (trodden : Nat → Int64) (prev : List Nat) (hp : ∀ d ∈ prev, d < 36) (htr : (if n = 0 then (0 : Int64) else trodden (n - 1)) = bitsOf prev) :
    ∃ st fr, f_X7_weigh (nI C) kinds (nI nb) bn bt (nI nd) dn dt present raked st0 fr0 trodden (nI n) = some (st, fr) ∧ ∀ c, c < C → st c = stP (aOf (rakedK kinds raked) nd dn dt n) prev c ∧ fr c = bOf (rakedK kinds raked) (prX present) nb bn bt n c := by
  obtain ⟨z, z1, z2⟩ := weigh_L20 hC2 kinds raked prev hp st0 fr0
  obtain ⟨y, y1, y2⟩ := weigh_L124 (n := n) hC2 hb.1 bn bt hb.2 present z.2
  obtain ⟨x, x1, x2⟩ := weigh_L211 (n := n) hC2 hd.1 dn dt hd.2 z.1
  refine ⟨x, y, ?_, fun c hc => ⟨?_, ?_⟩⟩
  · have X : f_X7_weigh (nI C) kinds (nI nb) bn bt (nI nd) dn dt present raked st0 fr0 trodden (nI n) = f_X7_weigh_b16 (nI C) kinds (nI nb) bn bt (nI nd) dn dt present raked st0 fr0 trodden (nI n) (bitsOf prev) := by
      unfold f_X7_weigh
      by_cases h0 : n = 0
      · rw [if_pos h0] at htr
        rw [if_pos (by rw [h0]; decide), htr]
      · rw [if_neg h0] at htr
        rw [if_neg (nI_nle (by omega) (by omega)), nI_sub1 (by omega), gd_t (inb_n (by omega) (by omega)), tnN (by omega), htr]
    rw [X]
    unfold f_X7_weigh_b16
    rw [z1]
    obtain ⟨za, zb⟩ := z
    rw [bind2_def, y1, bind1_def, x1, bind1_def]
  · rw [x2 c hc, (z2 c hc).1]
    unfold stP aOf
    generalize (if rakedK kinds raked c = 2 then (2 : Int32) else 0) = u
    generalize (if c ∈ prev then (1 : Int32) else 0) = v
    generalize addIf 5 (dogT dn dt n c) nd = w
    rw [Int32.sub_eq_add_neg, Int32.sub_eq_add_neg, Int32.add_assoc, Int32.add_assoc, Int32.add_comm v]
  · rw [y2 c hc, (z2 c hc).2]; rfl
