theorem selB_cases (w : Nat → Int32) (fm : Int32) : ∀ (L : List Nat) (b : Int32 × Int32), (L.foldl (sel1 w fm) b).1 = b.1 ∨ ∃ c ∈ L, (L.foldl (sel1 w fm) b).1 = nI c := by
  intro L
  induction L with
  | nil => intro b; exact Or.inl rfl
  | cons c L ih =>
    intro b
    rw [List.foldl_cons]
    rcases ih (sel1 w fm b c) with h | ⟨d, hd, h⟩
    · rw [h]
      unfold sel1
      by_cases h1 : nI c = fm
      · rw [if_pos h1]; exact Or.inl rfl
      · rw [if_neg h1]
        by_cases h2 : b.1 = -1
        · rw [if_pos h2]; exact Or.inr ⟨c, List.mem_cons_self .., rfl⟩
        · rw [if_neg h2]
          by_cases h3 : w c ≤ b.2
          · rw [if_pos h3]; exact Or.inl rfl
          · rw [if_neg h3]; exact Or.inr ⟨c, List.mem_cons_self .., rfl⟩
    · exact Or.inr ⟨d, List.mem_cons_of_mem _ hd, h⟩
theorem sel_cases (w : Nat → Int32) (fm : Int32) (L : List Nat) : sel w fm L = fm ∨ ∃ c ∈ L, sel w fm L = nI c := by
  unfold sel
  by_cases h : (selB w fm L).1 = -1
  · rw [if_pos h]; exact Or.inl rfl
  · rw [if_neg h]
    rcases selB_cases w fm L (-1, 0) with q | q
    · exact absurd q h
    · exact Or.inr q
theorem cell_next {W R c : Nat} (hc : c < R * W) : c = W * (c / W) + c % W ∧ c / W < R ∧ W * (c / W) + W ≤ R * W := by
  have h1 := Nat.div_add_mod c W
  have hW : 0 < W := by
    rcases Nat.eq_zero_or_pos W with q | q
    · subst q; omega
    · exact q
  have h2 : c / W < R := (Nat.div_lt_iff_lt_mul hW).mpr hc
  have h3 : (c / W + 1) * W ≤ R * W := Nat.mul_le_mul h2 (Nat.le_refl _)
  rw [Nat.add_mul, Nat.one_mul, Nat.mul_comm] at h3
  exact ⟨h1.symm, h2, h3⟩
theorem mem_one {a : Prop} [Decidable a] {t u : Nat} (h : t ∈ (if a then [u] else [])) : a ∧ t = u := by
  by_cases ha : a
  · rw [if_pos ha] at h; exact ⟨ha, List.mem_singleton.mp h⟩
  · rw [if_neg ha] at h; exact absurd h (List.not_mem_nil)
theorem nbs_lt {W C R c t : Nat} {wl : Nat → Int32} (hC : C = R * W) (hc : c < C) (h : t ∈ nbs W C wl c) : t < C := by
  obtain ⟨h1, h2, h3⟩ := cell_next (W := W) (R := R) (c := c) (by omega)
  unfold nbs at h
  rw [List.mem_append, List.mem_append, List.mem_append] at h
  rcases h with ((h | h) | h) | h
  · obtain ⟨⟨q, -⟩, rfl⟩ := mem_one h; omega
  · obtain ⟨⟨q, -⟩, rfl⟩ := mem_one h; omega
  · obtain ⟨⟨q, -⟩, rfl⟩ := mem_one h; omega
  · obtain ⟨⟨q, -⟩, rfl⟩ := mem_one h; omega
theorem from_cases (l : List Nat) : fromOf l = -1 ∨ ∃ f ∈ l, fromOf l = nI f := by
  match l with
  | [] => exact Or.inl rfl
  | [_] => exact Or.inl rfl
  | a :: b :: l => exact Or.inr ⟨b, by simp, rfl⟩
theorem head_lt {C : Nat} {l : List Nat} (h0 : l ≠ []) (h : ∀ d ∈ l, d < C) : l.headD 0 < C := by
  match l with
  | [] => exact absurd rfl h0
  | a :: l => exact h a (List.mem_cons_self ..)
theorem nxt_cases {W C R : Nat} (hC : C = R * W) (wl st fr : Nat → Int32) {l : List Nat} (h0 : l ≠ []) (h : ∀ d ∈ l, d < C) : nxt W C wl st fr l = -1 ∨ ∃ t, t < C ∧ nxt W C wl st fr l = nI t := by
  unfold nxt
  rcases sel_cases (wv st fr l) (fromOf l) (nbs W C wl (l.headD 0)) with q | ⟨c, hc, q⟩
  · rw [q]
    rcases from_cases l with p | ⟨f, hf, p⟩
    · exact Or.inl p
    · exact Or.inr ⟨f, h f hf, p⟩
  · exact Or.inr ⟨c, nbs_lt hC (head_lt h0 h) hc, q⟩
theorem walkF_all {W C R : Nat} (hC : C = R * W) (hC2 : C ≤ 36) (wl st fr : Nat → Int32) : ∀ (k : Nat) (l : List Nat), l ≠ [] → (∀ d ∈ l, d < C) → (∀ d ∈ walkF W C wl st fr k l, d < C) ∧ walkF W C wl st fr k l ≠ [] ∧ (walkF W C wl st fr k l).length ≤ l.length + k := by
  intro k
  induction k with
  | zero => intro l h0 h; exact ⟨h, h0, by unfold walkF; omega⟩
  | succ k ih =>
    intro l h0 h
    unfold walkF
    by_cases h1 : l.headD 0 % W + 1 < W
    · rw [if_pos h1]
      rcases nxt_cases hC wl st fr h0 h with q | ⟨t, ht, q⟩
      · rw [if_pos q]; exact ⟨h, h0, by omega⟩
      · rw [q, if_neg (nI_neg1 (by omega)), tnN (by omega)]
        obtain ⟨p1, p2, p3⟩ := ih (t :: l) (List.cons_ne_nil _ _) (fun d hd => by
          rcases List.mem_cons.mp hd with e | e
          · omega
          · exact h d e)
        exact ⟨p1, p2, by rw [List.length_cons] at p3; omega⟩
    · rw [if_neg h1]; exact ⟨h, h0, by omega⟩
def FOK (C : Nat) (F : List Nat) : Prop := F = [] ∨ ∃ f, f < C ∧ F = [f]
theorem night1_all {W C R : Nat} (hC : C = R * W) (hC2 : C ≤ 36) (wl : Nat → Int32) {F : List Nat} (hF : FOK C F) (go : Prop) [Decidable go] (st fr : Nat → Int32) : (∀ d ∈ night1 W C wl F go st fr, d < C) ∧ (night1 W C wl F go st fr).length ≤ 25 := by
  unfold night1
  by_cases hg : go
  · rw [if_pos hg]
    rcases hF with rfl | ⟨f, hf, rfl⟩
    · rw [if_pos rfl]; exact ⟨fun d hd => absurd hd (List.not_mem_nil), by simp⟩
    · rw [if_neg (List.cons_ne_nil _ _)]
      obtain ⟨p1, p2, p3⟩ := walkF_all hC hC2 wl st fr 24 [f] (List.cons_ne_nil _ _) (fun d hd => by rw [List.mem_singleton.mp hd]; exact hf)
      exact ⟨p1, by rw [List.length_singleton] at p3; omega⟩
  · rw [if_neg hg]; exact ⟨fun d hd => absurd hd (List.not_mem_nil), by simp⟩
theorem nightL_all {W C R : Nat} (hC : C = R * W) (hC2 : C ≤ 36) (wl : Nat → Int32) {F : List Nat} (hF : FOK C F) (fz : Nat) (a b : Nat → Nat → Int32) (n : Nat) : (∀ d ∈ nightL W C wl F fz a b n, d < C) ∧ (nightL W C wl F fz a b n).length ≤ 25 := by
  cases n with
  | zero => exact night1_all hC hC2 wl hF _ _ _
  | succ n => exact night1_all hC hC2 wl hF _ _ _
/-! what agrees, walks alike -/
theorem selB_congr {w w' : Nat → Int32} (fm : Int32) : ∀ (L : List Nat) (b : Int32 × Int32), (∀ c ∈ L, w c = w' c) → L.foldl (sel1 w fm) b = L.foldl (sel1 w' fm) b := by
  intro L
  induction L with
  | nil => intro b _; rw [List.foldl_nil, List.foldl_nil]
  | cons c L ih =>
    intro b h
    rw [List.foldl_cons, List.foldl_cons]
    have e : sel1 w fm b c = sel1 w' fm b c := by
      have hh := h c (List.mem_cons_self ..)
      simp only [sel1, hh]
    rw [e]
    exact ih _ (fun d hd => h d (List.mem_cons_of_mem _ hd))
theorem sel_congr {w w' : Nat → Int32} (fm : Int32) (L : List Nat) (h : ∀ c ∈ L, w c = w' c) : sel w fm L = sel w' fm L := by
  unfold sel selB
  rw [selB_congr fm L _ h]
theorem one_congr {a b : Prop} [Decidable a] [Decidable b] (h : a ↔ b) (u : List Nat) : (if a then u else []) = (if b then u else []) := by
  by_cases ha : a
  · rw [if_pos ha, if_pos (h.mp ha)]
  · rw [if_neg ha, if_neg (fun q => ha (h.mpr q))]
theorem nbs_congr {W C R c : Nat} {wl wl' : Nat → Int32} (hC : C = R * W) (hc : c < C) (h : ∀ d, d < C → (wl d = 1 ↔ wl' d = 1)) : nbs W C wl c = nbs W C wl' c := by
  obtain ⟨h1, h2, h3⟩ := cell_next (W := W) (R := R) (c := c) (by omega)
  unfold nbs
  rw [one_congr (a := c % W + 1 < W ∧ ¬ wl (c + 1) = 1) (b := c % W + 1 < W ∧ ¬ wl' (c + 1) = 1) (and_congr_right fun q => not_congr (h _ (by omega))),
    one_congr (a := c + W < C ∧ ¬ wl (c + W) = 1) (b := c + W < C ∧ ¬ wl' (c + W) = 1) (and_congr_right fun q => not_congr (h _ (by omega))),
    one_congr (a := W ≤ c ∧ ¬ wl (c - W) = 1) (b := W ≤ c ∧ ¬ wl' (c - W) = 1) (and_congr_right fun q => not_congr (h _ (by omega))),
    one_congr (a := 0 < c % W ∧ ¬ wl (c - 1) = 1) (b := 0 < c % W ∧ ¬ wl' (c - 1) = 1) (and_congr_right fun q => not_congr (h _ (by omega)))]
theorem nxt_congr {W C R : Nat} (hC : C = R * W) {wl wl' st st' fr fr' : Nat → Int32} (hw : ∀ d, d < C → (wl d = 1 ↔ wl' d = 1)) (hs : ∀ d, d < C → st d = st' d) (hf : ∀ d, d < C → fr d = fr' d) {l : List Nat} (h0 : l ≠ []) (h : ∀ d ∈ l, d < C) : nxt W C wl st fr l = nxt W C wl' st' fr' l := by
  unfold nxt
  have hh := head_lt h0 h
  rw [nbs_congr hC hh hw]
  refine sel_congr _ _ fun c hc => ?_
  have hc2 := nbs_lt hC hh hc
  unfold wv
  rw [hs c hc2, hf c hc2]
theorem walkF_congr {W C R : Nat} (hC : C = R * W) (hC2 : C ≤ 36) {wl wl' st st' fr fr' : Nat → Int32} (hw : ∀ d, d < C → (wl d = 1 ↔ wl' d = 1)) (hs : ∀ d, d < C → st d = st' d) (hf : ∀ d, d < C → fr d = fr' d) : ∀ (k : Nat) (l : List Nat), l ≠ [] → (∀ d ∈ l, d < C) → walkF W C wl st fr k l = walkF W C wl' st' fr' k l := by
  intro k
  induction k with
  | zero => intro l _ _; rfl
  | succ k ih =>
    intro l h0 h
    unfold walkF
    rw [nxt_congr hC hw hs hf h0 h]
    by_cases h1 : l.headD 0 % W + 1 < W
    · rw [if_pos h1, if_pos h1]
      rcases nxt_cases hC wl' st' fr' h0 h with q | ⟨t, ht, q⟩
      · rw [if_pos q, if_pos q]
      · rw [q, if_neg (nI_neg1 (by omega)), if_neg (nI_neg1 (by omega)), tnN (by omega)]
        exact ih (t :: l) (List.cons_ne_nil _ _) (fun d hd => by
          rcases List.mem_cons.mp hd with e | e
          · omega
          · exact h d e)
    · rw [if_neg h1, if_neg h1]
theorem night1_congr {W C R : Nat} (hC : C = R * W) (hC2 : C ≤ 36) {wl wl' st st' fr fr' : Nat → Int32} (hw : ∀ d, d < C → (wl d = 1 ↔ wl' d = 1)) (hs : ∀ d, d < C → st d = st' d) (hf : ∀ d, d < C → fr d = fr' d) {F : List Nat} (hF : FOK C F) (go : Prop) [Decidable go] : night1 W C wl F go st fr = night1 W C wl' F go st' fr' := by
  unfold night1
  by_cases hg : go
  · rw [if_pos hg, if_pos hg]
    rcases hF with rfl | ⟨f, hf2, rfl⟩
    · rw [if_pos rfl, if_pos rfl]
    · rw [if_neg (List.cons_ne_nil _ _), if_neg (List.cons_ne_nil _ _)]
      exact walkF_congr hC hC2 hw hs hf 24 [f] (List.cons_ne_nil _ _) (fun d hd => by rw [List.mem_singleton.mp hd]; exact hf2)
  · rw [if_neg hg, if_neg hg]
theorem nightL_congr {W C R : Nat} (hC : C = R * W) (hC2 : C ≤ 36) {wl wl' : Nat → Int32} {a a' b b' : Nat → Nat → Int32} (hw : ∀ d, d < C → (wl d = 1 ↔ wl' d = 1)) {F : List Nat} (hF : FOK C F) (fz : Nat) :
    ∀ (n : Nat), (∀ k, k ≤ n → ∀ d, d < C → a k d = a' k d ∧ b k d = b' k d) → nightL W C wl F fz a b n = nightL W C wl' F fz a' b' n := by
  intro n
  induction n with
  | zero =>
    intro h
    refine night1_congr hC hC2 hw (fun d hd => ?_) (fun d hd => (h 0 (by omega) d hd).2) hF _
    unfold stP
    rw [(h 0 (by omega) d hd).1]
  | succ n ih =>
    intro h
    refine night1_congr hC hC2 hw (fun d hd => ?_) (fun d hd => (h (n + 1) (by omega) d hd).2) hF _
    unfold stP
    rw [(h (n + 1) (by omega) d hd).1, ih (fun k hk => h k (by omega))]
theorem lineL_congr {W C R : Nat} (hC : C = R * W) (hC2 : C ≤ 36) {wl wl' : Nat → Int32} {a a' b b' : Nat → Nat → Int32} (hw : ∀ d, d < C → (wl d = 1 ↔ wl' d = 1)) {F : List Nat} (hF : FOK C F) (fz : Nat) :
    ∀ (n : Nat), (∀ k, k ≤ n → ∀ d, d < C → a k d = a' k d ∧ b k d = b' k d) → lineL W C R wl F fz a b n = lineL W C R wl' F fz a' b' n := by
  intro n
  induction n with
  | zero =>
    intro h
    unfold lineL
    rw [nightL_congr hC hC2 hw hF fz 0 h]
  | succ n ih =>
    intro h
    unfold lineL
    rw [nightL_congr hC hC2 hw hF fz (n + 1) h, ih (fun k hk => h k (by omega))]
/-! a walk as it lies in a row of ints -/
def Path (off : Nat) (p : Nat → Int32) : List Nat → Prop
  | [] => True
  | c :: r => p (off + r.length) = nI c ∧ Path off p r
theorem Path.far {off : Nat} {p p' : Nat → Int32} : ∀ {l : List Nat}, Path off p l → (∀ j, off ≤ j → j < off + l.length → p' j = p j) → Path off p' l := by
  intro l
  induction l with
  | nil => intro _ _; exact trivial
  | cons c r ih =>
    intro h hp
    rw [List.length_cons] at hp
    exact ⟨(hp _ (by omega) (by omega)).trans h.1, ih h.2 (fun j h1 h2 => hp j h1 (by omega))⟩
theorem Path.put {off : Nat} {p : Nat → Int32} {r : List Nat} (h : Path off p r) (c : Nat) : Path off (upd p (off + r.length) (nI c)) (c :: r) :=
  ⟨upd_at _ _ _, h.far fun j _ h2 => upd_ne _ _ (by omega)⟩
theorem Path.at {off : Nat} {p : Nat → Int32} : ∀ {l : List Nat}, Path off p l → ∀ {k : Nat}, k < l.length → ∃ c, c ∈ l ∧ l.drop (l.length - (k + 1)) = c :: l.drop (l.length - k) ∧ p (off + k) = nI c := by
  intro l
  induction l with
  | nil => intro _ k hk; exact absurd hk (Nat.not_lt_zero _)
  | cons c r ih =>
    intro h k hk
    rw [List.length_cons] at hk ⊢
    by_cases e : k = r.length
    · subst e
      refine ⟨c, List.mem_cons_self .., ?_, h.1⟩
      rw [show r.length + 1 - (r.length + 1) = 0 by omega, show r.length + 1 - r.length = 1 by omega]; rfl
    · obtain ⟨d, d0, d1, d2⟩ := ih h.2 (k := k) (by omega)
      refine ⟨d, List.mem_cons_of_mem _ d0, ?_, d2⟩
      rw [show r.length + 1 - (k + 1) = (r.length - (k + 1)) + 1 by omega, show r.length + 1 - k = (r.length - k) + 1 by omega, List.drop_succ_cons, List.drop_succ_cons]
      exact d1
theorem Path.mem {off : Nat} {p : Nat → Int32} : ∀ {l : List Nat}, Path off p l → (∀ d ∈ l, d < 36) → ∀ {c : Nat}, c < 36 → (c ∈ l ↔ ∃ i, i < l.length ∧ p (off + i) = nI c) := by
  intro l
  induction l with
  | nil => intro _ _ c _; exact ⟨fun h => absurd h (List.not_mem_nil), fun ⟨i, hi, _⟩ => absurd hi (Nat.not_lt_zero _)⟩
  | cons d r ih =>
    intro h hl c hc
    have hd := hl d (List.mem_cons_self ..)
    have IH := ih h.2 (fun e he => hl e (List.mem_cons_of_mem _ he)) hc
    rw [List.mem_cons, IH, List.length_cons]
    constructor
    · rintro (rfl | ⟨i, hi, q⟩)
      · exact ⟨r.length, by omega, h.1⟩
      · exact ⟨i, by omega, q⟩
    · rintro ⟨i, hi, q⟩
      by_cases e : i = r.length
      · subst e
        left
        have q2 := q.symm.trans h.1
        rw [nI_eq_i (by omega) (by omega)] at q2
        exact q2
      · exact Or.inr ⟨i, by omega, q⟩
theorem Path.two {o1 o2 : Nat} {p q : Nat → Int32} {l : List Nat} (h1 : Path o1 p l) (h2 : Path o2 q l) {k : Nat} (hk : k < l.length) : p (o1 + k) = q (o2 + k) := by
  obtain ⟨c, -, e1, e2⟩ := h1.at hk
  obtain ⟨d, -, d1, d2⟩ := h2.at hk
  have := e1.symm.trans d1
  rw [List.cons.injEq] at this
  rw [e2, d2, this.1]
theorem lineF_congr {W : Nat} {base base' : Nat → Int32} : ∀ (l : List Nat) {x : Nat}, base x = base' x → lineF W base l x = lineF W base' l x := by
  intro l
  induction l with
  | nil => intro x h; exact h
  | cons c l ih =>
    intro x h
    show (if x = c % W then nI (c / W) else lineF W base l x) = (if x = c % W then nI (c / W) else lineF W base' l x)
    rw [ih h]
