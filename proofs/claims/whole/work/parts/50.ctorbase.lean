/-! making: rows for constructors -/
def FD (own : String) (index ci k : Nat) : Prop := ∃ (Cn : String) (T : u_T) (N : Nat), classes[ci]? = some (Cn, T, N) ∧ k < N ∧ (∀ w ∈ u_ws Cn T N, w ∈ lw_good) ∧ Cond.fieldLink own index (T k).1 (T k).2.1 (T k).2.2.1 ∈ lw_good ∧ Cn = own
def NF (own : String) (index ci N : Nat) (fs : List Value) : Prop := ∃ (Cn : String) (T : u_T) (ty0 : Nat → FieldType), classes[ci]? = some (Cn, T, N) ∧ (∀ w ∈ u_ws Cn T N, w ∈ lw_good) ∧ (∀ k, k < N → parseFieldDescriptor (T k).2.2.1 = some (ty0 k)) ∧ Cond.classLink own index Cn ∈ lw_good ∧ Cond.instantiable Cn N ∈ lw_good ∧ Cond.initialized Cn ∈ lw_good ∧ (∀ j, j < N → defaultValue (ty0 j) = vp_V fs j)
def OI (own : String) (index : Nat) : Prop := Cond.methodLink own index Lib.objectInit ∈ lw_good ∧ Cond.instanceMethod Lib.objectInit ∈ lw_good ∧ Cond.code Lib.objectInit ⟨#[0xb1]⟩ 1 none ∈ lw_good
def PostC (D : va_G) (wf : (Nat → Nat) → va_W) (ws : va_W) (sz : Nat) : Array Value → State → Outcome → State → Prop :=
  va_Qv (S := Nat → Nat) (fun _ => True) (fun u t => va_P D classes (wf u) t.heap ∧ va_D (va_A ws sz) (wf u)) (va_A ws sz)
def PreXE (E : State → Prop) (D : va_G) (cA : Nat → ClassId) (av : List Value) (sz : Nat) (ws : va_W) : Array Value → State → Prop := fun a U => PreX D cA av sz ws a U ∧ E U
def E0 : State → Prop := fun _ => True
def E1 : State → Prop := fun U => va_AO "HedgehogBorder$Text" U ∧ va_AO "HedgehogBorder$Sheet" U
def Eok (E : State → Prop) : Prop := ∀ u U : State, u.vm.Alike U.vm → E u → E U
theorem e0_ok : Eok E0 := fun _ _ _ _ => trivial
theorem e1_ok : Eok E1 := fun _ _ h q => ⟨q.1.moved h, q.2.moved h⟩
section CT
variable {p : Program} {l : Launch} {e : Env} {R : Room} {s : State} {m : MethodId} {args : Array Value} {below : List Frame} {meth : Method} {c : Code} {H : Heap} {locs : List Loc} {cells slots : Nat} {Q : State → Prop}
variable {own : String} {cc : ByteArray} {nL : Nat} {D : va_G} {cA : Nat → ClassId} {A : Nat → Prop} {ws : va_W} {pc : Nat} {ls : Array Slot} {rest : List Value}
theorem g_pF {index ci k a : Nat} {ty : FieldType} (C : Cx own cc nL D cA p s m args c) (F : FD own index ci k) (G : FT ci k ty true) (hini : meth.name = "<init>") (hP : va_P D classes ws H) (hD : va_D A ws) (hS : va_S A s.heap H locs) (q0 : Nat) {fs : List Value} (he : ws[q0]? = some (a, .inr (ci, fs))) {v : Value} (hn : narrow ty v = v) (hfit : fits ty v = true) (hl : k < fs.length) (hdg : decode cc pc = .ok (.putfield index, 3))
    (kk : ∀ (H1 : Heap) (locs1 : List Loc), va_P D classes (ws.set q0 (a, .inr (ci, fs.set k v))) H1 → va_D A (ws.set q0 (a, .inr (ci, fs.set k v))) → va_S A s.heap H1 locs1 → W p l e R s m args below meth c H1 locs1 cells slots Q (F0 m (pc + 3) ls rest)) : W p l e R s m args below meth c H locs cells slots Q (F0 m pc ls (v :: .ref a :: rest)) := by
  obtain ⟨hx, hb, hml, hown, hts, hK, hN⟩ := C
  obtain ⟨Cn, T, N, hc, hk, hin, h, ho⟩ := F
  obtain ⟨Cn', T', N', ty0, hc', hty, hnm, hfin, hd, hdecl⟩ := G
  have e : (Cn', T', N') = (Cn, T, N) := Option.some.inj (hc'.symm.trans hc)
  cases e
  exact va_putF hx hb hts hin ty0 hty hnm hown hK hP hD hS q0 he hc k hk (hts _ h) (fun _ h9 => h9) hfin hini (hdecl.trans ho) hd hn hfit hl hdg kk
theorem g_objinit {index a : Nat} (C : Cx own cc nL D cA p s m args c) (F : OI own index) (hsz : ls.size = nL) (hd : decode cc pc = .ok (.invokespecial index, 3)) (hR : 1 ≤ R.frames ∧ (rest.map fun v => v.category).sum + 12 ≤ R.locals)
    (kk : W p l e R s m args below meth c H locs cells slots Q (F0 m (pc + 3) ls rest)) : W p l e R s m args below meth c H locs cells slots Q (F0 m pc ls (.ref a :: rest)) := by
  obtain ⟨hx, hb, hml, hown, hts, hK, hN⟩ := C
  exact W.objInit hx hb hown (hts _ F.1) (hts _ F.2.1) (hts _ F.2.2) rfl (by rw [hml]; exact hsz) rfl hd hR.1 (by show 2 * 0 + _ + 12 ≤ _; omega) kk
theorem ra_eq {t : FieldType} {c1 c2 : ClassId} (h1 : va_RA s c1 t) (h2 : va_RA s c2 t) : c1 = c2 := by
  cases t with
  | object Cn =>
    obtain ⟨k1, d1, a1, a2, a3, a4⟩ := h1
    obtain ⟨k2, d2, b1, b2, b3, b4⟩ := h2
    exact Option.some.inj (a4.symm.trans b4)
  | _ => exact Option.some.inj (Eq.trans (Eq.symm h1) h2)
theorem g_newI {n : Int32} {N : Nat} (C : Cx own cc nL D cA p s m args c) (hw : Cond.arrayClass .int ∈ lw_good) (hP : va_P D classes ws H) (hD : va_D A ws) (hS : va_S A s.heap H locs) (hA : ∀ q, s.heap.size ≤ q → A q) (hn : ¬ n < 0) (hN : n.toNatClampNeg = N) (hbytes : N * componentBytes .int ≤ 536870912) (hcells : cells + 1 ≤ R.cells) (hslots : slots + N ≤ R.slots) (hdg : decode cc pc = .ok (.newarray .int, 2))
    (kk : ∀ (q : Nat) (H1 : Heap), va_P D classes (ws ++ [(q, .inl (cA 0, N, .inl (fun _ => 0)))]) H1 → va_D A (ws ++ [(q, .inl (cA 0, N, .inl (fun _ => 0)))]) → va_S A s.heap H1 locs → W p l e R s m args below meth c H1 locs (cells + 1) (slots + N) Q (F0 m (pc + 2) ls (.ref q :: rest))) : W p l e R s m args below meth c H locs cells slots Q (F0 m pc ls (.int n :: rest)) := by
  obtain ⟨hx, hb, hml, hown, hts, hK, hN'⟩ := C
  refine va_newa (atype := .int) (a0 := (N, .inl (fun _ => 0))) hx hb (hts _ hw) rfl hK hP hD hS hA (fun _ => rfl) hn hN hbytes hcells hslots hdg (fun q c1 H1 hK1 hP1 hD1 hS1 => ?_)
  have e : c1 = cA 0 := ra_eq (hK1.2 4 _ rfl).2 (hK.2 0 _ rfl).2
  subst e
  exact kk q H1 hP1 hD1 hS1
theorem g_newL {n : Int32} {N : Nat} (C : Cx own cc nL D cA p s m args c) (hw : Cond.arrayClass .long ∈ lw_good) (hP : va_P D classes ws H) (hD : va_D A ws) (hS : va_S A s.heap H locs) (hA : ∀ q, s.heap.size ≤ q → A q) (hn : ¬ n < 0) (hN : n.toNatClampNeg = N) (hbytes : N * componentBytes .long ≤ 536870912) (hcells : cells + 1 ≤ R.cells) (hslots : slots + N ≤ R.slots) (hdg : decode cc pc = .ok (.newarray .long, 2))
    (kk : ∀ (q : Nat) (H1 : Heap), va_P D classes (ws ++ [(q, .inl (cA 1, N, .inr (.inl (fun _ => 0))))]) H1 → va_D A (ws ++ [(q, .inl (cA 1, N, .inr (.inl (fun _ => 0))))]) → va_S A s.heap H1 locs → W p l e R s m args below meth c H1 locs (cells + 1) (slots + N) Q (F0 m (pc + 2) ls (.ref q :: rest))) : W p l e R s m args below meth c H locs cells slots Q (F0 m pc ls (.int n :: rest)) := by
  obtain ⟨hx, hb, hml, hown, hts, hK, hN'⟩ := C
  refine va_newa (atype := .long) (a0 := (N, .inr (.inl (fun _ => 0)))) hx hb (hts _ hw) rfl hK hP hD hS hA (fun _ => rfl) hn hN hbytes hcells hslots hdg (fun q c1 H1 hK1 hP1 hD1 hS1 => ?_)
  have e : c1 = cA 1 := ra_eq (hK1.2 4 _ rfl).2 (hK.2 1 _ rfl).2
  subst e
  exact kk q H1 hP1 hD1 hS1
theorem g_newQ {Cn : String} {index t0 N : Nat} {k : ClassId} {n : Int32} (C : Cx own cc nL D cA p s m args c) (hw : Cond.classLink own index Cn ∈ lw_good) (hao : va_AO Cn s) (ht : (ar_tys cA)[t0]? = some (k, .object Cn)) (hP : va_P D classes ws H) (hD : va_D A ws) (hS : va_S A s.heap H locs) (hA : ∀ q, s.heap.size ≤ q → A q) (hn : ¬ n < 0) (hN : n.toNatClampNeg = N) (hbytes : N * 4 ≤ 536870912) (hcells : cells + 1 ≤ R.cells) (hslots : slots + N ≤ R.slots) (hdg : decode cc pc = .ok (.anewarray index, 3))
    (kk : ∀ (q : Nat) (H1 : Heap), va_P D classes (ws ++ [(q, .inl (k, N, .inr (.inr (.inr (.inr (fun _ => none))))))]) H1 → va_D A (ws ++ [(q, .inl (k, N, .inr (.inr (.inr (.inr (fun _ => none))))))]) → va_S A s.heap H1 locs → W p l e R s m args below meth c H1 locs (cells + 1) (slots + N) Q (F0 m (pc + 3) ls (.ref q :: rest))) : W p l e R s m args below meth c H locs cells slots Q (F0 m pc ls (.int n :: rest)) := by
  obtain ⟨hx, hb, hml, hown, hts, hK, hN'⟩ := C
  refine va_newq hx hb hown (hts _ hw) hao hK hP hD hS hA hn hN hbytes hcells hslots hdg (fun q c1 H1 hK1 hP1 hD1 hS1 => ?_)
  have e : c1 = k := ra_eq (hK1.2 4 _ rfl).2 (hK.2 t0 _ ht).2
  subst e
  exact kk q H1 hP1 hD1 hS1
theorem g_new {index ci N : Nat} {fs : List Value} (C : Cx own cc nL D cA p s m args c) (F : NF own index ci N fs) (hP : va_P D classes ws H) (hD : va_D A ws) (hS : va_S A s.heap H locs) (hA : ∀ q, s.heap.size ≤ q → A q) (hcells : cells + 1 ≤ R.cells) (hslots : slots + N ≤ R.slots) (hdg : decode cc pc = .ok (.new index, 3))
    (kk : ∀ (q : Nat) (H1 : Heap), va_P D classes (ws ++ [(q, .inr (ci, fs))]) H1 → va_D A (ws ++ [(q, .inr (ci, fs))]) → va_S A s.heap H1 locs → W p l e R s m args below meth c H1 locs (cells + 1) (slots + N) Q (F0 m (pc + 3) ls (.ref q :: rest))) : W p l e R s m args below meth c H locs cells slots Q (F0 m pc ls rest) := by
  obtain ⟨hx, hb, hml, hown, hts, hK, hN'⟩ := C
  obtain ⟨Cn, T, ty0, hc, hin, hty, h1, h2, h3, hfs⟩ := F
  exact va_new hx hb hts hin ty0 hty hown (hts _ h1) (hts _ h2) (hts _ h3) hK hP hD hS hA hc hfs hcells hslots hdg kk
theorem g_aast {a n v t0 qk ci : Nat} {k : ClassId} {r : vw_C} {f : Nat → Option Nat} {i : Int32} {vs : List Value} (C : Cx own cc nL D cA p s m args c) (hP : va_P D classes ws H) (hD : va_D A ws) (hS : va_S A s.heap H locs) (q0 : Nat) (he : ws[q0]? = some (a, .inl (k, n, .inr (.inr (.inr (.inr f)))))) (ht : (ar_tys cA)[t0]? = some (k, .object r.1)) (hv : ws[qk]? = some (v, .inr (ci, vs))) (hc : classes[ci]? = some r) (hin : inb i n = true) (hdg : decode cc pc = .ok (.aastore, 1))
    (kk : ∀ (H1 : Heap) (locs1 : List Loc), va_P D classes (ws.set q0 (a, .inl (k, n, .inr (.inr (.inr (.inr (va_up f i.toNatClampNeg (some v)))))))) H1 → va_D A (ws.set q0 (a, .inl (k, n, .inr (.inr (.inr (.inr (va_up f i.toNatClampNeg (some v)))))))) → va_S A s.heap H1 locs1 → W p l e R s m args below meth c H1 locs1 cells slots Q (F0 m (pc + 1) ls rest)) : W p l e R s m args below meth c H locs cells slots Q (F0 m pc ls (.ref v :: .int i :: .ref a :: rest)) :=
  va_astq C.1 C.2.1 C.2.2.2.2.2.1 hP hD hS q0 t0 qk ci he ht hv hc (inb_vp hin) hdg kk
theorem ret_c {wf : (Nat → Nat) → va_W} {ws0 : va_W} {sz : Nat} (C : Cx own cc nL D cA p s m args c) (hr : meth.sig.returnType = none) (hlocks : meth.locks = false) (u : Nat → Nat) (hP : va_P D classes (wf u) H) (hD : va_D (va_A ws0 sz) (wf u)) (hS : va_S (va_A ws0 sz) s.heap H locs) (hdg : decode cc pc = .ok (.return_, 1)) :
    W p l e R s m args below meth c H locs cells slots (MQ below (PostC D wf ws0 sz) args s cells slots (va_A ws0 sz)) (F0 m pc ls []) :=
  W.vret C.1 C.2.1 hr (fun t ht hW => ⟨⟨u, rfl, trivial, by show va_P D classes (wf u) t.heap; rw [ht]; exact hP, hD⟩, hS.F ht⟩) hS.2.2 hdg hlocks
variable {index : Nat} {y : MethodName} {bytes : ByteArray} {maxL n : Nat} {rm : Room} {st0 As : List Value} {wc w1 : va_W} {b : Nat}
theorem run_I (C : Cx own cc nL D cA p s m args c) (F : MFb own index y bytes maxL none n ∧ Cond.instanceMethod y ∈ lw_good) (hy1 : y.name = "<init>") {Pc : Array Value → State → Prop} {Qc : Array Value → State → Outcome → State → Prop} {free : Addr → Prop} {mc ms : Nat} (hM : Met l y (Cond.code y bytes maxL none :: lw_good) rm Pc Qc mc ms free) (hrc : rm.cells = mc) (hrs : rm.slots = ms)
    (hR : rm.frames + 1 ≤ R.frames ∧ 8 + (maxL + 11) + rm.locals ≤ R.locals) (hp : PreS s H Pc (.ref b :: As)) (hn : As.length = n) (hsize : ls.size = nL) (hst : st0 = As.reverse ++ .ref b :: rest) (hW : (rest.map fun v => v.category).sum ≤ 8) (hdg : decode cc pc = .ok (.invokespecial index, 3)) (hf : cells + mc ≤ R.cells ∧ slots + ms ≤ R.slots) :
    va_Run p l e R s m args below meth c H locs cells slots mc ms (F0 m pc ls st0) rest (Qc (Value.ref b :: As).toArray) free := by
  obtain ⟨hx, hb, hml, hown, hts, hK, hN⟩ := C
  obtain ⟨⟨hc, hi, hd, hl⟩, hin⟩ := F
  rcases hl with h | ⟨host, h⟩
  · exact va_runI (Ts := lw_good) ⟨hx, hb, hml, hown, hts⟩ hM ⟨callB_of n hts (good_cons hc) rfl hrc hrs (hts _ hi) (hts _ h) hd hR, hy1, hts _ hin⟩ hp rfl hn hsize hst (lv_room hW) hdg hf
  · exact va_runIN (Ts := lw_good) ⟨hx, hb, hml, hown, hts⟩ hM ⟨va_cnB n hts (good_cons hc) rfl hrc hrs (hN _ h rfl) (hts _ hi) hd hR, hy1, hts _ hin⟩ hp rfl hn hsize hst (lv_room hW) hdg hf
theorem fin_c {wf : (Nat → Nat) → va_W} {av : Array Value} {mc ms : Nat} (wr : va_W) (hr : va_Run p l e R s m args below meth c H locs cells slots mc ms (F0 m pc ls st0) rest (PostC D wf wc H.size av) (va_A wc H.size)) (hP : va_P D classes ws H) (hD : va_D A ws) (hS : va_S A s.heap H locs) (hA : ∀ q, s.heap.size ≤ q → A q) (isC isR : List Nat) (hC : isC.map (fun i => ws[i]?) = wc.map some) (hR : isR.map (fun i => ws[i]?) = wr.map some) (hnd : va_nd isR = true) (hdis : ∀ i ∈ isR, i ∉ isC)
    (kk : ∀ (u : Nat → Nat) (H1 : Heap) (locs1 : List Loc), va_P D classes (wr ++ wf u) H1 → va_D A (wr ++ wf u) → va_S A s.heap H1 locs1 → W p l e R s m args below meth c H1 locs1 (cells + mc) (slots + ms) Q (F0 m (pc + 3) ls rest)) : W p l e R s m args below meth c H locs cells slots Q (F0 m pc ls st0) := by
  have hFc := va_free hD hS hA isC hC
  refine va_callv hr hS (fun q _ h => hFc q h) hFc (fun u t H1 locs1 ht hvm hw hB hz1 hk1 hS1 => ?_)
  obtain ⟨hP1, hD1⟩ := hB
  rw [ht] at hP1
  obtain ⟨hP2, hD2⟩ := va_join hP hD isC isR hC hR hnd hdis hk1 hFc hP1 hD1
  exact kk u H1 locs1 hP2 hD2 hS1
theorem preE {E : State → Prop} (hE : Eok E) (he : E s) (C : Cx own cc nL D cA p s m args c) (hP : va_P D classes ws H) (hD : va_D A ws) (isC : List Nat) (hC : isC.map (fun i => ws[i]?) = wc.map some) (hnd : va_nd isC = true) :
    PreS s H (PreXE E D cA As H.size wc) As :=
  ⟨fun a U g mk q => ⟨blindX a U g mk q.1, hE U (U.calling g mk a) (Vm.Alike.refl U.vm) q.2⟩, fun U hU hW => ⟨preX C (places_P hP hC) ((hD.sub isC hnd hC).weaken (fun _ _ _ _ => trivial)) U hU hW, hE s U hW.alike he⟩⟩
end CT
theorem met_ofI {E : State → Prop} {l : Launch} {y : MethodName} {bytes : ByteArray} {maxL mc ms : Nat} {ret : Option FieldType} {rm : Room} {D : va_G} {cA : Nat → ClassId} {av : List Value} {sz : Nat} {ws : va_W} {Qc : Array Value → State → Outcome → State → Prop} {free : Addr → Prop}
    (hy : plainName y.cls = true) (hav : (lg_sl av).length ≤ maxL)
    (body : ∀ (p : Program) (e : Env) (s : State) (m : MethodId) (args : Array Value) (below : List Frame) (meth : Method) (c : Code), Cx y.cls bytes maxL D cA p s m args c → meth.sig.returnType = ret → meth.locks = false → meth.name = y.name → E s → (∀ q, s.heap.size ≤ q → va_A ws sz q) →
      At p l e rm s m args below meth c D (va_A ws sz) 0 0 (MQ below Qc args s mc ms free) maxL 0 ws (lv_args 0 av) []) :
    Met l y (Cond.code y bytes maxL ret :: lw_good) rm (PreXE E D cA av sz ws) Qc mc ms free := by
  refine Met.ofW (cc := bytes) (maxL := maxL) (ret := ret) hy rfl ?_
  intro p e s m args below meth c s₁ B hml hv
  obtain ⟨⟨rfl, hsz, hP, hK, hD0, hN⟩, hE⟩ := hv
  have hts := atoms_spec (ws := Cond.code y bytes maxL ret :: lw_good) B.pre
  have hown : s.vm.findClass y.cls = some m.cls := findClass_of_methodNamed B.named
  subst hsz
  rw [lg_entry_eq]
  exact body p e s m av.toArray below meth c ⟨B.exec, B.bytes, hml, hown, fun w hw => hts w (List.mem_cons_of_mem _ hw), hK, hN⟩ B.returns B.notSynchronized (name_of_methodNamed B.named B.method).1 hE (fun q h => Or.inr h) s.heap [] _ hP (hD0.self (sz := s.heap.size)) va_S.rf (lv_entry av hav)
theorem me_0 : Cond.methodLink RX6 1 Lib.objectInit ∈ lw_tbl := List.mem_of_getElem? (i := 111) (by decide +kernel)
theorem me_1 : Cond.instanceMethod Lib.objectInit ∈ lw_tbl := List.mem_of_getElem? (i := 103) (by decide +kernel)
theorem me_2 : Cond.code Lib.objectInit ⟨#[0xb1]⟩ 1 none ∈ lw_tbl := List.mem_of_getElem? (i := 104) (by decide +kernel)
theorem oi_X6 : OI RX6 1 := ⟨lg_in me_0 rfl, lg_in me_1 rfl, lg_in me_2 rfl⟩
theorem me_3 : Cond.arrayClass .int ∈ lw_tbl := List.mem_of_getElem? (i := 124) (by decide +kernel)
theorem fd_X6_7 : FD RX6 7 6 0 := ⟨_, _, _, rfl, Nat.le_of_ble_eq_true rfl, inX6, lg_in mw_68 rfl, rfl⟩
theorem me_4 : Cond.methodLink RX3 3 Lib.objectInit ∈ lw_tbl := List.mem_of_getElem? (i := 130) (by decide +kernel)
theorem oi_X3 : OI RX3 3 := ⟨lg_in me_4 rfl, lg_in me_1 rfl, lg_in me_2 rfl⟩
theorem fd_X3_9 : FD RX3 9 3 0 := ⟨_, _, _, rfl, Nat.le_of_ble_eq_true rfl, inX3, lg_in mw_21 rfl, rfl⟩
theorem fd_X3_15 : FD RX3 15 3 1 := ⟨_, _, _, rfl, Nat.le_of_ble_eq_true rfl, inX3, lg_in mw_22 rfl, rfl⟩
theorem fd_X3_18 : FD RX3 18 3 2 := ⟨_, _, _, rfl, Nat.le_of_ble_eq_true rfl, inX3, lg_in mw_23 rfl, rfl⟩
theorem fd_X3_21 : FD RX3 21 3 3 := ⟨_, _, _, rfl, Nat.le_of_ble_eq_true rfl, inX3, lg_in mw_24 rfl, rfl⟩
theorem fd_X3_24 : FD RX3 24 3 4 := ⟨_, _, _, rfl, Nat.le_of_ble_eq_true rfl, inX3, lg_in mw_25 rfl, rfl⟩
theorem me_5 : Cond.methodLink RX1 3 Lib.objectInit ∈ lw_tbl := List.mem_of_getElem? (i := 178) (by decide +kernel)
theorem oi_X1 : OI RX1 3 := ⟨lg_in me_5 rfl, lg_in me_1 rfl, lg_in me_2 rfl⟩
theorem fd_X1_9 : FD RX1 9 1 0 := ⟨_, _, _, rfl, Nat.le_of_ble_eq_true rfl, inX1, lg_in mw_5 rfl, rfl⟩
theorem fd_X1_15 : FD RX1 15 1 1 := ⟨_, _, _, rfl, Nat.le_of_ble_eq_true rfl, inX1, lg_in mw_6 rfl, rfl⟩
theorem me_6 : Cond.methodLink RX4 3 Lib.objectInit ∈ lw_tbl := List.mem_of_getElem? (i := 201) (by decide +kernel)
theorem oi_X4 : OI RX4 3 := ⟨lg_in me_6 rfl, lg_in me_1 rfl, lg_in me_2 rfl⟩
theorem fd_X4_9 : FD RX4 9 4 0 := ⟨_, _, _, rfl, Nat.le_of_ble_eq_true rfl, inX4, lg_in mw_56 rfl, rfl⟩
theorem fd_X4_15 : FD RX4 15 4 1 := ⟨_, _, _, rfl, Nat.le_of_ble_eq_true rfl, inX4, lg_in mw_57 rfl, rfl⟩
theorem fd_X4_18 : FD RX4 18 4 2 := ⟨_, _, _, rfl, Nat.le_of_ble_eq_true rfl, inX4, lg_in mw_58 rfl, rfl⟩
theorem me_7 : Cond.methodLink RX7 3 Lib.objectInit ∈ lw_tbl := List.mem_of_getElem? (i := 227) (by decide +kernel)
theorem oi_X7 : OI RX7 3 := ⟨lg_in me_7 rfl, lg_in me_1 rfl, lg_in me_2 rfl⟩
theorem fd_X7_9 : FD RX7 9 7 3 := ⟨_, _, _, rfl, Nat.le_of_ble_eq_true rfl, inX7, lg_in mw_70 rfl, rfl⟩
theorem fd_X7_15 : FD RX7 15 7 4 := ⟨_, _, _, rfl, Nat.le_of_ble_eq_true rfl, inX7, lg_in mw_71 rfl, rfl⟩
theorem fd_X7_18 : FD RX7 18 7 5 := ⟨_, _, _, rfl, Nat.le_of_ble_eq_true rfl, inX7, lg_in mw_72 rfl, rfl⟩
theorem fd_X7_21 : FD RX7 21 7 6 := ⟨_, _, _, rfl, Nat.le_of_ble_eq_true rfl, inX7, lg_in mw_73 rfl, rfl⟩
theorem me_8 : Cond.arrayClass .long ∈ lw_tbl := List.mem_of_getElem? (i := 274) (by decide +kernel)
theorem fd_X7_24 : FD RX7 24 7 7 := ⟨_, _, _, rfl, Nat.le_of_ble_eq_true rfl, inX7, lg_in mw_74 rfl, rfl⟩
theorem fd_X7_28 : FD RX7 28 7 8 := ⟨_, _, _, rfl, Nat.le_of_ble_eq_true rfl, inX7, lg_in mw_75 rfl, rfl⟩
theorem fd_X7_44 : FD RX7 44 7 0 := ⟨_, _, _, rfl, Nat.le_of_ble_eq_true rfl, inX7, lg_in mw_80 rfl, rfl⟩
theorem fd_X7_48 : FD RX7 48 7 1 := ⟨_, _, _, rfl, Nat.le_of_ble_eq_true rfl, inX7, lg_in mw_81 rfl, rfl⟩
theorem fd_X7_52 : FD RX7 52 7 2 := ⟨_, _, _, rfl, Nat.le_of_ble_eq_true rfl, inX7, lg_in mw_82 rfl, rfl⟩
theorem me_9 : Cond.methodLink RX2 3 Lib.objectInit ∈ lw_tbl := List.mem_of_getElem? (i := 280) (by decide +kernel)
theorem oi_X2 : OI RX2 3 := ⟨lg_in me_9 rfl, lg_in me_1 rfl, lg_in me_2 rfl⟩
theorem me_10 : Cond.methodLink RX0 3 Lib.objectInit ∈ lw_tbl := List.mem_of_getElem? (i := 299) (by decide +kernel)
theorem oi_X0 : OI RX0 3 := ⟨lg_in me_10 rfl, lg_in me_1 rfl, lg_in me_2 rfl⟩
theorem fd_X0_9 : FD RX0 9 0 0 := ⟨_, _, _, rfl, Nat.le_of_ble_eq_true rfl, inX0, lg_in mw_0 rfl, rfl⟩
theorem me_11 : Cond.methodLink RX5 3 Lib.objectInit ∈ lw_tbl := List.mem_of_getElem? (i := 323) (by decide +kernel)
theorem oi_X5 : OI RX5 3 := ⟨lg_in me_11 rfl, lg_in me_1 rfl, lg_in me_2 rfl⟩
theorem fd_X5_9 : FD RX5 9 5 0 := ⟨_, _, _, rfl, Nat.le_of_ble_eq_true rfl, inX5, lg_in mw_60 rfl, rfl⟩
theorem me_12 : Cond.methodLink RX8 3 Lib.objectInit ∈ lw_tbl := List.mem_of_getElem? (i := 102) (by decide +kernel)
theorem oi_X8 : OI RX8 3 := ⟨lg_in me_12 rfl, lg_in me_1 rfl, lg_in me_2 rfl⟩
theorem me_13 : Cond.classLink RX8 9 RX6 ∈ lw_tbl := List.mem_of_getElem? (i := 105) (by decide +kernel)
theorem fd_X8_11 : FD RX8 11 8 0 := ⟨_, _, _, rfl, Nat.le_of_ble_eq_true rfl, inX8, lg_in mw_123 rfl, rfl⟩
theorem me_14 : Cond.instantiable RX6 2 ∈ lw_tbl := List.mem_of_getElem? (i := 107) (by decide +kernel)
theorem df_X6 : ∀ j, j < 2 → defaultValue (tyX6 j) = vp_V [.null, .int 0] j := by
  intro j hj
  rcases (show j = 0 ∨ j = 1 by omega) with rfl | rfl <;> rfl
theorem nf_X8_9 : NF RX8 9 6 2 [.null, .int 0] := ⟨_, _, tyX6, rfl, inX6, tyX6_ok, lg_in me_13 rfl, lg_in me_14 rfl, lg_in mw_125 rfl, df_X6⟩
theorem me_15 : Cond.classLink RX8 18 RX3 ∈ lw_tbl := List.mem_of_getElem? (i := 125) (by decide +kernel)
theorem me_16 : Cond.instantiable RX3 9 ∈ lw_tbl := List.mem_of_getElem? (i := 126) (by decide +kernel)
theorem df_X3 : ∀ j, j < 9 → defaultValue (tyX3 j) = vp_V [.null, .null, .null, .null, .null, .int 0, .int 0, .int 0, .int 0] j := by
  intro j hj
  rcases (show j = 0 ∨ j = 1 ∨ j = 2 ∨ j = 3 ∨ j = 4 ∨ j = 5 ∨ j = 6 ∨ j = 7 ∨ j = 8 by omega) with rfl | rfl | rfl | rfl | rfl | rfl | rfl | rfl | rfl <;> rfl
theorem nf_X8_18 : NF RX8 18 3 9 [.null, .null, .null, .null, .null, .int 0, .int 0, .int 0, .int 0] := ⟨_, _, tyX3, rfl, inX3, tyX3_ok, lg_in me_15 rfl, lg_in me_16 rfl, lg_in mw_31 rfl, df_X3⟩
theorem fd_X8_21 : FD RX8 21 8 1 := ⟨_, _, _, rfl, Nat.le_of_ble_eq_true rfl, inX8, lg_in mw_131 rfl, rfl⟩
theorem me_17 : Cond.classLink RX8 25 RX1 ∈ lw_tbl := List.mem_of_getElem? (i := 173) (by decide +kernel)
theorem me_18 : Cond.instantiable RX1 4 ∈ lw_tbl := List.mem_of_getElem? (i := 174) (by decide +kernel)
theorem df_X1 : ∀ j, j < 4 → defaultValue (tyX1 j) = vp_V [.null, .null, .int 0, .int 0] j := by
  intro j hj
  rcases (show j = 0 ∨ j = 1 ∨ j = 2 ∨ j = 3 by omega) with rfl | rfl | rfl | rfl <;> rfl
theorem nf_X8_25 : NF RX8 25 1 4 [.null, .null, .int 0, .int 0] := ⟨_, _, tyX1, rfl, inX1, tyX1_ok, lg_in me_17 rfl, lg_in me_18 rfl, lg_in mw_10 rfl, df_X1⟩
theorem fd_X8_28 : FD RX8 28 8 2 := ⟨_, _, _, rfl, Nat.le_of_ble_eq_true rfl, inX8, lg_in mw_135 rfl, rfl⟩
theorem me_19 : Cond.classLink RX8 32 RX4 ∈ lw_tbl := List.mem_of_getElem? (i := 196) (by decide +kernel)
theorem me_20 : Cond.instantiable RX4 4 ∈ lw_tbl := List.mem_of_getElem? (i := 197) (by decide +kernel)
theorem df_X4 : ∀ j, j < 4 → defaultValue (tyX4 j) = vp_V [.null, .null, .null, .int 0] j := by
  intro j hj
  rcases (show j = 0 ∨ j = 1 ∨ j = 2 ∨ j = 3 by omega) with rfl | rfl | rfl | rfl <;> rfl
theorem nf_X8_32 : NF RX8 32 4 4 [.null, .null, .null, .int 0] := ⟨_, _, tyX4, rfl, inX4, tyX4_ok, lg_in me_19 rfl, lg_in me_20 rfl, lg_in mw_137 rfl, df_X4⟩
theorem fd_X8_35 : FD RX8 35 8 3 := ⟨_, _, _, rfl, Nat.le_of_ble_eq_true rfl, inX8, lg_in mw_140 rfl, rfl⟩
theorem fd_X8_39 : FD RX8 39 8 4 := ⟨_, _, _, rfl, Nat.le_of_ble_eq_true rfl, inX8, lg_in mw_141 rfl, rfl⟩
theorem fd_X8_42 : FD RX8 42 8 5 := ⟨_, _, _, rfl, Nat.le_of_ble_eq_true rfl, inX8, lg_in mw_142 rfl, rfl⟩
theorem me_21 : Cond.classLink RX8 45 RX7 ∈ lw_tbl := List.mem_of_getElem? (i := 222) (by decide +kernel)
theorem me_22 : Cond.instantiable RX7 13 ∈ lw_tbl := List.mem_of_getElem? (i := 223) (by decide +kernel)
theorem df_X7 : ∀ j, j < 13 → defaultValue (tyX7 j) = vp_V [.null, .null, .null, .null, .null, .null, .null, .null, .null, .int 0, .int 0, .int 0, .int 0] j := by
  intro j hj
  rcases (show j = 0 ∨ j = 1 ∨ j = 2 ∨ j = 3 ∨ j = 4 ∨ j = 5 ∨ j = 6 ∨ j = 7 ∨ j = 8 ∨ j = 9 ∨ j = 10 ∨ j = 11 ∨ j = 12 by omega) with rfl | rfl | rfl | rfl | rfl | rfl | rfl | rfl | rfl | rfl | rfl | rfl | rfl <;> rfl
theorem nf_X8_45 : NF RX8 45 7 13 [.null, .null, .null, .null, .null, .null, .null, .null, .null, .int 0, .int 0, .int 0, .int 0] := ⟨_, _, tyX7, rfl, inX7, tyX7_ok, lg_in me_21 rfl, lg_in me_22 rfl, lg_in mw_84 rfl, df_X7⟩
theorem fd_X8_50 : FD RX8 50 8 6 := ⟨_, _, _, rfl, Nat.le_of_ble_eq_true rfl, inX8, lg_in mw_146 rfl, rfl⟩
theorem fd_X8_54 : FD RX8 54 8 7 := ⟨_, _, _, rfl, Nat.le_of_ble_eq_true rfl, inX8, lg_in mw_147 rfl, rfl⟩
theorem me_23 : Cond.classLink RX8 57 RX2 ∈ lw_tbl := List.mem_of_getElem? (i := 275) (by decide +kernel)
theorem me_24 : Cond.instantiable RX2 3 ∈ lw_tbl := List.mem_of_getElem? (i := 276) (by decide +kernel)
theorem df_X2 : ∀ j, j < 3 → defaultValue (tyX2 j) = vp_V [.int 0, .int 0, .int 0] j := by
  intro j hj
  rcases (show j = 0 ∨ j = 1 ∨ j = 2 by omega) with rfl | rfl | rfl <;> rfl
theorem nf_X8_57 : NF RX8 57 2 3 [.int 0, .int 0, .int 0] := ⟨_, _, tyX2, rfl, inX2, tyX2_ok, lg_in me_23 rfl, lg_in me_24 rfl, lg_in mw_149 rfl, df_X2⟩
theorem fd_X8_60 : FD RX8 60 8 8 := ⟨_, _, _, rfl, Nat.le_of_ble_eq_true rfl, inX8, lg_in mw_152 rfl, rfl⟩
theorem me_25 : Cond.classLink RX8 64 RX0 ∈ lw_tbl := List.mem_of_getElem? (i := 294) (by decide +kernel)
theorem me_26 : Cond.instantiable RX0 4 ∈ lw_tbl := List.mem_of_getElem? (i := 295) (by decide +kernel)
theorem df_X0 : ∀ j, j < 4 → defaultValue (tyX0 j) = vp_V [.null, .long 0, .long 0, .long 0] j := by
  intro j hj
  rcases (show j = 0 ∨ j = 1 ∨ j = 2 ∨ j = 3 by omega) with rfl | rfl | rfl | rfl <;> rfl
theorem nf_X8_64 : NF RX8 64 0 4 [.null, .long 0, .long 0, .long 0] := ⟨_, _, tyX0, rfl, inX0, tyX0_ok, lg_in me_25 rfl, lg_in me_26 rfl, lg_in mw_154 rfl, df_X0⟩
theorem fd_X8_67 : FD RX8 67 8 9 := ⟨_, _, _, rfl, Nat.le_of_ble_eq_true rfl, inX8, lg_in mw_157 rfl, rfl⟩
theorem fd_X8_71 : FD RX8 71 8 10 := ⟨_, _, _, rfl, Nat.le_of_ble_eq_true rfl, inX8, lg_in mw_158 rfl, rfl⟩
theorem me_27 : Cond.classLink RX8 75 RX5 ∈ lw_tbl := List.mem_of_getElem? (i := 317) (by decide +kernel)
theorem fd_X8_77 : FD RX8 77 8 11 := ⟨_, _, _, rfl, Nat.le_of_ble_eq_true rfl, inX8, lg_in mw_159 rfl, rfl⟩
theorem me_28 : Cond.instantiable RX5 4 ∈ lw_tbl := List.mem_of_getElem? (i := 319) (by decide +kernel)
theorem df_X5 : ∀ j, j < 4 → defaultValue (tyX5 j) = vp_V [.null, .int 0, .int 0, .int 0] j := by
  intro j hj
  rcases (show j = 0 ∨ j = 1 ∨ j = 2 ∨ j = 3 by omega) with rfl | rfl | rfl | rfl <;> rfl
theorem nf_X8_75 : NF RX8 75 5 4 [.null, .int 0, .int 0, .int 0] := ⟨_, _, tyX5, rfl, inX5, tyX5_ok, lg_in me_27 rfl, lg_in me_28 rfl, lg_in mw_161 rfl, df_X5⟩
theorem me_29 : Cond.methodLink RX9 1 Lib.objectInit ∈ lw_tbl := List.mem_of_getElem? (i := 786) (by decide +kernel)
theorem oi_X9 : OI RX9 1 := ⟨lg_in me_29 rfl, lg_in me_1 rfl, lg_in me_2 rfl⟩
theorem fd_X9_7 : FD RX9 7 9 0 := ⟨_, _, _, rfl, Nat.le_of_ble_eq_true rfl, inX9, lg_in mw_439 rfl, rfl⟩
theorem fd_X9_13 : FD RX9 13 9 1 := ⟨_, _, _, rfl, Nat.le_of_ble_eq_true rfl, inX9, lg_in mw_440 rfl, rfl⟩
theorem fd_X9_16 : FD RX9 16 9 2 := ⟨_, _, _, rfl, Nat.le_of_ble_eq_true rfl, inX9, lg_in mw_441 rfl, rfl⟩
theorem fd_X9_19 : FD RX9 19 9 3 := ⟨_, _, _, rfl, Nat.le_of_ble_eq_true rfl, inX9, lg_in mw_442 rfl, rfl⟩
theorem fd_X9_22 : FD RX9 22 9 5 := ⟨_, _, _, rfl, Nat.le_of_ble_eq_true rfl, inX9, lg_in mw_443 rfl, rfl⟩
theorem fd_X9_25 : FD RX9 25 9 6 := ⟨_, _, _, rfl, Nat.le_of_ble_eq_true rfl, inX9, lg_in mw_444 rfl, rfl⟩
theorem fd_X9_28 : FD RX9 28 9 9 := ⟨_, _, _, rfl, Nat.le_of_ble_eq_true rfl, inX9, lg_in mw_445 rfl, rfl⟩
theorem fd_X9_31 : FD RX9 31 9 11 := ⟨_, _, _, rfl, Nat.le_of_ble_eq_true rfl, inX9, lg_in mw_446 rfl, rfl⟩
theorem fd_X9_34 : FD RX9 34 9 12 := ⟨_, _, _, rfl, Nat.le_of_ble_eq_true rfl, inX9, lg_in mw_447 rfl, rfl⟩
theorem fd_X9_37 : FD RX9 37 9 14 := ⟨_, _, _, rfl, Nat.le_of_ble_eq_true rfl, inX9, lg_in mw_448 rfl, rfl⟩
theorem fd_X9_40 : FD RX9 40 9 16 := ⟨_, _, _, rfl, Nat.le_of_ble_eq_true rfl, inX9, lg_in mw_449 rfl, rfl⟩
theorem fd_X9_43 : FD RX9 43 9 18 := ⟨_, _, _, rfl, Nat.le_of_ble_eq_true rfl, inX9, lg_in mw_450 rfl, rfl⟩
theorem fd_X9_46 : FD RX9 46 9 19 := ⟨_, _, _, rfl, Nat.le_of_ble_eq_true rfl, inX9, lg_in mw_451 rfl, rfl⟩
theorem fd_X9_49 : FD RX9 49 9 20 := ⟨_, _, _, rfl, Nat.le_of_ble_eq_true rfl, inX9, lg_in mw_452 rfl, rfl⟩
theorem fd_X9_52 : FD RX9 52 9 22 := ⟨_, _, _, rfl, Nat.le_of_ble_eq_true rfl, inX9, lg_in mw_453 rfl, rfl⟩
theorem fd_X9_55 : FD RX9 55 9 23 := ⟨_, _, _, rfl, Nat.le_of_ble_eq_true rfl, inX9, lg_in mw_454 rfl, rfl⟩
