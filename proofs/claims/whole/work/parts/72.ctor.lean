/-! ===== the constructors: what they stand on ===== -/
def zI (cs : vq_S) (N : Nat) : va_E := .inl (cs.1, N, .inl (fun _ => 0))
def zL (cs : vq_S) (N : Nat) : va_E := .inl (cs.2.1, N, .inr (.inl (fun _ => 0)))
def zZ (cs : vq_S) (N : Nat) : va_E := .inl (cs.2.2.1, N, .inl (fun _ => 0))
def zR (cs : vq_S) (N : Nat) (f : Nat → Option Nat) : va_E := .inl (cs.2.2.2, N, .inr (.inr (.inr (.inr f))))
def kc_nest : List (String × Nat × MethodName) := [(RX1, 11, yX3_init), (RX1, 20, yX7_init), (RX4, 11, yX6_init), (RX4, 20, yX2_init), (RX4, 27, yX0_init), (RX5, 11, yX8_init), (RX5, 24, yX1_init)]
def kc_O (U : State) : Prop := va_AO "LoopGroup$Loop" U ∧ ∀ x ∈ kc_nest, va_Nw (.methodLinkNest x.1 x.2.1 x.2.2 "LoopGroup") U
theorem kc_O.warm {u U : State} (hW : u.WarmedH U.vm) (h : kc_O u) : kc_O U := ⟨va_AO.moved hW.alike h.1, fun x hx => va_Nw.warmM hW (h.2 x hx)⟩
theorem kc_O.same {u U : State} (hv : u.vm = U.vm) (h : kc_O u) : kc_O U := ⟨va_AO.moved (by rw [← hv]; exact Vm.Alike.refl u.vm) h.1, fun x hx => va_Nw.same rfl hv (h.2 x hx)⟩
def kc_X (own : String) (cc : ByteArray) (nL : Nat) (cs : vq_S) (D : va_G) (A : Nat → Prop) (p : Program) (s : State) (m : MethodId) (args : Array Value) (c : Code) : Prop :=
  p.tables.exec = Jvm.exec ∧ c.code = cc ∧ c.maxLocals = nL ∧ s.vm.findClass own = some m.cls ∧ (∀ w ∈ WLA, w.before args s = true) ∧ va_K D vwCl (vq_ty cs) s ∧ kc_O s ∧ (∀ q, s.heap.size ≤ q → A q)
abbrev kc_rm (d K S : Nat) : Room := { frames := d, cells := K, slots := S, locals := 64 * d }
def kc_Pc (cs : vq_S) (D : va_G) (h0 ci : Nat) (fs0 As : List Value) (sz : Nat) : Array Value → State → Prop := va_Pc (.ref h0 :: As) (fun U => U.heap.size = sz ∧ va_P D vwCl [(h0, .inr (ci, fs0))] U.heap ∧ va_K D vwCl (vq_ty cs) U ∧ kc_O U ∧ va_D (fun _ => True) [(h0, .inr (ci, fs0))])
def kc_Q (cs : vq_S) (D : va_G) (h0 ci : Nat) (A : Nat → Prop) (Post : List Value → va_W → Prop) : Array Value → State → Outcome → State → Prop :=
  va_Qv (fun u : List Value × va_W => Post u.1 u.2) (fun u t => va_P D vwCl ((h0, .inr (ci, u.1)) :: u.2) t.heap ∧ va_K D vwCl (vq_ty cs) t ∧ va_D A ((h0, .inr (ci, u.1)) :: u.2)) A
/-- a constructor's contract: of a fresh object of the class ci it makes what Post says, K cells of S slots -/
def KC (l : Launch) (y : vq_M) (d K S ci : Nat) (fs0 As : List Value) (Post : vq_S → Nat → List Value → va_W → Prop) : Prop :=
  ∀ (h0 : Nat) (cs : vq_S) (D : va_G) (sz : Nat), Met l y.1 (Cond.code y.1 y.2.1 y.2.2.1 y.2.2.2 :: WLA) (kc_rm d K S) (kc_Pc cs D h0 ci fs0 As sz) (kc_Q cs D h0 ci (va_A [(h0, .inr (ci, fs0))] sz) (Post cs h0)) K S (va_A [(h0, .inr (ci, fs0))] sz)
theorem kc_blind {cs : vq_S} {D : va_G} {h0 ci : Nat} {fs0 As : List Value} {sz : Nat} : FrameBlind (kc_Pc cs D h0 ci fs0 As sz) := by
  intro v U g mk h
  obtain ⟨q0, q1, qP, qK, qO, qD⟩ := h
  exact ⟨q0, q1, qP, va_K.moved (u := U) (U := U.calling g mk v) (Vm.Alike.refl U.vm) qK, kc_O.same (u := U) (U := U.calling g mk v) rfl qO, qD⟩
theorem KC_of {l : Launch} {y : vq_M} {d K S ci : Nat} {fs0 As : List Value} {Post : vq_S → Nat → List Value → va_W → Prop} (lv : Nat → List (Nat × Value)) (hy : plainName y.1.cls = true) (hi : y.1.name = "<init>") (hr : y.2.2.2 = none) (hnl : ∀ h0, (lg_sl (.ref h0 :: As)).length ≤ y.2.2.1) (hlv : ∀ h0, lv_args 0 (.ref h0 :: As) = lv h0)
    (h : ∀ (p : Program) (e : Env) (s : State) (m : MethodId) (args : Array Value) (below : List Frame) (meth : Method) (c : Code) (h0 : Nat) (cs : vq_S) (D : va_G) (A : Nat → Prop) (ls : Array Slot),
      kc_X y.1.cls y.2.1 y.2.2.1 cs D A p s m args c → meth.sig.returnType = none → meth.locks = false → meth.name = "<init>" → va_P D vwCl [(h0, .inr (ci, fs0))] s.heap → va_D A [(h0, .inr (ci, fs0))] → va_S A s.heap s.heap [] → lv_has ls y.2.2.1 (lv h0) →
      W p l e (kc_rm d K S) s m args below meth c s.heap [] 0 0 (MQ below (kc_Q cs D h0 ci A (Post cs h0)) args s K S A) (F0 m 0 ls [])) : KC l y d K S ci fs0 As Post := by
  intro h0 cs D sz
  refine Met.ofW (cc := y.2.1) (maxL := y.2.2.1) (ret := y.2.2.2) hy rfl ?_
  intro p e s m args below meth c s₁ B hml hv
  obtain ⟨rfl, hsz, hP, hK, hO, hD0⟩ := hv
  have hts := atoms_spec (ws := Cond.code y.1 y.2.1 y.2.2.1 y.2.2.2 :: WLA) B.pre
  subst hsz
  have hD := hD0.self (sz := s.heap.size)
  have hl := lv_entry (.ref h0 :: As) (n := y.2.2.1) (hnl h0)
  rw [lg_entry_eq]
  rw [hlv h0] at hl
  exact h p e s m _ below meth c h0 cs D _ _ ⟨B.exec, B.bytes, hml, findClass_of_methodNamed B.named, fun w hw => hts w (List.mem_cons_of_mem _ hw), hK, hO, fun q hq => Or.inr hq⟩ (B.returns.trans hr) B.notSynchronized ((name_of_methodNamed B.named B.method).1.trans hi) hP hD va_S.rf hl
theorem kj {A0 : Nat → Prop} {D : va_G} {cl : List vw_C} {wr w1 : va_W} {x : Nat × va_E} {H H1 : Heap} (hP : va_P D cl (wr ++ [x]) H) (hD : va_D A0 (wr ++ [x])) (hk : ∀ q : Nat, q < H.size → ¬ va_A [x] H.size q → H1[q]? = H[q]?) (hF : ∀ q, va_A [x] H.size q → A0 q) (hP1 : va_P D cl w1 H1) (hD1 : va_D (va_A [x] H.size) w1) : va_P D cl (wr ++ w1) H1 ∧ va_D A0 (wr ++ w1) := by
  have hin : ∀ (k : Nat) (q : Nat × va_E), wr[k]? = some q → (wr ++ [x])[k]? = some q := fun k q h => by
    rw [List.getElem?_append_left (List.getElem?_eq_some_iff.mp h).1]; exact h
  have hx : (wr ++ [x])[wr.length]? = some x := by simp
  have apart : ∀ (k : Nat) (q : Nat × va_E), wr[k]? = some q → q.1 < H.size ∧ ¬ va_A [x] H.size q.1 := by
    intro k q hq
    have hl := (hP k q (hin k q hq)).lt
    refine ⟨hl, fun h => ?_⟩
    rcases h with ⟨k2, e, h⟩ | h
    · have h0 : k2 = 0 := by
        have := (List.getElem?_eq_some_iff.mp h).1
        simp only [List.length_cons, List.length_nil] at this
        omega
      subst h0
      simp only [List.getElem?_cons_zero, Option.some.injEq] at h
      have := hD.1 k wr.length q x (hin k q hq) hx (by rw [h])
      have := (List.getElem?_eq_some_iff.mp hq).1
      omega
    · omega
  refine ⟨va_P.app (fun k q hq => ?_) hP1, va_D.app ⟨fun i j y z hy hz e => hD.1 i j y z (hin i y hy) (hin j z hz) e, fun k q hq => hD.2 k q (hin k q hq)⟩ (hD1.weaken (fun k q _ h => hF q.1 h)) (fun i j y z hy hz hyz => ?_)⟩
  · obtain ⟨g1, g2⟩ := apart k q hq
    exact (hP k q (hin k q hq)).kept (hk q.1 g1 g2)
  · exact (apart i y hy).2 (by rw [hyz]; exact hD1.2 j z hz)
section KN
variable {l : Launch} {R : Room} {p : Program} {e : Env} {s : State} {m : MethodId} {args : Array Value} {below : List Frame} {meth : Method} {c : Code} {cs : vq_S} {D : va_G} {A : Nat → Prop} {H : Heap} {locs : List Loc} {ls : Array Slot} {rest : List Value} {own : String} {cc : ByteArray} {nL pc k sl : Nat} {Z : State → Prop} {ws : va_W}
theorem kn_newI (C : kc_X own cc nL cs D A p s m args c) (hP : va_P D vwCl ws H) (hD : va_D A ws) (hS : va_S A s.heap H locs) {x : Int32} (N : Nat) (hn : ¬ x < 0) (hN : x.toNatClampNeg = N) (hN2 : N ≤ 100000) (hk : k + 1 ≤ R.cells) (hs : sl + N ≤ R.slots) (hd : decode cc pc = .ok (.newarray .int, 2))
    (kk : ∀ q H, va_P D vwCl (ws ++ [(q, zI cs N)]) H → va_D A (ws ++ [(q, zI cs N)]) → va_S A s.heap H locs → W p l e R s m args below meth c H locs (k + 1) (sl + N) Z (F0 m (pc + 2) ls (.ref q :: rest))) : W p l e R s m args below meth c H locs k sl Z (F0 m pc ls (.int x :: rest)) := by
  refine va_newa (atype := .int) (ty := .int) (a0 := (N, .inl (fun _ => 0))) C.1 C.2.1 (C.2.2.2.2.1 _ arr_int) rfl C.2.2.2.2.2.1 hP hD hS C.2.2.2.2.2.2.2 (fun cA => rfl) hn hN (by show N * 4 ≤ _; omega) hk hs hd (fun q cA H1 hK1 hP1 hD1 hS1 => ?_)
  have e9 : cA = cs.1 := Option.some.inj ((hK1.2 4 (cA, .int) rfl).2.symm.trans (C.2.2.2.2.2.1.2 0 (cs.1, .int) rfl).2)
  subst e9
  exact kk q H1 hP1 hD1 hS1
theorem kn_newL (C : kc_X own cc nL cs D A p s m args c) (hP : va_P D vwCl ws H) (hD : va_D A ws) (hS : va_S A s.heap H locs) {x : Int32} (N : Nat) (hn : ¬ x < 0) (hN : x.toNatClampNeg = N) (hN2 : N ≤ 100000) (hk : k + 1 ≤ R.cells) (hs : sl + N ≤ R.slots) (hd : decode cc pc = .ok (.newarray .long, 2))
    (kk : ∀ q H, va_P D vwCl (ws ++ [(q, zL cs N)]) H → va_D A (ws ++ [(q, zL cs N)]) → va_S A s.heap H locs → W p l e R s m args below meth c H locs (k + 1) (sl + N) Z (F0 m (pc + 2) ls (.ref q :: rest))) : W p l e R s m args below meth c H locs k sl Z (F0 m pc ls (.int x :: rest)) := by
  refine va_newa (atype := .long) (ty := .long) (a0 := (N, .inr (.inl (fun _ => 0)))) C.1 C.2.1 (C.2.2.2.2.1 _ arr_long) rfl C.2.2.2.2.2.1 hP hD hS C.2.2.2.2.2.2.2 (fun cA => rfl) hn hN (by show N * 8 ≤ _; omega) hk hs hd (fun q cA H1 hK1 hP1 hD1 hS1 => ?_)
  have e9 : cA = cs.2.1 := Option.some.inj ((hK1.2 4 (cA, .long) rfl).2.symm.trans (C.2.2.2.2.2.1.2 1 (cs.2.1, .long) rfl).2)
  subst e9
  exact kk q H1 hP1 hD1 hS1
theorem kn_newZ (C : kc_X own cc nL cs D A p s m args c) (hP : va_P D vwCl ws H) (hD : va_D A ws) (hS : va_S A s.heap H locs) {x : Int32} (N : Nat) (hn : ¬ x < 0) (hN : x.toNatClampNeg = N) (hN2 : N ≤ 100000) (hk : k + 1 ≤ R.cells) (hs : sl + N ≤ R.slots) (hd : decode cc pc = .ok (.newarray .boolean, 2))
    (kk : ∀ q H, va_P D vwCl (ws ++ [(q, zZ cs N)]) H → va_D A (ws ++ [(q, zZ cs N)]) → va_S A s.heap H locs → W p l e R s m args below meth c H locs (k + 1) (sl + N) Z (F0 m (pc + 2) ls (.ref q :: rest))) : W p l e R s m args below meth c H locs k sl Z (F0 m pc ls (.int x :: rest)) := by
  refine va_newa (atype := .boolean) (ty := .boolean) (a0 := (N, .inl (fun _ => 0))) C.1 C.2.1 (C.2.2.2.2.1 _ arr_boolean) rfl C.2.2.2.2.2.1 hP hD hS C.2.2.2.2.2.2.2 (fun cA => rfl) hn hN (by show N * 1 ≤ _; omega) hk hs hd (fun q cA H1 hK1 hP1 hD1 hS1 => ?_)
  have e9 : cA = cs.2.2.1 := Option.some.inj ((hK1.2 4 (cA, .boolean) rfl).2.symm.trans (C.2.2.2.2.2.1.2 2 (cs.2.2.1, .boolean) rfl).2)
  subst e9
  exact kk q H1 hP1 hD1 hS1
theorem kn_newR (C : kc_X own cc nL cs D A p s m args c) (hP : va_P D vwCl ws H) (hD : va_D A ws) (hS : va_S A s.heap H locs) {x : Int32} (N : Nat) {ix : Nat} (hw : Cond.classLink own ix "LoopGroup$Loop" ∈ WLA) (hn : ¬ x < 0) (hN : x.toNatClampNeg = N) (hN2 : N ≤ 100000) (hk : k + 1 ≤ R.cells) (hs : sl + N ≤ R.slots) (hd : decode cc pc = .ok (.anewarray ix, 3))
    (kk : ∀ q H, va_P D vwCl (ws ++ [(q, zR cs N (fun _ => none))]) H → va_D A (ws ++ [(q, zR cs N (fun _ => none))]) → va_S A s.heap H locs → W p l e R s m args below meth c H locs (k + 1) (sl + N) Z (F0 m (pc + 3) ls (.ref q :: rest))) : W p l e R s m args below meth c H locs k sl Z (F0 m pc ls (.int x :: rest)) := by
  refine va_newq C.1 C.2.1 C.2.2.2.1 (C.2.2.2.2.1 _ hw) C.2.2.2.2.2.2.1.1 C.2.2.2.2.2.1 hP hD hS C.2.2.2.2.2.2.2 hn hN (by omega) hk hs hd (fun q cA H1 hK1 hP1 hD1 hS1 => ?_)
  have e9 : cA = cs.2.2.2 := by
    obtain ⟨_, _, _, _, _, h4⟩ := (hK1.2 4 (cA, .object "LoopGroup$Loop") rfl).2
    obtain ⟨_, _, _, _, _, h5⟩ := (C.2.2.2.2.2.1.2 3 (cs.2.2.2, .object "LoopGroup$Loop") rfl).2
    exact Option.some.inj (h4.symm.trans h5)
  subst e9
  exact kk q H1 hP1 hD1 hS1
theorem kn_new (ci : Nat) (fs : List Value) (hci : ci < 11) {ix : Nat} (C : kc_X own cc nL cs D A p s m args c) (hP : va_P D vwCl ws H) (hD : va_D A ws) (hS : va_S A s.heap H locs) (hw : Cond.classLink own ix (vq_cl ci).1 ∈ WLA) (hi : Cond.instantiable (vq_cl ci).1 (vq_cl ci).2.2 ∈ WLA) (hini : Cond.initialized (vq_cl ci).1 ∈ WLA) (hfs : ∀ j, j < (vq_cl ci).2.2 → defaultValue (vq_tyf ci j) = vp_V fs j) (hk : k + 1 ≤ R.cells) (hs : sl + (vq_cl ci).2.2 ≤ R.slots) (hd : decode cc pc = .ok (.new ix, 3))
    (kk : ∀ q H, va_P D vwCl (ws ++ [(q, .inr (ci, fs))]) H → va_D A (ws ++ [(q, .inr (ci, fs))]) → va_S A s.heap H locs → W p l e R s m args below meth c H locs (k + 1) (sl + (vq_cl ci).2.2) Z (F0 m (pc + 3) ls (.ref q :: rest))) : W p l e R s m args below meth c H locs k sl Z (F0 m pc ls rest) :=
  va_new (ci := ci) (fs := fs) (C := (vq_cl ci).1) (T := (vq_cl ci).2.1) (N := (vq_cl ci).2.2) C.1 C.2.1 C.2.2.2.2.1 (fun w h => inWS (vq_lay ci hci w h)) (vq_tyf ci) (vq_tyok ci hci) C.2.2.2.1 (C.2.2.2.2.1 _ hw) (C.2.2.2.2.1 _ hi) (C.2.2.2.2.1 _ hini) C.2.2.2.2.2.1 hP hD hS C.2.2.2.2.2.2.2 (vq_clg ci hci) hfs hk hs hd kk
theorem kn_putF (q0 ci j : Nat) {h0 ix : Nat} {fs : List Value} {v : Value} {ty : FieldType} (hci : ci < 11) (C : kc_X own cc nL cs D A p s m args c) (hin : meth.name = "<init>") (hP : va_P D vwCl ws H) (hD : va_D A ws) (hS : va_S A s.heap H locs) (he : ws[q0]? = some (h0, .inr (ci, fs))) (hj : j < (vq_cl ci).2.2) (hf : ((vq_cl ci).2.1 j).2.2.2 = true) (ho : ((vq_cl ci).2.1 j).1 = own) (hp : vq_tyf ci j = ty) (hn : narrow ty v = v) (hfit : fits ty v = true) (hlf : j < fs.length) (hw : Cond.fieldLink own ix ((vq_cl ci).2.1 j).1 ((vq_cl ci).2.1 j).2.1 ((vq_cl ci).2.1 j).2.2.1 ∈ WLA) (hd : decode cc pc = .ok (.putfield ix, 3))
    (kk : ∀ H locs, va_P D vwCl (ws.set q0 (h0, .inr (ci, fs.set j v))) H → va_D A (ws.set q0 (h0, .inr (ci, fs.set j v))) → va_S A s.heap H locs → W p l e R s m args below meth c H locs k sl Z (F0 m (pc + 3) ls rest)) : W p l e R s m args below meth c H locs k sl Z (F0 m pc ls (v :: .ref h0 :: rest)) :=
  va_putF (D := D) (ci := ci) (v := v) (ty := ty) (own := own) C.1 C.2.1 C.2.2.2.2.1 (fun w h => inWS (vq_lay ci hci w h)) (vq_tyf ci) (vq_tyok ci hci) (vq_nm ci hci) C.2.2.2.1 C.2.2.2.2.2.1 hP hD hS q0 he (vq_clg ci hci) j hj (C.2.2.2.2.1 _ hw) (fun _ h => h) hf hin ho (hp ▸ vq_tyok ci hci j hj) hn hfit hlf hd kk
theorem kn_put (q0 ci j : Nat) {h0 ix : Nat} {fs : List Value} {v : Value} {ty : FieldType} (hci : ci < 11) (C : kc_X own cc nL cs D A p s m args c) (hP : va_P D vwCl ws H) (hD : va_D A ws) (hS : va_S A s.heap H locs) (he : ws[q0]? = some (h0, .inr (ci, fs))) (hj : j < (vq_cl ci).2.2) (hf : ((vq_cl ci).2.1 j).2.2.2 = false) (hp : vq_tyf ci j = ty) (hn : narrow ty v = v) (hfit : fits ty v = true) (hlf : j < fs.length) (hw : Cond.fieldLink own ix ((vq_cl ci).2.1 j).1 ((vq_cl ci).2.1 j).2.1 ((vq_cl ci).2.1 j).2.2.1 ∈ WLA) (hd : decode cc pc = .ok (.putfield ix, 3))
    (kk : ∀ H locs, va_P D vwCl (ws.set q0 (h0, .inr (ci, fs.set j v))) H → va_D A (ws.set q0 (h0, .inr (ci, fs.set j v))) → va_S A s.heap H locs → W p l e R s m args below meth c H locs k sl Z (F0 m (pc + 3) ls rest)) : W p l e R s m args below meth c H locs k sl Z (F0 m pc ls (v :: .ref h0 :: rest)) :=
  va_put (D := D) (ci := ci) (v := v) (ty := ty) (own := own) C.1 C.2.1 C.2.2.2.2.1 (fun w h => inWS (vq_lay ci hci w h)) (vq_tyf ci) (vq_tyok ci hci) (vq_nm ci hci) C.2.2.2.1 C.2.2.2.2.2.1 hP hD hS q0 he (vq_clg ci hci) j hj (C.2.2.2.2.1 _ hw) (fun _ h => h) hf (hp ▸ vq_tyok ci hci j hj) hn hfit hlf hd kk
theorem kn_get (q0 ci j : Nat) {h0 ix : Nat} {fs : List Value} {v : Value} (hci : ci < 11) (C : kc_X own cc nL cs D A p s m args c) (hP : va_P D vwCl ws H) (he : ws[q0]? = some (h0, .inr (ci, fs))) (hj : j < (vq_cl ci).2.2) (hv : fs[j]? = some v) (hw : Cond.fieldLink own ix ((vq_cl ci).2.1 j).1 ((vq_cl ci).2.1 j).2.1 ((vq_cl ci).2.1 j).2.2.1 ∈ WLA) (hd : decode cc pc = .ok (.getfield ix, 3))
    (kk : W p l e R s m args below meth c H locs k sl Z (F0 m (pc + 3) ls (v :: rest))) : W p l e R s m args below meth c H locs k sl Z (F0 m pc ls (.ref h0 :: rest)) :=
  va_get (D := D) (ci := ci) (v := v) (own := own) C.1 C.2.1 C.2.2.2.2.1 (fun w h => inWS (vq_lay ci hci w h)) C.2.2.2.1 C.2.2.2.2.2.1 hP q0 he (vq_clg ci hci) j hj (C.2.2.2.2.1 _ hw) (fun _ h => h) hv hd kk
theorem kn_obj {ix h0 : Nat} (C : kc_X own cc nL cs D A p s m args c) (hl : ls.size = nL) (hw : Cond.methodLink own ix objectInit ∈ WLA) (hi : Cond.instanceMethod objectInit ∈ WLA) (hc : Cond.code objectInit ⟨#[0xb1]⟩ 1 none ∈ WLA) (hd : decode cc pc = .ok (.invokespecial ix, 3)) (hf : 1 ≤ R.frames) (hlo : (rest.map fun v => v.category).sum + 12 ≤ R.locals)
    (kk : W p l e R s m args below meth c H locs k sl Z (F0 m (pc + 3) ls rest)) : W p l e R s m args below meth c H locs k sl Z (F0 m pc ls (.ref h0 :: rest)) :=
  W.objInit C.1 C.2.1 C.2.2.2.1 (C.2.2.2.2.1 _ hw) (C.2.2.2.2.1 _ hi) (C.2.2.2.2.1 _ hc) rfl (by rw [C.2.2.1]; exact hl) rfl hd hf (by show 2 * 0 + _ + 12 ≤ _; omega) kk
/-- a constructor's call: of the object that was just made -/
theorem kn_call {y' : vq_M} {na ix d' K' S' q ci : Nat} {fs0 As : List Value} {Post : vq_S → Nat → List Value → va_W → Prop} {wr : va_W}
    (hM : KC l y' d' K' S' ci fs0 As Post) (hlen : As.length = na) (hr : y'.2.2.2 = none) (hname : y'.1.name = "<init>") (hcls : y'.1.cls ≠ "java/lang/invoke/MethodHandle" ∧ y'.1.cls ≠ "java/lang/invoke/VarHandle" ∧ (parseMethodDescriptor y'.1.desc).map (fun d => d.parameters.length) = some na) (hcode : Cond.code y'.1 y'.2.1 y'.2.2.1 y'.2.2.2 ∈ WLA) (hini : Cond.initialized y'.1.cls ∈ WLA) (hw : Cond.methodLink own ix y'.1 ∈ WLA) (hin : Cond.instanceMethod y'.1 ∈ WLA) (hd : decode cc pc = .ok (.invokespecial ix, 3)) (hrest : (rest.map fun v => v.category).sum ≤ 8) (hR : d' + 1 ≤ R.frames ∧ 8 + (y'.2.2.1 + 11) + 64 * d' ≤ R.locals) (hk : k + K' ≤ R.cells ∧ sl + S' ≤ R.slots)
    (C : kc_X own cc nL cs D A p s m args c) (hP : va_P D vwCl (wr ++ [(q, .inr (ci, fs0))]) H) (hD : va_D A (wr ++ [(q, .inr (ci, fs0))])) (hS : va_S A s.heap H locs) (hl : ls.size = nL)
    (kk : ∀ fs tl H locs, Post cs q fs tl → va_P D vwCl (wr ++ (q, .inr (ci, fs)) :: tl) H → va_D A (wr ++ (q, .inr (ci, fs)) :: tl) → va_S A s.heap H locs → W p l e R s m args below meth c H locs (k + K') (sl + S') Z (F0 m (pc + 3) ls rest)) :
    W p l e R s m args below meth c H locs k sl Z (F0 m pc ls (As.reverse ++ .ref q :: rest)) := by
  obtain ⟨c1, c2, c3, c4, c5, c6, c7, c8⟩ := C
  have hF : ∀ z, va_A [(q, .inr (ci, fs0))] H.size z → A z := by
    intro z hz
    rcases hz with ⟨k2, e2, h⟩ | h
    · have h0 : k2 = 0 := by
        have := (List.getElem?_eq_some_iff.mp h).1
        simp only [List.length_cons, List.length_nil] at this
        omega
      subst h0
      simp only [List.getElem?_cons_zero, Option.some.injEq] at h
      have := hD.2 wr.length (q, .inr (ci, fs0)) (by simp)
      have hq : q = z := congrArg Prod.fst h
      rw [← hq]
      exact this
    · exact c8 z (Nat.le_trans hS.1 h)
  have hx : (wr ++ [(q, (Sum.inr (ci, fs0) : va_E))])[wr.length]? = some (q, .inr (ci, fs0)) := by simp
  have hPc : va_P D vwCl [(q, .inr (ci, fs0))] H := by
    intro k2 z h
    have h0 : k2 = 0 := by
      have := (List.getElem?_eq_some_iff.mp h).1
      simp only [List.length_cons, List.length_nil] at this
      omega
    subst h0
    simp only [List.getElem?_cons_zero, Option.some.injEq] at h
    exact h ▸ hP wr.length _ hx
  have hDc : va_D (fun _ => True) [(q, (Sum.inr (ci, fs0) : va_E))] := by
    refine ⟨fun i j y z hy hz _ => ?_, fun _ _ _ => trivial⟩
    have h1 := (List.getElem?_eq_some_iff.mp hy).1
    have h2 := (List.getElem?_eq_some_iff.mp hz).1
    simp only [List.length_cons, List.length_nil] at h1 h2
    omega
  have hG : GoodIn WLA (Cond.code y'.1 y'.2.1 y'.2.2.1 none :: WLA) := by
    intro w h
    have hm : w ∈ WLA := by
      rcases List.mem_cons.mp h with rfl | h
      · exact hr ▸ hcode
      · exact h
    exact ⟨hm, vl_gd hm⟩
  have hMet := hM q cs D H.size
  rw [hr] at hMet
  refine va_callv (va_runI (As := As) (rest := rest) (b := q) ⟨c1, c2, c3, c4, c5⟩ hMet (cwI na c5 hG rfl rfl rfl (c5 _ hini) (c5 _ hw) (c5 _ hin) hname hcls hR) ⟨kc_blind, fun U hU hW => ⟨rfl, by rw [hU], by rw [hU]; exact hPc, va_K.moved hW.alike c6, kc_O.warm hW c7, hDc⟩⟩ rfl hlen hl rfl (lv_room hrest) hd hk) hS (fun z _ h => hF z h) hF (fun u t H1 locs1 ht hvm hp hB hz1 hk1 hS1 => ?_)
  obtain ⟨hP1, hK1, hD1⟩ := hB
  rw [ht] at hP1
  obtain ⟨g1, g2⟩ := kj hP hD hk1 hF hP1 hD1
  exact kk u.1 u.2 H1 locs1 hp g1 g2 hS1
theorem kn_callN {y' : vq_M} {na ix d' K' S' q ci : Nat} {fs0 As : List Value} {Post : vq_S → Nat → List Value → va_W → Prop} {wr : va_W}
    (hM : KC l y' d' K' S' ci fs0 As Post) (hlen : As.length = na) (hr : y'.2.2.2 = none) (hname : y'.1.name = "<init>") (hcls : y'.1.cls ≠ "java/lang/invoke/MethodHandle" ∧ y'.1.cls ≠ "java/lang/invoke/VarHandle" ∧ (parseMethodDescriptor y'.1.desc).map (fun d => d.parameters.length) = some na) (hcode : Cond.code y'.1 y'.2.1 y'.2.2.1 y'.2.2.2 ∈ WLA) (hini : Cond.initialized y'.1.cls ∈ WLA) (hw : (own, ix, y'.1) ∈ kc_nest) (hin : Cond.instanceMethod y'.1 ∈ WLA) (hd : decode cc pc = .ok (.invokespecial ix, 3)) (hrest : (rest.map fun v => v.category).sum ≤ 8) (hR : d' + 1 ≤ R.frames ∧ 8 + (y'.2.2.1 + 11) + 64 * d' ≤ R.locals) (hk : k + K' ≤ R.cells ∧ sl + S' ≤ R.slots)
    (C : kc_X own cc nL cs D A p s m args c) (hP : va_P D vwCl (wr ++ [(q, .inr (ci, fs0))]) H) (hD : va_D A (wr ++ [(q, .inr (ci, fs0))])) (hS : va_S A s.heap H locs) (hl : ls.size = nL)
    (kk : ∀ fs tl H locs, Post cs q fs tl → va_P D vwCl (wr ++ (q, .inr (ci, fs)) :: tl) H → va_D A (wr ++ (q, .inr (ci, fs)) :: tl) → va_S A s.heap H locs → W p l e R s m args below meth c H locs (k + K') (sl + S') Z (F0 m (pc + 3) ls rest)) :
    W p l e R s m args below meth c H locs k sl Z (F0 m pc ls (As.reverse ++ .ref q :: rest)) := by
  obtain ⟨c1, c2, c3, c4, c5, c6, c7, c8⟩ := C
  have hF : ∀ z, va_A [(q, .inr (ci, fs0))] H.size z → A z := by
    intro z hz
    rcases hz with ⟨k2, e2, h⟩ | h
    · have h0 : k2 = 0 := by
        have := (List.getElem?_eq_some_iff.mp h).1
        simp only [List.length_cons, List.length_nil] at this
        omega
      subst h0
      simp only [List.getElem?_cons_zero, Option.some.injEq] at h
      have := hD.2 wr.length (q, .inr (ci, fs0)) (by simp)
      have hq : q = z := congrArg Prod.fst h
      rw [← hq]
      exact this
    · exact c8 z (Nat.le_trans hS.1 h)
  have hx : (wr ++ [(q, (Sum.inr (ci, fs0) : va_E))])[wr.length]? = some (q, .inr (ci, fs0)) := by simp
  have hPc : va_P D vwCl [(q, .inr (ci, fs0))] H := by
    intro k2 z h
    have h0 : k2 = 0 := by
      have := (List.getElem?_eq_some_iff.mp h).1
      simp only [List.length_cons, List.length_nil] at this
      omega
    subst h0
    simp only [List.getElem?_cons_zero, Option.some.injEq] at h
    exact h ▸ hP wr.length _ hx
  have hDc : va_D (fun _ => True) [(q, (Sum.inr (ci, fs0) : va_E))] := by
    refine ⟨fun i j y z hy hz _ => ?_, fun _ _ _ => trivial⟩
    have h1 := (List.getElem?_eq_some_iff.mp hy).1
    have h2 := (List.getElem?_eq_some_iff.mp hz).1
    simp only [List.length_cons, List.length_nil] at h1 h2
    omega
  have hG : GoodIn WLA (Cond.code y'.1 y'.2.1 y'.2.2.1 none :: WLA) := by
    intro w h
    have hm : w ∈ WLA := by
      rcases List.mem_cons.mp h with rfl | h
      · exact hr ▸ hcode
      · exact h
    exact ⟨hm, vl_gd hm⟩
  have hMet := hM q cs D H.size
  rw [hr] at hMet
  refine va_callv (va_runIN (As := As) (rest := rest) (b := q) ⟨c1, c2, c3, c4, c5⟩ hMet ⟨va_cnB na c5 hG rfl rfl rfl (c7.2 _ hw) (c5 _ hini) hcls hR, hname, c5 _ hin⟩ ⟨kc_blind, fun U hU hW => ⟨rfl, by rw [hU], by rw [hU]; exact hPc, va_K.moved hW.alike c6, kc_O.warm hW c7, hDc⟩⟩ rfl hlen hl rfl (lv_room hrest) hd hk) hS (fun z _ h => hF z h) hF (fun u t H1 locs1 ht hvm hp hB hz1 hk1 hS1 => ?_)
  obtain ⟨hP1, hK1, hD1⟩ := hB
  rw [ht] at hP1
  obtain ⟨g1, g2⟩ := kj hP hD hk1 hF hP1 hD1
  exact kk u.1 u.2 H1 locs1 hp g1 g2 hS1
theorem kn_ret {h0 ci K S : Nat} {d : Nat} {fs : List Value} {tl : va_W} {Post : List Value → va_W → Prop} (C : kc_X own cc nL cs D A p s m args c) (hr : meth.sig.returnType = none) (hlk : meth.locks = false) (hd : decode cc pc = .ok (.return_, 1)) (hk : k ≤ K) (hs : sl ≤ S) (hP : va_P D vwCl ((h0, .inr (ci, fs)) :: tl) H) (hD : va_D A ((h0, .inr (ci, fs)) :: tl)) (hS : va_S A s.heap H locs) (h : Post fs tl) :
    W p l e (kc_rm d K S) s m args below meth c H locs k sl (MQ below (kc_Q cs D h0 ci A Post) args s K S A) (F0 m pc ls []) := by
  refine W.widen (k := K) (n := S) hk hs ?_
  exact W.vret C.1 C.2.1 hr (fun t ht hW => ⟨⟨(fs, tl), rfl, h, by rw [ht]; exact hP, va_K.moved hW.alike C.2.2.2.2.2.1, hD⟩, hS.F ht⟩) hS.2.2 hd hlk
end KN
