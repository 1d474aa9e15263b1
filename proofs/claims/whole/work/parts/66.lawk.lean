/-! ===== the law's class: calls from it, what it catches ===== -/
section Rows9
variable {p : Program} {l : Launch} {e : Env} {R : Room} {s : State} {m : MethodId} {args : Array Value} {below : List Frame} {meth : Method} {c : Code} {H : Heap} {locs : List Loc} {cells slots : Nat} {Q : State → Prop} {pc : Nat} {ls : Array Slot} {rest : List Value}
theorem vx_catch {own name : String} {E : String} {ce : Cell} {q : Addr} (hown : s.vm.findClass own = some m.cls) (pre : List ExceptionTableEntry) (x : ExceptionTableEntry) (suf : List ExceptionTableEntry) (hsplit : c.exceptionTable.toList = pre ++ x :: suf)
    (hpass : ∀ z ∈ pre, covers z pc = false ∨ (z.catchType ≠ 0 ∧ ∃ nm : String, (Cond.classLink own z.catchType nm).before args s = true ∧ va_Nc E nm s)) (hx : covers x pc = true) (h0 : x.catchType ≠ 0)
    (hlink : (Cond.classLink own x.catchType name).before args s = true) (hcast : (Cond.castable E name).before args s = true) (hcell : H[q]? = some ce) (hv : ce.vm = .none) (hcl : s.vm.findClass E = some ce.cls)
    (kk : W p l e R s m args below meth c H locs cells slots Q (F0 m x.handlerPc ls [.ref q])) : vx_W p l e R s m args below meth c H locs cells slots Q (F0 m pc ls rest) q := by
  intro T hT X
  have hpl : e.platform.magicAccessors = ({} : Platform).magicAccessors := by rw [X.admits.platform]
  obtain ⟨c3, c4, hc3, hc4, hasg⟩ := Cond.castable_spec hcast
  cases Option.some.inj (hc3.symm.trans hcl)
  obtain ⟨c5, hc5, hcl5⟩ := Cond.classLink_spec hown hlink e.platform hpl
  cases Option.some.inj (hc4.symm.trans hc5)
  obtain ⟨vm', X', st⟩ := vy_caught X (a := q) (g := F0 m pc ls rest) rfl (by rw [hT]; exact hcell) (by rw [hv]; rfl) (by obtain ⟨k9, h9, -⟩ := Vm.findClass_spec hcl; exact ⟨k9, h9⟩) hsplit
    (fun z hz => by
      rcases hpass z hz with h | ⟨hz0, nm, hl1, hn1⟩
      · exact Or.inl h
      · obtain ⟨c6, hc6, hcl6⟩ := Cond.classLink_spec hown hl1 e.platform hpl
        obtain ⟨a8, b8, h1, h2, h3⟩ := hn1
        cases Option.some.inj (h1.symm.trans hcl)
        cases Option.some.inj (h2.symm.trans hc6)
        exact Or.inr ⟨hz0, _, hcl6, h3⟩) hx h0 hcl5 hasg
  obtain ⟨t, a1, b1⟩ := kk (T.setVm vm') hT X'
  exact ⟨t, st.trans a1, b1⟩
end Rows9
/-- what a body of the law's class stands on -/
def vl_X (cc : ByteArray) (nL : Nat) (cs : vq_S) (D : va_G) (A : Nat → Prop) (p : Program) (s : State) (m : MethodId) (args : Array Value) (c : Code) : Prop :=
  p.tables.exec = Jvm.exec ∧ c.code = cc ∧ c.maxLocals = nL ∧ s.vm.findClass RL = some m.cls ∧ (∀ w ∈ WLA, w.before args s = true) ∧ va_K D vwCl (vq_ty cs) s ∧ vq_E A s s.heap ∧ (∀ q, s.heap.size ≤ q → A q) ∧ va_Nc ise iae s ∧ va_Nc iob iae s
theorem vl_gd {w : Cond} (h : w ∈ WLA) : (w.onTables && w.keeps) = true ∨ ∃ ty, w = .arrayClass ty := by
  rcases List.mem_append.mp h with h | h
  · exact good_of_word (List.all_eq_true.mp WX_good w h)
  · exact vq_gd h
theorem vl_goodV {own : String} {ix na : Nat} {y' : vq_M} (ho : vl_okV y' na) (hw : Cond.methodLink own ix y'.1 ∈ WLA) : GoodIn WLA (wsV own ix y'.1.cls y'.1 (Cond.code y'.1 y'.2.1 y'.2.2.1 y'.2.2.2 :: WS)) := by
  obtain ⟨h1, h2, h3, h4, -⟩ := ho
  intro w h
  have hm : w ∈ WLA := by
    rcases List.mem_append.mp h with h | h
    · simp only [List.mem_cons, List.not_mem_nil, or_false] at h
      rcases h with rfl | rfl | rfl | rfl <;> assumption
    · rcases List.mem_cons.mp h with rfl | h
      · exact h4
      · exact inWS h
  exact ⟨hm, vl_gd hm⟩
theorem vl_goodS {own : String} {ix na : Nat} {y' : vq_M} {hh : vl_H} (ho : vl_okS y' hh na) (hw : Cond.methodLink own ix y'.1 ∈ WLA) : GoodIn WLA (va_wsS own ix y'.1 (Cond.codeWith y'.1 y'.2.1 y'.2.2.1 y'.2.2.2 hh :: WLA)) := by
  obtain ⟨h1, h3, h4, -⟩ := ho
  intro w h
  have hm : w ∈ WLA := by
    rcases List.mem_append.mp h with h | h
    · simp only [List.mem_cons, List.not_mem_nil, or_false] at h
      rcases h with rfl | rfl | rfl <;> assumption
    · rcases List.mem_cons.mp h with rfl | h
      · exact h4
      · exact h
  exact ⟨hm, vl_gd hm⟩
section VLC
variable {l : Launch} {n : Nat} {R : Room} {I : MI} {L : ML} {p : Program} {e : Env} {s : State} {m : MethodId} {args : Array Value} {below : List Frame} {meth : Method} {c : Code} {a : Nat → Nat} {cs : vq_S} {D : va_G} {A : Nat → Prop} {H : Heap} {locs : List Loc} {ls : Array Slot} {rest : List Value} {cc : ByteArray} {nL pc k sl : Nat} {Z : State → Prop}
theorem vl_runV {y' : vq_M} {na ix b ci d' K' : Nat} {As : List Value} {Q' : vq_R} {QX' : vq_RX}
    (hok : vl_okV y' na) (hlen : As.length = na) (hw : Cond.methodLink RL ix y'.1 ∈ WLA) (hi : vq_is n b ci) (hci : ci < 11) (hcl : (vq_cl ci).1 = y'.1.cls) (hd : decode cc pc = .ok (.invokevirtual ix, 3)) (hrest : (rest.map fun v => v.category).sum ≤ 8) (hR : d' + 1 ≤ R.frames ∧ 8 + (y'.2.2.1 + 11) + 64 * d' ≤ R.locals) (hk : k + K' ≤ R.cells ∧ sl + 6 * K' ≤ R.slots) (hM : VM l n y' d' K' (.ref b :: As) I L Q' QX')
    (C : vl_X cc nL cs D A p s m args c) (hP : va_P D vwCl (vq_W n a cs I L) H) (hD : va_D A (vq_W n a cs I L)) (hS : va_S A s.heap H locs) (hl : ls.size = nL) :
    vx_Run p l e R s m args below meth c H locs k sl K' (6 * K') (F0 m pc ls ((As.map (vq_tr a)).reverse ++ .ref (a b) :: rest)) rest (vq_Qc y'.2.2.2 n a cs D (va_A (vq_W n a cs I L) H.size) Q' (((Value.ref b :: As).map (vq_tr a)).toArray)) (vq_XC n a cs D (va_A (vq_W n a cs I L) H.size) QX') (va_A (vq_W n a cs I L) H.size) := by
  obtain ⟨q0, hq, hw0⟩ := vq_pos (a := a) (cs := cs) (I := I) (L := L) hi
  rw [vq_ctO hi.2 hci] at hw0
  obtain ⟨c1, c2, c3, c4, c5, c6, c7, c8, -⟩ := C
  have hsub := vq_sub hD hS c8
  refine vx_runV (b := a b) (As := As.map (vq_tr a)) (rest := rest) (y := y'.1) (C := y'.1.cls) (own := RL) ⟨c1, c2, c3, c4, c5⟩ (hM a cs D H.size) (cwV na c5 (vl_goodV hok hw) rfl rfl rfl ⟨rfl, hok.2.2.2.2⟩ hR) ⟨vq_blind, ?_, fun U hU hW => ?_⟩ rfl (by rw [List.length_map]; exact hlen) hl rfl (lv_room hrest) hd hk
  · rw [← hcl]
    exact va_recv c6 hP (vq_clg ci hci) hw0
  · refine ⟨rfl, by rw [hU], ⟨by rw [hU]; exact hP, va_K.moved hW.alike c6, hD.weaken (fun _ _ _ _ => trivial)⟩, ?_⟩
    rw [hU]
    exact ((c7.kept hS.2.1).warm hW).narrow hsub
theorem vl_calli {y' : vq_M} {na ix b ci d' K' : Nat} {As : List Value} {Q' : vq_R} {QX' : vq_RX}
    (hok : vl_okV y' na) (hlen : As.length = na) (hw : Cond.methodLink RL ix y'.1 ∈ WLA) (hi : vq_is n b ci) (hci : ci < 11) (hcl : (vq_cl ci).1 = y'.1.cls) (hd : decode cc pc = .ok (.invokevirtual ix, 3)) (hrest : (rest.map fun v => v.category).sum ≤ 8) (hR : d' + 1 ≤ R.frames ∧ 8 + (y'.2.2.1 + 11) + 64 * d' ≤ R.locals) (hk : k + K' ≤ R.cells ∧ sl + 6 * K' ≤ R.slots) (hr : y'.2.2.2 = some .int ∨ y'.2.2.2 = some .boolean) (hM : VM l n y' d' K' (.ref b :: As) I L Q' QX')
    (C : vl_X cc nL cs D A p s m args c) (hP : va_P D vwCl (vq_W n a cs I L) H) (hD : va_D A (vq_W n a cs I L)) (hS : va_S A s.heap H locs) (hl : ls.size = nL)
    (kx : ∀ E ce q9 I' L' H1 locs1, QX' E I' L' → va_P D vwCl (vq_W n a cs I' L') H1 → va_D A (vq_W n a cs I' L') → va_S A s.heap H1 locs1 → H1[q9]? = some ce → ce.vm = .none → s.vm.findClass E = some ce.cls → vx_W p l e R s m args below meth c H1 locs1 (k + K') (sl + 6 * K') Z (F0 m pc ls rest) q9)
    (kk : ∀ r I' L' H1 locs1, Q' (some (.int r)) I' L' → va_P D vwCl (vq_W n a cs I' L') H1 → va_D A (vq_W n a cs I' L') → va_S A s.heap H1 locs1 → W p l e R s m args below meth c H1 locs1 (k + K') (sl + 6 * K') Z (F0 m (pc + 3) ls (.int r :: rest))) :
    W p l e R s m args below meth c H locs k sl Z (F0 m pc ls ((As.map (vq_tr a)).reverse ++ .ref (a b) :: rest)) := by
  have hrun := vl_runV (e := e) (below := below) (meth := meth) (rest := rest) (k := k) (sl := sl) (pc := pc) hok hlen hw hi hci hcl hd hrest hR hk hM C hP hD hS hl
  have hsub := vq_sub hD hS C.2.2.2.2.2.2.2.1
  have hq : vq_Qc y'.2.2.2 n a cs D (va_A (vq_W n a cs I L) H.size) Q' = va_Qi (fun (r : Int32) (u : MI × ML) => Q' (some (.int r)) u.1 u.2) (fun u t => vq_at n a cs D (va_A (vq_W n a cs I L) H.size) u.1 u.2 t) (va_A (vq_W n a cs I L) H.size) := by
    rcases hr with h | h <;> rw [h] <;> rfl
  rw [hq] at hrun
  refine vx_calli hrun hS (fun q _ h => hsub q h) hsub (fun q _ h => hsub q h) (fun E ce q9 u t H1 locs1 ht hvm _ hB h1 hk1 hS1 hce hcv hcl9 => ?_) (fun r u t H1 locs1 ht hvm hp hB h1 hk1 hS1 => ?_)
  · exact kx E ce q9 u.1 u.2 H1 locs1 hB.1 (ht ▸ hB.2.1) (hB.2.2.2.weaken (fun _ _ _ h => hsub _ h)) hS1 hce hcv hcl9
  · exact kk r u.1 u.2 H1 locs1 hp (ht ▸ hB.1) (hB.2.2.weaken (fun _ _ _ h => hsub _ h)) hS1
theorem vl_callv {y' : vq_M} {na ix b ci d' K' : Nat} {As : List Value} {Q' : vq_R} {QX' : vq_RX}
    (hok : vl_okV y' na) (hlen : As.length = na) (hw : Cond.methodLink RL ix y'.1 ∈ WLA) (hi : vq_is n b ci) (hci : ci < 11) (hcl : (vq_cl ci).1 = y'.1.cls) (hd : decode cc pc = .ok (.invokevirtual ix, 3)) (hrest : (rest.map fun v => v.category).sum ≤ 8) (hR : d' + 1 ≤ R.frames ∧ 8 + (y'.2.2.1 + 11) + 64 * d' ≤ R.locals) (hk : k + K' ≤ R.cells ∧ sl + 6 * K' ≤ R.slots) (hr : y'.2.2.2 = none) (hM : VM l n y' d' K' (.ref b :: As) I L Q' QX')
    (C : vl_X cc nL cs D A p s m args c) (hP : va_P D vwCl (vq_W n a cs I L) H) (hD : va_D A (vq_W n a cs I L)) (hS : va_S A s.heap H locs) (hl : ls.size = nL)
    (kx : ∀ E ce q9 I' L' H1 locs1, QX' E I' L' → va_P D vwCl (vq_W n a cs I' L') H1 → va_D A (vq_W n a cs I' L') → va_S A s.heap H1 locs1 → H1[q9]? = some ce → ce.vm = .none → s.vm.findClass E = some ce.cls → vx_W p l e R s m args below meth c H1 locs1 (k + K') (sl + 6 * K') Z (F0 m pc ls rest) q9)
    (kk : ∀ I' L' H1 locs1, Q' none I' L' → va_P D vwCl (vq_W n a cs I' L') H1 → va_D A (vq_W n a cs I' L') → va_S A s.heap H1 locs1 → W p l e R s m args below meth c H1 locs1 (k + K') (sl + 6 * K') Z (F0 m (pc + 3) ls rest)) :
    W p l e R s m args below meth c H locs k sl Z (F0 m pc ls ((As.map (vq_tr a)).reverse ++ .ref (a b) :: rest)) := by
  have hrun := vl_runV (e := e) (below := below) (meth := meth) (rest := rest) (k := k) (sl := sl) (pc := pc) hok hlen hw hi hci hcl hd hrest hR hk hM C hP hD hS hl
  have hsub := vq_sub hD hS C.2.2.2.2.2.2.2.1
  have hq : vq_Qc y'.2.2.2 n a cs D (va_A (vq_W n a cs I L) H.size) Q' = va_Qv (fun (u : MI × ML) => Q' none u.1 u.2) (fun u t => vq_at n a cs D (va_A (vq_W n a cs I L) H.size) u.1 u.2 t) (va_A (vq_W n a cs I L) H.size) := by
    rw [hr]; rfl
  rw [hq] at hrun
  refine vx_callv hrun hS (fun q _ h => hsub q h) hsub (fun q _ h => hsub q h) (fun E ce q9 u t H1 locs1 ht hvm _ hB h1 hk1 hS1 hce hcv hcl9 => ?_) (fun u t H1 locs1 ht hvm hp hB h1 hk1 hS1 => ?_)
  · exact kx E ce q9 u.1 u.2 H1 locs1 hB.1 (ht ▸ hB.2.1) (hB.2.2.2.weaken (fun _ _ _ h => hsub _ h)) hS1 hce hcv hcl9
  · exact kk u.1 u.2 H1 locs1 hp (ht ▸ hB.1) (hB.2.2.weaken (fun _ _ _ h => hsub _ h)) hS1
theorem vl_calll {y' : vq_M} {na ix b ci d' K' : Nat} {As : List Value} {Q' : vq_R} {QX' : vq_RX}
    (hok : vl_okV y' na) (hlen : As.length = na) (hw : Cond.methodLink RL ix y'.1 ∈ WLA) (hi : vq_is n b ci) (hci : ci < 11) (hcl : (vq_cl ci).1 = y'.1.cls) (hd : decode cc pc = .ok (.invokevirtual ix, 3)) (hrest : (rest.map fun v => v.category).sum ≤ 8) (hR : d' + 1 ≤ R.frames ∧ 8 + (y'.2.2.1 + 11) + 64 * d' ≤ R.locals) (hk : k + K' ≤ R.cells ∧ sl + 6 * K' ≤ R.slots) (hr : y'.2.2.2 = some .long) (hM : VM l n y' d' K' (.ref b :: As) I L Q' QX')
    (C : vl_X cc nL cs D A p s m args c) (hP : va_P D vwCl (vq_W n a cs I L) H) (hD : va_D A (vq_W n a cs I L)) (hS : va_S A s.heap H locs) (hl : ls.size = nL)
    (kx : ∀ E ce q9 I' L' H1 locs1, QX' E I' L' → va_P D vwCl (vq_W n a cs I' L') H1 → va_D A (vq_W n a cs I' L') → va_S A s.heap H1 locs1 → H1[q9]? = some ce → ce.vm = .none → s.vm.findClass E = some ce.cls → vx_W p l e R s m args below meth c H1 locs1 (k + K') (sl + 6 * K') Z (F0 m pc ls rest) q9)
    (kk : ∀ r I' L' H1 locs1, Q' (some (.long r)) I' L' → va_P D vwCl (vq_W n a cs I' L') H1 → va_D A (vq_W n a cs I' L') → va_S A s.heap H1 locs1 → W p l e R s m args below meth c H1 locs1 (k + K') (sl + 6 * K') Z (F0 m (pc + 3) ls (.long r :: rest))) :
    W p l e R s m args below meth c H locs k sl Z (F0 m pc ls ((As.map (vq_tr a)).reverse ++ .ref (a b) :: rest)) := by
  have hrun := vl_runV (e := e) (below := below) (meth := meth) (rest := rest) (k := k) (sl := sl) (pc := pc) hok hlen hw hi hci hcl hd hrest hR hk hM C hP hD hS hl
  have hsub := vq_sub hD hS C.2.2.2.2.2.2.2.1
  have hq : vq_Qc y'.2.2.2 n a cs D (va_A (vq_W n a cs I L) H.size) Q' = va_Ql (fun (r : Int64) (u : MI × ML) => Q' (some (.long r)) u.1 u.2) (fun u t => vq_at n a cs D (va_A (vq_W n a cs I L) H.size) u.1 u.2 t) (va_A (vq_W n a cs I L) H.size) := by
    rw [hr]; rfl
  rw [hq] at hrun
  refine vx_calll hrun hS (fun q _ h => hsub q h) hsub (fun q _ h => hsub q h) (fun E ce q9 u t H1 locs1 ht hvm _ hB h1 hk1 hS1 hce hcv hcl9 => ?_) (fun r u t H1 locs1 ht hvm hp hB h1 hk1 hS1 => ?_)
  · exact kx E ce q9 u.1 u.2 H1 locs1 hB.1 (ht ▸ hB.2.1) (hB.2.2.2.weaken (fun _ _ _ h => hsub _ h)) hS1 hce hcv hcl9
  · exact kk r u.1 u.2 H1 locs1 hp (ht ▸ hB.1) (hB.2.2.weaken (fun _ _ _ h => hsub _ h)) hS1
theorem vl_last {v : Int64} (hd : decode cc pc = .ok (.lastore, 1)) (C : vl_X cc nL cs D A p s m args c) (hP : va_P D vwCl (vq_W n a cs I L) H) (hD : va_D A (vq_W n a cs I L)) (hS : va_S A s.heap H locs)
    (kk : ∀ H1 locs1, va_P D vwCl (vq_W n a cs I (upL L 90 0 v)) H1 → va_D A (vq_W n a cs I (upL L 90 0 v)) → va_S A s.heap H1 locs1 → W p l e R s m args below meth c H1 locs1 k sl Z (F0 m (pc + 1) ls rest)) :
    W p l e R s m args below meth c H locs k sl Z (F0 m pc ls (.long v :: .int 0 :: .ref (a 90) :: rest)) := by
  obtain ⟨q0, hq, hw0⟩ := vq_pos (a := a) (cs := cs) (I := I) (L := L) (is_90 n)
  rw [vq_ct21 (is_90 n).2] at hw0
  refine va_last (D := D) C.1 C.2.1 C.2.2.2.2.2.1 hP hD hS q0 1 hw0 rfl (show vp_in 0 1 from by unfold vp_in; decide) hd (fun H1 locs1 hP1 hD1 hS1 => ?_)
  have e9 : (vq_W n a cs I L).set q0 (a 90, .inl (cs.2.1, gl n 90, .inr (.inl (vp_updL (L 90) (0 : Int32).toNatClampNeg v)))) = vq_W n a cs I (upL L 90 0 v) := by
    rw [show (0 : Int32).toNatClampNeg = 0 from rfl, ← upL_self, ← vq_ct21 (n := n) (a := a) (cs := cs) (I := I) (is_90 n).2]
    exact vq_set (f := fun x => vq_ct n a cs I L x) (g := fun x => vq_ct n a cs I (upL L 90 0 v) x) hD hq (fun x hx => vq_ct_other rfl (upL_ne hx))
  rw [e9] at hP1 hD1
  exact kk H1 locs1 hP1 hD1 hS1
theorem vl_lald (hd : decode cc pc = .ok (.laload, 1)) (C : vl_X cc nL cs D A p s m args c) (hP : va_P D vwCl (vq_W n a cs I L) H)
    (kk : W p l e R s m args below meth c H locs k sl Z (F0 m (pc + 1) ls (.long (L 90 0) :: rest))) :
    W p l e R s m args below meth c H locs k sl Z (F0 m pc ls (.int 0 :: .ref (a 90) :: rest)) := by
  obtain ⟨q0, hq, hw0⟩ := vq_pos (a := a) (cs := cs) (I := I) (L := L) (is_90 n)
  rw [vq_ct21 (is_90 n).2] at hw0
  exact va_lald (D := D) C.1 C.2.1 C.2.2.2.2.2.1 hP q0 1 hw0 rfl (show vp_in 0 1 from by unfold vp_in; decide) hd kk
end VLC
/-- a helper's contract: what the class throws it catches -/
def vl_Pc (n : Nat) (a : Nat → Nat) (cs : vq_S) (D : va_G) (sz : Nat) (av : List Value) (I : MI) (L : ML) : Array Value → State → Prop := va_Pc (av.map (vq_tr a)) (fun U => U.heap.size = sz ∧ vq_at n a cs D (fun _ => True) I L U ∧ vq_E (va_A (vq_W n a cs I L) sz) U U.heap ∧ va_Nc ise iae U ∧ va_Nc iob iae U)
theorem vl_blind {n : Nat} {a : Nat → Nat} {cs : vq_S} {D : va_G} {sz : Nat} {av : List Value} {I : MI} {L : ML} : FrameBlind (vl_Pc n a cs D sz av I L) := by
  intro v U g mk h
  obtain ⟨q0, q1, ⟨qP, qK, qD⟩, qE, qn, qm⟩ := h
  exact ⟨q0, q1, ⟨qP, va_K.moved (u := U) (U := U.calling g mk v) (Vm.Alike.refl U.vm) qK, qD⟩, vq_E.same (u := U) (U := U.calling g mk v) rfl qE, va_Nc.moved (u := U) (U := U.calling g mk v) (Vm.Alike.refl U.vm) qn, va_Nc.moved (u := U) (U := U.calling g mk v) (Vm.Alike.refl U.vm) qm⟩
def VHM (l : Launch) (n : Nat) (y : vq_M) (hh : vl_H) (d K : Nat) (av : List Value) (I : MI) (L : ML) (Q : vq_R) : Prop :=
  ∀ (a : Nat → Nat) (cs : vq_S) (D : va_G) (sz : Nat), vx_Met l y.1 (Cond.codeWith y.1 y.2.1 y.2.2.1 y.2.2.2 hh :: WLA) (vq_rm d K) (vl_Pc n a cs D sz av I L) (vq_Qc y.2.2.2 n a cs D (va_A (vq_W n a cs I L) sz) Q) (vq_XC n a cs D (va_A (vq_W n a cs I L) sz) noX) K (6 * K) (va_A (vq_W n a cs I L) sz)
theorem VHM_of {l : Launch} {n : Nat} {y : vq_M} {hh : vl_H} {d K : Nat} {av : List Value} {I : MI} {L : ML} {Q : vq_R} (lv : List (Nat × Value)) (hy : y.1.cls = RL) (hnl : ∀ a : Nat → Nat, (lg_sl (av.map (vq_tr a))).length ≤ y.2.2.1) (hlv : lv_args 0 av = lv)
    (h : ∀ (p : Program) (e : Env) (s : State) (m : MethodId) (args : Array Value) (below : List Frame) (meth : Method) (c : Code) (a : Nat → Nat) (cs : vq_S) (D : va_G) (A : Nat → Prop) (ls : Array Slot),
      vl_X y.2.1 y.2.2.1 cs D A p s m args c → meth.sig.returnType = y.2.2.2 → meth.locks = false → c.exceptionTable.toList = tableOf hh → va_P D vwCl (vq_W n a cs I L) s.heap → va_D A (vq_W n a cs I L) → lv_has ls y.2.2.1 (lv.map (vq_t2 a)) →
      W p l e (vq_rm d K) s m args below meth c s.heap [] 0 0 (vx_MQ below (vq_Qc y.2.2.2 n a cs D A Q) (vq_XC n a cs D A noX) args s K (6 * K) A) (F0 m 0 ls [])) : VHM l n y hh d K av I L Q := by
  subst hlv
  intro a cs D sz
  refine vx_ofWH (cc := y.2.1) (maxL := y.2.2.1) (ret := y.2.2.2) (hh := hh) (by rw [hy]; decide) rfl ?_
  intro p e s m args below meth c s₁ B hml hv
  obtain ⟨rfl, hsz, ⟨hP, hK, hD0⟩, hE, hn1, hn2⟩ := hv
  have hts := atoms_spec (ws := Cond.codeWith y.1 y.2.1 y.2.2.1 y.2.2.2 hh :: WLA) B.pre
  have htab := vx_table (x := y.1) B (hts _ List.mem_cons_self)
  subst hsz
  have hD := hD0.self (sz := s.heap.size)
  have hl := lv_entry (av.map (vq_tr a)) (n := y.2.2.1) (hnl a)
  rw [lg_entry_eq]
  rw [vq_lvargs] at hl
  exact h p e s m _ below meth c a cs D _ _ ⟨B.exec, B.bytes, hml, hy ▸ findClass_of_methodNamed B.named, fun w hw => hts w (List.mem_cons_of_mem _ hw), hK, hE, fun q hq => Or.inr hq, hn1, hn2⟩ B.returns B.notSynchronized htab hP hD hl
section VLE
variable {l : Launch} {n : Nat} {d K : Nat} {I : MI} {L : ML} {p : Program} {e : Env} {s : State} {m : MethodId} {args : Array Value} {below : List Frame} {meth : Method} {c : Code} {a : Nat → Nat} {cs : vq_S} {D : va_G} {A : Nat → Prop} {H : Heap} {locs : List Loc} {ls : Array Slot} {rest : List Value} {cc : ByteArray} {nL pc k : Nat} {Q : vq_R}
theorem vl_iret {v : Int32} (hd : decode cc pc = .ok (.ireturn, 1)) (hk : k ≤ K) (C : vl_X cc nL cs D A p s m args c) (hr : meth.sig.returnType = some .int) (hlk : meth.locks = false) (hP : va_P D vwCl (vq_W n a cs I L) H) (hD : va_D A (vq_W n a cs I L)) (hS : va_S A s.heap H locs) (h : Q (some (.int v)) I L) :
    W p l e (vq_rm d K) s m args below meth c H locs k (6 * k) (vx_MQ below (vq_Qc (some .int) n a cs D A Q) (vq_XC n a cs D A noX) args s K (6 * K) A) (F0 m pc ls [.int v]) := by
  refine W.widen (k := K) (n := 6 * K) hk (by omega) (vx_ret ?_)
  refine W.iret C.1 C.2.1 hr (fun t ht hW => ?_) hS.2.2 hd hlk
  exact ⟨⟨v, (I, L), rfl, h, by rw [ht]; exact hP, va_K.moved hW.alike C.2.2.2.2.2.1, hD⟩, hS.F ht⟩
/-- caught: the code is the answer -/
theorem vl_hand {E : String} {ce : Cell} {q9 : Addr} {v : Int32} {z : Int} {hpc sk : Nat} (pre suf : List ExceptionTableEntry) (x : ExceptionTableEntry) (htab : c.exceptionTable.toList = pre ++ x :: suf) (hx : covers x pc = true) (h0 : x.catchType ≠ 0) (hpc9 : x.handlerPc = hpc)
    (hlink : Cond.classLink RL x.catchType E ∈ WLA) (hE : E ∈ vq_bc) (hpass : ∀ w ∈ pre, covers w pc = false ∨ (w.catchType ≠ 0 ∧ ∃ nm : String, (Cond.classLink RL w.catchType nm).before args s = true ∧ va_Nc E nm s))
    (hst : ∀ (H1 : Heap) (locs1 : List Loc) (k1 sl1 : Nat) (Z1 : State → Prop), (∀ ls', W p l e (vq_rm d K) s m args below meth c H1 locs1 k1 sl1 Z1 (F0 m (hpc + sk) ls' [])) → W p l e (vq_rm d K) s m args below meth c H1 locs1 k1 sl1 Z1 (F0 m hpc ls [.ref q9]))
    (hd1 : decode cc (hpc + sk) = .ok (.iconst z, 1)) (hz : Int32.ofInt z = v) (hd2 : decode cc (hpc + sk + 1) = .ok (.ireturn, 1)) (hk : k ≤ K) (C : vl_X cc nL cs D A p s m args c) (hr : meth.sig.returnType = some .int) (hlk : meth.locks = false) (hP : va_P D vwCl (vq_W n a cs I L) H) (hD : va_D A (vq_W n a cs I L)) (hS : va_S A s.heap H locs) (h : Q (some (.int v)) I L)
    (hce : H[q9]? = some ce) (hcv : ce.vm = .none) (hcl : s.vm.findClass E = some ce.cls) :
    vx_W p l e (vq_rm d K) s m args below meth c H locs k (6 * k) (vx_MQ below (vq_Qc (some .int) n a cs D A Q) (vq_XC n a cs D A noX) args s K (6 * K) A) (F0 m pc ls rest) q9 := by
  refine vx_catch (name := E) C.2.2.2.1 pre x suf htab hpass hx h0 (C.2.2.2.2.1 _ hlink) ?_ hce hcv hcl ?_
  · exact va_tabs rfl rfl (C.2.2.2.2.2.2.1.2.2.2.1 E hE)
  · rw [hpc9]
    refine hst H locs _ _ _ (fun ls' => ?_)
    refine lv_iconst C.1 C.2.1 hd1 hz ?_
    exact vl_iret hd2 hk C hr hlk hP hD hS h
end VLE
