theorem vq_lvargs (a : Nat → Nat) : ∀ (i : Nat) (av : List Value), lv_args i (av.map (vq_tr a)) = (lv_args i av).map (vq_t2 a)
  | _, [] => rfl
  | i, v :: vs => by
    simp only [List.map_cons, lv_args, vq_cat, vq_lvargs a]
    rfl
theorem vq_E.warm {A : Nat → Prop} {u U : State} {H : Heap} (hW : u.WarmedH U.vm) (h : vq_E A u H) : vq_E A U H := ⟨h.1.moved hW.alike, h.2.1.moved hW.alike, fun x hx => va_Nw.warmD hW (h.2.2.1 x hx), fun x hx => va_Nw.warmC hW (h.2.2.2.1 x hx), fun q hq => by obtain ⟨sa, hs⟩ := h.2.2.2.2 q hq; exact ⟨sa, vk_R.warm hW hs⟩⟩
theorem vq_E.same {A : Nat → Prop} {u U : State} {H : Heap} (hv : u.vm = U.vm) (h : vq_E A u H) : vq_E A U H := ⟨h.1.moved (by rw [← hv]; exact Vm.Alike.refl u.vm), h.2.1.moved (by rw [← hv]; exact Vm.Alike.refl u.vm), fun x hx => va_Nw.same rfl hv (h.2.2.1 x hx), fun x hx => va_Nw.same rfl hv (h.2.2.2.1 x hx), fun q hq => by obtain ⟨sa, hs⟩ := h.2.2.2.2 q hq; exact ⟨sa, vk_R.same hv.symm hs⟩⟩
theorem vq_E.kept {A : Nat → Prop} {U : State} {H H1 : Heap} (h : vq_E A U H) (hq : ∀ a : Nat, a < H.size → ¬ A a → H1[a]? = H[a]?) : vq_E A U H1 := ⟨h.1.kept hq, h.2.1.kept hq, h.2.2⟩
theorem vq_E.narrow {A B : Nat → Prop} {U : State} {H : Heap} (h : vq_E A U H) (hAB : ∀ q, B q → A q) : vq_E B U H := ⟨h.1.narrow hAB, h.2.1.narrow hAB, h.2.2⟩
theorem vq_blind {n : Nat} {a : Nat → Nat} {cs : vq_S} {D : va_G} {sz : Nat} {av : List Value} {I : MI} {L : ML} : FrameBlind (vq_Pc n a cs D sz av I L) := by
  intro v U g mk h
  obtain ⟨q0, q1, ⟨qP, qK, qD⟩, qE⟩ := h
  exact ⟨q0, q1, ⟨qP, va_K.moved (u := U) (U := U.calling g mk v) (Vm.Alike.refl U.vm) qK, qD⟩, vq_E.same (u := U) (U := U.calling g mk v) rfl qE⟩
theorem vq_sub {A : Nat → Prop} {ws : va_W} {H0 H : Heap} {locs : List Loc} (hD : va_D A ws) (hS : va_S A H0 H locs) (hA : ∀ q, H0.size ≤ q → A q) : ∀ q, va_A ws H.size q → A q := by
  intro q hq
  rcases hq with ⟨k, e, hk⟩ | h
  · exact hD.2 k _ hk
  · exact hA q (Nat.le_trans hS.1 h)
section VPC
variable {l : Launch} {n : Nat} {y : vq_M} {d K : Nat} {Q : vq_R} {QX : vq_RX} {k pc : Nat} {lv lv' : List (Nat × Value)} {st : List Value} {I : MI} {L : ML}
theorem VM_of (av : List Value) (lv : List (Nat × Value)) (hy : plainName y.1.cls = true) (hnl : ∀ a : Nat → Nat, (lg_sl (av.map (vq_tr a))).length ≤ y.2.2.1) (hlv : lv_args 0 av = lv) (h : VP l n y d K Q QX 0 0 lv [] I L) : VM l n y d K av I L Q QX := by
  subst hlv
  intro a cs D sz
  refine vx_ofW (cc := y.2.1) (maxL := y.2.2.1) (ret := y.2.2.2) hy rfl ?_
  intro p e s m args below meth c s₁ B hml htab hv
  obtain ⟨rfl, hsz, ⟨hP, hK, hD0⟩, hE⟩ := hv
  have hts := atoms_spec (ws := Cond.code y.1 y.2.1 y.2.2.1 y.2.2.2 :: WS) B.pre
  subst hsz
  have hD := hD0.self (sz := s.heap.size)
  have hl := lv_entry (av.map (vq_tr a)) (n := y.2.2.1) (hnl a)
  rw [lg_entry_eq]
  rw [vq_lvargs] at hl
  exact h p e s m _ below meth c a cs D _ s.heap [] _ ⟨B.exec, B.bytes, B.returns, hml, findClass_of_methodNamed B.named, fun w hw => hts w (List.mem_cons_of_mem _ hw), B.notSynchronized, htab, hK, hE, fun q hq => Or.inr hq⟩ hP hD va_S.rf hl
theorem q_iret {v : Int32} (hd : decode y.2.1 pc = .ok (.ireturn, 1)) (hr : y.2.2.2 = some .int) (hk : k ≤ K) (h : Q (some (.int v)) I L) : VP l n y d K Q QX k pc lv [.int v] I L := by
  intro p e s m args below meth c a cs D A H locs ls C hP hD hS hl
  refine W.widen (k := K) (n := 6 * K) hk (by omega) (vx_ret ?_)
  refine W.iret C.1 C.2.1 (C.2.2.1.trans hr) (fun t ht hW => ?_) hS.2.2 hd C.2.2.2.2.2.2.1
  rw [hr]
  exact ⟨⟨v, (I, L), rfl, h, by rw [ht]; exact hP, va_K.moved hW.alike C.2.2.2.2.2.2.2.2.1, hD⟩, hS.F ht⟩
theorem q_zret {v : Int32} (hd : decode y.2.1 pc = .ok (.ireturn, 1)) (hr : y.2.2.2 = some .boolean) (hk : k ≤ K) (hv : narrow .boolean (.int v) = .int v) (h : Q (some (.int v)) I L) : VP l n y d K Q QX k pc lv [.int v] I L := by
  intro p e s m args below meth c a cs D A H locs ls C hP hD hS hl
  refine W.widen (k := K) (n := 6 * K) hk (by omega) (vx_ret ?_)
  refine W.zret C.1 C.2.1 (C.2.2.1.trans hr) hv (fun t ht hW => ?_) hS.2.2 hd C.2.2.2.2.2.2.1
  rw [hr]
  exact ⟨⟨v, (I, L), rfl, h, by rw [ht]; exact hP, va_K.moved hW.alike C.2.2.2.2.2.2.2.2.1, hD⟩, hS.F ht⟩
theorem q_lret {v : Int64} (hd : decode y.2.1 pc = .ok (.lreturn, 1)) (hr : y.2.2.2 = some .long) (hk : k ≤ K) (h : Q (some (.long v)) I L) : VP l n y d K Q QX k pc lv [.long v] I L := by
  intro p e s m args below meth c a cs D A H locs ls C hP hD hS hl
  refine W.widen (k := K) (n := 6 * K) hk (by omega) (vx_ret ?_)
  refine W.lret C.1 C.2.1 (C.2.2.1.trans hr) (fun t ht hW => ?_) hS.2.2 hd C.2.2.2.2.2.2.1
  rw [hr]
  exact ⟨⟨v, (I, L), rfl, h, by rw [ht]; exact hP, va_K.moved hW.alike C.2.2.2.2.2.2.2.2.1, hD⟩, hS.F ht⟩
theorem q_vret (hd : decode y.2.1 pc = .ok (.return_, 1)) (hr : y.2.2.2 = none) (hk : k ≤ K) (h : Q none I L) : VP l n y d K Q QX k pc lv [] I L := by
  intro p e s m args below meth c a cs D A H locs ls C hP hD hS hl
  refine W.widen (k := K) (n := 6 * K) hk (by omega) (vx_ret ?_)
  refine W.vret C.1 C.2.1 (C.2.2.1.trans hr) (fun t ht hW => ?_) hS.2.2 hd C.2.2.2.2.2.2.1
  rw [hr]
  exact ⟨⟨(I, L), rfl, h, by rw [ht]; exact hP, va_K.moved hW.alike C.2.2.2.2.2.2.2.2.1, hD⟩, hS.F ht⟩
theorem vq_gd {w : Cond} (h : w ∈ WS) : (w.onTables && w.keeps) = true ∨ ∃ ty, w = .arrayClass ty := good_of_word (List.all_eq_true.mp WS_good w h)
theorem vq_goodV {own : String} {ix na : Nat} {y' : vq_M} (ho : vq_okV y' na) (hw : Cond.methodLink own ix y'.1 ∈ WS) : GoodIn WS (wsV own ix y'.1.cls y'.1 (Cond.code y'.1 y'.2.1 y'.2.2.1 y'.2.2.2 :: WS)) := by
  obtain ⟨h1, h2, h3, h4, -⟩ := ho
  intro w h
  have hm : w ∈ WS := by
    rcases List.mem_append.mp h with h | h
    · simp only [List.mem_cons, List.not_mem_nil, or_false] at h
      rcases h with rfl | rfl | rfl | rfl <;> assumption
    · rcases List.mem_cons.mp h with rfl | h
      · exact h4
      · exact h
  exact ⟨hm, vq_gd hm⟩
theorem vq_goodS {ix na : Nat} {y' : vq_M} (ho : vq_okS y' na) (hw : Cond.methodLink y'.1.cls ix y'.1 ∈ WS) : GoodIn WS (wsS y'.1.cls ix y'.1 (Cond.code y'.1 y'.2.1 y'.2.2.1 y'.2.2.2 :: WS)) := by
  obtain ⟨h1, h3, h4, -⟩ := ho
  intro w h
  have hm : w ∈ WS := by
    rcases List.mem_append.mp h with h | h
    · simp only [List.mem_cons, List.not_mem_nil, or_false] at h
      rcases h with rfl | rfl | rfl <;> assumption
    · rcases List.mem_cons.mp h with rfl | h
      · exact h4
      · exact h
  exact ⟨hm, vq_gd hm⟩
theorem vq_cats (a : Nat → Nat) (st : List Value) : ((st.map (vq_tr a)).map fun v => v.category).sum = (st.map fun v => v.category).sum := by
  rw [List.map_map]
  congr 1
  apply List.map_congr_left
  intro v hv
  exact vq_cat a v
/-- a call of an instance method: the run -/
theorem vq_runV {y' : vq_M} {na ix b ci d' K' : Nat} {own : String} {As : List Value} {Q' : vq_R} {QX' : vq_RX} {p : Program} {e : Env} {s : State} {m : MethodId} {args : Array Value} {below : List Frame} {meth : Method} {c : Code} {a : Nat → Nat} {cs : vq_S} {D : va_G} {A : Nat → Prop} {H : Heap} {locs : List Loc} {ls : Array Slot}
    (hok : vq_okV y' na) (hlen : As.length = na) (hw : Cond.methodLink own ix y'.1 ∈ WS) (ho : y.1.cls = own) (hi : vq_is n b ci) (hci : ci < 11) (hcl : (vq_cl ci).1 = y'.1.cls) (hd : decode y.2.1 pc = .ok (.invokevirtual ix, 3)) (hrest : (st.map fun v => v.category).sum ≤ 8) (hdep : d' + 1 ≤ d) (hL : y'.2.2.1 ≤ 40) (hk : k + K' ≤ K) (hM : VM l n y' d' K' (.ref b :: As) I L Q' QX')
    (C : vq_C n y a cs D A p s m args meth c) (hP : va_P D vwCl (vq_W n a cs I L) H) (hD : va_D A (vq_W n a cs I L)) (hS : va_S A s.heap H locs) (hl : lv_has ls y.2.2.1 (lv.map (vq_t2 a))) :
    vx_Run p l e (vq_rm d K) s m args below meth c H locs k (6 * k) K' (6 * K') (F0 m pc ls ((As.reverse ++ .ref b :: st).map (vq_tr a))) (st.map (vq_tr a)) (vq_Qc y'.2.2.2 n a cs D (va_A (vq_W n a cs I L) H.size) Q' (((Value.ref b :: As).map (vq_tr a)).toArray)) (vq_XC n a cs D (va_A (vq_W n a cs I L) H.size) QX') (va_A (vq_W n a cs I L) H.size) := by
  obtain ⟨q0, hq, hw0⟩ := vq_pos (a := a) (cs := cs) (I := I) (L := L) hi
  rw [vq_ctO hi.2 hci] at hw0
  have hts := C.2.2.2.2.2.1
  have hown : s.vm.findClass own = some m.cls := ho ▸ C.2.2.2.2.1
  have hsub := vq_sub hD hS C.2.2.2.2.2.2.2.2.2.2
  refine vx_runV (b := a b) (As := As.map (vq_tr a)) (rest := st.map (vq_tr a)) (y := y'.1) (C := y'.1.cls) (own := own) ⟨C.1, C.2.1, C.2.2.2.1, hown, hts⟩ (hM a cs D H.size) (cwV na hts (vq_goodV hok hw) rfl rfl rfl ⟨rfl, hok.2.2.2.2⟩ ⟨hdep, by show 8 + (y'.2.2.1 + 11) + 64 * d' ≤ 64 * d; omega⟩) ⟨vq_blind, ?_, fun U hU hW => ?_⟩ rfl ?_ hl.1 ?_ ?_ hd ⟨hk, by show 6 * k + 6 * K' ≤ 6 * K; omega⟩
  · rw [← hcl]
    exact va_recv C.2.2.2.2.2.2.2.2.1 hP (vq_clg ci hci) hw0
  · refine ⟨rfl, by rw [hU], ⟨by rw [hU]; exact hP, va_K.moved hW.alike C.2.2.2.2.2.2.2.2.1, hD.weaken (fun _ _ _ _ => trivial)⟩, ?_⟩
    rw [hU]
    exact ((C.2.2.2.2.2.2.2.2.2.1.kept hS.2.1).warm hW).narrow hsub
  · rw [List.length_map]; exact hlen
  · show (As.reverse ++ .ref b :: st).map (vq_tr a) = (As.map (vq_tr a)).reverse ++ .ref (a b) :: st.map (vq_tr a)
    rw [List.map_append, List.map_reverse]
    rfl
  · exact lv_room (by rw [vq_cats]; exact hrest)
theorem vq_runS {y' : vq_M} {na ix d' K' : Nat} {As : List Value} {Q' : vq_R} {QX' : vq_RX} {p : Program} {e : Env} {s : State} {m : MethodId} {args : Array Value} {below : List Frame} {meth : Method} {c : Code} {a : Nat → Nat} {cs : vq_S} {D : va_G} {A : Nat → Prop} {H : Heap} {locs : List Loc} {ls : Array Slot}
    (hok : vq_okS y' na) (hlen : As.length = na) (hw : Cond.methodLink y'.1.cls ix y'.1 ∈ WS) (ho : y.1.cls = y'.1.cls) (hd : decode y.2.1 pc = .ok (.invokestatic ix, 3)) (hrest : (st.map fun v => v.category).sum ≤ 8) (hdep : d' + 1 ≤ d) (hL : y'.2.2.1 ≤ 40) (hk : k + K' ≤ K) (hM : VM l n y' d' K' As I L Q' QX')
    (C : vq_C n y a cs D A p s m args meth c) (hP : va_P D vwCl (vq_W n a cs I L) H) (hD : va_D A (vq_W n a cs I L)) (hS : va_S A s.heap H locs) (hl : lv_has ls y.2.2.1 (lv.map (vq_t2 a))) :
    vx_Run p l e (vq_rm d K) s m args below meth c H locs k (6 * k) K' (6 * K') (F0 m pc ls ((As.reverse ++ st).map (vq_tr a))) (st.map (vq_tr a)) (vq_Qc y'.2.2.2 n a cs D (va_A (vq_W n a cs I L) H.size) Q' ((As.map (vq_tr a)).toArray)) (vq_XC n a cs D (va_A (vq_W n a cs I L) H.size) QX') (va_A (vq_W n a cs I L) H.size) := by
  have hts := C.2.2.2.2.2.1
  have hown : s.vm.findClass y'.1.cls = some m.cls := ho ▸ C.2.2.2.2.1
  have hsub := vq_sub hD hS C.2.2.2.2.2.2.2.2.2.2
  refine vx_runS (As := As.map (vq_tr a)) (rest := st.map (vq_tr a)) (y := y'.1) (own := y'.1.cls) ⟨C.1, C.2.1, C.2.2.2.1, hown, hts⟩ (hM a cs D H.size) (cwS na hts (vq_goodS hok hw) rfl rfl rfl ⟨rfl, hok.2.2.2⟩ ⟨hdep, by show 8 + (y'.2.2.1 + 11) + 64 * d' ≤ 64 * d; omega⟩) ⟨vq_blind, fun U hU hW => ?_⟩ rfl ?_ hl.1 ?_ ?_ hd ⟨hk, by show 6 * k + 6 * K' ≤ 6 * K; omega⟩
  · refine ⟨rfl, by rw [hU], ⟨by rw [hU]; exact hP, va_K.moved hW.alike C.2.2.2.2.2.2.2.2.1, hD.weaken (fun _ _ _ _ => trivial)⟩, ?_⟩
    rw [hU]
    exact ((C.2.2.2.2.2.2.2.2.2.1.kept hS.2.1).warm hW).narrow hsub
  · rw [List.length_map]; exact hlen
  · show (As.reverse ++ st).map (vq_tr a) = (As.map (vq_tr a)).reverse ++ st.map (vq_tr a)
    rw [List.map_append, List.map_reverse]
  · exact lv_room (by rw [vq_cats]; exact hrest)
/-- what the callee throws leaves this method too -/
theorem vq_outX {p : Program} {e : Env} {s : State} {m : MethodId} {args : Array Value} {below : List Frame} {meth : Method} {c : Code} {a : Nat → Nat} {cs : vq_S} {D : va_G} {A : Nat → Prop} {H1 : Heap} {locs1 : List Loc} {ls : Array Slot} {rest : List Value} {E : String} {ce : Cell} {q9 : Addr} {I' : MI} {L' : ML} {A1 : Nat → Prop} {t : State} {K' : Nat}
    (C : vq_C n y a cs D A p s m args meth c) (hk : k + K' ≤ K) (ht : t.heap = H1) (hB : QX E I' L') (hat : vq_at n a cs D A1 I' L' t) (hA1 : ∀ q, A1 q → A q) (hS1 : va_S A s.heap H1 locs1) (hce : H1[q9]? = some ce) (hcv : ce.vm = .none) (hcl : s.vm.findClass E = some ce.cls) :
    vx_W p l e (vq_rm d K) s m args below meth c H1 locs1 (k + K') (6 * k + 6 * K') (vx_MQ below (vq_Qc y.2.2.2 n a cs D A Q) (vq_XC n a cs D A QX) args s K (6 * K) A) (F0 m pc ls rest) q9 := by
  refine vx_out (fun x hx => absurd hx (fun h => (C.2.2.2.2.2.2.2.1 x h).elim)) C.2.2.2.2.2.2.1 hce hcv hcl (fun t' ht' hvm' => ?_) hS1.2.2 hk (by omega)
  refine ⟨(I', L'), trivial, ⟨hB, by rw [ht', ← ht]; exact hat.1, va_K.moved hvm' C.2.2.2.2.2.2.2.2.1, hat.2.2.weaken (fun _ _ _ h => hA1 _ h)⟩, hS1.F ht'⟩
theorem q_callv {y' : vq_M} {na ix b ci d' K' : Nat} {own : String} (As : List Value) {Q' : vq_R} {QX' : vq_RX} (hok : vq_okV y' na) (hlen : As.length = na) (hw : Cond.methodLink own ix y'.1 ∈ WS) (ho : y.1.cls = own) (hi : vq_is n b ci) (hci : ci < 11) (hcl : (vq_cl ci).1 = y'.1.cls) (hd : decode y.2.1 pc = .ok (.invokevirtual ix, 3)) (hrest : (st.map fun v => v.category).sum ≤ 8) (hdep : d' + 1 ≤ d) (hL : y'.2.2.1 ≤ 40) (hk : k + K' ≤ K) (hr : y'.2.2.2 = none)
    (hM : VM l n y' d' K' (.ref b :: As) I L Q' QX') (kx : ∀ E I' L', QX' E I' L' → QX E I' L') (kk : ∀ I' L', Q' none I' L' → VP l n y d K Q QX (k + K') (pc + 3) lv st I' L') : VP l n y d K Q QX k pc lv (As.reverse ++ .ref b :: st) I L := by
  intro p e s m args below meth c a cs D A H locs ls C hP hD hS hl
  have hrun := vq_runV (e := e) (below := below) hok hlen hw ho hi hci hcl hd hrest hdep hL hk hM C hP hD hS hl
  have hsub := vq_sub hD hS C.2.2.2.2.2.2.2.2.2.2
  have hq : vq_Qc y'.2.2.2 n a cs D (va_A (vq_W n a cs I L) H.size) Q' = va_Qv (fun (u : MI × ML) => Q' none u.1 u.2) (fun u t => vq_at n a cs D (va_A (vq_W n a cs I L) H.size) u.1 u.2 t) (va_A (vq_W n a cs I L) H.size) := by
    rw [hr]; rfl
  rw [hq] at hrun
  refine vx_callv hrun hS (fun q _ h => hsub q h) hsub (fun q _ h => hsub q h) (fun E ce q9 u t H1 locs1 ht hvm _ hB h1 hk1 hS1 hce hcv hcl9 => ?_) (fun u t H1 locs1 ht hvm hp hB h1 hk1 hS1 => ?_)
  · exact vq_outX C hk ht (kx _ _ _ hB.1) hB.2 hsub hS1 hce hcv hcl9
  · have hz : 6 * k + 6 * K' = 6 * (k + K') := by omega
    rw [hz]
    exact kk u.1 u.2 hp p e s m args below meth c a cs D A H1 locs1 ls C (ht ▸ hB.1) (hB.2.2.weaken (fun _ _ _ h => hsub _ h)) hS1 hl
theorem q_calli {y' : vq_M} {na ix b ci d' K' : Nat} {own : String} (As : List Value) {Q' : vq_R} {QX' : vq_RX} (hok : vq_okV y' na) (hlen : As.length = na) (hw : Cond.methodLink own ix y'.1 ∈ WS) (ho : y.1.cls = own) (hi : vq_is n b ci) (hci : ci < 11) (hcl : (vq_cl ci).1 = y'.1.cls) (hd : decode y.2.1 pc = .ok (.invokevirtual ix, 3)) (hrest : (st.map fun v => v.category).sum ≤ 8) (hdep : d' + 1 ≤ d) (hL : y'.2.2.1 ≤ 40) (hk : k + K' ≤ K) (hr : y'.2.2.2 = some .int ∨ y'.2.2.2 = some .boolean)
    (hM : VM l n y' d' K' (.ref b :: As) I L Q' QX') (kx : ∀ E I' L', QX' E I' L' → QX E I' L') (kk : ∀ r I' L', Q' (some (.int r)) I' L' → VP l n y d K Q QX (k + K') (pc + 3) lv (.int r :: st) I' L') : VP l n y d K Q QX k pc lv (As.reverse ++ .ref b :: st) I L := by
  intro p e s m args below meth c a cs D A H locs ls C hP hD hS hl
  have hrun := vq_runV (e := e) (below := below) hok hlen hw ho hi hci hcl hd hrest hdep hL hk hM C hP hD hS hl
  have hsub := vq_sub hD hS C.2.2.2.2.2.2.2.2.2.2
  have hq : vq_Qc y'.2.2.2 n a cs D (va_A (vq_W n a cs I L) H.size) Q' = va_Qi (fun (r : Int32) (u : MI × ML) => Q' (some (.int r)) u.1 u.2) (fun u t => vq_at n a cs D (va_A (vq_W n a cs I L) H.size) u.1 u.2 t) (va_A (vq_W n a cs I L) H.size) := by
    rcases hr with h | h <;> rw [h] <;> rfl
  rw [hq] at hrun
  refine vx_calli hrun hS (fun q _ h => hsub q h) hsub (fun q _ h => hsub q h) (fun E ce q9 u t H1 locs1 ht hvm _ hB h1 hk1 hS1 hce hcv hcl9 => ?_) (fun r u t H1 locs1 ht hvm hp hB h1 hk1 hS1 => ?_)
  · exact vq_outX C hk ht (kx _ _ _ hB.1) hB.2 hsub hS1 hce hcv hcl9
  · have hz : 6 * k + 6 * K' = 6 * (k + K') := by omega
    rw [hz]
    exact kk r u.1 u.2 hp p e s m args below meth c a cs D A H1 locs1 ls C (ht ▸ hB.1) (hB.2.2.weaken (fun _ _ _ h => hsub _ h)) hS1 hl
theorem q_calls {y' : vq_M} {na ix d' K' : Nat} (As : List Value) {Q' : vq_R} {QX' : vq_RX} (hok : vq_okS y' na) (hlen : As.length = na) (hw : Cond.methodLink y'.1.cls ix y'.1 ∈ WS) (ho : y.1.cls = y'.1.cls) (hd : decode y.2.1 pc = .ok (.invokestatic ix, 3)) (hrest : (st.map fun v => v.category).sum ≤ 8) (hdep : d' + 1 ≤ d) (hL : y'.2.2.1 ≤ 40) (hk : k + K' ≤ K) (hr : y'.2.2.2 = some .int ∨ y'.2.2.2 = some .boolean)
    (hM : VM l n y' d' K' As I L Q' QX') (kx : ∀ E I' L', QX' E I' L' → QX E I' L') (kk : ∀ r I' L', Q' (some (.int r)) I' L' → VP l n y d K Q QX (k + K') (pc + 3) lv (.int r :: st) I' L') : VP l n y d K Q QX k pc lv (As.reverse ++ st) I L := by
  intro p e s m args below meth c a cs D A H locs ls C hP hD hS hl
  have hrun := vq_runS (e := e) (below := below) hok hlen hw ho hd hrest hdep hL hk hM C hP hD hS hl
  have hsub := vq_sub hD hS C.2.2.2.2.2.2.2.2.2.2
  have hq : vq_Qc y'.2.2.2 n a cs D (va_A (vq_W n a cs I L) H.size) Q' = va_Qi (fun (r : Int32) (u : MI × ML) => Q' (some (.int r)) u.1 u.2) (fun u t => vq_at n a cs D (va_A (vq_W n a cs I L) H.size) u.1 u.2 t) (va_A (vq_W n a cs I L) H.size) := by
    rcases hr with h | h <;> rw [h] <;> rfl
  rw [hq] at hrun
  refine vx_calli hrun hS (fun q _ h => hsub q h) hsub (fun q _ h => hsub q h) (fun E ce q9 u t H1 locs1 ht hvm _ hB h1 hk1 hS1 hce hcv hcl9 => ?_) (fun r u t H1 locs1 ht hvm hp hB h1 hk1 hS1 => ?_)
  · exact vq_outX C hk ht (kx _ _ _ hB.1) hB.2 hsub hS1 hce hcv hcl9
  · have hz : 6 * k + 6 * K' = 6 * (k + K') := by omega
    rw [hz]
    exact kk r u.1 u.2 hp p e s m args below meth c a cs D A H1 locs1 ls C (ht ▸ hB.1) (hB.2.2.weaken (fun _ _ _ h => hsub _ h)) hS1 hl
end VPC
