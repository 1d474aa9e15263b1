/-! ===== the search for a handler: rows that are passed, then the row that catches; their links cold or warm ===== -/
section Rows8
/-- a row that covers the pc and names a class: its link is noted; then it catches, or the search goes on -/
theorem vy_row {Q : Handler → Pre} {E : CtlPost} {e : Env} {d : Bool} {acts : List Action} {s : State} {f : JFrame} {a : Addr} {x : ExceptionTableEntry} {t : List ExceptionTableEntry} {c : ClassId} {cell : Cell}
    (hx : covers x f.pc = true) (h0 : x.catchType ≠ 0) (hl : s.vm.ClassLinks e.platform f.method.cls x.catchType c) (hcell : s.heap[a]? = some cell) (hobj : ∀ k, cell.vm ≠ .statics k)
    (hk : ∃ k, s.vm.classes[cell.cls]? = some k) (hc : ∃ k, s.vm.classes[c]? = some k) :
    wp (findHandler.go f a (x :: t)) Q E e d acts s ↔
      if s.vm.assignable cell.cls c = true then Q (.found x.handlerPc) d acts (s.setVm (s.vm.noted f.method.cls x.catchType (.cls c)))
      else wp (findHandler.go f a t) Q E e d acts (s.setVm (s.vm.noted f.method.cls x.catchType (.cls c))) := by
  have al : s.vm.Alike (s.vm.noted f.method.cls x.catchType (.cls c)) := (Vm.Alike.refl s.vm).noted _ _ _
  have g := (resolveClass_links e.toSetting hl).op (op := VmOp.resolveClass f.method.cls x.catchType) rfl
  obtain ⟨k, hk⟩ := hk
  obtain ⟨k', hk', -⟩ := al.2.2 _ _ hk
  obtain ⟨j, hc⟩ := hc
  obtain ⟨j', hc', -⟩ := al.2.2 _ _ hc
  have hx' : (decide (x.startPc ≤ f.pc) && decide (f.pc < x.endPc)) = true := hx
  have ha : (s.vm.noted f.method.cls x.catchType (.cls c)).assignable cell.cls c = s.vm.assignable cell.cls c := by rw [al.assignable]
  cases hb : s.vm.assignable cell.cls c <;> rw [hb] at ha <;>
    simp [findHandler.go, hx', h0, g.1, g.2, hcell, hobj, hk', hc', ha, VmOp.dirties, VmOp.acts]
/-- what a link of the first memory gives in a later one: the link, its class, and that the memory with the link noted is a later one too -/
theorem vy_link {s : State} {vm : Vm} {pl : Platform} {d j c : Nat} (w : s.WarmedH vm) (hl : s.vm.ClassLinks pl d j c) :
    vm.ClassLinks pl d j c ∧ (∃ k, vm.classes[c]? = some k) ∧ s.WarmedH (vm.noted d j (.cls c)) := by
  obtain ⟨dk, _, _, kt, hd, _, _, _, _, hkt, _, ho⟩ := hl.here
  obtain ⟨kt', hkt', -⟩ := w.alike.2.2 _ _ hkt
  exact ⟨w.classLinks hl, ⟨kt', hkt'⟩, w.noted hd ho (State.rightAt_cls hl)⟩
theorem vy_look {e : Env} {s : State} {f : JFrame} {a : Addr} {cell : Cell} (hobj : ∀ k, cell.vm ≠ .statics k) (hk : ∃ k, s.vm.classes[cell.cls]? = some k) {x : ExceptionTableEntry} {suf : List ExceptionTableEntry} {cx : ClassId}
    (hx : covers x f.pc = true) (h0 : x.catchType ≠ 0) (hl : s.vm.ClassLinks e.platform f.method.cls x.catchType cx) (hb : s.vm.assignable cell.cls cx = true) (pre : List ExceptionTableEntry) :
    (∀ z ∈ pre, covers z f.pc = false ∨ (z.catchType ≠ 0 ∧ ∃ c, s.vm.ClassLinks e.platform f.method.cls z.catchType c ∧ s.vm.assignable cell.cls c = false)) →
    ∀ S : State, s.WarmedH S.vm → S.heap[a]? = some cell → ∃ vm', s.WarmedH vm' ∧
      ∀ (Q : Handler → Pre) (E : CtlPost) (d : Bool) (acts : List Action), wp (findHandler.go f a (pre ++ x :: suf)) Q E e d acts S ↔ Q (.found x.handlerPc) d acts (S.setVm vm') := by
  obtain ⟨k, hk⟩ := hk
  induction pre with
  | nil =>
    intro _ S w hc
    obtain ⟨k', hk', -⟩ := w.alike.2.2 _ _ hk
    obtain ⟨l1, l2, l3⟩ := vy_link w hl
    refine ⟨_, l3, fun Q E d acts => ?_⟩
    rw [List.nil_append, vy_row hx h0 l1 hc hobj ⟨k', hk'⟩ l2, if_pos (by rw [w.alike.assignable]; exact hb)]
  | cons z zs ih =>
    intro hp S w hc
    have hp' := fun y hy => hp y (List.mem_cons_of_mem z hy)
    cases hz : covers z f.pc with
    | false =>
      obtain ⟨vm', w', h⟩ := ih hp' S w hc
      exact ⟨vm', w', fun Q E d acts => by rw [List.cons_append, W.findHandler_go_skip hz]; exact h Q E d acts⟩
    | true =>
      obtain ⟨z0, c, zl, zb⟩ : z.catchType ≠ 0 ∧ ∃ c, s.vm.ClassLinks e.platform f.method.cls z.catchType c ∧ s.vm.assignable cell.cls c = false := by
        rcases hp z (List.mem_cons_self ..) with h | h
        · rw [hz] at h; cases h
        · exact h
      obtain ⟨k', hk', -⟩ := w.alike.2.2 _ _ hk
      obtain ⟨l1, l2, l3⟩ := vy_link w zl
      obtain ⟨vm', w', h⟩ := ih hp' (S.setVm (S.vm.noted f.method.cls z.catchType (.cls c))) l3 hc
      refine ⟨vm', w', fun Q E d acts => ?_⟩
      rw [List.cons_append, vy_row hz z0 l1 hc hobj ⟨k', hk'⟩ l2, if_neg (by rw [w.alike.assignable, zb]; decide)]
      exact h Q E d acts
/-- the step from the note to the row that catches -/
theorem vy_caught {p : Program} {l : Launch} {e : Env} {R : Room} {s T : State} {m : MethodId} {args : Array Value} {below : List Frame} {meth : Method} {c : Code} {locs : List Loc} {cells slots : Nat} {g : JFrame} {a : Addr} {cell : Cell}
    (X : Stand p l e R s m args below meth c T locs cells slots) (hg : g.method = m) (hc : T.heap[a]? = some cell) (hobj : cell.vm.isStatics = false) (hk : ∃ k, s.vm.classes[cell.cls]? = some k)
    {pre suf : List ExceptionTableEntry} {x : ExceptionTableEntry} {cx : ClassId} (hs : c.exceptionTable.toList = pre ++ x :: suf)
    (hp : ∀ z ∈ pre, covers z g.pc = false ∨ (z.catchType ≠ 0 ∧ ∃ c, s.vm.ClassLinks e.platform m.cls z.catchType c ∧ s.vm.assignable cell.cls c = false))
    (hx : covers x g.pc = true) (h0 : x.catchType ≠ 0) (hl : s.vm.ClassLinks e.platform m.cls x.catchType cx) (hb : s.vm.assignable cell.cls cx = true) :
    ∃ vm', Stand p l e R s m args below meth c (T.setVm vm') locs cells slots ∧
      Steps p.tables e below ((T.setTop g).pushFrame (.throwing a)) ((T.setVm vm').setTop { g with pc := x.handlerPc, stack := [.ref a] }) := by
  subst hg
  obtain ⟨vm', w', h⟩ := vy_look (e := e) (s := s) (f := g) (a := a) (suf := suf) (VmData.ne_statics_of hobj) hk hx h0 hl hb pre hp ((T.setTop g).pushFrame (.throwing a)) X.warmed hc
  refine ⟨vm', X.noted w', ?_⟩
  obtain ⟨go, wi⟩ := X.here.throwing a
  obtain ⟨g0, fr⟩ := X.frames_eq
  have fr' : (T.setVm vm').frames = .java g0 :: below := fr
  have hm : ((T.setTop g).pushFrame (.throwing a)).vm.method? g.method = some meth := X.method'
  refine Steps.head go wi ?_
  rw [stepThread_throwing (frames_entered X.here.top _)]
  have hi : ∀ r : List Frame, (stepThrowing e ((T.setTop g).pushFrame (.throwing a)) a (.java g :: r)).Is ((((T.setTop g).pushFrame (.throwing a)).setVm vm').setFrames (.java { g with pc := x.handlerPc, stack := [.ref a] } :: r)) [] := by
    intro r
    simp only [stepThrowing, searchFrame, vmDo]
    generalize hr : Sem.go _ e false [] ((T.setTop g).pushFrame (.throwing a)) = res
    obtain ⟨as, rfl, ha⟩ := Sem.eq_ok_of hr (a := Handler.found x.handlerPc) (s' := ((T.setTop g).pushFrame (.throwing a)).setVm vm') (acts' := []) (by simp [W.findHandler_eq hm X.code, hs, h])
    exact ⟨rfl, ha⟩
  have hf : ∀ (u : State) (F G : List Frame), ((u.setFrames F).setVm vm').setFrames G = (u.setVm vm').setFrames G := fun u F G => State.setFrames_setFrames (u.setVm vm') F G
  rw [(hi _).1, fr, List.tail_cons, State.setTop_of_frames _ fr', State.setTop_of_frames _ fr, State.pushFrame, State.setFrames_setFrames, hf]
  exact Steps.refl _
theorem vy_notCast {args : Array Value} {s : State} {a b : String} (h : (Cond.not (.castable a b)).before args s = true) : ∃ c t, s.vm.findClass a = some c ∧ s.vm.findClass b = some t ∧ s.vm.assignable c t = false := by
  have hv := Cond.holds_not_iff.mp h
  cases ha : s.vm.findClass a <;> cases hb : s.vm.findClass b <;> simp only [Cond.value, ha, hb] at hv
  · cases hv
  · cases hv
  · cases hv
  · exact ⟨_, _, rfl, rfl, Option.some.inj hv⟩
end Rows8
