/-! ===== a method's body over the memory by numbers: VP (at a place of the body), VM (a method's contract) ===== -/
def vq_tr (a : Nat → Nat) : Value → Value
  | .ref i => .ref (a i)
  | v => v
def vq_t2 (a : Nat → Nat) (q : Nat × Value) : Nat × Value := (q.1, vq_tr a q.2)
abbrev vq_S : Type := ClassId × ClassId × ClassId × ClassId
def vq_val (a : Nat → Nat) (I : MI) (L : ML) (i kd k : Nat) : Value := if kd = 0 then .int (I i k) else if kd = 1 then .long (L i k) else va_rf ((gr i k).map a)
def vq_fl (a : Nat → Nat) (I : MI) (L : ML) (i : Nat) : List Nat → Nat → List Value
  | [], _ => []
  | kd :: r, k => vq_val a I L i kd k :: vq_fl a I L i r (k + 1)
theorem vq_fl_get {a : Nat → Nat} {I : MI} {L : ML} {i : Nat} : ∀ (ks : List Nat) (k0 j : Nat) {kd : Nat}, ks[j]? = some kd → (vq_fl a I L i ks k0)[j]? = some (vq_val a I L i kd (k0 + j))
  | [], _, _, _, h => by simp at h
  | x :: r, k0, 0, kd, h => by
    simp only [List.getElem?_cons_zero, Option.some.injEq] at h
    subst h
    rfl
  | x :: r, k0, j + 1, kd, h => by
    simp only [List.getElem?_cons_succ] at h
    have := vq_fl_get (a := a) (I := I) (L := L) (i := i) r (k0 + 1) j h
    simp only [vq_fl, List.getElem?_cons_succ]
    rw [this, show k0 + 1 + j = k0 + (j + 1) by omega]
theorem vq_fl_len {a : Nat → Nat} {I : MI} {L : ML} {i : Nat} : ∀ (ks : List Nat) (k0 : Nat), (vq_fl a I L i ks k0).length = ks.length
  | [], _ => rfl
  | x :: r, k0 => by simp only [vq_fl, List.length_cons, vq_fl_len r]
def upI (I : MI) (i j : Nat) (v : Int32) : MI := fun x y => if x = i ∧ y = j then v else I x y
def upL (L : ML) (i j : Nat) (v : Int64) : ML := fun x y => if x = i ∧ y = j then v else L x y
theorem vq_fl_setI {a : Nat → Nat} {I : MI} {L : ML} {i : Nat} {v : Int32} : ∀ (ks : List Nat) (k0 j : Nat), ks[j]? = some 0 → (vq_fl a I L i ks k0).set j (.int v) = vq_fl a (upI I i (k0 + j) v) L i ks k0
  | [], _, _, h => by simp at h
  | x :: r, k0, j, h => by
    have key : ∀ (ks : List Nat) (k1 k2 : Nat), k1 < k2 → vq_fl a I L i ks k2 = vq_fl a (upI I i k1 v) L i ks k2 := by
      intro ks
      induction ks with
      | nil => intro _ _ _; rfl
      | cons y ys ih =>
        intro k1 k2 hk
        simp only [vq_fl]
        rw [ih k1 (k2 + 1) (by omega)]
        simp only [vq_val, upI, true_and]
        rw [if_neg (show ¬ k2 = k1 by omega)]
    match j, h with
    | 0, h =>
      simp only [List.getElem?_cons_zero, Option.some.injEq] at h
      subst h
      simp only [vq_fl, List.set_cons_zero, Nat.add_zero]
      rw [← key r k0 (k0 + 1) (by omega)]
      simp [vq_val, upI]
    | j + 1, h =>
      simp only [List.getElem?_cons_succ] at h
      simp only [vq_fl, List.set_cons_succ]
      rw [vq_fl_setI r (k0 + 1) j h, show k0 + 1 + j = k0 + (j + 1) by omega]
      simp only [vq_val, upI, true_and]
      rw [if_neg (show ¬ k0 = k0 + (j + 1) by omega)]
theorem vq_fl_setL {a : Nat → Nat} {I : MI} {L : ML} {i : Nat} {v : Int64} : ∀ (ks : List Nat) (k0 j : Nat), ks[j]? = some 1 → (vq_fl a I L i ks k0).set j (.long v) = vq_fl a I (upL L i (k0 + j) v) i ks k0
  | [], _, _, h => by simp at h
  | x :: r, k0, j, h => by
    have key : ∀ (ks : List Nat) (k1 k2 : Nat), k1 < k2 → vq_fl a I L i ks k2 = vq_fl a I (upL L i k1 v) i ks k2 := by
      intro ks
      induction ks with
      | nil => intro _ _ _; rfl
      | cons y ys ih =>
        intro k1 k2 hk
        simp only [vq_fl]
        rw [ih k1 (k2 + 1) (by omega)]
        simp only [vq_val, upL, true_and]
        rw [if_neg (show ¬ k2 = k1 by omega)]
    match j, h with
    | 0, h =>
      simp only [List.getElem?_cons_zero, Option.some.injEq] at h
      subst h
      simp only [vq_fl, List.set_cons_zero, Nat.add_zero]
      rw [← key r k0 (k0 + 1) (by omega)]
      simp [vq_val, upL]
    | j + 1, h =>
      simp only [List.getElem?_cons_succ] at h
      simp only [vq_fl, List.set_cons_succ]
      rw [vq_fl_setL r (k0 + 1) j h, show k0 + 1 + j = k0 + (j + 1) by omega]
      simp only [vq_val, upL, true_and]
      rw [if_neg (show ¬ k0 = k0 + (j + 1) by omega)]
theorem vq_fl_other {a : Nat → Nat} {I I' : MI} {L L' : ML} {i : Nat} (hI : I' i = I i) (hL : L' i = L i) : ∀ (ks : List Nat) (k0 : Nat), vq_fl a I' L' i ks k0 = vq_fl a I L i ks k0
  | [], _ => rfl
  | x :: r, k0 => by
    simp only [vq_fl, vq_val, hI, hL]
    rw [vq_fl_other hI hL r]
def vq_ct (n : Nat) (a : Nat → Nat) (cs : vq_S) (I : MI) (L : ML) (i : Nat) : va_E :=
  if gk i = 20 then .inl (cs.1, gl n i, .inl (I i)) else
  if gk i = 21 then .inl (cs.2.1, gl n i, .inr (.inl (L i))) else
  if gk i = 22 then .inl (cs.2.2.1, gl n i, .inl (I i)) else
  if gk i = 23 then .inl (cs.2.2.2, gl n i, .inr (.inr (.inr (.inr (fun j => (gr i j).map a))))) else
  .inr (gk i, vq_fl a I L i (vq_fk (gk i)) 0)
theorem vq_ct_other {n : Nat} {a : Nat → Nat} {cs : vq_S} {I I' : MI} {L L' : ML} {i : Nat} (hI : I' i = I i) (hL : L' i = L i) : vq_ct n a cs I' L' i = vq_ct n a cs I L i := by
  simp only [vq_ct, hI, hL, vq_fl_other hI hL]
def vq_W (n : Nat) (a : Nat → Nat) (cs : vq_S) (I : MI) (L : ML) : va_W := (vq_ids n).map (fun i => (a i, vq_ct n a cs I L i))
theorem vq_set {A : Nat → Prop} {ids : List Nat} {a : Nat → Nat} {f g : Nat → va_E} {k i : Nat} (hD : va_D A (ids.map (fun j => (a j, f j)))) (hk : ids[k]? = some i) (hg : ∀ j, j ≠ i → g j = f j) : (ids.map (fun j => (a j, f j))).set k (a i, g i) = ids.map (fun j => (a j, g j)) := by
  have h0 : (ids.map (fun j => (a j, f j)))[k]? = some (a i, f i) := by rw [List.getElem?_map, hk]; rfl
  apply List.ext_getElem?
  intro q
  by_cases hq : q = k
  · subst hq
    rw [List.getElem?_set_self (by rw [List.length_map]; exact (List.getElem?_eq_some_iff.mp hk).1), List.getElem?_map, hk]
    rfl
  · rw [List.getElem?_set_ne (fun h => hq h.symm), List.getElem?_map, List.getElem?_map]
    cases hj : ids[q]? with
    | none => rfl
    | some j =>
      simp only [Option.map_some]
      have hne : j ≠ i := fun h => by
        subst h
        exact hq (hD.1 q k _ _ (by rw [List.getElem?_map, hj]; rfl) h0 rfl)
      rw [hg j hne]
abbrev vq_ty (cs : vq_S) : List (ClassId × FieldType) := [(cs.1, .int), (cs.2.1, .long), (cs.2.2.1, .boolean), (cs.2.2.2, .object "LoopGroup$Loop")]
/-- what throws need of the start: the two statics of Throwable, the texts, words that a call must carry -/
def vq_txt : List (String × Nat × String) := [("LoopGroup", 53, "there are 24 tasks"), ("LoopGroup", 67, "no such kind of order"), ("LoopGroup", 74, "the task has 8 orders"), ("LoopGroup", 86, "there are 32 promises"), ("LoopGroup", 94, "there are 16 channels"), ("LoopGroup", 104, "no such place"), ("LoopGroup", 109, "no such kind of handler"), ("LoopGroup", 111, "the pipeline has 6 handlers"), ("LoopGroup", 118, "not 0 .. 1,000,000"), ("LoopGroup", 133, "rejected"), ("LoopGroup", 135, "a time below 0"), ("LoopGroup", 150, "no such how"), ("LoopGroup", 159, "6 listeners wait"), ("LoopGroup", 173, "not 0 <= quiet <= timeout"), ("LoopGroup", 211, "no such what"), ("LoopGroup", 230, "no such entry is kept"), ("LoopGroup", 239, "no such task"), ("LoopGroup", 242, "no such loop"), ("LoopGroup", 245, "no such promise"), ("LoopGroup", 248, "no such channel")]
def vq_bd : List MethodName := [Bundle.initS "java/lang/RuntimeException", Bundle.initS "java/lang/Exception", Bundle.initS Bundle.tN]
def vq_bc : List String := ["java/lang/IllegalStateException", "java/lang/IllegalArgumentException", "java/lang/IndexOutOfBoundsException"]
def vq_E (A : Nat → Prop) (U : State) (H : Heap) : Prop := vx_Zq Bundle.tN "UNASSIGNED_STACK" Bundle.steD A U H ∧ vx_Zq Bundle.tN "SUPPRESSED_SENTINEL" Bundle.listD A U H ∧ (∀ x ∈ vq_bd, va_Nw (.declares x) U) ∧ (∀ x ∈ vq_bc, va_Nw (.castable x x) U) ∧ ∀ q ∈ vq_txt, ∃ sa, vk_R q.1 q.2.1 q.2.2 sa U
abbrev vq_rm (d K : Nat) : Room := { frames := d, cells := K, slots := 6 * K, locals := 64 * d }
def vq_at (n : Nat) (a : Nat → Nat) (cs : vq_S) (D : va_G) (A : Nat → Prop) (I : MI) (L : ML) (t : State) : Prop := va_P D vwCl (vq_W n a cs I L) t.heap ∧ va_K D vwCl (vq_ty cs) t ∧ va_D A (vq_W n a cs I L)
abbrev vq_R : Type := Option Value → MI → ML → Prop
abbrev vq_RX : Type := String → MI → ML → Prop
def vq_Qc (rt : Option FieldType) (n : Nat) (a : Nat → Nat) (cs : vq_S) (D : va_G) (A : Nat → Prop) (Q : vq_R) : Array Value → State → Outcome → State → Prop := match rt with
  | none => va_Qv (fun u : MI × ML => Q none u.1 u.2) (fun u t => vq_at n a cs D A u.1 u.2 t) A
  | some .long => va_Ql (fun (r : Int64) (u : MI × ML) => Q (some (.long r)) u.1 u.2) (fun u t => vq_at n a cs D A u.1 u.2 t) A
  | some _ => va_Qi (fun (r : Int32) (u : MI × ML) => Q (some (.int r)) u.1 u.2) (fun u t => vq_at n a cs D A u.1 u.2 t) A
def vq_XC (n : Nat) (a : Nat → Nat) (cs : vq_S) (D : va_G) (A : Nat → Prop) (QX : vq_RX) : String → State → State → Prop := vx_X (fun _ : MI × ML => True) (fun E u t => QX E u.1 u.2 ∧ vq_at n a cs D A u.1 u.2 t) A
def vq_C (n : Nat) (y : vq_M) (a : Nat → Nat) (cs : vq_S) (D : va_G) (A : Nat → Prop) (p : Program) (s : State) (m : MethodId) (args : Array Value) (meth : Method) (c : Code) : Prop :=
  p.tables.exec = Jvm.exec ∧ c.code = y.2.1 ∧ meth.sig.returnType = y.2.2.2 ∧ c.maxLocals = y.2.2.1 ∧ s.vm.findClass y.1.cls = some m.cls ∧ (∀ w ∈ WS, w.before args s = true) ∧ meth.locks = false ∧ (∀ x ∈ c.exceptionTable.toList, False) ∧ va_K D vwCl (vq_ty cs) s ∧ vq_E A s s.heap ∧ (∀ q, s.heap.size ≤ q → A q)
/-- at the place pc of y's body, with these locals, stack and memory, k cells used: it comes to an end with Q, or throws with QX -/
def VP (l : Launch) (n : Nat) (y : vq_M) (d K : Nat) (Q : vq_R) (QX : vq_RX) (k pc : Nat) (lv : List (Nat × Value)) (st : List Value) (I : MI) (L : ML) : Prop :=
  ∀ (p : Program) (e : Env) (s : State) (m : MethodId) (args : Array Value) (below : List Frame) (meth : Method) (c : Code) (a : Nat → Nat) (cs : vq_S) (D : va_G) (A : Nat → Prop) (H : Heap) (locs : List Loc) (ls : Array Slot),
    vq_C n y a cs D A p s m args meth c → va_P D vwCl (vq_W n a cs I L) H → va_D A (vq_W n a cs I L) → va_S A s.heap H locs → lv_has ls y.2.2.1 (lv.map (vq_t2 a)) →
    W p l e (vq_rm d K) s m args below meth c H locs k (6 * k) (vx_MQ below (vq_Qc y.2.2.2 n a cs D A Q) (vq_XC n a cs D A QX) args s K (6 * K) A) (F0 m pc ls (st.map (vq_tr a)))
def vq_Pc (n : Nat) (a : Nat → Nat) (cs : vq_S) (D : va_G) (sz : Nat) (av : List Value) (I : MI) (L : ML) : Array Value → State → Prop := va_Pc (av.map (vq_tr a)) (fun U => U.heap.size = sz ∧ vq_at n a cs D (fun _ => True) I L U ∧ vq_E (va_A (vq_W n a cs I L) sz) U U.heap)
/-- y's contract: with these arguments and this memory it ends with Q, or throws with QX -/
def VM (l : Launch) (n : Nat) (y : vq_M) (d K : Nat) (av : List Value) (I : MI) (L : ML) (Q : vq_R) (QX : vq_RX) : Prop :=
  ∀ (a : Nat → Nat) (cs : vq_S) (D : va_G) (sz : Nat), vx_Met l y.1 (Cond.code y.1 y.2.1 y.2.2.1 y.2.2.2 :: WS) (vq_rm d K) (vq_Pc n a cs D sz av I L) (vq_Qc y.2.2.2 n a cs D (va_A (vq_W n a cs I L) sz) Q) (vq_XC n a cs D (va_A (vq_W n a cs I L) sz) QX) K (6 * K) (va_A (vq_W n a cs I L) sz)
theorem vq_lvm {a : Nat → Nat} {ls : Array Slot} {nL i : Nat} {v : Value} {lv : List (Nat × Value)} (h : lv_has ls nL (lv.map (vq_t2 a))) (hi : (i, v) ∈ lv) : ls[i]? = some (.val (vq_tr a v)) := h.2.2 (i, vq_tr a v) (List.mem_map.mpr ⟨(i, v), hi, rfl⟩)
/-- the value of a local -/
def vq_lk : List (Nat × Value) → Nat → Option Value
  | [], _ => none
  | (j, v) :: r, i => if j = i then some v else vq_lk r i
theorem vq_lk_mem {i : Nat} {v : Value} : ∀ {lv : List (Nat × Value)}, vq_lk lv i = some v → (i, v) ∈ lv
  | [], h => by cases h
  | (j, w) :: r, h => by
    simp only [vq_lk] at h
    split at h
    · rename_i hj
      subst hj
      cases h
      exact List.mem_cons_self
    · exact List.mem_cons_of_mem _ (vq_lk_mem h)
theorem vq_lkm {a : Nat → Nat} {ls : Array Slot} {nL i : Nat} {v : Value} {lv : List (Nat × Value)} (h : lv_has ls nL (lv.map (vq_t2 a))) (hi : vq_lk lv i = some v) : ls[i]? = some (.val (vq_tr a v)) := vq_lvm h (vq_lk_mem hi)
theorem vq_cat (a : Nat → Nat) (v : Value) : (vq_tr a v).category = v.category := by cases v <;> rfl
theorem vq_filt (a : Nat → Nat) (f : Nat → Nat → Bool) (lv : List (Nat × Value)) : (lv.map (vq_t2 a)).filter (fun q => f q.1 q.2.category) = (lv.filter (fun q => f q.1 q.2.category)).map (vq_t2 a) := by
  rw [List.filter_map]
  congr 1
  apply List.filter_congr
  intro x hx
  simp only [Function.comp, vq_t2, vq_cat]
