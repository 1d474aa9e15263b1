section
-- ===== PART A: goes FIRST, ahead of the names: the tables' words, and 'selects' of the private methods out of them =====
/-- a private method of a class that the tables say can be made, by its rows of tables_1 -/
def lw_okq (q : MethodName × Nat) : Prop := (q.1.cls ≠ "java/lang/invoke/MethodHandle" ∧ q.1.cls ≠ "java/lang/invoke/VarHandle") ∧ Cond.instantiable q.1.cls q.2 ∈ tables_1 ∧ Cond.privateMethod q.1 ∈ tables_1 ∧ Cond.instanceMethod q.1 ∈ tables_1
theorem lw_p0 : lw_okq (⟨"java/lang/Throwable", "fillInStackTrace", "(I)Ljava/lang/Throwable;"⟩, 6) := ⟨⟨by decide +kernel, by decide +kernel⟩, List.mem_of_getElem? (i := 407) (by decide +kernel), List.mem_of_getElem? (i := 405) (by decide +kernel), List.mem_of_getElem? (i := 406) (by decide +kernel)⟩
theorem lw_p1 : lw_okq (⟨"LoopGroup", "needTask", "(I)V"⟩, 6) := ⟨⟨by decide +kernel, by decide +kernel⟩, List.mem_of_getElem? (i := 21) (by decide +kernel), List.mem_of_getElem? (i := 449) (by decide +kernel), List.mem_of_getElem? (i := 450) (by decide +kernel)⟩
theorem lw_p2 : lw_okq (⟨"LoopGroup", "needLoop", "(I)V"⟩, 6) := ⟨⟨by decide +kernel, by decide +kernel⟩, List.mem_of_getElem? (i := 21) (by decide +kernel), List.mem_of_getElem? (i := 486) (by decide +kernel), List.mem_of_getElem? (i := 487) (by decide +kernel)⟩
theorem lw_p3 : lw_okq (⟨"LoopGroup", "needChannel", "(I)V"⟩, 6) := ⟨⟨by decide +kernel, by decide +kernel⟩, List.mem_of_getElem? (i := 21) (by decide +kernel), List.mem_of_getElem? (i := 519) (by decide +kernel), List.mem_of_getElem? (i := 520) (by decide +kernel)⟩
theorem lw_p4 : lw_okq (⟨"LoopGroup", "needPromise", "(I)V"⟩, 6) := ⟨⟨by decide +kernel, by decide +kernel⟩, List.mem_of_getElem? (i := 21) (by decide +kernel), List.mem_of_getElem? (i := 609) (by decide +kernel), List.mem_of_getElem? (i := 610) (by decide +kernel)⟩
theorem lw_p5 : lw_okq (⟨"LoopGroupModel", "throwing", "(ZZ)Z"⟩, 53) := ⟨⟨by decide +kernel, by decide +kernel⟩, List.mem_of_getElem? (i := 837) (by decide +kernel), List.mem_of_getElem? (i := 1011) (by decide +kernel), List.mem_of_getElem? (i := 1012) (by decide +kernel)⟩
theorem lw_p6 : lw_okq (⟨"LoopGroupModel", "isTask", "(I)Z"⟩, 53) := ⟨⟨by decide +kernel, by decide +kernel⟩, List.mem_of_getElem? (i := 837) (by decide +kernel), List.mem_of_getElem? (i := 1019) (by decide +kernel), List.mem_of_getElem? (i := 1020) (by decide +kernel)⟩
theorem lw_p7 : lw_okq (⟨"LoopGroupModel", "isLoop", "(I)Z"⟩, 53) := ⟨⟨by decide +kernel, by decide +kernel⟩, List.mem_of_getElem? (i := 837) (by decide +kernel), List.mem_of_getElem? (i := 1031) (by decide +kernel), List.mem_of_getElem? (i := 1032) (by decide +kernel)⟩
theorem lw_p8 : lw_okq (⟨"LoopGroupModel", "isChannel", "(I)Z"⟩, 53) := ⟨⟨by decide +kernel, by decide +kernel⟩, List.mem_of_getElem? (i := 837) (by decide +kernel), List.mem_of_getElem? (i := 1043) (by decide +kernel), List.mem_of_getElem? (i := 1044) (by decide +kernel)⟩
theorem lw_p9 : lw_okq (⟨"LoopGroupModel", "log", "(III)V"⟩, 53) := ⟨⟨by decide +kernel, by decide +kernel⟩, List.mem_of_getElem? (i := 837) (by decide +kernel), List.mem_of_getElem? (i := 1057) (by decide +kernel), List.mem_of_getElem? (i := 1058) (by decide +kernel)⟩
theorem lw_p10 : lw_okq (⟨"LoopGroupModel", "push", "(III)V"⟩, 53) := ⟨⟨by decide +kernel, by decide +kernel⟩, List.mem_of_getElem? (i := 837) (by decide +kernel), List.mem_of_getElem? (i := 1061) (by decide +kernel), List.mem_of_getElem? (i := 1062) (by decide +kernel)⟩
theorem lw_p11 : lw_okq (⟨"LoopGroupModel", "run", "()V"⟩, 53) := ⟨⟨by decide +kernel, by decide +kernel⟩, List.mem_of_getElem? (i := 837) (by decide +kernel), List.mem_of_getElem? (i := 1065) (by decide +kernel), List.mem_of_getElem? (i := 1066) (by decide +kernel)⟩
theorem lw_p12 : lw_okq (⟨"LoopGroupModel", "pass", "()V"⟩, 53) := ⟨⟨by decide +kernel, by decide +kernel⟩, List.mem_of_getElem? (i := 837) (by decide +kernel), List.mem_of_getElem? (i := 1069) (by decide +kernel), List.mem_of_getElem? (i := 1070) (by decide +kernel)⟩
theorem lw_p13 : lw_okq (⟨"LoopGroupModel", "send", "(II)Z"⟩, 53) := ⟨⟨by decide +kernel, by decide +kernel⟩, List.mem_of_getElem? (i := 837) (by decide +kernel), List.mem_of_getElem? (i := 1074) (by decide +kernel), List.mem_of_getElem? (i := 1075) (by decide +kernel)⟩
theorem lw_p14 : lw_okq (⟨"LoopGroupModel", "frames", "(I)I"⟩, 53) := ⟨⟨by decide +kernel, by decide +kernel⟩, List.mem_of_getElem? (i := 837) (by decide +kernel), List.mem_of_getElem? (i := 1078) (by decide +kernel), List.mem_of_getElem? (i := 1079) (by decide +kernel)⟩
theorem lw_p15 : lw_okq (⟨"LoopGroupModel", "put", "(IIIII)Z"⟩, 53) := ⟨⟨by decide +kernel, by decide +kernel⟩, List.mem_of_getElem? (i := 837) (by decide +kernel), List.mem_of_getElem? (i := 1082) (by decide +kernel), List.mem_of_getElem? (i := 1083) (by decide +kernel)⟩
def lw_privs_1 : List (MethodName × Nat) := [(⟨"java/lang/Throwable", "fillInStackTrace", "(I)Ljava/lang/Throwable;"⟩, 6), (⟨"LoopGroup", "needTask", "(I)V"⟩, 6), (⟨"LoopGroup", "needLoop", "(I)V"⟩, 6), (⟨"LoopGroup", "needChannel", "(I)V"⟩, 6), (⟨"LoopGroup", "needPromise", "(I)V"⟩, 6), (⟨"LoopGroupModel", "throwing", "(ZZ)Z"⟩, 53), (⟨"LoopGroupModel", "isTask", "(I)Z"⟩, 53), (⟨"LoopGroupModel", "isLoop", "(I)Z"⟩, 53), (⟨"LoopGroupModel", "isChannel", "(I)Z"⟩, 53), (⟨"LoopGroupModel", "log", "(III)V"⟩, 53), (⟨"LoopGroupModel", "push", "(III)V"⟩, 53), (⟨"LoopGroupModel", "run", "()V"⟩, 53), (⟨"LoopGroupModel", "pass", "()V"⟩, 53), (⟨"LoopGroupModel", "send", "(II)Z"⟩, 53), (⟨"LoopGroupModel", "frames", "(I)I"⟩, 53), (⟨"LoopGroupModel", "put", "(IIIII)Z"⟩, 53)]
theorem lw_r1 : ∀ q ∈ lw_privs_1, lw_okq q := List.forall_mem_cons.mpr ⟨lw_p0, List.forall_mem_cons.mpr ⟨lw_p1, List.forall_mem_cons.mpr ⟨lw_p2, List.forall_mem_cons.mpr ⟨lw_p3, List.forall_mem_cons.mpr ⟨lw_p4, List.forall_mem_cons.mpr ⟨lw_p5, List.forall_mem_cons.mpr ⟨lw_p6, List.forall_mem_cons.mpr ⟨lw_p7, List.forall_mem_cons.mpr ⟨lw_p8, List.forall_mem_cons.mpr ⟨lw_p9, List.forall_mem_cons.mpr ⟨lw_p10, List.forall_mem_cons.mpr ⟨lw_p11, List.forall_mem_cons.mpr ⟨lw_p12, List.forall_mem_cons.mpr ⟨lw_p13, List.forall_mem_cons.mpr ⟨lw_p14, List.forall_mem_cons.mpr ⟨lw_p15, fun _ h => absurd h List.not_mem_nil⟩⟩⟩⟩⟩⟩⟩⟩⟩⟩⟩⟩⟩⟩⟩⟩
theorem lw_p16 : lw_okq (⟨"LoopGroupModel", "become", "(II)V"⟩, 53) := ⟨⟨by decide +kernel, by decide +kernel⟩, List.mem_of_getElem? (i := 837) (by decide +kernel), List.mem_of_getElem? (i := 1086) (by decide +kernel), List.mem_of_getElem? (i := 1087) (by decide +kernel)⟩
theorem lw_p17 : lw_okq (⟨"LoopGroupModel", "notify", "(II)V"⟩, 53) := ⟨⟨by decide +kernel, by decide +kernel⟩, List.mem_of_getElem? (i := 837) (by decide +kernel), List.mem_of_getElem? (i := 1090) (by decide +kernel), List.mem_of_getElem? (i := 1091) (by decide +kernel)⟩
theorem lw_p18 : lw_okq (⟨"LoopGroupModel", "work", "()V"⟩, 53) := ⟨⟨by decide +kernel, by decide +kernel⟩, List.mem_of_getElem? (i := 837) (by decide +kernel), List.mem_of_getElem? (i := 1094) (by decide +kernel), List.mem_of_getElem? (i := 1095) (by decide +kernel)⟩
theorem lw_p19 : lw_okq (⟨"LoopGroupModel", "isSo", "(III)Z"⟩, 53) := ⟨⟨by decide +kernel, by decide +kernel⟩, List.mem_of_getElem? (i := 837) (by decide +kernel), List.mem_of_getElem? (i := 1098) (by decide +kernel), List.mem_of_getElem? (i := 1099) (by decide +kernel)⟩
theorem lw_p20 : lw_okq (⟨"LoopGroupModel", "isPromise", "(I)Z"⟩, 53) := ⟨⟨by decide +kernel, by decide +kernel⟩, List.mem_of_getElem? (i := 837) (by decide +kernel), List.mem_of_getElem? (i := 1103) (by decide +kernel), List.mem_of_getElem? (i := 1104) (by decide +kernel)⟩
theorem lw_p21 : lw_okq (⟨"LoopGroupModel", "choose", "()I"⟩, 53) := ⟨⟨by decide +kernel, by decide +kernel⟩, List.mem_of_getElem? (i := 837) (by decide +kernel), List.mem_of_getElem? (i := 1107) (by decide +kernel), List.mem_of_getElem? (i := 1108) (by decide +kernel)⟩
theorem lw_p22 : lw_okq (⟨"LoopGroupModel", "schedule", "(IJI)Z"⟩, 53) := ⟨⟨by decide +kernel, by decide +kernel⟩, List.mem_of_getElem? (i := 837) (by decide +kernel), List.mem_of_getElem? (i := 1111) (by decide +kernel), List.mem_of_getElem? (i := 1112) (by decide +kernel)⟩
theorem lw_p23 : lw_okq (⟨"LoopGroupModel", "waiting", "(I)I"⟩, 53) := ⟨⟨by decide +kernel, by decide +kernel⟩, List.mem_of_getElem? (i := 837) (by decide +kernel), List.mem_of_getElem? (i := 1115) (by decide +kernel), List.mem_of_getElem? (i := 1116) (by decide +kernel)⟩
theorem lw_p24 : lw_okq (⟨"LoopGroupModel", "finish", "(III)Z"⟩, 53) := ⟨⟨by decide +kernel, by decide +kernel⟩, List.mem_of_getElem? (i := 837) (by decide +kernel), List.mem_of_getElem? (i := 1119) (by decide +kernel), List.mem_of_getElem? (i := 1120) (by decide +kernel)⟩
theorem lw_p25 : lw_okq (⟨"LoopGroupModel", "listenAt", "(II)V"⟩, 53) := ⟨⟨by decide +kernel, by decide +kernel⟩, List.mem_of_getElem? (i := 837) (by decide +kernel), List.mem_of_getElem? (i := 1123) (by decide +kernel), List.mem_of_getElem? (i := 1124) (by decide +kernel)⟩
theorem lw_p26 : lw_okq (⟨"LoopGroupModel", "await", "(I)V"⟩, 53) := ⟨⟨by decide +kernel, by decide +kernel⟩, List.mem_of_getElem? (i := 837) (by decide +kernel), List.mem_of_getElem? (i := 1127) (by decide +kernel), List.mem_of_getElem? (i := 1128) (by decide +kernel)⟩
theorem lw_p27 : lw_okq (⟨"LoopGroupModel", "shut", "(II)V"⟩, 53) := ⟨⟨by decide +kernel, by decide +kernel⟩, List.mem_of_getElem? (i := 837) (by decide +kernel), List.mem_of_getElem? (i := 1131) (by decide +kernel), List.mem_of_getElem? (i := 1132) (by decide +kernel)⟩
theorem lw_p28 : lw_okq (⟨"LoopGroupModel", "beginBatch", "(I)V"⟩, 53) := ⟨⟨by decide +kernel, by decide +kernel⟩, List.mem_of_getElem? (i := 837) (by decide +kernel), List.mem_of_getElem? (i := 1135) (by decide +kernel), List.mem_of_getElem? (i := 1136) (by decide +kernel)⟩
theorem lw_p29 : lw_okq (⟨"LoopGroupModel", "confirm", "(I)I"⟩, 53) := ⟨⟨by decide +kernel, by decide +kernel⟩, List.mem_of_getElem? (i := 837) (by decide +kernel), List.mem_of_getElem? (i := 1139) (by decide +kernel), List.mem_of_getElem? (i := 1140) (by decide +kernel)⟩
theorem lw_p30 : lw_okq (⟨"LoopGroupModel", "host", "()V"⟩, 53) := ⟨⟨by decide +kernel, by decide +kernel⟩, List.mem_of_getElem? (i := 837) (by decide +kernel), List.mem_of_getElem? (i := 1147) (by decide +kernel), List.mem_of_getElem? (i := 1148) (by decide +kernel)⟩
def lw_privs_2 : List (MethodName × Nat) := [(⟨"LoopGroupModel", "become", "(II)V"⟩, 53), (⟨"LoopGroupModel", "notify", "(II)V"⟩, 53), (⟨"LoopGroupModel", "work", "()V"⟩, 53), (⟨"LoopGroupModel", "isSo", "(III)Z"⟩, 53), (⟨"LoopGroupModel", "isPromise", "(I)Z"⟩, 53), (⟨"LoopGroupModel", "choose", "()I"⟩, 53), (⟨"LoopGroupModel", "schedule", "(IJI)Z"⟩, 53), (⟨"LoopGroupModel", "waiting", "(I)I"⟩, 53), (⟨"LoopGroupModel", "finish", "(III)Z"⟩, 53), (⟨"LoopGroupModel", "listenAt", "(II)V"⟩, 53), (⟨"LoopGroupModel", "await", "(I)V"⟩, 53), (⟨"LoopGroupModel", "shut", "(II)V"⟩, 53), (⟨"LoopGroupModel", "beginBatch", "(I)V"⟩, 53), (⟨"LoopGroupModel", "confirm", "(I)I"⟩, 53), (⟨"LoopGroupModel", "host", "()V"⟩, 53)]
theorem lw_r2 : ∀ q ∈ lw_privs_2, lw_okq q := List.forall_mem_cons.mpr ⟨lw_p16, List.forall_mem_cons.mpr ⟨lw_p17, List.forall_mem_cons.mpr ⟨lw_p18, List.forall_mem_cons.mpr ⟨lw_p19, List.forall_mem_cons.mpr ⟨lw_p20, List.forall_mem_cons.mpr ⟨lw_p21, List.forall_mem_cons.mpr ⟨lw_p22, List.forall_mem_cons.mpr ⟨lw_p23, List.forall_mem_cons.mpr ⟨lw_p24, List.forall_mem_cons.mpr ⟨lw_p25, List.forall_mem_cons.mpr ⟨lw_p26, List.forall_mem_cons.mpr ⟨lw_p27, List.forall_mem_cons.mpr ⟨lw_p28, List.forall_mem_cons.mpr ⟨lw_p29, List.forall_mem_cons.mpr ⟨lw_p30, fun _ h => absurd h List.not_mem_nil⟩⟩⟩⟩⟩⟩⟩⟩⟩⟩⟩⟩⟩⟩⟩
def lw_privs : List (MethodName × Nat) := lw_privs_1 ++ (lw_privs_2)
def lw_tbl : List Cond := k2_sels lw_privs ++ tables_1
theorem lw_privs_ok : ∀ q ∈ lw_privs, lw_okq q := by
  show ∀ q ∈ lw_privs_1 ++ (lw_privs_2), lw_okq q
  exact List.forall_mem_append.mpr ⟨lw_r1, lw_r2⟩
end
section
/-! ===== BEGIN words of one list among another's, by their places ===== -/
theorem goodIn_r {big : List Cond} (ws : List Cond) (ps : List Nat) (hp : ws = ps.filterMap (fun i => big[i]?)) (h : ws.all goodWord = true) : GoodIn big ws := by
  intro w hw
  have h1 := List.all_eq_true.mp h w hw
  rw [hp] at hw
  obtain ⟨i, -, hi⟩ := List.mem_filterMap.mp hw
  have hm : w ∈ big := by first | exact List.mem_of_getElem? hi | exact List.getElem?_mem hi
  exact ⟨hm, good_of_word h1⟩
theorem goodIn_app {big a b : List Cond} (ha : GoodIn big a) (hb : GoodIn big b) : GoodIn big (a ++ b) := fun w h => (List.mem_append.mp h).elim (ha w) (hb w)
theorem goodIn_ca {big a b : List Cond} {c : Cond} (ha : GoodIn big (c :: a)) (hb : GoodIn big b) : GoodIn big (c :: (a ++ b)) := fun w h => (List.mem_cons.mp h).elim (fun e => ha w (List.mem_cons.mpr (Or.inl e))) (fun h => (List.mem_append.mp h).elim (fun h => ha w (List.mem_cons.mpr (Or.inr h))) (hb w))
theorem goodIn_sub {big ws : List Cond} (hm : ∀ w ∈ ws, w ∈ big) (h : ws.all goodWord = true) : GoodIn big ws := fun w hw => ⟨hm w hw, good_of_word (List.all_eq_true.mp h w hw)⟩
/-! ===== END ===== -/

/-! ===== BEGIN exceptions that leave a method, and their catching by the caller (launches without stack traces) ===== -/
section VXA
/-! The laws vx_back, vx_callV, vx_callS, vx_callSW, vx_throw0, vx_throwS follow proofs of the library, with one case more: JvmDerived/Free/Laws.lean (Back.of_free), Shelf42/LK1.lean (callV, callS), Shelf/KitTraced.lean (throwNew0V, throwNewS). -/
/-- where a method has thrown q: the class by its name, the cell, what was written, the world -/
def vx_T (XC : String → State → State → Prop) (st : State) (q : Addr) (t : State) (mc ms : Nat) (free : Addr → Prop) : Prop :=
  ∃ (E : String) (ce : Cell) (L : List Loc), XC E st t ∧ t.heap[q]? = some ce ∧ ce.vm = .none ∧ st.vm.findClass E = some ce.cls ∧ st.WarmedH t.vm ∧ st.sameButNew ({ t with vm := st.vm } : State) L mc ms ∧ ∀ z ∈ L, free z.base
def vx_Q (Qc : Array Value → State → Outcome → State → Prop) (XC : String → State → State → Prop) (mc ms : Nat) (free : Addr → Prop) : Array Value → State → Outcome → State → Prop := fun a st o t =>
  (Qc a st o t ∧ ∃ L, FrameEnd st o t L mc ms ∧ ∀ q ∈ L, free q.base) ∨ ∃ q, o = .threw q ∧ vx_T XC st q t mc ms free
/-- a callee that returns or throws -/
def vx_Met (l : Launch) (y : MethodName) (ws : List Cond) (rm : Room) (Pc : Array Value → State → Prop) (Qc : Array Value → State → Outcome → State → Prop) (XC : String → State → State → Prop) (mc ms : Nat) (free : Addr → Prop) : Prop :=
  MetFree l y (headSpec ws rm) Pc (fun _ _ _ _ _ => True) (vx_Q Qc XC mc ms free)
def vx_Post (XC : String → State → State → Prop) (mc ms : Nat) (free : Addr → Prop) : Pt → Array Value → Addr → Pt → Prop := fun A a q B =>
  ∃ (g : JFrame) (mk : MethodId) (t : State) (L : List Loc) (E : String) (ce : Cell), B.U.heap = t.heap ∧ B.U.vm = t.vm ∧ XC E (A.U.calling g mk a) t ∧ t.heap[q]? = some ce ∧ ce.vm = .none ∧ A.U.vm.findClass E = some ce.cls ∧ B.locs = A.locs ++ L ∧ (∀ z ∈ L, free z.base) ∧ B.cells = A.cells + mc ∧ B.slots = A.slots + ms
def vx_Back (l : Launch) (R : Room) (p : Program) (e : Env) (below : List Frame) (s : State) (sargs : Array Value) (y : MethodName) (len W9 : Nat)
    (Pre : Pt → Array Value → Prop) (Post : Pt → Array Value → Option Value → Pt → Prop) (PostX : Pt → Array Value → Addr → Pt → Prop) : Prop :=
  ∀ (m : MethodId) (meth : Method) (c : Code) (A : Pt) (g : JFrame) (ig : Instr) (mk : MethodId) (a : Array Value),
    Stand p l e R s m sargs below meth c A.U A.locs A.cells A.slots → g.method = m → g.locals.size = c.maxLocals → decode c.code g.pc = .ok (ig, len) →
    2 * g.monitorRoom + (g.stack.map fun v => v.category).sum ≤ W9 → A.U.methodNamed? y = some mk → Pre A a →
    (∃ (v : Option Value) (B : Pt), Stand p l e R s m sargs below meth c B.U B.locs B.cells B.slots ∧ Post A a v B ∧
      Steps p.tables e below (doInvoke e (A.U.setTop g) [] mk a).1 (B.U.setTop { g with pc := g.pc + len, stack := v.toList ++ g.stack })) ∨
    (∃ (q : Addr) (B : Pt), Stand p l e R s m sargs below meth c B.U B.locs B.cells B.slots ∧ PostX A a q B ∧
      Steps p.tables e below (doInvoke e (A.U.setTop g) [] mk a).1 ((B.U.setTop g).pushFrame (.throwing q)))
section Payer
variable {l : Launch} {R : Room} {p : Program} {e : Env} {below : List Frame} {s : State} {sargs : Array Value} {y : MethodName} {len W9 : Nat}
theorem vx_back {ws : List Cond} {rm : Room} {Pc : Array Value → State → Prop} {Qc : Array Value → State → Outcome → State → Prop} {XC : String → State → State → Prop} {mc ms : Nat} {free : Addr → Prop} {bytes : ByteArray} {maxL : Nat} {ret : Option FieldType}
    (hM : vx_Met l y ws rm Pc Qc XC mc ms free) (hblind : FrameBlind Pc) (hrc : rm.cells = mc) (hrs : rm.slots = ms)
    (hframes : rm.frames + 1 ≤ R.frames) (hlocals : W9 + (maxL + 11) + rm.locals ≤ R.locals)
    (hws : ∀ w ∈ ws, ∀ a' U, s.WarmedH U.vm → w.before a' U = true) (hcode : Cond.code y bytes maxL ret ∈ ws) (hinit : ∀ a' U, s.WarmedH U.vm → (Cond.initialized y.cls).before a' U = true) :
    vx_Back l R p e below s sargs y len W9 (PreOf R mc ms Pc) (PostOf Qc mc ms free) (vx_Post XC mc ms free) := by
  intro m meth c A g ig mk a X hg hsize hdg hW hn hp
  have h1 : (headSpec ws rm).pre.before a A.U = true := atoms_intro fun w hw => hws w hw _ _ X.warmed
  have h2 : (Cond.code y bytes maxL ret).before a A.U = true := hws _ hcode _ _ X.warmed
  have h3 : (Cond.initialized y.cls).before a A.U = true := hinit _ _ X.warmed
  have h4 : A.cells + (headSpec ws rm).room.cells ≤ R.cells := by rw [show (headSpec ws rm).room.cells = mc from hrc]; exact hp.1
  have h5 : A.slots + (headSpec ws rm).room.slots ≤ R.slots := by rw [show (headSpec ws rm).room.slots = ms from hrs]; exact hp.2.1
  have hPc : Pc a (A.U.calling g mk a) := hblind _ _ _ _ hp.2.2
  obtain ⟨U, Ls, c0, s0⟩ := A
  dsimp only [Pt.U, Pt.locs, Pt.cells, Pt.slots] at h1 h2 h3 h4 h5 X hn hPc ⊢
  obtain ⟨methY, cY, hmY, hcY, -, hlY, -, -, -, -⟩ := Cond.code_spec hn h2
  obtain ⟨kY, hkY, -⟩ := className_of_methodNamed hn
  have hinitY : kY.init = .initialized := Cond.initialized_spec (findClass_of_methodNamed hn) hkY h3
  have h : At U g.method c below := by rw [hg]; exact X.here
  have hlocals9 : W9 + (maxL + 11) + (headSpec ws rm).room.locals ≤ R.locals := hlocals
  have happ : (headSpec ws rm).appliesLoose y e.platform (U.calling g mk a) = true :=
    Spec.appliesLoose_calling (g := g) h hdg hn hkY hinitY
      (X.room_calling (g := g) (R' := (headSpec ws rm).room) hsize hmY hcY hframes (by rw [hlY]; omega) h4 h5) h1
  obtain ⟨mid, hmid⟩ := h.above
  have hfr : (U.setTop g).frames = (.java g :: mid) ++ below := by rw [State.frames_setTop' g h.top, hmid]; rfl
  obtain ⟨o, s₂, hsteps, -, hend, hq⟩ := Steps.callFree hM p X.admits X.cas X.clock (acts := []) hfr happ hPc trivial
  have hq' : vx_Q Qc XC mc ms free a (U.calling g mk a) o s₂ := hq
  rw [State.frames_setTop' g h.top] at hend
  obtain ⟨g₀, hg0⟩ := Option.isSome_iff_exists.mp h.top
  obtain ⟨r, hr⟩ := State.topJava?_eq_some.mp hg0
  have hr' : (({ U with heap := s₂.heap, slotsUsed := s₂.slotsUsed } : State).setVm s₂.vm).frames = .java g₀ :: r := hr
  rcases hq' with ⟨hqc, L, hfe, hL⟩ | ⟨q, rfl, E, ce, L, hx, hce, hcv, hcl, hW₂, hsm, hL⟩
  · obtain ⟨⟨v, rfl⟩, hW₂, e2, q2, q3, q4, q5, q6⟩ := id hfe
    have e3 : s₂ = ({ (U.calling g mk a).setFrames s₂.frames with heap := s₂.heap, slotsUsed := s₂.slotsUsed } : State).setVm s₂.vm := by
      have : s₂ = ({ s₂ with vm := (U.calling g mk a).vm } : State).setVm s₂.vm := rfl
      rw [e2] at this
      exact this
    obtain ⟨c₂, i₂, len₂, hc₂, hd₂, hf₂⟩ := hend
    have hW' : U.WarmedH s₂.vm := hW₂
    have hcc : c₂ = c := by
      have h1 : s₂.code? g.method = U.code? g.method := by
        rw [State.code?_eq, State.code?_eq, hW'.alike.method?]
      exact Option.some.inj (hc₂.symm.trans (h1.trans h.code))
    subst hcc
    have hlen : len₂ = len := by rw [hdg] at hd₂; cases hd₂; rfl
    subst hlen
    have hs₂ : s₂ = (({ U with heap := s₂.heap, slotsUsed := s₂.slotsUsed } : State).setVm s₂.vm).setTop { g with pc := g.pc + len₂, stack := v.toList ++ g.stack } := by
      refine e3.trans ?_
      rw [hf₂, State.calling_eq h.top, State.setFrames_setFrames, State.setTop_of_frames _ hr', hr]
      rfl
    have hsame : U.sameButNew ({ U with heap := s₂.heap, slotsUsed := s₂.slotsUsed } : State) L mc ms := by
      refine ⟨?_, q2, q3, q4, q5, q6⟩
      obtain ⟨t, ht, -⟩ := State.frames_cons hr
      show ({ U with heap := s₂.heap, slotsUsed := s₂.slotsUsed } : State) = { U.setFrames U.frames with heap := s₂.heap, slotsUsed := s₂.slotsUsed }
      rw [State.setFrames_self ht]
    subst hg
    refine Or.inl ⟨v, ⟨(({ U with heap := s₂.heap, slotsUsed := s₂.slotsUsed } : State).setVm s₂.vm), Ls ++ L, c0 + mc, s0 + ms⟩,
      ⟨X.admits, X.cas, X.clock, X.frames, X.room, X.hears, X.method, X.code, (X.here.setHeapUsed s₂.heap s₂.slotsUsed).setVm hW'.alike, X.tail, State.WarmedH.trans X.warmed hW', X.limits, X.bytes, X.same.trans (hsame.setVm s.vm)⟩,
      ⟨g, mk, s₂, L, rfl, rfl, hqc, rfl, hL, rfl, rfl⟩, ?_⟩
    show Steps p.tables e below _ ((({ U with heap := s₂.heap, slotsUsed := s₂.slotsUsed } : State).setVm s₂.vm).setTop { g with pc := g.pc + len₂, stack := v.toList ++ g.stack })
    rw [← hs₂]
    exact hsteps
  · obtain ⟨e2, q2, q3, q4, q5, q6⟩ := id hsm
    have e3 : s₂ = ({ (U.calling g mk a).setFrames s₂.frames with heap := s₂.heap, slotsUsed := s₂.slotsUsed } : State).setVm s₂.vm := by
      have : s₂ = ({ s₂ with vm := (U.calling g mk a).vm } : State).setVm s₂.vm := rfl
      rw [e2] at this
      exact this
    have hf₂ : s₂.frames = .throwing q :: .java g :: U.frames.tail := hend
    have hW' : U.WarmedH s₂.vm := hW₂
    have hs₂ : s₂ = ((({ U with heap := s₂.heap, slotsUsed := s₂.slotsUsed } : State).setVm s₂.vm).setTop g).pushFrame (.throwing q) := by
      refine e3.trans ?_
      rw [hf₂, State.calling_eq h.top, State.setFrames_setFrames, State.pushFrame, State.frames_setTop _ hr', State.setTop_of_frames _ hr', State.setFrames_setFrames, hr]
      rfl
    have hsame : U.sameButNew ({ U with heap := s₂.heap, slotsUsed := s₂.slotsUsed } : State) L mc ms := by
      refine ⟨?_, q2, q3, q4, q5, q6⟩
      obtain ⟨t, ht, -⟩ := State.frames_cons hr
      show ({ U with heap := s₂.heap, slotsUsed := s₂.slotsUsed } : State) = { U.setFrames U.frames with heap := s₂.heap, slotsUsed := s₂.slotsUsed }
      rw [State.setFrames_self ht]
    subst hg
    refine Or.inr ⟨q, ⟨(({ U with heap := s₂.heap, slotsUsed := s₂.slotsUsed } : State).setVm s₂.vm), Ls ++ L, c0 + mc, s0 + ms⟩,
      ⟨X.admits, X.cas, X.clock, X.frames, X.room, X.hears, X.method, X.code, (X.here.setHeapUsed s₂.heap s₂.slotsUsed).setVm hW'.alike, X.tail, State.WarmedH.trans X.warmed hW', X.limits, X.bytes, X.same.trans (hsame.setVm s.vm)⟩,
      ⟨g, mk, s₂, L, E, ce, rfl, rfl, hx, hce, hcv, hcl, rfl, hL, rfl, rfl⟩, ?_⟩
    show Steps p.tables e below _ (((({ U with heap := s₂.heap, slotsUsed := s₂.slotsUsed } : State).setVm s₂.vm).setTop g).pushFrame (.throwing q))
    rw [← hs₂]
    exact hsteps
end Payer
section Calls
variable {p : Program} {l : Launch} {e : Env} {R : Room} {s : State} {m : MethodId} {args : Array Value} {below : List Frame} {meth : Method} {c : Code} {T : State} {locs : List Loc} {cells slots : Nat}
theorem vx_callV (X : Stand p l e R s m args below meth c T locs cells slots) (hexec : p.tables.exec = Jvm.exec) {own C : String} {index : Nat} {y : MethodName} {bytes : ByteArray} {maxL : Nat} {ret : Option FieldType}
    (hown : s.vm.findClass own = some m.cls) (hlink : (Cond.methodLink own index y).before args s = true) (hinst : (Cond.instanceMethod y).before args s = true) (hsel : (Cond.selects C y y).before args s = true)
    (hcode : (Cond.code y bytes maxL ret).before args s = true) (hy : y.cls ≠ "java/lang/invoke/MethodHandle" ∧ y.cls ≠ "java/lang/invoke/VarHandle")
    {W9 : Nat} {Pre : Pt → Array Value → Prop} {Post : Pt → Array Value → Option Value → Pt → Prop} {PostX : Pt → Array Value → Addr → Pt → Prop} (hK : vx_Back l R p e below s args y 3 W9 Pre Post PostX)
    {b : Addr} {cellB : Cell} (hcell : T.heap[b]? = some cellB) (hobj : cellB.vm.isStatics = false) (hcls : s.vm.findClass C = some cellB.cls)
    {g : JFrame} (hg : g.method = m) (hsize : g.locals.size = c.maxLocals) {argsL rest : List Value} (hlen : ∀ sig, parseMethodDescriptor y.desc = some sig → argsL.length = sig.parameters.length)
    (hstack : g.stack = argsL.reverse ++ .ref b :: rest) (hW : 2 * g.monitorRoom + (rest.map fun v => v.category).sum ≤ W9) (hdg : decode c.code g.pc = .ok (.invokevirtual index, 3))
    (hpre : ∀ vm₁, s.WarmedH vm₁ → Pre ⟨T.setVm vm₁, locs, cells, slots⟩ (Value.ref b :: argsL).toArray) :
    (∃ (v : Option Value) (vm₁ : Vm) (B : Pt), s.WarmedH vm₁ ∧ Stand p l e R s m args below meth c B.U B.locs B.cells B.slots ∧ Post ⟨T.setVm vm₁, locs, cells, slots⟩ (Value.ref b :: argsL).toArray v B ∧
      ∀ target, Steps p.tables e below (B.U.setTop { g with pc := g.pc + 3, stack := v.toList ++ rest }) target → Steps p.tables e below (T.setTop g) target) ∨
    (∃ (q : Addr) (vm₁ : Vm) (B : Pt), s.WarmedH vm₁ ∧ Stand p l e R s m args below meth c B.U B.locs B.cells B.slots ∧ PostX ⟨T.setVm vm₁, locs, cells, slots⟩ (Value.ref b :: argsL).toArray q B ∧
      Steps p.tables e below (T.setTop g) ((B.U.setTop { g with stack := rest }).pushFrame (.throwing q))) := by
  obtain ⟨mk, methM, hnamed, hmethM, hstM, habM⟩ := Cond.instanceMethod_spec hinst
  obtain ⟨methM', cM, hmethM', -, -, -, -, -, -, hsigM⟩ := Cond.code_spec hnamed hcode
  cases hmethM.symm.trans hmethM'
  obtain ⟨c2, r2, m2, q1, q2, q3, q4, kP, hkP, hkPi⟩ := Cond.selects_spec hsel
  cases hcls.symm.trans q1
  cases (State.methodFound?_of_named hnamed hy).symm.trans q2
  cases hnamed.symm.trans q3
  have hselP : selectMethod e.platform s.vm cellB.cls mk = .method mk := by rw [Launch.admits_selectMethod X.admits]; exact q4
  obtain ⟨vm₁, X₁, hstep₁⟩ := X.invokevirtual hexec hown hlink hnamed hmethM hstM hkP hkPi hy (a := b) (cell := cellB) hcell
    (fun z h => by rw [h] at hobj; cases hobj) hselP hmethM habM hkP hkPi (g := g) hg (argsL := argsL) (rest := rest) (hlen _ hsigM) hstack hdg
  rcases hK m meth c ⟨T.setVm vm₁, locs, cells, slots⟩ { g with stack := rest } (.invokevirtual index) mk (Value.ref b :: argsL).toArray X₁ hg hsize hdg hW (X₁.named hnamed) (hpre vm₁ X₁.warmed) with ⟨v, B, X', hpost, hsteps⟩ | ⟨q, B, X', hpost, hsteps⟩
  · exact Or.inl ⟨v, vm₁, B, X₁.warmed, X', hpost, fun target h => hstep₁ _ fun acts => by rw [doInvoke_state]; exact hsteps.trans h⟩
  · exact Or.inr ⟨q, vm₁, B, X₁.warmed, X', hpost, hstep₁ _ fun acts => by rw [doInvoke_state]; exact hsteps⟩
theorem vx_callS (X : Stand p l e R s m args below meth c T locs cells slots) (hexec : p.tables.exec = Jvm.exec) {own : String} {index : Nat} {y : MethodName} {bytes : ByteArray} {maxL : Nat} {ret : Option FieldType}
    (hown : s.vm.findClass own = some m.cls) (hlink : (Cond.methodLink own index y).before args s = true) (hstat : (Cond.static y).before args s = true) (hinit : (Cond.initialized y.cls).before args s = true)
    (hcode : (Cond.code y bytes maxL ret).before args s = true) (hy : y.cls ≠ "java/lang/invoke/MethodHandle" ∧ y.cls ≠ "java/lang/invoke/VarHandle")
    {W9 : Nat} {Pre : Pt → Array Value → Prop} {Post : Pt → Array Value → Option Value → Pt → Prop} {PostX : Pt → Array Value → Addr → Pt → Prop} (hK : vx_Back l R p e below s args y 3 W9 Pre Post PostX)
    {g : JFrame} (hg : g.method = m) (hsize : g.locals.size = c.maxLocals) {argsL rest : List Value} (hlen : ∀ sig, parseMethodDescriptor y.desc = some sig → argsL.length = sig.parameters.length)
    (hstack : g.stack = argsL.reverse ++ rest) (hW : 2 * g.monitorRoom + (rest.map fun v => v.category).sum ≤ W9) (hdg : decode c.code g.pc = .ok (.invokestatic index, 3))
    (hpre : ∀ vm₁, s.WarmedH vm₁ → Pre ⟨T.setVm vm₁, locs, cells, slots⟩ argsL.toArray) :
    (∃ (v : Option Value) (vm₁ : Vm) (B : Pt), s.WarmedH vm₁ ∧ Stand p l e R s m args below meth c B.U B.locs B.cells B.slots ∧ Post ⟨T.setVm vm₁, locs, cells, slots⟩ argsL.toArray v B ∧
      ∀ target, Steps p.tables e below (B.U.setTop { g with pc := g.pc + 3, stack := v.toList ++ rest }) target → Steps p.tables e below (T.setTop g) target) ∨
    (∃ (q : Addr) (vm₁ : Vm) (B : Pt), s.WarmedH vm₁ ∧ Stand p l e R s m args below meth c B.U B.locs B.cells B.slots ∧ PostX ⟨T.setVm vm₁, locs, cells, slots⟩ argsL.toArray q B ∧
      Steps p.tables e below (T.setTop g) ((B.U.setTop { g with stack := rest }).pushFrame (.throwing q))) := by
  obtain ⟨mk, hnamed⟩ := Cond.code_named hcode
  obtain ⟨methM, cM, hmethM, -, -, -, -, -, -, hsigM⟩ := Cond.code_spec hnamed hcode
  have hstatic : methM.isStatic = true := Cond.static_spec hnamed hmethM hstat
  obtain ⟨kP, hkP, -⟩ := className_of_methodNamed hnamed
  have hinitP : kP.init = .initialized := Cond.initialized_spec (findClass_of_methodNamed hnamed) hkP hinit
  obtain ⟨vm₁, X₁, hstep₁⟩ := X.invokestatic hexec hown hlink hnamed hmethM hstatic hkP hinitP hy (g := g) hg (argsL := argsL) (rest := rest) (hlen _ hsigM) hstack hdg
  rcases hK m meth c ⟨T.setVm vm₁, locs, cells, slots⟩ { g with stack := rest } (.invokestatic index) mk argsL.toArray X₁ hg hsize hdg hW (X₁.named hnamed) (hpre vm₁ X₁.warmed) with ⟨v, B, X', hpost, hsteps⟩ | ⟨q, B, X', hpost, hsteps⟩
  · exact Or.inl ⟨v, vm₁, B, X₁.warmed, X', hpost, fun target h => hstep₁ _ fun acts => by rw [doInvoke_state]; exact hsteps.trans h⟩
  · exact Or.inr ⟨q, vm₁, B, X₁.warmed, X', hpost, hstep₁ _ fun acts => by rw [doInvoke_state]; exact hsteps⟩
end Calls
theorem vx_cls {s : State} {T : State} {vm₁ : Vm} {E : String} {k : ClassId} (hW : s.WarmedH vm₁) (h : (T.setVm vm₁).vm.findClass E = some k) : s.vm.findClass E = some k := by
  have h1 : vm₁.findClass E = some k := h
  rw [hW.alike.findClass] at h1
  exact h1
/-- the method's frame g, with q thrown over it -/
def vx_W (p : Program) (l : Launch) (e : Env) (R : Room) (s : State) (m : MethodId) (args : Array Value) (below : List Frame) (meth : Method) (c : Code) (H : Heap) (locs : List Loc) (cells slots : Nat) (Q : State → Prop) (g : JFrame) (q : Addr) : Prop :=
  ∀ T : State, T.heap = H → Stand p l e R s m args below meth c T locs cells slots → ∃ t, Steps p.tables e below ((T.setTop g).pushFrame (.throwing q)) t ∧ Q t
def vx_Run (p : Program) (l : Launch) (e : Env) (R : Room) (s : State) (m : MethodId) (args : Array Value) (below : List Frame) (meth : Method) (c : Code) (H : Heap) (locs : List Loc) (cells slots mc ms : Nat) (g : JFrame) (rest : List Value) (Qa : State → Outcome → State → Prop) (XC : String → State → State → Prop) (free : Addr → Prop) : Prop :=
  ∀ T : State, T.heap = H → Stand p l e R s m args below meth c T locs cells slots →
    (∃ (v : Option Value) (st₀ t T' : State) (L : List Loc), st₀.heap = H ∧ Stand p l e R s m args below meth c T' (locs ++ L) (cells + mc) (slots + ms) ∧ (∀ q ∈ L, free q.base) ∧ T'.heap = t.heap ∧ T'.vm = t.vm ∧ Qa st₀ (.returned v) t ∧
      Goes p e below T g T' { g with pc := g.pc + 3, stack := v.toList ++ rest }) ∨
    (∃ (q : Addr) (st₀ t T' : State) (L : List Loc) (E : String) (ce : Cell), st₀.heap = H ∧ Stand p l e R s m args below meth c T' (locs ++ L) (cells + mc) (slots + ms) ∧ (∀ z ∈ L, free z.base) ∧ T'.heap = t.heap ∧ T'.vm = t.vm ∧ XC E st₀ t ∧ t.heap[q]? = some ce ∧ ce.vm = .none ∧ s.vm.findClass E = some ce.cls ∧
      Steps p.tables e below (T.setTop g) ((T'.setTop { g with stack := rest }).pushFrame (.throwing q)))
def vx_X {S : Type} (px : S → Prop) (B : String → S → State → Prop) (A : Nat → Prop) : String → State → State → Prop := fun E st t => ∃ u : S, px u ∧ B E u t ∧ va_F A st t
section Runs
variable {p : Program} {l : Launch} {e : Env} {R : Room} {s : State} {m : MethodId} {args : Array Value} {below : List Frame} {meth : Method} {c : Code} {H : Heap} {locs : List Loc} {cells slots : Nat}
variable {y : MethodName} {bytes cc : ByteArray} {maxL nL mc ms n index : Nat} {ret : Option FieldType} {ws : List Cond} {rm : Room} {Pc : Array Value → State → Prop} {Qc : Array Value → State → Outcome → State → Prop} {XC : String → State → State → Prop} {free : Addr → Prop} {Ts : List Cond} {own C : String} {b : Addr} {As rest : List Value} {g : JFrame}
theorem vx_callBack (cb : CallB R s args own index y bytes maxL ret ws rm mc ms n) (hM : vx_Met l y ws rm Pc Qc XC mc ms free) (hbl : FrameBlind Pc) : vx_Back l R p e below s args y 3 8 (PreOf R mc ms Pc) (PostOf Qc mc ms free) (vx_Post XC mc ms free) := by
  obtain ⟨hrc, hrs, hfr, hlo, hws, hcw, -, hini, -⟩ := cb
  exact vx_back (bytes := bytes) (maxL := maxL) (ret := ret) hM hbl hrc hrs hfr hlo hws hcw (fun a' U hW => word_at hW (Or.inl (by first | rfl | simp [Cond.onTables, Cond.keeps, Cond.steady])) hini)
theorem vx_runV (S : CallFix p m c cc nL s args Ts own) (hM : vx_Met l y ws rm Pc Qc XC mc ms free) (cw : CallW R s args own C index y bytes maxL ret ws rm mc ms n) (hp : PreV s H C b Pc As)
    (hg : g.method = m) (hn : As.length = n) (hsize : g.locals.size = nL) (hstack : g.stack = As.reverse ++ .ref b :: rest) (hW : 2 * g.monitorRoom + (rest.map fun v => v.category).sum ≤ 8) (hdg : decode cc g.pc = .ok (.invokevirtual index, 3)) (hf : cells + mc ≤ R.cells ∧ slots + ms ≤ R.slots) :
    vx_Run p l e R s m args below meth c H locs cells slots mc ms g rest (Qc (Value.ref b :: As).toArray) XC free := by
  have hK : vx_Back l R p e below s args y 3 8 (PreOf R mc ms Pc) (PostOf Qc mc ms free) (vx_Post XC mc ms free) := vx_callBack cw.1 hM hp.1
  obtain ⟨⟨-, -, -, -, -, -, hcode, -, hy, hlen, hl⟩, hin, hse⟩ := cw
  obtain ⟨hx, hb, hml, ho, -⟩ := S
  obtain ⟨-, ⟨cellB, hcB, hoB, hclB⟩, hPc⟩ := hp
  intro T hT X
  rcases vx_callV X hx (C := C) (bytes := bytes) (maxL := maxL) (ret := ret) ho hl hin hse hcode hy hK (by rw [hT]; exact hcB) hoB hclB hg (hsize.trans hml.symm) (argsL := As) (rest := rest) (fun sig h => hn.trans (hlen sig h)) hstack hW (by rw [hb]; exact hdg)
    (fun vm₁ hW₁ => ⟨hf.1, hf.2, hPc (T.setVm vm₁) hT hW₁⟩) with ⟨v, vm₁, ⟨U', l2, c2, s2⟩, hW₁, X', ⟨g', mk, t, L, e1, e2, hq, h1, hL, h2, h3⟩, st⟩ | ⟨q, vm₁, ⟨U', l2, c2, s2⟩, hW₁, X', ⟨g', mk, t, L, E, ce, e1, e2, hq, hce, hcv, hcl, h1, hL, h2, h3⟩, st⟩
  · dsimp only [Pt.U, Pt.locs, Pt.cells, Pt.slots] at X' e1 e2 h1 h2 h3 st
    subst h1; subst h2; subst h3
    exact Or.inl ⟨v, (T.setVm vm₁).calling g' mk (Value.ref b :: As).toArray, t, U', L, hT, X', hL, e1, e2, hq, st⟩
  · dsimp only [Pt.U, Pt.locs, Pt.cells, Pt.slots] at X' e1 e2 h1 h2 h3 st hcl
    subst h1; subst h2; subst h3
    exact Or.inr ⟨q, (T.setVm vm₁).calling g' mk (Value.ref b :: As).toArray, t, U', L, E, ce, hT, X', hL, e1, e2, hq, hce, hcv, vx_cls hW₁ hcl, st⟩
theorem vx_runS (S : CallFix p m c cc nL s args Ts own) (hM : vx_Met l y ws rm Pc Qc XC mc ms free) (cw : CallB R s args own index y bytes maxL ret ws rm mc ms n ∧ (Cond.static y).before args s = true) (hp : PreS s H Pc As)
    (hg : g.method = m) (hn : As.length = n) (hsize : g.locals.size = nL) (hstack : g.stack = As.reverse ++ rest) (hW : 2 * g.monitorRoom + (rest.map fun v => v.category).sum ≤ 8) (hdg : decode cc g.pc = .ok (.invokestatic index, 3)) (hf : cells + mc ≤ R.cells ∧ slots + ms ≤ R.slots) :
    vx_Run p l e R s m args below meth c H locs cells slots mc ms g rest (Qc As.toArray) XC free := by
  have hK : vx_Back l R p e below s args y 3 8 (PreOf R mc ms Pc) (PostOf Qc mc ms free) (vx_Post XC mc ms free) := vx_callBack cw.1 hM hp.1
  obtain ⟨⟨-, -, -, -, -, -, hcode, hini, hy, hlen, hl⟩, hstt⟩ := cw
  obtain ⟨hx, hb, hml, ho, -⟩ := S
  intro T hT X
  rcases vx_callS X hx (bytes := bytes) (maxL := maxL) (ret := ret) ho hl hstt hini hcode hy hK hg (hsize.trans hml.symm) (argsL := As) (rest := rest) (fun sig h => hn.trans (hlen sig h)) hstack hW (by rw [hb]; exact hdg)
    (fun vm₁ hW₁ => ⟨hf.1, hf.2, hp.2 (T.setVm vm₁) hT hW₁⟩) with ⟨v, vm₁, ⟨U', l2, c2, s2⟩, hW₁, X', ⟨g', mk, t, L, e1, e2, hq, h1, hL, h2, h3⟩, st⟩ | ⟨q, vm₁, ⟨U', l2, c2, s2⟩, hW₁, X', ⟨g', mk, t, L, E, ce, e1, e2, hq, hce, hcv, hcl, h1, hL, h2, h3⟩, st⟩
  · dsimp only [Pt.U, Pt.locs, Pt.cells, Pt.slots] at X' e1 e2 h1 h2 h3 st
    subst h1; subst h2; subst h3
    exact Or.inl ⟨v, (T.setVm vm₁).calling g' mk As.toArray, t, U', L, hT, X', hL, e1, e2, hq, st⟩
  · dsimp only [Pt.U, Pt.locs, Pt.cells, Pt.slots] at X' e1 e2 h1 h2 h3 st hcl
    subst h1; subst h2; subst h3
    exact Or.inr ⟨q, (T.setVm vm₁).calling g' mk As.toArray, t, U', L, E, ce, hT, X', hL, e1, e2, hq, hce, hcv, vx_cls hW₁ hcl, st⟩
end Runs
section Rows
variable {p : Program} {l : Launch} {e : Env} {R : Room} {s : State} {m : MethodId} {args : Array Value} {below : List Frame} {meth : Method} {c : Code} {H : Heap} {locs : List Loc} {cells slots : Nat} {Q : State → Prop}
variable {mc ms : Nat} {free : Addr → Prop} {A0 A1 : Nat → Prop} {H0 : Heap} {a : Array Value} {pc : Nat} {ls : Array Slot} {st0 rest : List Value}
theorem vx_keep {st₀ t T' : State} {L : List Loc} (h0 : st₀.heap = H) (e1 : T'.heap = t.heap) (hS : va_S A0 H0 H locs) (hA : ∀ q, q < H.size → A1 q → A0 q) (hf : ∀ q, free q → A0 q) (hL : ∀ q ∈ L, free q.base) (hF : va_F A1 st₀ t) :
    H.size ≤ T'.heap.size ∧ (∀ q : Nat, q < H.size → ¬ A1 q → T'.heap[q]? = H[q]?) ∧ va_S A0 H0 T'.heap (locs ++ L) := by
  obtain ⟨hz, hk⟩ := hF
  rw [h0] at hz hk
  exact ⟨by rw [e1]; exact hz, fun q h1 h2 => by rw [e1]; exact hk q h1 h2,
    ⟨Nat.le_trans hS.1 (by rw [e1]; exact hz), fun q h1 h2 => by rw [e1, hk q (Nat.lt_of_lt_of_le h1 hS.1) (fun z => h2 (hA q (Nat.lt_of_lt_of_le h1 hS.1) z))]; exact hS.2.1 q h1 h2, fun q hq => by
      rcases List.mem_append.mp hq with h | h
      · exact hS.2.2 q h
      · exact hf _ (hL q h)⟩⟩
theorem vx_calli {S SX : Type} {post : Int32 → S → Prop} {px : SX → Prop} {B : S → State → Prop} {BX : String → SX → State → Prop} {AX : Nat → Prop} (hr : vx_Run p l e R s m args below meth c H locs cells slots mc ms (F0 m pc ls st0) rest (va_Qi post B A1 a) (vx_X px BX AX) free) (hS : va_S A0 H0 H locs) (hA : ∀ q, q < H.size → A1 q → A0 q) (hf : ∀ q, free q → A0 q) (hAX : ∀ q, q < H.size → AX q → A0 q)
    (kx : ∀ (E : String) (ce : Cell) (q9 : Addr) (u : SX) (t : State) (H1 : Heap) (locs1 : List Loc), t.heap = H1 → s.vm.Alike t.vm → px u → BX E u t → H.size ≤ H1.size → (∀ q : Nat, q < H.size → ¬ AX q → H1[q]? = H[q]?) → va_S A0 H0 H1 locs1 → H1[q9]? = some ce → ce.vm = .none → s.vm.findClass E = some ce.cls → vx_W p l e R s m args below meth c H1 locs1 (cells + mc) (slots + ms) Q (F0 m pc ls rest) q9)
    (kk : ∀ (r : Int32) (u : S) (t : State) (H1 : Heap) (locs1 : List Loc), t.heap = H1 → s.vm.Alike t.vm → post r u → B u t → H.size ≤ H1.size → (∀ q : Nat, q < H.size → ¬ A1 q → H1[q]? = H[q]?) → va_S A0 H0 H1 locs1 → W p l e R s m args below meth c H1 locs1 (cells + mc) (slots + ms) Q (F0 m (pc + 3) ls (.int r :: rest))) : W p l e R s m args below meth c H locs cells slots Q (F0 m pc ls st0) := by
  intro T hT X
  rcases hr T hT X with ⟨v, st₀, t, T', L, h0, X', hL, e1, e2, ⟨⟨r, u, hv, hp, hb⟩, hF⟩, st⟩ | ⟨q, st₀, t, T', L, E, ce, h0, X', hL, e1, e2, ⟨u, hp, hb, hF⟩, hce, hcv, hcl, st⟩
  · cases hv
    obtain ⟨k1, k2, k3⟩ := vx_keep h0 e1 hS hA hf hL hF
    obtain ⟨t2, a1, b1⟩ := kk r u t T'.heap (locs ++ L) e1.symm (by rw [← e2]; exact X'.warmed.alike) hp hb k1 k2 k3 T' rfl X'
    exact ⟨t2, st t2 a1, b1⟩
  · obtain ⟨k1, k2, k3⟩ := vx_keep h0 e1 hS hAX hf hL hF
    obtain ⟨t2, a1, b1⟩ := kx E ce q u t T'.heap (locs ++ L) e1.symm (by rw [← e2]; exact X'.warmed.alike) hp hb k1 k2 k3 (by rw [e1]; exact hce) hcv hcl T' rfl X'
    exact ⟨t2, st.trans a1, b1⟩
theorem vx_calll {S SX : Type} {post : Int64 → S → Prop} {px : SX → Prop} {B : S → State → Prop} {BX : String → SX → State → Prop} {AX : Nat → Prop} (hr : vx_Run p l e R s m args below meth c H locs cells slots mc ms (F0 m pc ls st0) rest (va_Ql post B A1 a) (vx_X px BX AX) free) (hS : va_S A0 H0 H locs) (hA : ∀ q, q < H.size → A1 q → A0 q) (hf : ∀ q, free q → A0 q) (hAX : ∀ q, q < H.size → AX q → A0 q)
    (kx : ∀ (E : String) (ce : Cell) (q9 : Addr) (u : SX) (t : State) (H1 : Heap) (locs1 : List Loc), t.heap = H1 → s.vm.Alike t.vm → px u → BX E u t → H.size ≤ H1.size → (∀ q : Nat, q < H.size → ¬ AX q → H1[q]? = H[q]?) → va_S A0 H0 H1 locs1 → H1[q9]? = some ce → ce.vm = .none → s.vm.findClass E = some ce.cls → vx_W p l e R s m args below meth c H1 locs1 (cells + mc) (slots + ms) Q (F0 m pc ls rest) q9)
    (kk : ∀ (r : Int64) (u : S) (t : State) (H1 : Heap) (locs1 : List Loc), t.heap = H1 → s.vm.Alike t.vm → post r u → B u t → H.size ≤ H1.size → (∀ q : Nat, q < H.size → ¬ A1 q → H1[q]? = H[q]?) → va_S A0 H0 H1 locs1 → W p l e R s m args below meth c H1 locs1 (cells + mc) (slots + ms) Q (F0 m (pc + 3) ls (.long r :: rest))) : W p l e R s m args below meth c H locs cells slots Q (F0 m pc ls st0) := by
  intro T hT X
  rcases hr T hT X with ⟨v, st₀, t, T', L, h0, X', hL, e1, e2, ⟨⟨r, u, hv, hp, hb⟩, hF⟩, st⟩ | ⟨q, st₀, t, T', L, E, ce, h0, X', hL, e1, e2, ⟨u, hp, hb, hF⟩, hce, hcv, hcl, st⟩
  · cases hv
    obtain ⟨k1, k2, k3⟩ := vx_keep h0 e1 hS hA hf hL hF
    obtain ⟨t2, a1, b1⟩ := kk r u t T'.heap (locs ++ L) e1.symm (by rw [← e2]; exact X'.warmed.alike) hp hb k1 k2 k3 T' rfl X'
    exact ⟨t2, st t2 a1, b1⟩
  · obtain ⟨k1, k2, k3⟩ := vx_keep h0 e1 hS hAX hf hL hF
    obtain ⟨t2, a1, b1⟩ := kx E ce q u t T'.heap (locs ++ L) e1.symm (by rw [← e2]; exact X'.warmed.alike) hp hb k1 k2 k3 (by rw [e1]; exact hce) hcv hcl T' rfl X'
    exact ⟨t2, st.trans a1, b1⟩
theorem vx_callf {S SX : Type} {post : UInt32 → S → Prop} {px : SX → Prop} {B : S → State → Prop} {BX : String → SX → State → Prop} {AX : Nat → Prop} (hr : vx_Run p l e R s m args below meth c H locs cells slots mc ms (F0 m pc ls st0) rest (va_Qf post B A1 a) (vx_X px BX AX) free) (hS : va_S A0 H0 H locs) (hA : ∀ q, q < H.size → A1 q → A0 q) (hf : ∀ q, free q → A0 q) (hAX : ∀ q, q < H.size → AX q → A0 q)
    (kx : ∀ (E : String) (ce : Cell) (q9 : Addr) (u : SX) (t : State) (H1 : Heap) (locs1 : List Loc), t.heap = H1 → s.vm.Alike t.vm → px u → BX E u t → H.size ≤ H1.size → (∀ q : Nat, q < H.size → ¬ AX q → H1[q]? = H[q]?) → va_S A0 H0 H1 locs1 → H1[q9]? = some ce → ce.vm = .none → s.vm.findClass E = some ce.cls → vx_W p l e R s m args below meth c H1 locs1 (cells + mc) (slots + ms) Q (F0 m pc ls rest) q9)
    (kk : ∀ (r : UInt32) (u : S) (t : State) (H1 : Heap) (locs1 : List Loc), t.heap = H1 → s.vm.Alike t.vm → post r u → B u t → H.size ≤ H1.size → (∀ q : Nat, q < H.size → ¬ A1 q → H1[q]? = H[q]?) → va_S A0 H0 H1 locs1 → W p l e R s m args below meth c H1 locs1 (cells + mc) (slots + ms) Q (F0 m (pc + 3) ls (.float r :: rest))) : W p l e R s m args below meth c H locs cells slots Q (F0 m pc ls st0) := by
  intro T hT X
  rcases hr T hT X with ⟨v, st₀, t, T', L, h0, X', hL, e1, e2, ⟨⟨r, u, hv, hp, hb⟩, hF⟩, st⟩ | ⟨q, st₀, t, T', L, E, ce, h0, X', hL, e1, e2, ⟨u, hp, hb, hF⟩, hce, hcv, hcl, st⟩
  · cases hv
    obtain ⟨k1, k2, k3⟩ := vx_keep h0 e1 hS hA hf hL hF
    obtain ⟨t2, a1, b1⟩ := kk r u t T'.heap (locs ++ L) e1.symm (by rw [← e2]; exact X'.warmed.alike) hp hb k1 k2 k3 T' rfl X'
    exact ⟨t2, st t2 a1, b1⟩
  · obtain ⟨k1, k2, k3⟩ := vx_keep h0 e1 hS hAX hf hL hF
    obtain ⟨t2, a1, b1⟩ := kx E ce q u t T'.heap (locs ++ L) e1.symm (by rw [← e2]; exact X'.warmed.alike) hp hb k1 k2 k3 (by rw [e1]; exact hce) hcv hcl T' rfl X'
    exact ⟨t2, st.trans a1, b1⟩
theorem vx_calld {S SX : Type} {post : UInt64 → S → Prop} {px : SX → Prop} {B : S → State → Prop} {BX : String → SX → State → Prop} {AX : Nat → Prop} (hr : vx_Run p l e R s m args below meth c H locs cells slots mc ms (F0 m pc ls st0) rest (va_Qd post B A1 a) (vx_X px BX AX) free) (hS : va_S A0 H0 H locs) (hA : ∀ q, q < H.size → A1 q → A0 q) (hf : ∀ q, free q → A0 q) (hAX : ∀ q, q < H.size → AX q → A0 q)
    (kx : ∀ (E : String) (ce : Cell) (q9 : Addr) (u : SX) (t : State) (H1 : Heap) (locs1 : List Loc), t.heap = H1 → s.vm.Alike t.vm → px u → BX E u t → H.size ≤ H1.size → (∀ q : Nat, q < H.size → ¬ AX q → H1[q]? = H[q]?) → va_S A0 H0 H1 locs1 → H1[q9]? = some ce → ce.vm = .none → s.vm.findClass E = some ce.cls → vx_W p l e R s m args below meth c H1 locs1 (cells + mc) (slots + ms) Q (F0 m pc ls rest) q9)
    (kk : ∀ (r : UInt64) (u : S) (t : State) (H1 : Heap) (locs1 : List Loc), t.heap = H1 → s.vm.Alike t.vm → post r u → B u t → H.size ≤ H1.size → (∀ q : Nat, q < H.size → ¬ A1 q → H1[q]? = H[q]?) → va_S A0 H0 H1 locs1 → W p l e R s m args below meth c H1 locs1 (cells + mc) (slots + ms) Q (F0 m (pc + 3) ls (.double r :: rest))) : W p l e R s m args below meth c H locs cells slots Q (F0 m pc ls st0) := by
  intro T hT X
  rcases hr T hT X with ⟨v, st₀, t, T', L, h0, X', hL, e1, e2, ⟨⟨r, u, hv, hp, hb⟩, hF⟩, st⟩ | ⟨q, st₀, t, T', L, E, ce, h0, X', hL, e1, e2, ⟨u, hp, hb, hF⟩, hce, hcv, hcl, st⟩
  · cases hv
    obtain ⟨k1, k2, k3⟩ := vx_keep h0 e1 hS hA hf hL hF
    obtain ⟨t2, a1, b1⟩ := kk r u t T'.heap (locs ++ L) e1.symm (by rw [← e2]; exact X'.warmed.alike) hp hb k1 k2 k3 T' rfl X'
    exact ⟨t2, st t2 a1, b1⟩
  · obtain ⟨k1, k2, k3⟩ := vx_keep h0 e1 hS hAX hf hL hF
    obtain ⟨t2, a1, b1⟩ := kx E ce q u t T'.heap (locs ++ L) e1.symm (by rw [← e2]; exact X'.warmed.alike) hp hb k1 k2 k3 (by rw [e1]; exact hce) hcv hcl T' rfl X'
    exact ⟨t2, st.trans a1, b1⟩
theorem vx_callv {S SX : Type} {post : S → Prop} {px : SX → Prop} {B : S → State → Prop} {BX : String → SX → State → Prop} {AX : Nat → Prop} (hr : vx_Run p l e R s m args below meth c H locs cells slots mc ms (F0 m pc ls st0) rest (va_Qv post B A1 a) (vx_X px BX AX) free) (hS : va_S A0 H0 H locs) (hA : ∀ q, q < H.size → A1 q → A0 q) (hf : ∀ q, free q → A0 q) (hAX : ∀ q, q < H.size → AX q → A0 q)
    (kx : ∀ (E : String) (ce : Cell) (q9 : Addr) (u : SX) (t : State) (H1 : Heap) (locs1 : List Loc), t.heap = H1 → s.vm.Alike t.vm → px u → BX E u t → H.size ≤ H1.size → (∀ q : Nat, q < H.size → ¬ AX q → H1[q]? = H[q]?) → va_S A0 H0 H1 locs1 → H1[q9]? = some ce → ce.vm = .none → s.vm.findClass E = some ce.cls → vx_W p l e R s m args below meth c H1 locs1 (cells + mc) (slots + ms) Q (F0 m pc ls rest) q9)
    (kk : ∀ (u : S) (t : State) (H1 : Heap) (locs1 : List Loc), t.heap = H1 → s.vm.Alike t.vm → post u → B u t → H.size ≤ H1.size → (∀ q : Nat, q < H.size → ¬ A1 q → H1[q]? = H[q]?) → va_S A0 H0 H1 locs1 → W p l e R s m args below meth c H1 locs1 (cells + mc) (slots + ms) Q (F0 m (pc + 3) ls (rest))) : W p l e R s m args below meth c H locs cells slots Q (F0 m pc ls st0) := by
  intro T hT X
  rcases hr T hT X with ⟨v, st₀, t, T', L, h0, X', hL, e1, e2, ⟨⟨u, hv, hp, hb⟩, hF⟩, st⟩ | ⟨q, st₀, t, T', L, E, ce, h0, X', hL, e1, e2, ⟨u, hp, hb, hF⟩, hce, hcv, hcl, st⟩
  · cases hv
    obtain ⟨k1, k2, k3⟩ := vx_keep h0 e1 hS hA hf hL hF
    obtain ⟨t2, a1, b1⟩ := kk u t T'.heap (locs ++ L) e1.symm (by rw [← e2]; exact X'.warmed.alike) hp hb k1 k2 k3 T' rfl X'
    exact ⟨t2, st t2 a1, b1⟩
  · obtain ⟨k1, k2, k3⟩ := vx_keep h0 e1 hS hAX hf hL hF
    obtain ⟨t2, a1, b1⟩ := kx E ce q u t T'.heap (locs ++ L) e1.symm (by rw [← e2]; exact X'.warmed.alike) hp hb k1 k2 k3 (by rw [e1]; exact hce) hcv hcl T' rfl X'
    exact ⟨t2, st.trans a1, b1⟩
end Rows
section Ends
variable {p : Program} {l : Launch} {e : Env} {R : Room} {s : State} {m : MethodId} {args : Array Value} {below : List Frame} {meth : Method} {c : Code} {H : Heap} {locs : List Loc} {cells slots : Nat} {Q : State → Prop}
variable {mc ms : Nat} {free : Addr → Prop} {A0 A1 : Nat → Prop} {H0 : Heap} {a : Array Value} {ls : Array Slot} {st0 rest : List Value}
variable {Qc : Array Value → State → Outcome → State → Prop} {XC : String → State → State → Prop}
/-- what a body that may throw owes at its end -/
def vx_MQ (below : List Frame) (Qc : Array Value → State → Outcome → State → Prop) (XC : String → State → State → Prop) (a : Array Value) (s : State) (mc ms : Nat) (free : Addr → Prop) : State → Prop := fun t =>
  ∃ o, t.status = .running ∧ Ended t below o ∧ vx_Q Qc XC mc ms free a s o t
theorem vx_ret {g : JFrame} {mc ms : Nat} (k : W p l e R s m args below meth c H locs cells slots (MQ below Qc args s mc ms free) g) : W p l e R s m args below meth c H locs cells slots (vx_MQ below Qc XC args s mc ms free) g := by
  intro T hT X
  obtain ⟨t, a1, o, b1, b2, b3, b4⟩ := k T hT X
  exact ⟨t, a1, o, b1, b2, Or.inl ⟨b3, b4⟩⟩
/-- not caught here: it goes on to the caller -/
theorem vx_widen {g : JFrame} {q : Addr} {k n : Nat} (h1 : cells ≤ k) (h2 : slots ≤ n) (kk : vx_W p l e R s m args below meth c H locs k n Q g q) : vx_W p l e R s m args below meth c H locs cells slots Q g q := fun T hT X => kk T hT (stand_widen X h1 h2)
theorem vx_out {pc : Nat} {E : String} {ce : Cell} {q : Addr} {mc ms : Nat} (hout : ∀ x ∈ c.exceptionTable.toList, covers x pc = false) (hlocks : meth.locks = false) (hcell : H[q]? = some ce) (hv : ce.vm = .none) (hcl : s.vm.findClass E = some ce.cls)
    (hx : ∀ t : State, t.heap = H → s.vm.Alike t.vm → XC E s t) (hf : ∀ z ∈ locs, free z.base) (hc : cells ≤ mc) (hs : slots ≤ ms) :
    vx_W p l e R s m args below meth c H locs cells slots (vx_MQ below Qc XC args s mc ms free) (F0 m pc ls rest) q := by
  intro T hT X
  obtain ⟨st1, hrun, hend, hW, hsm⟩ := X.leaveThrown q (g := F0 m pc ls rest) rfl rfl rfl hout hlocks
  have hcell9 : (T.setFrames (.throwing q :: below)).heap[q]? = some ce := by
    show T.heap[q]? = some ce
    rw [hT]; exact hcell
  exact ⟨_, st1, .threw q, hrun, hend, Or.inr ⟨q, rfl, E, ce, locs, hx _ hT hW.alike, hcell9, hv, hcl, hW, hsm.mono hc hs, hf⟩⟩
theorem vx_frame {U : State} {k n : Nat} (h : s.sameButNew ({ U with vm := s.vm } : State) locs k n) : s.heap.size ≤ U.heap.size ∧ ∀ q : Nat, q < s.heap.size → (∀ z ∈ locs, z.base ≠ q) → U.heap[q]? = s.heap[q]? := by
  obtain ⟨-, h2, -, -, -, h6⟩ := h
  refine ⟨h2, fun q hq hz => ?_⟩
  obtain ⟨c9, e1, e2, e3, e4⟩ := h6 q _ (Array.getElem?_eq_getElem hq)
  have hs : c9.slots = (s.heap[q]).slots := Array.ext_getElem? fun i => e4 i fun hm => hz _ hm rfl
  have h9 : c9 = s.heap[q] := by
    rw [hs] at e2
    exact e2
  have e5 : U.heap[q]? = some c9 := e1
  rw [e5, h9, Array.getElem?_eq_getElem hq]
/-- the words of a throw but the four that speak of the heap -/
def vx_no (w : Cond) : Bool := decide (w ≠ .isRef (.static Bundle.tN "UNASSIGNED_STACK" Bundle.steD)) && decide (w ≠ .isRef (.static Bundle.tN "SUPPRESSED_SENTINEL" Bundle.listD)) && decide (w ≠ .laysStatic Bundle.tN "UNASSIGNED_STACK" Bundle.steD) && decide (w ≠ .laysStatic Bundle.tN "SUPPRESSED_SENTINEL" Bundle.listD)
def vx_at0 (own : String) (ic : Nat) (X : String) (names : List String) : List Cond := (Bundle.ownAtoms0 own ic X names).filter vx_no
def vx_atS (own : String) (ic : Nat) (X : String) (names : List String) : List Cond := (Bundle.ownAtoms own ic X names).filter vx_no
/-- a word that the tables alone decide, or a good one -/
def vx_ot (w : Cond) : Bool := w.onTables || goodWord w
theorem vx_ot_at {args a' : Array Value} {s U : State} {w : Cond} (hW : s.WarmedH U.vm) (hvm : s.vm = U.vm) (hg : vx_ot w = true) (h : w.before args s = true) : w.before a' U = true := by
  simp only [vx_ot, Bool.or_eq_true] at hg
  rcases hg with hg | hg
  · exact va_tabs hg hvm h
  · exact word_at hW (good_of_word hg) h
/-- a list's words: the good ones out of the method's own list, the others by premises of their own -/
theorem vx_hat {args : Array Value} {s : State} {L B : List Cond} (h1 : ∀ w ∈ L.filter goodWord, w.before args s = true) (h2 : ∀ w ∈ L.filter (fun w => !goodWord w), w ∈ B) (h3 : ∀ w ∈ B, w.before args s = true) : ∀ w ∈ L, w.before args s = true := by
  intro w hw
  by_cases g : goodWord w = true
  · exact h1 w (List.mem_filter.mpr ⟨hw, g⟩)
  · refine h3 w (h2 w (List.mem_filter.mpr ⟨hw, ?_⟩))
    show (!goodWord w) = true
    cases hgw : goodWord w
    · rfl
    · exact absurd hgw g
theorem vx_c {args : Array Value} {s : State} {w : Cond} {B : List Cond} (h : w.before args s = true) (t : ∀ w ∈ B, w.before args s = true) : ∀ w' ∈ w :: B, w'.before args s = true := fun w' h' => (List.mem_cons.mp h').elim (fun e => by rw [e]; exact h) (t w')
theorem vx_n {args : Array Value} {s : State} : ∀ w ∈ ([] : List Cond), w.before args s = true := fun _ h => nomatch h
theorem vx_own {args : Array Value} {s : State} {L : List Cond} (h1 : ∀ w ∈ L.filter vx_no, w.before args s = true)
    (hU : (Cond.isRef (.static Bundle.tN "UNASSIGNED_STACK" Bundle.steD)).before args s = true) (hN : (Cond.isRef (.static Bundle.tN "SUPPRESSED_SENTINEL" Bundle.listD)).before args s = true)
    (lU : (Cond.laysStatic Bundle.tN "UNASSIGNED_STACK" Bundle.steD).before args s = true) (lN : (Cond.laysStatic Bundle.tN "SUPPRESSED_SENTINEL" Bundle.listD).before args s = true) : ∀ w ∈ L, w.before args s = true := by
  intro w hw
  by_cases e1 : w = .isRef (.static Bundle.tN "UNASSIGNED_STACK" Bundle.steD)
  · rw [e1]; exact hU
  · by_cases e2 : w = .isRef (.static Bundle.tN "SUPPRESSED_SENTINEL" Bundle.listD)
    · rw [e2]; exact hN
    · by_cases e3 : w = .laysStatic Bundle.tN "UNASSIGNED_STACK" Bundle.steD
      · rw [e3]; exact lU
      · by_cases e4 : w = .laysStatic Bundle.tN "SUPPRESSED_SENTINEL" Bundle.listD
        · rw [e4]; exact lN
        · exact h1 w (List.mem_filter.mpr ⟨hw, by unfold vx_no; rw [decide_eq_true e1, decide_eq_true e2, decide_eq_true e3, decide_eq_true e4]; rfl⟩)
/-- where a static field lies, its class's statics cell in H -/
def vx_L (C n d : String) (A : Nat → Prop) (U : State) (H : Heap) : Prop := ∃ (c : ClassId) (k : Class) (i : Nat) (f : Field) (a : Nat) (cell : Cell), U.vm.findClass C = some c ∧ U.fieldFound? C n d = some (c, k, i, f) ∧ f.isStatic = true ∧ k.statics = some a ∧ H[a]? = some cell ∧ cell.vm.isStatics = true ∧ cell.cls = c ∧ f.slot < cell.slots.size ∧ k.staticTypes[f.slot]? = some f.type ∧ ¬ A a
theorem vx_L.moved {C n d : String} {A : Nat → Prop} {u U : State} {H : Heap} (hvm : u.vm.Alike U.vm) (h : vx_L C n d A u H) : vx_L C n d A U H := by
  obtain ⟨c, k, i, f, a, cell, h1, h2, h3, h4, h5, h6, h7, h8, h9, h10⟩ := h
  obtain ⟨k', hi', he⟩ := State.fieldFound?_setVm hvm h2
  exact ⟨c, k', i, f, a, cell, by rw [hvm.findClass]; exact h1, hi', h3, by rw [he]; exact h4, h5, h6, h7, h8, by rw [he]; exact h9, h10⟩
theorem vx_L.kept {C n d : String} {A : Nat → Prop} {U : State} {H H1 : Heap} (h : vx_L C n d A U H) (hq : ∀ a : Nat, a < H.size → ¬ A a → H1[a]? = H[a]?) : vx_L C n d A U H1 := by
  obtain ⟨c, k, i, f, a, cell, h1, h2, h3, h4, h5, h6, h7, h8, h9, h10⟩ := h
  exact ⟨c, k, i, f, a, cell, h1, h2, h3, h4, by rw [hq a (Array.getElem?_eq_some_iff.mp h5).1 h10]; exact h5, h6, h7, h8, h9, h10⟩
theorem vx_L.narrow {C n d : String} {A B : Nat → Prop} {U : State} {H : Heap} (h : vx_L C n d A U H) (hAB : ∀ q, B q → A q) : vx_L C n d B U H := by
  obtain ⟨c, k, i, f, a, cell, h1, h2, h3, h4, h5, h6, h7, h8, h9, h10⟩ := h
  exact ⟨c, k, i, f, a, cell, h1, h2, h3, h4, h5, h6, h7, h8, h9, fun z => h10 (hAB _ z)⟩
theorem vx_L.word {C n d : String} {A : Nat → Prop} {s : State} {args : Array Value} (h : vx_L C n d A s s.heap) : (Cond.laysStatic C n d).before args s = true := by
  obtain ⟨c, k, i, f, a, cell, h1, h2, h3, h4, h5, h6, h7, h8, h9, -⟩ := h
  show (Cond.laysStatic C n d).holds args s none s [] = true
  exact Cond.laysStatic_of h1 h2 h3 h4 h5 h6 h7 h8 h9
/-- .. and what it holds: null or some reference -/
def vx_Zq (C n d : String) (A : Nat → Prop) (U : State) (H : Heap) : Prop := va_Zq C n d A U H ∧ vx_L C n d A U H
theorem vx_Zq.moved {C n d : String} {A : Nat → Prop} {u U : State} {H : Heap} (hvm : u.vm.Alike U.vm) (h : vx_Zq C n d A u H) : vx_Zq C n d A U H := ⟨va_Zq.moved hvm h.1, vx_L.moved hvm h.2⟩
theorem vx_Zq.kept {C n d : String} {A : Nat → Prop} {U : State} {H H1 : Heap} (h : vx_Zq C n d A U H) (hq : ∀ a : Nat, a < H.size → ¬ A a → H1[a]? = H[a]?) : vx_Zq C n d A U H1 := ⟨va_Zq.kept h.1 hq, vx_L.kept h.2 hq⟩
theorem vx_Zq.narrow {C n d : String} {A B : Nat → Prop} {U : State} {H : Heap} (h : vx_Zq C n d A U H) (hAB : ∀ q, B q → A q) : vx_Zq C n d B U H := ⟨va_Zq.narrow h.1 hAB, vx_L.narrow h.2 hAB⟩
theorem vx_Zqof {args : Array Value} {s : State} {C n d : String} {A : Nat → Prop} (hl : (Cond.laysStatic C n d).before args s = true) (hini : (Cond.initialized C).before args s = true) (h : (Cond.isRef (.static C n d)).before args s = true) (hA : ∀ a : Nat, a < s.heap.size → ¬ A a) : vx_Zq C n d A s s.heap := by
  refine ⟨va_Zqof hl hini h hA, ?_⟩
  obtain ⟨c, k, i, f, a, cell, h1, h2, h3, h4, h5, h6, h7, h8, h9⟩ := Cond.laysStatic_spec hl
  exact ⟨c, k, i, f, a, cell, h1, h2, h3, h4, h5, h6, h7, h8, h9, hA a (Array.getElem?_eq_some_iff.mp h5).1⟩
theorem vx_isRef {C n d : String} {v : Value} {A : Nat → Prop} {s : State} {args : Array Value} (h : va_Z C n d v A s s.heap) (hv : v.isRef = true) : (Cond.isRef (.static C n d)).before args s = true := by
  obtain ⟨cf, kf, fi, f, a, cell, h1, h2, h3, h4, h5, h6, h7, -⟩ := h
  have he : (Term.static C n d).eval args s none [] s = some v := by
    simp [Term.eval, State.fieldNamed?, h1, h2, h4, h5, h6, h7]
  simp only [Cond.before, Cond.holds, Cond.value, he]
  cases v <;> simp_all [Value.isRef]
theorem vx_isRefq {C n d : String} {A : Nat → Prop} {s : State} {args : Array Value} (h : va_Zq C n d A s s.heap) : (Cond.isRef (.static C n d)).before args s = true := by
  rcases h with h | ⟨t, h⟩
  · exact vx_isRef h rfl
  · exact vx_isRef h rfl
/-- the same frame, seen from here: as if the method were called anew in this heap -/
theorem vx_rebase {T : State} (X : Stand p l e R s m args below meth c T locs cells slots) {R' : Room} (hf : R'.frames ≤ R.frames) (hl : R'.locals ≤ R.locals) (hc : cells + R'.cells ≤ R.cells) (hs : slots + R'.slots ≤ R.slots) :
    Stand p l e R' ((T.setVm s.vm).setFrames (.invoking m args :: below)) m args below meth c T [] 0 0 := by
  have htop : (T.setVm s.vm).topJava?.isSome := X.here.top
  have hF : ((T.setVm s.vm).setFrames (.invoking m args :: below)).frames = .invoking m args :: below := State.frames_setFrames _ (State.cur_lt_of_top htop)
  obtain ⟨g₀, hg0⟩ := Option.isSome_iff_exists.mp htop
  obtain ⟨r, hr⟩ := State.topJava?_eq_some.mp hg0
  have hl9 : e.platform.stackLimits (T.setVm s.vm).me = e.platform.stackLimits s.me := X.limits
  have hb9 : (T.setVm s.vm).me.stackBytes = s.me.stackBytes := X.bytes
  refine ⟨X.admits, X.cas, X.clock, hF, ?_, X.hears, X.method, X.code, X.here, X.tail, X.warmed, ?_, ?_, ?_⟩
  · have h := X.room
    have hU : ((T.setVm s.vm).setFrames (.invoking m args :: below)).localsInUse = s.localsInUse := by
      rw [State.localsInUse_invoking hF (meth := meth) (c := c) X.method X.code, State.localsInUse_invoking X.frames X.method X.code]
    simp only [State.hasRoom, Bool.and_eq_true, decide_eq_true_eq] at h ⊢
    obtain ⟨⟨⟨⟨h1, h2, h3, h4, h5, h6⟩, h7⟩, h8⟩, h9⟩ := h
    rw [X.frames, List.length_cons] at h2 h3
    have q1 := X.heapSize
    have q2 := X.used
    simp only [hF, hU, List.length_cons, State.stackLimits_setFrames, State.stackBytes_setFrames, hl9, hb9]
    refine ⟨⟨⟨⟨by omega, by omega, by omega, by omega, by omega, h6⟩, ?_⟩, ?_⟩, X.book⟩
    · show T.heap.size + R'.cells ≤ e.platform.maxCells
      omega
    · show T.slotsUsed + R'.slots ≤ e.platform.maxSlots
      omega
  · rw [State.stackLimits_setFrames]; rfl
  · rw [State.stackBytes_setFrames]; rfl
  · refine ⟨?_, Nat.le_refl _, Nat.le_refl _, ?_, ?_, fun a c9 h9 => ⟨c9, h9, rfl, rfl, fun _ _ => rfl⟩⟩
    · obtain ⟨t, ht, -⟩ := State.frames_cons hr
      show T.setVm s.vm = { ((T.setVm s.vm).setFrames (.invoking m args :: below)).setFrames (T.setVm s.vm).frames with heap := T.heap, slotsUsed := T.slotsUsed }
      rw [State.setFrames_setFrames, State.setFrames_self ht]
      rfl
    · show T.slotsUsed = T.slotsUsed + ((T.heap.toList.drop T.heap.size).map (·.slots.size)).sum
      rw [List.drop_eq_nil_of_le (Nat.le_of_eq Array.length_toList)]
      rfl
    · show ((T.heap.toList.drop T.heap.size).map (·.slots.size)).sum ≤ 0
      rw [List.drop_eq_nil_of_le (Nat.le_of_eq Array.length_toList)]
      exact Nat.le_refl _
/-- 'throw new E()': new; dup; invokespecial; athrow -/
theorem vx_throw0 {cc : ByteArray} {pc : Nat} (hexec : p.tables.exec = Jvm.exec) (hb : c.code = cc) (hl : l.stackTraces = false) {own cls : String} {names : List String} {ik ic mc ms : Nat} {A : Nat → Prop}
    (hown : s.vm.findClass own = some m.cls) (hcls : Bundle.fit cls = true) (hnames : ∀ n ∈ names, Bundle.fit n = true)
    (hk : (Cond.classLink own ik cls).before args s = true) (hini : (Cond.initialized cls).before args s = true) (hat : ∀ w ∈ vx_at0 own ic cls names, w.before args s = true)
    (hgood : ∀ w ∈ Cond.classLink own ik cls :: Cond.initialized cls :: vx_at0 own ic cls names, vx_ot w = true)
    (hU : vx_Zq Bundle.tN "UNASSIGNED_STACK" Bundle.steD A s s.heap) (hN : vx_Zq Bundle.tN "SUPPRESSED_SENTINEL" Bundle.listD A s s.heap) (hS : va_S A s.heap H locs) (hsize : ls.size = c.maxLocals)
    (d0 : decode cc pc = .ok (.new ik, 3)) (d3 : decode cc (pc + 3) = .ok (.dup, 1)) (d4 : decode cc (pc + 4) = .ok (.invokespecial ic, 3)) (d7 : decode cc (pc + 7) = .ok (.athrow, 1))
    (hout : ∀ x ∈ c.exceptionTable.toList, covers x (pc + 7) = false)
    (hRframes : names.length + 3 < R.frames) (hRlocals : (rest.map fun v => v.category).sum + (13 * (names.length + 1) + 42) ≤ R.locals) (hRcells : cells + 1 ≤ R.cells) (hRslots : slots + 6 ≤ R.slots) (hlocks : meth.locks = false)
    (hx : ∀ t : State, s.vm.Alike t.vm → H.size ≤ t.heap.size → (∀ q : Nat, q < H.size → t.heap[q]? = H[q]?) → XC cls s t)
    (hf : ∀ z ∈ locs, free z.base) (hc : cells + 1 ≤ mc) (hs : slots + 6 ≤ ms) :
    W p l e R s m args below meth c H locs cells slots (vx_MQ below Qc XC args s mc ms free) (F0 m pc ls rest) := by
  intro T hT X
  have htr : e.platform.stackTraces = false := (show e.platform.stackTraces = l.stackTraces by rw [X.admits.platform]).trans hl
  have Y := vx_rebase X (R' := { frames := R.frames, locals := R.locals, cells := 1, slots := 6 }) (Nat.le_refl _) (Nat.le_refl _) hRcells hRslots
  obtain ⟨s', hA⟩ : ∃ z, z = (T.setVm s.vm).setFrames (.invoking m args :: below) := ⟨_, rfl⟩
  rw [← hA] at Y
  have hvm : s'.vm = s.vm := by rw [hA]; rfl
  have hhp : s'.heap = H := by rw [hA]; exact hT
  have hW0 : s.WarmedH s'.vm := by rw [hvm]; exact State.WarmedH.refl s
  have hat' : ∀ w ∈ vx_at0 own ic cls names, w.before args s' = true := fun w hw => vx_ot_at hW0 hvm.symm (hgood w (List.mem_cons_of_mem _ (List.mem_cons_of_mem _ hw))) (hat w hw)
  have hk' : (Cond.classLink own ik cls).before args s' = true := vx_ot_at hW0 hvm.symm (hgood _ List.mem_cons_self) hk
  have hini' : (Cond.initialized cls).before args s' = true := vx_ot_at hW0 hvm.symm (hgood _ (List.mem_cons_of_mem _ List.mem_cons_self)) hini
  have hU' : vx_Zq Bundle.tN "UNASSIGNED_STACK" Bundle.steD A s' s'.heap := by rw [hhp]; exact vx_Zq.moved hW0.alike (hU.kept hS.2.1)
  have hN' : vx_Zq Bundle.tN "SUPPRESSED_SENTINEL" Bundle.listD A s' s'.heap := by rw [hhp]; exact vx_Zq.moved hW0.alike (hN.kept hS.2.1)
  have h : ∀ w ∈ Bundle.ownAtoms0 own ic cls names, w.before args s' = true := vx_own hat' (vx_isRefq hU'.1) (vx_isRefq hN'.1) hU'.2.word hN'.2.word
  have hown' : s'.vm.findClass own = some m.cls := by rw [hvm]; exact hown
  have hins : (Cond.instantiable cls 6).before args s' = true := h _ (by simp [Bundle.ownAtoms0])
  obtain ⟨vm₁, cX, kX, hfX, hkX, -, -, X₁, st1⟩ := Y.newCold hexec (own := own) (C := cls) (index := ik) (n := 6) hown' hk' hins hini'
    (g := F0 m pc ls rest) rfl (by rw [hb]; exact d0) (Nat.le_refl _) (Nat.le_refl _)
  generalize hT1 : (T.setVm vm₁).pushCell { cls := cX, slots := kX.instanceTypes.map defaultValue, vm := .none } = T1 at X₁ st1
  have hcat : (Value.ref T.heap.size).category = 1 := rfl
  have hcellA : T1.heap[T.heap.size]? = some (freshCell cX kX) := by rw [← hT1]; exact State.heap_pushCell_size _ _
  have d3' : decode c.code (pc + 3) = .ok (.dup, 1) := by rw [hb]; exact d3
  obtain ⟨U, hsteps, hrun, hend, hW, hsame, ce, hce, hO⟩ := X₁.ctorThrow0 hexec htr (own := own) (cls := cls) (names := names) (ic := ic) hown' hcls hnames h (fun x hx => nomatch hx) hfX hkX hcellA (by rw [hhp, hT]; exact Nat.le_refl _)
    (g := { method := m, pc := pc + 4, locals := ls, stack := .ref T.heap.size :: .ref T.heap.size :: rest, locked := none }) rfl hsize rfl rfl (rest := rest) rfl
    (by rw [hb]; exact d4) (by rw [hb]; exact d7) hout hRframes (by simp only [List.map_cons, List.sum_cons, hcat]; omega) hlocks
  obtain ⟨f1, f2⟩ := vx_frame hsame
  rw [hhp] at f1 f2
  have hWs : s.WarmedH U.vm := State.WarmedH.trans hW0 hW
  have hcl : s.vm.findClass cls = some ce.cls := by
    have h9 := hO.cls
    rw [hvm] at h9
    exact h9
  have hall : s.sameButNew ({ U with vm := s.vm } : State) locs mc ms := by
    subst hA
    obtain ⟨e1, e2⟩ := hsame
    rw [State.setFrames_setFrames] at e1
    have h2 : (T.setVm s.vm).sameButNew ({ U with vm := s.vm } : State) [] (0 + 1) (0 + 6) := ⟨e1, e2⟩
    have h3 := X.same.trans h2
    rw [List.append_nil] at h3
    exact h3.mono hc hs
  refine ⟨U, ?_, .threw T.heap.size, hrun, hend, Or.inr ⟨T.heap.size, rfl, cls, ce, locs, hx U hWs.alike f1 (fun q hq => f2 q hq (fun z hz => nomatch hz)), hce, hO.vm, hcl, hWs, hall, hf⟩⟩
  refine st1 _ ?_
  show Steps p.tables e below (T1.setTop { method := m, pc := pc + 3, locals := ls, stack := .ref T.heap.size :: rest, locked := none }) _
  jvm_step X₁.here [X₁.here.top, hexec, d3', Value.category]
  exact hsteps
/-- 'throw new E("text")': new; dup; ldc; invokespecial; athrow -/
theorem vx_throwS {cc : ByteArray} {pc : Nat} (hexec : p.tables.exec = Jvm.exec) (hb : c.code = cc) (hl : l.stackTraces = false) {own cls text : String} {names : List String} {ik is ic mc ms sa : Nat} {A : Nat → Prop}
    (hown : s.vm.findClass own = some m.cls) (hcls : Bundle.fit cls = true) (hnames : ∀ n ∈ names, Bundle.fit n = true)
    (hk : (Cond.classLink own ik cls).before args s = true) (hini : (Cond.initialized cls).before args s = true) (hstr : vk_R own is text sa s) (hat : ∀ w ∈ vx_atS own ic cls names, w.before args s = true)
    (hgood : ∀ w ∈ Cond.classLink own ik cls :: Cond.initialized cls :: vx_atS own ic cls names, vx_ot w = true)
    (hU : vx_Zq Bundle.tN "UNASSIGNED_STACK" Bundle.steD A s s.heap) (hN : vx_Zq Bundle.tN "SUPPRESSED_SENTINEL" Bundle.listD A s s.heap) (hS : va_S A s.heap H locs) (hsize : ls.size = c.maxLocals)
    (d0 : decode cc pc = .ok (.new ik, 3)) (d3 : decode cc (pc + 3) = .ok (.dup, 1)) (d4 : decode cc (pc + 4) = .ok (.ldc is, 2)) (d6 : decode cc (pc + 6) = .ok (.invokespecial ic, 3)) (d9 : decode cc (pc + 9) = .ok (.athrow, 1))
    (hout : ∀ x ∈ c.exceptionTable.toList, covers x (pc + 9) = false)
    (hRframes : names.length + 3 < R.frames) (hRlocals : (rest.map fun v => v.category).sum + (13 * (names.length + 1) + 43) ≤ R.locals) (hRcells : cells + 1 ≤ R.cells) (hRslots : slots + 6 ≤ R.slots) (hlocks : meth.locks = false)
    (hx : ∀ t : State, s.vm.Alike t.vm → H.size ≤ t.heap.size → (∀ q : Nat, q < H.size → t.heap[q]? = H[q]?) → XC cls s t)
    (hf : ∀ z ∈ locs, free z.base) (hc : cells + 1 ≤ mc) (hs : slots + 6 ≤ ms) :
    W p l e R s m args below meth c H locs cells slots (vx_MQ below Qc XC args s mc ms free) (F0 m pc ls rest) := by
  intro T hT X
  have htr : e.platform.stackTraces = false := (show e.platform.stackTraces = l.stackTraces by rw [X.admits.platform]).trans hl
  have Y := vx_rebase X (R' := { frames := R.frames, locals := R.locals, cells := 1, slots := 6 }) (Nat.le_refl _) (Nat.le_refl _) hRcells hRslots
  obtain ⟨s', hA⟩ : ∃ z, z = (T.setVm s.vm).setFrames (.invoking m args :: below) := ⟨_, rfl⟩
  rw [← hA] at Y
  have hvm : s'.vm = s.vm := by rw [hA]; rfl
  have hhp : s'.heap = H := by rw [hA]; exact hT
  have hW0 : s.WarmedH s'.vm := by rw [hvm]; exact State.WarmedH.refl s
  have hat' : ∀ w ∈ vx_atS own ic cls names, w.before args s' = true := fun w hw => vx_ot_at hW0 hvm.symm (hgood w (List.mem_cons_of_mem _ (List.mem_cons_of_mem _ hw))) (hat w hw)
  have hk' : (Cond.classLink own ik cls).before args s' = true := vx_ot_at hW0 hvm.symm (hgood _ List.mem_cons_self) hk
  have hini' : (Cond.initialized cls).before args s' = true := vx_ot_at hW0 hvm.symm (hgood _ (List.mem_cons_of_mem _ List.mem_cons_self)) hini
  have hU' : vx_Zq Bundle.tN "UNASSIGNED_STACK" Bundle.steD A s' s'.heap := by rw [hhp]; exact vx_Zq.moved hW0.alike (hU.kept hS.2.1)
  have hN' : vx_Zq Bundle.tN "SUPPRESSED_SENTINEL" Bundle.listD A s' s'.heap := by rw [hhp]; exact vx_Zq.moved hW0.alike (hN.kept hS.2.1)
  have h : ∀ w ∈ Bundle.ownAtoms own ic cls names, w.before args s' = true := vx_own hat' (vx_isRefq hU'.1) (vx_isRefq hN'.1) hU'.2.word hN'.2.word
  have hown' : s'.vm.findClass own = some m.cls := by rw [hvm]; exact hown
  have hins : (Cond.instantiable cls 6).before args s' = true := h _ (by simp [Bundle.ownAtoms])
  obtain ⟨vm₁, cX, kX, hfX, hkX, -, -, X₁, st1⟩ := Y.newCold hexec (own := own) (C := cls) (index := ik) (n := 6) hown' hk' hins hini'
    (g := F0 m pc ls rest) rfl (by rw [hb]; exact d0) (Nat.le_refl _) (Nat.le_refl _)
  generalize hT1 : (T.setVm vm₁).pushCell { cls := cX, slots := kX.instanceTypes.map defaultValue, vm := .none } = T1 at X₁ st1
  have hcat : (Value.ref T.heap.size).category = 1 := rfl
  have hcellA : T1.heap[T.heap.size]? = some (freshCell cX kX) := by rw [← hT1]; exact State.heap_pushCell_size _ _
  have d3' : decode c.code (pc + 3) = .ok (.dup, 1) := by rw [hb]; exact d3
  have d4' : decode c.code (pc + 4) = .ok (.ldc is, 2) := by rw [hb]; exact d4
  have hstr' : vk_R own is text sa s' := vk_R.warm hW0 hstr
  obtain ⟨U, hsteps, hrun, hend, hW, hsame, ce, hce, hO⟩ := X₁.ctorThrowS hexec htr (own := own) (cls := cls) (names := names) (ic := ic) hown' hcls hnames h (fun x hx => nomatch hx) hfX hkX hcellA (by rw [hhp, hT]; exact Nat.le_refl _) (msg := .ref sa) rfl
    (g := { method := m, pc := pc + 6, locals := ls, stack := .ref sa :: .ref T.heap.size :: .ref T.heap.size :: rest, locked := none }) rfl hsize rfl rfl (rest := rest) rfl
    (by rw [hb]; exact d6) (by rw [hb]; exact d9) hout hRframes (by simp only [List.map_cons, List.sum_cons, hcat]; omega) hlocks
  obtain ⟨f1, f2⟩ := vx_frame hsame
  rw [hhp] at f1 f2
  have hWs : s.WarmedH U.vm := State.WarmedH.trans hW0 hW
  have hcl : s.vm.findClass cls = some ce.cls := by
    have h9 := hO.cls
    rw [hvm] at h9
    exact h9
  have hall : s.sameButNew ({ U with vm := s.vm } : State) locs mc ms := by
    subst hA
    obtain ⟨e1, e2⟩ := hsame
    rw [State.setFrames_setFrames] at e1
    have h2 : (T.setVm s.vm).sameButNew ({ U with vm := s.vm } : State) [] (0 + 1) (0 + 6) := ⟨e1, e2⟩
    have h3 := X.same.trans h2
    rw [List.append_nil] at h3
    exact h3.mono hc hs
  refine ⟨U, ?_, .threw T.heap.size, hrun, hend, Or.inr ⟨T.heap.size, rfl, cls, ce, locs, hx U hWs.alike f1 (fun q hq => f2 q hq (fun z hz => nomatch hz)), hce, hO.vm, hcl, hWs, hall, hf⟩⟩
  refine st1 _ ?_
  show Steps p.tables e below (T1.setTop { method := m, pc := pc + 3, locals := ls, stack := .ref T.heap.size :: rest, locked := none }) _
  jvm_step X₁.here [X₁.here.top, hexec, d3', Value.category]
  exact X₁.ldcString hexec (own := own) (text := text) (index := is) (a := sa) hown' hstr'.1 hstr'.2
    (g := { method := m, pc := pc + 4, locals := ls, stack := .ref T.heap.size :: .ref T.heap.size :: rest, locked := none }) rfl d4' _ hsteps
/-- 'throw new E("text")', the text by a wide index -/
theorem vx_throwSW {cc : ByteArray} {pc : Nat} (hexec : p.tables.exec = Jvm.exec) (hb : c.code = cc) (hl : l.stackTraces = false) {own cls text : String} {names : List String} {ik is ic mc ms sa : Nat} {A : Nat → Prop}
    (hown : s.vm.findClass own = some m.cls) (hcls : Bundle.fit cls = true) (hnames : ∀ n ∈ names, Bundle.fit n = true)
    (hk : (Cond.classLink own ik cls).before args s = true) (hini : (Cond.initialized cls).before args s = true) (hstr : vk_R own is text sa s) (hat : ∀ w ∈ vx_atS own ic cls names, w.before args s = true)
    (hgood : ∀ w ∈ Cond.classLink own ik cls :: Cond.initialized cls :: vx_atS own ic cls names, vx_ot w = true)
    (hU : vx_Zq Bundle.tN "UNASSIGNED_STACK" Bundle.steD A s s.heap) (hN : vx_Zq Bundle.tN "SUPPRESSED_SENTINEL" Bundle.listD A s s.heap) (hS : va_S A s.heap H locs) (hsize : ls.size = c.maxLocals)
    (d0 : decode cc pc = .ok (.new ik, 3)) (d3 : decode cc (pc + 3) = .ok (.dup, 1)) (d4 : decode cc (pc + 4) = .ok (.ldc_w is, 3)) (d7 : decode cc (pc + 7) = .ok (.invokespecial ic, 3)) (d10 : decode cc (pc + 10) = .ok (.athrow, 1))
    (hout : ∀ x ∈ c.exceptionTable.toList, covers x (pc + 10) = false)
    (hRframes : names.length + 3 < R.frames) (hRlocals : (rest.map fun v => v.category).sum + (13 * (names.length + 1) + 43) ≤ R.locals) (hRcells : cells + 1 ≤ R.cells) (hRslots : slots + 6 ≤ R.slots) (hlocks : meth.locks = false)
    (hx : ∀ t : State, s.vm.Alike t.vm → H.size ≤ t.heap.size → (∀ q : Nat, q < H.size → t.heap[q]? = H[q]?) → XC cls s t)
    (hf : ∀ z ∈ locs, free z.base) (hc : cells + 1 ≤ mc) (hs : slots + 6 ≤ ms) :
    W p l e R s m args below meth c H locs cells slots (vx_MQ below Qc XC args s mc ms free) (F0 m pc ls rest) := by
  intro T hT X
  have htr : e.platform.stackTraces = false := (show e.platform.stackTraces = l.stackTraces by rw [X.admits.platform]).trans hl
  have Y := vx_rebase X (R' := { frames := R.frames, locals := R.locals, cells := 1, slots := 6 }) (Nat.le_refl _) (Nat.le_refl _) hRcells hRslots
  obtain ⟨s', hA⟩ : ∃ z, z = (T.setVm s.vm).setFrames (.invoking m args :: below) := ⟨_, rfl⟩
  rw [← hA] at Y
  have hvm : s'.vm = s.vm := by rw [hA]; rfl
  have hhp : s'.heap = H := by rw [hA]; exact hT
  have hW0 : s.WarmedH s'.vm := by rw [hvm]; exact State.WarmedH.refl s
  have hat' : ∀ w ∈ vx_atS own ic cls names, w.before args s' = true := fun w hw => vx_ot_at hW0 hvm.symm (hgood w (List.mem_cons_of_mem _ (List.mem_cons_of_mem _ hw))) (hat w hw)
  have hk' : (Cond.classLink own ik cls).before args s' = true := vx_ot_at hW0 hvm.symm (hgood _ List.mem_cons_self) hk
  have hini' : (Cond.initialized cls).before args s' = true := vx_ot_at hW0 hvm.symm (hgood _ (List.mem_cons_of_mem _ List.mem_cons_self)) hini
  have hU' : vx_Zq Bundle.tN "UNASSIGNED_STACK" Bundle.steD A s' s'.heap := by rw [hhp]; exact vx_Zq.moved hW0.alike (hU.kept hS.2.1)
  have hN' : vx_Zq Bundle.tN "SUPPRESSED_SENTINEL" Bundle.listD A s' s'.heap := by rw [hhp]; exact vx_Zq.moved hW0.alike (hN.kept hS.2.1)
  have h : ∀ w ∈ Bundle.ownAtoms own ic cls names, w.before args s' = true := vx_own hat' (vx_isRefq hU'.1) (vx_isRefq hN'.1) hU'.2.word hN'.2.word
  have hown' : s'.vm.findClass own = some m.cls := by rw [hvm]; exact hown
  have hins : (Cond.instantiable cls 6).before args s' = true := h _ (by simp [Bundle.ownAtoms])
  obtain ⟨vm₁, cX, kX, hfX, hkX, -, -, X₁, st1⟩ := Y.newCold hexec (own := own) (C := cls) (index := ik) (n := 6) hown' hk' hins hini'
    (g := F0 m pc ls rest) rfl (by rw [hb]; exact d0) (Nat.le_refl _) (Nat.le_refl _)
  generalize hT1 : (T.setVm vm₁).pushCell { cls := cX, slots := kX.instanceTypes.map defaultValue, vm := .none } = T1 at X₁ st1
  have hcat : (Value.ref T.heap.size).category = 1 := rfl
  have hcellA : T1.heap[T.heap.size]? = some (freshCell cX kX) := by rw [← hT1]; exact State.heap_pushCell_size _ _
  have d3' : decode c.code (pc + 3) = .ok (.dup, 1) := by rw [hb]; exact d3
  have d4' : decode c.code (pc + 4) = .ok (.ldc_w is, 3) := by rw [hb]; exact d4
  have hstr' : vk_R own is text sa s' := vk_R.warm hW0 hstr
  obtain ⟨U, hsteps, hrun, hend, hW, hsame, ce, hce, hO⟩ := X₁.ctorThrowS hexec htr (own := own) (cls := cls) (names := names) (ic := ic) hown' hcls hnames h (fun x hx => nomatch hx) hfX hkX hcellA (by rw [hhp, hT]; exact Nat.le_refl _) (msg := .ref sa) rfl
    (g := { method := m, pc := pc + 7, locals := ls, stack := .ref sa :: .ref T.heap.size :: .ref T.heap.size :: rest, locked := none }) rfl hsize rfl rfl (rest := rest) rfl
    (by rw [hb]; exact d7) (by rw [hb]; exact d10) hout hRframes (by simp only [List.map_cons, List.sum_cons, hcat]; omega) hlocks
  obtain ⟨f1, f2⟩ := vx_frame hsame
  rw [hhp] at f1 f2
  have hWs : s.WarmedH U.vm := State.WarmedH.trans hW0 hW
  have hcl : s.vm.findClass cls = some ce.cls := by
    have h9 := hO.cls
    rw [hvm] at h9
    exact h9
  have hall : s.sameButNew ({ U with vm := s.vm } : State) locs mc ms := by
    subst hA
    obtain ⟨e1, e2⟩ := hsame
    rw [State.setFrames_setFrames] at e1
    have h2 : (T.setVm s.vm).sameButNew ({ U with vm := s.vm } : State) [] (0 + 1) (0 + 6) := ⟨e1, e2⟩
    have h3 := X.same.trans h2
    rw [List.append_nil] at h3
    exact h3.mono hc hs
  refine ⟨U, ?_, .threw T.heap.size, hrun, hend, Or.inr ⟨T.heap.size, rfl, cls, ce, locs, hx U hWs.alike f1 (fun q hq => f2 q hq (fun z hz => nomatch hz)), hce, hO.vm, hcl, hWs, hall, hf⟩⟩
  refine st1 _ ?_
  show Steps p.tables e below (T1.setTop { method := m, pc := pc + 3, locals := ls, stack := .ref T.heap.size :: rest, locked := none }) _
  jvm_step X₁.here [X₁.here.top, hexec, d3', Value.category]
  exact X₁.ldcStringW hexec (own := own) (text := text) (index := is) (a := sa) hown' hstr'.1 hstr'.2
    (g := { method := m, pc := pc + 4, locals := ls, stack := .ref T.heap.size :: .ref T.heap.size :: rest, locked := none }) rfl d4' _ hsteps
end Ends
section Bodies
variable {l : Launch}
theorem vx_ofW {y : MethodName} {ws ws' : List Cond} {rm : Room} {Pc : Array Value → State → Prop} {Qc : Array Value → State → Outcome → State → Prop} {XC : String → State → State → Prop} {mc ms : Nat} {free : Addr → Prop} {cc : ByteArray} {maxL : Nat} {ret : Option FieldType}
    (hy : plainName y.cls = true) (hw : ws = Cond.code y cc maxL ret :: ws')
    (body : ∀ p e s m args below meth c s₁, BodyLoose p l y (headSpec ws rm) cc maxL ret e s m args below meth c s₁ → c.maxLocals = maxL → (∀ x ∈ c.exceptionTable.toList, False) → Pc args s →
      W p l e (headSpec ws rm).room s m args below meth c s.heap [] 0 0 (vx_MQ below Qc XC args s mc ms free) (entryFrame m args maxL)) : vx_Met l y ws rm Pc Qc XC mc ms free := by
  refine MetFree.of_bodyS (code := cc) (maxLocals := maxL) (ret := ret) hy ?_ ?_
  · intro args s m h hn
    obtain ⟨meth, c, h1, h2, h3, h4, h5, h6, -, -⟩ := Cond.code_spec hn (atoms_spec (ws := ws) h _ (by rw [hw]; exact List.mem_cons_self))
    exact ⟨meth, c, h1, h2, h3, h4, h5, h6⟩
  · intro p e s m args below meth c s₁ B hml hP _
    have hh0 : s₁.heap = s.heap := by rw [B.state]; rfl
    have ht : ∀ x ∈ c.exceptionTable.toList, False := by
      obtain ⟨meth9, c9, h1, h2, -, -, -, -, h7, -⟩ := Cond.code_spec B.named (atoms_spec (ws := ws) B.pre _ (by rw [hw]; exact List.mem_cons_self))
      cases Option.some.inj (h1.symm.trans B.method)
      cases Option.some.inj (h2.symm.trans (Stand.of_body B).code)
      intro x hx
      rw [Array.isEmpty_iff.mp h7] at hx
      cases hx
    obtain ⟨t, a1, o, b1, b2, b3⟩ := body p e s m args below meth c s₁ B hml ht hP s₁ hh0 (Stand.of_body B)
    exact ⟨t, o, a1, b1, b2, b3⟩
/-- the table of a body with handlers -/
theorem vx_table {p : Program} {x y : MethodName} {S : Spec} {cc bytes : ByteArray} {maxL maxL' : Nat} {ret ret' : Option FieldType} {e : Env} {s s₁ : State} {m : MethodId} {args : Array Value} {below : List Frame} {meth : Method} {c : Code} {hh : List (Nat × Nat × Nat × Nat)}
    (B : BodyLoose p l y S cc maxL ret e s m args below meth c s₁) (h : (Cond.codeWith y bytes maxL' ret' hh).before args s = true) : c.exceptionTable.toList = tableOf hh := by
  obtain ⟨m9, meth9, c9, hn9, h1, h2, -, -, h6, -⟩ := Cond.codeWith_spec h
  cases Option.some.inj (hn9.symm.trans B.named)
  cases Option.some.inj (h1.symm.trans B.method)
  cases Option.some.inj (h2.symm.trans (Stand.of_body B).code)
  rw [← h6, table_eq]
end Bodies
end VXA
/-! ===== END ===== -/
/-! ===== BEGIN a static call of a method with an exception table ===== -/
section VXS
variable {p : Program} {l : Launch} {e : Env} {R : Room} {s : State} {m : MethodId} {args : Array Value} {below : List Frame} {meth : Method} {c : Code} {T : State} {H : Heap} {locs : List Loc} {cells slots : Nat}
abbrev vx_CSW (R : Room) (s : State) (args : Array Value) (own : String) (index : Nat) (y : MethodName) (bytes : ByteArray) (maxL : Nat) (ret : Option FieldType) (hh : List (Nat × Nat × Nat × Nat)) (ws : List Cond) (rm : Room) (mc ms n : Nat) : Prop :=
  (rm.cells = mc ∧ rm.slots = ms ∧ rm.frames + 1 ≤ R.frames ∧ 8 + (maxL + 11) + rm.locals ≤ R.locals ∧ (∀ w ∈ ws, ∀ (a' : Array Value) (U : State), s.WarmedH U.vm → w.before a' U = true) ∧ Cond.codeWith y bytes maxL ret hh ∈ ws) ∧
  (Cond.codeWith y bytes maxL ret hh).before args s = true ∧ (Cond.initialized y.cls).before args s = true ∧ (y.cls ≠ "java/lang/invoke/MethodHandle" ∧ y.cls ≠ "java/lang/invoke/VarHandle") ∧
  (∀ sig, parseMethodDescriptor y.desc = some sig → n = sig.parameters.length) ∧ (Cond.methodLink own index y).before args s = true ∧ (Cond.static y).before args s = true
theorem vx_cwSW {own : String} {index maxL mc ms : Nat} {y : MethodName} {bytes : ByteArray} {ret : Option FieldType} {hh : List (Nat × Nat × Nat × Nat)} {Ts ws ws' : List Cond} {rm : Room} (n : Nat) (ht : ∀ w ∈ Ts, w.before args s = true) (hT : GoodIn Ts (va_wsS own index y ws)) (hw : ws = Cond.codeWith y bytes maxL ret hh :: ws') (hrc : rm.cells = mc) (hrs : rm.slots = ms)
    (hd : y.cls ≠ "java/lang/invoke/MethodHandle" ∧ y.cls ≠ "java/lang/invoke/VarHandle" ∧ (parseMethodDescriptor y.desc).map (fun d => d.parameters.length) = some n) (hR : rm.frames + 1 ≤ R.frames ∧ 8 + (maxL + 11) + rm.locals ≤ R.locals) :
    vx_CSW R s args own index y bytes maxL ret hh ws rm mc ms n := by
  have ok : ∀ w ∈ va_wsS own index y ws, w.before args s = true := fun w h => ht w (hT w h).1
  have hG : GoodIn Ts ws := fun w h => hT w (by unfold va_wsS; exact List.mem_append_right _ h)
  have hc : Cond.codeWith y bytes maxL ret hh ∈ ws := by rw [hw]; exact List.mem_cons_self
  refine ⟨⟨hrc, hrs, hR.1, hR.2, pay_in ht hG, hc⟩, ht _ (hG _ hc).1, ok _ (by simp [va_wsS]), ⟨hd.1, hd.2.1⟩, fun sig h => ?_, ok _ (by simp [va_wsS]), ok _ (by simp [va_wsS])⟩
  have h2 := hd.2.2
  rw [h] at h2
  exact (Option.some.inj h2).symm
theorem vx_callSW (X : Stand p l e R s m args below meth c T locs cells slots) (hexec : p.tables.exec = Jvm.exec) {own : String} {index : Nat} {y : MethodName} {bytes : ByteArray} {maxL : Nat} {ret : Option FieldType} {hh : List (Nat × Nat × Nat × Nat)}
    (hown : s.vm.findClass own = some m.cls) (hlink : (Cond.methodLink own index y).before args s = true) (hstat : (Cond.static y).before args s = true) (hinit : (Cond.initialized y.cls).before args s = true)
    (hcode : (Cond.codeWith y bytes maxL ret hh).before args s = true) (hy : y.cls ≠ "java/lang/invoke/MethodHandle" ∧ y.cls ≠ "java/lang/invoke/VarHandle")
    {W9 : Nat} {Pre : Pt → Array Value → Prop} {Post : Pt → Array Value → Option Value → Pt → Prop} (hK : Back l R p e below s args y 3 W9 Pre Post)
    {g : JFrame} (hg : g.method = m) (hsize : g.locals.size = c.maxLocals) {argsL rest : List Value} (hlen : ∀ sig, parseMethodDescriptor y.desc = some sig → argsL.length = sig.parameters.length)
    (hstack : g.stack = argsL.reverse ++ rest) (hW : 2 * g.monitorRoom + (rest.map fun v => v.category).sum ≤ W9) (hdg : decode c.code g.pc = .ok (.invokestatic index, 3))
    (hpre : ∀ vm₁, s.WarmedH vm₁ → Pre ⟨T.setVm vm₁, locs, cells, slots⟩ argsL.toArray) :
    ∃ (v : Option Value) (vm₁ : Vm) (B : Pt), s.WarmedH vm₁ ∧ Stand p l e R s m args below meth c B.U B.locs B.cells B.slots ∧ Post ⟨T.setVm vm₁, locs, cells, slots⟩ argsL.toArray v B ∧
      ∀ target, Steps p.tables e below (B.U.setTop { g with pc := g.pc + 3, stack := v.toList ++ rest }) target → Steps p.tables e below (T.setTop g) target := by
  obtain ⟨mk, methM, cM, hnamed, hmethM, -, -, -, -, -, -, hsigM⟩ := Cond.codeWith_spec hcode
  have hstatic : methM.isStatic = true := Cond.static_spec hnamed hmethM hstat
  obtain ⟨kP, hkP, -⟩ := className_of_methodNamed hnamed
  have hinitP : kP.init = .initialized := Cond.initialized_spec (findClass_of_methodNamed hnamed) hkP hinit
  obtain ⟨vm₁, X₁, hstep₁⟩ := X.invokestatic hexec hown hlink hnamed hmethM hstatic hkP hinitP hy (g := g) hg (argsL := argsL) (rest := rest) (hlen _ hsigM) hstack hdg
  obtain ⟨v, B, X', hpost, hsteps⟩ := hK m meth c ⟨T.setVm vm₁, locs, cells, slots⟩ { g with stack := rest } (.invokestatic index) mk argsL.toArray X₁ hg hsize hdg hW (X₁.named hnamed) (hpre vm₁ X₁.warmed)
  exact ⟨v, vm₁, B, X₁.warmed, X', hpost, fun target h => hstep₁ _ fun acts => by rw [doInvoke_state]; exact hsteps.trans h⟩
theorem vx_runSW {y : MethodName} {bytes cc : ByteArray} {maxL nL mc ms n index : Nat} {ret : Option FieldType} {hh : List (Nat × Nat × Nat × Nat)} {ws : List Cond} {rm : Room} {Pc : Array Value → State → Prop} {Qc : Array Value → State → Outcome → State → Prop} {free : Addr → Prop} {Ts : List Cond} {own : String} {As rest : List Value} {g : JFrame}
    (S : CallFix p m c cc nL s args Ts own) (hM : Met l y ws rm Pc Qc mc ms free) (cw : vx_CSW R s args own index y bytes maxL ret hh ws rm mc ms n) (hp : PreS s H Pc As)
    (hg : g.method = m) (hn : As.length = n) (hsize : g.locals.size = nL) (hstack : g.stack = As.reverse ++ rest) (hW : 2 * g.monitorRoom + (rest.map fun v => v.category).sum ≤ 8) (hdg : decode cc g.pc = .ok (.invokestatic index, 3)) (hf : cells + mc ≤ R.cells ∧ slots + ms ≤ R.slots) :
    va_Run p l e R s m args below meth c H locs cells slots mc ms g rest (Qc As.toArray) (free) := by
  obtain ⟨⟨hrc, hrs, hfr, hlo, hws, hcw⟩, hcode, hini, hy, hlen, hl, hstt⟩ := cw
  have hK : Back l R p e below s args y 3 8 (PreOf R mc ms Pc) (PostOf Qc mc ms free) := va_backW (hh := hh) (bytes := bytes) (maxL := maxL) (ret := ret) hM hp.1 hrc hrs hfr hlo hws hcw (fun a' U hW => word_at hW (Or.inl (by first | rfl | simp [Cond.onTables, Cond.keeps, Cond.steady])) hini)
  obtain ⟨hx, hb, hml, ho, -⟩ := S
  intro T hT X
  obtain ⟨v, vm₁, ⟨U', l2, c2, s2⟩, hW₁, X', ⟨g', mk, t, L, e1, e2, hq, h1, hL, h2, h3⟩, st⟩ := vx_callSW X hx (hh := hh) (bytes := bytes) (maxL := maxL) (ret := ret) ho hl hstt hini hcode hy hK hg (hsize.trans hml.symm) (argsL := As) (rest := rest) (fun sig h => hn.trans (hlen sig h)) hstack hW (by rw [hb]; exact hdg)
    (fun vm₁ hW₁ => ⟨hf.1, hf.2, hp.2 (T.setVm vm₁) hT hW₁⟩)
  dsimp only [Pt.U, Pt.locs, Pt.cells, Pt.slots] at X' e1 e2 h1 h2 h3 st
  subst h1; subst h2; subst h3
  exact ⟨v, (T.setVm vm₁).calling g' mk As.toArray, t, U', L, hT, X', hL, e1, e2, hq, st⟩
/-- not caught here, past rows that name other classes: it goes on to the caller -/
theorem vx_lt {D : va_G} {cl : List vw_C} {ws : va_W} {H1 : Heap} (h : va_P D cl ws H1) {k : Nat} {q : Nat × va_E} (hk : ws[k]? = some q) : q.1 < H1.size := (h k q hk).lt
end VXS
/-! ===== END ===== -/
/-! ===== BEGIN methods with a table of their own: called by a name, returning or throwing ===== -/
section VXH
/-! vx_backW, vx_callVX, vx_callSX, vx_callVW, vx_runVW, vx_runVX, vx_runSX, vx_ofWH follow the same proofs as their sisters above (Free/Laws.lean, Shelf42/LK1.lean); vx_outP calls Shelf42/NT130.lean (outThrough). -/
section
variable {l : Launch} {R : Room} {p : Program} {e : Env} {below : List Frame} {s : State} {sargs : Array Value} {y : MethodName} {len W9 : Nat}
theorem vx_backW {ws : List Cond} {rm : Room} {Pc : Array Value → State → Prop} {Qc : Array Value → State → Outcome → State → Prop} {XC : String → State → State → Prop} {mc ms : Nat} {free : Addr → Prop} {bytes : ByteArray} {maxL : Nat} {ret : Option FieldType} {hh : List (Nat × Nat × Nat × Nat)}
    (hM : vx_Met l y ws rm Pc Qc XC mc ms free) (hblind : FrameBlind Pc) (hrc : rm.cells = mc) (hrs : rm.slots = ms)
    (hframes : rm.frames + 1 ≤ R.frames) (hlocals : W9 + (maxL + 11) + rm.locals ≤ R.locals)
    (hws : ∀ w ∈ ws, ∀ a' U, s.WarmedH U.vm → w.before a' U = true) (hcode : Cond.codeWith y bytes maxL ret hh ∈ ws) (hinit : ∀ a' U, s.WarmedH U.vm → (Cond.initialized y.cls).before a' U = true) :
    vx_Back l R p e below s sargs y len W9 (PreOf R mc ms Pc) (PostOf Qc mc ms free) (vx_Post XC mc ms free) := by
  intro m meth c A g ig mk a X hg hsize hdg hW hn hp
  have h1 : (headSpec ws rm).pre.before a A.U = true := atoms_intro fun w hw => hws w hw _ _ X.warmed
  have h2 : (Cond.codeWith y bytes maxL ret hh).before a A.U = true := hws _ hcode _ _ X.warmed
  have h3 : (Cond.initialized y.cls).before a A.U = true := hinit _ _ X.warmed
  have h4 : A.cells + (headSpec ws rm).room.cells ≤ R.cells := by rw [show (headSpec ws rm).room.cells = mc from hrc]; exact hp.1
  have h5 : A.slots + (headSpec ws rm).room.slots ≤ R.slots := by rw [show (headSpec ws rm).room.slots = ms from hrs]; exact hp.2.1
  have hPc : Pc a (A.U.calling g mk a) := hblind _ _ _ _ hp.2.2
  obtain ⟨U, Ls, c0, s0⟩ := A
  dsimp only [Pt.U, Pt.locs, Pt.cells, Pt.slots] at h1 h2 h3 h4 h5 X hn hPc ⊢
  obtain ⟨m9, methY, cY, hn9, hmY, hcY, -, hlY, -⟩ := Cond.codeWith_spec h2
  cases Option.some.inj (hn9.symm.trans hn)
  obtain ⟨kY, hkY, -⟩ := className_of_methodNamed hn
  have hinitY : kY.init = .initialized := Cond.initialized_spec (findClass_of_methodNamed hn) hkY h3
  have h : At U g.method c below := by rw [hg]; exact X.here
  have hlocals9 : W9 + (maxL + 11) + (headSpec ws rm).room.locals ≤ R.locals := hlocals
  have happ : (headSpec ws rm).appliesLoose y e.platform (U.calling g mk a) = true :=
    Spec.appliesLoose_calling (g := g) h hdg hn hkY hinitY
      (X.room_calling (g := g) (R' := (headSpec ws rm).room) hsize hmY hcY hframes (by rw [hlY]; omega) h4 h5) h1
  obtain ⟨mid, hmid⟩ := h.above
  have hfr : (U.setTop g).frames = (.java g :: mid) ++ below := by rw [State.frames_setTop' g h.top, hmid]; rfl
  obtain ⟨o, s₂, hsteps, -, hend, hq⟩ := Steps.callFree hM p X.admits X.cas X.clock (acts := []) hfr happ hPc trivial
  have hq' : vx_Q Qc XC mc ms free a (U.calling g mk a) o s₂ := hq
  rw [State.frames_setTop' g h.top] at hend
  obtain ⟨g₀, hg0⟩ := Option.isSome_iff_exists.mp h.top
  obtain ⟨r, hr⟩ := State.topJava?_eq_some.mp hg0
  have hr' : (({ U with heap := s₂.heap, slotsUsed := s₂.slotsUsed } : State).setVm s₂.vm).frames = .java g₀ :: r := hr
  rcases hq' with ⟨hqc, L, hfe, hL⟩ | ⟨q, rfl, E, ce, L, hx, hce, hcv, hcl, hW₂, hsm, hL⟩
  · obtain ⟨⟨v, rfl⟩, hW₂, e2, q2, q3, q4, q5, q6⟩ := id hfe
    have e3 : s₂ = ({ (U.calling g mk a).setFrames s₂.frames with heap := s₂.heap, slotsUsed := s₂.slotsUsed } : State).setVm s₂.vm := by
      have : s₂ = ({ s₂ with vm := (U.calling g mk a).vm } : State).setVm s₂.vm := rfl
      rw [e2] at this
      exact this
    obtain ⟨c₂, i₂, len₂, hc₂, hd₂, hf₂⟩ := hend
    have hW' : U.WarmedH s₂.vm := hW₂
    have hcc : c₂ = c := by
      have h1 : s₂.code? g.method = U.code? g.method := by
        rw [State.code?_eq, State.code?_eq, hW'.alike.method?]
      exact Option.some.inj (hc₂.symm.trans (h1.trans h.code))
    subst hcc
    have hlen : len₂ = len := by rw [hdg] at hd₂; cases hd₂; rfl
    subst hlen
    have hs₂ : s₂ = (({ U with heap := s₂.heap, slotsUsed := s₂.slotsUsed } : State).setVm s₂.vm).setTop { g with pc := g.pc + len₂, stack := v.toList ++ g.stack } := by
      refine e3.trans ?_
      rw [hf₂, State.calling_eq h.top, State.setFrames_setFrames, State.setTop_of_frames _ hr', hr]
      rfl
    have hsame : U.sameButNew ({ U with heap := s₂.heap, slotsUsed := s₂.slotsUsed } : State) L mc ms := by
      refine ⟨?_, q2, q3, q4, q5, q6⟩
      obtain ⟨t, ht, -⟩ := State.frames_cons hr
      show ({ U with heap := s₂.heap, slotsUsed := s₂.slotsUsed } : State) = { U.setFrames U.frames with heap := s₂.heap, slotsUsed := s₂.slotsUsed }
      rw [State.setFrames_self ht]
    subst hg
    refine Or.inl ⟨v, ⟨(({ U with heap := s₂.heap, slotsUsed := s₂.slotsUsed } : State).setVm s₂.vm), Ls ++ L, c0 + mc, s0 + ms⟩,
      ⟨X.admits, X.cas, X.clock, X.frames, X.room, X.hears, X.method, X.code, (X.here.setHeapUsed s₂.heap s₂.slotsUsed).setVm hW'.alike, X.tail, State.WarmedH.trans X.warmed hW', X.limits, X.bytes, X.same.trans (hsame.setVm s.vm)⟩,
      ⟨g, mk, s₂, L, rfl, rfl, hqc, rfl, hL, rfl, rfl⟩, ?_⟩
    show Steps p.tables e below _ ((({ U with heap := s₂.heap, slotsUsed := s₂.slotsUsed } : State).setVm s₂.vm).setTop { g with pc := g.pc + len₂, stack := v.toList ++ g.stack })
    rw [← hs₂]
    exact hsteps
  · obtain ⟨e2, q2, q3, q4, q5, q6⟩ := id hsm
    have e3 : s₂ = ({ (U.calling g mk a).setFrames s₂.frames with heap := s₂.heap, slotsUsed := s₂.slotsUsed } : State).setVm s₂.vm := by
      have : s₂ = ({ s₂ with vm := (U.calling g mk a).vm } : State).setVm s₂.vm := rfl
      rw [e2] at this
      exact this
    have hf₂ : s₂.frames = .throwing q :: .java g :: U.frames.tail := hend
    have hW' : U.WarmedH s₂.vm := hW₂
    have hs₂ : s₂ = ((({ U with heap := s₂.heap, slotsUsed := s₂.slotsUsed } : State).setVm s₂.vm).setTop g).pushFrame (.throwing q) := by
      refine e3.trans ?_
      rw [hf₂, State.calling_eq h.top, State.setFrames_setFrames, State.pushFrame, State.frames_setTop _ hr', State.setTop_of_frames _ hr', State.setFrames_setFrames, hr]
      rfl
    have hsame : U.sameButNew ({ U with heap := s₂.heap, slotsUsed := s₂.slotsUsed } : State) L mc ms := by
      refine ⟨?_, q2, q3, q4, q5, q6⟩
      obtain ⟨t, ht, -⟩ := State.frames_cons hr
      show ({ U with heap := s₂.heap, slotsUsed := s₂.slotsUsed } : State) = { U.setFrames U.frames with heap := s₂.heap, slotsUsed := s₂.slotsUsed }
      rw [State.setFrames_self ht]
    subst hg
    refine Or.inr ⟨q, ⟨(({ U with heap := s₂.heap, slotsUsed := s₂.slotsUsed } : State).setVm s₂.vm), Ls ++ L, c0 + mc, s0 + ms⟩,
      ⟨X.admits, X.cas, X.clock, X.frames, X.room, X.hears, X.method, X.code, (X.here.setHeapUsed s₂.heap s₂.slotsUsed).setVm hW'.alike, X.tail, State.WarmedH.trans X.warmed hW', X.limits, X.bytes, X.same.trans (hsame.setVm s.vm)⟩,
      ⟨g, mk, s₂, L, E, ce, rfl, rfl, hx, hce, hcv, hcl, rfl, hL, rfl, rfl⟩, ?_⟩
    show Steps p.tables e below _ (((({ U with heap := s₂.heap, slotsUsed := s₂.slotsUsed } : State).setVm s₂.vm).setTop g).pushFrame (.throwing q))
    rw [← hs₂]
    exact hsteps
end
variable {p : Program} {l : Launch} {e : Env} {R : Room} {s : State} {m : MethodId} {args : Array Value} {below : List Frame} {meth : Method} {c : Code} {T : State} {H : Heap} {locs : List Loc} {cells slots : Nat}
theorem vx_callVX (X : Stand p l e R s m args below meth c T locs cells slots) (hexec : p.tables.exec = Jvm.exec) {own C : String} {index : Nat} {y : MethodName} {bytes : ByteArray} {maxL : Nat} {ret : Option FieldType} {hh : List (Nat × Nat × Nat × Nat)}
    (hown : s.vm.findClass own = some m.cls) (hlink : (Cond.methodLink own index y).before args s = true) (hinst : (Cond.instanceMethod y).before args s = true) (hsel : (Cond.selects C y y).before args s = true)
    (hcode : (Cond.codeWith y bytes maxL ret hh).before args s = true) (hy : y.cls ≠ "java/lang/invoke/MethodHandle" ∧ y.cls ≠ "java/lang/invoke/VarHandle")
    {W9 : Nat} {Pre : Pt → Array Value → Prop} {Post : Pt → Array Value → Option Value → Pt → Prop} {PostX : Pt → Array Value → Addr → Pt → Prop} (hK : vx_Back l R p e below s args y 3 W9 Pre Post PostX)
    {b : Addr} {cellB : Cell} (hcell : T.heap[b]? = some cellB) (hobj : cellB.vm.isStatics = false) (hcls : s.vm.findClass C = some cellB.cls)
    {g : JFrame} (hg : g.method = m) (hsize : g.locals.size = c.maxLocals) {argsL rest : List Value} (hlen : ∀ sig, parseMethodDescriptor y.desc = some sig → argsL.length = sig.parameters.length)
    (hstack : g.stack = argsL.reverse ++ .ref b :: rest) (hW : 2 * g.monitorRoom + (rest.map fun v => v.category).sum ≤ W9) (hdg : decode c.code g.pc = .ok (.invokevirtual index, 3))
    (hpre : ∀ vm₁, s.WarmedH vm₁ → Pre ⟨T.setVm vm₁, locs, cells, slots⟩ (Value.ref b :: argsL).toArray) :
    (∃ (v : Option Value) (vm₁ : Vm) (B : Pt), s.WarmedH vm₁ ∧ Stand p l e R s m args below meth c B.U B.locs B.cells B.slots ∧ Post ⟨T.setVm vm₁, locs, cells, slots⟩ (Value.ref b :: argsL).toArray v B ∧
      ∀ target, Steps p.tables e below (B.U.setTop { g with pc := g.pc + 3, stack := v.toList ++ rest }) target → Steps p.tables e below (T.setTop g) target) ∨
    (∃ (q : Addr) (vm₁ : Vm) (B : Pt), s.WarmedH vm₁ ∧ Stand p l e R s m args below meth c B.U B.locs B.cells B.slots ∧ PostX ⟨T.setVm vm₁, locs, cells, slots⟩ (Value.ref b :: argsL).toArray q B ∧
      Steps p.tables e below (T.setTop g) ((B.U.setTop { g with stack := rest }).pushFrame (.throwing q))) := by
  obtain ⟨mk, methM, hnamed, hmethM, hstM, habM⟩ := Cond.instanceMethod_spec hinst
  obtain ⟨m8, methM', cM, hn8, hmethM', -, -, -, -, -, -, hsigM⟩ := Cond.codeWith_spec hcode
  cases Option.some.inj (hn8.symm.trans hnamed)
  cases hmethM.symm.trans hmethM'
  obtain ⟨c2, r2, m2, q1, q2, q3, q4, kP, hkP, hkPi⟩ := Cond.selects_spec hsel
  cases hcls.symm.trans q1
  cases (State.methodFound?_of_named hnamed hy).symm.trans q2
  cases hnamed.symm.trans q3
  have hselP : selectMethod e.platform s.vm cellB.cls mk = .method mk := by rw [Launch.admits_selectMethod X.admits]; exact q4
  obtain ⟨vm₁, X₁, hstep₁⟩ := X.invokevirtual hexec hown hlink hnamed hmethM hstM hkP hkPi hy (a := b) (cell := cellB) hcell
    (fun z h => by rw [h] at hobj; cases hobj) hselP hmethM habM hkP hkPi (g := g) hg (argsL := argsL) (rest := rest) (hlen _ hsigM) hstack hdg
  rcases hK m meth c ⟨T.setVm vm₁, locs, cells, slots⟩ { g with stack := rest } (.invokevirtual index) mk (Value.ref b :: argsL).toArray X₁ hg hsize hdg hW (X₁.named hnamed) (hpre vm₁ X₁.warmed) with ⟨v, B, X', hpost, hsteps⟩ | ⟨q, B, X', hpost, hsteps⟩
  · exact Or.inl ⟨v, vm₁, B, X₁.warmed, X', hpost, fun target h => hstep₁ _ fun acts => by rw [doInvoke_state]; exact hsteps.trans h⟩
  · exact Or.inr ⟨q, vm₁, B, X₁.warmed, X', hpost, hstep₁ _ fun acts => by rw [doInvoke_state]; exact hsteps⟩
theorem vx_callSX (X : Stand p l e R s m args below meth c T locs cells slots) (hexec : p.tables.exec = Jvm.exec) {own : String} {index : Nat} {y : MethodName} {bytes : ByteArray} {maxL : Nat} {ret : Option FieldType} {hh : List (Nat × Nat × Nat × Nat)}
    (hown : s.vm.findClass own = some m.cls) (hlink : (Cond.methodLink own index y).before args s = true) (hstat : (Cond.static y).before args s = true) (hinit : (Cond.initialized y.cls).before args s = true)
    (hcode : (Cond.codeWith y bytes maxL ret hh).before args s = true) (hy : y.cls ≠ "java/lang/invoke/MethodHandle" ∧ y.cls ≠ "java/lang/invoke/VarHandle")
    {W9 : Nat} {Pre : Pt → Array Value → Prop} {Post : Pt → Array Value → Option Value → Pt → Prop} {PostX : Pt → Array Value → Addr → Pt → Prop} (hK : vx_Back l R p e below s args y 3 W9 Pre Post PostX)
    {g : JFrame} (hg : g.method = m) (hsize : g.locals.size = c.maxLocals) {argsL rest : List Value} (hlen : ∀ sig, parseMethodDescriptor y.desc = some sig → argsL.length = sig.parameters.length)
    (hstack : g.stack = argsL.reverse ++ rest) (hW : 2 * g.monitorRoom + (rest.map fun v => v.category).sum ≤ W9) (hdg : decode c.code g.pc = .ok (.invokestatic index, 3))
    (hpre : ∀ vm₁, s.WarmedH vm₁ → Pre ⟨T.setVm vm₁, locs, cells, slots⟩ argsL.toArray) :
    (∃ (v : Option Value) (vm₁ : Vm) (B : Pt), s.WarmedH vm₁ ∧ Stand p l e R s m args below meth c B.U B.locs B.cells B.slots ∧ Post ⟨T.setVm vm₁, locs, cells, slots⟩ argsL.toArray v B ∧
      ∀ target, Steps p.tables e below (B.U.setTop { g with pc := g.pc + 3, stack := v.toList ++ rest }) target → Steps p.tables e below (T.setTop g) target) ∨
    (∃ (q : Addr) (vm₁ : Vm) (B : Pt), s.WarmedH vm₁ ∧ Stand p l e R s m args below meth c B.U B.locs B.cells B.slots ∧ PostX ⟨T.setVm vm₁, locs, cells, slots⟩ argsL.toArray q B ∧
      Steps p.tables e below (T.setTop g) ((B.U.setTop { g with stack := rest }).pushFrame (.throwing q))) := by
  obtain ⟨mk, methM, cM, hnamed, hmethM, -, -, -, -, -, -, hsigM⟩ := Cond.codeWith_spec hcode
  have hstatic : methM.isStatic = true := Cond.static_spec hnamed hmethM hstat
  obtain ⟨kP, hkP, -⟩ := className_of_methodNamed hnamed
  have hinitP : kP.init = .initialized := Cond.initialized_spec (findClass_of_methodNamed hnamed) hkP hinit
  obtain ⟨vm₁, X₁, hstep₁⟩ := X.invokestatic hexec hown hlink hnamed hmethM hstatic hkP hinitP hy (g := g) hg (argsL := argsL) (rest := rest) (hlen _ hsigM) hstack hdg
  rcases hK m meth c ⟨T.setVm vm₁, locs, cells, slots⟩ { g with stack := rest } (.invokestatic index) mk argsL.toArray X₁ hg hsize hdg hW (X₁.named hnamed) (hpre vm₁ X₁.warmed) with ⟨v, B, X', hpost, hsteps⟩ | ⟨q, B, X', hpost, hsteps⟩
  · exact Or.inl ⟨v, vm₁, B, X₁.warmed, X', hpost, fun target h => hstep₁ _ fun acts => by rw [doInvoke_state]; exact hsteps.trans h⟩
  · exact Or.inr ⟨q, vm₁, B, X₁.warmed, X', hpost, hstep₁ _ fun acts => by rw [doInvoke_state]; exact hsteps⟩
theorem vx_callVW (X : Stand p l e R s m args below meth c T locs cells slots) (hexec : p.tables.exec = Jvm.exec) {own C : String} {index : Nat} {y : MethodName} {bytes : ByteArray} {maxL : Nat} {ret : Option FieldType} {hh : List (Nat × Nat × Nat × Nat)}
    (hown : s.vm.findClass own = some m.cls) (hlink : (Cond.methodLink own index y).before args s = true) (hinst : (Cond.instanceMethod y).before args s = true) (hsel : (Cond.selects C y y).before args s = true)
    (hcode : (Cond.codeWith y bytes maxL ret hh).before args s = true) (hy : y.cls ≠ "java/lang/invoke/MethodHandle" ∧ y.cls ≠ "java/lang/invoke/VarHandle")
    {W9 : Nat} {Pre : Pt → Array Value → Prop} {Post : Pt → Array Value → Option Value → Pt → Prop} (hK : Back l R p e below s args y 3 W9 Pre Post)
    {b : Addr} {cellB : Cell} (hcell : T.heap[b]? = some cellB) (hobj : cellB.vm.isStatics = false) (hcls : s.vm.findClass C = some cellB.cls)
    {g : JFrame} (hg : g.method = m) (hsize : g.locals.size = c.maxLocals) {argsL rest : List Value} (hlen : ∀ sig, parseMethodDescriptor y.desc = some sig → argsL.length = sig.parameters.length)
    (hstack : g.stack = argsL.reverse ++ .ref b :: rest) (hW : 2 * g.monitorRoom + (rest.map fun v => v.category).sum ≤ W9) (hdg : decode c.code g.pc = .ok (.invokevirtual index, 3))
    (hpre : ∀ vm₁, s.WarmedH vm₁ → Pre ⟨T.setVm vm₁, locs, cells, slots⟩ (Value.ref b :: argsL).toArray) :
    ∃ (v : Option Value) (vm₁ : Vm) (B : Pt), s.WarmedH vm₁ ∧ Stand p l e R s m args below meth c B.U B.locs B.cells B.slots ∧ Post ⟨T.setVm vm₁, locs, cells, slots⟩ (Value.ref b :: argsL).toArray v B ∧
      ∀ target, Steps p.tables e below (B.U.setTop { g with pc := g.pc + 3, stack := v.toList ++ rest }) target → Steps p.tables e below (T.setTop g) target := by
  obtain ⟨mk, methM, hnamed, hmethM, hstM, habM⟩ := Cond.instanceMethod_spec hinst
  obtain ⟨m8, methM', cM, hn8, hmethM', -, -, -, -, -, -, hsigM⟩ := Cond.codeWith_spec hcode
  cases Option.some.inj (hn8.symm.trans hnamed)
  cases hmethM.symm.trans hmethM'
  obtain ⟨c2, r2, m2, q1, q2, q3, q4, kP, hkP, hkPi⟩ := Cond.selects_spec hsel
  cases hcls.symm.trans q1
  cases (State.methodFound?_of_named hnamed hy).symm.trans q2
  cases hnamed.symm.trans q3
  have hselP : selectMethod e.platform s.vm cellB.cls mk = .method mk := by rw [Launch.admits_selectMethod X.admits]; exact q4
  obtain ⟨vm₁, X₁, hstep₁⟩ := X.invokevirtual hexec hown hlink hnamed hmethM hstM hkP hkPi hy (a := b) (cell := cellB) hcell
    (fun z h => by rw [h] at hobj; cases hobj) hselP hmethM habM hkP hkPi (g := g) hg (argsL := argsL) (rest := rest) (hlen _ hsigM) hstack hdg
  obtain ⟨v, B, X', hpost, hsteps⟩ := hK m meth c ⟨T.setVm vm₁, locs, cells, slots⟩ { g with stack := rest } (.invokevirtual index) mk (Value.ref b :: argsL).toArray X₁ hg hsize hdg hW (X₁.named hnamed) (hpre vm₁ X₁.warmed)
  exact ⟨v, vm₁, B, X₁.warmed, X', hpost, fun target h => hstep₁ _ fun acts => by rw [doInvoke_state]; exact hsteps.trans h⟩
abbrev vx_CVW (R : Room) (s : State) (args : Array Value) (own C : String) (index : Nat) (y : MethodName) (bytes : ByteArray) (maxL : Nat) (ret : Option FieldType) (hh : List (Nat × Nat × Nat × Nat)) (ws : List Cond) (rm : Room) (mc ms n : Nat) : Prop :=
  (rm.cells = mc ∧ rm.slots = ms ∧ rm.frames + 1 ≤ R.frames ∧ 8 + (maxL + 11) + rm.locals ≤ R.locals ∧ (∀ w ∈ ws, ∀ (a' : Array Value) (U : State), s.WarmedH U.vm → w.before a' U = true) ∧ Cond.codeWith y bytes maxL ret hh ∈ ws) ∧
  (Cond.codeWith y bytes maxL ret hh).before args s = true ∧ (Cond.initialized y.cls).before args s = true ∧ (y.cls ≠ "java/lang/invoke/MethodHandle" ∧ y.cls ≠ "java/lang/invoke/VarHandle") ∧
  (∀ sig, parseMethodDescriptor y.desc = some sig → n = sig.parameters.length) ∧ (Cond.methodLink own index y).before args s = true ∧ (Cond.instanceMethod y).before args s = true ∧ (Cond.selects C y y).before args s = true
theorem vx_cwVW {own C : String} {index maxL mc ms : Nat} {y : MethodName} {bytes : ByteArray} {ret : Option FieldType} {hh : List (Nat × Nat × Nat × Nat)} {Ts ws ws' : List Cond} {rm : Room} (n : Nat) (ht : ∀ w ∈ Ts, w.before args s = true) (hT : GoodIn Ts (wsV own index C y ws)) (hw : ws = Cond.codeWith y bytes maxL ret hh :: ws') (hrc : rm.cells = mc) (hrs : rm.slots = ms)
    (hd : y.cls = C ∧ y.cls ≠ "java/lang/invoke/MethodHandle" ∧ y.cls ≠ "java/lang/invoke/VarHandle" ∧ (parseMethodDescriptor y.desc).map (fun d => d.parameters.length) = some n) (hR : rm.frames + 1 ≤ R.frames ∧ 8 + (maxL + 11) + rm.locals ≤ R.locals) :
    vx_CVW R s args own C index y bytes maxL ret hh ws rm mc ms n := by
  obtain ⟨hC, hd⟩ := hd
  subst hC
  have ok : ∀ w ∈ wsV own index y.cls y ws, w.before args s = true := fun w h => ht w (hT w h).1
  have hG : GoodIn Ts ws := fun w h => hT w (by unfold wsV; exact List.mem_append_right _ h)
  have hc : Cond.codeWith y bytes maxL ret hh ∈ ws := by rw [hw]; exact List.mem_cons_self
  refine ⟨⟨hrc, hrs, hR.1, hR.2, pay_in ht hG, hc⟩, ht _ (hG _ hc).1, ok _ (by simp [wsV]), ⟨hd.1, hd.2.1⟩, fun sig h => ?_, ok _ (by simp [wsV]), ok _ (by simp [wsV]), ok _ (by simp [wsV])⟩
  have h2 := hd.2.2
  rw [h] at h2
  exact (Option.some.inj h2).symm
theorem vx_runVW {y : MethodName} {bytes cc : ByteArray} {maxL nL mc ms n index : Nat} {ret : Option FieldType} {hh : List (Nat × Nat × Nat × Nat)} {ws : List Cond} {rm : Room} {Pc : Array Value → State → Prop} {Qc : Array Value → State → Outcome → State → Prop} {free : Addr → Prop} {Ts : List Cond} {own C : String} {b : Addr} {As rest : List Value} {g : JFrame}
    (S : CallFix p m c cc nL s args Ts own) (hM : Met l y ws rm Pc Qc mc ms free) (cw : vx_CVW R s args own C index y bytes maxL ret hh ws rm mc ms n) (hp : PreV s H C b Pc As)
    (hg : g.method = m) (hn : As.length = n) (hsize : g.locals.size = nL) (hstack : g.stack = As.reverse ++ .ref b :: rest) (hW : 2 * g.monitorRoom + (rest.map fun v => v.category).sum ≤ 8) (hdg : decode cc g.pc = .ok (.invokevirtual index, 3)) (hf : cells + mc ≤ R.cells ∧ slots + ms ≤ R.slots) :
    va_Run p l e R s m args below meth c H locs cells slots mc ms g rest (Qc (Value.ref b :: As).toArray) free := by
  obtain ⟨⟨hrc, hrs, hfr, hlo, hws, hcw⟩, hcode, hini, hy, hlen, hl, hin, hse⟩ := cw
  have hK : Back l R p e below s args y 3 8 (PreOf R mc ms Pc) (PostOf Qc mc ms free) := va_backW (hh := hh) (bytes := bytes) (maxL := maxL) (ret := ret) hM hp.1 hrc hrs hfr hlo hws hcw (fun a' U hW => word_at hW (Or.inl (by first | rfl | simp [Cond.onTables, Cond.keeps, Cond.steady])) hini)
  obtain ⟨hx, hb, hml, ho, -⟩ := S
  obtain ⟨-, ⟨cellB, hcB, hoB, hclB⟩, hPc⟩ := hp
  intro T hT X
  obtain ⟨v, vm₁, ⟨U', l2, c2, s2⟩, hW₁, X', ⟨g', mk, t, L, e1, e2, hq, h1, hL, h2, h3⟩, st⟩ := vx_callVW X hx (C := C) (hh := hh) (bytes := bytes) (maxL := maxL) (ret := ret) ho hl hin hse hcode hy hK (by rw [hT]; exact hcB) hoB hclB hg (hsize.trans hml.symm) (argsL := As) (rest := rest) (fun sig h => hn.trans (hlen sig h)) hstack hW (by rw [hb]; exact hdg)
    (fun vm₁ hW₁ => ⟨hf.1, hf.2, hPc (T.setVm vm₁) hT hW₁⟩)
  dsimp only [Pt.U, Pt.locs, Pt.cells, Pt.slots] at X' e1 e2 h1 h2 h3 st
  subst h1; subst h2; subst h3
  exact ⟨v, (T.setVm vm₁).calling g' mk (Value.ref b :: As).toArray, t, U', L, hT, X', hL, e1, e2, hq, st⟩
section
variable {y : MethodName} {bytes cc : ByteArray} {maxL nL mc ms n index : Nat} {ret : Option FieldType} {ws : List Cond} {rm : Room} {Pc : Array Value → State → Prop} {Qc : Array Value → State → Outcome → State → Prop} {XC : String → State → State → Prop} {free : Addr → Prop} {Ts : List Cond} {own C : String} {b : Addr} {As rest : List Value} {g : JFrame}
theorem vx_runVX {hh : List (Nat × Nat × Nat × Nat)} (S : CallFix p m c cc nL s args Ts own) (hM : vx_Met l y ws rm Pc Qc XC mc ms free) (cw : vx_CVW R s args own C index y bytes maxL ret hh ws rm mc ms n) (hp : PreV s H C b Pc As)
    (hg : g.method = m) (hn : As.length = n) (hsize : g.locals.size = nL) (hstack : g.stack = As.reverse ++ .ref b :: rest) (hW : 2 * g.monitorRoom + (rest.map fun v => v.category).sum ≤ 8) (hdg : decode cc g.pc = .ok (.invokevirtual index, 3)) (hf : cells + mc ≤ R.cells ∧ slots + ms ≤ R.slots) :
    vx_Run p l e R s m args below meth c H locs cells slots mc ms g rest (Qc (Value.ref b :: As).toArray) XC free := by
  obtain ⟨⟨hrc, hrs, hfr, hlo, hws, hcw⟩, hcode, hini, hy, hlen, hl, hin, hse⟩ := cw
  have hK : vx_Back l R p e below s args y 3 8 (PreOf R mc ms Pc) (PostOf Qc mc ms free) (vx_Post XC mc ms free) := vx_backW (hh := hh) (bytes := bytes) (maxL := maxL) (ret := ret) hM hp.1 hrc hrs hfr hlo hws hcw (fun a' U hW => word_at hW (Or.inl (by first | rfl | simp [Cond.onTables, Cond.keeps, Cond.steady])) hini)
  obtain ⟨hx, hb, hml, ho, -⟩ := S
  obtain ⟨-, ⟨cellB, hcB, hoB, hclB⟩, hPc⟩ := hp
  intro T hT X
  rcases vx_callVX X hx (C := C) (hh := hh) (bytes := bytes) (maxL := maxL) (ret := ret) ho hl hin hse hcode hy hK (by rw [hT]; exact hcB) hoB hclB hg (hsize.trans hml.symm) (argsL := As) (rest := rest) (fun sig h => hn.trans (hlen sig h)) hstack hW (by rw [hb]; exact hdg)
    (fun vm₁ hW₁ => ⟨hf.1, hf.2, hPc (T.setVm vm₁) hT hW₁⟩) with ⟨v, vm₁, ⟨U', l2, c2, s2⟩, hW₁, X', ⟨g', mk, t, L, e1, e2, hq, h1, hL, h2, h3⟩, st⟩ | ⟨q, vm₁, ⟨U', l2, c2, s2⟩, hW₁, X', ⟨g', mk, t, L, E, ce, e1, e2, hq, hce, hcv, hcl, h1, hL, h2, h3⟩, st⟩
  · dsimp only [Pt.U, Pt.locs, Pt.cells, Pt.slots] at X' e1 e2 h1 h2 h3 st
    subst h1; subst h2; subst h3
    exact Or.inl ⟨v, (T.setVm vm₁).calling g' mk (Value.ref b :: As).toArray, t, U', L, hT, X', hL, e1, e2, hq, st⟩
  · dsimp only [Pt.U, Pt.locs, Pt.cells, Pt.slots] at X' e1 e2 h1 h2 h3 st hcl
    subst h1; subst h2; subst h3
    exact Or.inr ⟨q, (T.setVm vm₁).calling g' mk (Value.ref b :: As).toArray, t, U', L, E, ce, hT, X', hL, e1, e2, hq, hce, hcv, vx_cls hW₁ hcl, st⟩
theorem vx_runSX {hh : List (Nat × Nat × Nat × Nat)} (S : CallFix p m c cc nL s args Ts own) (hM : vx_Met l y ws rm Pc Qc XC mc ms free) (cw : vx_CSW R s args own index y bytes maxL ret hh ws rm mc ms n) (hp : PreS s H Pc As)
    (hg : g.method = m) (hn : As.length = n) (hsize : g.locals.size = nL) (hstack : g.stack = As.reverse ++ rest) (hW : 2 * g.monitorRoom + (rest.map fun v => v.category).sum ≤ 8) (hdg : decode cc g.pc = .ok (.invokestatic index, 3)) (hf : cells + mc ≤ R.cells ∧ slots + ms ≤ R.slots) :
    vx_Run p l e R s m args below meth c H locs cells slots mc ms g rest (Qc As.toArray) XC free := by
  obtain ⟨⟨hrc, hrs, hfr, hlo, hws, hcw⟩, hcode, hini, hy, hlen, hl, hstt⟩ := cw
  have hK : vx_Back l R p e below s args y 3 8 (PreOf R mc ms Pc) (PostOf Qc mc ms free) (vx_Post XC mc ms free) := vx_backW (hh := hh) (bytes := bytes) (maxL := maxL) (ret := ret) hM hp.1 hrc hrs hfr hlo hws hcw (fun a' U hW => word_at hW (Or.inl (by first | rfl | simp [Cond.onTables, Cond.keeps, Cond.steady])) hini)
  obtain ⟨hx, hb, hml, ho, -⟩ := S
  intro T hT X
  rcases vx_callSX X hx (hh := hh) (bytes := bytes) (maxL := maxL) (ret := ret) ho hl hstt hini hcode hy hK hg (hsize.trans hml.symm) (argsL := As) (rest := rest) (fun sig h => hn.trans (hlen sig h)) hstack hW (by rw [hb]; exact hdg)
    (fun vm₁ hW₁ => ⟨hf.1, hf.2, hp.2 (T.setVm vm₁) hT hW₁⟩) with ⟨v, vm₁, ⟨U', l2, c2, s2⟩, hW₁, X', ⟨g', mk, t, L, e1, e2, hq, h1, hL, h2, h3⟩, st⟩ | ⟨q, vm₁, ⟨U', l2, c2, s2⟩, hW₁, X', ⟨g', mk, t, L, E, ce, e1, e2, hq, hce, hcv, hcl, h1, hL, h2, h3⟩, st⟩
  · dsimp only [Pt.U, Pt.locs, Pt.cells, Pt.slots] at X' e1 e2 h1 h2 h3 st
    subst h1; subst h2; subst h3
    exact Or.inl ⟨v, (T.setVm vm₁).calling g' mk As.toArray, t, U', L, hT, X', hL, e1, e2, hq, st⟩
  · dsimp only [Pt.U, Pt.locs, Pt.cells, Pt.slots] at X' e1 e2 h1 h2 h3 st hcl
    subst h1; subst h2; subst h3
    exact Or.inr ⟨q, (T.setVm vm₁).calling g' mk As.toArray, t, U', L, E, ce, hT, X', hL, e1, e2, hq, hce, hcv, vx_cls hW₁ hcl, st⟩
end
end VXH
theorem vx_ofWH {l : Launch} {y : MethodName} {ws ws' : List Cond} {rm : Room} {Pc : Array Value → State → Prop} {Qc : Array Value → State → Outcome → State → Prop} {XC : String → State → State → Prop} {mc ms : Nat} {free : Addr → Prop} {cc : ByteArray} {maxL : Nat} {ret : Option FieldType} {hh : List (Nat × Nat × Nat × Nat)}
    (hy : plainName y.cls = true) (hw : ws = Cond.codeWith y cc maxL ret hh :: ws')
    (body : ∀ p e s m args below meth c s₁, BodyLoose p l y (headSpec ws rm) cc maxL ret e s m args below meth c s₁ → c.maxLocals = maxL → Pc args s →
      W p l e (headSpec ws rm).room s m args below meth c s.heap [] 0 0 (vx_MQ below Qc XC args s mc ms free) (entryFrame m args maxL)) : vx_Met l y ws rm Pc Qc XC mc ms free := by
  refine MetFree.of_bodyS (code := cc) (maxLocals := maxL) (ret := ret) hy ?_ ?_
  · intro args s m h hn
    obtain ⟨m9, meth, c, hn9, h1, h2, h3, h4, -, h5, h6, -⟩ := Cond.codeWith_spec (atoms_spec (ws := ws) h _ (by rw [hw]; exact List.mem_cons_self))
    cases hn.symm.trans hn9
    exact ⟨meth, c, h1, h2, h3, h4, h5, h6⟩
  · intro p e s m args below meth c s₁ B hml hP _
    have hh0 : s₁.heap = s.heap := by rw [B.state]; rfl
    obtain ⟨t, a1, o, b1, b2, b3⟩ := body p e s m args below meth c s₁ B hml hP s₁ hh0 (Stand.of_body B)
    exact ⟨t, o, a1, b1, b2, b3⟩
/-! ===== END ===== -/
end
section
def RX0 : String := "LoopGroup$Channels"
def TX0 : u_T := fun k => match k with
  | 0 => ("LoopGroup$Channels", "loops", "[I", true)
  | 1 => ("LoopGroup$Channels", "sizes", "[I", true)
  | 2 => ("LoopGroup$Channels", "kinds", "[I", true)
  | 3 => ("LoopGroup$Channels", "tasks", "[I", true)
  | 4 => ("LoopGroup$Channels", "numbers", "[I", true)
  | 5 => ("LoopGroup$Channels", "count", "I", false)
  | _ => ("LoopGroup$Channels", "handlersMade", "I", false)
def tyX0 : Nat → FieldType := fun k => match k with
  | 0 => .array .int
  | 1 => .array .int
  | 2 => .array .int
  | 3 => .array .int
  | 4 => .array .int
  | 5 => .int
  | _ => .int
abbrev wsX00 : List Cond := u_ws RX0 TX0 7
theorem nmX0 : ∀ a, a < 7 → ∀ b, b < 7 → a ≠ b → (TX0 a).2.1 ≠ (TX0 b).2.1 := by decide +kernel
theorem tyX0_ok : ∀ k, k < 7 → parseFieldDescriptor (TX0 k).2.2.1 = some (tyX0 k) := by decide +kernel
abbrev cX0_init : ByteArray := prog_2_method_1_code
def yX0_init : MethodName := ⟨RX0, "<init>", "()V"⟩
abbrev cX0_has : ByteArray := prog_2_method_2_code
def yX0_has : MethodName := ⟨RX0, "has", "(I)Z"⟩
abbrev cX0_addPair : ByteArray := prog_2_method_3_code
def yX0_addPair : MethodName := ⟨RX0, "addPair", "(II)I"⟩
abbrev cX0_peer : ByteArray := prog_2_method_4_code
def yX0_peer : MethodName := ⟨RX0, "peer", "(I)I"⟩
abbrev cX0_addHandler : ByteArray := prog_2_method_5_code
def yX0_addHandler : MethodName := ⟨RX0, "addHandler", "(III)I"⟩
abbrev cX0_removeHandler : ByteArray := prog_2_method_6_code
def yX0_removeHandler : MethodName := ⟨RX0, "removeHandler", "(II)I"⟩
def RX1 : String := "LoopGroup$Loop"
def TX1 : u_T := fun k => match k with
  | 0 => ("LoopGroup$Loop", "queue", "LLoopGroup$Queue;", true)
  | 1 => ("LoopGroup$Loop", "timers", "LLoopGroup$Timers;", true)
  | 2 => ("LoopGroup$Loop", "state", "I", false)
  | 3 => ("LoopGroup$Loop", "batch", "I", false)
  | 4 => ("LoopGroup$Loop", "awaited", "I", false)
  | 5 => ("LoopGroup$Loop", "pausedTask", "I", false)
  | 6 => ("LoopGroup$Loop", "pausedOrder", "I", false)
  | 7 => ("LoopGroup$Loop", "quiet", "I", false)
  | 8 => ("LoopGroup$Loop", "timeout", "I", false)
  | 9 => ("LoopGroup$Loop", "start", "J", false)
  | _ => ("LoopGroup$Loop", "last", "J", false)
def tyX1 : Nat → FieldType := fun k => match k with
  | 0 => .object "LoopGroup$Queue"
  | 1 => .object "LoopGroup$Timers"
  | 2 => .int
  | 3 => .int
  | 4 => .int
  | 5 => .int
  | 6 => .int
  | 7 => .int
  | 8 => .int
  | 9 => .long
  | _ => .long
abbrev wsX10 : List Cond := u_ws RX1 TX1 11
theorem nmX1 : ∀ a, a < 11 → ∀ b, b < 11 → a ≠ b → (TX1 a).2.1 ≠ (TX1 b).2.1 := by decide +kernel
theorem tyX1_ok : ∀ k, k < 11 → parseFieldDescriptor (TX1 k).2.2.1 = some (tyX1 k) := by decide +kernel
abbrev cX1_init : ByteArray := prog_3_method_1_code
def yX1_init : MethodName := ⟨RX1, "<init>", "()V"⟩
abbrev cX1_isQuiet : ByteArray := prog_3_method_2_code
def yX1_isQuiet : MethodName := ⟨RX1, "isQuiet", "(J)Z"⟩
def RX2 : String := "LoopGroup$Promises"
def TX2 : u_T := fun k => match k with
  | 0 => ("LoopGroup$Promises", "executors", "[I", true)
  | 1 => ("LoopGroup$Promises", "states", "[I", true)
  | 2 => ("LoopGroup$Promises", "values", "[I", true)
  | 3 => ("LoopGroup$Promises", "pinned", "[Z", true)
  | 4 => ("LoopGroup$Promises", "waiting", "[I", true)
  | 5 => ("LoopGroup$Promises", "listeners", "[I", true)
  | _ => ("LoopGroup$Promises", "count", "I", false)
def tyX2 : Nat → FieldType := fun k => match k with
  | 0 => .array .int
  | 1 => .array .int
  | 2 => .array .int
  | 3 => .array .boolean
  | 4 => .array .int
  | 5 => .array .int
  | _ => .int
abbrev wsX20 : List Cond := u_ws RX2 TX2 7
theorem nmX2 : ∀ a, a < 7 → ∀ b, b < 7 → a ≠ b → (TX2 a).2.1 ≠ (TX2 b).2.1 := by decide +kernel
theorem tyX2_ok : ∀ k, k < 7 → parseFieldDescriptor (TX2 k).2.2.1 = some (tyX2 k) := by decide +kernel
abbrev cX2_init : ByteArray := prog_4_method_1_code
def yX2_init : MethodName := ⟨RX2, "<init>", "()V"⟩
abbrev cX2_has : ByteArray := prog_4_method_2_code
def yX2_has : MethodName := ⟨RX2, "has", "(I)Z"⟩
abbrev cX2_add : ByteArray := prog_4_method_3_code
def yX2_add : MethodName := ⟨RX2, "add", "(I)I"⟩
abbrev cX2_isPending : ByteArray := prog_4_method_4_code
def yX2_isPending : MethodName := ⟨RX2, "isPending", "(I)Z"⟩
abbrev cX2_pin : ByteArray := prog_4_method_5_code
def yX2_pin : MethodName := ⟨RX2, "pin", "(I)Z"⟩
abbrev cX2_close : ByteArray := prog_4_method_6_code
def yX2_close : MethodName := ⟨RX2, "close", "(III)Z"⟩
abbrev cX2_takesListener : ByteArray := prog_4_method_7_code
def yX2_takesListener : MethodName := ⟨RX2, "takesListener", "(I)Z"⟩
abbrev cX2_addWaiting : ByteArray := prog_4_method_8_code
def yX2_addWaiting : MethodName := ⟨RX2, "addWaiting", "(II)V"⟩
def RX3 : String := "LoopGroup$Queue"
def TX3 : u_T := fun k => match k with
  | 0 => ("LoopGroup$Queue", "kinds", "[I", true)
  | 1 => ("LoopGroup$Queue", "numbers", "[I", true)
  | 2 => ("LoopGroup$Queue", "messages", "[I", true)
  | 3 => ("LoopGroup$Queue", "first", "I", false)
  | _ => ("LoopGroup$Queue", "size", "I", false)
def tyX3 : Nat → FieldType := fun k => match k with
  | 0 => .array .int
  | 1 => .array .int
  | 2 => .array .int
  | 3 => .int
  | _ => .int
abbrev wsX30 : List Cond := u_ws RX3 TX3 5
theorem nmX3 : ∀ a, a < 5 → ∀ b, b < 5 → a ≠ b → (TX3 a).2.1 ≠ (TX3 b).2.1 := by decide +kernel
theorem tyX3_ok : ∀ k, k < 5 → parseFieldDescriptor (TX3 k).2.2.1 = some (tyX3 k) := by decide +kernel
abbrev cX3_init : ByteArray := prog_5_method_1_code
def yX3_init : MethodName := ⟨RX3, "<init>", "()V"⟩
abbrev cX3_isFull : ByteArray := prog_5_method_2_code
def yX3_isFull : MethodName := ⟨RX3, "isFull", "()Z"⟩
abbrev cX3_put : ByteArray := prog_5_method_3_code
def yX3_put : MethodName := ⟨RX3, "put", "(III)V"⟩
abbrev cX3_dropFirst : ByteArray := prog_5_method_4_code
def yX3_dropFirst : MethodName := ⟨RX3, "dropFirst", "()V"⟩
def RX4 : String := "LoopGroup$Runner"
def TX4 : u_T := fun k => match k with
  | 0 => ("LoopGroup$Runner", "tasks", "LLoopGroup$Tasks;", true)
  | 1 => ("LoopGroup$Runner", "promises", "LLoopGroup$Promises;", true)
  | 2 => ("LoopGroup$Runner", "channels", "LLoopGroup$Channels;", true)
  | 3 => ("LoopGroup$Runner", "scheduler", "LLoopGroup$Scheduler;", true)
  | 4 => ("LoopGroup$Runner", "trace", "LLoopGroup$Trace;", true)
  | 5 => ("LoopGroup$Runner", "work", "I", false)
  | 6 => ("LoopGroup$Runner", "notifying", "I", false)
  | _ => ("LoopGroup$Runner", "firing", "I", false)
def tyX4 : Nat → FieldType := fun k => match k with
  | 0 => .object "LoopGroup$Tasks"
  | 1 => .object "LoopGroup$Promises"
  | 2 => .object "LoopGroup$Channels"
  | 3 => .object "LoopGroup$Scheduler"
  | 4 => .object "LoopGroup$Trace"
  | 5 => .int
  | 6 => .int
  | _ => .int
abbrev wsX40 : List Cond := u_ws RX4 TX4 8
theorem nmX4 : ∀ a, a < 8 → ∀ b, b < 8 → a ≠ b → (TX4 a).2.1 ≠ (TX4 b).2.1 := by decide +kernel
theorem tyX4_ok : ∀ k, k < 8 → parseFieldDescriptor (TX4 k).2.2.1 = some (tyX4 k) := by decide +kernel
abbrev cX4_init : ByteArray := prog_6_method_1_code
def yX4_init : MethodName := ⟨RX4, "<init>", "(I)V"⟩
abbrev cX4_takeStep : ByteArray := prog_6_method_2_code
def yX4_takeStep : MethodName := ⟨RX4, "takeStep", "(I)I"⟩
abbrev cX4_resume : ByteArray := prog_6_method_3_code
def yX4_resume : MethodName := ⟨RX4, "resume", "(ILLoopGroup$Loop;)I"⟩
abbrev cX4_beginFirst : ByteArray := prog_6_method_4_code
def yX4_beginFirst : MethodName := ⟨RX4, "beginFirst", "(ILLoopGroup$Loop;)V"⟩
abbrev cX4_doOrders : ByteArray := prog_6_method_5_code
def yX4_doOrders : MethodName := ⟨RX4, "doOrders", "(III)V"⟩
abbrev cX4_doOrder : ByteArray := prog_6_method_6_code
def yX4_doOrder : MethodName := ⟨RX4, "doOrder", "(IIII)I"⟩
abbrev cX4_canDo : ByteArray := prog_6_method_7_code
def yX4_canDo : MethodName := ⟨RX4, "canDo", "(III)Z"⟩
abbrev cX4_await : ByteArray := prog_6_method_8_code
def yX4_await : MethodName := ⟨RX4, "await", "(II)I"⟩
abbrev cX4_carryOut : ByteArray := prog_6_method_9_code
def yX4_carryOut : MethodName := ⟨RX4, "carryOut", "(IIII)V"⟩
abbrev cX4_targetOf : ByteArray := prog_6_method_10_code
def yX4_targetOf : MethodName := ⟨RX4, "targetOf", "(II)I"⟩
abbrev cX4_settle : ByteArray := prog_6_method_11_code
def yX4_settle : MethodName := ⟨RX4, "settle", "(IIII)Z"⟩
abbrev cX4_addListener : ByteArray := prog_6_method_12_code
def yX4_addListener : MethodName := ⟨RX4, "addListener", "(III)V"⟩
abbrev cX4_tell : ByteArray := prog_6_method_13_code
def yX4_tell : MethodName := ⟨RX4, "tell", "(III)V"⟩
abbrev cX4_send : ByteArray := prog_6_method_14_code
def yX4_send : MethodName := ⟨RX4, "send", "(III)Z"⟩
abbrev cX4_goThrough : ByteArray := prog_6_method_15_code
def yX4_goThrough : MethodName := ⟨RX4, "goThrough", "(III)V"⟩
abbrev cX4_handle : ByteArray := prog_6_method_16_code
def yX4_handle : MethodName := ⟨RX4, "handle", "(IIII)I"⟩
abbrev cX4_echo : ByteArray := prog_6_method_17_code
def yX4_echo : MethodName := ⟨RX4, "echo", "(III)V"⟩
def RX5 : String := "LoopGroup$Scheduler"
def TX5 : u_T := fun k => match k with
  | 0 => ("LoopGroup$Scheduler", "trace", "LLoopGroup$Trace;", true)
  | 1 => ("LoopGroup$Scheduler", "loops", "[LLoopGroup$Loop;", true)
  | 2 => ("LoopGroup$Scheduler", "clock", "J", false)
  | 3 => ("LoopGroup$Scheduler", "chosen", "I", false)
  | _ => ("LoopGroup$Scheduler", "timersMade", "I", false)
def tyX5 : Nat → FieldType := fun k => match k with
  | 0 => .object "LoopGroup$Trace"
  | 1 => .array (.object "LoopGroup$Loop")
  | 2 => .long
  | 3 => .int
  | _ => .int
abbrev wsX50 : List Cond := u_ws RX5 TX5 5
theorem nmX5 : ∀ a, a < 5 → ∀ b, b < 5 → a ≠ b → (TX5 a).2.1 ≠ (TX5 b).2.1 := by decide +kernel
theorem tyX5_ok : ∀ k, k < 5 → parseFieldDescriptor (TX5 k).2.2.1 = some (tyX5 k) := by decide +kernel
abbrev cX5_init : ByteArray := prog_7_method_1_code
def yX5_init : MethodName := ⟨RX5, "<init>", "(I)V"⟩
abbrev cX5_has : ByteArray := prog_7_method_2_code
def yX5_has : MethodName := ⟨RX5, "has", "(I)Z"⟩
abbrev cX5_choose : ByteArray := prog_7_method_3_code
def yX5_choose : MethodName := ⟨RX5, "choose", "()I"⟩
abbrev cX5_enqueue : ByteArray := prog_7_method_4_code
def yX5_enqueue : MethodName := ⟨RX5, "enqueue", "(IIIII)Z"⟩
abbrev cX5_schedule : ByteArray := prog_7_method_5_code
def yX5_schedule : MethodName := ⟨RX5, "schedule", "(IIII)I"⟩
abbrev cX5_dropTimer : ByteArray := prog_7_method_6_code
def yX5_dropTimer : MethodName := ⟨RX5, "dropTimer", "(I)Z"⟩
abbrev cX5_beginBatch : ByteArray := prog_7_method_7_code
def yX5_beginBatch : MethodName := ⟨RX5, "beginBatch", "(LLoopGroup$Loop;)V"⟩
abbrev cX5_canShut : ByteArray := prog_7_method_8_code
def yX5_canShut : MethodName := ⟨RX5, "canShut", "(II)Z"⟩
abbrev cX5_shutAll : ByteArray := prog_7_method_9_code
def yX5_shutAll : MethodName := ⟨RX5, "shutAll", "(II)V"⟩
abbrev cX5_confirm : ByteArray := prog_7_method_10_code
def yX5_confirm : MethodName := ⟨RX5, "confirm", "(I)Z"⟩
abbrev cX5_become : ByteArray := prog_7_method_11_code
def yX5_become : MethodName := ⟨RX5, "become", "(II)V"⟩
def RX6 : String := "LoopGroup$Tasks"
def TX6 : u_T := fun k => match k with
  | 0 => ("LoopGroup$Tasks", "sizes", "[I", true)
  | 1 => ("LoopGroup$Tasks", "kinds", "[I", true)
  | 2 => ("LoopGroup$Tasks", "as", "[I", true)
  | 3 => ("LoopGroup$Tasks", "bs", "[I", true)
  | _ => ("LoopGroup$Tasks", "count", "I", false)
def tyX6 : Nat → FieldType := fun k => match k with
  | 0 => .array .int
  | 1 => .array .int
  | 2 => .array .int
  | 3 => .array .int
  | _ => .int
abbrev wsX60 : List Cond := u_ws RX6 TX6 5
theorem nmX6 : ∀ a, a < 5 → ∀ b, b < 5 → a ≠ b → (TX6 a).2.1 ≠ (TX6 b).2.1 := by decide +kernel
theorem tyX6_ok : ∀ k, k < 5 → parseFieldDescriptor (TX6 k).2.2.1 = some (tyX6 k) := by decide +kernel
abbrev cX6_init : ByteArray := prog_8_method_1_code
def yX6_init : MethodName := ⟨RX6, "<init>", "()V"⟩
abbrev cX6_has : ByteArray := prog_8_method_2_code
def yX6_has : MethodName := ⟨RX6, "has", "(I)Z"⟩
abbrev cX6_add : ByteArray := prog_8_method_3_code
def yX6_add : MethodName := ⟨RX6, "add", "()I"⟩
abbrev cX6_addOrder : ByteArray := prog_8_method_4_code
def yX6_addOrder : MethodName := ⟨RX6, "addOrder", "(IIII)I"⟩
def RX7 : String := "LoopGroup$Timers"
def TX7 : u_T := fun k => match k with
  | 0 => ("LoopGroup$Timers", "numbers", "[I", true)
  | 1 => ("LoopGroup$Timers", "tasks", "[I", true)
  | 2 => ("LoopGroup$Timers", "deadlines", "[J", true)
  | _ => ("LoopGroup$Timers", "size", "I", false)
def tyX7 : Nat → FieldType := fun k => match k with
  | 0 => .array .int
  | 1 => .array .int
  | 2 => .array .long
  | _ => .int
abbrev wsX70 : List Cond := u_ws RX7 TX7 4
theorem nmX7 : ∀ a, a < 4 → ∀ b, b < 4 → a ≠ b → (TX7 a).2.1 ≠ (TX7 b).2.1 := by decide +kernel
theorem tyX7_ok : ∀ k, k < 4 → parseFieldDescriptor (TX7 k).2.2.1 = some (tyX7 k) := by decide +kernel
abbrev cX7_init : ByteArray := prog_9_method_1_code
def yX7_init : MethodName := ⟨RX7, "<init>", "()V"⟩
abbrev cX7_put : ByteArray := prog_9_method_2_code
def yX7_put : MethodName := ⟨RX7, "put", "(IIJ)V"⟩
abbrev cX7_placeOf : ByteArray := prog_9_method_3_code
def yX7_placeOf : MethodName := ⟨RX7, "placeOf", "(I)I"⟩
abbrev cX7_firstDue : ByteArray := prog_9_method_4_code
def yX7_firstDue : MethodName := ⟨RX7, "firstDue", "(J)I"⟩
abbrev cX7_isBefore : ByteArray := prog_9_method_5_code
def yX7_isBefore : MethodName := ⟨RX7, "isBefore", "(II)Z"⟩
abbrev cX7_removeAt : ByteArray := prog_9_method_6_code
def yX7_removeAt : MethodName := ⟨RX7, "removeAt", "(I)V"⟩
def RX8 : String := "LoopGroup$Trace"
def TX8 : u_T := fun k => match k with
  | 0 => ("LoopGroup$Trace", "rows", "[I", true)
  | _ => ("LoopGroup$Trace", "count", "I", false)
def tyX8 : Nat → FieldType := fun k => match k with
  | 0 => .array .int
  | _ => .int
abbrev wsX80 : List Cond := u_ws RX8 TX8 2
theorem nmX8 : ∀ a, a < 2 → ∀ b, b < 2 → a ≠ b → (TX8 a).2.1 ≠ (TX8 b).2.1 := by decide +kernel
theorem tyX8_ok : ∀ k, k < 2 → parseFieldDescriptor (TX8 k).2.2.1 = some (tyX8 k) := by decide +kernel
abbrev cX8_init : ByteArray := prog_10_method_1_code
def yX8_init : MethodName := ⟨RX8, "<init>", "()V"⟩
abbrev cX8_log : ByteArray := prog_10_method_2_code
def yX8_log : MethodName := ⟨RX8, "log", "(III)V"⟩
abbrev cX8_keeps : ByteArray := prog_10_method_3_code
def yX8_keeps : MethodName := ⟨RX8, "keeps", "(I)Z"⟩
abbrev cX8_read : ByteArray := prog_10_method_4_code
def yX8_read : MethodName := ⟨RX8, "read", "(II)I"⟩
def RX9 : String := "LoopGroup"
def TX9 : u_T := fun k => match k with
  | 0 => ("LoopGroup", "runner", "LLoopGroup$Runner;", true)
  | 1 => ("LoopGroup", "scheduler", "LLoopGroup$Scheduler;", true)
  | 2 => ("LoopGroup", "trace", "LLoopGroup$Trace;", true)
  | 3 => ("LoopGroup", "tasks", "LLoopGroup$Tasks;", true)
  | 4 => ("LoopGroup", "promises", "LLoopGroup$Promises;", true)
  | _ => ("LoopGroup", "channels", "LLoopGroup$Channels;", true)
def tyX9 : Nat → FieldType := fun k => match k with
  | 0 => .object "LoopGroup$Runner"
  | 1 => .object "LoopGroup$Scheduler"
  | 2 => .object "LoopGroup$Trace"
  | 3 => .object "LoopGroup$Tasks"
  | 4 => .object "LoopGroup$Promises"
  | _ => .object "LoopGroup$Channels"
abbrev wsX90 : List Cond := u_ws RX9 TX9 6
theorem nmX9 : ∀ a, a < 6 → ∀ b, b < 6 → a ≠ b → (TX9 a).2.1 ≠ (TX9 b).2.1 := by decide +kernel
theorem tyX9_ok : ∀ k, k < 6 → parseFieldDescriptor (TX9 k).2.2.1 = some (tyX9 k) := by decide +kernel
abbrev cX9_init : ByteArray := prog_1_method_1_code
def yX9_init : MethodName := ⟨RX9, "<init>", "(I)V"⟩
abbrev cX9_task : ByteArray := prog_1_method_2_code
def yX9_task : MethodName := ⟨RX9, "task", "()I"⟩
abbrev cX9_order : ByteArray := prog_1_method_3_code
def yX9_order : MethodName := ⟨RX9, "order", "(IIII)I"⟩
abbrev cX9_promise : ByteArray := prog_1_method_4_code
def yX9_promise : MethodName := ⟨RX9, "promise", "(I)I"⟩
abbrev cX9_channels : ByteArray := prog_1_method_5_code
def yX9_channels : MethodName := ⟨RX9, "channels", "(II)I"⟩
abbrev cX9_handler : ByteArray := prog_1_method_6_code
def yX9_handler : MethodName := ⟨RX9, "handler", "(IIII)I"⟩
abbrev cX9_advance : ByteArray := prog_1_method_7_code
def yX9_advance : MethodName := ⟨RX9, "advance", "(I)J"⟩
abbrev cX9_execute : ByteArray := prog_1_method_8_code
def yX9_execute : MethodName := ⟨RX9, "execute", "(II)I"⟩
abbrev cX9_timer : ByteArray := prog_1_method_9_code
def yX9_timer : MethodName := ⟨RX9, "timer", "(III)I"⟩
abbrev cX9_cancel : ByteArray := prog_1_method_10_code
def yX9_cancel : MethodName := ⟨RX9, "cancel", "(I)Z"⟩
abbrev cX9_complete : ByteArray := prog_1_method_11_code
def yX9_complete : MethodName := ⟨RX9, "complete", "(III)Z"⟩
abbrev cX9_listen : ByteArray := prog_1_method_12_code
def yX9_listen : MethodName := ⟨RX9, "listen", "(II)V"⟩
abbrev cX9_fire : ByteArray := prog_1_method_13_code
def yX9_fire : MethodName := ⟨RX9, "fire", "(II)V"⟩
abbrev cX9_shutdown : ByteArray := prog_1_method_14_code
def yX9_shutdown : MethodName := ⟨RX9, "shutdown", "(II)V"⟩
abbrev cX9_step : ByteArray := prog_1_method_15_code
def yX9_step : MethodName := ⟨RX9, "step", "(I)I"⟩
abbrev cX9_loop : ByteArray := prog_1_method_16_code
def yX9_loop : MethodName := ⟨RX9, "loop", "(II)I"⟩
abbrev cX9_look : ByteArray := prog_1_method_17_code
def yX9_look : MethodName := ⟨RX9, "look", "(II)I"⟩
abbrev cX9_traced : ByteArray := prog_1_method_18_code
def yX9_traced : MethodName := ⟨RX9, "traced", "()I"⟩
abbrev cX9_trace : ByteArray := prog_1_method_19_code
def yX9_trace : MethodName := ⟨RX9, "trace", "(II)I"⟩
abbrev cX9_needTask : ByteArray := prog_1_method_20_code
def yX9_needTask : MethodName := ⟨RX9, "needTask", "(I)V"⟩
abbrev cX9_needLoop : ByteArray := prog_1_method_21_code
def yX9_needLoop : MethodName := ⟨RX9, "needLoop", "(I)V"⟩
abbrev cX9_needPromise : ByteArray := prog_1_method_22_code
def yX9_needPromise : MethodName := ⟨RX9, "needPromise", "(I)V"⟩
abbrev cX9_needChannel : ByteArray := prog_1_method_23_code
def yX9_needChannel : MethodName := ⟨RX9, "needChannel", "(I)V"⟩
def RX10 : String := "LoopGroupModel"
def TX10 : u_T := fun k => match k with
  | 0 => ("LoopGroupModel", "thrown", "I", false)
  | 1 => ("LoopGroupModel", "n", "I", true)
  | 2 => ("LoopGroupModel", "clock", "J", false)
  | 3 => ("LoopGroupModel", "tasks", "I", false)
  | 4 => ("LoopGroupModel", "many", "[I", true)
  | 5 => ("LoopGroupModel", "kind", "[I", true)
  | 6 => ("LoopGroupModel", "first", "[I", true)
  | 7 => ("LoopGroupModel", "second", "[I", true)
  | 8 => ("LoopGroupModel", "state", "[I", true)
  | 9 => ("LoopGroupModel", "queued", "[I", true)
  | 10 => ("LoopGroupModel", "batch", "[I", true)
  | 11 => ("LoopGroupModel", "queueKind", "[I", true)
  | 12 => ("LoopGroupModel", "queueWhat", "[I", true)
  | 13 => ("LoopGroupModel", "queueMessage", "[I", true)
  | 14 => ("LoopGroupModel", "blocked", "[Z", true)
  | 15 => ("LoopGroupModel", "blockedTask", "[I", true)
  | 16 => ("LoopGroupModel", "blockedOrder", "[I", true)
  | 17 => ("LoopGroupModel", "blockedBy", "[I", true)
  | 18 => ("LoopGroupModel", "quiet", "[J", true)
  | 19 => ("LoopGroupModel", "timeout", "[J", true)
  | 20 => ("LoopGroupModel", "start", "[J", true)
  | 21 => ("LoopGroupModel", "last", "[J", true)
  | 22 => ("LoopGroupModel", "chosen", "I", false)
  | 23 => ("LoopGroupModel", "timers", "I", false)
  | 24 => ("LoopGroupModel", "timerTask", "[I", true)
  | 25 => ("LoopGroupModel", "deadline", "[J", true)
  | 26 => ("LoopGroupModel", "timerLoop", "[I", true)
  | 27 => ("LoopGroupModel", "promises", "I", false)
  | 28 => ("LoopGroupModel", "executor", "[I", true)
  | 29 => ("LoopGroupModel", "promiseState", "[I", true)
  | 30 => ("LoopGroupModel", "promiseValue", "[I", true)
  | 31 => ("LoopGroupModel", "pinned", "[Z", true)
  | 32 => ("LoopGroupModel", "listeners", "[I", true)
  | 33 => ("LoopGroupModel", "listenerTask", "[I", true)
  | 34 => ("LoopGroupModel", "channels", "I", false)
  | 35 => ("LoopGroupModel", "channelLoop", "[I", true)
  | 36 => ("LoopGroupModel", "handlers", "[I", true)
  | 37 => ("LoopGroupModel", "handlerKind", "[I", true)
  | 38 => ("LoopGroupModel", "handlerTask", "[I", true)
  | 39 => ("LoopGroupModel", "handlerNumber", "[I", true)
  | 40 => ("LoopGroupModel", "handlersEver", "I", false)
  | 41 => ("LoopGroupModel", "traced", "I", false)
  | 42 => ("LoopGroupModel", "traceLoop", "[I", true)
  | 43 => ("LoopGroupModel", "traceKind", "[I", true)
  | 44 => ("LoopGroupModel", "traceValue", "[I", true)
  | 45 => ("LoopGroupModel", "depth", "I", false)
  | 46 => ("LoopGroupModel", "frame", "[I", true)
  | 47 => ("LoopGroupModel", "frameOf", "[I", true)
  | 48 => ("LoopGroupModel", "frameAt", "[I", true)
  | 49 => ("LoopGroupModel", "frameMore", "[I", true)
  | 50 => ("LoopGroupModel", "frameThrown", "[Z", true)
  | 51 => ("LoopGroupModel", "thread", "I", false)
  | _ => ("LoopGroupModel", "acts", "I", false)
def tyX10 : Nat → FieldType := fun k => match k with
  | 0 => .int
  | 1 => .int
  | 2 => .long
  | 3 => .int
  | 4 => .array .int
  | 5 => .array .int
  | 6 => .array .int
  | 7 => .array .int
  | 8 => .array .int
  | 9 => .array .int
  | 10 => .array .int
  | 11 => .array .int
  | 12 => .array .int
  | 13 => .array .int
  | 14 => .array .boolean
  | 15 => .array .int
  | 16 => .array .int
  | 17 => .array .int
  | 18 => .array .long
  | 19 => .array .long
  | 20 => .array .long
  | 21 => .array .long
  | 22 => .int
  | 23 => .int
  | 24 => .array .int
  | 25 => .array .long
  | 26 => .array .int
  | 27 => .int
  | 28 => .array .int
  | 29 => .array .int
  | 30 => .array .int
  | 31 => .array .boolean
  | 32 => .array .int
  | 33 => .array .int
  | 34 => .int
  | 35 => .array .int
  | 36 => .array .int
  | 37 => .array .int
  | 38 => .array .int
  | 39 => .array .int
  | 40 => .int
  | 41 => .int
  | 42 => .array .int
  | 43 => .array .int
  | 44 => .array .int
  | 45 => .int
  | 46 => .array .int
  | 47 => .array .int
  | 48 => .array .int
  | 49 => .array .int
  | 50 => .array .boolean
  | 51 => .int
  | _ => .int
abbrev wsX100 : List Cond := u_ws RX10 TX10 53
theorem nmX10 : ∀ a, a < 53 → ∀ b, b < 53 → a ≠ b → (TX10 a).2.1 ≠ (TX10 b).2.1 := by decide +kernel
theorem tyX10_ok : ∀ k, k < 53 → parseFieldDescriptor (TX10 k).2.2.1 = some (tyX10 k) := by decide +kernel
abbrev cX10_init : ByteArray := prog_12_method_1_code
def yX10_init : MethodName := ⟨RX10, "<init>", "(I)V"⟩
abbrev cX10_thrown : ByteArray := prog_12_method_2_code
def yX10_thrown : MethodName := ⟨RX10, "thrown", "()I"⟩
abbrev cX10_throwing : ByteArray := prog_12_method_3_code
def yX10_throwing : MethodName := ⟨RX10, "throwing", "(ZZ)Z"⟩
abbrev cX10_in : ByteArray := prog_12_method_4_code
def yX10_in : MethodName := ⟨RX10, "in", "(JJJ)Z"⟩
abbrev cX10_isTask : ByteArray := prog_12_method_5_code
def yX10_isTask : MethodName := ⟨RX10, "isTask", "(I)Z"⟩
abbrev cX10_isLoop : ByteArray := prog_12_method_6_code
def yX10_isLoop : MethodName := ⟨RX10, "isLoop", "(I)Z"⟩
abbrev cX10_isPromise : ByteArray := prog_12_method_7_code
def yX10_isPromise : MethodName := ⟨RX10, "isPromise", "(I)Z"⟩
abbrev cX10_isChannel : ByteArray := prog_12_method_8_code
def yX10_isChannel : MethodName := ⟨RX10, "isChannel", "(I)Z"⟩
abbrev cX10_log : ByteArray := prog_12_method_9_code
def yX10_log : MethodName := ⟨RX10, "log", "(III)V"⟩
abbrev cX10_become : ByteArray := prog_12_method_10_code
def yX10_become : MethodName := ⟨RX10, "become", "(II)V"⟩
abbrev cX10_task : ByteArray := prog_12_method_11_code
def yX10_task : MethodName := ⟨RX10, "task", "()I"⟩
abbrev cX10_order : ByteArray := prog_12_method_12_code
def yX10_order : MethodName := ⟨RX10, "order", "(IIII)I"⟩
abbrev cX10_promise : ByteArray := prog_12_method_13_code
def yX10_promise : MethodName := ⟨RX10, "promise", "(I)I"⟩
abbrev cX10_channels : ByteArray := prog_12_method_14_code
def yX10_channels : MethodName := ⟨RX10, "channels", "(II)I"⟩
abbrev cX10_handler : ByteArray := prog_12_method_15_code
def yX10_handler : MethodName := ⟨RX10, "handler", "(IIII)I"⟩
abbrev cX10_advance : ByteArray := prog_12_method_16_code
def yX10_advance : MethodName := ⟨RX10, "advance", "(I)J"⟩
abbrev cX10_choose : ByteArray := prog_12_method_17_code
def yX10_choose : MethodName := ⟨RX10, "choose", "()I"⟩
abbrev cX10_put : ByteArray := prog_12_method_18_code
def yX10_put : MethodName := ⟨RX10, "put", "(IIIII)Z"⟩
abbrev cX10_waiting : ByteArray := prog_12_method_19_code
def yX10_waiting : MethodName := ⟨RX10, "waiting", "(I)I"⟩
abbrev cX10_schedule : ByteArray := prog_12_method_20_code
def yX10_schedule : MethodName := ⟨RX10, "schedule", "(IJI)Z"⟩
abbrev cX10_push : ByteArray := prog_12_method_21_code
def yX10_push : MethodName := ⟨RX10, "push", "(III)V"⟩
abbrev cX10_frames : ByteArray := prog_12_method_22_code
def yX10_frames : MethodName := ⟨RX10, "frames", "(I)I"⟩
abbrev cX10_notify : ByteArray := prog_12_method_23_code
def yX10_notify : MethodName := ⟨RX10, "notify", "(II)V"⟩
abbrev cX10_finish : ByteArray := prog_12_method_24_code
def yX10_finish : MethodName := ⟨RX10, "finish", "(III)Z"⟩
abbrev cX10_send : ByteArray := prog_12_method_25_code
def yX10_send : MethodName := ⟨RX10, "send", "(II)Z"⟩
abbrev cX10_shut : ByteArray := prog_12_method_26_code
def yX10_shut : MethodName := ⟨RX10, "shut", "(II)V"⟩
abbrev cX10_isSo : ByteArray := prog_12_method_27_code
def yX10_isSo : MethodName := ⟨RX10, "isSo", "(III)Z"⟩
abbrev cX10_work : ByteArray := prog_12_method_28_code
def yX10_work : MethodName := ⟨RX10, "work", "()V"⟩
abbrev cX10_listenAt : ByteArray := prog_12_method_29_code
def yX10_listenAt : MethodName := ⟨RX10, "listenAt", "(II)V"⟩
abbrev cX10_await : ByteArray := prog_12_method_30_code
def yX10_await : MethodName := ⟨RX10, "await", "(I)V"⟩
abbrev cX10_pass : ByteArray := prog_12_method_31_code
def yX10_pass : MethodName := ⟨RX10, "pass", "()V"⟩
abbrev cX10_run : ByteArray := prog_12_method_32_code
def yX10_run : MethodName := ⟨RX10, "run", "()V"⟩
abbrev cX10_beginBatch : ByteArray := prog_12_method_33_code
def yX10_beginBatch : MethodName := ⟨RX10, "beginBatch", "(I)V"⟩
abbrev cX10_confirm : ByteArray := prog_12_method_34_code
def yX10_confirm : MethodName := ⟨RX10, "confirm", "(I)I"⟩
abbrev cX10_step : ByteArray := prog_12_method_35_code
def yX10_step : MethodName := ⟨RX10, "step", "(I)I"⟩
abbrev cX10_host : ByteArray := prog_12_method_36_code
def yX10_host : MethodName := ⟨RX10, "host", "()V"⟩
abbrev cX10_execute : ByteArray := prog_12_method_37_code
def yX10_execute : MethodName := ⟨RX10, "execute", "(II)I"⟩
abbrev cX10_timer : ByteArray := prog_12_method_38_code
def yX10_timer : MethodName := ⟨RX10, "timer", "(III)I"⟩
abbrev cX10_cancel : ByteArray := prog_12_method_39_code
def yX10_cancel : MethodName := ⟨RX10, "cancel", "(I)Z"⟩
abbrev cX10_complete : ByteArray := prog_12_method_40_code
def yX10_complete : MethodName := ⟨RX10, "complete", "(III)Z"⟩
abbrev cX10_listen : ByteArray := prog_12_method_41_code
def yX10_listen : MethodName := ⟨RX10, "listen", "(II)V"⟩
abbrev cX10_fire : ByteArray := prog_12_method_42_code
def yX10_fire : MethodName := ⟨RX10, "fire", "(II)V"⟩
abbrev cX10_shutdown : ByteArray := prog_12_method_43_code
def yX10_shutdown : MethodName := ⟨RX10, "shutdown", "(II)V"⟩
abbrev cX10_loop : ByteArray := prog_12_method_44_code
def yX10_loop : MethodName := ⟨RX10, "loop", "(II)I"⟩
abbrev cX10_look : ByteArray := prog_12_method_45_code
def yX10_look : MethodName := ⟨RX10, "look", "(II)I"⟩
abbrev cX10_traced : ByteArray := prog_12_method_46_code
def yX10_traced : MethodName := ⟨RX10, "traced", "()I"⟩
abbrev cX10_trace : ByteArray := prog_12_method_47_code
def yX10_trace : MethodName := ⟨RX10, "trace", "(II)I"⟩
def RL : String := "LoopGroupLaw"
abbrev cL_cell : ByteArray := method_2_code
def yL_cell : MethodName := ⟨RL, "cell", "([II)I"⟩
abbrev cL_task : ByteArray := method_3_code
def yL_task : MethodName := ⟨RL, "task", "(LLoopGroup;[J)I"⟩
abbrev cL_order : ByteArray := method_4_code
def yL_order : MethodName := ⟨RL, "order", "(LLoopGroup;IIII[J)I"⟩
abbrev cL_promise : ByteArray := method_5_code
def yL_promise : MethodName := ⟨RL, "promise", "(LLoopGroup;I[J)I"⟩
abbrev cL_channels : ByteArray := method_6_code
def yL_channels : MethodName := ⟨RL, "channels", "(LLoopGroup;II[J)I"⟩
abbrev cL_handler : ByteArray := method_7_code
def yL_handler : MethodName := ⟨RL, "handler", "(LLoopGroup;IIII[J)I"⟩
abbrev cL_advance : ByteArray := method_8_code
def yL_advance : MethodName := ⟨RL, "advance", "(LLoopGroup;I[J)I"⟩
abbrev cL_execute : ByteArray := method_9_code
def yL_execute : MethodName := ⟨RL, "execute", "(LLoopGroup;II[J)I"⟩
abbrev cL_timer : ByteArray := method_10_code
def yL_timer : MethodName := ⟨RL, "timer", "(LLoopGroup;III[J)I"⟩
abbrev cL_complete : ByteArray := method_11_code
def yL_complete : MethodName := ⟨RL, "complete", "(LLoopGroup;III[J)I"⟩
abbrev cL_listen : ByteArray := method_12_code
def yL_listen : MethodName := ⟨RL, "listen", "(LLoopGroup;II)I"⟩
abbrev cL_fire : ByteArray := method_13_code
def yL_fire : MethodName := ⟨RL, "fire", "(LLoopGroup;II)I"⟩
abbrev cL_shutdown : ByteArray := method_14_code
def yL_shutdown : MethodName := ⟨RL, "shutdown", "(LLoopGroup;II)I"⟩
abbrev cL_step : ByteArray := method_15_code
def yL_step : MethodName := ⟨RL, "step", "(LLoopGroup;I[J)I"⟩
abbrev cL_loop : ByteArray := method_16_code
def yL_loop : MethodName := ⟨RL, "loop", "(LLoopGroup;II[J)I"⟩
abbrev cL_look : ByteArray := method_17_code
def yL_look : MethodName := ⟨RL, "look", "(LLoopGroup;II[J)I"⟩
abbrev cL_trace : ByteArray := method_18_code
def yL_trace : MethodName := ⟨RL, "trace", "(LLoopGroup;II[J)I"⟩
abbrev cL_law : ByteArray := code
def yL_law : MethodName := ⟨RL, "law", "([I)Z"⟩
abbrev vwCl : List vw_C := [(RX0, TX0, 7), (RX1, TX1, 11), (RX2, TX2, 7), (RX3, TX3, 5), (RX4, TX4, 8), (RX5, TX5, 5), (RX6, TX6, 5), (RX7, TX7, 4), (RX8, TX8, 2), (RX9, TX9, 6), (RX10, TX10, 53)]
end
section
theorem dX0_init_0 : decode cX0_init 0 = .ok (.aload_n 0, 1) := by decide +kernel
theorem dX0_init_1 : decode cX0_init 1 = .ok (.invokespecial 1, 3) := by decide +kernel
theorem dX0_init_4 : decode cX0_init 4 = .ok (.aload_n 0, 1) := by decide +kernel
theorem dX0_init_5 : decode cX0_init 5 = .ok (.bipush 16, 2) := by decide +kernel
theorem dX0_init_7 : decode cX0_init 7 = .ok (.newarray .int, 2) := by decide +kernel
theorem dX0_init_9 : decode cX0_init 9 = .ok (.putfield 9, 3) := by decide +kernel
theorem dX0_init_12 : decode cX0_init 12 = .ok (.aload_n 0, 1) := by decide +kernel
theorem dX0_init_13 : decode cX0_init 13 = .ok (.bipush 16, 2) := by decide +kernel
theorem dX0_init_15 : decode cX0_init 15 = .ok (.newarray .int, 2) := by decide +kernel
theorem dX0_init_17 : decode cX0_init 17 = .ok (.putfield 13, 3) := by decide +kernel
theorem dX0_init_20 : decode cX0_init 20 = .ok (.aload_n 0, 1) := by decide +kernel
theorem dX0_init_21 : decode cX0_init 21 = .ok (.bipush 96, 2) := by decide +kernel
theorem dX0_init_23 : decode cX0_init 23 = .ok (.newarray .int, 2) := by decide +kernel
theorem dX0_init_25 : decode cX0_init 25 = .ok (.putfield 16, 3) := by decide +kernel
theorem dX0_init_28 : decode cX0_init 28 = .ok (.aload_n 0, 1) := by decide +kernel
theorem dX0_init_29 : decode cX0_init 29 = .ok (.bipush 96, 2) := by decide +kernel
theorem dX0_init_31 : decode cX0_init 31 = .ok (.newarray .int, 2) := by decide +kernel
theorem dX0_init_33 : decode cX0_init 33 = .ok (.putfield 19, 3) := by decide +kernel
theorem dX0_init_36 : decode cX0_init 36 = .ok (.aload_n 0, 1) := by decide +kernel
theorem dX0_init_37 : decode cX0_init 37 = .ok (.bipush 96, 2) := by decide +kernel
theorem dX0_init_39 : decode cX0_init 39 = .ok (.newarray .int, 2) := by decide +kernel
theorem dX0_init_41 : decode cX0_init 41 = .ok (.putfield 22, 3) := by decide +kernel
theorem dX0_init_44 : decode cX0_init 44 = .ok (.return_, 1) := by decide +kernel
theorem dX0_has_0 : decode cX0_has 0 = .ok (.iload_n 1, 1) := by decide +kernel
theorem dX0_has_1 : decode cX0_has 1 = .ok (.ifCond .lt 15, 3) := by decide +kernel
theorem dX0_has_4 : decode cX0_has 4 = .ok (.iload_n 1, 1) := by decide +kernel
theorem dX0_has_5 : decode cX0_has 5 = .ok (.aload_n 0, 1) := by decide +kernel
theorem dX0_has_6 : decode cX0_has 6 = .ok (.getfield 25, 3) := by decide +kernel
theorem dX0_has_9 : decode cX0_has 9 = .ok (.if_icmp .ge 7, 3) := by decide +kernel
theorem dX0_has_12 : decode cX0_has 12 = .ok (.iconst 1, 1) := by decide +kernel
theorem dX0_has_13 : decode cX0_has 13 = .ok (.goto 4, 3) := by decide +kernel
theorem dX0_has_16 : decode cX0_has 16 = .ok (.iconst 0, 1) := by decide +kernel
theorem dX0_has_17 : decode cX0_has 17 = .ok (.ireturn, 1) := by decide +kernel
theorem dX0_addPair_0 : decode cX0_addPair 0 = .ok (.aload_n 0, 1) := by decide +kernel
theorem dX0_addPair_1 : decode cX0_addPair 1 = .ok (.getfield 9, 3) := by decide +kernel
theorem dX0_addPair_4 : decode cX0_addPair 4 = .ok (.aload_n 0, 1) := by decide +kernel
theorem dX0_addPair_5 : decode cX0_addPair 5 = .ok (.getfield 25, 3) := by decide +kernel
theorem dX0_addPair_8 : decode cX0_addPair 8 = .ok (.iload_n 1, 1) := by decide +kernel
theorem dX0_addPair_9 : decode cX0_addPair 9 = .ok (.iastore, 1) := by decide +kernel
theorem dX0_addPair_10 : decode cX0_addPair 10 = .ok (.aload_n 0, 1) := by decide +kernel
theorem dX0_addPair_11 : decode cX0_addPair 11 = .ok (.getfield 9, 3) := by decide +kernel
theorem dX0_addPair_14 : decode cX0_addPair 14 = .ok (.aload_n 0, 1) := by decide +kernel
theorem dX0_addPair_15 : decode cX0_addPair 15 = .ok (.getfield 25, 3) := by decide +kernel
theorem dX0_addPair_18 : decode cX0_addPair 18 = .ok (.iconst 1, 1) := by decide +kernel
theorem dX0_addPair_19 : decode cX0_addPair 19 = .ok (.iadd, 1) := by decide +kernel
theorem dX0_addPair_20 : decode cX0_addPair 20 = .ok (.iload_n 2, 1) := by decide +kernel
theorem dX0_addPair_21 : decode cX0_addPair 21 = .ok (.iastore, 1) := by decide +kernel
theorem dX0_addPair_22 : decode cX0_addPair 22 = .ok (.aload_n 0, 1) := by decide +kernel
theorem dX0_addPair_23 : decode cX0_addPair 23 = .ok (.dup, 1) := by decide +kernel
theorem dX0_addPair_24 : decode cX0_addPair 24 = .ok (.getfield 25, 3) := by decide +kernel
theorem dX0_addPair_27 : decode cX0_addPair 27 = .ok (.iconst 2, 1) := by decide +kernel
theorem dX0_addPair_28 : decode cX0_addPair 28 = .ok (.iadd, 1) := by decide +kernel
theorem dX0_addPair_29 : decode cX0_addPair 29 = .ok (.putfield 25, 3) := by decide +kernel
theorem dX0_addPair_32 : decode cX0_addPair 32 = .ok (.aload_n 0, 1) := by decide +kernel
theorem dX0_addPair_33 : decode cX0_addPair 33 = .ok (.getfield 25, 3) := by decide +kernel
theorem dX0_addPair_36 : decode cX0_addPair 36 = .ok (.iconst 2, 1) := by decide +kernel
theorem dX0_addPair_37 : decode cX0_addPair 37 = .ok (.isub, 1) := by decide +kernel
theorem dX0_addPair_38 : decode cX0_addPair 38 = .ok (.ireturn, 1) := by decide +kernel
theorem dX0_peer_0 : decode cX0_peer 0 = .ok (.iload_n 1, 1) := by decide +kernel
theorem dX0_peer_1 : decode cX0_peer 1 = .ok (.iconst 1, 1) := by decide +kernel
theorem dX0_peer_2 : decode cX0_peer 2 = .ok (.ixor, 1) := by decide +kernel
theorem dX0_peer_3 : decode cX0_peer 3 = .ok (.ireturn, 1) := by decide +kernel
theorem dX0_addHandler_0 : decode cX0_addHandler 0 = .ok (.iload_n 1, 1) := by decide +kernel
theorem dX0_addHandler_1 : decode cX0_addHandler 1 = .ok (.bipush 6, 2) := by decide +kernel
theorem dX0_addHandler_3 : decode cX0_addHandler 3 = .ok (.imul, 1) := by decide +kernel
theorem dX0_addHandler_4 : decode cX0_addHandler 4 = .ok (.aload_n 0, 1) := by decide +kernel
theorem dX0_addHandler_5 : decode cX0_addHandler 5 = .ok (.getfield 13, 3) := by decide +kernel
theorem dX0_addHandler_8 : decode cX0_addHandler 8 = .ok (.iload_n 1, 1) := by decide +kernel
theorem dX0_addHandler_9 : decode cX0_addHandler 9 = .ok (.iaload, 1) := by decide +kernel
theorem dX0_addHandler_10 : decode cX0_addHandler 10 = .ok (.iadd, 1) := by decide +kernel
theorem dX0_addHandler_11 : decode cX0_addHandler 11 = .ok (.istore 4, 2) := by decide +kernel
theorem dX0_addHandler_13 : decode cX0_addHandler 13 = .ok (.aload_n 0, 1) := by decide +kernel
theorem dX0_addHandler_14 : decode cX0_addHandler 14 = .ok (.getfield 16, 3) := by decide +kernel
theorem dX0_addHandler_17 : decode cX0_addHandler 17 = .ok (.iload 4, 2) := by decide +kernel
theorem dX0_addHandler_19 : decode cX0_addHandler 19 = .ok (.iload_n 2, 1) := by decide +kernel
theorem dX0_addHandler_20 : decode cX0_addHandler 20 = .ok (.iastore, 1) := by decide +kernel
theorem dX0_addHandler_21 : decode cX0_addHandler 21 = .ok (.aload_n 0, 1) := by decide +kernel
theorem dX0_addHandler_22 : decode cX0_addHandler 22 = .ok (.getfield 19, 3) := by decide +kernel
theorem dX0_addHandler_25 : decode cX0_addHandler 25 = .ok (.iload 4, 2) := by decide +kernel
theorem dX0_addHandler_27 : decode cX0_addHandler 27 = .ok (.iload_n 3, 1) := by decide +kernel
theorem dX0_addHandler_28 : decode cX0_addHandler 28 = .ok (.iastore, 1) := by decide +kernel
theorem dX0_addHandler_29 : decode cX0_addHandler 29 = .ok (.aload_n 0, 1) := by decide +kernel
theorem dX0_addHandler_30 : decode cX0_addHandler 30 = .ok (.getfield 22, 3) := by decide +kernel
theorem dX0_addHandler_33 : decode cX0_addHandler 33 = .ok (.iload 4, 2) := by decide +kernel
theorem dX0_addHandler_35 : decode cX0_addHandler 35 = .ok (.aload_n 0, 1) := by decide +kernel
theorem dX0_addHandler_36 : decode cX0_addHandler 36 = .ok (.getfield 29, 3) := by decide +kernel
theorem dX0_addHandler_39 : decode cX0_addHandler 39 = .ok (.iastore, 1) := by decide +kernel
theorem dX0_addHandler_40 : decode cX0_addHandler 40 = .ok (.aload_n 0, 1) := by decide +kernel
theorem dX0_addHandler_41 : decode cX0_addHandler 41 = .ok (.getfield 13, 3) := by decide +kernel
theorem dX0_addHandler_44 : decode cX0_addHandler 44 = .ok (.iload_n 1, 1) := by decide +kernel
theorem dX0_addHandler_45 : decode cX0_addHandler 45 = .ok (.dup2, 1) := by decide +kernel
theorem dX0_addHandler_46 : decode cX0_addHandler 46 = .ok (.iaload, 1) := by decide +kernel
theorem dX0_addHandler_47 : decode cX0_addHandler 47 = .ok (.iconst 1, 1) := by decide +kernel
theorem dX0_addHandler_48 : decode cX0_addHandler 48 = .ok (.iadd, 1) := by decide +kernel
theorem dX0_addHandler_49 : decode cX0_addHandler 49 = .ok (.iastore, 1) := by decide +kernel
theorem dX0_addHandler_50 : decode cX0_addHandler 50 = .ok (.aload_n 0, 1) := by decide +kernel
theorem dX0_addHandler_51 : decode cX0_addHandler 51 = .ok (.dup, 1) := by decide +kernel
theorem dX0_addHandler_52 : decode cX0_addHandler 52 = .ok (.getfield 29, 3) := by decide +kernel
theorem dX0_addHandler_55 : decode cX0_addHandler 55 = .ok (.iconst 1, 1) := by decide +kernel
theorem dX0_addHandler_56 : decode cX0_addHandler 56 = .ok (.iadd, 1) := by decide +kernel
theorem dX0_addHandler_57 : decode cX0_addHandler 57 = .ok (.putfield 29, 3) := by decide +kernel
theorem dX0_addHandler_60 : decode cX0_addHandler 60 = .ok (.aload_n 0, 1) := by decide +kernel
theorem dX0_addHandler_61 : decode cX0_addHandler 61 = .ok (.getfield 22, 3) := by decide +kernel
theorem dX0_addHandler_64 : decode cX0_addHandler 64 = .ok (.iload 4, 2) := by decide +kernel
theorem dX0_addHandler_66 : decode cX0_addHandler 66 = .ok (.iaload, 1) := by decide +kernel
theorem dX0_addHandler_67 : decode cX0_addHandler 67 = .ok (.ireturn, 1) := by decide +kernel
theorem dX0_removeHandler_0 : decode cX0_removeHandler 0 = .ok (.iload_n 1, 1) := by decide +kernel
theorem dX0_removeHandler_1 : decode cX0_removeHandler 1 = .ok (.bipush 6, 2) := by decide +kernel
theorem dX0_removeHandler_3 : decode cX0_removeHandler 3 = .ok (.imul, 1) := by decide +kernel
theorem dX0_removeHandler_4 : decode cX0_removeHandler 4 = .ok (.iload_n 2, 1) := by decide +kernel
theorem dX0_removeHandler_5 : decode cX0_removeHandler 5 = .ok (.iadd, 1) := by decide +kernel
theorem dX0_removeHandler_6 : decode cX0_removeHandler 6 = .ok (.istore_n 3, 1) := by decide +kernel
theorem dX0_removeHandler_7 : decode cX0_removeHandler 7 = .ok (.aload_n 0, 1) := by decide +kernel
theorem dX0_removeHandler_8 : decode cX0_removeHandler 8 = .ok (.getfield 22, 3) := by decide +kernel
theorem dX0_removeHandler_11 : decode cX0_removeHandler 11 = .ok (.iload_n 3, 1) := by decide +kernel
theorem dX0_removeHandler_12 : decode cX0_removeHandler 12 = .ok (.iaload, 1) := by decide +kernel
theorem dX0_removeHandler_13 : decode cX0_removeHandler 13 = .ok (.istore 4, 2) := by decide +kernel
theorem dX0_removeHandler_15 : decode cX0_removeHandler 15 = .ok (.aload_n 0, 1) := by decide +kernel
theorem dX0_removeHandler_16 : decode cX0_removeHandler 16 = .ok (.getfield 13, 3) := by decide +kernel
theorem dX0_removeHandler_19 : decode cX0_removeHandler 19 = .ok (.iload_n 1, 1) := by decide +kernel
theorem dX0_removeHandler_20 : decode cX0_removeHandler 20 = .ok (.iaload, 1) := by decide +kernel
theorem dX0_removeHandler_21 : decode cX0_removeHandler 21 = .ok (.iload_n 2, 1) := by decide +kernel
theorem dX0_removeHandler_22 : decode cX0_removeHandler 22 = .ok (.isub, 1) := by decide +kernel
theorem dX0_removeHandler_23 : decode cX0_removeHandler 23 = .ok (.iconst 1, 1) := by decide +kernel
theorem dX0_removeHandler_24 : decode cX0_removeHandler 24 = .ok (.isub, 1) := by decide +kernel
theorem dX0_removeHandler_25 : decode cX0_removeHandler 25 = .ok (.istore 5, 2) := by decide +kernel
theorem dX0_removeHandler_27 : decode cX0_removeHandler 27 = .ok (.aload_n 0, 1) := by decide +kernel
theorem dX0_removeHandler_28 : decode cX0_removeHandler 28 = .ok (.getfield 16, 3) := by decide +kernel
theorem dX0_removeHandler_31 : decode cX0_removeHandler 31 = .ok (.iload_n 3, 1) := by decide +kernel
theorem dX0_removeHandler_32 : decode cX0_removeHandler 32 = .ok (.iconst 1, 1) := by decide +kernel
theorem dX0_removeHandler_33 : decode cX0_removeHandler 33 = .ok (.iadd, 1) := by decide +kernel
theorem dX0_removeHandler_34 : decode cX0_removeHandler 34 = .ok (.aload_n 0, 1) := by decide +kernel
theorem dX0_removeHandler_35 : decode cX0_removeHandler 35 = .ok (.getfield 16, 3) := by decide +kernel
theorem dX0_removeHandler_38 : decode cX0_removeHandler 38 = .ok (.iload_n 3, 1) := by decide +kernel
theorem dX0_removeHandler_39 : decode cX0_removeHandler 39 = .ok (.iload 5, 2) := by decide +kernel
theorem dX0_removeHandler_41 : decode cX0_removeHandler 41 = .ok (.invokestatic 32, 3) := by decide +kernel
theorem dX0_removeHandler_44 : decode cX0_removeHandler 44 = .ok (.aload_n 0, 1) := by decide +kernel
theorem dX0_removeHandler_45 : decode cX0_removeHandler 45 = .ok (.getfield 19, 3) := by decide +kernel
theorem dX0_removeHandler_48 : decode cX0_removeHandler 48 = .ok (.iload_n 3, 1) := by decide +kernel
theorem dX0_removeHandler_49 : decode cX0_removeHandler 49 = .ok (.iconst 1, 1) := by decide +kernel
theorem dX0_removeHandler_50 : decode cX0_removeHandler 50 = .ok (.iadd, 1) := by decide +kernel
theorem dX0_removeHandler_51 : decode cX0_removeHandler 51 = .ok (.aload_n 0, 1) := by decide +kernel
theorem dX0_removeHandler_52 : decode cX0_removeHandler 52 = .ok (.getfield 19, 3) := by decide +kernel
theorem dX0_removeHandler_55 : decode cX0_removeHandler 55 = .ok (.iload_n 3, 1) := by decide +kernel
theorem dX0_removeHandler_56 : decode cX0_removeHandler 56 = .ok (.iload 5, 2) := by decide +kernel
theorem dX0_removeHandler_58 : decode cX0_removeHandler 58 = .ok (.invokestatic 32, 3) := by decide +kernel
theorem dX0_removeHandler_61 : decode cX0_removeHandler 61 = .ok (.aload_n 0, 1) := by decide +kernel
theorem dX0_removeHandler_62 : decode cX0_removeHandler 62 = .ok (.getfield 22, 3) := by decide +kernel
theorem dX0_removeHandler_65 : decode cX0_removeHandler 65 = .ok (.iload_n 3, 1) := by decide +kernel
theorem dX0_removeHandler_66 : decode cX0_removeHandler 66 = .ok (.iconst 1, 1) := by decide +kernel
theorem dX0_removeHandler_67 : decode cX0_removeHandler 67 = .ok (.iadd, 1) := by decide +kernel
theorem dX0_removeHandler_68 : decode cX0_removeHandler 68 = .ok (.aload_n 0, 1) := by decide +kernel
theorem dX0_removeHandler_69 : decode cX0_removeHandler 69 = .ok (.getfield 22, 3) := by decide +kernel
theorem dX0_removeHandler_72 : decode cX0_removeHandler 72 = .ok (.iload_n 3, 1) := by decide +kernel
theorem dX0_removeHandler_73 : decode cX0_removeHandler 73 = .ok (.iload 5, 2) := by decide +kernel
theorem dX0_removeHandler_75 : decode cX0_removeHandler 75 = .ok (.invokestatic 32, 3) := by decide +kernel
theorem dX0_removeHandler_78 : decode cX0_removeHandler 78 = .ok (.aload_n 0, 1) := by decide +kernel
theorem dX0_removeHandler_79 : decode cX0_removeHandler 79 = .ok (.getfield 13, 3) := by decide +kernel
theorem dX0_removeHandler_82 : decode cX0_removeHandler 82 = .ok (.iload_n 1, 1) := by decide +kernel
theorem dX0_removeHandler_83 : decode cX0_removeHandler 83 = .ok (.dup2, 1) := by decide +kernel
theorem dX0_removeHandler_84 : decode cX0_removeHandler 84 = .ok (.iaload, 1) := by decide +kernel
theorem dX0_removeHandler_85 : decode cX0_removeHandler 85 = .ok (.iconst 1, 1) := by decide +kernel
theorem dX0_removeHandler_86 : decode cX0_removeHandler 86 = .ok (.isub, 1) := by decide +kernel
theorem dX0_removeHandler_87 : decode cX0_removeHandler 87 = .ok (.iastore, 1) := by decide +kernel
theorem dX0_removeHandler_88 : decode cX0_removeHandler 88 = .ok (.iload 4, 2) := by decide +kernel
theorem dX0_removeHandler_90 : decode cX0_removeHandler 90 = .ok (.ireturn, 1) := by decide +kernel
theorem dX1_init_0 : decode cX1_init 0 = .ok (.aload_n 0, 1) := by decide +kernel
theorem dX1_init_1 : decode cX1_init 1 = .ok (.invokespecial 3, 3) := by decide +kernel
theorem dX1_init_4 : decode cX1_init 4 = .ok (.aload_n 0, 1) := by decide +kernel
theorem dX1_init_5 : decode cX1_init 5 = .ok (.new 9, 3) := by decide +kernel
theorem dX1_init_8 : decode cX1_init 8 = .ok (.dup, 1) := by decide +kernel
theorem dX1_init_9 : decode cX1_init 9 = .ok (.invokespecial 11, 3) := by decide +kernel
theorem dX1_init_12 : decode cX1_init 12 = .ok (.putfield 12, 3) := by decide +kernel
theorem dX1_init_15 : decode cX1_init 15 = .ok (.aload_n 0, 1) := by decide +kernel
theorem dX1_init_16 : decode cX1_init 16 = .ok (.new 18, 3) := by decide +kernel
theorem dX1_init_19 : decode cX1_init 19 = .ok (.dup, 1) := by decide +kernel
theorem dX1_init_20 : decode cX1_init 20 = .ok (.invokespecial 20, 3) := by decide +kernel
theorem dX1_init_23 : decode cX1_init 23 = .ok (.putfield 21, 3) := by decide +kernel
theorem dX1_init_26 : decode cX1_init 26 = .ok (.aload_n 0, 1) := by decide +kernel
theorem dX1_init_27 : decode cX1_init 27 = .ok (.iconst 1, 1) := by decide +kernel
theorem dX1_init_28 : decode cX1_init 28 = .ok (.putfield 25, 3) := by decide +kernel
theorem dX1_init_31 : decode cX1_init 31 = .ok (.aload_n 0, 1) := by decide +kernel
theorem dX1_init_32 : decode cX1_init 32 = .ok (.iconst (-1), 1) := by decide +kernel
theorem dX1_init_33 : decode cX1_init 33 = .ok (.putfield 29, 3) := by decide +kernel
theorem dX1_init_36 : decode cX1_init 36 = .ok (.return_, 1) := by decide +kernel
theorem dX1_isQuiet_0 : decode cX1_isQuiet 0 = .ok (.aload_n 0, 1) := by decide +kernel
theorem dX1_isQuiet_1 : decode cX1_isQuiet 1 = .ok (.getfield 32, 3) := by decide +kernel
theorem dX1_isQuiet_4 : decode cX1_isQuiet 4 = .ok (.ifCond .eq 33, 3) := by decide +kernel
theorem dX1_isQuiet_7 : decode cX1_isQuiet 7 = .ok (.lload_n 1, 1) := by decide +kernel
theorem dX1_isQuiet_8 : decode cX1_isQuiet 8 = .ok (.aload_n 0, 1) := by decide +kernel
theorem dX1_isQuiet_9 : decode cX1_isQuiet 9 = .ok (.getfield 35, 3) := by decide +kernel
theorem dX1_isQuiet_12 : decode cX1_isQuiet 12 = .ok (.lsub, 1) := by decide +kernel
theorem dX1_isQuiet_13 : decode cX1_isQuiet 13 = .ok (.aload_n 0, 1) := by decide +kernel
theorem dX1_isQuiet_14 : decode cX1_isQuiet 14 = .ok (.getfield 39, 3) := by decide +kernel
theorem dX1_isQuiet_17 : decode cX1_isQuiet 17 = .ok (.i2l, 1) := by decide +kernel
theorem dX1_isQuiet_18 : decode cX1_isQuiet 18 = .ok (.lcmp, 1) := by decide +kernel
theorem dX1_isQuiet_19 : decode cX1_isQuiet 19 = .ok (.ifCond .gt 18, 3) := by decide +kernel
theorem dX1_isQuiet_22 : decode cX1_isQuiet 22 = .ok (.lload_n 1, 1) := by decide +kernel
theorem dX1_isQuiet_23 : decode cX1_isQuiet 23 = .ok (.aload_n 0, 1) := by decide +kernel
theorem dX1_isQuiet_24 : decode cX1_isQuiet 24 = .ok (.getfield 42, 3) := by decide +kernel
theorem dX1_isQuiet_27 : decode cX1_isQuiet 27 = .ok (.lsub, 1) := by decide +kernel
theorem dX1_isQuiet_28 : decode cX1_isQuiet 28 = .ok (.aload_n 0, 1) := by decide +kernel
theorem dX1_isQuiet_29 : decode cX1_isQuiet 29 = .ok (.getfield 32, 3) := by decide +kernel
theorem dX1_isQuiet_32 : decode cX1_isQuiet 32 = .ok (.i2l, 1) := by decide +kernel
theorem dX1_isQuiet_33 : decode cX1_isQuiet 33 = .ok (.lcmp, 1) := by decide +kernel
theorem dX1_isQuiet_34 : decode cX1_isQuiet 34 = .ok (.ifCond .le 7, 3) := by decide +kernel
theorem dX1_isQuiet_37 : decode cX1_isQuiet 37 = .ok (.iconst 1, 1) := by decide +kernel
theorem dX1_isQuiet_38 : decode cX1_isQuiet 38 = .ok (.goto 4, 3) := by decide +kernel
theorem dX1_isQuiet_41 : decode cX1_isQuiet 41 = .ok (.iconst 0, 1) := by decide +kernel
theorem dX1_isQuiet_42 : decode cX1_isQuiet 42 = .ok (.ireturn, 1) := by decide +kernel
theorem dX2_init_0 : decode cX2_init 0 = .ok (.aload_n 0, 1) := by decide +kernel
theorem dX2_init_1 : decode cX2_init 1 = .ok (.invokespecial 1, 3) := by decide +kernel
theorem dX2_init_4 : decode cX2_init 4 = .ok (.aload_n 0, 1) := by decide +kernel
theorem dX2_init_5 : decode cX2_init 5 = .ok (.bipush 32, 2) := by decide +kernel
theorem dX2_init_7 : decode cX2_init 7 = .ok (.newarray .int, 2) := by decide +kernel
theorem dX2_init_9 : decode cX2_init 9 = .ok (.putfield 9, 3) := by decide +kernel
theorem dX2_init_12 : decode cX2_init 12 = .ok (.aload_n 0, 1) := by decide +kernel
theorem dX2_init_13 : decode cX2_init 13 = .ok (.bipush 32, 2) := by decide +kernel
theorem dX2_init_15 : decode cX2_init 15 = .ok (.newarray .int, 2) := by decide +kernel
theorem dX2_init_17 : decode cX2_init 17 = .ok (.putfield 13, 3) := by decide +kernel
theorem dX2_init_20 : decode cX2_init 20 = .ok (.aload_n 0, 1) := by decide +kernel
theorem dX2_init_21 : decode cX2_init 21 = .ok (.bipush 32, 2) := by decide +kernel
theorem dX2_init_23 : decode cX2_init 23 = .ok (.newarray .int, 2) := by decide +kernel
theorem dX2_init_25 : decode cX2_init 25 = .ok (.putfield 16, 3) := by decide +kernel
theorem dX2_init_28 : decode cX2_init 28 = .ok (.aload_n 0, 1) := by decide +kernel
theorem dX2_init_29 : decode cX2_init 29 = .ok (.bipush 32, 2) := by decide +kernel
theorem dX2_init_31 : decode cX2_init 31 = .ok (.newarray .boolean, 2) := by decide +kernel
theorem dX2_init_33 : decode cX2_init 33 = .ok (.putfield 19, 3) := by decide +kernel
theorem dX2_init_36 : decode cX2_init 36 = .ok (.aload_n 0, 1) := by decide +kernel
theorem dX2_init_37 : decode cX2_init 37 = .ok (.bipush 32, 2) := by decide +kernel
theorem dX2_init_39 : decode cX2_init 39 = .ok (.newarray .int, 2) := by decide +kernel
theorem dX2_init_41 : decode cX2_init 41 = .ok (.putfield 23, 3) := by decide +kernel
theorem dX2_init_44 : decode cX2_init 44 = .ok (.aload_n 0, 1) := by decide +kernel
theorem dX2_init_45 : decode cX2_init 45 = .ok (.sipush 192, 3) := by decide +kernel
theorem dX2_init_48 : decode cX2_init 48 = .ok (.newarray .int, 2) := by decide +kernel
theorem dX2_init_50 : decode cX2_init 50 = .ok (.putfield 26, 3) := by decide +kernel
theorem dX2_init_53 : decode cX2_init 53 = .ok (.return_, 1) := by decide +kernel
theorem dX2_has_0 : decode cX2_has 0 = .ok (.iload_n 1, 1) := by decide +kernel
theorem dX2_has_1 : decode cX2_has 1 = .ok (.ifCond .lt 15, 3) := by decide +kernel
theorem dX2_has_4 : decode cX2_has 4 = .ok (.iload_n 1, 1) := by decide +kernel
theorem dX2_has_5 : decode cX2_has 5 = .ok (.aload_n 0, 1) := by decide +kernel
theorem dX2_has_6 : decode cX2_has 6 = .ok (.getfield 29, 3) := by decide +kernel
theorem dX2_has_9 : decode cX2_has 9 = .ok (.if_icmp .ge 7, 3) := by decide +kernel
theorem dX2_has_12 : decode cX2_has 12 = .ok (.iconst 1, 1) := by decide +kernel
theorem dX2_has_13 : decode cX2_has 13 = .ok (.goto 4, 3) := by decide +kernel
theorem dX2_has_16 : decode cX2_has 16 = .ok (.iconst 0, 1) := by decide +kernel
theorem dX2_has_17 : decode cX2_has 17 = .ok (.ireturn, 1) := by decide +kernel
theorem dX2_add_0 : decode cX2_add 0 = .ok (.aload_n 0, 1) := by decide +kernel
theorem dX2_add_1 : decode cX2_add 1 = .ok (.getfield 9, 3) := by decide +kernel
theorem dX2_add_4 : decode cX2_add 4 = .ok (.aload_n 0, 1) := by decide +kernel
theorem dX2_add_5 : decode cX2_add 5 = .ok (.getfield 29, 3) := by decide +kernel
theorem dX2_add_8 : decode cX2_add 8 = .ok (.iload_n 1, 1) := by decide +kernel
theorem dX2_add_9 : decode cX2_add 9 = .ok (.iastore, 1) := by decide +kernel
theorem dX2_add_10 : decode cX2_add 10 = .ok (.aload_n 0, 1) := by decide +kernel
theorem dX2_add_11 : decode cX2_add 11 = .ok (.dup, 1) := by decide +kernel
theorem dX2_add_12 : decode cX2_add 12 = .ok (.getfield 29, 3) := by decide +kernel
theorem dX2_add_15 : decode cX2_add 15 = .ok (.iconst 1, 1) := by decide +kernel
theorem dX2_add_16 : decode cX2_add 16 = .ok (.iadd, 1) := by decide +kernel
theorem dX2_add_17 : decode cX2_add 17 = .ok (.putfield 29, 3) := by decide +kernel
theorem dX2_add_20 : decode cX2_add 20 = .ok (.aload_n 0, 1) := by decide +kernel
theorem dX2_add_21 : decode cX2_add 21 = .ok (.getfield 29, 3) := by decide +kernel
theorem dX2_add_24 : decode cX2_add 24 = .ok (.iconst 1, 1) := by decide +kernel
theorem dX2_add_25 : decode cX2_add 25 = .ok (.isub, 1) := by decide +kernel
theorem dX2_add_26 : decode cX2_add 26 = .ok (.ireturn, 1) := by decide +kernel
theorem dX2_isPending_0 : decode cX2_isPending 0 = .ok (.aload_n 0, 1) := by decide +kernel
theorem dX2_isPending_1 : decode cX2_isPending 1 = .ok (.getfield 13, 3) := by decide +kernel
theorem dX2_isPending_4 : decode cX2_isPending 4 = .ok (.iload_n 1, 1) := by decide +kernel
theorem dX2_isPending_5 : decode cX2_isPending 5 = .ok (.iaload, 1) := by decide +kernel
theorem dX2_isPending_6 : decode cX2_isPending 6 = .ok (.ifCond .ne 7, 3) := by decide +kernel
theorem dX2_isPending_9 : decode cX2_isPending 9 = .ok (.iconst 1, 1) := by decide +kernel
theorem dX2_isPending_10 : decode cX2_isPending 10 = .ok (.goto 4, 3) := by decide +kernel
theorem dX2_isPending_13 : decode cX2_isPending 13 = .ok (.iconst 0, 1) := by decide +kernel
theorem dX2_isPending_14 : decode cX2_isPending 14 = .ok (.ireturn, 1) := by decide +kernel
theorem dX2_pin_0 : decode cX2_pin 0 = .ok (.aload_n 0, 1) := by decide +kernel
theorem dX2_pin_1 : decode cX2_pin 1 = .ok (.iload_n 1, 1) := by decide +kernel
theorem dX2_pin_2 : decode cX2_pin 2 = .ok (.invokevirtual 33, 3) := by decide +kernel
theorem dX2_pin_5 : decode cX2_pin 5 = .ok (.ifCond .ne 5, 3) := by decide +kernel
theorem dX2_pin_8 : decode cX2_pin 8 = .ok (.iconst 0, 1) := by decide +kernel
theorem dX2_pin_9 : decode cX2_pin 9 = .ok (.ireturn, 1) := by decide +kernel
theorem dX2_pin_10 : decode cX2_pin 10 = .ok (.aload_n 0, 1) := by decide +kernel
theorem dX2_pin_11 : decode cX2_pin 11 = .ok (.getfield 19, 3) := by decide +kernel
theorem dX2_pin_14 : decode cX2_pin 14 = .ok (.iload_n 1, 1) := by decide +kernel
theorem dX2_pin_15 : decode cX2_pin 15 = .ok (.iconst 1, 1) := by decide +kernel
theorem dX2_pin_16 : decode cX2_pin 16 = .ok (.bastore, 1) := by decide +kernel
theorem dX2_pin_17 : decode cX2_pin 17 = .ok (.iconst 1, 1) := by decide +kernel
theorem dX2_pin_18 : decode cX2_pin 18 = .ok (.ireturn, 1) := by decide +kernel
theorem dX2_close_0 : decode cX2_close 0 = .ok (.aload_n 0, 1) := by decide +kernel
theorem dX2_close_1 : decode cX2_close 1 = .ok (.iload_n 1, 1) := by decide +kernel
theorem dX2_close_2 : decode cX2_close 2 = .ok (.invokevirtual 33, 3) := by decide +kernel
theorem dX2_close_5 : decode cX2_close 5 = .ok (.ifCond .eq 17, 3) := by decide +kernel
theorem dX2_close_8 : decode cX2_close 8 = .ok (.iload_n 2, 1) := by decide +kernel
theorem dX2_close_9 : decode cX2_close 9 = .ok (.iconst 3, 1) := by decide +kernel
theorem dX2_close_10 : decode cX2_close 10 = .ok (.if_icmp .ne 14, 3) := by decide +kernel
theorem dX2_close_13 : decode cX2_close 13 = .ok (.aload_n 0, 1) := by decide +kernel
theorem dX2_close_14 : decode cX2_close 14 = .ok (.getfield 19, 3) := by decide +kernel
theorem dX2_close_17 : decode cX2_close 17 = .ok (.iload_n 1, 1) := by decide +kernel
theorem dX2_close_18 : decode cX2_close 18 = .ok (.baload, 1) := by decide +kernel
theorem dX2_close_19 : decode cX2_close 19 = .ok (.ifCond .eq 5, 3) := by decide +kernel
theorem dX2_close_22 : decode cX2_close 22 = .ok (.iconst 0, 1) := by decide +kernel
theorem dX2_close_23 : decode cX2_close 23 = .ok (.ireturn, 1) := by decide +kernel
theorem dX2_close_24 : decode cX2_close 24 = .ok (.aload_n 0, 1) := by decide +kernel
theorem dX2_close_25 : decode cX2_close 25 = .ok (.getfield 13, 3) := by decide +kernel
theorem dX2_close_28 : decode cX2_close 28 = .ok (.iload_n 1, 1) := by decide +kernel
theorem dX2_close_29 : decode cX2_close 29 = .ok (.iload_n 2, 1) := by decide +kernel
theorem dX2_close_30 : decode cX2_close 30 = .ok (.iastore, 1) := by decide +kernel
theorem dX2_close_31 : decode cX2_close 31 = .ok (.aload_n 0, 1) := by decide +kernel
theorem dX2_close_32 : decode cX2_close 32 = .ok (.getfield 16, 3) := by decide +kernel
theorem dX2_close_35 : decode cX2_close 35 = .ok (.iload_n 1, 1) := by decide +kernel
theorem dX2_close_36 : decode cX2_close 36 = .ok (.iload_n 2, 1) := by decide +kernel
theorem dX2_close_37 : decode cX2_close 37 = .ok (.iconst 3, 1) := by decide +kernel
theorem dX2_close_38 : decode cX2_close 38 = .ok (.if_icmp .ne 7, 3) := by decide +kernel
theorem dX2_close_41 : decode cX2_close 41 = .ok (.iconst 0, 1) := by decide +kernel
theorem dX2_close_42 : decode cX2_close 42 = .ok (.goto 4, 3) := by decide +kernel
theorem dX2_close_45 : decode cX2_close 45 = .ok (.iload_n 3, 1) := by decide +kernel
theorem dX2_close_46 : decode cX2_close 46 = .ok (.iastore, 1) := by decide +kernel
theorem dX2_close_47 : decode cX2_close 47 = .ok (.iconst 1, 1) := by decide +kernel
theorem dX2_close_48 : decode cX2_close 48 = .ok (.ireturn, 1) := by decide +kernel
theorem dX2_takesListener_0 : decode cX2_takesListener 0 = .ok (.aload_n 0, 1) := by decide +kernel
theorem dX2_takesListener_1 : decode cX2_takesListener 1 = .ok (.iload_n 1, 1) := by decide +kernel
theorem dX2_takesListener_2 : decode cX2_takesListener 2 = .ok (.invokevirtual 33, 3) := by decide +kernel
theorem dX2_takesListener_5 : decode cX2_takesListener 5 = .ok (.ifCond .eq 14, 3) := by decide +kernel
theorem dX2_takesListener_8 : decode cX2_takesListener 8 = .ok (.aload_n 0, 1) := by decide +kernel
theorem dX2_takesListener_9 : decode cX2_takesListener 9 = .ok (.getfield 23, 3) := by decide +kernel
theorem dX2_takesListener_12 : decode cX2_takesListener 12 = .ok (.iload_n 1, 1) := by decide +kernel
theorem dX2_takesListener_13 : decode cX2_takesListener 13 = .ok (.iaload, 1) := by decide +kernel
theorem dX2_takesListener_14 : decode cX2_takesListener 14 = .ok (.bipush 6, 2) := by decide +kernel
theorem dX2_takesListener_16 : decode cX2_takesListener 16 = .ok (.if_icmp .ge 7, 3) := by decide +kernel
theorem dX2_takesListener_19 : decode cX2_takesListener 19 = .ok (.iconst 1, 1) := by decide +kernel
theorem dX2_takesListener_20 : decode cX2_takesListener 20 = .ok (.goto 4, 3) := by decide +kernel
theorem dX2_takesListener_23 : decode cX2_takesListener 23 = .ok (.iconst 0, 1) := by decide +kernel
theorem dX2_takesListener_24 : decode cX2_takesListener 24 = .ok (.ireturn, 1) := by decide +kernel
theorem dX2_addWaiting_0 : decode cX2_addWaiting 0 = .ok (.aload_n 0, 1) := by decide +kernel
theorem dX2_addWaiting_1 : decode cX2_addWaiting 1 = .ok (.getfield 26, 3) := by decide +kernel
theorem dX2_addWaiting_4 : decode cX2_addWaiting 4 = .ok (.iload_n 1, 1) := by decide +kernel
theorem dX2_addWaiting_5 : decode cX2_addWaiting 5 = .ok (.bipush 6, 2) := by decide +kernel
theorem dX2_addWaiting_7 : decode cX2_addWaiting 7 = .ok (.imul, 1) := by decide +kernel
theorem dX2_addWaiting_8 : decode cX2_addWaiting 8 = .ok (.aload_n 0, 1) := by decide +kernel
theorem dX2_addWaiting_9 : decode cX2_addWaiting 9 = .ok (.getfield 23, 3) := by decide +kernel
theorem dX2_addWaiting_12 : decode cX2_addWaiting 12 = .ok (.iload_n 1, 1) := by decide +kernel
theorem dX2_addWaiting_13 : decode cX2_addWaiting 13 = .ok (.iaload, 1) := by decide +kernel
theorem dX2_addWaiting_14 : decode cX2_addWaiting 14 = .ok (.iadd, 1) := by decide +kernel
theorem dX2_addWaiting_15 : decode cX2_addWaiting 15 = .ok (.iload_n 2, 1) := by decide +kernel
theorem dX2_addWaiting_16 : decode cX2_addWaiting 16 = .ok (.iastore, 1) := by decide +kernel
theorem dX2_addWaiting_17 : decode cX2_addWaiting 17 = .ok (.aload_n 0, 1) := by decide +kernel
theorem dX2_addWaiting_18 : decode cX2_addWaiting 18 = .ok (.getfield 23, 3) := by decide +kernel
theorem dX2_addWaiting_21 : decode cX2_addWaiting 21 = .ok (.iload_n 1, 1) := by decide +kernel
theorem dX2_addWaiting_22 : decode cX2_addWaiting 22 = .ok (.dup2, 1) := by decide +kernel
theorem dX2_addWaiting_23 : decode cX2_addWaiting 23 = .ok (.iaload, 1) := by decide +kernel
theorem dX2_addWaiting_24 : decode cX2_addWaiting 24 = .ok (.iconst 1, 1) := by decide +kernel
theorem dX2_addWaiting_25 : decode cX2_addWaiting 25 = .ok (.iadd, 1) := by decide +kernel
theorem dX2_addWaiting_26 : decode cX2_addWaiting 26 = .ok (.iastore, 1) := by decide +kernel
theorem dX2_addWaiting_27 : decode cX2_addWaiting 27 = .ok (.return_, 1) := by decide +kernel
theorem dX3_init_0 : decode cX3_init 0 = .ok (.aload_n 0, 1) := by decide +kernel
theorem dX3_init_1 : decode cX3_init 1 = .ok (.invokespecial 1, 3) := by decide +kernel
theorem dX3_init_4 : decode cX3_init 4 = .ok (.aload_n 0, 1) := by decide +kernel
theorem dX3_init_5 : decode cX3_init 5 = .ok (.bipush 24, 2) := by decide +kernel
theorem dX3_init_7 : decode cX3_init 7 = .ok (.newarray .int, 2) := by decide +kernel
theorem dX3_init_9 : decode cX3_init 9 = .ok (.putfield 9, 3) := by decide +kernel
theorem dX3_init_12 : decode cX3_init 12 = .ok (.aload_n 0, 1) := by decide +kernel
theorem dX3_init_13 : decode cX3_init 13 = .ok (.bipush 24, 2) := by decide +kernel
theorem dX3_init_15 : decode cX3_init 15 = .ok (.newarray .int, 2) := by decide +kernel
theorem dX3_init_17 : decode cX3_init 17 = .ok (.putfield 13, 3) := by decide +kernel
theorem dX3_init_20 : decode cX3_init 20 = .ok (.aload_n 0, 1) := by decide +kernel
theorem dX3_init_21 : decode cX3_init 21 = .ok (.bipush 24, 2) := by decide +kernel
theorem dX3_init_23 : decode cX3_init 23 = .ok (.newarray .int, 2) := by decide +kernel
theorem dX3_init_25 : decode cX3_init 25 = .ok (.putfield 16, 3) := by decide +kernel
theorem dX3_init_28 : decode cX3_init 28 = .ok (.return_, 1) := by decide +kernel
theorem dX3_isFull_0 : decode cX3_isFull 0 = .ok (.aload_n 0, 1) := by decide +kernel
theorem dX3_isFull_1 : decode cX3_isFull 1 = .ok (.getfield 19, 3) := by decide +kernel
theorem dX3_isFull_4 : decode cX3_isFull 4 = .ok (.bipush 24, 2) := by decide +kernel
theorem dX3_isFull_6 : decode cX3_isFull 6 = .ok (.if_icmp .lt 7, 3) := by decide +kernel
theorem dX3_isFull_9 : decode cX3_isFull 9 = .ok (.iconst 1, 1) := by decide +kernel
theorem dX3_isFull_10 : decode cX3_isFull 10 = .ok (.goto 4, 3) := by decide +kernel
theorem dX3_isFull_13 : decode cX3_isFull 13 = .ok (.iconst 0, 1) := by decide +kernel
theorem dX3_isFull_14 : decode cX3_isFull 14 = .ok (.ireturn, 1) := by decide +kernel
theorem dX3_put_0 : decode cX3_put 0 = .ok (.aload_n 0, 1) := by decide +kernel
theorem dX3_put_1 : decode cX3_put 1 = .ok (.getfield 23, 3) := by decide +kernel
theorem dX3_put_4 : decode cX3_put 4 = .ok (.aload_n 0, 1) := by decide +kernel
theorem dX3_put_5 : decode cX3_put 5 = .ok (.getfield 19, 3) := by decide +kernel
theorem dX3_put_8 : decode cX3_put 8 = .ok (.iadd, 1) := by decide +kernel
theorem dX3_put_9 : decode cX3_put 9 = .ok (.bipush 24, 2) := by decide +kernel
theorem dX3_put_11 : decode cX3_put 11 = .ok (.irem, 1) := by decide +kernel
theorem dX3_put_12 : decode cX3_put 12 = .ok (.istore 4, 2) := by decide +kernel
theorem dX3_put_14 : decode cX3_put 14 = .ok (.aload_n 0, 1) := by decide +kernel
theorem dX3_put_15 : decode cX3_put 15 = .ok (.getfield 9, 3) := by decide +kernel
theorem dX3_put_18 : decode cX3_put 18 = .ok (.iload 4, 2) := by decide +kernel
theorem dX3_put_20 : decode cX3_put 20 = .ok (.iload_n 1, 1) := by decide +kernel
theorem dX3_put_21 : decode cX3_put 21 = .ok (.iastore, 1) := by decide +kernel
theorem dX3_put_22 : decode cX3_put 22 = .ok (.aload_n 0, 1) := by decide +kernel
theorem dX3_put_23 : decode cX3_put 23 = .ok (.getfield 13, 3) := by decide +kernel
theorem dX3_put_26 : decode cX3_put 26 = .ok (.iload 4, 2) := by decide +kernel
theorem dX3_put_28 : decode cX3_put 28 = .ok (.iload_n 2, 1) := by decide +kernel
theorem dX3_put_29 : decode cX3_put 29 = .ok (.iastore, 1) := by decide +kernel
theorem dX3_put_30 : decode cX3_put 30 = .ok (.aload_n 0, 1) := by decide +kernel
theorem dX3_put_31 : decode cX3_put 31 = .ok (.getfield 16, 3) := by decide +kernel
theorem dX3_put_34 : decode cX3_put 34 = .ok (.iload 4, 2) := by decide +kernel
theorem dX3_put_36 : decode cX3_put 36 = .ok (.iload_n 3, 1) := by decide +kernel
theorem dX3_put_37 : decode cX3_put 37 = .ok (.iastore, 1) := by decide +kernel
theorem dX3_put_38 : decode cX3_put 38 = .ok (.aload_n 0, 1) := by decide +kernel
theorem dX3_put_39 : decode cX3_put 39 = .ok (.dup, 1) := by decide +kernel
theorem dX3_put_40 : decode cX3_put 40 = .ok (.getfield 19, 3) := by decide +kernel
theorem dX3_put_43 : decode cX3_put 43 = .ok (.iconst 1, 1) := by decide +kernel
theorem dX3_put_44 : decode cX3_put 44 = .ok (.iadd, 1) := by decide +kernel
theorem dX3_put_45 : decode cX3_put 45 = .ok (.putfield 19, 3) := by decide +kernel
theorem dX3_put_48 : decode cX3_put 48 = .ok (.return_, 1) := by decide +kernel
theorem dX3_dropFirst_0 : decode cX3_dropFirst 0 = .ok (.aload_n 0, 1) := by decide +kernel
theorem dX3_dropFirst_1 : decode cX3_dropFirst 1 = .ok (.aload_n 0, 1) := by decide +kernel
theorem dX3_dropFirst_2 : decode cX3_dropFirst 2 = .ok (.getfield 23, 3) := by decide +kernel
theorem dX3_dropFirst_5 : decode cX3_dropFirst 5 = .ok (.iconst 1, 1) := by decide +kernel
theorem dX3_dropFirst_6 : decode cX3_dropFirst 6 = .ok (.iadd, 1) := by decide +kernel
theorem dX3_dropFirst_7 : decode cX3_dropFirst 7 = .ok (.bipush 24, 2) := by decide +kernel
theorem dX3_dropFirst_9 : decode cX3_dropFirst 9 = .ok (.irem, 1) := by decide +kernel
theorem dX3_dropFirst_10 : decode cX3_dropFirst 10 = .ok (.putfield 23, 3) := by decide +kernel
theorem dX3_dropFirst_13 : decode cX3_dropFirst 13 = .ok (.aload_n 0, 1) := by decide +kernel
theorem dX3_dropFirst_14 : decode cX3_dropFirst 14 = .ok (.dup, 1) := by decide +kernel
theorem dX3_dropFirst_15 : decode cX3_dropFirst 15 = .ok (.getfield 19, 3) := by decide +kernel
theorem dX3_dropFirst_18 : decode cX3_dropFirst 18 = .ok (.iconst 1, 1) := by decide +kernel
theorem dX3_dropFirst_19 : decode cX3_dropFirst 19 = .ok (.isub, 1) := by decide +kernel
theorem dX3_dropFirst_20 : decode cX3_dropFirst 20 = .ok (.putfield 19, 3) := by decide +kernel
theorem dX3_dropFirst_23 : decode cX3_dropFirst 23 = .ok (.return_, 1) := by decide +kernel
theorem dX4_init_0 : decode cX4_init 0 = .ok (.aload_n 0, 1) := by decide +kernel
theorem dX4_init_1 : decode cX4_init 1 = .ok (.invokespecial 3, 3) := by decide +kernel
theorem dX4_init_4 : decode cX4_init 4 = .ok (.aload_n 0, 1) := by decide +kernel
theorem dX4_init_5 : decode cX4_init 5 = .ok (.new 9, 3) := by decide +kernel
theorem dX4_init_8 : decode cX4_init 8 = .ok (.dup, 1) := by decide +kernel
theorem dX4_init_9 : decode cX4_init 9 = .ok (.invokespecial 11, 3) := by decide +kernel
theorem dX4_init_12 : decode cX4_init 12 = .ok (.putfield 12, 3) := by decide +kernel
theorem dX4_init_15 : decode cX4_init 15 = .ok (.aload_n 0, 1) := by decide +kernel
theorem dX4_init_16 : decode cX4_init 16 = .ok (.new 18, 3) := by decide +kernel
theorem dX4_init_19 : decode cX4_init 19 = .ok (.dup, 1) := by decide +kernel
theorem dX4_init_20 : decode cX4_init 20 = .ok (.invokespecial 20, 3) := by decide +kernel
theorem dX4_init_23 : decode cX4_init 23 = .ok (.putfield 21, 3) := by decide +kernel
theorem dX4_init_26 : decode cX4_init 26 = .ok (.aload_n 0, 1) := by decide +kernel
theorem dX4_init_27 : decode cX4_init 27 = .ok (.new 25, 3) := by decide +kernel
theorem dX4_init_30 : decode cX4_init 30 = .ok (.dup, 1) := by decide +kernel
theorem dX4_init_31 : decode cX4_init 31 = .ok (.invokespecial 27, 3) := by decide +kernel
theorem dX4_init_34 : decode cX4_init 34 = .ok (.putfield 28, 3) := by decide +kernel
theorem dX4_init_37 : decode cX4_init 37 = .ok (.aload_n 0, 1) := by decide +kernel
theorem dX4_init_38 : decode cX4_init 38 = .ok (.new 32, 3) := by decide +kernel
theorem dX4_init_41 : decode cX4_init 41 = .ok (.dup, 1) := by decide +kernel
theorem dX4_init_42 : decode cX4_init 42 = .ok (.iload_n 1, 1) := by decide +kernel
theorem dX4_init_43 : decode cX4_init 43 = .ok (.invokespecial 34, 3) := by decide +kernel
theorem dX4_init_46 : decode cX4_init 46 = .ok (.putfield 37, 3) := by decide +kernel
theorem dX4_init_49 : decode cX4_init 49 = .ok (.aload_n 0, 1) := by decide +kernel
theorem dX4_init_50 : decode cX4_init 50 = .ok (.aload_n 0, 1) := by decide +kernel
theorem dX4_init_51 : decode cX4_init 51 = .ok (.getfield 37, 3) := by decide +kernel
theorem dX4_init_54 : decode cX4_init 54 = .ok (.getfield 41, 3) := by decide +kernel
theorem dX4_init_57 : decode cX4_init 57 = .ok (.putfield 45, 3) := by decide +kernel
theorem dX4_init_60 : decode cX4_init 60 = .ok (.return_, 1) := by decide +kernel
theorem dX4_takeStep_0 : decode cX4_takeStep 0 = .ok (.aload_n 0, 1) := by decide +kernel
theorem dX4_takeStep_1 : decode cX4_takeStep 1 = .ok (.getfield 37, 3) := by decide +kernel
theorem dX4_takeStep_4 : decode cX4_takeStep 4 = .ok (.getfield 46, 3) := by decide +kernel
theorem dX4_takeStep_7 : decode cX4_takeStep 7 = .ok (.iload_n 1, 1) := by decide +kernel
theorem dX4_takeStep_8 : decode cX4_takeStep 8 = .ok (.aaload, 1) := by decide +kernel
theorem dX4_takeStep_9 : decode cX4_takeStep 9 = .ok (.astore_n 2, 1) := by decide +kernel
theorem dX4_takeStep_10 : decode cX4_takeStep 10 = .ok (.aload_n 2, 1) := by decide +kernel
theorem dX4_takeStep_11 : decode cX4_takeStep 11 = .ok (.getfield 50, 3) := by decide +kernel
theorem dX4_takeStep_14 : decode cX4_takeStep 14 = .ok (.iconst 1, 1) := by decide +kernel
theorem dX4_takeStep_15 : decode cX4_takeStep 15 = .ok (.if_icmp .eq 11, 3) := by decide +kernel
theorem dX4_takeStep_18 : decode cX4_takeStep 18 = .ok (.aload_n 2, 1) := by decide +kernel
theorem dX4_takeStep_19 : decode cX4_takeStep 19 = .ok (.getfield 50, 3) := by decide +kernel
theorem dX4_takeStep_22 : decode cX4_takeStep 22 = .ok (.iconst 5, 1) := by decide +kernel
theorem dX4_takeStep_23 : decode cX4_takeStep 23 = .ok (.if_icmp .ne 5, 3) := by decide +kernel
theorem dX4_takeStep_26 : decode cX4_takeStep 26 = .ok (.iconst 0, 1) := by decide +kernel
theorem dX4_takeStep_27 : decode cX4_takeStep 27 = .ok (.ireturn, 1) := by decide +kernel
theorem dX4_takeStep_28 : decode cX4_takeStep 28 = .ok (.aload_n 2, 1) := by decide +kernel
theorem dX4_takeStep_29 : decode cX4_takeStep 29 = .ok (.getfield 50, 3) := by decide +kernel
theorem dX4_takeStep_32 : decode cX4_takeStep 32 = .ok (.iconst 3, 1) := by decide +kernel
theorem dX4_takeStep_33 : decode cX4_takeStep 33 = .ok (.if_icmp .ne 11, 3) := by decide +kernel
theorem dX4_takeStep_36 : decode cX4_takeStep 36 = .ok (.aload_n 2, 1) := by decide +kernel
theorem dX4_takeStep_37 : decode cX4_takeStep 37 = .ok (.getfield 56, 3) := by decide +kernel
theorem dX4_takeStep_40 : decode cX4_takeStep 40 = .ok (.iconst 0, 1) := by decide +kernel
theorem dX4_takeStep_41 : decode cX4_takeStep 41 = .ok (.putfield 60, 3) := by decide +kernel
theorem dX4_takeStep_44 : decode cX4_takeStep 44 = .ok (.aload_n 0, 1) := by decide +kernel
theorem dX4_takeStep_45 : decode cX4_takeStep 45 = .ok (.iconst 0, 1) := by decide +kernel
theorem dX4_takeStep_46 : decode cX4_takeStep 46 = .ok (.putfield 65, 3) := by decide +kernel
theorem dX4_takeStep_49 : decode cX4_takeStep 49 = .ok (.aload_n 2, 1) := by decide +kernel
theorem dX4_takeStep_50 : decode cX4_takeStep 50 = .ok (.getfield 68, 3) := by decide +kernel
theorem dX4_takeStep_53 : decode cX4_takeStep 53 = .ok (.iconst (-1), 1) := by decide +kernel
theorem dX4_takeStep_54 : decode cX4_takeStep 54 = .ok (.if_icmp .eq 10, 3) := by decide +kernel
theorem dX4_takeStep_57 : decode cX4_takeStep 57 = .ok (.aload_n 0, 1) := by decide +kernel
theorem dX4_takeStep_58 : decode cX4_takeStep 58 = .ok (.iload_n 1, 1) := by decide +kernel
theorem dX4_takeStep_59 : decode cX4_takeStep 59 = .ok (.aload_n 2, 1) := by decide +kernel
theorem dX4_takeStep_60 : decode cX4_takeStep 60 = .ok (.invokevirtual 71, 3) := by decide +kernel
theorem dX4_takeStep_63 : decode cX4_takeStep 63 = .ok (.ireturn, 1) := by decide +kernel
theorem dX4_takeStep_64 : decode cX4_takeStep 64 = .ok (.aload_n 2, 1) := by decide +kernel
theorem dX4_takeStep_65 : decode cX4_takeStep 65 = .ok (.getfield 75, 3) := by decide +kernel
theorem dX4_takeStep_68 : decode cX4_takeStep 68 = .ok (.ifCond .ne 11, 3) := by decide +kernel
theorem dX4_takeStep_71 : decode cX4_takeStep 71 = .ok (.aload_n 0, 1) := by decide +kernel
theorem dX4_takeStep_72 : decode cX4_takeStep 72 = .ok (.getfield 37, 3) := by decide +kernel
theorem dX4_takeStep_75 : decode cX4_takeStep 75 = .ok (.aload_n 2, 1) := by decide +kernel
theorem dX4_takeStep_76 : decode cX4_takeStep 76 = .ok (.invokevirtual 78, 3) := by decide +kernel
theorem dX4_takeStep_79 : decode cX4_takeStep 79 = .ok (.aload_n 2, 1) := by decide +kernel
theorem dX4_takeStep_80 : decode cX4_takeStep 80 = .ok (.getfield 82, 3) := by decide +kernel
theorem dX4_takeStep_83 : decode cX4_takeStep 83 = .ok (.getfield 86, 3) := by decide +kernel
theorem dX4_takeStep_86 : decode cX4_takeStep 86 = .ok (.ifCond .ne 20, 3) := by decide +kernel
theorem dX4_takeStep_89 : decode cX4_takeStep 89 = .ok (.aload_n 0, 1) := by decide +kernel
theorem dX4_takeStep_90 : decode cX4_takeStep 90 = .ok (.getfield 37, 3) := by decide +kernel
theorem dX4_takeStep_93 : decode cX4_takeStep 93 = .ok (.iload_n 1, 1) := by decide +kernel
theorem dX4_takeStep_94 : decode cX4_takeStep 94 = .ok (.invokevirtual 89, 3) := by decide +kernel
theorem dX4_takeStep_97 : decode cX4_takeStep 97 = .ok (.ifCond .eq 7, 3) := by decide +kernel
theorem dX4_takeStep_100 : decode cX4_takeStep 100 = .ok (.iconst 3, 1) := by decide +kernel
theorem dX4_takeStep_101 : decode cX4_takeStep 101 = .ok (.goto 4, 3) := by decide +kernel
theorem dX4_takeStep_104 : decode cX4_takeStep 104 = .ok (.iconst 0, 1) := by decide +kernel
theorem dX4_takeStep_105 : decode cX4_takeStep 105 = .ok (.ireturn, 1) := by decide +kernel
theorem dX4_takeStep_106 : decode cX4_takeStep 106 = .ok (.aload_n 0, 1) := by decide +kernel
theorem dX4_takeStep_107 : decode cX4_takeStep 107 = .ok (.iload_n 1, 1) := by decide +kernel
theorem dX4_takeStep_108 : decode cX4_takeStep 108 = .ok (.aload_n 2, 1) := by decide +kernel
theorem dX4_takeStep_109 : decode cX4_takeStep 109 = .ok (.invokevirtual 93, 3) := by decide +kernel
theorem dX4_takeStep_112 : decode cX4_takeStep 112 = .ok (.iconst 1, 1) := by decide +kernel
theorem dX4_takeStep_113 : decode cX4_takeStep 113 = .ok (.ireturn, 1) := by decide +kernel
theorem dX4_resume_0 : decode cX4_resume 0 = .ok (.aload_n 2, 1) := by decide +kernel
theorem dX4_resume_1 : decode cX4_resume 1 = .ok (.getfield 68, 3) := by decide +kernel
theorem dX4_resume_4 : decode cX4_resume 4 = .ok (.istore_n 3, 1) := by decide +kernel
theorem dX4_resume_5 : decode cX4_resume 5 = .ok (.aload_n 0, 1) := by decide +kernel
theorem dX4_resume_6 : decode cX4_resume 6 = .ok (.getfield 21, 3) := by decide +kernel
theorem dX4_resume_9 : decode cX4_resume 9 = .ok (.iload_n 3, 1) := by decide +kernel
theorem dX4_resume_10 : decode cX4_resume 10 = .ok (.invokevirtual 97, 3) := by decide +kernel
theorem dX4_resume_13 : decode cX4_resume 13 = .ok (.ifCond .eq 5, 3) := by decide +kernel
theorem dX4_resume_16 : decode cX4_resume 16 = .ok (.iconst 2, 1) := by decide +kernel
theorem dX4_resume_17 : decode cX4_resume 17 = .ok (.ireturn, 1) := by decide +kernel
theorem dX4_resume_18 : decode cX4_resume 18 = .ok (.aload_n 2, 1) := by decide +kernel
theorem dX4_resume_19 : decode cX4_resume 19 = .ok (.iconst (-1), 1) := by decide +kernel
theorem dX4_resume_20 : decode cX4_resume 20 = .ok (.putfield 68, 3) := by decide +kernel
theorem dX4_resume_23 : decode cX4_resume 23 = .ok (.aload_n 0, 1) := by decide +kernel
theorem dX4_resume_24 : decode cX4_resume 24 = .ok (.getfield 45, 3) := by decide +kernel
theorem dX4_resume_27 : decode cX4_resume 27 = .ok (.iload_n 1, 1) := by decide +kernel
theorem dX4_resume_28 : decode cX4_resume 28 = .ok (.bipush 10, 2) := by decide +kernel
theorem dX4_resume_30 : decode cX4_resume 30 = .ok (.iload_n 3, 1) := by decide +kernel
theorem dX4_resume_31 : decode cX4_resume 31 = .ok (.invokevirtual 102, 3) := by decide +kernel
theorem dX4_resume_34 : decode cX4_resume 34 = .ok (.aload_n 0, 1) := by decide +kernel
theorem dX4_resume_35 : decode cX4_resume 35 = .ok (.iload_n 1, 1) := by decide +kernel
theorem dX4_resume_36 : decode cX4_resume 36 = .ok (.aload_n 2, 1) := by decide +kernel
theorem dX4_resume_37 : decode cX4_resume 37 = .ok (.getfield 106, 3) := by decide +kernel
theorem dX4_resume_40 : decode cX4_resume 40 = .ok (.aload_n 2, 1) := by decide +kernel
theorem dX4_resume_41 : decode cX4_resume 41 = .ok (.getfield 109, 3) := by decide +kernel
theorem dX4_resume_44 : decode cX4_resume 44 = .ok (.invokevirtual 112, 3) := by decide +kernel
theorem dX4_resume_47 : decode cX4_resume 47 = .ok (.iconst 1, 1) := by decide +kernel
theorem dX4_resume_48 : decode cX4_resume 48 = .ok (.ireturn, 1) := by decide +kernel
theorem dX4_beginFirst_0 : decode cX4_beginFirst 0 = .ok (.aload_n 2, 1) := by decide +kernel
theorem dX4_beginFirst_1 : decode cX4_beginFirst 1 = .ok (.getfield 82, 3) := by decide +kernel
theorem dX4_beginFirst_4 : decode cX4_beginFirst 4 = .ok (.getfield 115, 3) := by decide +kernel
theorem dX4_beginFirst_7 : decode cX4_beginFirst 7 = .ok (.istore_n 3, 1) := by decide +kernel
theorem dX4_beginFirst_8 : decode cX4_beginFirst 8 = .ok (.aload_n 2, 1) := by decide +kernel
theorem dX4_beginFirst_9 : decode cX4_beginFirst 9 = .ok (.getfield 82, 3) := by decide +kernel
theorem dX4_beginFirst_12 : decode cX4_beginFirst 12 = .ok (.getfield 118, 3) := by decide +kernel
theorem dX4_beginFirst_15 : decode cX4_beginFirst 15 = .ok (.iload_n 3, 1) := by decide +kernel
theorem dX4_beginFirst_16 : decode cX4_beginFirst 16 = .ok (.iaload, 1) := by decide +kernel
theorem dX4_beginFirst_17 : decode cX4_beginFirst 17 = .ok (.istore 4, 2) := by decide +kernel
theorem dX4_beginFirst_19 : decode cX4_beginFirst 19 = .ok (.aload_n 2, 1) := by decide +kernel
theorem dX4_beginFirst_20 : decode cX4_beginFirst 20 = .ok (.getfield 82, 3) := by decide +kernel
theorem dX4_beginFirst_23 : decode cX4_beginFirst 23 = .ok (.getfield 122, 3) := by decide +kernel
theorem dX4_beginFirst_26 : decode cX4_beginFirst 26 = .ok (.iload_n 3, 1) := by decide +kernel
theorem dX4_beginFirst_27 : decode cX4_beginFirst 27 = .ok (.iaload, 1) := by decide +kernel
theorem dX4_beginFirst_28 : decode cX4_beginFirst 28 = .ok (.istore 5, 2) := by decide +kernel
theorem dX4_beginFirst_30 : decode cX4_beginFirst 30 = .ok (.aload_n 2, 1) := by decide +kernel
theorem dX4_beginFirst_31 : decode cX4_beginFirst 31 = .ok (.getfield 82, 3) := by decide +kernel
theorem dX4_beginFirst_34 : decode cX4_beginFirst 34 = .ok (.getfield 125, 3) := by decide +kernel
theorem dX4_beginFirst_37 : decode cX4_beginFirst 37 = .ok (.iload_n 3, 1) := by decide +kernel
theorem dX4_beginFirst_38 : decode cX4_beginFirst 38 = .ok (.iaload, 1) := by decide +kernel
theorem dX4_beginFirst_39 : decode cX4_beginFirst 39 = .ok (.istore 6, 2) := by decide +kernel
theorem dX4_beginFirst_41 : decode cX4_beginFirst 41 = .ok (.aload_n 2, 1) := by decide +kernel
theorem dX4_beginFirst_42 : decode cX4_beginFirst 42 = .ok (.getfield 82, 3) := by decide +kernel
theorem dX4_beginFirst_45 : decode cX4_beginFirst 45 = .ok (.invokevirtual 128, 3) := by decide +kernel
theorem dX4_beginFirst_48 : decode cX4_beginFirst 48 = .ok (.aload_n 2, 1) := by decide +kernel
theorem dX4_beginFirst_49 : decode cX4_beginFirst 49 = .ok (.dup, 1) := by decide +kernel
theorem dX4_beginFirst_50 : decode cX4_beginFirst 50 = .ok (.getfield 75, 3) := by decide +kernel
theorem dX4_beginFirst_53 : decode cX4_beginFirst 53 = .ok (.iconst 1, 1) := by decide +kernel
theorem dX4_beginFirst_54 : decode cX4_beginFirst 54 = .ok (.isub, 1) := by decide +kernel
theorem dX4_beginFirst_55 : decode cX4_beginFirst 55 = .ok (.putfield 75, 3) := by decide +kernel
theorem dX4_beginFirst_58 : decode cX4_beginFirst 58 = .ok (.aload_n 2, 1) := by decide +kernel
theorem dX4_beginFirst_59 : decode cX4_beginFirst 59 = .ok (.aload_n 0, 1) := by decide +kernel
theorem dX4_beginFirst_60 : decode cX4_beginFirst 60 = .ok (.getfield 37, 3) := by decide +kernel
theorem dX4_beginFirst_63 : decode cX4_beginFirst 63 = .ok (.getfield 131, 3) := by decide +kernel
theorem dX4_beginFirst_66 : decode cX4_beginFirst 66 = .ok (.putfield 135, 3) := by decide +kernel
theorem dX4_beginFirst_69 : decode cX4_beginFirst 69 = .ok (.iload 4, 2) := by decide +kernel
theorem dX4_beginFirst_71 : decode cX4_beginFirst 71 = .ok (.iconst 2, 1) := by decide +kernel
theorem dX4_beginFirst_72 : decode cX4_beginFirst 72 = .ok (.if_icmp .ne 23, 3) := by decide +kernel
theorem dX4_beginFirst_75 : decode cX4_beginFirst 75 = .ok (.aload_n 0, 1) := by decide +kernel
theorem dX4_beginFirst_76 : decode cX4_beginFirst 76 = .ok (.getfield 45, 3) := by decide +kernel
theorem dX4_beginFirst_79 : decode cX4_beginFirst 79 = .ok (.iload_n 1, 1) := by decide +kernel
theorem dX4_beginFirst_80 : decode cX4_beginFirst 80 = .ok (.iconst 1, 1) := by decide +kernel
theorem dX4_beginFirst_81 : decode cX4_beginFirst 81 = .ok (.iconst (-1), 1) := by decide +kernel
theorem dX4_beginFirst_82 : decode cX4_beginFirst 82 = .ok (.invokevirtual 102, 3) := by decide +kernel
theorem dX4_beginFirst_85 : decode cX4_beginFirst 85 = .ok (.aload_n 0, 1) := by decide +kernel
theorem dX4_beginFirst_86 : decode cX4_beginFirst 86 = .ok (.iload_n 1, 1) := by decide +kernel
theorem dX4_beginFirst_87 : decode cX4_beginFirst 87 = .ok (.iload 5, 2) := by decide +kernel
theorem dX4_beginFirst_89 : decode cX4_beginFirst 89 = .ok (.iload 6, 2) := by decide +kernel
theorem dX4_beginFirst_91 : decode cX4_beginFirst 91 = .ok (.invokevirtual 138, 3) := by decide +kernel
theorem dX4_beginFirst_94 : decode cX4_beginFirst 94 = .ok (.return_, 1) := by decide +kernel
theorem dX4_beginFirst_95 : decode cX4_beginFirst 95 = .ok (.aload_n 0, 1) := by decide +kernel
theorem dX4_beginFirst_96 : decode cX4_beginFirst 96 = .ok (.getfield 45, 3) := by decide +kernel
theorem dX4_beginFirst_99 : decode cX4_beginFirst 99 = .ok (.iload_n 1, 1) := by decide +kernel
theorem dX4_beginFirst_100 : decode cX4_beginFirst 100 = .ok (.iload 4, 2) := by decide +kernel
theorem dX4_beginFirst_102 : decode cX4_beginFirst 102 = .ok (.ifCond .ne 7, 3) := by decide +kernel
theorem dX4_beginFirst_105 : decode cX4_beginFirst 105 = .ok (.iconst 1, 1) := by decide +kernel
theorem dX4_beginFirst_106 : decode cX4_beginFirst 106 = .ok (.goto 4, 3) := by decide +kernel
theorem dX4_beginFirst_109 : decode cX4_beginFirst 109 = .ok (.iconst 5, 1) := by decide +kernel
theorem dX4_beginFirst_110 : decode cX4_beginFirst 110 = .ok (.iload 5, 2) := by decide +kernel
theorem dX4_beginFirst_112 : decode cX4_beginFirst 112 = .ok (.invokevirtual 102, 3) := by decide +kernel
theorem dX4_beginFirst_115 : decode cX4_beginFirst 115 = .ok (.aload_n 0, 1) := by decide +kernel
theorem dX4_beginFirst_116 : decode cX4_beginFirst 116 = .ok (.iload_n 1, 1) := by decide +kernel
theorem dX4_beginFirst_117 : decode cX4_beginFirst 117 = .ok (.iload 5, 2) := by decide +kernel
theorem dX4_beginFirst_119 : decode cX4_beginFirst 119 = .ok (.iconst 0, 1) := by decide +kernel
theorem dX4_beginFirst_120 : decode cX4_beginFirst 120 = .ok (.invokevirtual 112, 3) := by decide +kernel
theorem dX4_beginFirst_123 : decode cX4_beginFirst 123 = .ok (.return_, 1) := by decide +kernel
theorem dX4_doOrders_0 : decode cX4_doOrders 0 = .ok (.iload_n 3, 1) := by decide +kernel
theorem dX4_doOrders_1 : decode cX4_doOrders 1 = .ok (.istore 4, 2) := by decide +kernel
theorem dX4_doOrders_3 : decode cX4_doOrders 3 = .ok (.iload 4, 2) := by decide +kernel
theorem dX4_doOrders_5 : decode cX4_doOrders 5 = .ok (.aload_n 0, 1) := by decide +kernel
theorem dX4_doOrders_6 : decode cX4_doOrders 6 = .ok (.getfield 12, 3) := by decide +kernel
theorem dX4_doOrders_9 : decode cX4_doOrders 9 = .ok (.getfield 141, 3) := by decide +kernel
theorem dX4_doOrders_12 : decode cX4_doOrders 12 = .ok (.iload_n 2, 1) := by decide +kernel
theorem dX4_doOrders_13 : decode cX4_doOrders 13 = .ok (.iaload, 1) := by decide +kernel
theorem dX4_doOrders_14 : decode cX4_doOrders 14 = .ok (.if_icmp .ge 108, 3) := by decide +kernel
theorem dX4_doOrders_17 : decode cX4_doOrders 17 = .ok (.iload_n 2, 1) := by decide +kernel
theorem dX4_doOrders_18 : decode cX4_doOrders 18 = .ok (.bipush 8, 2) := by decide +kernel
theorem dX4_doOrders_20 : decode cX4_doOrders 20 = .ok (.imul, 1) := by decide +kernel
theorem dX4_doOrders_21 : decode cX4_doOrders 21 = .ok (.iload 4, 2) := by decide +kernel
theorem dX4_doOrders_23 : decode cX4_doOrders 23 = .ok (.iadd, 1) := by decide +kernel
theorem dX4_doOrders_24 : decode cX4_doOrders 24 = .ok (.istore 5, 2) := by decide +kernel
theorem dX4_doOrders_26 : decode cX4_doOrders 26 = .ok (.aload_n 0, 1) := by decide +kernel
theorem dX4_doOrders_27 : decode cX4_doOrders 27 = .ok (.iload_n 1, 1) := by decide +kernel
theorem dX4_doOrders_28 : decode cX4_doOrders 28 = .ok (.aload_n 0, 1) := by decide +kernel
theorem dX4_doOrders_29 : decode cX4_doOrders 29 = .ok (.getfield 12, 3) := by decide +kernel
theorem dX4_doOrders_32 : decode cX4_doOrders 32 = .ok (.getfield 144, 3) := by decide +kernel
theorem dX4_doOrders_35 : decode cX4_doOrders 35 = .ok (.iload 5, 2) := by decide +kernel
theorem dX4_doOrders_37 : decode cX4_doOrders 37 = .ok (.iaload, 1) := by decide +kernel
theorem dX4_doOrders_38 : decode cX4_doOrders 38 = .ok (.aload_n 0, 1) := by decide +kernel
theorem dX4_doOrders_39 : decode cX4_doOrders 39 = .ok (.getfield 12, 3) := by decide +kernel
theorem dX4_doOrders_42 : decode cX4_doOrders 42 = .ok (.getfield 145, 3) := by decide +kernel
theorem dX4_doOrders_45 : decode cX4_doOrders 45 = .ok (.iload 5, 2) := by decide +kernel
theorem dX4_doOrders_47 : decode cX4_doOrders 47 = .ok (.iaload, 1) := by decide +kernel
theorem dX4_doOrders_48 : decode cX4_doOrders 48 = .ok (.aload_n 0, 1) := by decide +kernel
theorem dX4_doOrders_49 : decode cX4_doOrders 49 = .ok (.getfield 12, 3) := by decide +kernel
theorem dX4_doOrders_52 : decode cX4_doOrders 52 = .ok (.getfield 148, 3) := by decide +kernel
theorem dX4_doOrders_55 : decode cX4_doOrders 55 = .ok (.iload 5, 2) := by decide +kernel
theorem dX4_doOrders_57 : decode cX4_doOrders 57 = .ok (.iaload, 1) := by decide +kernel
theorem dX4_doOrders_58 : decode cX4_doOrders 58 = .ok (.invokevirtual 151, 3) := by decide +kernel
theorem dX4_doOrders_61 : decode cX4_doOrders 61 = .ok (.istore 6, 2) := by decide +kernel
theorem dX4_doOrders_63 : decode cX4_doOrders 63 = .ok (.iload 6, 2) := by decide +kernel
theorem dX4_doOrders_65 : decode cX4_doOrders 65 = .ok (.iconst 1, 1) := by decide +kernel
theorem dX4_doOrders_66 : decode cX4_doOrders 66 = .ok (.if_icmp .ne 14, 3) := by decide +kernel
theorem dX4_doOrders_69 : decode cX4_doOrders 69 = .ok (.aload_n 0, 1) := by decide +kernel
theorem dX4_doOrders_70 : decode cX4_doOrders 70 = .ok (.getfield 45, 3) := by decide +kernel
theorem dX4_doOrders_73 : decode cX4_doOrders 73 = .ok (.iload_n 1, 1) := by decide +kernel
theorem dX4_doOrders_74 : decode cX4_doOrders 74 = .ok (.iconst 2, 1) := by decide +kernel
theorem dX4_doOrders_75 : decode cX4_doOrders 75 = .ok (.iload_n 2, 1) := by decide +kernel
theorem dX4_doOrders_76 : decode cX4_doOrders 76 = .ok (.invokevirtual 102, 3) := by decide +kernel
theorem dX4_doOrders_79 : decode cX4_doOrders 79 = .ok (.return_, 1) := by decide +kernel
theorem dX4_doOrders_80 : decode cX4_doOrders 80 = .ok (.iload 6, 2) := by decide +kernel
theorem dX4_doOrders_82 : decode cX4_doOrders 82 = .ok (.iconst 2, 1) := by decide +kernel
theorem dX4_doOrders_83 : decode cX4_doOrders 83 = .ok (.if_icmp .ne 33, 3) := by decide +kernel
theorem dX4_doOrders_86 : decode cX4_doOrders 86 = .ok (.aload_n 0, 1) := by decide +kernel
theorem dX4_doOrders_87 : decode cX4_doOrders 87 = .ok (.getfield 37, 3) := by decide +kernel
theorem dX4_doOrders_90 : decode cX4_doOrders 90 = .ok (.getfield 46, 3) := by decide +kernel
theorem dX4_doOrders_93 : decode cX4_doOrders 93 = .ok (.iload_n 1, 1) := by decide +kernel
theorem dX4_doOrders_94 : decode cX4_doOrders 94 = .ok (.aaload, 1) := by decide +kernel
theorem dX4_doOrders_95 : decode cX4_doOrders 95 = .ok (.iload_n 2, 1) := by decide +kernel
theorem dX4_doOrders_96 : decode cX4_doOrders 96 = .ok (.putfield 106, 3) := by decide +kernel
theorem dX4_doOrders_99 : decode cX4_doOrders 99 = .ok (.aload_n 0, 1) := by decide +kernel
theorem dX4_doOrders_100 : decode cX4_doOrders 100 = .ok (.getfield 37, 3) := by decide +kernel
theorem dX4_doOrders_103 : decode cX4_doOrders 103 = .ok (.getfield 46, 3) := by decide +kernel
theorem dX4_doOrders_106 : decode cX4_doOrders 106 = .ok (.iload_n 1, 1) := by decide +kernel
theorem dX4_doOrders_107 : decode cX4_doOrders 107 = .ok (.aaload, 1) := by decide +kernel
theorem dX4_doOrders_108 : decode cX4_doOrders 108 = .ok (.iload 4, 2) := by decide +kernel
theorem dX4_doOrders_110 : decode cX4_doOrders 110 = .ok (.iconst 1, 1) := by decide +kernel
theorem dX4_doOrders_111 : decode cX4_doOrders 111 = .ok (.iadd, 1) := by decide +kernel
theorem dX4_doOrders_112 : decode cX4_doOrders 112 = .ok (.putfield 109, 3) := by decide +kernel
theorem dX4_doOrders_115 : decode cX4_doOrders 115 = .ok (.return_, 1) := by decide +kernel
theorem dX4_doOrders_116 : decode cX4_doOrders 116 = .ok (.iinc 4 1, 3) := by decide +kernel
theorem dX4_doOrders_119 : decode cX4_doOrders 119 = .ok (.goto (-116), 3) := by decide +kernel
theorem dX4_doOrders_122 : decode cX4_doOrders 122 = .ok (.return_, 1) := by decide +kernel
theorem dX4_doOrder_0 : decode cX4_doOrder 0 = .ok (.aload_n 0, 1) := by decide +kernel
theorem dX4_doOrder_1 : decode cX4_doOrder 1 = .ok (.getfield 65, 3) := by decide +kernel
theorem dX4_doOrder_4 : decode cX4_doOrder 4 = .ok (.sipush 1000, 3) := by decide +kernel
theorem dX4_doOrder_7 : decode cX4_doOrder 7 = .ok (.if_icmp .lt 5, 3) := by decide +kernel
theorem dX4_doOrder_10 : decode cX4_doOrder 10 = .ok (.iconst 1, 1) := by decide +kernel
theorem dX4_doOrder_11 : decode cX4_doOrder 11 = .ok (.ireturn, 1) := by decide +kernel
theorem dX4_doOrder_12 : decode cX4_doOrder 12 = .ok (.aload_n 0, 1) := by decide +kernel
theorem dX4_doOrder_13 : decode cX4_doOrder 13 = .ok (.dup, 1) := by decide +kernel
theorem dX4_doOrder_14 : decode cX4_doOrder 14 = .ok (.getfield 65, 3) := by decide +kernel
theorem dX4_doOrder_17 : decode cX4_doOrder 17 = .ok (.iconst 1, 1) := by decide +kernel
theorem dX4_doOrder_18 : decode cX4_doOrder 18 = .ok (.iadd, 1) := by decide +kernel
theorem dX4_doOrder_19 : decode cX4_doOrder 19 = .ok (.putfield 65, 3) := by decide +kernel
theorem dX4_doOrder_22 : decode cX4_doOrder 22 = .ok (.aload_n 0, 1) := by decide +kernel
theorem dX4_doOrder_23 : decode cX4_doOrder 23 = .ok (.iload_n 2, 1) := by decide +kernel
theorem dX4_doOrder_24 : decode cX4_doOrder 24 = .ok (.iload_n 3, 1) := by decide +kernel
theorem dX4_doOrder_25 : decode cX4_doOrder 25 = .ok (.iload 4, 2) := by decide +kernel
theorem dX4_doOrder_27 : decode cX4_doOrder 27 = .ok (.invokevirtual 155, 3) := by decide +kernel
theorem dX4_doOrder_30 : decode cX4_doOrder 30 = .ok (.ifCond .ne 5, 3) := by decide +kernel
theorem dX4_doOrder_33 : decode cX4_doOrder 33 = .ok (.iconst 1, 1) := by decide +kernel
theorem dX4_doOrder_34 : decode cX4_doOrder 34 = .ok (.ireturn, 1) := by decide +kernel
theorem dX4_doOrder_35 : decode cX4_doOrder 35 = .ok (.iload_n 2, 1) := by decide +kernel
theorem dX4_doOrder_36 : decode cX4_doOrder 36 = .ok (.bipush 8, 2) := by decide +kernel
theorem dX4_doOrder_38 : decode cX4_doOrder 38 = .ok (.if_icmp .ne 10, 3) := by decide +kernel
theorem dX4_doOrder_41 : decode cX4_doOrder 41 = .ok (.aload_n 0, 1) := by decide +kernel
theorem dX4_doOrder_42 : decode cX4_doOrder 42 = .ok (.iload_n 1, 1) := by decide +kernel
theorem dX4_doOrder_43 : decode cX4_doOrder 43 = .ok (.iload_n 3, 1) := by decide +kernel
theorem dX4_doOrder_44 : decode cX4_doOrder 44 = .ok (.invokevirtual 159, 3) := by decide +kernel
theorem dX4_doOrder_47 : decode cX4_doOrder 47 = .ok (.ireturn, 1) := by decide +kernel
theorem dX4_doOrder_48 : decode cX4_doOrder 48 = .ok (.aload_n 0, 1) := by decide +kernel
theorem dX4_doOrder_49 : decode cX4_doOrder 49 = .ok (.iload_n 1, 1) := by decide +kernel
theorem dX4_doOrder_50 : decode cX4_doOrder 50 = .ok (.iload_n 2, 1) := by decide +kernel
theorem dX4_doOrder_51 : decode cX4_doOrder 51 = .ok (.iload_n 3, 1) := by decide +kernel
theorem dX4_doOrder_52 : decode cX4_doOrder 52 = .ok (.iload 4, 2) := by decide +kernel
theorem dX4_doOrder_54 : decode cX4_doOrder 54 = .ok (.invokevirtual 163, 3) := by decide +kernel
theorem dX4_doOrder_57 : decode cX4_doOrder 57 = .ok (.iconst 0, 1) := by decide +kernel
theorem dX4_doOrder_58 : decode cX4_doOrder 58 = .ok (.ireturn, 1) := by decide +kernel
theorem dX4_canDo_0 : decode cX4_canDo 0 = .ok (.iload_n 1, 1) := by decide +kernel
theorem dX4_canDo_1 : decode cX4_canDo 1 = .ok (.tableswitch 221 0 13 #[71, 73, 112, 133, 154, 154, 154, 163, 154, 221, 202, 202, 211, 154], 71) := by decide +kernel
theorem dX4_canDo_72 : decode cX4_canDo 72 = .ok (.iconst 1, 1) := by decide +kernel
theorem dX4_canDo_73 : decode cX4_canDo 73 = .ok (.ireturn, 1) := by decide +kernel
theorem dX4_canDo_74 : decode cX4_canDo 74 = .ok (.aload_n 0, 1) := by decide +kernel
theorem dX4_canDo_75 : decode cX4_canDo 75 = .ok (.getfield 12, 3) := by decide +kernel
theorem dX4_canDo_78 : decode cX4_canDo 78 = .ok (.iload_n 2, 1) := by decide +kernel
theorem dX4_canDo_79 : decode cX4_canDo 79 = .ok (.invokevirtual 167, 3) := by decide +kernel
theorem dX4_canDo_82 : decode cX4_canDo 82 = .ok (.ifCond .eq 29, 3) := by decide +kernel
theorem dX4_canDo_85 : decode cX4_canDo 85 = .ok (.iload_n 3, 1) := by decide +kernel
theorem dX4_canDo_86 : decode cX4_canDo 86 = .ok (.iconst (-1), 1) := by decide +kernel
theorem dX4_canDo_87 : decode cX4_canDo 87 = .ok (.if_icmp .eq 20, 3) := by decide +kernel
theorem dX4_canDo_90 : decode cX4_canDo 90 = .ok (.iload_n 3, 1) := by decide +kernel
theorem dX4_canDo_91 : decode cX4_canDo 91 = .ok (.bipush (-2), 2) := by decide +kernel
theorem dX4_canDo_93 : decode cX4_canDo 93 = .ok (.if_icmp .eq 14, 3) := by decide +kernel
theorem dX4_canDo_96 : decode cX4_canDo 96 = .ok (.aload_n 0, 1) := by decide +kernel
theorem dX4_canDo_97 : decode cX4_canDo 97 = .ok (.getfield 37, 3) := by decide +kernel
theorem dX4_canDo_100 : decode cX4_canDo 100 = .ok (.iload_n 3, 1) := by decide +kernel
theorem dX4_canDo_101 : decode cX4_canDo 101 = .ok (.invokevirtual 170, 3) := by decide +kernel
theorem dX4_canDo_104 : decode cX4_canDo 104 = .ok (.ifCond .eq 7, 3) := by decide +kernel
theorem dX4_canDo_107 : decode cX4_canDo 107 = .ok (.iconst 1, 1) := by decide +kernel
theorem dX4_canDo_108 : decode cX4_canDo 108 = .ok (.goto 4, 3) := by decide +kernel
theorem dX4_canDo_111 : decode cX4_canDo 111 = .ok (.iconst 0, 1) := by decide +kernel
theorem dX4_canDo_112 : decode cX4_canDo 112 = .ok (.ireturn, 1) := by decide +kernel
theorem dX4_canDo_113 : decode cX4_canDo 113 = .ok (.aload_n 0, 1) := by decide +kernel
theorem dX4_canDo_114 : decode cX4_canDo 114 = .ok (.getfield 12, 3) := by decide +kernel
theorem dX4_canDo_117 : decode cX4_canDo 117 = .ok (.iload_n 2, 1) := by decide +kernel
theorem dX4_canDo_118 : decode cX4_canDo 118 = .ok (.invokevirtual 167, 3) := by decide +kernel
theorem dX4_canDo_121 : decode cX4_canDo 121 = .ok (.ifCond .eq 11, 3) := by decide +kernel
theorem dX4_canDo_124 : decode cX4_canDo 124 = .ok (.iload_n 3, 1) := by decide +kernel
theorem dX4_canDo_125 : decode cX4_canDo 125 = .ok (.ifCond .lt 7, 3) := by decide +kernel
theorem dX4_canDo_128 : decode cX4_canDo 128 = .ok (.iconst 1, 1) := by decide +kernel
theorem dX4_canDo_129 : decode cX4_canDo 129 = .ok (.goto 4, 3) := by decide +kernel
theorem dX4_canDo_132 : decode cX4_canDo 132 = .ok (.iconst 0, 1) := by decide +kernel
theorem dX4_canDo_133 : decode cX4_canDo 133 = .ok (.ireturn, 1) := by decide +kernel
theorem dX4_canDo_134 : decode cX4_canDo 134 = .ok (.iload_n 2, 1) := by decide +kernel
theorem dX4_canDo_135 : decode cX4_canDo 135 = .ok (.ifCond .lt 18, 3) := by decide +kernel
theorem dX4_canDo_138 : decode cX4_canDo 138 = .ok (.iload_n 2, 1) := by decide +kernel
theorem dX4_canDo_139 : decode cX4_canDo 139 = .ok (.aload_n 0, 1) := by decide +kernel
theorem dX4_canDo_140 : decode cX4_canDo 140 = .ok (.getfield 37, 3) := by decide +kernel
theorem dX4_canDo_143 : decode cX4_canDo 143 = .ok (.getfield 171, 3) := by decide +kernel
theorem dX4_canDo_146 : decode cX4_canDo 146 = .ok (.if_icmp .ge 7, 3) := by decide +kernel
theorem dX4_canDo_149 : decode cX4_canDo 149 = .ok (.iconst 1, 1) := by decide +kernel
theorem dX4_canDo_150 : decode cX4_canDo 150 = .ok (.goto 4, 3) := by decide +kernel
theorem dX4_canDo_153 : decode cX4_canDo 153 = .ok (.iconst 0, 1) := by decide +kernel
theorem dX4_canDo_154 : decode cX4_canDo 154 = .ok (.ireturn, 1) := by decide +kernel
theorem dX4_canDo_155 : decode cX4_canDo 155 = .ok (.aload_n 0, 1) := by decide +kernel
theorem dX4_canDo_156 : decode cX4_canDo 156 = .ok (.getfield 21, 3) := by decide +kernel
theorem dX4_canDo_159 : decode cX4_canDo 159 = .ok (.iload_n 2, 1) := by decide +kernel
theorem dX4_canDo_160 : decode cX4_canDo 160 = .ok (.invokevirtual 174, 3) := by decide +kernel
theorem dX4_canDo_163 : decode cX4_canDo 163 = .ok (.ireturn, 1) := by decide +kernel
theorem dX4_canDo_164 : decode cX4_canDo 164 = .ok (.aload_n 0, 1) := by decide +kernel
theorem dX4_canDo_165 : decode cX4_canDo 165 = .ok (.getfield 21, 3) := by decide +kernel
theorem dX4_canDo_168 : decode cX4_canDo 168 = .ok (.iload_n 2, 1) := by decide +kernel
theorem dX4_canDo_169 : decode cX4_canDo 169 = .ok (.invokevirtual 174, 3) := by decide +kernel
theorem dX4_canDo_172 : decode cX4_canDo 172 = .ok (.ifCond .eq 29, 3) := by decide +kernel
theorem dX4_canDo_175 : decode cX4_canDo 175 = .ok (.aload_n 0, 1) := by decide +kernel
theorem dX4_canDo_176 : decode cX4_canDo 176 = .ok (.getfield 12, 3) := by decide +kernel
theorem dX4_canDo_179 : decode cX4_canDo 179 = .ok (.iload_n 3, 1) := by decide +kernel
theorem dX4_canDo_180 : decode cX4_canDo 180 = .ok (.invokevirtual 167, 3) := by decide +kernel
theorem dX4_canDo_183 : decode cX4_canDo 183 = .ok (.ifCond .eq 18, 3) := by decide +kernel
theorem dX4_canDo_186 : decode cX4_canDo 186 = .ok (.aload_n 0, 1) := by decide +kernel
theorem dX4_canDo_187 : decode cX4_canDo 187 = .ok (.getfield 21, 3) := by decide +kernel
theorem dX4_canDo_190 : decode cX4_canDo 190 = .ok (.iload_n 2, 1) := by decide +kernel
theorem dX4_canDo_191 : decode cX4_canDo 191 = .ok (.invokevirtual 175, 3) := by decide +kernel
theorem dX4_canDo_194 : decode cX4_canDo 194 = .ok (.ifCond .eq 7, 3) := by decide +kernel
theorem dX4_canDo_197 : decode cX4_canDo 197 = .ok (.iconst 1, 1) := by decide +kernel
theorem dX4_canDo_198 : decode cX4_canDo 198 = .ok (.goto 4, 3) := by decide +kernel
theorem dX4_canDo_201 : decode cX4_canDo 201 = .ok (.iconst 0, 1) := by decide +kernel
theorem dX4_canDo_202 : decode cX4_canDo 202 = .ok (.ireturn, 1) := by decide +kernel
theorem dX4_canDo_203 : decode cX4_canDo 203 = .ok (.aload_n 0, 1) := by decide +kernel
theorem dX4_canDo_204 : decode cX4_canDo 204 = .ok (.getfield 28, 3) := by decide +kernel
theorem dX4_canDo_207 : decode cX4_canDo 207 = .ok (.iload_n 2, 1) := by decide +kernel
theorem dX4_canDo_208 : decode cX4_canDo 208 = .ok (.invokevirtual 178, 3) := by decide +kernel
theorem dX4_canDo_211 : decode cX4_canDo 211 = .ok (.ireturn, 1) := by decide +kernel
theorem dX4_canDo_212 : decode cX4_canDo 212 = .ok (.aload_n 0, 1) := by decide +kernel
theorem dX4_canDo_213 : decode cX4_canDo 213 = .ok (.getfield 37, 3) := by decide +kernel
theorem dX4_canDo_216 : decode cX4_canDo 216 = .ok (.iload_n 2, 1) := by decide +kernel
theorem dX4_canDo_217 : decode cX4_canDo 217 = .ok (.iload_n 3, 1) := by decide +kernel
theorem dX4_canDo_218 : decode cX4_canDo 218 = .ok (.invokevirtual 179, 3) := by decide +kernel
theorem dX4_canDo_221 : decode cX4_canDo 221 = .ok (.ireturn, 1) := by decide +kernel
theorem dX4_canDo_222 : decode cX4_canDo 222 = .ok (.iconst 0, 1) := by decide +kernel
theorem dX4_canDo_223 : decode cX4_canDo 223 = .ok (.ireturn, 1) := by decide +kernel
theorem dX4_await_0 : decode cX4_await 0 = .ok (.aload_n 0, 1) := by decide +kernel
theorem dX4_await_1 : decode cX4_await 1 = .ok (.getfield 21, 3) := by decide +kernel
theorem dX4_await_4 : decode cX4_await 4 = .ok (.iload_n 2, 1) := by decide +kernel
theorem dX4_await_5 : decode cX4_await 5 = .ok (.invokevirtual 97, 3) := by decide +kernel
theorem dX4_await_8 : decode cX4_await 8 = .ok (.ifCond .ne 5, 3) := by decide +kernel
theorem dX4_await_11 : decode cX4_await 11 = .ok (.iconst 0, 1) := by decide +kernel
theorem dX4_await_12 : decode cX4_await 12 = .ok (.ireturn, 1) := by decide +kernel
theorem dX4_await_13 : decode cX4_await 13 = .ok (.aload_n 0, 1) := by decide +kernel
theorem dX4_await_14 : decode cX4_await 14 = .ok (.getfield 183, 3) := by decide +kernel
theorem dX4_await_17 : decode cX4_await 17 = .ok (.ifCond .gt 23, 3) := by decide +kernel
theorem dX4_await_20 : decode cX4_await 20 = .ok (.aload_n 0, 1) := by decide +kernel
theorem dX4_await_21 : decode cX4_await 21 = .ok (.getfield 186, 3) := by decide +kernel
theorem dX4_await_24 : decode cX4_await 24 = .ok (.ifCond .gt 16, 3) := by decide +kernel
theorem dX4_await_27 : decode cX4_await 27 = .ok (.aload_n 0, 1) := by decide +kernel
theorem dX4_await_28 : decode cX4_await 28 = .ok (.getfield 21, 3) := by decide +kernel
theorem dX4_await_31 : decode cX4_await 31 = .ok (.getfield 189, 3) := by decide +kernel
theorem dX4_await_34 : decode cX4_await 34 = .ok (.iload_n 2, 1) := by decide +kernel
theorem dX4_await_35 : decode cX4_await 35 = .ok (.iaload, 1) := by decide +kernel
theorem dX4_await_36 : decode cX4_await 36 = .ok (.iload_n 1, 1) := by decide +kernel
theorem dX4_await_37 : decode cX4_await 37 = .ok (.if_icmp .ne 15, 3) := by decide +kernel
theorem dX4_await_40 : decode cX4_await 40 = .ok (.aload_n 0, 1) := by decide +kernel
theorem dX4_await_41 : decode cX4_await 41 = .ok (.getfield 45, 3) := by decide +kernel
theorem dX4_await_44 : decode cX4_await 44 = .ok (.iload_n 1, 1) := by decide +kernel
theorem dX4_await_45 : decode cX4_await 45 = .ok (.iconst 3, 1) := by decide +kernel
theorem dX4_await_46 : decode cX4_await 46 = .ok (.iload_n 2, 1) := by decide +kernel
theorem dX4_await_47 : decode cX4_await 47 = .ok (.invokevirtual 102, 3) := by decide +kernel
theorem dX4_await_50 : decode cX4_await 50 = .ok (.iconst 0, 1) := by decide +kernel
theorem dX4_await_51 : decode cX4_await 51 = .ok (.ireturn, 1) := by decide +kernel
theorem dX4_await_52 : decode cX4_await 52 = .ok (.aload_n 0, 1) := by decide +kernel
theorem dX4_await_53 : decode cX4_await 53 = .ok (.getfield 37, 3) := by decide +kernel
theorem dX4_await_56 : decode cX4_await 56 = .ok (.getfield 46, 3) := by decide +kernel
theorem dX4_await_59 : decode cX4_await 59 = .ok (.iload_n 1, 1) := by decide +kernel
theorem dX4_await_60 : decode cX4_await 60 = .ok (.aaload, 1) := by decide +kernel
theorem dX4_await_61 : decode cX4_await 61 = .ok (.iload_n 2, 1) := by decide +kernel
theorem dX4_await_62 : decode cX4_await 62 = .ok (.putfield 68, 3) := by decide +kernel
theorem dX4_await_65 : decode cX4_await 65 = .ok (.iconst 2, 1) := by decide +kernel
theorem dX4_await_66 : decode cX4_await 66 = .ok (.ireturn, 1) := by decide +kernel
theorem dX4_carryOut_0 : decode cX4_carryOut 0 = .ok (.iload_n 2, 1) := by decide +kernel
theorem dX4_carryOut_1 : decode cX4_carryOut 1 = .ok (.tableswitch 240 0 13 #[71, 84, 106, 122, 134, 147, 160, 173, 240, 240, 184, 196, 215, 228], 71) := by decide +kernel
theorem dX4_carryOut_72 : decode cX4_carryOut 72 = .ok (.aload_n 0, 1) := by decide +kernel
theorem dX4_carryOut_73 : decode cX4_carryOut 73 = .ok (.getfield 45, 3) := by decide +kernel
theorem dX4_carryOut_76 : decode cX4_carryOut 76 = .ok (.iload_n 1, 1) := by decide +kernel
theorem dX4_carryOut_77 : decode cX4_carryOut 77 = .ok (.iconst 0, 1) := by decide +kernel
theorem dX4_carryOut_78 : decode cX4_carryOut 78 = .ok (.iload_n 3, 1) := by decide +kernel
theorem dX4_carryOut_79 : decode cX4_carryOut 79 = .ok (.invokevirtual 102, 3) := by decide +kernel
theorem dX4_carryOut_82 : decode cX4_carryOut 82 = .ok (.goto 159, 3) := by decide +kernel
theorem dX4_carryOut_85 : decode cX4_carryOut 85 = .ok (.aload_n 0, 1) := by decide +kernel
theorem dX4_carryOut_86 : decode cX4_carryOut 86 = .ok (.getfield 37, 3) := by decide +kernel
theorem dX4_carryOut_89 : decode cX4_carryOut 89 = .ok (.iload_n 1, 1) := by decide +kernel
theorem dX4_carryOut_90 : decode cX4_carryOut 90 = .ok (.aload_n 0, 1) := by decide +kernel
theorem dX4_carryOut_91 : decode cX4_carryOut 91 = .ok (.iload_n 1, 1) := by decide +kernel
theorem dX4_carryOut_92 : decode cX4_carryOut 92 = .ok (.iload 4, 2) := by decide +kernel
theorem dX4_carryOut_94 : decode cX4_carryOut 94 = .ok (.invokevirtual 192, 3) := by decide +kernel
theorem dX4_carryOut_97 : decode cX4_carryOut 97 = .ok (.iconst 0, 1) := by decide +kernel
theorem dX4_carryOut_98 : decode cX4_carryOut 98 = .ok (.iload_n 3, 1) := by decide +kernel
theorem dX4_carryOut_99 : decode cX4_carryOut 99 = .ok (.iconst 0, 1) := by decide +kernel
theorem dX4_carryOut_100 : decode cX4_carryOut 100 = .ok (.invokevirtual 195, 3) := by decide +kernel
theorem dX4_carryOut_103 : decode cX4_carryOut 103 = .ok (.pop, 1) := by decide +kernel
theorem dX4_carryOut_104 : decode cX4_carryOut 104 = .ok (.goto 137, 3) := by decide +kernel
theorem dX4_carryOut_107 : decode cX4_carryOut 107 = .ok (.aload_n 0, 1) := by decide +kernel
theorem dX4_carryOut_108 : decode cX4_carryOut 108 = .ok (.getfield 37, 3) := by decide +kernel
theorem dX4_carryOut_111 : decode cX4_carryOut 111 = .ok (.iload_n 1, 1) := by decide +kernel
theorem dX4_carryOut_112 : decode cX4_carryOut 112 = .ok (.iload_n 1, 1) := by decide +kernel
theorem dX4_carryOut_113 : decode cX4_carryOut 113 = .ok (.iload_n 3, 1) := by decide +kernel
theorem dX4_carryOut_114 : decode cX4_carryOut 114 = .ok (.iload 4, 2) := by decide +kernel
theorem dX4_carryOut_116 : decode cX4_carryOut 116 = .ok (.invokevirtual 199, 3) := by decide +kernel
theorem dX4_carryOut_119 : decode cX4_carryOut 119 = .ok (.pop, 1) := by decide +kernel
theorem dX4_carryOut_120 : decode cX4_carryOut 120 = .ok (.goto 121, 3) := by decide +kernel
theorem dX4_carryOut_123 : decode cX4_carryOut 123 = .ok (.aload_n 0, 1) := by decide +kernel
theorem dX4_carryOut_124 : decode cX4_carryOut 124 = .ok (.getfield 37, 3) := by decide +kernel
theorem dX4_carryOut_127 : decode cX4_carryOut 127 = .ok (.iload_n 3, 1) := by decide +kernel
theorem dX4_carryOut_128 : decode cX4_carryOut 128 = .ok (.invokevirtual 202, 3) := by decide +kernel
theorem dX4_carryOut_131 : decode cX4_carryOut 131 = .ok (.pop, 1) := by decide +kernel
theorem dX4_carryOut_132 : decode cX4_carryOut 132 = .ok (.goto 109, 3) := by decide +kernel
theorem dX4_carryOut_135 : decode cX4_carryOut 135 = .ok (.aload_n 0, 1) := by decide +kernel
theorem dX4_carryOut_136 : decode cX4_carryOut 136 = .ok (.iload_n 1, 1) := by decide +kernel
theorem dX4_carryOut_137 : decode cX4_carryOut 137 = .ok (.iload_n 3, 1) := by decide +kernel
theorem dX4_carryOut_138 : decode cX4_carryOut 138 = .ok (.iconst 1, 1) := by decide +kernel
theorem dX4_carryOut_139 : decode cX4_carryOut 139 = .ok (.iload 4, 2) := by decide +kernel
theorem dX4_carryOut_141 : decode cX4_carryOut 141 = .ok (.invokevirtual 205, 3) := by decide +kernel
theorem dX4_carryOut_144 : decode cX4_carryOut 144 = .ok (.pop, 1) := by decide +kernel
theorem dX4_carryOut_145 : decode cX4_carryOut 145 = .ok (.goto 96, 3) := by decide +kernel
theorem dX4_carryOut_148 : decode cX4_carryOut 148 = .ok (.aload_n 0, 1) := by decide +kernel
theorem dX4_carryOut_149 : decode cX4_carryOut 149 = .ok (.iload_n 1, 1) := by decide +kernel
theorem dX4_carryOut_150 : decode cX4_carryOut 150 = .ok (.iload_n 3, 1) := by decide +kernel
theorem dX4_carryOut_151 : decode cX4_carryOut 151 = .ok (.iconst 2, 1) := by decide +kernel
theorem dX4_carryOut_152 : decode cX4_carryOut 152 = .ok (.iload 4, 2) := by decide +kernel
theorem dX4_carryOut_154 : decode cX4_carryOut 154 = .ok (.invokevirtual 205, 3) := by decide +kernel
theorem dX4_carryOut_157 : decode cX4_carryOut 157 = .ok (.pop, 1) := by decide +kernel
theorem dX4_carryOut_158 : decode cX4_carryOut 158 = .ok (.goto 83, 3) := by decide +kernel
theorem dX4_carryOut_161 : decode cX4_carryOut 161 = .ok (.aload_n 0, 1) := by decide +kernel
theorem dX4_carryOut_162 : decode cX4_carryOut 162 = .ok (.iload_n 1, 1) := by decide +kernel
theorem dX4_carryOut_163 : decode cX4_carryOut 163 = .ok (.iload_n 3, 1) := by decide +kernel
theorem dX4_carryOut_164 : decode cX4_carryOut 164 = .ok (.iconst 3, 1) := by decide +kernel
theorem dX4_carryOut_165 : decode cX4_carryOut 165 = .ok (.iload 4, 2) := by decide +kernel
theorem dX4_carryOut_167 : decode cX4_carryOut 167 = .ok (.invokevirtual 205, 3) := by decide +kernel
theorem dX4_carryOut_170 : decode cX4_carryOut 170 = .ok (.pop, 1) := by decide +kernel
theorem dX4_carryOut_171 : decode cX4_carryOut 171 = .ok (.goto 70, 3) := by decide +kernel
theorem dX4_carryOut_174 : decode cX4_carryOut 174 = .ok (.aload_n 0, 1) := by decide +kernel
theorem dX4_carryOut_175 : decode cX4_carryOut 175 = .ok (.iload_n 1, 1) := by decide +kernel
theorem dX4_carryOut_176 : decode cX4_carryOut 176 = .ok (.iload_n 3, 1) := by decide +kernel
theorem dX4_carryOut_177 : decode cX4_carryOut 177 = .ok (.iload 4, 2) := by decide +kernel
theorem dX4_carryOut_179 : decode cX4_carryOut 179 = .ok (.invokevirtual 209, 3) := by decide +kernel
theorem dX4_carryOut_182 : decode cX4_carryOut 182 = .ok (.goto 59, 3) := by decide +kernel
theorem dX4_carryOut_185 : decode cX4_carryOut 185 = .ok (.aload_n 0, 1) := by decide +kernel
theorem dX4_carryOut_186 : decode cX4_carryOut 186 = .ok (.iload_n 1, 1) := by decide +kernel
theorem dX4_carryOut_187 : decode cX4_carryOut 187 = .ok (.iload_n 3, 1) := by decide +kernel
theorem dX4_carryOut_188 : decode cX4_carryOut 188 = .ok (.iload 4, 2) := by decide +kernel
theorem dX4_carryOut_190 : decode cX4_carryOut 190 = .ok (.invokevirtual 212, 3) := by decide +kernel
theorem dX4_carryOut_193 : decode cX4_carryOut 193 = .ok (.pop, 1) := by decide +kernel
theorem dX4_carryOut_194 : decode cX4_carryOut 194 = .ok (.goto 47, 3) := by decide +kernel
theorem dX4_carryOut_197 : decode cX4_carryOut 197 = .ok (.aload_n 0, 1) := by decide +kernel
theorem dX4_carryOut_198 : decode cX4_carryOut 198 = .ok (.iload_n 1, 1) := by decide +kernel
theorem dX4_carryOut_199 : decode cX4_carryOut 199 = .ok (.aload_n 0, 1) := by decide +kernel
theorem dX4_carryOut_200 : decode cX4_carryOut 200 = .ok (.getfield 28, 3) := by decide +kernel
theorem dX4_carryOut_203 : decode cX4_carryOut 203 = .ok (.iload_n 3, 1) := by decide +kernel
theorem dX4_carryOut_204 : decode cX4_carryOut 204 = .ok (.invokevirtual 215, 3) := by decide +kernel
theorem dX4_carryOut_207 : decode cX4_carryOut 207 = .ok (.iload 4, 2) := by decide +kernel
theorem dX4_carryOut_209 : decode cX4_carryOut 209 = .ok (.invokevirtual 212, 3) := by decide +kernel
theorem dX4_carryOut_212 : decode cX4_carryOut 212 = .ok (.pop, 1) := by decide +kernel
theorem dX4_carryOut_213 : decode cX4_carryOut 213 = .ok (.goto 28, 3) := by decide +kernel
theorem dX4_carryOut_216 : decode cX4_carryOut 216 = .ok (.aload_n 0, 1) := by decide +kernel
theorem dX4_carryOut_217 : decode cX4_carryOut 217 = .ok (.getfield 37, 3) := by decide +kernel
theorem dX4_carryOut_220 : decode cX4_carryOut 220 = .ok (.iload_n 3, 1) := by decide +kernel
theorem dX4_carryOut_221 : decode cX4_carryOut 221 = .ok (.iload 4, 2) := by decide +kernel
theorem dX4_carryOut_223 : decode cX4_carryOut 223 = .ok (.invokevirtual 219, 3) := by decide +kernel
theorem dX4_carryOut_226 : decode cX4_carryOut 226 = .ok (.goto 15, 3) := by decide +kernel
theorem dX4_carryOut_229 : decode cX4_carryOut 229 = .ok (.aload_n 0, 1) := by decide +kernel
theorem dX4_carryOut_230 : decode cX4_carryOut 230 = .ok (.getfield 21, 3) := by decide +kernel
theorem dX4_carryOut_233 : decode cX4_carryOut 233 = .ok (.iload_n 3, 1) := by decide +kernel
theorem dX4_carryOut_234 : decode cX4_carryOut 234 = .ok (.invokevirtual 223, 3) := by decide +kernel
theorem dX4_carryOut_237 : decode cX4_carryOut 237 = .ok (.pop, 1) := by decide +kernel
theorem dX4_carryOut_238 : decode cX4_carryOut 238 = .ok (.goto 3, 3) := by decide +kernel
theorem dX4_carryOut_241 : decode cX4_carryOut 241 = .ok (.return_, 1) := by decide +kernel
theorem dX4_targetOf_0 : decode cX4_targetOf 0 = .ok (.iload_n 2, 1) := by decide +kernel
theorem dX4_targetOf_1 : decode cX4_targetOf 1 = .ok (.iconst (-1), 1) := by decide +kernel
theorem dX4_targetOf_2 : decode cX4_targetOf 2 = .ok (.if_icmp .ne 5, 3) := by decide +kernel
theorem dX4_targetOf_5 : decode cX4_targetOf 5 = .ok (.iload_n 1, 1) := by decide +kernel
theorem dX4_targetOf_6 : decode cX4_targetOf 6 = .ok (.ireturn, 1) := by decide +kernel
theorem dX4_targetOf_7 : decode cX4_targetOf 7 = .ok (.iload_n 2, 1) := by decide +kernel
theorem dX4_targetOf_8 : decode cX4_targetOf 8 = .ok (.bipush (-2), 2) := by decide +kernel
theorem dX4_targetOf_10 : decode cX4_targetOf 10 = .ok (.if_icmp .ne 13, 3) := by decide +kernel
theorem dX4_targetOf_13 : decode cX4_targetOf 13 = .ok (.aload_n 0, 1) := by decide +kernel
theorem dX4_targetOf_14 : decode cX4_targetOf 14 = .ok (.getfield 37, 3) := by decide +kernel
theorem dX4_targetOf_17 : decode cX4_targetOf 17 = .ok (.invokevirtual 226, 3) := by decide +kernel
theorem dX4_targetOf_20 : decode cX4_targetOf 20 = .ok (.goto 4, 3) := by decide +kernel
theorem dX4_targetOf_23 : decode cX4_targetOf 23 = .ok (.iload_n 2, 1) := by decide +kernel
theorem dX4_targetOf_24 : decode cX4_targetOf 24 = .ok (.ireturn, 1) := by decide +kernel
theorem dX4_settle_0 : decode cX4_settle 0 = .ok (.aload_n 0, 1) := by decide +kernel
theorem dX4_settle_1 : decode cX4_settle 1 = .ok (.getfield 21, 3) := by decide +kernel
theorem dX4_settle_4 : decode cX4_settle 4 = .ok (.iload_n 2, 1) := by decide +kernel
theorem dX4_settle_5 : decode cX4_settle 5 = .ok (.iload_n 3, 1) := by decide +kernel
theorem dX4_settle_6 : decode cX4_settle 6 = .ok (.iload 4, 2) := by decide +kernel
theorem dX4_settle_8 : decode cX4_settle 8 = .ok (.invokevirtual 230, 3) := by decide +kernel
theorem dX4_settle_11 : decode cX4_settle 11 = .ok (.ifCond .ne 5, 3) := by decide +kernel
theorem dX4_settle_14 : decode cX4_settle 14 = .ok (.iconst 0, 1) := by decide +kernel
theorem dX4_settle_15 : decode cX4_settle 15 = .ok (.ireturn, 1) := by decide +kernel
theorem dX4_settle_16 : decode cX4_settle 16 = .ok (.aload_n 0, 1) := by decide +kernel
theorem dX4_settle_17 : decode cX4_settle 17 = .ok (.getfield 21, 3) := by decide +kernel
theorem dX4_settle_20 : decode cX4_settle 20 = .ok (.getfield 233, 3) := by decide +kernel
theorem dX4_settle_23 : decode cX4_settle 23 = .ok (.iload_n 2, 1) := by decide +kernel
theorem dX4_settle_24 : decode cX4_settle 24 = .ok (.iaload, 1) := by decide +kernel
theorem dX4_settle_25 : decode cX4_settle 25 = .ok (.istore 5, 2) := by decide +kernel
theorem dX4_settle_27 : decode cX4_settle 27 = .ok (.aload_n 0, 1) := by decide +kernel
theorem dX4_settle_28 : decode cX4_settle 28 = .ok (.getfield 21, 3) := by decide +kernel
theorem dX4_settle_31 : decode cX4_settle 31 = .ok (.getfield 233, 3) := by decide +kernel
theorem dX4_settle_34 : decode cX4_settle 34 = .ok (.iload_n 2, 1) := by decide +kernel
theorem dX4_settle_35 : decode cX4_settle 35 = .ok (.iconst 0, 1) := by decide +kernel
theorem dX4_settle_36 : decode cX4_settle 36 = .ok (.iastore, 1) := by decide +kernel
theorem dX4_settle_37 : decode cX4_settle 37 = .ok (.iconst 0, 1) := by decide +kernel
theorem dX4_settle_38 : decode cX4_settle 38 = .ok (.istore 6, 2) := by decide +kernel
theorem dX4_settle_40 : decode cX4_settle 40 = .ok (.iload 6, 2) := by decide +kernel
theorem dX4_settle_42 : decode cX4_settle 42 = .ok (.iload 5, 2) := by decide +kernel
theorem dX4_settle_44 : decode cX4_settle 44 = .ok (.if_icmp .ge 30, 3) := by decide +kernel
theorem dX4_settle_47 : decode cX4_settle 47 = .ok (.aload_n 0, 1) := by decide +kernel
theorem dX4_settle_48 : decode cX4_settle 48 = .ok (.iload_n 1, 1) := by decide +kernel
theorem dX4_settle_49 : decode cX4_settle 49 = .ok (.iload_n 2, 1) := by decide +kernel
theorem dX4_settle_50 : decode cX4_settle 50 = .ok (.aload_n 0, 1) := by decide +kernel
theorem dX4_settle_51 : decode cX4_settle 51 = .ok (.getfield 21, 3) := by decide +kernel
theorem dX4_settle_54 : decode cX4_settle 54 = .ok (.getfield 236, 3) := by decide +kernel
theorem dX4_settle_57 : decode cX4_settle 57 = .ok (.iload_n 2, 1) := by decide +kernel
theorem dX4_settle_58 : decode cX4_settle 58 = .ok (.bipush 6, 2) := by decide +kernel
theorem dX4_settle_60 : decode cX4_settle 60 = .ok (.imul, 1) := by decide +kernel
theorem dX4_settle_61 : decode cX4_settle 61 = .ok (.iload 6, 2) := by decide +kernel
theorem dX4_settle_63 : decode cX4_settle 63 = .ok (.iadd, 1) := by decide +kernel
theorem dX4_settle_64 : decode cX4_settle 64 = .ok (.iaload, 1) := by decide +kernel
theorem dX4_settle_65 : decode cX4_settle 65 = .ok (.invokevirtual 239, 3) := by decide +kernel
theorem dX4_settle_68 : decode cX4_settle 68 = .ok (.iinc 6 1, 3) := by decide +kernel
theorem dX4_settle_71 : decode cX4_settle 71 = .ok (.goto (-31), 3) := by decide +kernel
theorem dX4_settle_74 : decode cX4_settle 74 = .ok (.iconst 1, 1) := by decide +kernel
theorem dX4_settle_75 : decode cX4_settle 75 = .ok (.ireturn, 1) := by decide +kernel
theorem dX4_addListener_0 : decode cX4_addListener 0 = .ok (.aload_n 0, 1) := by decide +kernel
theorem dX4_addListener_1 : decode cX4_addListener 1 = .ok (.getfield 21, 3) := by decide +kernel
theorem dX4_addListener_4 : decode cX4_addListener 4 = .ok (.iload_n 2, 1) := by decide +kernel
theorem dX4_addListener_5 : decode cX4_addListener 5 = .ok (.invokevirtual 97, 3) := by decide +kernel
theorem dX4_addListener_8 : decode cX4_addListener 8 = .ok (.ifCond .eq 15, 3) := by decide +kernel
theorem dX4_addListener_11 : decode cX4_addListener 11 = .ok (.aload_n 0, 1) := by decide +kernel
theorem dX4_addListener_12 : decode cX4_addListener 12 = .ok (.getfield 21, 3) := by decide +kernel
theorem dX4_addListener_15 : decode cX4_addListener 15 = .ok (.iload_n 2, 1) := by decide +kernel
theorem dX4_addListener_16 : decode cX4_addListener 16 = .ok (.iload_n 3, 1) := by decide +kernel
theorem dX4_addListener_17 : decode cX4_addListener 17 = .ok (.invokevirtual 242, 3) := by decide +kernel
theorem dX4_addListener_20 : decode cX4_addListener 20 = .ok (.goto 10, 3) := by decide +kernel
theorem dX4_addListener_23 : decode cX4_addListener 23 = .ok (.aload_n 0, 1) := by decide +kernel
theorem dX4_addListener_24 : decode cX4_addListener 24 = .ok (.iload_n 1, 1) := by decide +kernel
theorem dX4_addListener_25 : decode cX4_addListener 25 = .ok (.iload_n 2, 1) := by decide +kernel
theorem dX4_addListener_26 : decode cX4_addListener 26 = .ok (.iload_n 3, 1) := by decide +kernel
theorem dX4_addListener_27 : decode cX4_addListener 27 = .ok (.invokevirtual 239, 3) := by decide +kernel
theorem dX4_addListener_30 : decode cX4_addListener 30 = .ok (.return_, 1) := by decide +kernel
theorem dX4_tell_0 : decode cX4_tell 0 = .ok (.aload_n 0, 1) := by decide +kernel
theorem dX4_tell_1 : decode cX4_tell 1 = .ok (.getfield 21, 3) := by decide +kernel
theorem dX4_tell_4 : decode cX4_tell 4 = .ok (.getfield 189, 3) := by decide +kernel
theorem dX4_tell_7 : decode cX4_tell 7 = .ok (.iload_n 2, 1) := by decide +kernel
theorem dX4_tell_8 : decode cX4_tell 8 = .ok (.iaload, 1) := by decide +kernel
theorem dX4_tell_9 : decode cX4_tell 9 = .ok (.istore 4, 2) := by decide +kernel
theorem dX4_tell_11 : decode cX4_tell 11 = .ok (.iload_n 1, 1) := by decide +kernel
theorem dX4_tell_12 : decode cX4_tell 12 = .ok (.iload 4, 2) := by decide +kernel
theorem dX4_tell_14 : decode cX4_tell 14 = .ok (.if_icmp .ne 11, 3) := by decide +kernel
theorem dX4_tell_17 : decode cX4_tell 17 = .ok (.aload_n 0, 1) := by decide +kernel
theorem dX4_tell_18 : decode cX4_tell 18 = .ok (.getfield 183, 3) := by decide +kernel
theorem dX4_tell_21 : decode cX4_tell 21 = .ok (.iconst 4, 1) := by decide +kernel
theorem dX4_tell_22 : decode cX4_tell 22 = .ok (.if_icmp .lt 18, 3) := by decide +kernel
theorem dX4_tell_25 : decode cX4_tell 25 = .ok (.aload_n 0, 1) := by decide +kernel
theorem dX4_tell_26 : decode cX4_tell 26 = .ok (.getfield 37, 3) := by decide +kernel
theorem dX4_tell_29 : decode cX4_tell 29 = .ok (.iload_n 1, 1) := by decide +kernel
theorem dX4_tell_30 : decode cX4_tell 30 = .ok (.iload 4, 2) := by decide +kernel
theorem dX4_tell_32 : decode cX4_tell 32 = .ok (.iconst 1, 1) := by decide +kernel
theorem dX4_tell_33 : decode cX4_tell 33 = .ok (.iload_n 3, 1) := by decide +kernel
theorem dX4_tell_34 : decode cX4_tell 34 = .ok (.iconst 0, 1) := by decide +kernel
theorem dX4_tell_35 : decode cX4_tell 35 = .ok (.invokevirtual 195, 3) := by decide +kernel
theorem dX4_tell_38 : decode cX4_tell 38 = .ok (.pop, 1) := by decide +kernel
theorem dX4_tell_39 : decode cX4_tell 39 = .ok (.return_, 1) := by decide +kernel
theorem dX4_tell_40 : decode cX4_tell 40 = .ok (.aload_n 0, 1) := by decide +kernel
theorem dX4_tell_41 : decode cX4_tell 41 = .ok (.dup, 1) := by decide +kernel
theorem dX4_tell_42 : decode cX4_tell 42 = .ok (.getfield 183, 3) := by decide +kernel
theorem dX4_tell_45 : decode cX4_tell 45 = .ok (.iconst 1, 1) := by decide +kernel
theorem dX4_tell_46 : decode cX4_tell 46 = .ok (.iadd, 1) := by decide +kernel
theorem dX4_tell_47 : decode cX4_tell 47 = .ok (.putfield 183, 3) := by decide +kernel
theorem dX4_tell_50 : decode cX4_tell 50 = .ok (.aload_n 0, 1) := by decide +kernel
theorem dX4_tell_51 : decode cX4_tell 51 = .ok (.getfield 45, 3) := by decide +kernel
theorem dX4_tell_54 : decode cX4_tell 54 = .ok (.iload_n 1, 1) := by decide +kernel
theorem dX4_tell_55 : decode cX4_tell 55 = .ok (.iconst 5, 1) := by decide +kernel
theorem dX4_tell_56 : decode cX4_tell 56 = .ok (.iload_n 3, 1) := by decide +kernel
theorem dX4_tell_57 : decode cX4_tell 57 = .ok (.invokevirtual 102, 3) := by decide +kernel
theorem dX4_tell_60 : decode cX4_tell 60 = .ok (.aload_n 0, 1) := by decide +kernel
theorem dX4_tell_61 : decode cX4_tell 61 = .ok (.iload_n 1, 1) := by decide +kernel
theorem dX4_tell_62 : decode cX4_tell 62 = .ok (.iload_n 3, 1) := by decide +kernel
theorem dX4_tell_63 : decode cX4_tell 63 = .ok (.iconst 0, 1) := by decide +kernel
theorem dX4_tell_64 : decode cX4_tell 64 = .ok (.invokevirtual 112, 3) := by decide +kernel
theorem dX4_tell_67 : decode cX4_tell 67 = .ok (.aload_n 0, 1) := by decide +kernel
theorem dX4_tell_68 : decode cX4_tell 68 = .ok (.dup, 1) := by decide +kernel
theorem dX4_tell_69 : decode cX4_tell 69 = .ok (.getfield 183, 3) := by decide +kernel
theorem dX4_tell_72 : decode cX4_tell 72 = .ok (.iconst 1, 1) := by decide +kernel
theorem dX4_tell_73 : decode cX4_tell 73 = .ok (.isub, 1) := by decide +kernel
theorem dX4_tell_74 : decode cX4_tell 74 = .ok (.putfield 183, 3) := by decide +kernel
theorem dX4_tell_77 : decode cX4_tell 77 = .ok (.return_, 1) := by decide +kernel
theorem dX4_send_0 : decode cX4_send 0 = .ok (.aload_n 0, 1) := by decide +kernel
theorem dX4_send_1 : decode cX4_send 1 = .ok (.getfield 28, 3) := by decide +kernel
theorem dX4_send_4 : decode cX4_send 4 = .ok (.getfield 245, 3) := by decide +kernel
theorem dX4_send_7 : decode cX4_send 7 = .ok (.iload_n 2, 1) := by decide +kernel
theorem dX4_send_8 : decode cX4_send 8 = .ok (.iaload, 1) := by decide +kernel
theorem dX4_send_9 : decode cX4_send 9 = .ok (.istore 4, 2) := by decide +kernel
theorem dX4_send_11 : decode cX4_send 11 = .ok (.iload_n 1, 1) := by decide +kernel
theorem dX4_send_12 : decode cX4_send 12 = .ok (.iload 4, 2) := by decide +kernel
theorem dX4_send_14 : decode cX4_send 14 = .ok (.if_icmp .ne 11, 3) := by decide +kernel
theorem dX4_send_17 : decode cX4_send 17 = .ok (.aload_n 0, 1) := by decide +kernel
theorem dX4_send_18 : decode cX4_send 18 = .ok (.getfield 186, 3) := by decide +kernel
theorem dX4_send_21 : decode cX4_send 21 = .ok (.iconst 4, 1) := by decide +kernel
theorem dX4_send_22 : decode cX4_send 22 = .ok (.if_icmp .lt 17, 3) := by decide +kernel
theorem dX4_send_25 : decode cX4_send 25 = .ok (.aload_n 0, 1) := by decide +kernel
theorem dX4_send_26 : decode cX4_send 26 = .ok (.getfield 37, 3) := by decide +kernel
theorem dX4_send_29 : decode cX4_send 29 = .ok (.iload_n 1, 1) := by decide +kernel
theorem dX4_send_30 : decode cX4_send 30 = .ok (.iload 4, 2) := by decide +kernel
theorem dX4_send_32 : decode cX4_send 32 = .ok (.iconst 2, 1) := by decide +kernel
theorem dX4_send_33 : decode cX4_send 33 = .ok (.iload_n 2, 1) := by decide +kernel
theorem dX4_send_34 : decode cX4_send 34 = .ok (.iload_n 3, 1) := by decide +kernel
theorem dX4_send_35 : decode cX4_send 35 = .ok (.invokevirtual 195, 3) := by decide +kernel
theorem dX4_send_38 : decode cX4_send 38 = .ok (.ireturn, 1) := by decide +kernel
theorem dX4_send_39 : decode cX4_send 39 = .ok (.aload_n 0, 1) := by decide +kernel
theorem dX4_send_40 : decode cX4_send 40 = .ok (.iload_n 1, 1) := by decide +kernel
theorem dX4_send_41 : decode cX4_send 41 = .ok (.iload_n 2, 1) := by decide +kernel
theorem dX4_send_42 : decode cX4_send 42 = .ok (.iload_n 3, 1) := by decide +kernel
theorem dX4_send_43 : decode cX4_send 43 = .ok (.invokevirtual 138, 3) := by decide +kernel
theorem dX4_send_46 : decode cX4_send 46 = .ok (.iconst 1, 1) := by decide +kernel
theorem dX4_send_47 : decode cX4_send 47 = .ok (.ireturn, 1) := by decide +kernel
theorem dX4_goThrough_0 : decode cX4_goThrough 0 = .ok (.aload_n 0, 1) := by decide +kernel
theorem dX4_goThrough_1 : decode cX4_goThrough 1 = .ok (.dup, 1) := by decide +kernel
theorem dX4_goThrough_2 : decode cX4_goThrough 2 = .ok (.getfield 186, 3) := by decide +kernel
theorem dX4_goThrough_5 : decode cX4_goThrough 5 = .ok (.iconst 1, 1) := by decide +kernel
theorem dX4_goThrough_6 : decode cX4_goThrough 6 = .ok (.iadd, 1) := by decide +kernel
theorem dX4_goThrough_7 : decode cX4_goThrough 7 = .ok (.putfield 186, 3) := by decide +kernel
theorem dX4_goThrough_10 : decode cX4_goThrough 10 = .ok (.iload_n 3, 1) := by decide +kernel
theorem dX4_goThrough_11 : decode cX4_goThrough 11 = .ok (.istore 4, 2) := by decide +kernel
theorem dX4_goThrough_13 : decode cX4_goThrough 13 = .ok (.iconst 0, 1) := by decide +kernel
theorem dX4_goThrough_14 : decode cX4_goThrough 14 = .ok (.istore 5, 2) := by decide +kernel
theorem dX4_goThrough_16 : decode cX4_goThrough 16 = .ok (.iconst 0, 1) := by decide +kernel
theorem dX4_goThrough_17 : decode cX4_goThrough 17 = .ok (.istore 6, 2) := by decide +kernel
theorem dX4_goThrough_19 : decode cX4_goThrough 19 = .ok (.iload 6, 2) := by decide +kernel
theorem dX4_goThrough_21 : decode cX4_goThrough 21 = .ok (.aload_n 0, 1) := by decide +kernel
theorem dX4_goThrough_22 : decode cX4_goThrough 22 = .ok (.getfield 28, 3) := by decide +kernel
theorem dX4_goThrough_25 : decode cX4_goThrough 25 = .ok (.getfield 247, 3) := by decide +kernel
theorem dX4_goThrough_28 : decode cX4_goThrough 28 = .ok (.iload_n 2, 1) := by decide +kernel
theorem dX4_goThrough_29 : decode cX4_goThrough 29 = .ok (.iaload, 1) := by decide +kernel
theorem dX4_goThrough_30 : decode cX4_goThrough 30 = .ok (.if_icmp .ge 103, 3) := by decide +kernel
theorem dX4_goThrough_33 : decode cX4_goThrough 33 = .ok (.iload 5, 2) := by decide +kernel
theorem dX4_goThrough_35 : decode cX4_goThrough 35 = .ok (.iconst 1, 1) := by decide +kernel
theorem dX4_goThrough_36 : decode cX4_goThrough 36 = .ok (.if_icmp .eq 97, 3) := by decide +kernel
theorem dX4_goThrough_39 : decode cX4_goThrough 39 = .ok (.iload_n 2, 1) := by decide +kernel
theorem dX4_goThrough_40 : decode cX4_goThrough 40 = .ok (.bipush 6, 2) := by decide +kernel
theorem dX4_goThrough_42 : decode cX4_goThrough 42 = .ok (.imul, 1) := by decide +kernel
theorem dX4_goThrough_43 : decode cX4_goThrough 43 = .ok (.iload 6, 2) := by decide +kernel
theorem dX4_goThrough_45 : decode cX4_goThrough 45 = .ok (.iadd, 1) := by decide +kernel
theorem dX4_goThrough_46 : decode cX4_goThrough 46 = .ok (.istore 7, 2) := by decide +kernel
theorem dX4_goThrough_48 : decode cX4_goThrough 48 = .ok (.aload_n 0, 1) := by decide +kernel
theorem dX4_goThrough_49 : decode cX4_goThrough 49 = .ok (.getfield 28, 3) := by decide +kernel
theorem dX4_goThrough_52 : decode cX4_goThrough 52 = .ok (.getfield 248, 3) := by decide +kernel
theorem dX4_goThrough_55 : decode cX4_goThrough 55 = .ok (.iload 7, 2) := by decide +kernel
theorem dX4_goThrough_57 : decode cX4_goThrough 57 = .ok (.iaload, 1) := by decide +kernel
theorem dX4_goThrough_58 : decode cX4_goThrough 58 = .ok (.istore 8, 2) := by decide +kernel
theorem dX4_goThrough_60 : decode cX4_goThrough 60 = .ok (.iload 5, 2) := by decide +kernel
theorem dX4_goThrough_62 : decode cX4_goThrough 62 = .ok (.iconst 2, 1) := by decide +kernel
theorem dX4_goThrough_63 : decode cX4_goThrough 63 = .ok (.if_icmp .ne 20, 3) := by decide +kernel
theorem dX4_goThrough_66 : decode cX4_goThrough 66 = .ok (.iload 8, 2) := by decide +kernel
theorem dX4_goThrough_68 : decode cX4_goThrough 68 = .ok (.bipush 6, 2) := by decide +kernel
theorem dX4_goThrough_70 : decode cX4_goThrough 70 = .ok (.if_icmp .ne 7, 3) := by decide +kernel
theorem dX4_goThrough_73 : decode cX4_goThrough 73 = .ok (.iconst 1, 1) := by decide +kernel
theorem dX4_goThrough_74 : decode cX4_goThrough 74 = .ok (.goto 4, 3) := by decide +kernel
theorem dX4_goThrough_77 : decode cX4_goThrough 77 = .ok (.iconst 2, 1) := by decide +kernel
theorem dX4_goThrough_78 : decode cX4_goThrough 78 = .ok (.istore 5, 2) := by decide +kernel
theorem dX4_goThrough_80 : decode cX4_goThrough 80 = .ok (.goto 47, 3) := by decide +kernel
theorem dX4_goThrough_83 : decode cX4_goThrough 83 = .ok (.iload 8, 2) := by decide +kernel
theorem dX4_goThrough_85 : decode cX4_goThrough 85 = .ok (.bipush 6, 2) := by decide +kernel
theorem dX4_goThrough_87 : decode cX4_goThrough 87 = .ok (.if_icmp .eq 40, 3) := by decide +kernel
theorem dX4_goThrough_90 : decode cX4_goThrough 90 = .ok (.aload_n 0, 1) := by decide +kernel
theorem dX4_goThrough_91 : decode cX4_goThrough 91 = .ok (.iload_n 1, 1) := by decide +kernel
theorem dX4_goThrough_92 : decode cX4_goThrough 92 = .ok (.iload_n 2, 1) := by decide +kernel
theorem dX4_goThrough_93 : decode cX4_goThrough 93 = .ok (.iload 7, 2) := by decide +kernel
theorem dX4_goThrough_95 : decode cX4_goThrough 95 = .ok (.iload 4, 2) := by decide +kernel
theorem dX4_goThrough_97 : decode cX4_goThrough 97 = .ok (.invokevirtual 249, 3) := by decide +kernel
theorem dX4_goThrough_100 : decode cX4_goThrough 100 = .ok (.istore 5, 2) := by decide +kernel
theorem dX4_goThrough_102 : decode cX4_goThrough 102 = .ok (.iload 4, 2) := by decide +kernel
theorem dX4_goThrough_104 : decode cX4_goThrough 104 = .ok (.iload 8, 2) := by decide +kernel
theorem dX4_goThrough_106 : decode cX4_goThrough 106 = .ok (.iconst 1, 1) := by decide +kernel
theorem dX4_goThrough_107 : decode cX4_goThrough 107 = .ok (.if_icmp .ne 16, 3) := by decide +kernel
theorem dX4_goThrough_110 : decode cX4_goThrough 110 = .ok (.aload_n 0, 1) := by decide +kernel
theorem dX4_goThrough_111 : decode cX4_goThrough 111 = .ok (.getfield 28, 3) := by decide +kernel
theorem dX4_goThrough_114 : decode cX4_goThrough 114 = .ok (.getfield 252, 3) := by decide +kernel
theorem dX4_goThrough_117 : decode cX4_goThrough 117 = .ok (.iload 7, 2) := by decide +kernel
theorem dX4_goThrough_119 : decode cX4_goThrough 119 = .ok (.iaload, 1) := by decide +kernel
theorem dX4_goThrough_120 : decode cX4_goThrough 120 = .ok (.goto 4, 3) := by decide +kernel
theorem dX4_goThrough_123 : decode cX4_goThrough 123 = .ok (.iconst 0, 1) := by decide +kernel
theorem dX4_goThrough_124 : decode cX4_goThrough 124 = .ok (.iadd, 1) := by decide +kernel
theorem dX4_goThrough_125 : decode cX4_goThrough 125 = .ok (.istore 4, 2) := by decide +kernel
theorem dX4_goThrough_127 : decode cX4_goThrough 127 = .ok (.iinc 6 1, 3) := by decide +kernel
theorem dX4_goThrough_130 : decode cX4_goThrough 130 = .ok (.goto (-111), 3) := by decide +kernel
theorem dX4_goThrough_133 : decode cX4_goThrough 133 = .ok (.aload_n 0, 1) := by decide +kernel
theorem dX4_goThrough_134 : decode cX4_goThrough 134 = .ok (.dup, 1) := by decide +kernel
theorem dX4_goThrough_135 : decode cX4_goThrough 135 = .ok (.getfield 186, 3) := by decide +kernel
theorem dX4_goThrough_138 : decode cX4_goThrough 138 = .ok (.iconst 1, 1) := by decide +kernel
theorem dX4_goThrough_139 : decode cX4_goThrough 139 = .ok (.isub, 1) := by decide +kernel
theorem dX4_goThrough_140 : decode cX4_goThrough 140 = .ok (.putfield 186, 3) := by decide +kernel
theorem dX4_goThrough_143 : decode cX4_goThrough 143 = .ok (.iload 5, 2) := by decide +kernel
theorem dX4_goThrough_145 : decode cX4_goThrough 145 = .ok (.ifCond .ne 18, 3) := by decide +kernel
theorem dX4_goThrough_148 : decode cX4_goThrough 148 = .ok (.aload_n 0, 1) := by decide +kernel
theorem dX4_goThrough_149 : decode cX4_goThrough 149 = .ok (.getfield 45, 3) := by decide +kernel
theorem dX4_goThrough_152 : decode cX4_goThrough 152 = .ok (.iload_n 1, 1) := by decide +kernel
theorem dX4_goThrough_153 : decode cX4_goThrough 153 = .ok (.bipush 8, 2) := by decide +kernel
theorem dX4_goThrough_155 : decode cX4_goThrough 155 = .ok (.iload 4, 2) := by decide +kernel
theorem dX4_goThrough_157 : decode cX4_goThrough 157 = .ok (.invokevirtual 102, 3) := by decide +kernel
theorem dX4_goThrough_160 : decode cX4_goThrough 160 = .ok (.goto 21, 3) := by decide +kernel
theorem dX4_goThrough_163 : decode cX4_goThrough 163 = .ok (.iload 5, 2) := by decide +kernel
theorem dX4_goThrough_165 : decode cX4_goThrough 165 = .ok (.iconst 2, 1) := by decide +kernel
theorem dX4_goThrough_166 : decode cX4_goThrough 166 = .ok (.if_icmp .ne 15, 3) := by decide +kernel
theorem dX4_goThrough_169 : decode cX4_goThrough 169 = .ok (.aload_n 0, 1) := by decide +kernel
theorem dX4_goThrough_170 : decode cX4_goThrough 170 = .ok (.getfield 45, 3) := by decide +kernel
theorem dX4_goThrough_173 : decode cX4_goThrough 173 = .ok (.iload_n 1, 1) := by decide +kernel
theorem dX4_goThrough_174 : decode cX4_goThrough 174 = .ok (.iconst 2, 1) := by decide +kernel
theorem dX4_goThrough_175 : decode cX4_goThrough 175 = .ok (.iconst (-1), 1) := by decide +kernel
theorem dX4_goThrough_176 : decode cX4_goThrough 176 = .ok (.iload_n 2, 1) := by decide +kernel
theorem dX4_goThrough_177 : decode cX4_goThrough 177 = .ok (.isub, 1) := by decide +kernel
theorem dX4_goThrough_178 : decode cX4_goThrough 178 = .ok (.invokevirtual 102, 3) := by decide +kernel
theorem dX4_goThrough_181 : decode cX4_goThrough 181 = .ok (.return_, 1) := by decide +kernel
theorem dX4_handle_0 : decode cX4_handle 0 = .ok (.aload_n 0, 1) := by decide +kernel
theorem dX4_handle_1 : decode cX4_handle 1 = .ok (.getfield 45, 3) := by decide +kernel
theorem dX4_handle_4 : decode cX4_handle 4 = .ok (.iload_n 1, 1) := by decide +kernel
theorem dX4_handle_5 : decode cX4_handle 5 = .ok (.bipush 6, 2) := by decide +kernel
theorem dX4_handle_7 : decode cX4_handle 7 = .ok (.ldc 253, 2) := by decide +kernel
theorem dX4_handle_9 : decode cX4_handle 9 = .ok (.aload_n 0, 1) := by decide +kernel
theorem dX4_handle_10 : decode cX4_handle 10 = .ok (.getfield 28, 3) := by decide +kernel
theorem dX4_handle_13 : decode cX4_handle 13 = .ok (.getfield 252, 3) := by decide +kernel
theorem dX4_handle_16 : decode cX4_handle 16 = .ok (.iload_n 3, 1) := by decide +kernel
theorem dX4_handle_17 : decode cX4_handle 17 = .ok (.iaload, 1) := by decide +kernel
theorem dX4_handle_18 : decode cX4_handle 18 = .ok (.imul, 1) := by decide +kernel
theorem dX4_handle_19 : decode cX4_handle 19 = .ok (.iload 4, 2) := by decide +kernel
theorem dX4_handle_21 : decode cX4_handle 21 = .ok (.iadd, 1) := by decide +kernel
theorem dX4_handle_22 : decode cX4_handle 22 = .ok (.invokevirtual 102, 3) := by decide +kernel
theorem dX4_handle_25 : decode cX4_handle 25 = .ok (.aload_n 0, 1) := by decide +kernel
theorem dX4_handle_26 : decode cX4_handle 26 = .ok (.getfield 28, 3) := by decide +kernel
theorem dX4_handle_29 : decode cX4_handle 29 = .ok (.getfield 248, 3) := by decide +kernel
theorem dX4_handle_32 : decode cX4_handle 32 = .ok (.iload_n 3, 1) := by decide +kernel
theorem dX4_handle_33 : decode cX4_handle 33 = .ok (.iaload, 1) := by decide +kernel
theorem dX4_handle_34 : decode cX4_handle 34 = .ok (.tableswitch 83 2 5 #[30, 43, 53, 70], 30) := by decide +kernel
theorem dX4_handle_64 : decode cX4_handle 64 = .ok (.iload 4, 2) := by decide +kernel
theorem dX4_handle_66 : decode cX4_handle 66 = .ok (.iconst 2, 1) := by decide +kernel
theorem dX4_handle_67 : decode cX4_handle 67 = .ok (.irem, 1) := by decide +kernel
theorem dX4_handle_68 : decode cX4_handle 68 = .ok (.ifCond .eq 7, 3) := by decide +kernel
theorem dX4_handle_71 : decode cX4_handle 71 = .ok (.iconst 1, 1) := by decide +kernel
theorem dX4_handle_72 : decode cX4_handle 72 = .ok (.goto 4, 3) := by decide +kernel
theorem dX4_handle_75 : decode cX4_handle 75 = .ok (.iconst 0, 1) := by decide +kernel
theorem dX4_handle_76 : decode cX4_handle 76 = .ok (.ireturn, 1) := by decide +kernel
theorem dX4_handle_77 : decode cX4_handle 77 = .ok (.aload_n 0, 1) := by decide +kernel
theorem dX4_handle_78 : decode cX4_handle 78 = .ok (.iload_n 1, 1) := by decide +kernel
theorem dX4_handle_79 : decode cX4_handle 79 = .ok (.iload_n 2, 1) := by decide +kernel
theorem dX4_handle_80 : decode cX4_handle 80 = .ok (.iload 4, 2) := by decide +kernel
theorem dX4_handle_82 : decode cX4_handle 82 = .ok (.invokevirtual 254, 3) := by decide +kernel
theorem dX4_handle_85 : decode cX4_handle 85 = .ok (.iconst 0, 1) := by decide +kernel
theorem dX4_handle_86 : decode cX4_handle 86 = .ok (.ireturn, 1) := by decide +kernel
theorem dX4_handle_87 : decode cX4_handle 87 = .ok (.aload_n 0, 1) := by decide +kernel
theorem dX4_handle_88 : decode cX4_handle 88 = .ok (.iload_n 1, 1) := by decide +kernel
theorem dX4_handle_89 : decode cX4_handle 89 = .ok (.aload_n 0, 1) := by decide +kernel
theorem dX4_handle_90 : decode cX4_handle 90 = .ok (.getfield 28, 3) := by decide +kernel
theorem dX4_handle_93 : decode cX4_handle 93 = .ok (.getfield 257, 3) := by decide +kernel
theorem dX4_handle_96 : decode cX4_handle 96 = .ok (.iload_n 3, 1) := by decide +kernel
theorem dX4_handle_97 : decode cX4_handle 97 = .ok (.iaload, 1) := by decide +kernel
theorem dX4_handle_98 : decode cX4_handle 98 = .ok (.iconst 0, 1) := by decide +kernel
theorem dX4_handle_99 : decode cX4_handle 99 = .ok (.invokevirtual 112, 3) := by decide +kernel
theorem dX4_handle_102 : decode cX4_handle 102 = .ok (.iconst 0, 1) := by decide +kernel
theorem dX4_handle_103 : decode cX4_handle 103 = .ok (.ireturn, 1) := by decide +kernel
theorem dX4_handle_104 : decode cX4_handle 104 = .ok (.iload 4, 2) := by decide +kernel
theorem dX4_handle_106 : decode cX4_handle 106 = .ok (.iconst 3, 1) := by decide +kernel
theorem dX4_handle_107 : decode cX4_handle 107 = .ok (.irem, 1) := by decide +kernel
theorem dX4_handle_108 : decode cX4_handle 108 = .ok (.ifCond .ne 7, 3) := by decide +kernel
theorem dX4_handle_111 : decode cX4_handle 111 = .ok (.iconst 2, 1) := by decide +kernel
theorem dX4_handle_112 : decode cX4_handle 112 = .ok (.goto 4, 3) := by decide +kernel
theorem dX4_handle_115 : decode cX4_handle 115 = .ok (.iconst 0, 1) := by decide +kernel
theorem dX4_handle_116 : decode cX4_handle 116 = .ok (.ireturn, 1) := by decide +kernel
theorem dX4_handle_117 : decode cX4_handle 117 = .ok (.iconst 0, 1) := by decide +kernel
theorem dX4_handle_118 : decode cX4_handle 118 = .ok (.ireturn, 1) := by decide +kernel
theorem dX4_echo_0 : decode cX4_echo 0 = .ok (.aload_n 0, 1) := by decide +kernel
theorem dX4_echo_1 : decode cX4_echo 1 = .ok (.getfield 65, 3) := by decide +kernel
theorem dX4_echo_4 : decode cX4_echo 4 = .ok (.sipush 1000, 3) := by decide +kernel
theorem dX4_echo_7 : decode cX4_echo 7 = .ok (.if_icmp .ge 28, 3) := by decide +kernel
theorem dX4_echo_10 : decode cX4_echo 10 = .ok (.aload_n 0, 1) := by decide +kernel
theorem dX4_echo_11 : decode cX4_echo 11 = .ok (.dup, 1) := by decide +kernel
theorem dX4_echo_12 : decode cX4_echo 12 = .ok (.getfield 65, 3) := by decide +kernel
theorem dX4_echo_15 : decode cX4_echo 15 = .ok (.iconst 1, 1) := by decide +kernel
theorem dX4_echo_16 : decode cX4_echo 16 = .ok (.iadd, 1) := by decide +kernel
theorem dX4_echo_17 : decode cX4_echo 17 = .ok (.putfield 65, 3) := by decide +kernel
theorem dX4_echo_20 : decode cX4_echo 20 = .ok (.aload_n 0, 1) := by decide +kernel
theorem dX4_echo_21 : decode cX4_echo 21 = .ok (.iload_n 1, 1) := by decide +kernel
theorem dX4_echo_22 : decode cX4_echo 22 = .ok (.aload_n 0, 1) := by decide +kernel
theorem dX4_echo_23 : decode cX4_echo 23 = .ok (.getfield 28, 3) := by decide +kernel
theorem dX4_echo_26 : decode cX4_echo 26 = .ok (.iload_n 2, 1) := by decide +kernel
theorem dX4_echo_27 : decode cX4_echo 27 = .ok (.invokevirtual 215, 3) := by decide +kernel
theorem dX4_echo_30 : decode cX4_echo 30 = .ok (.iload_n 3, 1) := by decide +kernel
theorem dX4_echo_31 : decode cX4_echo 31 = .ok (.invokevirtual 212, 3) := by decide +kernel
theorem dX4_echo_34 : decode cX4_echo 34 = .ok (.pop, 1) := by decide +kernel
theorem dX4_echo_35 : decode cX4_echo 35 = .ok (.return_, 1) := by decide +kernel
theorem dX5_init_0 : decode cX5_init 0 = .ok (.aload_n 0, 1) := by decide +kernel
theorem dX5_init_1 : decode cX5_init 1 = .ok (.invokespecial 3, 3) := by decide +kernel
theorem dX5_init_4 : decode cX5_init 4 = .ok (.aload_n 0, 1) := by decide +kernel
theorem dX5_init_5 : decode cX5_init 5 = .ok (.new 9, 3) := by decide +kernel
theorem dX5_init_8 : decode cX5_init 8 = .ok (.dup, 1) := by decide +kernel
theorem dX5_init_9 : decode cX5_init 9 = .ok (.invokespecial 11, 3) := by decide +kernel
theorem dX5_init_12 : decode cX5_init 12 = .ok (.putfield 12, 3) := by decide +kernel
theorem dX5_init_15 : decode cX5_init 15 = .ok (.aload_n 0, 1) := by decide +kernel
theorem dX5_init_16 : decode cX5_init 16 = .ok (.iload_n 1, 1) := by decide +kernel
theorem dX5_init_17 : decode cX5_init 17 = .ok (.anewarray 18, 3) := by decide +kernel
theorem dX5_init_20 : decode cX5_init 20 = .ok (.putfield 20, 3) := by decide +kernel
theorem dX5_init_23 : decode cX5_init 23 = .ok (.iconst 0, 1) := by decide +kernel
theorem dX5_init_24 : decode cX5_init 24 = .ok (.istore_n 2, 1) := by decide +kernel
theorem dX5_init_25 : decode cX5_init 25 = .ok (.iload_n 2, 1) := by decide +kernel
theorem dX5_init_26 : decode cX5_init 26 = .ok (.iload_n 1, 1) := by decide +kernel
theorem dX5_init_27 : decode cX5_init 27 = .ok (.if_icmp .ge 22, 3) := by decide +kernel
theorem dX5_init_30 : decode cX5_init 30 = .ok (.aload_n 0, 1) := by decide +kernel
theorem dX5_init_31 : decode cX5_init 31 = .ok (.getfield 20, 3) := by decide +kernel
theorem dX5_init_34 : decode cX5_init 34 = .ok (.iload_n 2, 1) := by decide +kernel
theorem dX5_init_35 : decode cX5_init 35 = .ok (.new 18, 3) := by decide +kernel
theorem dX5_init_38 : decode cX5_init 38 = .ok (.dup, 1) := by decide +kernel
theorem dX5_init_39 : decode cX5_init 39 = .ok (.invokespecial 24, 3) := by decide +kernel
theorem dX5_init_42 : decode cX5_init 42 = .ok (.aastore, 1) := by decide +kernel
theorem dX5_init_43 : decode cX5_init 43 = .ok (.iinc 2 1, 3) := by decide +kernel
theorem dX5_init_46 : decode cX5_init 46 = .ok (.goto (-21), 3) := by decide +kernel
theorem dX5_init_49 : decode cX5_init 49 = .ok (.return_, 1) := by decide +kernel
theorem dX5_has_0 : decode cX5_has 0 = .ok (.iload_n 1, 1) := by decide +kernel
theorem dX5_has_1 : decode cX5_has 1 = .ok (.ifCond .lt 16, 3) := by decide +kernel
theorem dX5_has_4 : decode cX5_has 4 = .ok (.iload_n 1, 1) := by decide +kernel
theorem dX5_has_5 : decode cX5_has 5 = .ok (.aload_n 0, 1) := by decide +kernel
theorem dX5_has_6 : decode cX5_has 6 = .ok (.getfield 20, 3) := by decide +kernel
theorem dX5_has_9 : decode cX5_has 9 = .ok (.arraylength, 1) := by decide +kernel
theorem dX5_has_10 : decode cX5_has 10 = .ok (.if_icmp .ge 7, 3) := by decide +kernel
theorem dX5_has_13 : decode cX5_has 13 = .ok (.iconst 1, 1) := by decide +kernel
theorem dX5_has_14 : decode cX5_has 14 = .ok (.goto 4, 3) := by decide +kernel
theorem dX5_has_17 : decode cX5_has 17 = .ok (.iconst 0, 1) := by decide +kernel
theorem dX5_has_18 : decode cX5_has 18 = .ok (.ireturn, 1) := by decide +kernel
theorem dX5_choose_0 : decode cX5_choose 0 = .ok (.aload_n 0, 1) := by decide +kernel
theorem dX5_choose_1 : decode cX5_choose 1 = .ok (.getfield 25, 3) := by decide +kernel
theorem dX5_choose_4 : decode cX5_choose 4 = .ok (.istore_n 1, 1) := by decide +kernel
theorem dX5_choose_5 : decode cX5_choose 5 = .ok (.aload_n 0, 1) := by decide +kernel
theorem dX5_choose_6 : decode cX5_choose 6 = .ok (.getfield 20, 3) := by decide +kernel
theorem dX5_choose_9 : decode cX5_choose 9 = .ok (.arraylength, 1) := by decide +kernel
theorem dX5_choose_10 : decode cX5_choose 10 = .ok (.istore_n 2, 1) := by decide +kernel
theorem dX5_choose_11 : decode cX5_choose 11 = .ok (.aload_n 0, 1) := by decide +kernel
theorem dX5_choose_12 : decode cX5_choose 12 = .ok (.dup, 1) := by decide +kernel
theorem dX5_choose_13 : decode cX5_choose 13 = .ok (.getfield 25, 3) := by decide +kernel
theorem dX5_choose_16 : decode cX5_choose 16 = .ok (.iconst 1, 1) := by decide +kernel
theorem dX5_choose_17 : decode cX5_choose 17 = .ok (.iadd, 1) := by decide +kernel
theorem dX5_choose_18 : decode cX5_choose 18 = .ok (.putfield 25, 3) := by decide +kernel
theorem dX5_choose_21 : decode cX5_choose 21 = .ok (.iload_n 2, 1) := by decide +kernel
theorem dX5_choose_22 : decode cX5_choose 22 = .ok (.iload_n 2, 1) := by decide +kernel
theorem dX5_choose_23 : decode cX5_choose 23 = .ok (.iconst 1, 1) := by decide +kernel
theorem dX5_choose_24 : decode cX5_choose 24 = .ok (.isub, 1) := by decide +kernel
theorem dX5_choose_25 : decode cX5_choose 25 = .ok (.iand, 1) := by decide +kernel
theorem dX5_choose_26 : decode cX5_choose 26 = .ok (.ifCond .ne 11, 3) := by decide +kernel
theorem dX5_choose_29 : decode cX5_choose 29 = .ok (.iload_n 1, 1) := by decide +kernel
theorem dX5_choose_30 : decode cX5_choose 30 = .ok (.iload_n 2, 1) := by decide +kernel
theorem dX5_choose_31 : decode cX5_choose 31 = .ok (.iconst 1, 1) := by decide +kernel
theorem dX5_choose_32 : decode cX5_choose 32 = .ok (.isub, 1) := by decide +kernel
theorem dX5_choose_33 : decode cX5_choose 33 = .ok (.iand, 1) := by decide +kernel
theorem dX5_choose_34 : decode cX5_choose 34 = .ok (.goto 9, 3) := by decide +kernel
theorem dX5_choose_37 : decode cX5_choose 37 = .ok (.iload_n 1, 1) := by decide +kernel
theorem dX5_choose_38 : decode cX5_choose 38 = .ok (.iload_n 2, 1) := by decide +kernel
theorem dX5_choose_39 : decode cX5_choose 39 = .ok (.irem, 1) := by decide +kernel
theorem dX5_choose_40 : decode cX5_choose 40 = .ok (.invokestatic 29, 3) := by decide +kernel
theorem dX5_choose_43 : decode cX5_choose 43 = .ok (.ireturn, 1) := by decide +kernel
theorem dX5_enqueue_0 : decode cX5_enqueue 0 = .ok (.aload_n 0, 1) := by decide +kernel
theorem dX5_enqueue_1 : decode cX5_enqueue 1 = .ok (.getfield 20, 3) := by decide +kernel
theorem dX5_enqueue_4 : decode cX5_enqueue 4 = .ok (.iload_n 2, 1) := by decide +kernel
theorem dX5_enqueue_5 : decode cX5_enqueue 5 = .ok (.aaload, 1) := by decide +kernel
theorem dX5_enqueue_6 : decode cX5_enqueue 6 = .ok (.astore 6, 2) := by decide +kernel
theorem dX5_enqueue_8 : decode cX5_enqueue 8 = .ok (.aload 6, 2) := by decide +kernel
theorem dX5_enqueue_10 : decode cX5_enqueue 10 = .ok (.getfield 35, 3) := by decide +kernel
theorem dX5_enqueue_13 : decode cX5_enqueue 13 = .ok (.iconst 4, 1) := by decide +kernel
theorem dX5_enqueue_14 : decode cX5_enqueue 14 = .ok (.if_icmp .ge 14, 3) := by decide +kernel
theorem dX5_enqueue_17 : decode cX5_enqueue 17 = .ok (.aload 6, 2) := by decide +kernel
theorem dX5_enqueue_19 : decode cX5_enqueue 19 = .ok (.getfield 38, 3) := by decide +kernel
theorem dX5_enqueue_22 : decode cX5_enqueue 22 = .ok (.invokevirtual 42, 3) := by decide +kernel
theorem dX5_enqueue_25 : decode cX5_enqueue 25 = .ok (.ifCond .eq 25, 3) := by decide +kernel
theorem dX5_enqueue_28 : decode cX5_enqueue 28 = .ok (.aload_n 0, 1) := by decide +kernel
theorem dX5_enqueue_29 : decode cX5_enqueue 29 = .ok (.getfield 12, 3) := by decide +kernel
theorem dX5_enqueue_32 : decode cX5_enqueue 32 = .ok (.iload_n 1, 1) := by decide +kernel
theorem dX5_enqueue_33 : decode cX5_enqueue 33 = .ok (.iconst 4, 1) := by decide +kernel
theorem dX5_enqueue_34 : decode cX5_enqueue 34 = .ok (.iload_n 3, 1) := by decide +kernel
theorem dX5_enqueue_35 : decode cX5_enqueue 35 = .ok (.iconst 2, 1) := by decide +kernel
theorem dX5_enqueue_36 : decode cX5_enqueue 36 = .ok (.if_icmp .ne 7, 3) := by decide +kernel
theorem dX5_enqueue_39 : decode cX5_enqueue 39 = .ok (.iconst (-1), 1) := by decide +kernel
theorem dX5_enqueue_40 : decode cX5_enqueue 40 = .ok (.goto 5, 3) := by decide +kernel
theorem dX5_enqueue_43 : decode cX5_enqueue 43 = .ok (.iload 4, 2) := by decide +kernel
theorem dX5_enqueue_45 : decode cX5_enqueue 45 = .ok (.invokevirtual 48, 3) := by decide +kernel
theorem dX5_enqueue_48 : decode cX5_enqueue 48 = .ok (.iconst 0, 1) := by decide +kernel
theorem dX5_enqueue_49 : decode cX5_enqueue 49 = .ok (.ireturn, 1) := by decide +kernel
theorem dX5_enqueue_50 : decode cX5_enqueue 50 = .ok (.aload 6, 2) := by decide +kernel
theorem dX5_enqueue_52 : decode cX5_enqueue 52 = .ok (.getfield 35, 3) := by decide +kernel
theorem dX5_enqueue_55 : decode cX5_enqueue 55 = .ok (.iconst 1, 1) := by decide +kernel
theorem dX5_enqueue_56 : decode cX5_enqueue 56 = .ok (.if_icmp .ne 9, 3) := by decide +kernel
theorem dX5_enqueue_59 : decode cX5_enqueue 59 = .ok (.aload_n 0, 1) := by decide +kernel
theorem dX5_enqueue_60 : decode cX5_enqueue 60 = .ok (.iload_n 2, 1) := by decide +kernel
theorem dX5_enqueue_61 : decode cX5_enqueue 61 = .ok (.iconst 2, 1) := by decide +kernel
theorem dX5_enqueue_62 : decode cX5_enqueue 62 = .ok (.invokevirtual 52, 3) := by decide +kernel
theorem dX5_enqueue_65 : decode cX5_enqueue 65 = .ok (.aload 6, 2) := by decide +kernel
theorem dX5_enqueue_67 : decode cX5_enqueue 67 = .ok (.getfield 38, 3) := by decide +kernel
theorem dX5_enqueue_70 : decode cX5_enqueue 70 = .ok (.iload_n 3, 1) := by decide +kernel
theorem dX5_enqueue_71 : decode cX5_enqueue 71 = .ok (.iload 4, 2) := by decide +kernel
theorem dX5_enqueue_73 : decode cX5_enqueue 73 = .ok (.iload 5, 2) := by decide +kernel
theorem dX5_enqueue_75 : decode cX5_enqueue 75 = .ok (.invokevirtual 56, 3) := by decide +kernel
theorem dX5_enqueue_78 : decode cX5_enqueue 78 = .ok (.iconst 1, 1) := by decide +kernel
theorem dX5_enqueue_79 : decode cX5_enqueue 79 = .ok (.ireturn, 1) := by decide +kernel
theorem dX5_schedule_0 : decode cX5_schedule 0 = .ok (.aload_n 0, 1) := by decide +kernel
theorem dX5_schedule_1 : decode cX5_schedule 1 = .ok (.getfield 20, 3) := by decide +kernel
theorem dX5_schedule_4 : decode cX5_schedule 4 = .ok (.iload_n 2, 1) := by decide +kernel
theorem dX5_schedule_5 : decode cX5_schedule 5 = .ok (.aaload, 1) := by decide +kernel
theorem dX5_schedule_6 : decode cX5_schedule 6 = .ok (.astore 5, 2) := by decide +kernel
theorem dX5_schedule_8 : decode cX5_schedule 8 = .ok (.aload_n 0, 1) := by decide +kernel
theorem dX5_schedule_9 : decode cX5_schedule 9 = .ok (.getfield 59, 3) := by decide +kernel
theorem dX5_schedule_12 : decode cX5_schedule 12 = .ok (.sipush 400, 3) := by decide +kernel
theorem dX5_schedule_15 : decode cX5_schedule 15 = .ok (.if_icmp .ge 20, 3) := by decide +kernel
theorem dX5_schedule_18 : decode cX5_schedule 18 = .ok (.aload 5, 2) := by decide +kernel
theorem dX5_schedule_20 : decode cX5_schedule 20 = .ok (.getfield 62, 3) := by decide +kernel
theorem dX5_schedule_23 : decode cX5_schedule 23 = .ok (.getfield 66, 3) := by decide +kernel
theorem dX5_schedule_26 : decode cX5_schedule 26 = .ok (.bipush 24, 2) := by decide +kernel
theorem dX5_schedule_28 : decode cX5_schedule 28 = .ok (.if_icmp .ge 7, 3) := by decide +kernel
theorem dX5_schedule_31 : decode cX5_schedule 31 = .ok (.iconst 1, 1) := by decide +kernel
theorem dX5_schedule_32 : decode cX5_schedule 32 = .ok (.goto 4, 3) := by decide +kernel
theorem dX5_schedule_35 : decode cX5_schedule 35 = .ok (.iconst 0, 1) := by decide +kernel
theorem dX5_schedule_36 : decode cX5_schedule 36 = .ok (.istore 6, 2) := by decide +kernel
theorem dX5_schedule_38 : decode cX5_schedule 38 = .ok (.iload 6, 2) := by decide +kernel
theorem dX5_schedule_40 : decode cX5_schedule 40 = .ok (.ifCond .eq 12, 3) := by decide +kernel
theorem dX5_schedule_43 : decode cX5_schedule 43 = .ok (.aload 5, 2) := by decide +kernel
theorem dX5_schedule_45 : decode cX5_schedule 45 = .ok (.getfield 35, 3) := by decide +kernel
theorem dX5_schedule_48 : decode cX5_schedule 48 = .ok (.iconst 3, 1) := by decide +kernel
theorem dX5_schedule_49 : decode cX5_schedule 49 = .ok (.if_icmp .lt 15, 3) := by decide +kernel
theorem dX5_schedule_52 : decode cX5_schedule 52 = .ok (.aload_n 0, 1) := by decide +kernel
theorem dX5_schedule_53 : decode cX5_schedule 53 = .ok (.getfield 12, 3) := by decide +kernel
theorem dX5_schedule_56 : decode cX5_schedule 56 = .ok (.iload_n 1, 1) := by decide +kernel
theorem dX5_schedule_57 : decode cX5_schedule 57 = .ok (.iconst 4, 1) := by decide +kernel
theorem dX5_schedule_58 : decode cX5_schedule 58 = .ok (.iload_n 3, 1) := by decide +kernel
theorem dX5_schedule_59 : decode cX5_schedule 59 = .ok (.invokevirtual 48, 3) := by decide +kernel
theorem dX5_schedule_62 : decode cX5_schedule 62 = .ok (.iconst (-1), 1) := by decide +kernel
theorem dX5_schedule_63 : decode cX5_schedule 63 = .ok (.ireturn, 1) := by decide +kernel
theorem dX5_schedule_64 : decode cX5_schedule 64 = .ok (.aload 5, 2) := by decide +kernel
theorem dX5_schedule_66 : decode cX5_schedule 66 = .ok (.getfield 35, 3) := by decide +kernel
theorem dX5_schedule_69 : decode cX5_schedule 69 = .ok (.iconst 1, 1) := by decide +kernel
theorem dX5_schedule_70 : decode cX5_schedule 70 = .ok (.if_icmp .ne 9, 3) := by decide +kernel
theorem dX5_schedule_73 : decode cX5_schedule 73 = .ok (.aload_n 0, 1) := by decide +kernel
theorem dX5_schedule_74 : decode cX5_schedule 74 = .ok (.iload_n 2, 1) := by decide +kernel
theorem dX5_schedule_75 : decode cX5_schedule 75 = .ok (.iconst 2, 1) := by decide +kernel
theorem dX5_schedule_76 : decode cX5_schedule 76 = .ok (.invokevirtual 52, 3) := by decide +kernel
theorem dX5_schedule_79 : decode cX5_schedule 79 = .ok (.aload_n 0, 1) := by decide +kernel
theorem dX5_schedule_80 : decode cX5_schedule 80 = .ok (.getfield 59, 3) := by decide +kernel
theorem dX5_schedule_83 : decode cX5_schedule 83 = .ok (.istore 7, 2) := by decide +kernel
theorem dX5_schedule_85 : decode cX5_schedule 85 = .ok (.aload_n 0, 1) := by decide +kernel
theorem dX5_schedule_86 : decode cX5_schedule 86 = .ok (.dup, 1) := by decide +kernel
theorem dX5_schedule_87 : decode cX5_schedule 87 = .ok (.getfield 59, 3) := by decide +kernel
theorem dX5_schedule_90 : decode cX5_schedule 90 = .ok (.iconst 1, 1) := by decide +kernel
theorem dX5_schedule_91 : decode cX5_schedule 91 = .ok (.iadd, 1) := by decide +kernel
theorem dX5_schedule_92 : decode cX5_schedule 92 = .ok (.putfield 59, 3) := by decide +kernel
theorem dX5_schedule_95 : decode cX5_schedule 95 = .ok (.aload 5, 2) := by decide +kernel
theorem dX5_schedule_97 : decode cX5_schedule 97 = .ok (.getfield 62, 3) := by decide +kernel
theorem dX5_schedule_100 : decode cX5_schedule 100 = .ok (.iload 7, 2) := by decide +kernel
theorem dX5_schedule_102 : decode cX5_schedule 102 = .ok (.iload_n 3, 1) := by decide +kernel
theorem dX5_schedule_103 : decode cX5_schedule 103 = .ok (.aload_n 0, 1) := by decide +kernel
theorem dX5_schedule_104 : decode cX5_schedule 104 = .ok (.getfield 71, 3) := by decide +kernel
theorem dX5_schedule_107 : decode cX5_schedule 107 = .ok (.iload 4, 2) := by decide +kernel
theorem dX5_schedule_109 : decode cX5_schedule 109 = .ok (.i2l, 1) := by decide +kernel
theorem dX5_schedule_110 : decode cX5_schedule 110 = .ok (.ladd, 1) := by decide +kernel
theorem dX5_schedule_111 : decode cX5_schedule 111 = .ok (.invokevirtual 75, 3) := by decide +kernel
theorem dX5_schedule_114 : decode cX5_schedule 114 = .ok (.aload_n 0, 1) := by decide +kernel
theorem dX5_schedule_115 : decode cX5_schedule 115 = .ok (.getfield 12, 3) := by decide +kernel
theorem dX5_schedule_118 : decode cX5_schedule 118 = .ok (.iload_n 1, 1) := by decide +kernel
theorem dX5_schedule_119 : decode cX5_schedule 119 = .ok (.bipush 9, 2) := by decide +kernel
theorem dX5_schedule_121 : decode cX5_schedule 121 = .ok (.iload 7, 2) := by decide +kernel
theorem dX5_schedule_123 : decode cX5_schedule 123 = .ok (.invokevirtual 48, 3) := by decide +kernel
theorem dX5_schedule_126 : decode cX5_schedule 126 = .ok (.iload 7, 2) := by decide +kernel
theorem dX5_schedule_128 : decode cX5_schedule 128 = .ok (.ireturn, 1) := by decide +kernel
theorem dX5_dropTimer_0 : decode cX5_dropTimer 0 = .ok (.iconst 0, 1) := by decide +kernel
theorem dX5_dropTimer_1 : decode cX5_dropTimer 1 = .ok (.istore_n 2, 1) := by decide +kernel
theorem dX5_dropTimer_2 : decode cX5_dropTimer 2 = .ok (.iload_n 2, 1) := by decide +kernel
theorem dX5_dropTimer_3 : decode cX5_dropTimer 3 = .ok (.aload_n 0, 1) := by decide +kernel
theorem dX5_dropTimer_4 : decode cX5_dropTimer 4 = .ok (.getfield 20, 3) := by decide +kernel
theorem dX5_dropTimer_7 : decode cX5_dropTimer 7 = .ok (.arraylength, 1) := by decide +kernel
theorem dX5_dropTimer_8 : decode cX5_dropTimer 8 = .ok (.if_icmp .ge 43, 3) := by decide +kernel
theorem dX5_dropTimer_11 : decode cX5_dropTimer 11 = .ok (.aload_n 0, 1) := by decide +kernel
theorem dX5_dropTimer_12 : decode cX5_dropTimer 12 = .ok (.getfield 20, 3) := by decide +kernel
theorem dX5_dropTimer_15 : decode cX5_dropTimer 15 = .ok (.iload_n 2, 1) := by decide +kernel
theorem dX5_dropTimer_16 : decode cX5_dropTimer 16 = .ok (.aaload, 1) := by decide +kernel
theorem dX5_dropTimer_17 : decode cX5_dropTimer 17 = .ok (.getfield 62, 3) := by decide +kernel
theorem dX5_dropTimer_20 : decode cX5_dropTimer 20 = .ok (.iload_n 1, 1) := by decide +kernel
theorem dX5_dropTimer_21 : decode cX5_dropTimer 21 = .ok (.invokevirtual 78, 3) := by decide +kernel
theorem dX5_dropTimer_24 : decode cX5_dropTimer 24 = .ok (.istore_n 3, 1) := by decide +kernel
theorem dX5_dropTimer_25 : decode cX5_dropTimer 25 = .ok (.iload_n 3, 1) := by decide +kernel
theorem dX5_dropTimer_26 : decode cX5_dropTimer 26 = .ok (.iconst (-1), 1) := by decide +kernel
theorem dX5_dropTimer_27 : decode cX5_dropTimer 27 = .ok (.if_icmp .eq 18, 3) := by decide +kernel
theorem dX5_dropTimer_30 : decode cX5_dropTimer 30 = .ok (.aload_n 0, 1) := by decide +kernel
theorem dX5_dropTimer_31 : decode cX5_dropTimer 31 = .ok (.getfield 20, 3) := by decide +kernel
theorem dX5_dropTimer_34 : decode cX5_dropTimer 34 = .ok (.iload_n 2, 1) := by decide +kernel
theorem dX5_dropTimer_35 : decode cX5_dropTimer 35 = .ok (.aaload, 1) := by decide +kernel
theorem dX5_dropTimer_36 : decode cX5_dropTimer 36 = .ok (.getfield 62, 3) := by decide +kernel
theorem dX5_dropTimer_39 : decode cX5_dropTimer 39 = .ok (.iload_n 3, 1) := by decide +kernel
theorem dX5_dropTimer_40 : decode cX5_dropTimer 40 = .ok (.invokevirtual 81, 3) := by decide +kernel
theorem dX5_dropTimer_43 : decode cX5_dropTimer 43 = .ok (.iconst 1, 1) := by decide +kernel
theorem dX5_dropTimer_44 : decode cX5_dropTimer 44 = .ok (.ireturn, 1) := by decide +kernel
theorem dX5_dropTimer_45 : decode cX5_dropTimer 45 = .ok (.iinc 2 1, 3) := by decide +kernel
theorem dX5_dropTimer_48 : decode cX5_dropTimer 48 = .ok (.goto (-46), 3) := by decide +kernel
theorem dX5_dropTimer_51 : decode cX5_dropTimer 51 = .ok (.iconst 0, 1) := by decide +kernel
theorem dX5_dropTimer_52 : decode cX5_dropTimer 52 = .ok (.ireturn, 1) := by decide +kernel
theorem dX5_beginBatch_0 : decode cX5_beginBatch 0 = .ok (.iconst 0, 1) := by decide +kernel
theorem dX5_beginBatch_1 : decode cX5_beginBatch 1 = .ok (.istore_n 2, 1) := by decide +kernel
theorem dX5_beginBatch_2 : decode cX5_beginBatch 2 = .ok (.iload_n 2, 1) := by decide +kernel
theorem dX5_beginBatch_3 : decode cX5_beginBatch 3 = .ok (.bipush 24, 2) := by decide +kernel
theorem dX5_beginBatch_5 : decode cX5_beginBatch 5 = .ok (.if_icmp .ge 65, 3) := by decide +kernel
theorem dX5_beginBatch_8 : decode cX5_beginBatch 8 = .ok (.aload_n 1, 1) := by decide +kernel
theorem dX5_beginBatch_9 : decode cX5_beginBatch 9 = .ok (.getfield 38, 3) := by decide +kernel
theorem dX5_beginBatch_12 : decode cX5_beginBatch 12 = .ok (.invokevirtual 42, 3) := by decide +kernel
theorem dX5_beginBatch_15 : decode cX5_beginBatch 15 = .ok (.ifCond .ne 55, 3) := by decide +kernel
theorem dX5_beginBatch_18 : decode cX5_beginBatch 18 = .ok (.aload_n 1, 1) := by decide +kernel
theorem dX5_beginBatch_19 : decode cX5_beginBatch 19 = .ok (.getfield 62, 3) := by decide +kernel
theorem dX5_beginBatch_22 : decode cX5_beginBatch 22 = .ok (.aload_n 0, 1) := by decide +kernel
theorem dX5_beginBatch_23 : decode cX5_beginBatch 23 = .ok (.getfield 71, 3) := by decide +kernel
theorem dX5_beginBatch_26 : decode cX5_beginBatch 26 = .ok (.invokevirtual 85, 3) := by decide +kernel
theorem dX5_beginBatch_29 : decode cX5_beginBatch 29 = .ok (.istore_n 3, 1) := by decide +kernel
theorem dX5_beginBatch_30 : decode cX5_beginBatch 30 = .ok (.iload_n 3, 1) := by decide +kernel
theorem dX5_beginBatch_31 : decode cX5_beginBatch 31 = .ok (.iconst (-1), 1) := by decide +kernel
theorem dX5_beginBatch_32 : decode cX5_beginBatch 32 = .ok (.if_icmp .ne 6, 3) := by decide +kernel
theorem dX5_beginBatch_35 : decode cX5_beginBatch 35 = .ok (.goto 35, 3) := by decide +kernel
theorem dX5_beginBatch_38 : decode cX5_beginBatch 38 = .ok (.aload_n 1, 1) := by decide +kernel
theorem dX5_beginBatch_39 : decode cX5_beginBatch 39 = .ok (.getfield 38, 3) := by decide +kernel
theorem dX5_beginBatch_42 : decode cX5_beginBatch 42 = .ok (.iconst 0, 1) := by decide +kernel
theorem dX5_beginBatch_43 : decode cX5_beginBatch 43 = .ok (.aload_n 1, 1) := by decide +kernel
theorem dX5_beginBatch_44 : decode cX5_beginBatch 44 = .ok (.getfield 62, 3) := by decide +kernel
theorem dX5_beginBatch_47 : decode cX5_beginBatch 47 = .ok (.getfield 89, 3) := by decide +kernel
theorem dX5_beginBatch_50 : decode cX5_beginBatch 50 = .ok (.iload_n 3, 1) := by decide +kernel
theorem dX5_beginBatch_51 : decode cX5_beginBatch 51 = .ok (.iaload, 1) := by decide +kernel
theorem dX5_beginBatch_52 : decode cX5_beginBatch 52 = .ok (.iconst 0, 1) := by decide +kernel
theorem dX5_beginBatch_53 : decode cX5_beginBatch 53 = .ok (.invokevirtual 56, 3) := by decide +kernel
theorem dX5_beginBatch_56 : decode cX5_beginBatch 56 = .ok (.aload_n 1, 1) := by decide +kernel
theorem dX5_beginBatch_57 : decode cX5_beginBatch 57 = .ok (.getfield 62, 3) := by decide +kernel
theorem dX5_beginBatch_60 : decode cX5_beginBatch 60 = .ok (.iload_n 3, 1) := by decide +kernel
theorem dX5_beginBatch_61 : decode cX5_beginBatch 61 = .ok (.invokevirtual 81, 3) := by decide +kernel
theorem dX5_beginBatch_64 : decode cX5_beginBatch 64 = .ok (.iinc 2 1, 3) := by decide +kernel
theorem dX5_beginBatch_67 : decode cX5_beginBatch 67 = .ok (.goto (-65), 3) := by decide +kernel
theorem dX5_beginBatch_70 : decode cX5_beginBatch 70 = .ok (.aload_n 1, 1) := by decide +kernel
theorem dX5_beginBatch_71 : decode cX5_beginBatch 71 = .ok (.aload_n 1, 1) := by decide +kernel
theorem dX5_beginBatch_72 : decode cX5_beginBatch 72 = .ok (.getfield 38, 3) := by decide +kernel
theorem dX5_beginBatch_75 : decode cX5_beginBatch 75 = .ok (.getfield 93, 3) := by decide +kernel
theorem dX5_beginBatch_78 : decode cX5_beginBatch 78 = .ok (.bipush 16, 2) := by decide +kernel
theorem dX5_beginBatch_80 : decode cX5_beginBatch 80 = .ok (.invokestatic 94, 3) := by decide +kernel
theorem dX5_beginBatch_83 : decode cX5_beginBatch 83 = .ok (.putfield 98, 3) := by decide +kernel
theorem dX5_beginBatch_86 : decode cX5_beginBatch 86 = .ok (.return_, 1) := by decide +kernel
theorem dX5_canShut_0 : decode cX5_canShut 0 = .ok (.iload_n 1, 1) := by decide +kernel
theorem dX5_canShut_1 : decode cX5_canShut 1 = .ok (.ifCond .lt 12, 3) := by decide +kernel
theorem dX5_canShut_4 : decode cX5_canShut 4 = .ok (.iload_n 2, 1) := by decide +kernel
theorem dX5_canShut_5 : decode cX5_canShut 5 = .ok (.iload_n 1, 1) := by decide +kernel
theorem dX5_canShut_6 : decode cX5_canShut 6 = .ok (.if_icmp .lt 7, 3) := by decide +kernel
theorem dX5_canShut_9 : decode cX5_canShut 9 = .ok (.iconst 1, 1) := by decide +kernel
theorem dX5_canShut_10 : decode cX5_canShut 10 = .ok (.goto 4, 3) := by decide +kernel
theorem dX5_canShut_13 : decode cX5_canShut 13 = .ok (.iconst 0, 1) := by decide +kernel
theorem dX5_canShut_14 : decode cX5_canShut 14 = .ok (.ireturn, 1) := by decide +kernel
theorem dX5_shutAll_0 : decode cX5_shutAll 0 = .ok (.iconst 0, 1) := by decide +kernel
theorem dX5_shutAll_1 : decode cX5_shutAll 1 = .ok (.istore_n 3, 1) := by decide +kernel
theorem dX5_shutAll_2 : decode cX5_shutAll 2 = .ok (.iload_n 3, 1) := by decide +kernel
theorem dX5_shutAll_3 : decode cX5_shutAll 3 = .ok (.aload_n 0, 1) := by decide +kernel
theorem dX5_shutAll_4 : decode cX5_shutAll 4 = .ok (.getfield 20, 3) := by decide +kernel
theorem dX5_shutAll_7 : decode cX5_shutAll 7 = .ok (.arraylength, 1) := by decide +kernel
theorem dX5_shutAll_8 : decode cX5_shutAll 8 = .ok (.if_icmp .ge 62, 3) := by decide +kernel
theorem dX5_shutAll_11 : decode cX5_shutAll 11 = .ok (.aload_n 0, 1) := by decide +kernel
theorem dX5_shutAll_12 : decode cX5_shutAll 12 = .ok (.getfield 20, 3) := by decide +kernel
theorem dX5_shutAll_15 : decode cX5_shutAll 15 = .ok (.iload_n 3, 1) := by decide +kernel
theorem dX5_shutAll_16 : decode cX5_shutAll 16 = .ok (.aaload, 1) := by decide +kernel
theorem dX5_shutAll_17 : decode cX5_shutAll 17 = .ok (.astore 4, 2) := by decide +kernel
theorem dX5_shutAll_19 : decode cX5_shutAll 19 = .ok (.aload 4, 2) := by decide +kernel
theorem dX5_shutAll_21 : decode cX5_shutAll 21 = .ok (.getfield 35, 3) := by decide +kernel
theorem dX5_shutAll_24 : decode cX5_shutAll 24 = .ok (.iconst 3, 1) := by decide +kernel
theorem dX5_shutAll_25 : decode cX5_shutAll 25 = .ok (.if_icmp .ge 39, 3) := by decide +kernel
theorem dX5_shutAll_28 : decode cX5_shutAll 28 = .ok (.aload 4, 2) := by decide +kernel
theorem dX5_shutAll_30 : decode cX5_shutAll 30 = .ok (.iload_n 1, 1) := by decide +kernel
theorem dX5_shutAll_31 : decode cX5_shutAll 31 = .ok (.putfield 101, 3) := by decide +kernel
theorem dX5_shutAll_34 : decode cX5_shutAll 34 = .ok (.aload 4, 2) := by decide +kernel
theorem dX5_shutAll_36 : decode cX5_shutAll 36 = .ok (.iload_n 2, 1) := by decide +kernel
theorem dX5_shutAll_37 : decode cX5_shutAll 37 = .ok (.putfield 104, 3) := by decide +kernel
theorem dX5_shutAll_40 : decode cX5_shutAll 40 = .ok (.aload 4, 2) := by decide +kernel
theorem dX5_shutAll_42 : decode cX5_shutAll 42 = .ok (.aload_n 0, 1) := by decide +kernel
theorem dX5_shutAll_43 : decode cX5_shutAll 43 = .ok (.getfield 71, 3) := by decide +kernel
theorem dX5_shutAll_46 : decode cX5_shutAll 46 = .ok (.putfield 107, 3) := by decide +kernel
theorem dX5_shutAll_49 : decode cX5_shutAll 49 = .ok (.aload 4, 2) := by decide +kernel
theorem dX5_shutAll_51 : decode cX5_shutAll 51 = .ok (.aload_n 0, 1) := by decide +kernel
theorem dX5_shutAll_52 : decode cX5_shutAll 52 = .ok (.getfield 71, 3) := by decide +kernel
theorem dX5_shutAll_55 : decode cX5_shutAll 55 = .ok (.putfield 110, 3) := by decide +kernel
theorem dX5_shutAll_58 : decode cX5_shutAll 58 = .ok (.aload_n 0, 1) := by decide +kernel
theorem dX5_shutAll_59 : decode cX5_shutAll 59 = .ok (.iload_n 3, 1) := by decide +kernel
theorem dX5_shutAll_60 : decode cX5_shutAll 60 = .ok (.iconst 3, 1) := by decide +kernel
theorem dX5_shutAll_61 : decode cX5_shutAll 61 = .ok (.invokevirtual 52, 3) := by decide +kernel
theorem dX5_shutAll_64 : decode cX5_shutAll 64 = .ok (.iinc 3 1, 3) := by decide +kernel
theorem dX5_shutAll_67 : decode cX5_shutAll 67 = .ok (.goto (-65), 3) := by decide +kernel
theorem dX5_shutAll_70 : decode cX5_shutAll 70 = .ok (.return_, 1) := by decide +kernel
theorem dX5_confirm_0 : decode cX5_confirm 0 = .ok (.aload_n 0, 1) := by decide +kernel
theorem dX5_confirm_1 : decode cX5_confirm 1 = .ok (.getfield 20, 3) := by decide +kernel
theorem dX5_confirm_4 : decode cX5_confirm 4 = .ok (.iload_n 1, 1) := by decide +kernel
theorem dX5_confirm_5 : decode cX5_confirm 5 = .ok (.aaload, 1) := by decide +kernel
theorem dX5_confirm_6 : decode cX5_confirm 6 = .ok (.astore_n 2, 1) := by decide +kernel
theorem dX5_confirm_7 : decode cX5_confirm 7 = .ok (.aload_n 2, 1) := by decide +kernel
theorem dX5_confirm_8 : decode cX5_confirm 8 = .ok (.getfield 35, 3) := by decide +kernel
theorem dX5_confirm_11 : decode cX5_confirm 11 = .ok (.iconst 3, 1) := by decide +kernel
theorem dX5_confirm_12 : decode cX5_confirm 12 = .ok (.if_icmp .ne 14, 3) := by decide +kernel
theorem dX5_confirm_15 : decode cX5_confirm 15 = .ok (.aload_n 2, 1) := by decide +kernel
theorem dX5_confirm_16 : decode cX5_confirm 16 = .ok (.aload_n 0, 1) := by decide +kernel
theorem dX5_confirm_17 : decode cX5_confirm 17 = .ok (.getfield 71, 3) := by decide +kernel
theorem dX5_confirm_20 : decode cX5_confirm 20 = .ok (.invokevirtual 113, 3) := by decide +kernel
theorem dX5_confirm_23 : decode cX5_confirm 23 = .ok (.ifCond .ne 5, 3) := by decide +kernel
theorem dX5_confirm_26 : decode cX5_confirm 26 = .ok (.iconst 0, 1) := by decide +kernel
theorem dX5_confirm_27 : decode cX5_confirm 27 = .ok (.ireturn, 1) := by decide +kernel
theorem dX5_confirm_28 : decode cX5_confirm 28 = .ok (.aload_n 0, 1) := by decide +kernel
theorem dX5_confirm_29 : decode cX5_confirm 29 = .ok (.iload_n 1, 1) := by decide +kernel
theorem dX5_confirm_30 : decode cX5_confirm 30 = .ok (.iconst 4, 1) := by decide +kernel
theorem dX5_confirm_31 : decode cX5_confirm 31 = .ok (.invokevirtual 52, 3) := by decide +kernel
theorem dX5_confirm_34 : decode cX5_confirm 34 = .ok (.aload_n 0, 1) := by decide +kernel
theorem dX5_confirm_35 : decode cX5_confirm 35 = .ok (.iload_n 1, 1) := by decide +kernel
theorem dX5_confirm_36 : decode cX5_confirm 36 = .ok (.iconst 5, 1) := by decide +kernel
theorem dX5_confirm_37 : decode cX5_confirm 37 = .ok (.invokevirtual 52, 3) := by decide +kernel
theorem dX5_confirm_40 : decode cX5_confirm 40 = .ok (.iconst 1, 1) := by decide +kernel
theorem dX5_confirm_41 : decode cX5_confirm 41 = .ok (.ireturn, 1) := by decide +kernel
theorem dX5_become_0 : decode cX5_become 0 = .ok (.aload_n 0, 1) := by decide +kernel
theorem dX5_become_1 : decode cX5_become 1 = .ok (.getfield 20, 3) := by decide +kernel
theorem dX5_become_4 : decode cX5_become 4 = .ok (.iload_n 1, 1) := by decide +kernel
theorem dX5_become_5 : decode cX5_become 5 = .ok (.aaload, 1) := by decide +kernel
theorem dX5_become_6 : decode cX5_become 6 = .ok (.iload_n 2, 1) := by decide +kernel
theorem dX5_become_7 : decode cX5_become 7 = .ok (.putfield 35, 3) := by decide +kernel
theorem dX5_become_10 : decode cX5_become 10 = .ok (.aload_n 0, 1) := by decide +kernel
theorem dX5_become_11 : decode cX5_become 11 = .ok (.getfield 12, 3) := by decide +kernel
theorem dX5_become_14 : decode cX5_become 14 = .ok (.iload_n 1, 1) := by decide +kernel
theorem dX5_become_15 : decode cX5_become 15 = .ok (.bipush 7, 2) := by decide +kernel
theorem dX5_become_17 : decode cX5_become 17 = .ok (.iload_n 2, 1) := by decide +kernel
theorem dX5_become_18 : decode cX5_become 18 = .ok (.invokevirtual 48, 3) := by decide +kernel
theorem dX5_become_21 : decode cX5_become 21 = .ok (.return_, 1) := by decide +kernel
theorem dX6_init_0 : decode cX6_init 0 = .ok (.aload_n 0, 1) := by decide +kernel
theorem dX6_init_1 : decode cX6_init 1 = .ok (.invokespecial 1, 3) := by decide +kernel
theorem dX6_init_4 : decode cX6_init 4 = .ok (.aload_n 0, 1) := by decide +kernel
theorem dX6_init_5 : decode cX6_init 5 = .ok (.bipush 24, 2) := by decide +kernel
theorem dX6_init_7 : decode cX6_init 7 = .ok (.newarray .int, 2) := by decide +kernel
theorem dX6_init_9 : decode cX6_init 9 = .ok (.putfield 9, 3) := by decide +kernel
theorem dX6_init_12 : decode cX6_init 12 = .ok (.aload_n 0, 1) := by decide +kernel
theorem dX6_init_13 : decode cX6_init 13 = .ok (.sipush 192, 3) := by decide +kernel
theorem dX6_init_16 : decode cX6_init 16 = .ok (.newarray .int, 2) := by decide +kernel
theorem dX6_init_18 : decode cX6_init 18 = .ok (.putfield 13, 3) := by decide +kernel
theorem dX6_init_21 : decode cX6_init 21 = .ok (.aload_n 0, 1) := by decide +kernel
theorem dX6_init_22 : decode cX6_init 22 = .ok (.sipush 192, 3) := by decide +kernel
theorem dX6_init_25 : decode cX6_init 25 = .ok (.newarray .int, 2) := by decide +kernel
theorem dX6_init_27 : decode cX6_init 27 = .ok (.putfield 16, 3) := by decide +kernel
theorem dX6_init_30 : decode cX6_init 30 = .ok (.aload_n 0, 1) := by decide +kernel
theorem dX6_init_31 : decode cX6_init 31 = .ok (.sipush 192, 3) := by decide +kernel
theorem dX6_init_34 : decode cX6_init 34 = .ok (.newarray .int, 2) := by decide +kernel
theorem dX6_init_36 : decode cX6_init 36 = .ok (.putfield 19, 3) := by decide +kernel
theorem dX6_init_39 : decode cX6_init 39 = .ok (.return_, 1) := by decide +kernel
theorem dX6_has_0 : decode cX6_has 0 = .ok (.iload_n 1, 1) := by decide +kernel
theorem dX6_has_1 : decode cX6_has 1 = .ok (.ifCond .lt 15, 3) := by decide +kernel
theorem dX6_has_4 : decode cX6_has 4 = .ok (.iload_n 1, 1) := by decide +kernel
theorem dX6_has_5 : decode cX6_has 5 = .ok (.aload_n 0, 1) := by decide +kernel
theorem dX6_has_6 : decode cX6_has 6 = .ok (.getfield 22, 3) := by decide +kernel
theorem dX6_has_9 : decode cX6_has 9 = .ok (.if_icmp .ge 7, 3) := by decide +kernel
theorem dX6_has_12 : decode cX6_has 12 = .ok (.iconst 1, 1) := by decide +kernel
theorem dX6_has_13 : decode cX6_has 13 = .ok (.goto 4, 3) := by decide +kernel
theorem dX6_has_16 : decode cX6_has 16 = .ok (.iconst 0, 1) := by decide +kernel
theorem dX6_has_17 : decode cX6_has 17 = .ok (.ireturn, 1) := by decide +kernel
theorem dX6_add_0 : decode cX6_add 0 = .ok (.aload_n 0, 1) := by decide +kernel
theorem dX6_add_1 : decode cX6_add 1 = .ok (.dup, 1) := by decide +kernel
theorem dX6_add_2 : decode cX6_add 2 = .ok (.getfield 22, 3) := by decide +kernel
theorem dX6_add_5 : decode cX6_add 5 = .ok (.iconst 1, 1) := by decide +kernel
theorem dX6_add_6 : decode cX6_add 6 = .ok (.iadd, 1) := by decide +kernel
theorem dX6_add_7 : decode cX6_add 7 = .ok (.putfield 22, 3) := by decide +kernel
theorem dX6_add_10 : decode cX6_add 10 = .ok (.aload_n 0, 1) := by decide +kernel
theorem dX6_add_11 : decode cX6_add 11 = .ok (.getfield 22, 3) := by decide +kernel
theorem dX6_add_14 : decode cX6_add 14 = .ok (.iconst 1, 1) := by decide +kernel
theorem dX6_add_15 : decode cX6_add 15 = .ok (.isub, 1) := by decide +kernel
theorem dX6_add_16 : decode cX6_add 16 = .ok (.ireturn, 1) := by decide +kernel
theorem dX6_addOrder_0 : decode cX6_addOrder 0 = .ok (.iload_n 1, 1) := by decide +kernel
theorem dX6_addOrder_1 : decode cX6_addOrder 1 = .ok (.bipush 8, 2) := by decide +kernel
theorem dX6_addOrder_3 : decode cX6_addOrder 3 = .ok (.imul, 1) := by decide +kernel
theorem dX6_addOrder_4 : decode cX6_addOrder 4 = .ok (.aload_n 0, 1) := by decide +kernel
theorem dX6_addOrder_5 : decode cX6_addOrder 5 = .ok (.getfield 9, 3) := by decide +kernel
theorem dX6_addOrder_8 : decode cX6_addOrder 8 = .ok (.iload_n 1, 1) := by decide +kernel
theorem dX6_addOrder_9 : decode cX6_addOrder 9 = .ok (.iaload, 1) := by decide +kernel
theorem dX6_addOrder_10 : decode cX6_addOrder 10 = .ok (.iadd, 1) := by decide +kernel
theorem dX6_addOrder_11 : decode cX6_addOrder 11 = .ok (.istore 5, 2) := by decide +kernel
theorem dX6_addOrder_13 : decode cX6_addOrder 13 = .ok (.aload_n 0, 1) := by decide +kernel
theorem dX6_addOrder_14 : decode cX6_addOrder 14 = .ok (.getfield 13, 3) := by decide +kernel
theorem dX6_addOrder_17 : decode cX6_addOrder 17 = .ok (.iload 5, 2) := by decide +kernel
theorem dX6_addOrder_19 : decode cX6_addOrder 19 = .ok (.iload_n 2, 1) := by decide +kernel
theorem dX6_addOrder_20 : decode cX6_addOrder 20 = .ok (.iastore, 1) := by decide +kernel
theorem dX6_addOrder_21 : decode cX6_addOrder 21 = .ok (.aload_n 0, 1) := by decide +kernel
theorem dX6_addOrder_22 : decode cX6_addOrder 22 = .ok (.getfield 16, 3) := by decide +kernel
theorem dX6_addOrder_25 : decode cX6_addOrder 25 = .ok (.iload 5, 2) := by decide +kernel
theorem dX6_addOrder_27 : decode cX6_addOrder 27 = .ok (.iload_n 3, 1) := by decide +kernel
theorem dX6_addOrder_28 : decode cX6_addOrder 28 = .ok (.iastore, 1) := by decide +kernel
theorem dX6_addOrder_29 : decode cX6_addOrder 29 = .ok (.aload_n 0, 1) := by decide +kernel
theorem dX6_addOrder_30 : decode cX6_addOrder 30 = .ok (.getfield 19, 3) := by decide +kernel
theorem dX6_addOrder_33 : decode cX6_addOrder 33 = .ok (.iload 5, 2) := by decide +kernel
theorem dX6_addOrder_35 : decode cX6_addOrder 35 = .ok (.iload 4, 2) := by decide +kernel
theorem dX6_addOrder_37 : decode cX6_addOrder 37 = .ok (.iastore, 1) := by decide +kernel
theorem dX6_addOrder_38 : decode cX6_addOrder 38 = .ok (.aload_n 0, 1) := by decide +kernel
theorem dX6_addOrder_39 : decode cX6_addOrder 39 = .ok (.getfield 9, 3) := by decide +kernel
theorem dX6_addOrder_42 : decode cX6_addOrder 42 = .ok (.iload_n 1, 1) := by decide +kernel
theorem dX6_addOrder_43 : decode cX6_addOrder 43 = .ok (.dup2, 1) := by decide +kernel
theorem dX6_addOrder_44 : decode cX6_addOrder 44 = .ok (.iaload, 1) := by decide +kernel
theorem dX6_addOrder_45 : decode cX6_addOrder 45 = .ok (.iconst 1, 1) := by decide +kernel
theorem dX6_addOrder_46 : decode cX6_addOrder 46 = .ok (.iadd, 1) := by decide +kernel
theorem dX6_addOrder_47 : decode cX6_addOrder 47 = .ok (.iastore, 1) := by decide +kernel
theorem dX6_addOrder_48 : decode cX6_addOrder 48 = .ok (.aload_n 0, 1) := by decide +kernel
theorem dX6_addOrder_49 : decode cX6_addOrder 49 = .ok (.getfield 9, 3) := by decide +kernel
theorem dX6_addOrder_52 : decode cX6_addOrder 52 = .ok (.iload_n 1, 1) := by decide +kernel
theorem dX6_addOrder_53 : decode cX6_addOrder 53 = .ok (.iaload, 1) := by decide +kernel
theorem dX6_addOrder_54 : decode cX6_addOrder 54 = .ok (.ireturn, 1) := by decide +kernel
theorem dX7_init_0 : decode cX7_init 0 = .ok (.aload_n 0, 1) := by decide +kernel
theorem dX7_init_1 : decode cX7_init 1 = .ok (.invokespecial 3, 3) := by decide +kernel
theorem dX7_init_4 : decode cX7_init 4 = .ok (.aload_n 0, 1) := by decide +kernel
theorem dX7_init_5 : decode cX7_init 5 = .ok (.bipush 24, 2) := by decide +kernel
theorem dX7_init_7 : decode cX7_init 7 = .ok (.newarray .int, 2) := by decide +kernel
theorem dX7_init_9 : decode cX7_init 9 = .ok (.putfield 11, 3) := by decide +kernel
theorem dX7_init_12 : decode cX7_init 12 = .ok (.aload_n 0, 1) := by decide +kernel
theorem dX7_init_13 : decode cX7_init 13 = .ok (.bipush 24, 2) := by decide +kernel
theorem dX7_init_15 : decode cX7_init 15 = .ok (.newarray .int, 2) := by decide +kernel
theorem dX7_init_17 : decode cX7_init 17 = .ok (.putfield 15, 3) := by decide +kernel
theorem dX7_init_20 : decode cX7_init 20 = .ok (.aload_n 0, 1) := by decide +kernel
theorem dX7_init_21 : decode cX7_init 21 = .ok (.bipush 24, 2) := by decide +kernel
theorem dX7_init_23 : decode cX7_init 23 = .ok (.newarray .long, 2) := by decide +kernel
theorem dX7_init_25 : decode cX7_init 25 = .ok (.putfield 18, 3) := by decide +kernel
theorem dX7_init_28 : decode cX7_init 28 = .ok (.return_, 1) := by decide +kernel
theorem dX7_put_0 : decode cX7_put 0 = .ok (.aload_n 0, 1) := by decide +kernel
theorem dX7_put_1 : decode cX7_put 1 = .ok (.getfield 11, 3) := by decide +kernel
theorem dX7_put_4 : decode cX7_put 4 = .ok (.aload_n 0, 1) := by decide +kernel
theorem dX7_put_5 : decode cX7_put 5 = .ok (.getfield 22, 3) := by decide +kernel
theorem dX7_put_8 : decode cX7_put 8 = .ok (.iload_n 1, 1) := by decide +kernel
theorem dX7_put_9 : decode cX7_put 9 = .ok (.iastore, 1) := by decide +kernel
theorem dX7_put_10 : decode cX7_put 10 = .ok (.aload_n 0, 1) := by decide +kernel
theorem dX7_put_11 : decode cX7_put 11 = .ok (.getfield 15, 3) := by decide +kernel
theorem dX7_put_14 : decode cX7_put 14 = .ok (.aload_n 0, 1) := by decide +kernel
theorem dX7_put_15 : decode cX7_put 15 = .ok (.getfield 22, 3) := by decide +kernel
theorem dX7_put_18 : decode cX7_put 18 = .ok (.iload_n 2, 1) := by decide +kernel
theorem dX7_put_19 : decode cX7_put 19 = .ok (.iastore, 1) := by decide +kernel
theorem dX7_put_20 : decode cX7_put 20 = .ok (.aload_n 0, 1) := by decide +kernel
theorem dX7_put_21 : decode cX7_put 21 = .ok (.getfield 18, 3) := by decide +kernel
theorem dX7_put_24 : decode cX7_put 24 = .ok (.aload_n 0, 1) := by decide +kernel
theorem dX7_put_25 : decode cX7_put 25 = .ok (.getfield 22, 3) := by decide +kernel
theorem dX7_put_28 : decode cX7_put 28 = .ok (.lload_n 3, 1) := by decide +kernel
theorem dX7_put_29 : decode cX7_put 29 = .ok (.lastore, 1) := by decide +kernel
theorem dX7_put_30 : decode cX7_put 30 = .ok (.aload_n 0, 1) := by decide +kernel
theorem dX7_put_31 : decode cX7_put 31 = .ok (.dup, 1) := by decide +kernel
theorem dX7_put_32 : decode cX7_put 32 = .ok (.getfield 22, 3) := by decide +kernel
theorem dX7_put_35 : decode cX7_put 35 = .ok (.iconst 1, 1) := by decide +kernel
theorem dX7_put_36 : decode cX7_put 36 = .ok (.iadd, 1) := by decide +kernel
theorem dX7_put_37 : decode cX7_put 37 = .ok (.putfield 22, 3) := by decide +kernel
theorem dX7_put_40 : decode cX7_put 40 = .ok (.return_, 1) := by decide +kernel
theorem dX7_placeOf_0 : decode cX7_placeOf 0 = .ok (.iconst 0, 1) := by decide +kernel
theorem dX7_placeOf_1 : decode cX7_placeOf 1 = .ok (.istore_n 2, 1) := by decide +kernel
theorem dX7_placeOf_2 : decode cX7_placeOf 2 = .ok (.iload_n 2, 1) := by decide +kernel
theorem dX7_placeOf_3 : decode cX7_placeOf 3 = .ok (.aload_n 0, 1) := by decide +kernel
theorem dX7_placeOf_4 : decode cX7_placeOf 4 = .ok (.getfield 22, 3) := by decide +kernel
theorem dX7_placeOf_7 : decode cX7_placeOf 7 = .ok (.if_icmp .ge 21, 3) := by decide +kernel
theorem dX7_placeOf_10 : decode cX7_placeOf 10 = .ok (.aload_n 0, 1) := by decide +kernel
theorem dX7_placeOf_11 : decode cX7_placeOf 11 = .ok (.getfield 11, 3) := by decide +kernel
theorem dX7_placeOf_14 : decode cX7_placeOf 14 = .ok (.iload_n 2, 1) := by decide +kernel
theorem dX7_placeOf_15 : decode cX7_placeOf 15 = .ok (.iaload, 1) := by decide +kernel
theorem dX7_placeOf_16 : decode cX7_placeOf 16 = .ok (.iload_n 1, 1) := by decide +kernel
theorem dX7_placeOf_17 : decode cX7_placeOf 17 = .ok (.if_icmp .ne 5, 3) := by decide +kernel
theorem dX7_placeOf_20 : decode cX7_placeOf 20 = .ok (.iload_n 2, 1) := by decide +kernel
theorem dX7_placeOf_21 : decode cX7_placeOf 21 = .ok (.ireturn, 1) := by decide +kernel
theorem dX7_placeOf_22 : decode cX7_placeOf 22 = .ok (.iinc 2 1, 3) := by decide +kernel
theorem dX7_placeOf_25 : decode cX7_placeOf 25 = .ok (.goto (-23), 3) := by decide +kernel
theorem dX7_placeOf_28 : decode cX7_placeOf 28 = .ok (.iconst (-1), 1) := by decide +kernel
theorem dX7_placeOf_29 : decode cX7_placeOf 29 = .ok (.ireturn, 1) := by decide +kernel
theorem dX7_firstDue_0 : decode cX7_firstDue 0 = .ok (.iconst (-1), 1) := by decide +kernel
theorem dX7_firstDue_1 : decode cX7_firstDue 1 = .ok (.istore_n 3, 1) := by decide +kernel
theorem dX7_firstDue_2 : decode cX7_firstDue 2 = .ok (.iconst 0, 1) := by decide +kernel
theorem dX7_firstDue_3 : decode cX7_firstDue 3 = .ok (.istore 4, 2) := by decide +kernel
theorem dX7_firstDue_5 : decode cX7_firstDue 5 = .ok (.iload 4, 2) := by decide +kernel
theorem dX7_firstDue_7 : decode cX7_firstDue 7 = .ok (.aload_n 0, 1) := by decide +kernel
theorem dX7_firstDue_8 : decode cX7_firstDue 8 = .ok (.getfield 22, 3) := by decide +kernel
theorem dX7_firstDue_11 : decode cX7_firstDue 11 = .ok (.if_icmp .ge 39, 3) := by decide +kernel
theorem dX7_firstDue_14 : decode cX7_firstDue 14 = .ok (.aload_n 0, 1) := by decide +kernel
theorem dX7_firstDue_15 : decode cX7_firstDue 15 = .ok (.getfield 18, 3) := by decide +kernel
theorem dX7_firstDue_18 : decode cX7_firstDue 18 = .ok (.iload 4, 2) := by decide +kernel
theorem dX7_firstDue_20 : decode cX7_firstDue 20 = .ok (.laload, 1) := by decide +kernel
theorem dX7_firstDue_21 : decode cX7_firstDue 21 = .ok (.lload_n 1, 1) := by decide +kernel
theorem dX7_firstDue_22 : decode cX7_firstDue 22 = .ok (.lcmp, 1) := by decide +kernel
theorem dX7_firstDue_23 : decode cX7_firstDue 23 = .ok (.ifCond .gt 21, 3) := by decide +kernel
theorem dX7_firstDue_26 : decode cX7_firstDue 26 = .ok (.iload_n 3, 1) := by decide +kernel
theorem dX7_firstDue_27 : decode cX7_firstDue 27 = .ok (.iconst (-1), 1) := by decide +kernel
theorem dX7_firstDue_28 : decode cX7_firstDue 28 = .ok (.if_icmp .eq 13, 3) := by decide +kernel
theorem dX7_firstDue_31 : decode cX7_firstDue 31 = .ok (.aload_n 0, 1) := by decide +kernel
theorem dX7_firstDue_32 : decode cX7_firstDue 32 = .ok (.iload 4, 2) := by decide +kernel
theorem dX7_firstDue_34 : decode cX7_firstDue 34 = .ok (.iload_n 3, 1) := by decide +kernel
theorem dX7_firstDue_35 : decode cX7_firstDue 35 = .ok (.invokevirtual 26, 3) := by decide +kernel
theorem dX7_firstDue_38 : decode cX7_firstDue 38 = .ok (.ifCond .eq 6, 3) := by decide +kernel
theorem dX7_firstDue_41 : decode cX7_firstDue 41 = .ok (.iload 4, 2) := by decide +kernel
theorem dX7_firstDue_43 : decode cX7_firstDue 43 = .ok (.istore_n 3, 1) := by decide +kernel
theorem dX7_firstDue_44 : decode cX7_firstDue 44 = .ok (.iinc 4 1, 3) := by decide +kernel
theorem dX7_firstDue_47 : decode cX7_firstDue 47 = .ok (.goto (-42), 3) := by decide +kernel
theorem dX7_firstDue_50 : decode cX7_firstDue 50 = .ok (.iload_n 3, 1) := by decide +kernel
theorem dX7_firstDue_51 : decode cX7_firstDue 51 = .ok (.ireturn, 1) := by decide +kernel
theorem dX7_isBefore_0 : decode cX7_isBefore 0 = .ok (.aload_n 0, 1) := by decide +kernel
theorem dX7_isBefore_1 : decode cX7_isBefore 1 = .ok (.getfield 18, 3) := by decide +kernel
theorem dX7_isBefore_4 : decode cX7_isBefore 4 = .ok (.iload_n 1, 1) := by decide +kernel
theorem dX7_isBefore_5 : decode cX7_isBefore 5 = .ok (.laload, 1) := by decide +kernel
theorem dX7_isBefore_6 : decode cX7_isBefore 6 = .ok (.aload_n 0, 1) := by decide +kernel
theorem dX7_isBefore_7 : decode cX7_isBefore 7 = .ok (.getfield 18, 3) := by decide +kernel
theorem dX7_isBefore_10 : decode cX7_isBefore 10 = .ok (.iload_n 2, 1) := by decide +kernel
theorem dX7_isBefore_11 : decode cX7_isBefore 11 = .ok (.laload, 1) := by decide +kernel
theorem dX7_isBefore_12 : decode cX7_isBefore 12 = .ok (.lcmp, 1) := by decide +kernel
theorem dX7_isBefore_13 : decode cX7_isBefore 13 = .ok (.ifCond .eq 27, 3) := by decide +kernel
theorem dX7_isBefore_16 : decode cX7_isBefore 16 = .ok (.aload_n 0, 1) := by decide +kernel
theorem dX7_isBefore_17 : decode cX7_isBefore 17 = .ok (.getfield 18, 3) := by decide +kernel
theorem dX7_isBefore_20 : decode cX7_isBefore 20 = .ok (.iload_n 1, 1) := by decide +kernel
theorem dX7_isBefore_21 : decode cX7_isBefore 21 = .ok (.laload, 1) := by decide +kernel
theorem dX7_isBefore_22 : decode cX7_isBefore 22 = .ok (.aload_n 0, 1) := by decide +kernel
theorem dX7_isBefore_23 : decode cX7_isBefore 23 = .ok (.getfield 18, 3) := by decide +kernel
theorem dX7_isBefore_26 : decode cX7_isBefore 26 = .ok (.iload_n 2, 1) := by decide +kernel
theorem dX7_isBefore_27 : decode cX7_isBefore 27 = .ok (.laload, 1) := by decide +kernel
theorem dX7_isBefore_28 : decode cX7_isBefore 28 = .ok (.lcmp, 1) := by decide +kernel
theorem dX7_isBefore_29 : decode cX7_isBefore 29 = .ok (.ifCond .ge 7, 3) := by decide +kernel
theorem dX7_isBefore_32 : decode cX7_isBefore 32 = .ok (.iconst 1, 1) := by decide +kernel
theorem dX7_isBefore_33 : decode cX7_isBefore 33 = .ok (.goto 27, 3) := by decide +kernel
theorem dX7_isBefore_36 : decode cX7_isBefore 36 = .ok (.iconst 0, 1) := by decide +kernel
theorem dX7_isBefore_37 : decode cX7_isBefore 37 = .ok (.goto 23, 3) := by decide +kernel
theorem dX7_isBefore_40 : decode cX7_isBefore 40 = .ok (.aload_n 0, 1) := by decide +kernel
theorem dX7_isBefore_41 : decode cX7_isBefore 41 = .ok (.getfield 11, 3) := by decide +kernel
theorem dX7_isBefore_44 : decode cX7_isBefore 44 = .ok (.iload_n 1, 1) := by decide +kernel
theorem dX7_isBefore_45 : decode cX7_isBefore 45 = .ok (.iaload, 1) := by decide +kernel
theorem dX7_isBefore_46 : decode cX7_isBefore 46 = .ok (.aload_n 0, 1) := by decide +kernel
theorem dX7_isBefore_47 : decode cX7_isBefore 47 = .ok (.getfield 11, 3) := by decide +kernel
theorem dX7_isBefore_50 : decode cX7_isBefore 50 = .ok (.iload_n 2, 1) := by decide +kernel
theorem dX7_isBefore_51 : decode cX7_isBefore 51 = .ok (.iaload, 1) := by decide +kernel
theorem dX7_isBefore_52 : decode cX7_isBefore 52 = .ok (.if_icmp .ge 7, 3) := by decide +kernel
theorem dX7_isBefore_55 : decode cX7_isBefore 55 = .ok (.iconst 1, 1) := by decide +kernel
theorem dX7_isBefore_56 : decode cX7_isBefore 56 = .ok (.goto 4, 3) := by decide +kernel
theorem dX7_isBefore_59 : decode cX7_isBefore 59 = .ok (.iconst 0, 1) := by decide +kernel
theorem dX7_isBefore_60 : decode cX7_isBefore 60 = .ok (.ireturn, 1) := by decide +kernel
theorem dX7_removeAt_0 : decode cX7_removeAt 0 = .ok (.aload_n 0, 1) := by decide +kernel
theorem dX7_removeAt_1 : decode cX7_removeAt 1 = .ok (.dup, 1) := by decide +kernel
theorem dX7_removeAt_2 : decode cX7_removeAt 2 = .ok (.getfield 22, 3) := by decide +kernel
theorem dX7_removeAt_5 : decode cX7_removeAt 5 = .ok (.iconst 1, 1) := by decide +kernel
theorem dX7_removeAt_6 : decode cX7_removeAt 6 = .ok (.isub, 1) := by decide +kernel
theorem dX7_removeAt_7 : decode cX7_removeAt 7 = .ok (.putfield 22, 3) := by decide +kernel
theorem dX7_removeAt_10 : decode cX7_removeAt 10 = .ok (.aload_n 0, 1) := by decide +kernel
theorem dX7_removeAt_11 : decode cX7_removeAt 11 = .ok (.getfield 11, 3) := by decide +kernel
theorem dX7_removeAt_14 : decode cX7_removeAt 14 = .ok (.iload_n 1, 1) := by decide +kernel
theorem dX7_removeAt_15 : decode cX7_removeAt 15 = .ok (.aload_n 0, 1) := by decide +kernel
theorem dX7_removeAt_16 : decode cX7_removeAt 16 = .ok (.getfield 11, 3) := by decide +kernel
theorem dX7_removeAt_19 : decode cX7_removeAt 19 = .ok (.aload_n 0, 1) := by decide +kernel
theorem dX7_removeAt_20 : decode cX7_removeAt 20 = .ok (.getfield 22, 3) := by decide +kernel
theorem dX7_removeAt_23 : decode cX7_removeAt 23 = .ok (.iaload, 1) := by decide +kernel
theorem dX7_removeAt_24 : decode cX7_removeAt 24 = .ok (.iastore, 1) := by decide +kernel
theorem dX7_removeAt_25 : decode cX7_removeAt 25 = .ok (.aload_n 0, 1) := by decide +kernel
theorem dX7_removeAt_26 : decode cX7_removeAt 26 = .ok (.getfield 15, 3) := by decide +kernel
theorem dX7_removeAt_29 : decode cX7_removeAt 29 = .ok (.iload_n 1, 1) := by decide +kernel
theorem dX7_removeAt_30 : decode cX7_removeAt 30 = .ok (.aload_n 0, 1) := by decide +kernel
theorem dX7_removeAt_31 : decode cX7_removeAt 31 = .ok (.getfield 15, 3) := by decide +kernel
theorem dX7_removeAt_34 : decode cX7_removeAt 34 = .ok (.aload_n 0, 1) := by decide +kernel
theorem dX7_removeAt_35 : decode cX7_removeAt 35 = .ok (.getfield 22, 3) := by decide +kernel
theorem dX7_removeAt_38 : decode cX7_removeAt 38 = .ok (.iaload, 1) := by decide +kernel
theorem dX7_removeAt_39 : decode cX7_removeAt 39 = .ok (.iastore, 1) := by decide +kernel
theorem dX7_removeAt_40 : decode cX7_removeAt 40 = .ok (.aload_n 0, 1) := by decide +kernel
theorem dX7_removeAt_41 : decode cX7_removeAt 41 = .ok (.getfield 18, 3) := by decide +kernel
theorem dX7_removeAt_44 : decode cX7_removeAt 44 = .ok (.iload_n 1, 1) := by decide +kernel
theorem dX7_removeAt_45 : decode cX7_removeAt 45 = .ok (.aload_n 0, 1) := by decide +kernel
theorem dX7_removeAt_46 : decode cX7_removeAt 46 = .ok (.getfield 18, 3) := by decide +kernel
theorem dX7_removeAt_49 : decode cX7_removeAt 49 = .ok (.aload_n 0, 1) := by decide +kernel
theorem dX7_removeAt_50 : decode cX7_removeAt 50 = .ok (.getfield 22, 3) := by decide +kernel
theorem dX7_removeAt_53 : decode cX7_removeAt 53 = .ok (.laload, 1) := by decide +kernel
theorem dX7_removeAt_54 : decode cX7_removeAt 54 = .ok (.lastore, 1) := by decide +kernel
theorem dX7_removeAt_55 : decode cX7_removeAt 55 = .ok (.return_, 1) := by decide +kernel
theorem dX8_init_0 : decode cX8_init 0 = .ok (.aload_n 0, 1) := by decide +kernel
theorem dX8_init_1 : decode cX8_init 1 = .ok (.invokespecial 1, 3) := by decide +kernel
theorem dX8_init_4 : decode cX8_init 4 = .ok (.aload_n 0, 1) := by decide +kernel
theorem dX8_init_5 : decode cX8_init 5 = .ok (.sipush 900, 3) := by decide +kernel
theorem dX8_init_8 : decode cX8_init 8 = .ok (.newarray .int, 2) := by decide +kernel
theorem dX8_init_10 : decode cX8_init 10 = .ok (.putfield 9, 3) := by decide +kernel
theorem dX8_init_13 : decode cX8_init 13 = .ok (.return_, 1) := by decide +kernel
theorem dX8_log_0 : decode cX8_log 0 = .ok (.aload_n 0, 1) := by decide +kernel
theorem dX8_log_1 : decode cX8_log 1 = .ok (.getfield 13, 3) := by decide +kernel
theorem dX8_log_4 : decode cX8_log 4 = .ok (.sipush 300, 3) := by decide +kernel
theorem dX8_log_7 : decode cX8_log 7 = .ok (.irem, 1) := by decide +kernel
theorem dX8_log_8 : decode cX8_log 8 = .ok (.iconst 3, 1) := by decide +kernel
theorem dX8_log_9 : decode cX8_log 9 = .ok (.imul, 1) := by decide +kernel
theorem dX8_log_10 : decode cX8_log 10 = .ok (.istore 4, 2) := by decide +kernel
theorem dX8_log_12 : decode cX8_log 12 = .ok (.aload_n 0, 1) := by decide +kernel
theorem dX8_log_13 : decode cX8_log 13 = .ok (.getfield 9, 3) := by decide +kernel
theorem dX8_log_16 : decode cX8_log 16 = .ok (.iload 4, 2) := by decide +kernel
theorem dX8_log_18 : decode cX8_log 18 = .ok (.iload_n 1, 1) := by decide +kernel
theorem dX8_log_19 : decode cX8_log 19 = .ok (.iastore, 1) := by decide +kernel
theorem dX8_log_20 : decode cX8_log 20 = .ok (.aload_n 0, 1) := by decide +kernel
theorem dX8_log_21 : decode cX8_log 21 = .ok (.getfield 9, 3) := by decide +kernel
theorem dX8_log_24 : decode cX8_log 24 = .ok (.iload 4, 2) := by decide +kernel
theorem dX8_log_26 : decode cX8_log 26 = .ok (.iconst 1, 1) := by decide +kernel
theorem dX8_log_27 : decode cX8_log 27 = .ok (.iadd, 1) := by decide +kernel
theorem dX8_log_28 : decode cX8_log 28 = .ok (.iload_n 2, 1) := by decide +kernel
theorem dX8_log_29 : decode cX8_log 29 = .ok (.iastore, 1) := by decide +kernel
theorem dX8_log_30 : decode cX8_log 30 = .ok (.aload_n 0, 1) := by decide +kernel
theorem dX8_log_31 : decode cX8_log 31 = .ok (.getfield 9, 3) := by decide +kernel
theorem dX8_log_34 : decode cX8_log 34 = .ok (.iload 4, 2) := by decide +kernel
theorem dX8_log_36 : decode cX8_log 36 = .ok (.iconst 2, 1) := by decide +kernel
theorem dX8_log_37 : decode cX8_log 37 = .ok (.iadd, 1) := by decide +kernel
theorem dX8_log_38 : decode cX8_log 38 = .ok (.iload_n 3, 1) := by decide +kernel
theorem dX8_log_39 : decode cX8_log 39 = .ok (.iastore, 1) := by decide +kernel
theorem dX8_log_40 : decode cX8_log 40 = .ok (.aload_n 0, 1) := by decide +kernel
theorem dX8_log_41 : decode cX8_log 41 = .ok (.dup, 1) := by decide +kernel
theorem dX8_log_42 : decode cX8_log 42 = .ok (.getfield 13, 3) := by decide +kernel
theorem dX8_log_45 : decode cX8_log 45 = .ok (.iconst 1, 1) := by decide +kernel
theorem dX8_log_46 : decode cX8_log 46 = .ok (.iadd, 1) := by decide +kernel
theorem dX8_log_47 : decode cX8_log 47 = .ok (.putfield 13, 3) := by decide +kernel
theorem dX8_log_50 : decode cX8_log 50 = .ok (.return_, 1) := by decide +kernel
theorem dX8_keeps_0 : decode cX8_keeps 0 = .ok (.iload_n 1, 1) := by decide +kernel
theorem dX8_keeps_1 : decode cX8_keeps 1 = .ok (.ifCond .lt 27, 3) := by decide +kernel
theorem dX8_keeps_4 : decode cX8_keeps 4 = .ok (.iload_n 1, 1) := by decide +kernel
theorem dX8_keeps_5 : decode cX8_keeps 5 = .ok (.aload_n 0, 1) := by decide +kernel
theorem dX8_keeps_6 : decode cX8_keeps 6 = .ok (.getfield 13, 3) := by decide +kernel
theorem dX8_keeps_9 : decode cX8_keeps 9 = .ok (.if_icmp .ge 19, 3) := by decide +kernel
theorem dX8_keeps_12 : decode cX8_keeps 12 = .ok (.iload_n 1, 1) := by decide +kernel
theorem dX8_keeps_13 : decode cX8_keeps 13 = .ok (.aload_n 0, 1) := by decide +kernel
theorem dX8_keeps_14 : decode cX8_keeps 14 = .ok (.getfield 13, 3) := by decide +kernel
theorem dX8_keeps_17 : decode cX8_keeps 17 = .ok (.sipush 300, 3) := by decide +kernel
theorem dX8_keeps_20 : decode cX8_keeps 20 = .ok (.isub, 1) := by decide +kernel
theorem dX8_keeps_21 : decode cX8_keeps 21 = .ok (.if_icmp .lt 7, 3) := by decide +kernel
theorem dX8_keeps_24 : decode cX8_keeps 24 = .ok (.iconst 1, 1) := by decide +kernel
theorem dX8_keeps_25 : decode cX8_keeps 25 = .ok (.goto 4, 3) := by decide +kernel
theorem dX8_keeps_28 : decode cX8_keeps 28 = .ok (.iconst 0, 1) := by decide +kernel
theorem dX8_keeps_29 : decode cX8_keeps 29 = .ok (.ireturn, 1) := by decide +kernel
theorem dX8_read_0 : decode cX8_read 0 = .ok (.aload_n 0, 1) := by decide +kernel
theorem dX8_read_1 : decode cX8_read 1 = .ok (.getfield 9, 3) := by decide +kernel
theorem dX8_read_4 : decode cX8_read 4 = .ok (.iload_n 1, 1) := by decide +kernel
theorem dX8_read_5 : decode cX8_read 5 = .ok (.sipush 300, 3) := by decide +kernel
theorem dX8_read_8 : decode cX8_read 8 = .ok (.irem, 1) := by decide +kernel
theorem dX8_read_9 : decode cX8_read 9 = .ok (.iconst 3, 1) := by decide +kernel
theorem dX8_read_10 : decode cX8_read 10 = .ok (.imul, 1) := by decide +kernel
theorem dX8_read_11 : decode cX8_read 11 = .ok (.iload_n 2, 1) := by decide +kernel
theorem dX8_read_12 : decode cX8_read 12 = .ok (.iadd, 1) := by decide +kernel
theorem dX8_read_13 : decode cX8_read 13 = .ok (.iaload, 1) := by decide +kernel
theorem dX8_read_14 : decode cX8_read 14 = .ok (.ireturn, 1) := by decide +kernel
theorem dX9_init_0 : decode cX9_init 0 = .ok (.aload_n 0, 1) := by decide +kernel
theorem dX9_init_1 : decode cX9_init 1 = .ok (.invokespecial 1, 3) := by decide +kernel
theorem dX9_init_4 : decode cX9_init 4 = .ok (.aload_n 0, 1) := by decide +kernel
theorem dX9_init_5 : decode cX9_init 5 = .ok (.new 7, 3) := by decide +kernel
theorem dX9_init_8 : decode cX9_init 8 = .ok (.dup, 1) := by decide +kernel
theorem dX9_init_9 : decode cX9_init 9 = .ok (.iload_n 1, 1) := by decide +kernel
theorem dX9_init_10 : decode cX9_init 10 = .ok (.iconst 1, 1) := by decide +kernel
theorem dX9_init_11 : decode cX9_init 11 = .ok (.if_icmp .lt 13, 3) := by decide +kernel
theorem dX9_init_14 : decode cX9_init 14 = .ok (.iload_n 1, 1) := by decide +kernel
theorem dX9_init_15 : decode cX9_init 15 = .ok (.bipush 8, 2) := by decide +kernel
theorem dX9_init_17 : decode cX9_init 17 = .ok (.if_icmp .gt 7, 3) := by decide +kernel
theorem dX9_init_20 : decode cX9_init 20 = .ok (.iload_n 1, 1) := by decide +kernel
theorem dX9_init_21 : decode cX9_init 21 = .ok (.goto 4, 3) := by decide +kernel
theorem dX9_init_24 : decode cX9_init 24 = .ok (.iconst 1, 1) := by decide +kernel
theorem dX9_init_25 : decode cX9_init 25 = .ok (.invokespecial 11, 3) := by decide +kernel
theorem dX9_init_28 : decode cX9_init 28 = .ok (.putfield 14, 3) := by decide +kernel
theorem dX9_init_31 : decode cX9_init 31 = .ok (.aload_n 0, 1) := by decide +kernel
theorem dX9_init_32 : decode cX9_init 32 = .ok (.aload_n 0, 1) := by decide +kernel
theorem dX9_init_33 : decode cX9_init 33 = .ok (.getfield 14, 3) := by decide +kernel
theorem dX9_init_36 : decode cX9_init 36 = .ok (.getfield 18, 3) := by decide +kernel
theorem dX9_init_39 : decode cX9_init 39 = .ok (.putfield 22, 3) := by decide +kernel
theorem dX9_init_42 : decode cX9_init 42 = .ok (.aload_n 0, 1) := by decide +kernel
theorem dX9_init_43 : decode cX9_init 43 = .ok (.aload_n 0, 1) := by decide +kernel
theorem dX9_init_44 : decode cX9_init 44 = .ok (.getfield 22, 3) := by decide +kernel
theorem dX9_init_47 : decode cX9_init 47 = .ok (.getfield 23, 3) := by decide +kernel
theorem dX9_init_50 : decode cX9_init 50 = .ok (.putfield 29, 3) := by decide +kernel
theorem dX9_init_53 : decode cX9_init 53 = .ok (.aload_n 0, 1) := by decide +kernel
theorem dX9_init_54 : decode cX9_init 54 = .ok (.aload_n 0, 1) := by decide +kernel
theorem dX9_init_55 : decode cX9_init 55 = .ok (.getfield 14, 3) := by decide +kernel
theorem dX9_init_58 : decode cX9_init 58 = .ok (.getfield 30, 3) := by decide +kernel
theorem dX9_init_61 : decode cX9_init 61 = .ok (.putfield 34, 3) := by decide +kernel
theorem dX9_init_64 : decode cX9_init 64 = .ok (.aload_n 0, 1) := by decide +kernel
theorem dX9_init_65 : decode cX9_init 65 = .ok (.aload_n 0, 1) := by decide +kernel
theorem dX9_init_66 : decode cX9_init 66 = .ok (.getfield 14, 3) := by decide +kernel
theorem dX9_init_69 : decode cX9_init 69 = .ok (.getfield 35, 3) := by decide +kernel
theorem dX9_init_72 : decode cX9_init 72 = .ok (.putfield 39, 3) := by decide +kernel
theorem dX9_init_75 : decode cX9_init 75 = .ok (.aload_n 0, 1) := by decide +kernel
theorem dX9_init_76 : decode cX9_init 76 = .ok (.aload_n 0, 1) := by decide +kernel
theorem dX9_init_77 : decode cX9_init 77 = .ok (.getfield 14, 3) := by decide +kernel
theorem dX9_init_80 : decode cX9_init 80 = .ok (.getfield 40, 3) := by decide +kernel
theorem dX9_init_83 : decode cX9_init 83 = .ok (.putfield 44, 3) := by decide +kernel
theorem dX9_init_86 : decode cX9_init 86 = .ok (.return_, 1) := by decide +kernel
theorem dX9_task_0 : decode cX9_task 0 = .ok (.aload_n 0, 1) := by decide +kernel
theorem dX9_task_1 : decode cX9_task 1 = .ok (.getfield 34, 3) := by decide +kernel
theorem dX9_task_4 : decode cX9_task 4 = .ok (.getfield 45, 3) := by decide +kernel
theorem dX9_task_7 : decode cX9_task 7 = .ok (.bipush 24, 2) := by decide +kernel
theorem dX9_task_9 : decode cX9_task 9 = .ok (.if_icmp .lt 13, 3) := by decide +kernel
theorem dX9_task_12 : decode cX9_task 12 = .ok (.new 51, 3) := by decide +kernel
theorem dX9_task_15 : decode cX9_task 15 = .ok (.dup, 1) := by decide +kernel
theorem dX9_task_16 : decode cX9_task 16 = .ok (.ldc 53, 2) := by decide +kernel
theorem dX9_task_18 : decode cX9_task 18 = .ok (.invokespecial 55, 3) := by decide +kernel
theorem dX9_task_21 : decode cX9_task 21 = .ok (.athrow, 1) := by decide +kernel
theorem dX9_task_22 : decode cX9_task 22 = .ok (.aload_n 0, 1) := by decide +kernel
theorem dX9_task_23 : decode cX9_task 23 = .ok (.getfield 34, 3) := by decide +kernel
theorem dX9_task_26 : decode cX9_task 26 = .ok (.invokevirtual 58, 3) := by decide +kernel
theorem dX9_task_29 : decode cX9_task 29 = .ok (.ireturn, 1) := by decide +kernel
theorem dX9_order_0 : decode cX9_order 0 = .ok (.aload_n 0, 1) := by decide +kernel
theorem dX9_order_1 : decode cX9_order 1 = .ok (.iload_n 1, 1) := by decide +kernel
theorem dX9_order_2 : decode cX9_order 2 = .ok (.invokevirtual 62, 3) := by decide +kernel
theorem dX9_order_5 : decode cX9_order 5 = .ok (.iload_n 2, 1) := by decide +kernel
theorem dX9_order_6 : decode cX9_order 6 = .ok (.ifCond .lt 9, 3) := by decide +kernel
theorem dX9_order_9 : decode cX9_order 9 = .ok (.iload_n 2, 1) := by decide +kernel
theorem dX9_order_10 : decode cX9_order 10 = .ok (.bipush 13, 2) := by decide +kernel
theorem dX9_order_12 : decode cX9_order 12 = .ok (.if_icmp .le 13, 3) := by decide +kernel
theorem dX9_order_15 : decode cX9_order 15 = .ok (.new 65, 3) := by decide +kernel
theorem dX9_order_18 : decode cX9_order 18 = .ok (.dup, 1) := by decide +kernel
theorem dX9_order_19 : decode cX9_order 19 = .ok (.ldc 67, 2) := by decide +kernel
theorem dX9_order_21 : decode cX9_order 21 = .ok (.invokespecial 69, 3) := by decide +kernel
theorem dX9_order_24 : decode cX9_order 24 = .ok (.athrow, 1) := by decide +kernel
theorem dX9_order_25 : decode cX9_order 25 = .ok (.aload_n 0, 1) := by decide +kernel
theorem dX9_order_26 : decode cX9_order 26 = .ok (.getfield 34, 3) := by decide +kernel
theorem dX9_order_29 : decode cX9_order 29 = .ok (.getfield 70, 3) := by decide +kernel
theorem dX9_order_32 : decode cX9_order 32 = .ok (.iload_n 1, 1) := by decide +kernel
theorem dX9_order_33 : decode cX9_order 33 = .ok (.iaload, 1) := by decide +kernel
theorem dX9_order_34 : decode cX9_order 34 = .ok (.bipush 8, 2) := by decide +kernel
theorem dX9_order_36 : decode cX9_order 36 = .ok (.if_icmp .lt 13, 3) := by decide +kernel
theorem dX9_order_39 : decode cX9_order 39 = .ok (.new 51, 3) := by decide +kernel
theorem dX9_order_42 : decode cX9_order 42 = .ok (.dup, 1) := by decide +kernel
theorem dX9_order_43 : decode cX9_order 43 = .ok (.ldc 74, 2) := by decide +kernel
theorem dX9_order_45 : decode cX9_order 45 = .ok (.invokespecial 55, 3) := by decide +kernel
theorem dX9_order_48 : decode cX9_order 48 = .ok (.athrow, 1) := by decide +kernel
theorem dX9_order_49 : decode cX9_order 49 = .ok (.aload_n 0, 1) := by decide +kernel
theorem dX9_order_50 : decode cX9_order 50 = .ok (.getfield 34, 3) := by decide +kernel
theorem dX9_order_53 : decode cX9_order 53 = .ok (.iload_n 1, 1) := by decide +kernel
theorem dX9_order_54 : decode cX9_order 54 = .ok (.iload_n 2, 1) := by decide +kernel
theorem dX9_order_55 : decode cX9_order 55 = .ok (.iload_n 3, 1) := by decide +kernel
theorem dX9_order_56 : decode cX9_order 56 = .ok (.iload 4, 2) := by decide +kernel
theorem dX9_order_58 : decode cX9_order 58 = .ok (.invokevirtual 76, 3) := by decide +kernel
theorem dX9_order_61 : decode cX9_order 61 = .ok (.ireturn, 1) := by decide +kernel
theorem dX9_promise_0 : decode cX9_promise 0 = .ok (.aload_n 0, 1) := by decide +kernel
theorem dX9_promise_1 : decode cX9_promise 1 = .ok (.iload_n 1, 1) := by decide +kernel
theorem dX9_promise_2 : decode cX9_promise 2 = .ok (.invokevirtual 80, 3) := by decide +kernel
theorem dX9_promise_5 : decode cX9_promise 5 = .ok (.aload_n 0, 1) := by decide +kernel
theorem dX9_promise_6 : decode cX9_promise 6 = .ok (.getfield 39, 3) := by decide +kernel
theorem dX9_promise_9 : decode cX9_promise 9 = .ok (.getfield 83, 3) := by decide +kernel
theorem dX9_promise_12 : decode cX9_promise 12 = .ok (.bipush 32, 2) := by decide +kernel
theorem dX9_promise_14 : decode cX9_promise 14 = .ok (.if_icmp .lt 13, 3) := by decide +kernel
theorem dX9_promise_17 : decode cX9_promise 17 = .ok (.new 51, 3) := by decide +kernel
theorem dX9_promise_20 : decode cX9_promise 20 = .ok (.dup, 1) := by decide +kernel
theorem dX9_promise_21 : decode cX9_promise 21 = .ok (.ldc 86, 2) := by decide +kernel
theorem dX9_promise_23 : decode cX9_promise 23 = .ok (.invokespecial 55, 3) := by decide +kernel
theorem dX9_promise_26 : decode cX9_promise 26 = .ok (.athrow, 1) := by decide +kernel
theorem dX9_promise_27 : decode cX9_promise 27 = .ok (.aload_n 0, 1) := by decide +kernel
theorem dX9_promise_28 : decode cX9_promise 28 = .ok (.getfield 39, 3) := by decide +kernel
theorem dX9_promise_31 : decode cX9_promise 31 = .ok (.iload_n 1, 1) := by decide +kernel
theorem dX9_promise_32 : decode cX9_promise 32 = .ok (.invokevirtual 88, 3) := by decide +kernel
theorem dX9_promise_35 : decode cX9_promise 35 = .ok (.ireturn, 1) := by decide +kernel
theorem dX9_channels_0 : decode cX9_channels 0 = .ok (.aload_n 0, 1) := by decide +kernel
theorem dX9_channels_1 : decode cX9_channels 1 = .ok (.iload_n 1, 1) := by decide +kernel
theorem dX9_channels_2 : decode cX9_channels 2 = .ok (.invokevirtual 80, 3) := by decide +kernel
theorem dX9_channels_5 : decode cX9_channels 5 = .ok (.aload_n 0, 1) := by decide +kernel
theorem dX9_channels_6 : decode cX9_channels 6 = .ok (.iload_n 2, 1) := by decide +kernel
theorem dX9_channels_7 : decode cX9_channels 7 = .ok (.invokevirtual 80, 3) := by decide +kernel
theorem dX9_channels_10 : decode cX9_channels 10 = .ok (.aload_n 0, 1) := by decide +kernel
theorem dX9_channels_11 : decode cX9_channels 11 = .ok (.getfield 44, 3) := by decide +kernel
theorem dX9_channels_14 : decode cX9_channels 14 = .ok (.getfield 91, 3) := by decide +kernel
theorem dX9_channels_17 : decode cX9_channels 17 = .ok (.bipush 16, 2) := by decide +kernel
theorem dX9_channels_19 : decode cX9_channels 19 = .ok (.if_icmp .lt 13, 3) := by decide +kernel
theorem dX9_channels_22 : decode cX9_channels 22 = .ok (.new 51, 3) := by decide +kernel
theorem dX9_channels_25 : decode cX9_channels 25 = .ok (.dup, 1) := by decide +kernel
theorem dX9_channels_26 : decode cX9_channels 26 = .ok (.ldc 94, 2) := by decide +kernel
theorem dX9_channels_28 : decode cX9_channels 28 = .ok (.invokespecial 55, 3) := by decide +kernel
theorem dX9_channels_31 : decode cX9_channels 31 = .ok (.athrow, 1) := by decide +kernel
theorem dX9_channels_32 : decode cX9_channels 32 = .ok (.aload_n 0, 1) := by decide +kernel
theorem dX9_channels_33 : decode cX9_channels 33 = .ok (.getfield 44, 3) := by decide +kernel
theorem dX9_channels_36 : decode cX9_channels 36 = .ok (.iload_n 1, 1) := by decide +kernel
theorem dX9_channels_37 : decode cX9_channels 37 = .ok (.iload_n 2, 1) := by decide +kernel
theorem dX9_channels_38 : decode cX9_channels 38 = .ok (.invokevirtual 96, 3) := by decide +kernel
theorem dX9_channels_41 : decode cX9_channels 41 = .ok (.ireturn, 1) := by decide +kernel
theorem dX9_handler_0 : decode cX9_handler 0 = .ok (.aload_n 0, 1) := by decide +kernel
theorem dX9_handler_1 : decode cX9_handler 1 = .ok (.iload_n 1, 1) := by decide +kernel
theorem dX9_handler_2 : decode cX9_handler 2 = .ok (.invokevirtual 100, 3) := by decide +kernel
theorem dX9_handler_5 : decode cX9_handler 5 = .ok (.iload 4, 2) := by decide +kernel
theorem dX9_handler_7 : decode cX9_handler 7 = .ok (.iconst (-1), 1) := by decide +kernel
theorem dX9_handler_8 : decode cX9_handler 8 = .ok (.if_icmp .eq 43, 3) := by decide +kernel
theorem dX9_handler_11 : decode cX9_handler 11 = .ok (.iload 4, 2) := by decide +kernel
theorem dX9_handler_13 : decode cX9_handler 13 = .ok (.ifCond .lt 17, 3) := by decide +kernel
theorem dX9_handler_16 : decode cX9_handler 16 = .ok (.iload 4, 2) := by decide +kernel
theorem dX9_handler_18 : decode cX9_handler 18 = .ok (.aload_n 0, 1) := by decide +kernel
theorem dX9_handler_19 : decode cX9_handler 19 = .ok (.getfield 44, 3) := by decide +kernel
theorem dX9_handler_22 : decode cX9_handler 22 = .ok (.getfield 103, 3) := by decide +kernel
theorem dX9_handler_25 : decode cX9_handler 25 = .ok (.iload_n 1, 1) := by decide +kernel
theorem dX9_handler_26 : decode cX9_handler 26 = .ok (.iaload, 1) := by decide +kernel
theorem dX9_handler_27 : decode cX9_handler 27 = .ok (.if_icmp .lt 13, 3) := by decide +kernel
theorem dX9_handler_30 : decode cX9_handler 30 = .ok (.new 65, 3) := by decide +kernel
theorem dX9_handler_33 : decode cX9_handler 33 = .ok (.dup, 1) := by decide +kernel
theorem dX9_handler_34 : decode cX9_handler 34 = .ok (.ldc 104, 2) := by decide +kernel
theorem dX9_handler_36 : decode cX9_handler 36 = .ok (.invokespecial 69, 3) := by decide +kernel
theorem dX9_handler_39 : decode cX9_handler 39 = .ok (.athrow, 1) := by decide +kernel
theorem dX9_handler_40 : decode cX9_handler 40 = .ok (.aload_n 0, 1) := by decide +kernel
theorem dX9_handler_41 : decode cX9_handler 41 = .ok (.getfield 44, 3) := by decide +kernel
theorem dX9_handler_44 : decode cX9_handler 44 = .ok (.iload_n 1, 1) := by decide +kernel
theorem dX9_handler_45 : decode cX9_handler 45 = .ok (.iload 4, 2) := by decide +kernel
theorem dX9_handler_47 : decode cX9_handler 47 = .ok (.invokevirtual 106, 3) := by decide +kernel
theorem dX9_handler_50 : decode cX9_handler 50 = .ok (.ireturn, 1) := by decide +kernel
theorem dX9_handler_51 : decode cX9_handler 51 = .ok (.iload_n 2, 1) := by decide +kernel
theorem dX9_handler_52 : decode cX9_handler 52 = .ok (.ifCond .lt 9, 3) := by decide +kernel
theorem dX9_handler_55 : decode cX9_handler 55 = .ok (.iload_n 2, 1) := by decide +kernel
theorem dX9_handler_56 : decode cX9_handler 56 = .ok (.bipush 6, 2) := by decide +kernel
theorem dX9_handler_58 : decode cX9_handler 58 = .ok (.if_icmp .le 13, 3) := by decide +kernel
theorem dX9_handler_61 : decode cX9_handler 61 = .ok (.new 65, 3) := by decide +kernel
theorem dX9_handler_64 : decode cX9_handler 64 = .ok (.dup, 1) := by decide +kernel
theorem dX9_handler_65 : decode cX9_handler 65 = .ok (.ldc 109, 2) := by decide +kernel
theorem dX9_handler_67 : decode cX9_handler 67 = .ok (.invokespecial 69, 3) := by decide +kernel
theorem dX9_handler_70 : decode cX9_handler 70 = .ok (.athrow, 1) := by decide +kernel
theorem dX9_handler_71 : decode cX9_handler 71 = .ok (.iload_n 2, 1) := by decide +kernel
theorem dX9_handler_72 : decode cX9_handler 72 = .ok (.iconst 4, 1) := by decide +kernel
theorem dX9_handler_73 : decode cX9_handler 73 = .ok (.if_icmp .ne 8, 3) := by decide +kernel
theorem dX9_handler_76 : decode cX9_handler 76 = .ok (.aload_n 0, 1) := by decide +kernel
theorem dX9_handler_77 : decode cX9_handler 77 = .ok (.iload_n 3, 1) := by decide +kernel
theorem dX9_handler_78 : decode cX9_handler 78 = .ok (.invokevirtual 62, 3) := by decide +kernel
theorem dX9_handler_81 : decode cX9_handler 81 = .ok (.aload_n 0, 1) := by decide +kernel
theorem dX9_handler_82 : decode cX9_handler 82 = .ok (.getfield 44, 3) := by decide +kernel
theorem dX9_handler_85 : decode cX9_handler 85 = .ok (.getfield 103, 3) := by decide +kernel
theorem dX9_handler_88 : decode cX9_handler 88 = .ok (.iload_n 1, 1) := by decide +kernel
theorem dX9_handler_89 : decode cX9_handler 89 = .ok (.iaload, 1) := by decide +kernel
theorem dX9_handler_90 : decode cX9_handler 90 = .ok (.bipush 6, 2) := by decide +kernel
theorem dX9_handler_92 : decode cX9_handler 92 = .ok (.if_icmp .lt 13, 3) := by decide +kernel
theorem dX9_handler_95 : decode cX9_handler 95 = .ok (.new 51, 3) := by decide +kernel
theorem dX9_handler_98 : decode cX9_handler 98 = .ok (.dup, 1) := by decide +kernel
theorem dX9_handler_99 : decode cX9_handler 99 = .ok (.ldc 111, 2) := by decide +kernel
theorem dX9_handler_101 : decode cX9_handler 101 = .ok (.invokespecial 55, 3) := by decide +kernel
theorem dX9_handler_104 : decode cX9_handler 104 = .ok (.athrow, 1) := by decide +kernel
theorem dX9_handler_105 : decode cX9_handler 105 = .ok (.aload_n 0, 1) := by decide +kernel
theorem dX9_handler_106 : decode cX9_handler 106 = .ok (.getfield 44, 3) := by decide +kernel
theorem dX9_handler_109 : decode cX9_handler 109 = .ok (.iload_n 1, 1) := by decide +kernel
theorem dX9_handler_110 : decode cX9_handler 110 = .ok (.iload_n 2, 1) := by decide +kernel
theorem dX9_handler_111 : decode cX9_handler 111 = .ok (.iload_n 3, 1) := by decide +kernel
theorem dX9_handler_112 : decode cX9_handler 112 = .ok (.invokevirtual 113, 3) := by decide +kernel
theorem dX9_handler_115 : decode cX9_handler 115 = .ok (.ireturn, 1) := by decide +kernel
theorem dX9_advance_0 : decode cX9_advance 0 = .ok (.iload_n 1, 1) := by decide +kernel
theorem dX9_advance_1 : decode cX9_advance 1 = .ok (.ifCond .lt 9, 3) := by decide +kernel
theorem dX9_advance_4 : decode cX9_advance 4 = .ok (.iload_n 1, 1) := by decide +kernel
theorem dX9_advance_5 : decode cX9_advance 5 = .ok (.ldc 117, 2) := by decide +kernel
theorem dX9_advance_7 : decode cX9_advance 7 = .ok (.if_icmp .le 13, 3) := by decide +kernel
theorem dX9_advance_10 : decode cX9_advance 10 = .ok (.new 65, 3) := by decide +kernel
theorem dX9_advance_13 : decode cX9_advance 13 = .ok (.dup, 1) := by decide +kernel
theorem dX9_advance_14 : decode cX9_advance 14 = .ok (.ldc 118, 2) := by decide +kernel
theorem dX9_advance_16 : decode cX9_advance 16 = .ok (.invokespecial 69, 3) := by decide +kernel
theorem dX9_advance_19 : decode cX9_advance 19 = .ok (.athrow, 1) := by decide +kernel
theorem dX9_advance_20 : decode cX9_advance 20 = .ok (.aload_n 0, 1) := by decide +kernel
theorem dX9_advance_21 : decode cX9_advance 21 = .ok (.getfield 22, 3) := by decide +kernel
theorem dX9_advance_24 : decode cX9_advance 24 = .ok (.dup, 1) := by decide +kernel
theorem dX9_advance_25 : decode cX9_advance 25 = .ok (.getfield 120, 3) := by decide +kernel
theorem dX9_advance_28 : decode cX9_advance 28 = .ok (.iload_n 1, 1) := by decide +kernel
theorem dX9_advance_29 : decode cX9_advance 29 = .ok (.i2l, 1) := by decide +kernel
theorem dX9_advance_30 : decode cX9_advance 30 = .ok (.ladd, 1) := by decide +kernel
theorem dX9_advance_31 : decode cX9_advance 31 = .ok (.putfield 120, 3) := by decide +kernel
theorem dX9_advance_34 : decode cX9_advance 34 = .ok (.aload_n 0, 1) := by decide +kernel
theorem dX9_advance_35 : decode cX9_advance 35 = .ok (.getfield 22, 3) := by decide +kernel
theorem dX9_advance_38 : decode cX9_advance 38 = .ok (.getfield 120, 3) := by decide +kernel
theorem dX9_advance_41 : decode cX9_advance 41 = .ok (.lreturn, 1) := by decide +kernel
theorem dX9_execute_0 : decode cX9_execute 0 = .ok (.aload_n 0, 1) := by decide +kernel
theorem dX9_execute_1 : decode cX9_execute 1 = .ok (.iload_n 1, 1) := by decide +kernel
theorem dX9_execute_2 : decode cX9_execute 2 = .ok (.invokevirtual 62, 3) := by decide +kernel
theorem dX9_execute_5 : decode cX9_execute 5 = .ok (.iload_n 2, 1) := by decide +kernel
theorem dX9_execute_6 : decode cX9_execute 6 = .ok (.bipush (-2), 2) := by decide +kernel
theorem dX9_execute_8 : decode cX9_execute 8 = .ok (.if_icmp .eq 8, 3) := by decide +kernel
theorem dX9_execute_11 : decode cX9_execute 11 = .ok (.aload_n 0, 1) := by decide +kernel
theorem dX9_execute_12 : decode cX9_execute 12 = .ok (.iload_n 2, 1) := by decide +kernel
theorem dX9_execute_13 : decode cX9_execute 13 = .ok (.invokevirtual 80, 3) := by decide +kernel
theorem dX9_execute_16 : decode cX9_execute 16 = .ok (.iload_n 2, 1) := by decide +kernel
theorem dX9_execute_17 : decode cX9_execute 17 = .ok (.bipush (-2), 2) := by decide +kernel
theorem dX9_execute_19 : decode cX9_execute 19 = .ok (.if_icmp .ne 13, 3) := by decide +kernel
theorem dX9_execute_22 : decode cX9_execute 22 = .ok (.aload_n 0, 1) := by decide +kernel
theorem dX9_execute_23 : decode cX9_execute 23 = .ok (.getfield 22, 3) := by decide +kernel
theorem dX9_execute_26 : decode cX9_execute 26 = .ok (.invokevirtual 124, 3) := by decide +kernel
theorem dX9_execute_29 : decode cX9_execute 29 = .ok (.goto 4, 3) := by decide +kernel
theorem dX9_execute_32 : decode cX9_execute 32 = .ok (.iload_n 2, 1) := by decide +kernel
theorem dX9_execute_33 : decode cX9_execute 33 = .ok (.istore_n 3, 1) := by decide +kernel
theorem dX9_execute_34 : decode cX9_execute 34 = .ok (.aload_n 0, 1) := by decide +kernel
theorem dX9_execute_35 : decode cX9_execute 35 = .ok (.getfield 22, 3) := by decide +kernel
theorem dX9_execute_38 : decode cX9_execute 38 = .ok (.iconst (-1), 1) := by decide +kernel
theorem dX9_execute_39 : decode cX9_execute 39 = .ok (.iload_n 3, 1) := by decide +kernel
theorem dX9_execute_40 : decode cX9_execute 40 = .ok (.iconst 0, 1) := by decide +kernel
theorem dX9_execute_41 : decode cX9_execute 41 = .ok (.iload_n 1, 1) := by decide +kernel
theorem dX9_execute_42 : decode cX9_execute 42 = .ok (.iconst 0, 1) := by decide +kernel
theorem dX9_execute_43 : decode cX9_execute 43 = .ok (.invokevirtual 129, 3) := by decide +kernel
theorem dX9_execute_46 : decode cX9_execute 46 = .ok (.ifCond .ne 13, 3) := by decide +kernel
theorem dX9_execute_49 : decode cX9_execute 49 = .ok (.new 51, 3) := by decide +kernel
theorem dX9_execute_52 : decode cX9_execute 52 = .ok (.dup, 1) := by decide +kernel
theorem dX9_execute_53 : decode cX9_execute 53 = .ok (.ldc 133, 2) := by decide +kernel
theorem dX9_execute_55 : decode cX9_execute 55 = .ok (.invokespecial 55, 3) := by decide +kernel
theorem dX9_execute_58 : decode cX9_execute 58 = .ok (.athrow, 1) := by decide +kernel
theorem dX9_execute_59 : decode cX9_execute 59 = .ok (.iload_n 3, 1) := by decide +kernel
theorem dX9_execute_60 : decode cX9_execute 60 = .ok (.ireturn, 1) := by decide +kernel
theorem dX9_timer_0 : decode cX9_timer 0 = .ok (.aload_n 0, 1) := by decide +kernel
theorem dX9_timer_1 : decode cX9_timer 1 = .ok (.iload_n 1, 1) := by decide +kernel
theorem dX9_timer_2 : decode cX9_timer 2 = .ok (.invokevirtual 62, 3) := by decide +kernel
theorem dX9_timer_5 : decode cX9_timer 5 = .ok (.aload_n 0, 1) := by decide +kernel
theorem dX9_timer_6 : decode cX9_timer 6 = .ok (.iload_n 3, 1) := by decide +kernel
theorem dX9_timer_7 : decode cX9_timer 7 = .ok (.invokevirtual 80, 3) := by decide +kernel
theorem dX9_timer_10 : decode cX9_timer 10 = .ok (.iload_n 2, 1) := by decide +kernel
theorem dX9_timer_11 : decode cX9_timer 11 = .ok (.ifCond .ge 13, 3) := by decide +kernel
theorem dX9_timer_14 : decode cX9_timer 14 = .ok (.new 65, 3) := by decide +kernel
theorem dX9_timer_17 : decode cX9_timer 17 = .ok (.dup, 1) := by decide +kernel
theorem dX9_timer_18 : decode cX9_timer 18 = .ok (.ldc 135, 2) := by decide +kernel
theorem dX9_timer_20 : decode cX9_timer 20 = .ok (.invokespecial 69, 3) := by decide +kernel
theorem dX9_timer_23 : decode cX9_timer 23 = .ok (.athrow, 1) := by decide +kernel
theorem dX9_timer_24 : decode cX9_timer 24 = .ok (.aload_n 0, 1) := by decide +kernel
theorem dX9_timer_25 : decode cX9_timer 25 = .ok (.getfield 22, 3) := by decide +kernel
theorem dX9_timer_28 : decode cX9_timer 28 = .ok (.iconst (-1), 1) := by decide +kernel
theorem dX9_timer_29 : decode cX9_timer 29 = .ok (.iload_n 3, 1) := by decide +kernel
theorem dX9_timer_30 : decode cX9_timer 30 = .ok (.iload_n 1, 1) := by decide +kernel
theorem dX9_timer_31 : decode cX9_timer 31 = .ok (.iload_n 2, 1) := by decide +kernel
theorem dX9_timer_32 : decode cX9_timer 32 = .ok (.invokevirtual 137, 3) := by decide +kernel
theorem dX9_timer_35 : decode cX9_timer 35 = .ok (.istore 4, 2) := by decide +kernel
theorem dX9_timer_37 : decode cX9_timer 37 = .ok (.iload 4, 2) := by decide +kernel
theorem dX9_timer_39 : decode cX9_timer 39 = .ok (.iconst (-1), 1) := by decide +kernel
theorem dX9_timer_40 : decode cX9_timer 40 = .ok (.if_icmp .ne 13, 3) := by decide +kernel
theorem dX9_timer_43 : decode cX9_timer 43 = .ok (.new 51, 3) := by decide +kernel
theorem dX9_timer_46 : decode cX9_timer 46 = .ok (.dup, 1) := by decide +kernel
theorem dX9_timer_47 : decode cX9_timer 47 = .ok (.ldc 133, 2) := by decide +kernel
theorem dX9_timer_49 : decode cX9_timer 49 = .ok (.invokespecial 55, 3) := by decide +kernel
theorem dX9_timer_52 : decode cX9_timer 52 = .ok (.athrow, 1) := by decide +kernel
theorem dX9_timer_53 : decode cX9_timer 53 = .ok (.iload 4, 2) := by decide +kernel
theorem dX9_timer_55 : decode cX9_timer 55 = .ok (.ireturn, 1) := by decide +kernel
theorem dX9_cancel_0 : decode cX9_cancel 0 = .ok (.aload_n 0, 1) := by decide +kernel
theorem dX9_cancel_1 : decode cX9_cancel 1 = .ok (.getfield 22, 3) := by decide +kernel
theorem dX9_cancel_4 : decode cX9_cancel 4 = .ok (.iload_n 1, 1) := by decide +kernel
theorem dX9_cancel_5 : decode cX9_cancel 5 = .ok (.invokevirtual 140, 3) := by decide +kernel
theorem dX9_cancel_8 : decode cX9_cancel 8 = .ok (.ireturn, 1) := by decide +kernel
theorem dX9_complete_0 : decode cX9_complete 0 = .ok (.aload_n 0, 1) := by decide +kernel
theorem dX9_complete_1 : decode cX9_complete 1 = .ok (.iload_n 1, 1) := by decide +kernel
theorem dX9_complete_2 : decode cX9_complete 2 = .ok (.invokevirtual 144, 3) := by decide +kernel
theorem dX9_complete_5 : decode cX9_complete 5 = .ok (.iload_n 2, 1) := by decide +kernel
theorem dX9_complete_6 : decode cX9_complete 6 = .ok (.iconst 4, 1) := by decide +kernel
theorem dX9_complete_7 : decode cX9_complete 7 = .ok (.if_icmp .ne 12, 3) := by decide +kernel
theorem dX9_complete_10 : decode cX9_complete 10 = .ok (.aload_n 0, 1) := by decide +kernel
theorem dX9_complete_11 : decode cX9_complete 11 = .ok (.getfield 39, 3) := by decide +kernel
theorem dX9_complete_14 : decode cX9_complete 14 = .ok (.iload_n 1, 1) := by decide +kernel
theorem dX9_complete_15 : decode cX9_complete 15 = .ok (.invokevirtual 147, 3) := by decide +kernel
theorem dX9_complete_18 : decode cX9_complete 18 = .ok (.ireturn, 1) := by decide +kernel
theorem dX9_complete_19 : decode cX9_complete 19 = .ok (.iload_n 2, 1) := by decide +kernel
theorem dX9_complete_20 : decode cX9_complete 20 = .ok (.iconst 1, 1) := by decide +kernel
theorem dX9_complete_21 : decode cX9_complete 21 = .ok (.if_icmp .lt 8, 3) := by decide +kernel
theorem dX9_complete_24 : decode cX9_complete 24 = .ok (.iload_n 2, 1) := by decide +kernel
theorem dX9_complete_25 : decode cX9_complete 25 = .ok (.iconst 3, 1) := by decide +kernel
theorem dX9_complete_26 : decode cX9_complete 26 = .ok (.if_icmp .le 13, 3) := by decide +kernel
theorem dX9_complete_29 : decode cX9_complete 29 = .ok (.new 65, 3) := by decide +kernel
theorem dX9_complete_32 : decode cX9_complete 32 = .ok (.dup, 1) := by decide +kernel
theorem dX9_complete_33 : decode cX9_complete 33 = .ok (.ldc 150, 2) := by decide +kernel
theorem dX9_complete_35 : decode cX9_complete 35 = .ok (.invokespecial 69, 3) := by decide +kernel
theorem dX9_complete_38 : decode cX9_complete 38 = .ok (.athrow, 1) := by decide +kernel
theorem dX9_complete_39 : decode cX9_complete 39 = .ok (.aload_n 0, 1) := by decide +kernel
theorem dX9_complete_40 : decode cX9_complete 40 = .ok (.getfield 14, 3) := by decide +kernel
theorem dX9_complete_43 : decode cX9_complete 43 = .ok (.iconst (-1), 1) := by decide +kernel
theorem dX9_complete_44 : decode cX9_complete 44 = .ok (.iload_n 1, 1) := by decide +kernel
theorem dX9_complete_45 : decode cX9_complete 45 = .ok (.iload_n 2, 1) := by decide +kernel
theorem dX9_complete_46 : decode cX9_complete 46 = .ok (.iload_n 3, 1) := by decide +kernel
theorem dX9_complete_47 : decode cX9_complete 47 = .ok (.invokevirtual 152, 3) := by decide +kernel
theorem dX9_complete_50 : decode cX9_complete 50 = .ok (.ireturn, 1) := by decide +kernel
theorem dX9_listen_0 : decode cX9_listen 0 = .ok (.aload_n 0, 1) := by decide +kernel
theorem dX9_listen_1 : decode cX9_listen 1 = .ok (.iload_n 1, 1) := by decide +kernel
theorem dX9_listen_2 : decode cX9_listen 2 = .ok (.invokevirtual 144, 3) := by decide +kernel
theorem dX9_listen_5 : decode cX9_listen 5 = .ok (.aload_n 0, 1) := by decide +kernel
theorem dX9_listen_6 : decode cX9_listen 6 = .ok (.iload_n 2, 1) := by decide +kernel
theorem dX9_listen_7 : decode cX9_listen 7 = .ok (.invokevirtual 62, 3) := by decide +kernel
theorem dX9_listen_10 : decode cX9_listen 10 = .ok (.aload_n 0, 1) := by decide +kernel
theorem dX9_listen_11 : decode cX9_listen 11 = .ok (.getfield 39, 3) := by decide +kernel
theorem dX9_listen_14 : decode cX9_listen 14 = .ok (.iload_n 1, 1) := by decide +kernel
theorem dX9_listen_15 : decode cX9_listen 15 = .ok (.invokevirtual 156, 3) := by decide +kernel
theorem dX9_listen_18 : decode cX9_listen 18 = .ok (.ifCond .ne 13, 3) := by decide +kernel
theorem dX9_listen_21 : decode cX9_listen 21 = .ok (.new 65, 3) := by decide +kernel
theorem dX9_listen_24 : decode cX9_listen 24 = .ok (.dup, 1) := by decide +kernel
theorem dX9_listen_25 : decode cX9_listen 25 = .ok (.ldc 159, 2) := by decide +kernel
theorem dX9_listen_27 : decode cX9_listen 27 = .ok (.invokespecial 69, 3) := by decide +kernel
theorem dX9_listen_30 : decode cX9_listen 30 = .ok (.athrow, 1) := by decide +kernel
theorem dX9_listen_31 : decode cX9_listen 31 = .ok (.aload_n 0, 1) := by decide +kernel
theorem dX9_listen_32 : decode cX9_listen 32 = .ok (.getfield 14, 3) := by decide +kernel
theorem dX9_listen_35 : decode cX9_listen 35 = .ok (.iconst (-1), 1) := by decide +kernel
theorem dX9_listen_36 : decode cX9_listen 36 = .ok (.iload_n 1, 1) := by decide +kernel
theorem dX9_listen_37 : decode cX9_listen 37 = .ok (.iload_n 2, 1) := by decide +kernel
theorem dX9_listen_38 : decode cX9_listen 38 = .ok (.invokevirtual 161, 3) := by decide +kernel
theorem dX9_listen_41 : decode cX9_listen 41 = .ok (.return_, 1) := by decide +kernel
theorem dX9_fire_0 : decode cX9_fire 0 = .ok (.aload_n 0, 1) := by decide +kernel
theorem dX9_fire_1 : decode cX9_fire 1 = .ok (.iload_n 1, 1) := by decide +kernel
theorem dX9_fire_2 : decode cX9_fire 2 = .ok (.invokevirtual 100, 3) := by decide +kernel
theorem dX9_fire_5 : decode cX9_fire 5 = .ok (.aload_n 0, 1) := by decide +kernel
theorem dX9_fire_6 : decode cX9_fire 6 = .ok (.getfield 14, 3) := by decide +kernel
theorem dX9_fire_9 : decode cX9_fire 9 = .ok (.iconst (-1), 1) := by decide +kernel
theorem dX9_fire_10 : decode cX9_fire 10 = .ok (.iload_n 1, 1) := by decide +kernel
theorem dX9_fire_11 : decode cX9_fire 11 = .ok (.iload_n 2, 1) := by decide +kernel
theorem dX9_fire_12 : decode cX9_fire 12 = .ok (.invokevirtual 165, 3) := by decide +kernel
theorem dX9_fire_15 : decode cX9_fire 15 = .ok (.ifCond .ne 13, 3) := by decide +kernel
theorem dX9_fire_18 : decode cX9_fire 18 = .ok (.new 51, 3) := by decide +kernel
theorem dX9_fire_21 : decode cX9_fire 21 = .ok (.dup, 1) := by decide +kernel
theorem dX9_fire_22 : decode cX9_fire 22 = .ok (.ldc 133, 2) := by decide +kernel
theorem dX9_fire_24 : decode cX9_fire 24 = .ok (.invokespecial 55, 3) := by decide +kernel
theorem dX9_fire_27 : decode cX9_fire 27 = .ok (.athrow, 1) := by decide +kernel
theorem dX9_fire_28 : decode cX9_fire 28 = .ok (.return_, 1) := by decide +kernel
theorem dX9_shutdown_0 : decode cX9_shutdown 0 = .ok (.aload_n 0, 1) := by decide +kernel
theorem dX9_shutdown_1 : decode cX9_shutdown 1 = .ok (.getfield 22, 3) := by decide +kernel
theorem dX9_shutdown_4 : decode cX9_shutdown 4 = .ok (.iload_n 1, 1) := by decide +kernel
theorem dX9_shutdown_5 : decode cX9_shutdown 5 = .ok (.iload_n 2, 1) := by decide +kernel
theorem dX9_shutdown_6 : decode cX9_shutdown 6 = .ok (.invokevirtual 169, 3) := by decide +kernel
theorem dX9_shutdown_9 : decode cX9_shutdown 9 = .ok (.ifCond .ne 13, 3) := by decide +kernel
theorem dX9_shutdown_12 : decode cX9_shutdown 12 = .ok (.new 65, 3) := by decide +kernel
theorem dX9_shutdown_15 : decode cX9_shutdown 15 = .ok (.dup, 1) := by decide +kernel
theorem dX9_shutdown_16 : decode cX9_shutdown 16 = .ok (.ldc 173, 2) := by decide +kernel
theorem dX9_shutdown_18 : decode cX9_shutdown 18 = .ok (.invokespecial 69, 3) := by decide +kernel
theorem dX9_shutdown_21 : decode cX9_shutdown 21 = .ok (.athrow, 1) := by decide +kernel
theorem dX9_shutdown_22 : decode cX9_shutdown 22 = .ok (.aload_n 0, 1) := by decide +kernel
theorem dX9_shutdown_23 : decode cX9_shutdown 23 = .ok (.getfield 22, 3) := by decide +kernel
theorem dX9_shutdown_26 : decode cX9_shutdown 26 = .ok (.iload_n 1, 1) := by decide +kernel
theorem dX9_shutdown_27 : decode cX9_shutdown 27 = .ok (.iload_n 2, 1) := by decide +kernel
theorem dX9_shutdown_28 : decode cX9_shutdown 28 = .ok (.invokevirtual 175, 3) := by decide +kernel
theorem dX9_shutdown_31 : decode cX9_shutdown 31 = .ok (.return_, 1) := by decide +kernel
theorem dX9_step_0 : decode cX9_step 0 = .ok (.aload_n 0, 1) := by decide +kernel
theorem dX9_step_1 : decode cX9_step 1 = .ok (.iload_n 1, 1) := by decide +kernel
theorem dX9_step_2 : decode cX9_step 2 = .ok (.invokevirtual 80, 3) := by decide +kernel
theorem dX9_step_5 : decode cX9_step 5 = .ok (.aload_n 0, 1) := by decide +kernel
theorem dX9_step_6 : decode cX9_step 6 = .ok (.getfield 14, 3) := by decide +kernel
theorem dX9_step_9 : decode cX9_step 9 = .ok (.iload_n 1, 1) := by decide +kernel
theorem dX9_step_10 : decode cX9_step 10 = .ok (.invokevirtual 179, 3) := by decide +kernel
theorem dX9_step_13 : decode cX9_step 13 = .ok (.ireturn, 1) := by decide +kernel
theorem dX9_loop_0 : decode cX9_loop 0 = .ok (.aload_n 0, 1) := by decide +kernel
theorem dX9_loop_1 : decode cX9_loop 1 = .ok (.iload_n 1, 1) := by decide +kernel
theorem dX9_loop_2 : decode cX9_loop 2 = .ok (.invokevirtual 80, 3) := by decide +kernel
theorem dX9_loop_5 : decode cX9_loop 5 = .ok (.aload_n 0, 1) := by decide +kernel
theorem dX9_loop_6 : decode cX9_loop 6 = .ok (.getfield 22, 3) := by decide +kernel
theorem dX9_loop_9 : decode cX9_loop 9 = .ok (.getfield 182, 3) := by decide +kernel
theorem dX9_loop_12 : decode cX9_loop 12 = .ok (.iload_n 1, 1) := by decide +kernel
theorem dX9_loop_13 : decode cX9_loop 13 = .ok (.aaload, 1) := by decide +kernel
theorem dX9_loop_14 : decode cX9_loop 14 = .ok (.astore_n 3, 1) := by decide +kernel
theorem dX9_loop_15 : decode cX9_loop 15 = .ok (.iload_n 2, 1) := by decide +kernel
theorem dX9_loop_16 : decode cX9_loop 16 = .ok (.tableswitch 76 0 4 #[36, 41, 49, 57, 71], 36) := by decide +kernel
theorem dX9_loop_52 : decode cX9_loop 52 = .ok (.aload_n 3, 1) := by decide +kernel
theorem dX9_loop_53 : decode cX9_loop 53 = .ok (.getfield 186, 3) := by decide +kernel
theorem dX9_loop_56 : decode cX9_loop 56 = .ok (.ireturn, 1) := by decide +kernel
theorem dX9_loop_57 : decode cX9_loop 57 = .ok (.aload_n 3, 1) := by decide +kernel
theorem dX9_loop_58 : decode cX9_loop 58 = .ok (.getfield 191, 3) := by decide +kernel
theorem dX9_loop_61 : decode cX9_loop 61 = .ok (.getfield 195, 3) := by decide +kernel
theorem dX9_loop_64 : decode cX9_loop 64 = .ok (.ireturn, 1) := by decide +kernel
theorem dX9_loop_65 : decode cX9_loop 65 = .ok (.aload_n 3, 1) := by decide +kernel
theorem dX9_loop_66 : decode cX9_loop 66 = .ok (.getfield 198, 3) := by decide +kernel
theorem dX9_loop_69 : decode cX9_loop 69 = .ok (.getfield 202, 3) := by decide +kernel
theorem dX9_loop_72 : decode cX9_loop 72 = .ok (.ireturn, 1) := by decide +kernel
theorem dX9_loop_73 : decode cX9_loop 73 = .ok (.aload_n 3, 1) := by decide +kernel
theorem dX9_loop_74 : decode cX9_loop 74 = .ok (.getfield 205, 3) := by decide +kernel
theorem dX9_loop_77 : decode cX9_loop 77 = .ok (.iconst (-1), 1) := by decide +kernel
theorem dX9_loop_78 : decode cX9_loop 78 = .ok (.if_icmp .eq 7, 3) := by decide +kernel
theorem dX9_loop_81 : decode cX9_loop 81 = .ok (.iconst 1, 1) := by decide +kernel
theorem dX9_loop_82 : decode cX9_loop 82 = .ok (.goto 4, 3) := by decide +kernel
theorem dX9_loop_85 : decode cX9_loop 85 = .ok (.iconst 0, 1) := by decide +kernel
theorem dX9_loop_86 : decode cX9_loop 86 = .ok (.ireturn, 1) := by decide +kernel
theorem dX9_loop_87 : decode cX9_loop 87 = .ok (.aload_n 3, 1) := by decide +kernel
theorem dX9_loop_88 : decode cX9_loop 88 = .ok (.getfield 208, 3) := by decide +kernel
theorem dX9_loop_91 : decode cX9_loop 91 = .ok (.ireturn, 1) := by decide +kernel
theorem dX9_loop_92 : decode cX9_loop 92 = .ok (.new 65, 3) := by decide +kernel
theorem dX9_loop_95 : decode cX9_loop 95 = .ok (.dup, 1) := by decide +kernel
theorem dX9_loop_96 : decode cX9_loop 96 = .ok (.ldc 211, 2) := by decide +kernel
theorem dX9_loop_98 : decode cX9_loop 98 = .ok (.invokespecial 69, 3) := by decide +kernel
theorem dX9_loop_101 : decode cX9_loop 101 = .ok (.athrow, 1) := by decide +kernel
theorem dX9_look_0 : decode cX9_look 0 = .ok (.aload_n 0, 1) := by decide +kernel
theorem dX9_look_1 : decode cX9_look 1 = .ok (.iload_n 1, 1) := by decide +kernel
theorem dX9_look_2 : decode cX9_look 2 = .ok (.invokevirtual 144, 3) := by decide +kernel
theorem dX9_look_5 : decode cX9_look 5 = .ok (.iload_n 2, 1) := by decide +kernel
theorem dX9_look_6 : decode cX9_look 6 = .ok (.tableswitch 56 0 2 #[26, 36, 46], 26) := by decide +kernel
theorem dX9_look_32 : decode cX9_look 32 = .ok (.aload_n 0, 1) := by decide +kernel
theorem dX9_look_33 : decode cX9_look 33 = .ok (.getfield 39, 3) := by decide +kernel
theorem dX9_look_36 : decode cX9_look 36 = .ok (.getfield 213, 3) := by decide +kernel
theorem dX9_look_39 : decode cX9_look 39 = .ok (.iload_n 1, 1) := by decide +kernel
theorem dX9_look_40 : decode cX9_look 40 = .ok (.iaload, 1) := by decide +kernel
theorem dX9_look_41 : decode cX9_look 41 = .ok (.ireturn, 1) := by decide +kernel
theorem dX9_look_42 : decode cX9_look 42 = .ok (.aload_n 0, 1) := by decide +kernel
theorem dX9_look_43 : decode cX9_look 43 = .ok (.getfield 39, 3) := by decide +kernel
theorem dX9_look_46 : decode cX9_look 46 = .ok (.getfield 216, 3) := by decide +kernel
theorem dX9_look_49 : decode cX9_look 49 = .ok (.iload_n 1, 1) := by decide +kernel
theorem dX9_look_50 : decode cX9_look 50 = .ok (.iaload, 1) := by decide +kernel
theorem dX9_look_51 : decode cX9_look 51 = .ok (.ireturn, 1) := by decide +kernel
theorem dX9_look_52 : decode cX9_look 52 = .ok (.aload_n 0, 1) := by decide +kernel
theorem dX9_look_53 : decode cX9_look 53 = .ok (.getfield 39, 3) := by decide +kernel
theorem dX9_look_56 : decode cX9_look 56 = .ok (.getfield 219, 3) := by decide +kernel
theorem dX9_look_59 : decode cX9_look 59 = .ok (.iload_n 1, 1) := by decide +kernel
theorem dX9_look_60 : decode cX9_look 60 = .ok (.iaload, 1) := by decide +kernel
theorem dX9_look_61 : decode cX9_look 61 = .ok (.ireturn, 1) := by decide +kernel
theorem dX9_look_62 : decode cX9_look 62 = .ok (.new 65, 3) := by decide +kernel
theorem dX9_look_65 : decode cX9_look 65 = .ok (.dup, 1) := by decide +kernel
theorem dX9_look_66 : decode cX9_look 66 = .ok (.ldc 211, 2) := by decide +kernel
theorem dX9_look_68 : decode cX9_look 68 = .ok (.invokespecial 69, 3) := by decide +kernel
theorem dX9_look_71 : decode cX9_look 71 = .ok (.athrow, 1) := by decide +kernel
theorem dX9_traced_0 : decode cX9_traced 0 = .ok (.aload_n 0, 1) := by decide +kernel
theorem dX9_traced_1 : decode cX9_traced 1 = .ok (.getfield 29, 3) := by decide +kernel
theorem dX9_traced_4 : decode cX9_traced 4 = .ok (.getfield 222, 3) := by decide +kernel
theorem dX9_traced_7 : decode cX9_traced 7 = .ok (.ireturn, 1) := by decide +kernel
theorem dX9_trace_0 : decode cX9_trace 0 = .ok (.iload_n 2, 1) := by decide +kernel
theorem dX9_trace_1 : decode cX9_trace 1 = .ok (.ifCond .lt 8, 3) := by decide +kernel
theorem dX9_trace_4 : decode cX9_trace 4 = .ok (.iload_n 2, 1) := by decide +kernel
theorem dX9_trace_5 : decode cX9_trace 5 = .ok (.iconst 3, 1) := by decide +kernel
theorem dX9_trace_6 : decode cX9_trace 6 = .ok (.if_icmp .lt 13, 3) := by decide +kernel
theorem dX9_trace_9 : decode cX9_trace 9 = .ok (.new 65, 3) := by decide +kernel
theorem dX9_trace_12 : decode cX9_trace 12 = .ok (.dup, 1) := by decide +kernel
theorem dX9_trace_13 : decode cX9_trace 13 = .ok (.ldc 211, 2) := by decide +kernel
theorem dX9_trace_15 : decode cX9_trace 15 = .ok (.invokespecial 69, 3) := by decide +kernel
theorem dX9_trace_18 : decode cX9_trace 18 = .ok (.athrow, 1) := by decide +kernel
theorem dX9_trace_19 : decode cX9_trace 19 = .ok (.aload_n 0, 1) := by decide +kernel
theorem dX9_trace_20 : decode cX9_trace 20 = .ok (.getfield 29, 3) := by decide +kernel
theorem dX9_trace_23 : decode cX9_trace 23 = .ok (.iload_n 1, 1) := by decide +kernel
theorem dX9_trace_24 : decode cX9_trace 24 = .ok (.invokevirtual 225, 3) := by decide +kernel
theorem dX9_trace_27 : decode cX9_trace 27 = .ok (.ifCond .ne 13, 3) := by decide +kernel
theorem dX9_trace_30 : decode cX9_trace 30 = .ok (.new 228, 3) := by decide +kernel
theorem dX9_trace_33 : decode cX9_trace 33 = .ok (.dup, 1) := by decide +kernel
theorem dX9_trace_34 : decode cX9_trace 34 = .ok (.ldc 230, 2) := by decide +kernel
theorem dX9_trace_36 : decode cX9_trace 36 = .ok (.invokespecial 232, 3) := by decide +kernel
theorem dX9_trace_39 : decode cX9_trace 39 = .ok (.athrow, 1) := by decide +kernel
theorem dX9_trace_40 : decode cX9_trace 40 = .ok (.aload_n 0, 1) := by decide +kernel
theorem dX9_trace_41 : decode cX9_trace 41 = .ok (.getfield 29, 3) := by decide +kernel
theorem dX9_trace_44 : decode cX9_trace 44 = .ok (.iload_n 1, 1) := by decide +kernel
theorem dX9_trace_45 : decode cX9_trace 45 = .ok (.iload_n 2, 1) := by decide +kernel
theorem dX9_trace_46 : decode cX9_trace 46 = .ok (.invokevirtual 233, 3) := by decide +kernel
theorem dX9_trace_49 : decode cX9_trace 49 = .ok (.ireturn, 1) := by decide +kernel
theorem dX9_needTask_0 : decode cX9_needTask 0 = .ok (.aload_n 0, 1) := by decide +kernel
theorem dX9_needTask_1 : decode cX9_needTask 1 = .ok (.getfield 34, 3) := by decide +kernel
theorem dX9_needTask_4 : decode cX9_needTask 4 = .ok (.iload_n 1, 1) := by decide +kernel
theorem dX9_needTask_5 : decode cX9_needTask 5 = .ok (.invokevirtual 236, 3) := by decide +kernel
theorem dX9_needTask_8 : decode cX9_needTask 8 = .ok (.ifCond .ne 13, 3) := by decide +kernel
theorem dX9_needTask_11 : decode cX9_needTask 11 = .ok (.new 65, 3) := by decide +kernel
theorem dX9_needTask_14 : decode cX9_needTask 14 = .ok (.dup, 1) := by decide +kernel
theorem dX9_needTask_15 : decode cX9_needTask 15 = .ok (.ldc 239, 2) := by decide +kernel
theorem dX9_needTask_17 : decode cX9_needTask 17 = .ok (.invokespecial 69, 3) := by decide +kernel
theorem dX9_needTask_20 : decode cX9_needTask 20 = .ok (.athrow, 1) := by decide +kernel
theorem dX9_needTask_21 : decode cX9_needTask 21 = .ok (.return_, 1) := by decide +kernel
theorem dX9_needLoop_0 : decode cX9_needLoop 0 = .ok (.aload_n 0, 1) := by decide +kernel
theorem dX9_needLoop_1 : decode cX9_needLoop 1 = .ok (.getfield 22, 3) := by decide +kernel
theorem dX9_needLoop_4 : decode cX9_needLoop 4 = .ok (.iload_n 1, 1) := by decide +kernel
theorem dX9_needLoop_5 : decode cX9_needLoop 5 = .ok (.invokevirtual 241, 3) := by decide +kernel
theorem dX9_needLoop_8 : decode cX9_needLoop 8 = .ok (.ifCond .ne 13, 3) := by decide +kernel
theorem dX9_needLoop_11 : decode cX9_needLoop 11 = .ok (.new 65, 3) := by decide +kernel
theorem dX9_needLoop_14 : decode cX9_needLoop 14 = .ok (.dup, 1) := by decide +kernel
theorem dX9_needLoop_15 : decode cX9_needLoop 15 = .ok (.ldc 242, 2) := by decide +kernel
theorem dX9_needLoop_17 : decode cX9_needLoop 17 = .ok (.invokespecial 69, 3) := by decide +kernel
theorem dX9_needLoop_20 : decode cX9_needLoop 20 = .ok (.athrow, 1) := by decide +kernel
theorem dX9_needLoop_21 : decode cX9_needLoop 21 = .ok (.return_, 1) := by decide +kernel
theorem dX9_needPromise_0 : decode cX9_needPromise 0 = .ok (.aload_n 0, 1) := by decide +kernel
theorem dX9_needPromise_1 : decode cX9_needPromise 1 = .ok (.getfield 39, 3) := by decide +kernel
theorem dX9_needPromise_4 : decode cX9_needPromise 4 = .ok (.iload_n 1, 1) := by decide +kernel
theorem dX9_needPromise_5 : decode cX9_needPromise 5 = .ok (.invokevirtual 244, 3) := by decide +kernel
theorem dX9_needPromise_8 : decode cX9_needPromise 8 = .ok (.ifCond .ne 13, 3) := by decide +kernel
theorem dX9_needPromise_11 : decode cX9_needPromise 11 = .ok (.new 65, 3) := by decide +kernel
theorem dX9_needPromise_14 : decode cX9_needPromise 14 = .ok (.dup, 1) := by decide +kernel
theorem dX9_needPromise_15 : decode cX9_needPromise 15 = .ok (.ldc 245, 2) := by decide +kernel
theorem dX9_needPromise_17 : decode cX9_needPromise 17 = .ok (.invokespecial 69, 3) := by decide +kernel
theorem dX9_needPromise_20 : decode cX9_needPromise 20 = .ok (.athrow, 1) := by decide +kernel
theorem dX9_needPromise_21 : decode cX9_needPromise 21 = .ok (.return_, 1) := by decide +kernel
theorem dX9_needChannel_0 : decode cX9_needChannel 0 = .ok (.aload_n 0, 1) := by decide +kernel
theorem dX9_needChannel_1 : decode cX9_needChannel 1 = .ok (.getfield 44, 3) := by decide +kernel
theorem dX9_needChannel_4 : decode cX9_needChannel 4 = .ok (.iload_n 1, 1) := by decide +kernel
theorem dX9_needChannel_5 : decode cX9_needChannel 5 = .ok (.invokevirtual 247, 3) := by decide +kernel
theorem dX9_needChannel_8 : decode cX9_needChannel 8 = .ok (.ifCond .ne 13, 3) := by decide +kernel
theorem dX9_needChannel_11 : decode cX9_needChannel 11 = .ok (.new 65, 3) := by decide +kernel
theorem dX9_needChannel_14 : decode cX9_needChannel 14 = .ok (.dup, 1) := by decide +kernel
theorem dX9_needChannel_15 : decode cX9_needChannel 15 = .ok (.ldc 248, 2) := by decide +kernel
theorem dX9_needChannel_17 : decode cX9_needChannel 17 = .ok (.invokespecial 69, 3) := by decide +kernel
theorem dX9_needChannel_20 : decode cX9_needChannel 20 = .ok (.athrow, 1) := by decide +kernel
theorem dX9_needChannel_21 : decode cX9_needChannel 21 = .ok (.return_, 1) := by decide +kernel
end
section
theorem dX10_init_0 : decode cX10_init 0 = .ok (.aload_n 0, 1) := by decide +kernel
theorem dX10_init_1 : decode cX10_init 1 = .ok (.invokespecial 1, 3) := by decide +kernel
theorem dX10_init_4 : decode cX10_init 4 = .ok (.aload_n 0, 1) := by decide +kernel
theorem dX10_init_5 : decode cX10_init 5 = .ok (.bipush 24, 2) := by decide +kernel
theorem dX10_init_7 : decode cX10_init 7 = .ok (.newarray .int, 2) := by decide +kernel
theorem dX10_init_9 : decode cX10_init 9 = .ok (.putfield 7, 3) := by decide +kernel
theorem dX10_init_12 : decode cX10_init 12 = .ok (.aload_n 0, 1) := by decide +kernel
theorem dX10_init_13 : decode cX10_init 13 = .ok (.sipush 192, 3) := by decide +kernel
theorem dX10_init_16 : decode cX10_init 16 = .ok (.newarray .int, 2) := by decide +kernel
theorem dX10_init_18 : decode cX10_init 18 = .ok (.putfield 13, 3) := by decide +kernel
theorem dX10_init_21 : decode cX10_init 21 = .ok (.aload_n 0, 1) := by decide +kernel
theorem dX10_init_22 : decode cX10_init 22 = .ok (.sipush 192, 3) := by decide +kernel
theorem dX10_init_25 : decode cX10_init 25 = .ok (.newarray .int, 2) := by decide +kernel
theorem dX10_init_27 : decode cX10_init 27 = .ok (.putfield 16, 3) := by decide +kernel
theorem dX10_init_30 : decode cX10_init 30 = .ok (.aload_n 0, 1) := by decide +kernel
theorem dX10_init_31 : decode cX10_init 31 = .ok (.sipush 192, 3) := by decide +kernel
theorem dX10_init_34 : decode cX10_init 34 = .ok (.newarray .int, 2) := by decide +kernel
theorem dX10_init_36 : decode cX10_init 36 = .ok (.putfield 19, 3) := by decide +kernel
theorem dX10_init_39 : decode cX10_init 39 = .ok (.aload_n 0, 1) := by decide +kernel
theorem dX10_init_40 : decode cX10_init 40 = .ok (.bipush 8, 2) := by decide +kernel
theorem dX10_init_42 : decode cX10_init 42 = .ok (.newarray .int, 2) := by decide +kernel
theorem dX10_init_44 : decode cX10_init 44 = .ok (.putfield 22, 3) := by decide +kernel
theorem dX10_init_47 : decode cX10_init 47 = .ok (.aload_n 0, 1) := by decide +kernel
theorem dX10_init_48 : decode cX10_init 48 = .ok (.bipush 8, 2) := by decide +kernel
theorem dX10_init_50 : decode cX10_init 50 = .ok (.newarray .int, 2) := by decide +kernel
theorem dX10_init_52 : decode cX10_init 52 = .ok (.putfield 25, 3) := by decide +kernel
theorem dX10_init_55 : decode cX10_init 55 = .ok (.aload_n 0, 1) := by decide +kernel
theorem dX10_init_56 : decode cX10_init 56 = .ok (.bipush 8, 2) := by decide +kernel
theorem dX10_init_58 : decode cX10_init 58 = .ok (.newarray .int, 2) := by decide +kernel
theorem dX10_init_60 : decode cX10_init 60 = .ok (.putfield 28, 3) := by decide +kernel
theorem dX10_init_63 : decode cX10_init 63 = .ok (.aload_n 0, 1) := by decide +kernel
theorem dX10_init_64 : decode cX10_init 64 = .ok (.sipush 192, 3) := by decide +kernel
theorem dX10_init_67 : decode cX10_init 67 = .ok (.newarray .int, 2) := by decide +kernel
theorem dX10_init_69 : decode cX10_init 69 = .ok (.putfield 31, 3) := by decide +kernel
theorem dX10_init_72 : decode cX10_init 72 = .ok (.aload_n 0, 1) := by decide +kernel
theorem dX10_init_73 : decode cX10_init 73 = .ok (.sipush 192, 3) := by decide +kernel
theorem dX10_init_76 : decode cX10_init 76 = .ok (.newarray .int, 2) := by decide +kernel
theorem dX10_init_78 : decode cX10_init 78 = .ok (.putfield 34, 3) := by decide +kernel
theorem dX10_init_81 : decode cX10_init 81 = .ok (.aload_n 0, 1) := by decide +kernel
theorem dX10_init_82 : decode cX10_init 82 = .ok (.sipush 192, 3) := by decide +kernel
theorem dX10_init_85 : decode cX10_init 85 = .ok (.newarray .int, 2) := by decide +kernel
theorem dX10_init_87 : decode cX10_init 87 = .ok (.putfield 37, 3) := by decide +kernel
theorem dX10_init_90 : decode cX10_init 90 = .ok (.aload_n 0, 1) := by decide +kernel
theorem dX10_init_91 : decode cX10_init 91 = .ok (.bipush 8, 2) := by decide +kernel
theorem dX10_init_93 : decode cX10_init 93 = .ok (.newarray .boolean, 2) := by decide +kernel
theorem dX10_init_95 : decode cX10_init 95 = .ok (.putfield 40, 3) := by decide +kernel
theorem dX10_init_98 : decode cX10_init 98 = .ok (.aload_n 0, 1) := by decide +kernel
theorem dX10_init_99 : decode cX10_init 99 = .ok (.bipush 8, 2) := by decide +kernel
theorem dX10_init_101 : decode cX10_init 101 = .ok (.newarray .int, 2) := by decide +kernel
theorem dX10_init_103 : decode cX10_init 103 = .ok (.putfield 44, 3) := by decide +kernel
theorem dX10_init_106 : decode cX10_init 106 = .ok (.aload_n 0, 1) := by decide +kernel
theorem dX10_init_107 : decode cX10_init 107 = .ok (.bipush 8, 2) := by decide +kernel
theorem dX10_init_109 : decode cX10_init 109 = .ok (.newarray .int, 2) := by decide +kernel
theorem dX10_init_111 : decode cX10_init 111 = .ok (.putfield 47, 3) := by decide +kernel
theorem dX10_init_114 : decode cX10_init 114 = .ok (.aload_n 0, 1) := by decide +kernel
theorem dX10_init_115 : decode cX10_init 115 = .ok (.bipush 8, 2) := by decide +kernel
theorem dX10_init_117 : decode cX10_init 117 = .ok (.newarray .int, 2) := by decide +kernel
theorem dX10_init_119 : decode cX10_init 119 = .ok (.putfield 50, 3) := by decide +kernel
theorem dX10_init_122 : decode cX10_init 122 = .ok (.aload_n 0, 1) := by decide +kernel
theorem dX10_init_123 : decode cX10_init 123 = .ok (.bipush 8, 2) := by decide +kernel
theorem dX10_init_125 : decode cX10_init 125 = .ok (.newarray .long, 2) := by decide +kernel
theorem dX10_init_127 : decode cX10_init 127 = .ok (.putfield 53, 3) := by decide +kernel
theorem dX10_init_130 : decode cX10_init 130 = .ok (.aload_n 0, 1) := by decide +kernel
theorem dX10_init_131 : decode cX10_init 131 = .ok (.bipush 8, 2) := by decide +kernel
theorem dX10_init_133 : decode cX10_init 133 = .ok (.newarray .long, 2) := by decide +kernel
theorem dX10_init_135 : decode cX10_init 135 = .ok (.putfield 57, 3) := by decide +kernel
theorem dX10_init_138 : decode cX10_init 138 = .ok (.aload_n 0, 1) := by decide +kernel
theorem dX10_init_139 : decode cX10_init 139 = .ok (.bipush 8, 2) := by decide +kernel
theorem dX10_init_141 : decode cX10_init 141 = .ok (.newarray .long, 2) := by decide +kernel
theorem dX10_init_143 : decode cX10_init 143 = .ok (.putfield 60, 3) := by decide +kernel
theorem dX10_init_146 : decode cX10_init 146 = .ok (.aload_n 0, 1) := by decide +kernel
theorem dX10_init_147 : decode cX10_init 147 = .ok (.bipush 8, 2) := by decide +kernel
theorem dX10_init_149 : decode cX10_init 149 = .ok (.newarray .long, 2) := by decide +kernel
theorem dX10_init_151 : decode cX10_init 151 = .ok (.putfield 63, 3) := by decide +kernel
theorem dX10_init_154 : decode cX10_init 154 = .ok (.aload_n 0, 1) := by decide +kernel
theorem dX10_init_155 : decode cX10_init 155 = .ok (.sipush 400, 3) := by decide +kernel
theorem dX10_init_158 : decode cX10_init 158 = .ok (.newarray .int, 2) := by decide +kernel
theorem dX10_init_160 : decode cX10_init 160 = .ok (.putfield 66, 3) := by decide +kernel
theorem dX10_init_163 : decode cX10_init 163 = .ok (.aload_n 0, 1) := by decide +kernel
theorem dX10_init_164 : decode cX10_init 164 = .ok (.sipush 400, 3) := by decide +kernel
theorem dX10_init_167 : decode cX10_init 167 = .ok (.newarray .long, 2) := by decide +kernel
theorem dX10_init_169 : decode cX10_init 169 = .ok (.putfield 69, 3) := by decide +kernel
theorem dX10_init_172 : decode cX10_init 172 = .ok (.aload_n 0, 1) := by decide +kernel
theorem dX10_init_173 : decode cX10_init 173 = .ok (.sipush 400, 3) := by decide +kernel
theorem dX10_init_176 : decode cX10_init 176 = .ok (.newarray .int, 2) := by decide +kernel
theorem dX10_init_178 : decode cX10_init 178 = .ok (.putfield 72, 3) := by decide +kernel
theorem dX10_init_181 : decode cX10_init 181 = .ok (.aload_n 0, 1) := by decide +kernel
theorem dX10_init_182 : decode cX10_init 182 = .ok (.bipush 32, 2) := by decide +kernel
theorem dX10_init_184 : decode cX10_init 184 = .ok (.newarray .int, 2) := by decide +kernel
theorem dX10_init_186 : decode cX10_init 186 = .ok (.putfield 75, 3) := by decide +kernel
theorem dX10_init_189 : decode cX10_init 189 = .ok (.aload_n 0, 1) := by decide +kernel
theorem dX10_init_190 : decode cX10_init 190 = .ok (.bipush 32, 2) := by decide +kernel
theorem dX10_init_192 : decode cX10_init 192 = .ok (.newarray .int, 2) := by decide +kernel
theorem dX10_init_194 : decode cX10_init 194 = .ok (.putfield 78, 3) := by decide +kernel
theorem dX10_init_197 : decode cX10_init 197 = .ok (.aload_n 0, 1) := by decide +kernel
theorem dX10_init_198 : decode cX10_init 198 = .ok (.bipush 32, 2) := by decide +kernel
theorem dX10_init_200 : decode cX10_init 200 = .ok (.newarray .int, 2) := by decide +kernel
theorem dX10_init_202 : decode cX10_init 202 = .ok (.putfield 81, 3) := by decide +kernel
theorem dX10_init_205 : decode cX10_init 205 = .ok (.aload_n 0, 1) := by decide +kernel
theorem dX10_init_206 : decode cX10_init 206 = .ok (.bipush 32, 2) := by decide +kernel
theorem dX10_init_208 : decode cX10_init 208 = .ok (.newarray .boolean, 2) := by decide +kernel
theorem dX10_init_210 : decode cX10_init 210 = .ok (.putfield 84, 3) := by decide +kernel
theorem dX10_init_213 : decode cX10_init 213 = .ok (.aload_n 0, 1) := by decide +kernel
theorem dX10_init_214 : decode cX10_init 214 = .ok (.bipush 32, 2) := by decide +kernel
theorem dX10_init_216 : decode cX10_init 216 = .ok (.newarray .int, 2) := by decide +kernel
theorem dX10_init_218 : decode cX10_init 218 = .ok (.putfield 87, 3) := by decide +kernel
theorem dX10_init_221 : decode cX10_init 221 = .ok (.aload_n 0, 1) := by decide +kernel
theorem dX10_init_222 : decode cX10_init 222 = .ok (.sipush 192, 3) := by decide +kernel
theorem dX10_init_225 : decode cX10_init 225 = .ok (.newarray .int, 2) := by decide +kernel
theorem dX10_init_227 : decode cX10_init 227 = .ok (.putfield 90, 3) := by decide +kernel
theorem dX10_init_230 : decode cX10_init 230 = .ok (.aload_n 0, 1) := by decide +kernel
theorem dX10_init_231 : decode cX10_init 231 = .ok (.bipush 16, 2) := by decide +kernel
theorem dX10_init_233 : decode cX10_init 233 = .ok (.newarray .int, 2) := by decide +kernel
theorem dX10_init_235 : decode cX10_init 235 = .ok (.putfield 93, 3) := by decide +kernel
theorem dX10_init_238 : decode cX10_init 238 = .ok (.aload_n 0, 1) := by decide +kernel
theorem dX10_init_239 : decode cX10_init 239 = .ok (.bipush 16, 2) := by decide +kernel
theorem dX10_init_241 : decode cX10_init 241 = .ok (.newarray .int, 2) := by decide +kernel
theorem dX10_init_243 : decode cX10_init 243 = .ok (.putfield 96, 3) := by decide +kernel
theorem dX10_init_246 : decode cX10_init 246 = .ok (.aload_n 0, 1) := by decide +kernel
theorem dX10_init_247 : decode cX10_init 247 = .ok (.bipush 96, 2) := by decide +kernel
theorem dX10_init_249 : decode cX10_init 249 = .ok (.newarray .int, 2) := by decide +kernel
theorem dX10_init_251 : decode cX10_init 251 = .ok (.putfield 99, 3) := by decide +kernel
theorem dX10_init_254 : decode cX10_init 254 = .ok (.aload_n 0, 1) := by decide +kernel
theorem dX10_init_255 : decode cX10_init 255 = .ok (.bipush 96, 2) := by decide +kernel
theorem dX10_init_257 : decode cX10_init 257 = .ok (.newarray .int, 2) := by decide +kernel
theorem dX10_init_259 : decode cX10_init 259 = .ok (.putfield 102, 3) := by decide +kernel
theorem dX10_init_262 : decode cX10_init 262 = .ok (.aload_n 0, 1) := by decide +kernel
theorem dX10_init_263 : decode cX10_init 263 = .ok (.bipush 96, 2) := by decide +kernel
theorem dX10_init_265 : decode cX10_init 265 = .ok (.newarray .int, 2) := by decide +kernel
theorem dX10_init_267 : decode cX10_init 267 = .ok (.putfield 105, 3) := by decide +kernel
theorem dX10_init_270 : decode cX10_init 270 = .ok (.aload_n 0, 1) := by decide +kernel
theorem dX10_init_271 : decode cX10_init 271 = .ok (.sipush 300, 3) := by decide +kernel
theorem dX10_init_274 : decode cX10_init 274 = .ok (.newarray .int, 2) := by decide +kernel
theorem dX10_init_276 : decode cX10_init 276 = .ok (.putfield 108, 3) := by decide +kernel
theorem dX10_init_279 : decode cX10_init 279 = .ok (.aload_n 0, 1) := by decide +kernel
theorem dX10_init_280 : decode cX10_init 280 = .ok (.sipush 300, 3) := by decide +kernel
theorem dX10_init_283 : decode cX10_init 283 = .ok (.newarray .int, 2) := by decide +kernel
theorem dX10_init_285 : decode cX10_init 285 = .ok (.putfield 111, 3) := by decide +kernel
theorem dX10_init_288 : decode cX10_init 288 = .ok (.aload_n 0, 1) := by decide +kernel
theorem dX10_init_289 : decode cX10_init 289 = .ok (.sipush 300, 3) := by decide +kernel
theorem dX10_init_292 : decode cX10_init 292 = .ok (.newarray .int, 2) := by decide +kernel
theorem dX10_init_294 : decode cX10_init 294 = .ok (.putfield 114, 3) := by decide +kernel
theorem dX10_init_297 : decode cX10_init 297 = .ok (.aload_n 0, 1) := by decide +kernel
theorem dX10_init_298 : decode cX10_init 298 = .ok (.bipush 80, 2) := by decide +kernel
theorem dX10_init_300 : decode cX10_init 300 = .ok (.newarray .int, 2) := by decide +kernel
theorem dX10_init_302 : decode cX10_init 302 = .ok (.putfield 117, 3) := by decide +kernel
theorem dX10_init_305 : decode cX10_init 305 = .ok (.aload_n 0, 1) := by decide +kernel
theorem dX10_init_306 : decode cX10_init 306 = .ok (.bipush 80, 2) := by decide +kernel
theorem dX10_init_308 : decode cX10_init 308 = .ok (.newarray .int, 2) := by decide +kernel
theorem dX10_init_310 : decode cX10_init 310 = .ok (.putfield 120, 3) := by decide +kernel
theorem dX10_init_313 : decode cX10_init 313 = .ok (.aload_n 0, 1) := by decide +kernel
theorem dX10_init_314 : decode cX10_init 314 = .ok (.bipush 80, 2) := by decide +kernel
theorem dX10_init_316 : decode cX10_init 316 = .ok (.newarray .int, 2) := by decide +kernel
theorem dX10_init_318 : decode cX10_init 318 = .ok (.putfield 123, 3) := by decide +kernel
theorem dX10_init_321 : decode cX10_init 321 = .ok (.aload_n 0, 1) := by decide +kernel
theorem dX10_init_322 : decode cX10_init 322 = .ok (.bipush 80, 2) := by decide +kernel
theorem dX10_init_324 : decode cX10_init 324 = .ok (.newarray .int, 2) := by decide +kernel
theorem dX10_init_326 : decode cX10_init 326 = .ok (.putfield 126, 3) := by decide +kernel
theorem dX10_init_329 : decode cX10_init 329 = .ok (.aload_n 0, 1) := by decide +kernel
theorem dX10_init_330 : decode cX10_init 330 = .ok (.bipush 80, 2) := by decide +kernel
theorem dX10_init_332 : decode cX10_init 332 = .ok (.newarray .boolean, 2) := by decide +kernel
theorem dX10_init_334 : decode cX10_init 334 = .ok (.putfield 129, 3) := by decide +kernel
theorem dX10_init_337 : decode cX10_init 337 = .ok (.aload_n 0, 1) := by decide +kernel
theorem dX10_init_338 : decode cX10_init 338 = .ok (.iload_n 1, 1) := by decide +kernel
theorem dX10_init_339 : decode cX10_init 339 = .ok (.iconst 1, 1) := by decide +kernel
theorem dX10_init_340 : decode cX10_init 340 = .ok (.if_icmp .lt 9, 3) := by decide +kernel
theorem dX10_init_343 : decode cX10_init 343 = .ok (.iload_n 1, 1) := by decide +kernel
theorem dX10_init_344 : decode cX10_init 344 = .ok (.bipush 8, 2) := by decide +kernel
theorem dX10_init_346 : decode cX10_init 346 = .ok (.if_icmp .le 7, 3) := by decide +kernel
theorem dX10_init_349 : decode cX10_init 349 = .ok (.iconst 1, 1) := by decide +kernel
theorem dX10_init_350 : decode cX10_init 350 = .ok (.goto 4, 3) := by decide +kernel
theorem dX10_init_353 : decode cX10_init 353 = .ok (.iload_n 1, 1) := by decide +kernel
theorem dX10_init_354 : decode cX10_init 354 = .ok (.putfield 132, 3) := by decide +kernel
theorem dX10_init_357 : decode cX10_init 357 = .ok (.iconst 0, 1) := by decide +kernel
theorem dX10_init_358 : decode cX10_init 358 = .ok (.istore_n 2, 1) := by decide +kernel
theorem dX10_init_359 : decode cX10_init 359 = .ok (.iload_n 2, 1) := by decide +kernel
theorem dX10_init_360 : decode cX10_init 360 = .ok (.bipush 8, 2) := by decide +kernel
theorem dX10_init_362 : decode cX10_init 362 = .ok (.if_icmp .ge 16, 3) := by decide +kernel
theorem dX10_init_365 : decode cX10_init 365 = .ok (.aload_n 0, 1) := by decide +kernel
theorem dX10_init_366 : decode cX10_init 366 = .ok (.getfield 22, 3) := by decide +kernel
theorem dX10_init_369 : decode cX10_init 369 = .ok (.iload_n 2, 1) := by decide +kernel
theorem dX10_init_370 : decode cX10_init 370 = .ok (.iconst 1, 1) := by decide +kernel
theorem dX10_init_371 : decode cX10_init 371 = .ok (.iastore, 1) := by decide +kernel
theorem dX10_init_372 : decode cX10_init 372 = .ok (.iinc 2 1, 3) := by decide +kernel
theorem dX10_init_375 : decode cX10_init 375 = .ok (.goto (-16), 3) := by decide +kernel
theorem dX10_init_378 : decode cX10_init 378 = .ok (.return_, 1) := by decide +kernel
theorem dX10_thrown_0 : decode cX10_thrown 0 = .ok (.aload_n 0, 1) := by decide +kernel
theorem dX10_thrown_1 : decode cX10_thrown 1 = .ok (.getfield 136, 3) := by decide +kernel
theorem dX10_thrown_4 : decode cX10_thrown 4 = .ok (.ireturn, 1) := by decide +kernel
theorem dX10_throwing_0 : decode cX10_throwing 0 = .ok (.aload_n 0, 1) := by decide +kernel
theorem dX10_throwing_1 : decode cX10_throwing 1 = .ok (.iload_n 1, 1) := by decide +kernel
theorem dX10_throwing_2 : decode cX10_throwing 2 = .ok (.ifCond .eq 7, 3) := by decide +kernel
theorem dX10_throwing_5 : decode cX10_throwing 5 = .ok (.iconst 1, 1) := by decide +kernel
theorem dX10_throwing_6 : decode cX10_throwing 6 = .ok (.goto 12, 3) := by decide +kernel
theorem dX10_throwing_9 : decode cX10_throwing 9 = .ok (.iload_n 2, 1) := by decide +kernel
theorem dX10_throwing_10 : decode cX10_throwing 10 = .ok (.ifCond .eq 7, 3) := by decide +kernel
theorem dX10_throwing_13 : decode cX10_throwing 13 = .ok (.iconst 2, 1) := by decide +kernel
theorem dX10_throwing_14 : decode cX10_throwing 14 = .ok (.goto 4, 3) := by decide +kernel
theorem dX10_throwing_17 : decode cX10_throwing 17 = .ok (.iconst 0, 1) := by decide +kernel
theorem dX10_throwing_18 : decode cX10_throwing 18 = .ok (.putfield 136, 3) := by decide +kernel
theorem dX10_throwing_21 : decode cX10_throwing 21 = .ok (.aload_n 0, 1) := by decide +kernel
theorem dX10_throwing_22 : decode cX10_throwing 22 = .ok (.getfield 136, 3) := by decide +kernel
theorem dX10_throwing_25 : decode cX10_throwing 25 = .ok (.ifCond .le 7, 3) := by decide +kernel
theorem dX10_throwing_28 : decode cX10_throwing 28 = .ok (.iconst 1, 1) := by decide +kernel
theorem dX10_throwing_29 : decode cX10_throwing 29 = .ok (.goto 4, 3) := by decide +kernel
theorem dX10_throwing_32 : decode cX10_throwing 32 = .ok (.iconst 0, 1) := by decide +kernel
theorem dX10_throwing_33 : decode cX10_throwing 33 = .ok (.ireturn, 1) := by decide +kernel
theorem dX10_in_0 : decode cX10_in 0 = .ok (.lload_n 0, 1) := by decide +kernel
theorem dX10_in_1 : decode cX10_in 1 = .ok (.lload_n 2, 1) := by decide +kernel
theorem dX10_in_2 : decode cX10_in 2 = .ok (.lcmp, 1) := by decide +kernel
theorem dX10_in_3 : decode cX10_in 3 = .ok (.ifCond .lt 14, 3) := by decide +kernel
theorem dX10_in_6 : decode cX10_in 6 = .ok (.lload_n 0, 1) := by decide +kernel
theorem dX10_in_7 : decode cX10_in 7 = .ok (.lload 4, 2) := by decide +kernel
theorem dX10_in_9 : decode cX10_in 9 = .ok (.lcmp, 1) := by decide +kernel
theorem dX10_in_10 : decode cX10_in 10 = .ok (.ifCond .gt 7, 3) := by decide +kernel
theorem dX10_in_13 : decode cX10_in 13 = .ok (.iconst 1, 1) := by decide +kernel
theorem dX10_in_14 : decode cX10_in 14 = .ok (.goto 4, 3) := by decide +kernel
theorem dX10_in_17 : decode cX10_in 17 = .ok (.iconst 0, 1) := by decide +kernel
theorem dX10_in_18 : decode cX10_in 18 = .ok (.ireturn, 1) := by decide +kernel
theorem dX10_isTask_0 : decode cX10_isTask 0 = .ok (.iload_n 1, 1) := by decide +kernel
theorem dX10_isTask_1 : decode cX10_isTask 1 = .ok (.i2l, 1) := by decide +kernel
theorem dX10_isTask_2 : decode cX10_isTask 2 = .ok (.lconst 0, 1) := by decide +kernel
theorem dX10_isTask_3 : decode cX10_isTask 3 = .ok (.aload_n 0, 1) := by decide +kernel
theorem dX10_isTask_4 : decode cX10_isTask 4 = .ok (.getfield 139, 3) := by decide +kernel
theorem dX10_isTask_7 : decode cX10_isTask 7 = .ok (.iconst 1, 1) := by decide +kernel
theorem dX10_isTask_8 : decode cX10_isTask 8 = .ok (.isub, 1) := by decide +kernel
theorem dX10_isTask_9 : decode cX10_isTask 9 = .ok (.i2l, 1) := by decide +kernel
theorem dX10_isTask_10 : decode cX10_isTask 10 = .ok (.invokestatic 142, 3) := by decide +kernel
theorem dX10_isTask_13 : decode cX10_isTask 13 = .ok (.ireturn, 1) := by decide +kernel
theorem dX10_isLoop_0 : decode cX10_isLoop 0 = .ok (.iload_n 1, 1) := by decide +kernel
theorem dX10_isLoop_1 : decode cX10_isLoop 1 = .ok (.i2l, 1) := by decide +kernel
theorem dX10_isLoop_2 : decode cX10_isLoop 2 = .ok (.lconst 0, 1) := by decide +kernel
theorem dX10_isLoop_3 : decode cX10_isLoop 3 = .ok (.aload_n 0, 1) := by decide +kernel
theorem dX10_isLoop_4 : decode cX10_isLoop 4 = .ok (.getfield 132, 3) := by decide +kernel
theorem dX10_isLoop_7 : decode cX10_isLoop 7 = .ok (.iconst 1, 1) := by decide +kernel
theorem dX10_isLoop_8 : decode cX10_isLoop 8 = .ok (.isub, 1) := by decide +kernel
theorem dX10_isLoop_9 : decode cX10_isLoop 9 = .ok (.i2l, 1) := by decide +kernel
theorem dX10_isLoop_10 : decode cX10_isLoop 10 = .ok (.invokestatic 142, 3) := by decide +kernel
theorem dX10_isLoop_13 : decode cX10_isLoop 13 = .ok (.ireturn, 1) := by decide +kernel
theorem dX10_isPromise_0 : decode cX10_isPromise 0 = .ok (.iload_n 1, 1) := by decide +kernel
theorem dX10_isPromise_1 : decode cX10_isPromise 1 = .ok (.i2l, 1) := by decide +kernel
theorem dX10_isPromise_2 : decode cX10_isPromise 2 = .ok (.lconst 0, 1) := by decide +kernel
theorem dX10_isPromise_3 : decode cX10_isPromise 3 = .ok (.aload_n 0, 1) := by decide +kernel
theorem dX10_isPromise_4 : decode cX10_isPromise 4 = .ok (.getfield 146, 3) := by decide +kernel
theorem dX10_isPromise_7 : decode cX10_isPromise 7 = .ok (.iconst 1, 1) := by decide +kernel
theorem dX10_isPromise_8 : decode cX10_isPromise 8 = .ok (.isub, 1) := by decide +kernel
theorem dX10_isPromise_9 : decode cX10_isPromise 9 = .ok (.i2l, 1) := by decide +kernel
theorem dX10_isPromise_10 : decode cX10_isPromise 10 = .ok (.invokestatic 142, 3) := by decide +kernel
theorem dX10_isPromise_13 : decode cX10_isPromise 13 = .ok (.ireturn, 1) := by decide +kernel
theorem dX10_isChannel_0 : decode cX10_isChannel 0 = .ok (.iload_n 1, 1) := by decide +kernel
theorem dX10_isChannel_1 : decode cX10_isChannel 1 = .ok (.i2l, 1) := by decide +kernel
theorem dX10_isChannel_2 : decode cX10_isChannel 2 = .ok (.lconst 0, 1) := by decide +kernel
theorem dX10_isChannel_3 : decode cX10_isChannel 3 = .ok (.aload_n 0, 1) := by decide +kernel
theorem dX10_isChannel_4 : decode cX10_isChannel 4 = .ok (.getfield 149, 3) := by decide +kernel
theorem dX10_isChannel_7 : decode cX10_isChannel 7 = .ok (.iconst 1, 1) := by decide +kernel
theorem dX10_isChannel_8 : decode cX10_isChannel 8 = .ok (.isub, 1) := by decide +kernel
theorem dX10_isChannel_9 : decode cX10_isChannel 9 = .ok (.i2l, 1) := by decide +kernel
theorem dX10_isChannel_10 : decode cX10_isChannel 10 = .ok (.invokestatic 142, 3) := by decide +kernel
theorem dX10_isChannel_13 : decode cX10_isChannel 13 = .ok (.ireturn, 1) := by decide +kernel
theorem dX10_log_0 : decode cX10_log 0 = .ok (.aload_n 0, 1) := by decide +kernel
theorem dX10_log_1 : decode cX10_log 1 = .ok (.getfield 108, 3) := by decide +kernel
theorem dX10_log_4 : decode cX10_log 4 = .ok (.aload_n 0, 1) := by decide +kernel
theorem dX10_log_5 : decode cX10_log 5 = .ok (.getfield 152, 3) := by decide +kernel
theorem dX10_log_8 : decode cX10_log 8 = .ok (.sipush 300, 3) := by decide +kernel
theorem dX10_log_11 : decode cX10_log 11 = .ok (.irem, 1) := by decide +kernel
theorem dX10_log_12 : decode cX10_log 12 = .ok (.iload_n 1, 1) := by decide +kernel
theorem dX10_log_13 : decode cX10_log 13 = .ok (.iastore, 1) := by decide +kernel
theorem dX10_log_14 : decode cX10_log 14 = .ok (.aload_n 0, 1) := by decide +kernel
theorem dX10_log_15 : decode cX10_log 15 = .ok (.getfield 111, 3) := by decide +kernel
theorem dX10_log_18 : decode cX10_log 18 = .ok (.aload_n 0, 1) := by decide +kernel
theorem dX10_log_19 : decode cX10_log 19 = .ok (.getfield 152, 3) := by decide +kernel
theorem dX10_log_22 : decode cX10_log 22 = .ok (.sipush 300, 3) := by decide +kernel
theorem dX10_log_25 : decode cX10_log 25 = .ok (.irem, 1) := by decide +kernel
theorem dX10_log_26 : decode cX10_log 26 = .ok (.iload_n 2, 1) := by decide +kernel
theorem dX10_log_27 : decode cX10_log 27 = .ok (.iastore, 1) := by decide +kernel
theorem dX10_log_28 : decode cX10_log 28 = .ok (.aload_n 0, 1) := by decide +kernel
theorem dX10_log_29 : decode cX10_log 29 = .ok (.getfield 114, 3) := by decide +kernel
theorem dX10_log_32 : decode cX10_log 32 = .ok (.aload_n 0, 1) := by decide +kernel
theorem dX10_log_33 : decode cX10_log 33 = .ok (.getfield 152, 3) := by decide +kernel
theorem dX10_log_36 : decode cX10_log 36 = .ok (.sipush 300, 3) := by decide +kernel
theorem dX10_log_39 : decode cX10_log 39 = .ok (.irem, 1) := by decide +kernel
theorem dX10_log_40 : decode cX10_log 40 = .ok (.iload_n 3, 1) := by decide +kernel
theorem dX10_log_41 : decode cX10_log 41 = .ok (.iastore, 1) := by decide +kernel
theorem dX10_log_42 : decode cX10_log 42 = .ok (.aload_n 0, 1) := by decide +kernel
theorem dX10_log_43 : decode cX10_log 43 = .ok (.dup, 1) := by decide +kernel
theorem dX10_log_44 : decode cX10_log 44 = .ok (.getfield 152, 3) := by decide +kernel
theorem dX10_log_47 : decode cX10_log 47 = .ok (.iconst 1, 1) := by decide +kernel
theorem dX10_log_48 : decode cX10_log 48 = .ok (.iadd, 1) := by decide +kernel
theorem dX10_log_49 : decode cX10_log 49 = .ok (.putfield 152, 3) := by decide +kernel
theorem dX10_log_52 : decode cX10_log 52 = .ok (.return_, 1) := by decide +kernel
theorem dX10_become_0 : decode cX10_become 0 = .ok (.aload_n 0, 1) := by decide +kernel
theorem dX10_become_1 : decode cX10_become 1 = .ok (.getfield 22, 3) := by decide +kernel
theorem dX10_become_4 : decode cX10_become 4 = .ok (.iload_n 1, 1) := by decide +kernel
theorem dX10_become_5 : decode cX10_become 5 = .ok (.iload_n 2, 1) := by decide +kernel
theorem dX10_become_6 : decode cX10_become 6 = .ok (.iastore, 1) := by decide +kernel
theorem dX10_become_7 : decode cX10_become 7 = .ok (.aload_n 0, 1) := by decide +kernel
theorem dX10_become_8 : decode cX10_become 8 = .ok (.iload_n 1, 1) := by decide +kernel
theorem dX10_become_9 : decode cX10_become 9 = .ok (.bipush 7, 2) := by decide +kernel
theorem dX10_become_11 : decode cX10_become 11 = .ok (.iload_n 2, 1) := by decide +kernel
theorem dX10_become_12 : decode cX10_become 12 = .ok (.invokevirtual 155, 3) := by decide +kernel
theorem dX10_become_15 : decode cX10_become 15 = .ok (.return_, 1) := by decide +kernel
theorem dX10_task_0 : decode cX10_task 0 = .ok (.aload_n 0, 1) := by decide +kernel
theorem dX10_task_1 : decode cX10_task 1 = .ok (.aload_n 0, 1) := by decide +kernel
theorem dX10_task_2 : decode cX10_task 2 = .ok (.getfield 139, 3) := by decide +kernel
theorem dX10_task_5 : decode cX10_task 5 = .ok (.bipush 24, 2) := by decide +kernel
theorem dX10_task_7 : decode cX10_task 7 = .ok (.if_icmp .ne 7, 3) := by decide +kernel
theorem dX10_task_10 : decode cX10_task 10 = .ok (.iconst 1, 1) := by decide +kernel
theorem dX10_task_11 : decode cX10_task 11 = .ok (.goto 4, 3) := by decide +kernel
theorem dX10_task_14 : decode cX10_task 14 = .ok (.iconst 0, 1) := by decide +kernel
theorem dX10_task_15 : decode cX10_task 15 = .ok (.iconst 0, 1) := by decide +kernel
theorem dX10_task_16 : decode cX10_task 16 = .ok (.invokevirtual 159, 3) := by decide +kernel
theorem dX10_task_19 : decode cX10_task 19 = .ok (.ifCond .eq 5, 3) := by decide +kernel
theorem dX10_task_22 : decode cX10_task 22 = .ok (.iconst 0, 1) := by decide +kernel
theorem dX10_task_23 : decode cX10_task 23 = .ok (.ireturn, 1) := by decide +kernel
theorem dX10_task_24 : decode cX10_task 24 = .ok (.aload_n 0, 1) := by decide +kernel
theorem dX10_task_25 : decode cX10_task 25 = .ok (.dup, 1) := by decide +kernel
theorem dX10_task_26 : decode cX10_task 26 = .ok (.getfield 139, 3) := by decide +kernel
theorem dX10_task_29 : decode cX10_task 29 = .ok (.iconst 1, 1) := by decide +kernel
theorem dX10_task_30 : decode cX10_task 30 = .ok (.iadd, 1) := by decide +kernel
theorem dX10_task_31 : decode cX10_task 31 = .ok (.putfield 139, 3) := by decide +kernel
theorem dX10_task_34 : decode cX10_task 34 = .ok (.aload_n 0, 1) := by decide +kernel
theorem dX10_task_35 : decode cX10_task 35 = .ok (.getfield 139, 3) := by decide +kernel
theorem dX10_task_38 : decode cX10_task 38 = .ok (.iconst 1, 1) := by decide +kernel
theorem dX10_task_39 : decode cX10_task 39 = .ok (.isub, 1) := by decide +kernel
theorem dX10_task_40 : decode cX10_task 40 = .ok (.ireturn, 1) := by decide +kernel
theorem dX10_order_0 : decode cX10_order 0 = .ok (.aload_n 0, 1) := by decide +kernel
theorem dX10_order_1 : decode cX10_order 1 = .ok (.iload_n 1, 1) := by decide +kernel
theorem dX10_order_2 : decode cX10_order 2 = .ok (.invokevirtual 163, 3) := by decide +kernel
theorem dX10_order_5 : decode cX10_order 5 = .ok (.ifCond .eq 15, 3) := by decide +kernel
theorem dX10_order_8 : decode cX10_order 8 = .ok (.iload_n 2, 1) := by decide +kernel
theorem dX10_order_9 : decode cX10_order 9 = .ok (.i2l, 1) := by decide +kernel
theorem dX10_order_10 : decode cX10_order 10 = .ok (.lconst 0, 1) := by decide +kernel
theorem dX10_order_11 : decode cX10_order 11 = .ok (.ldc2_w 167, 3) := by decide +kernel
theorem dX10_order_14 : decode cX10_order 14 = .ok (.invokestatic 142, 3) := by decide +kernel
theorem dX10_order_17 : decode cX10_order 17 = .ok (.ifCond .ne 7, 3) := by decide +kernel
theorem dX10_order_20 : decode cX10_order 20 = .ok (.iconst 1, 1) := by decide +kernel
theorem dX10_order_21 : decode cX10_order 21 = .ok (.goto 4, 3) := by decide +kernel
theorem dX10_order_24 : decode cX10_order 24 = .ok (.iconst 0, 1) := by decide +kernel
theorem dX10_order_25 : decode cX10_order 25 = .ok (.istore 5, 2) := by decide +kernel
theorem dX10_order_27 : decode cX10_order 27 = .ok (.aload_n 0, 1) := by decide +kernel
theorem dX10_order_28 : decode cX10_order 28 = .ok (.iload 5, 2) := by decide +kernel
theorem dX10_order_30 : decode cX10_order 30 = .ok (.iload 5, 2) := by decide +kernel
theorem dX10_order_32 : decode cX10_order 32 = .ok (.ifCond .ne 18, 3) := by decide +kernel
theorem dX10_order_35 : decode cX10_order 35 = .ok (.aload_n 0, 1) := by decide +kernel
theorem dX10_order_36 : decode cX10_order 36 = .ok (.getfield 7, 3) := by decide +kernel
theorem dX10_order_39 : decode cX10_order 39 = .ok (.iload_n 1, 1) := by decide +kernel
theorem dX10_order_40 : decode cX10_order 40 = .ok (.iaload, 1) := by decide +kernel
theorem dX10_order_41 : decode cX10_order 41 = .ok (.bipush 8, 2) := by decide +kernel
theorem dX10_order_43 : decode cX10_order 43 = .ok (.if_icmp .ne 7, 3) := by decide +kernel
theorem dX10_order_46 : decode cX10_order 46 = .ok (.iconst 1, 1) := by decide +kernel
theorem dX10_order_47 : decode cX10_order 47 = .ok (.goto 4, 3) := by decide +kernel
theorem dX10_order_50 : decode cX10_order 50 = .ok (.iconst 0, 1) := by decide +kernel
theorem dX10_order_51 : decode cX10_order 51 = .ok (.invokevirtual 159, 3) := by decide +kernel
theorem dX10_order_54 : decode cX10_order 54 = .ok (.ifCond .eq 5, 3) := by decide +kernel
theorem dX10_order_57 : decode cX10_order 57 = .ok (.iconst 0, 1) := by decide +kernel
theorem dX10_order_58 : decode cX10_order 58 = .ok (.ireturn, 1) := by decide +kernel
theorem dX10_order_59 : decode cX10_order 59 = .ok (.bipush 8, 2) := by decide +kernel
theorem dX10_order_61 : decode cX10_order 61 = .ok (.iload_n 1, 1) := by decide +kernel
theorem dX10_order_62 : decode cX10_order 62 = .ok (.imul, 1) := by decide +kernel
theorem dX10_order_63 : decode cX10_order 63 = .ok (.aload_n 0, 1) := by decide +kernel
theorem dX10_order_64 : decode cX10_order 64 = .ok (.getfield 7, 3) := by decide +kernel
theorem dX10_order_67 : decode cX10_order 67 = .ok (.iload_n 1, 1) := by decide +kernel
theorem dX10_order_68 : decode cX10_order 68 = .ok (.iaload, 1) := by decide +kernel
theorem dX10_order_69 : decode cX10_order 69 = .ok (.iadd, 1) := by decide +kernel
theorem dX10_order_70 : decode cX10_order 70 = .ok (.istore 6, 2) := by decide +kernel
theorem dX10_order_72 : decode cX10_order 72 = .ok (.aload_n 0, 1) := by decide +kernel
theorem dX10_order_73 : decode cX10_order 73 = .ok (.getfield 13, 3) := by decide +kernel
theorem dX10_order_76 : decode cX10_order 76 = .ok (.iload 6, 2) := by decide +kernel
theorem dX10_order_78 : decode cX10_order 78 = .ok (.iload_n 2, 1) := by decide +kernel
theorem dX10_order_79 : decode cX10_order 79 = .ok (.iastore, 1) := by decide +kernel
theorem dX10_order_80 : decode cX10_order 80 = .ok (.aload_n 0, 1) := by decide +kernel
theorem dX10_order_81 : decode cX10_order 81 = .ok (.getfield 16, 3) := by decide +kernel
theorem dX10_order_84 : decode cX10_order 84 = .ok (.iload 6, 2) := by decide +kernel
theorem dX10_order_86 : decode cX10_order 86 = .ok (.iload_n 3, 1) := by decide +kernel
theorem dX10_order_87 : decode cX10_order 87 = .ok (.iastore, 1) := by decide +kernel
theorem dX10_order_88 : decode cX10_order 88 = .ok (.aload_n 0, 1) := by decide +kernel
theorem dX10_order_89 : decode cX10_order 89 = .ok (.getfield 19, 3) := by decide +kernel
theorem dX10_order_92 : decode cX10_order 92 = .ok (.iload 6, 2) := by decide +kernel
theorem dX10_order_94 : decode cX10_order 94 = .ok (.iload 4, 2) := by decide +kernel
theorem dX10_order_96 : decode cX10_order 96 = .ok (.iastore, 1) := by decide +kernel
theorem dX10_order_97 : decode cX10_order 97 = .ok (.aload_n 0, 1) := by decide +kernel
theorem dX10_order_98 : decode cX10_order 98 = .ok (.getfield 7, 3) := by decide +kernel
theorem dX10_order_101 : decode cX10_order 101 = .ok (.iload_n 1, 1) := by decide +kernel
theorem dX10_order_102 : decode cX10_order 102 = .ok (.dup2, 1) := by decide +kernel
theorem dX10_order_103 : decode cX10_order 103 = .ok (.iaload, 1) := by decide +kernel
theorem dX10_order_104 : decode cX10_order 104 = .ok (.iconst 1, 1) := by decide +kernel
theorem dX10_order_105 : decode cX10_order 105 = .ok (.iadd, 1) := by decide +kernel
theorem dX10_order_106 : decode cX10_order 106 = .ok (.iastore, 1) := by decide +kernel
theorem dX10_order_107 : decode cX10_order 107 = .ok (.aload_n 0, 1) := by decide +kernel
theorem dX10_order_108 : decode cX10_order 108 = .ok (.getfield 7, 3) := by decide +kernel
theorem dX10_order_111 : decode cX10_order 111 = .ok (.iload_n 1, 1) := by decide +kernel
theorem dX10_order_112 : decode cX10_order 112 = .ok (.iaload, 1) := by decide +kernel
theorem dX10_order_113 : decode cX10_order 113 = .ok (.ireturn, 1) := by decide +kernel
theorem dX10_promise_0 : decode cX10_promise 0 = .ok (.aload_n 0, 1) := by decide +kernel
theorem dX10_promise_1 : decode cX10_promise 1 = .ok (.iload_n 1, 1) := by decide +kernel
theorem dX10_promise_2 : decode cX10_promise 2 = .ok (.invokevirtual 169, 3) := by decide +kernel
theorem dX10_promise_5 : decode cX10_promise 5 = .ok (.ifCond .ne 7, 3) := by decide +kernel
theorem dX10_promise_8 : decode cX10_promise 8 = .ok (.iconst 1, 1) := by decide +kernel
theorem dX10_promise_9 : decode cX10_promise 9 = .ok (.goto 4, 3) := by decide +kernel
theorem dX10_promise_12 : decode cX10_promise 12 = .ok (.iconst 0, 1) := by decide +kernel
theorem dX10_promise_13 : decode cX10_promise 13 = .ok (.istore_n 2, 1) := by decide +kernel
theorem dX10_promise_14 : decode cX10_promise 14 = .ok (.aload_n 0, 1) := by decide +kernel
theorem dX10_promise_15 : decode cX10_promise 15 = .ok (.iload_n 2, 1) := by decide +kernel
theorem dX10_promise_16 : decode cX10_promise 16 = .ok (.iload_n 2, 1) := by decide +kernel
theorem dX10_promise_17 : decode cX10_promise 17 = .ok (.ifCond .ne 16, 3) := by decide +kernel
theorem dX10_promise_20 : decode cX10_promise 20 = .ok (.aload_n 0, 1) := by decide +kernel
theorem dX10_promise_21 : decode cX10_promise 21 = .ok (.getfield 146, 3) := by decide +kernel
theorem dX10_promise_24 : decode cX10_promise 24 = .ok (.bipush 32, 2) := by decide +kernel
theorem dX10_promise_26 : decode cX10_promise 26 = .ok (.if_icmp .ne 7, 3) := by decide +kernel
theorem dX10_promise_29 : decode cX10_promise 29 = .ok (.iconst 1, 1) := by decide +kernel
theorem dX10_promise_30 : decode cX10_promise 30 = .ok (.goto 4, 3) := by decide +kernel
theorem dX10_promise_33 : decode cX10_promise 33 = .ok (.iconst 0, 1) := by decide +kernel
theorem dX10_promise_34 : decode cX10_promise 34 = .ok (.invokevirtual 159, 3) := by decide +kernel
theorem dX10_promise_37 : decode cX10_promise 37 = .ok (.ifCond .eq 5, 3) := by decide +kernel
theorem dX10_promise_40 : decode cX10_promise 40 = .ok (.iconst 0, 1) := by decide +kernel
theorem dX10_promise_41 : decode cX10_promise 41 = .ok (.ireturn, 1) := by decide +kernel
theorem dX10_promise_42 : decode cX10_promise 42 = .ok (.aload_n 0, 1) := by decide +kernel
theorem dX10_promise_43 : decode cX10_promise 43 = .ok (.getfield 75, 3) := by decide +kernel
theorem dX10_promise_46 : decode cX10_promise 46 = .ok (.aload_n 0, 1) := by decide +kernel
theorem dX10_promise_47 : decode cX10_promise 47 = .ok (.getfield 146, 3) := by decide +kernel
theorem dX10_promise_50 : decode cX10_promise 50 = .ok (.iload_n 1, 1) := by decide +kernel
theorem dX10_promise_51 : decode cX10_promise 51 = .ok (.iastore, 1) := by decide +kernel
theorem dX10_promise_52 : decode cX10_promise 52 = .ok (.aload_n 0, 1) := by decide +kernel
theorem dX10_promise_53 : decode cX10_promise 53 = .ok (.dup, 1) := by decide +kernel
theorem dX10_promise_54 : decode cX10_promise 54 = .ok (.getfield 146, 3) := by decide +kernel
theorem dX10_promise_57 : decode cX10_promise 57 = .ok (.iconst 1, 1) := by decide +kernel
theorem dX10_promise_58 : decode cX10_promise 58 = .ok (.iadd, 1) := by decide +kernel
theorem dX10_promise_59 : decode cX10_promise 59 = .ok (.putfield 146, 3) := by decide +kernel
theorem dX10_promise_62 : decode cX10_promise 62 = .ok (.aload_n 0, 1) := by decide +kernel
theorem dX10_promise_63 : decode cX10_promise 63 = .ok (.getfield 146, 3) := by decide +kernel
theorem dX10_promise_66 : decode cX10_promise 66 = .ok (.iconst 1, 1) := by decide +kernel
theorem dX10_promise_67 : decode cX10_promise 67 = .ok (.isub, 1) := by decide +kernel
theorem dX10_promise_68 : decode cX10_promise 68 = .ok (.ireturn, 1) := by decide +kernel
theorem dX10_channels_0 : decode cX10_channels 0 = .ok (.aload_n 0, 1) := by decide +kernel
theorem dX10_channels_1 : decode cX10_channels 1 = .ok (.iload_n 1, 1) := by decide +kernel
theorem dX10_channels_2 : decode cX10_channels 2 = .ok (.invokevirtual 169, 3) := by decide +kernel
theorem dX10_channels_5 : decode cX10_channels 5 = .ok (.ifCond .eq 11, 3) := by decide +kernel
theorem dX10_channels_8 : decode cX10_channels 8 = .ok (.aload_n 0, 1) := by decide +kernel
theorem dX10_channels_9 : decode cX10_channels 9 = .ok (.iload_n 2, 1) := by decide +kernel
theorem dX10_channels_10 : decode cX10_channels 10 = .ok (.invokevirtual 169, 3) := by decide +kernel
theorem dX10_channels_13 : decode cX10_channels 13 = .ok (.ifCond .ne 7, 3) := by decide +kernel
theorem dX10_channels_16 : decode cX10_channels 16 = .ok (.iconst 1, 1) := by decide +kernel
theorem dX10_channels_17 : decode cX10_channels 17 = .ok (.goto 4, 3) := by decide +kernel
theorem dX10_channels_20 : decode cX10_channels 20 = .ok (.iconst 0, 1) := by decide +kernel
theorem dX10_channels_21 : decode cX10_channels 21 = .ok (.istore_n 3, 1) := by decide +kernel
theorem dX10_channels_22 : decode cX10_channels 22 = .ok (.aload_n 0, 1) := by decide +kernel
theorem dX10_channels_23 : decode cX10_channels 23 = .ok (.iload_n 3, 1) := by decide +kernel
theorem dX10_channels_24 : decode cX10_channels 24 = .ok (.iload_n 3, 1) := by decide +kernel
theorem dX10_channels_25 : decode cX10_channels 25 = .ok (.ifCond .ne 16, 3) := by decide +kernel
theorem dX10_channels_28 : decode cX10_channels 28 = .ok (.aload_n 0, 1) := by decide +kernel
theorem dX10_channels_29 : decode cX10_channels 29 = .ok (.getfield 149, 3) := by decide +kernel
theorem dX10_channels_32 : decode cX10_channels 32 = .ok (.bipush 16, 2) := by decide +kernel
theorem dX10_channels_34 : decode cX10_channels 34 = .ok (.if_icmp .ne 7, 3) := by decide +kernel
theorem dX10_channels_37 : decode cX10_channels 37 = .ok (.iconst 1, 1) := by decide +kernel
theorem dX10_channels_38 : decode cX10_channels 38 = .ok (.goto 4, 3) := by decide +kernel
theorem dX10_channels_41 : decode cX10_channels 41 = .ok (.iconst 0, 1) := by decide +kernel
theorem dX10_channels_42 : decode cX10_channels 42 = .ok (.invokevirtual 159, 3) := by decide +kernel
theorem dX10_channels_45 : decode cX10_channels 45 = .ok (.ifCond .eq 5, 3) := by decide +kernel
theorem dX10_channels_48 : decode cX10_channels 48 = .ok (.iconst 0, 1) := by decide +kernel
theorem dX10_channels_49 : decode cX10_channels 49 = .ok (.ireturn, 1) := by decide +kernel
theorem dX10_channels_50 : decode cX10_channels 50 = .ok (.aload_n 0, 1) := by decide +kernel
theorem dX10_channels_51 : decode cX10_channels 51 = .ok (.getfield 93, 3) := by decide +kernel
theorem dX10_channels_54 : decode cX10_channels 54 = .ok (.aload_n 0, 1) := by decide +kernel
theorem dX10_channels_55 : decode cX10_channels 55 = .ok (.getfield 149, 3) := by decide +kernel
theorem dX10_channels_58 : decode cX10_channels 58 = .ok (.iload_n 1, 1) := by decide +kernel
theorem dX10_channels_59 : decode cX10_channels 59 = .ok (.iastore, 1) := by decide +kernel
theorem dX10_channels_60 : decode cX10_channels 60 = .ok (.aload_n 0, 1) := by decide +kernel
theorem dX10_channels_61 : decode cX10_channels 61 = .ok (.getfield 93, 3) := by decide +kernel
theorem dX10_channels_64 : decode cX10_channels 64 = .ok (.aload_n 0, 1) := by decide +kernel
theorem dX10_channels_65 : decode cX10_channels 65 = .ok (.getfield 149, 3) := by decide +kernel
theorem dX10_channels_68 : decode cX10_channels 68 = .ok (.iconst 1, 1) := by decide +kernel
theorem dX10_channels_69 : decode cX10_channels 69 = .ok (.iadd, 1) := by decide +kernel
theorem dX10_channels_70 : decode cX10_channels 70 = .ok (.iload_n 2, 1) := by decide +kernel
theorem dX10_channels_71 : decode cX10_channels 71 = .ok (.iastore, 1) := by decide +kernel
theorem dX10_channels_72 : decode cX10_channels 72 = .ok (.aload_n 0, 1) := by decide +kernel
theorem dX10_channels_73 : decode cX10_channels 73 = .ok (.dup, 1) := by decide +kernel
theorem dX10_channels_74 : decode cX10_channels 74 = .ok (.getfield 149, 3) := by decide +kernel
theorem dX10_channels_77 : decode cX10_channels 77 = .ok (.iconst 2, 1) := by decide +kernel
theorem dX10_channels_78 : decode cX10_channels 78 = .ok (.iadd, 1) := by decide +kernel
theorem dX10_channels_79 : decode cX10_channels 79 = .ok (.putfield 149, 3) := by decide +kernel
theorem dX10_channels_82 : decode cX10_channels 82 = .ok (.aload_n 0, 1) := by decide +kernel
theorem dX10_channels_83 : decode cX10_channels 83 = .ok (.getfield 149, 3) := by decide +kernel
theorem dX10_channels_86 : decode cX10_channels 86 = .ok (.iconst 2, 1) := by decide +kernel
theorem dX10_channels_87 : decode cX10_channels 87 = .ok (.isub, 1) := by decide +kernel
theorem dX10_channels_88 : decode cX10_channels 88 = .ok (.ireturn, 1) := by decide +kernel
theorem dX10_handler_0 : decode cX10_handler 0 = .ok (.aload_n 0, 1) := by decide +kernel
theorem dX10_handler_1 : decode cX10_handler 1 = .ok (.iload_n 1, 1) := by decide +kernel
theorem dX10_handler_2 : decode cX10_handler 2 = .ok (.invokevirtual 172, 3) := by decide +kernel
theorem dX10_handler_5 : decode cX10_handler 5 = .ok (.ifCond .eq 68, 3) := by decide +kernel
theorem dX10_handler_8 : decode cX10_handler 8 = .ok (.iload 4, 2) := by decide +kernel
theorem dX10_handler_10 : decode cX10_handler 10 = .ok (.iconst (-1), 1) := by decide +kernel
theorem dX10_handler_11 : decode cX10_handler 11 = .ok (.if_icmp .ne 31, 3) := by decide +kernel
theorem dX10_handler_14 : decode cX10_handler 14 = .ok (.iload_n 2, 1) := by decide +kernel
theorem dX10_handler_15 : decode cX10_handler 15 = .ok (.i2l, 1) := by decide +kernel
theorem dX10_handler_16 : decode cX10_handler 16 = .ok (.lconst 0, 1) := by decide +kernel
theorem dX10_handler_17 : decode cX10_handler 17 = .ok (.ldc2_w 175, 3) := by decide +kernel
theorem dX10_handler_20 : decode cX10_handler 20 = .ok (.invokestatic 142, 3) := by decide +kernel
theorem dX10_handler_23 : decode cX10_handler 23 = .ok (.ifCond .eq 50, 3) := by decide +kernel
theorem dX10_handler_26 : decode cX10_handler 26 = .ok (.iload_n 2, 1) := by decide +kernel
theorem dX10_handler_27 : decode cX10_handler 27 = .ok (.iconst 4, 1) := by decide +kernel
theorem dX10_handler_28 : decode cX10_handler 28 = .ok (.if_icmp .ne 49, 3) := by decide +kernel
theorem dX10_handler_31 : decode cX10_handler 31 = .ok (.aload_n 0, 1) := by decide +kernel
theorem dX10_handler_32 : decode cX10_handler 32 = .ok (.iload_n 3, 1) := by decide +kernel
theorem dX10_handler_33 : decode cX10_handler 33 = .ok (.invokevirtual 163, 3) := by decide +kernel
theorem dX10_handler_36 : decode cX10_handler 36 = .ok (.ifCond .eq 37, 3) := by decide +kernel
theorem dX10_handler_39 : decode cX10_handler 39 = .ok (.goto 38, 3) := by decide +kernel
theorem dX10_handler_42 : decode cX10_handler 42 = .ok (.iload 4, 2) := by decide +kernel
theorem dX10_handler_44 : decode cX10_handler 44 = .ok (.i2l, 1) := by decide +kernel
theorem dX10_handler_45 : decode cX10_handler 45 = .ok (.lconst 0, 1) := by decide +kernel
theorem dX10_handler_46 : decode cX10_handler 46 = .ok (.aload_n 0, 1) := by decide +kernel
theorem dX10_handler_47 : decode cX10_handler 47 = .ok (.getfield 96, 3) := by decide +kernel
theorem dX10_handler_50 : decode cX10_handler 50 = .ok (.aload_n 0, 1) := by decide +kernel
theorem dX10_handler_51 : decode cX10_handler 51 = .ok (.iload_n 1, 1) := by decide +kernel
theorem dX10_handler_52 : decode cX10_handler 52 = .ok (.invokevirtual 172, 3) := by decide +kernel
theorem dX10_handler_55 : decode cX10_handler 55 = .ok (.ifCond .eq 7, 3) := by decide +kernel
theorem dX10_handler_58 : decode cX10_handler 58 = .ok (.iload_n 1, 1) := by decide +kernel
theorem dX10_handler_59 : decode cX10_handler 59 = .ok (.goto 4, 3) := by decide +kernel
theorem dX10_handler_62 : decode cX10_handler 62 = .ok (.iconst 0, 1) := by decide +kernel
theorem dX10_handler_63 : decode cX10_handler 63 = .ok (.iaload, 1) := by decide +kernel
theorem dX10_handler_64 : decode cX10_handler 64 = .ok (.iconst 1, 1) := by decide +kernel
theorem dX10_handler_65 : decode cX10_handler 65 = .ok (.isub, 1) := by decide +kernel
theorem dX10_handler_66 : decode cX10_handler 66 = .ok (.i2l, 1) := by decide +kernel
theorem dX10_handler_67 : decode cX10_handler 67 = .ok (.invokestatic 142, 3) := by decide +kernel
theorem dX10_handler_70 : decode cX10_handler 70 = .ok (.ifCond .ne 7, 3) := by decide +kernel
theorem dX10_handler_73 : decode cX10_handler 73 = .ok (.iconst 1, 1) := by decide +kernel
theorem dX10_handler_74 : decode cX10_handler 74 = .ok (.goto 4, 3) := by decide +kernel
theorem dX10_handler_77 : decode cX10_handler 77 = .ok (.iconst 0, 1) := by decide +kernel
theorem dX10_handler_78 : decode cX10_handler 78 = .ok (.istore 5, 2) := by decide +kernel
theorem dX10_handler_80 : decode cX10_handler 80 = .ok (.aload_n 0, 1) := by decide +kernel
theorem dX10_handler_81 : decode cX10_handler 81 = .ok (.iload 5, 2) := by decide +kernel
theorem dX10_handler_83 : decode cX10_handler 83 = .ok (.iload 5, 2) := by decide +kernel
theorem dX10_handler_85 : decode cX10_handler 85 = .ok (.ifCond .ne 24, 3) := by decide +kernel
theorem dX10_handler_88 : decode cX10_handler 88 = .ok (.iload 4, 2) := by decide +kernel
theorem dX10_handler_90 : decode cX10_handler 90 = .ok (.iconst (-1), 1) := by decide +kernel
theorem dX10_handler_91 : decode cX10_handler 91 = .ok (.if_icmp .ne 18, 3) := by decide +kernel
theorem dX10_handler_94 : decode cX10_handler 94 = .ok (.aload_n 0, 1) := by decide +kernel
theorem dX10_handler_95 : decode cX10_handler 95 = .ok (.getfield 96, 3) := by decide +kernel
theorem dX10_handler_98 : decode cX10_handler 98 = .ok (.iload_n 1, 1) := by decide +kernel
theorem dX10_handler_99 : decode cX10_handler 99 = .ok (.iaload, 1) := by decide +kernel
theorem dX10_handler_100 : decode cX10_handler 100 = .ok (.bipush 6, 2) := by decide +kernel
theorem dX10_handler_102 : decode cX10_handler 102 = .ok (.if_icmp .ne 7, 3) := by decide +kernel
theorem dX10_handler_105 : decode cX10_handler 105 = .ok (.iconst 1, 1) := by decide +kernel
theorem dX10_handler_106 : decode cX10_handler 106 = .ok (.goto 4, 3) := by decide +kernel
theorem dX10_handler_109 : decode cX10_handler 109 = .ok (.iconst 0, 1) := by decide +kernel
theorem dX10_handler_110 : decode cX10_handler 110 = .ok (.invokevirtual 159, 3) := by decide +kernel
theorem dX10_handler_113 : decode cX10_handler 113 = .ok (.ifCond .eq 5, 3) := by decide +kernel
theorem dX10_handler_116 : decode cX10_handler 116 = .ok (.iconst 0, 1) := by decide +kernel
theorem dX10_handler_117 : decode cX10_handler 117 = .ok (.ireturn, 1) := by decide +kernel
theorem dX10_handler_118 : decode cX10_handler 118 = .ok (.iload 4, 2) := by decide +kernel
theorem dX10_handler_120 : decode cX10_handler 120 = .ok (.iconst (-1), 1) := by decide +kernel
theorem dX10_handler_121 : decode cX10_handler 121 = .ok (.if_icmp .ne 70, 3) := by decide +kernel
theorem dX10_handler_124 : decode cX10_handler 124 = .ok (.bipush 6, 2) := by decide +kernel
theorem dX10_handler_126 : decode cX10_handler 126 = .ok (.iload_n 1, 1) := by decide +kernel
theorem dX10_handler_127 : decode cX10_handler 127 = .ok (.imul, 1) := by decide +kernel
theorem dX10_handler_128 : decode cX10_handler 128 = .ok (.aload_n 0, 1) := by decide +kernel
theorem dX10_handler_129 : decode cX10_handler 129 = .ok (.getfield 96, 3) := by decide +kernel
theorem dX10_handler_132 : decode cX10_handler 132 = .ok (.iload_n 1, 1) := by decide +kernel
theorem dX10_handler_133 : decode cX10_handler 133 = .ok (.iaload, 1) := by decide +kernel
theorem dX10_handler_134 : decode cX10_handler 134 = .ok (.iadd, 1) := by decide +kernel
theorem dX10_handler_135 : decode cX10_handler 135 = .ok (.istore 6, 2) := by decide +kernel
theorem dX10_handler_137 : decode cX10_handler 137 = .ok (.aload_n 0, 1) := by decide +kernel
theorem dX10_handler_138 : decode cX10_handler 138 = .ok (.getfield 99, 3) := by decide +kernel
theorem dX10_handler_141 : decode cX10_handler 141 = .ok (.iload 6, 2) := by decide +kernel
theorem dX10_handler_143 : decode cX10_handler 143 = .ok (.iload_n 2, 1) := by decide +kernel
theorem dX10_handler_144 : decode cX10_handler 144 = .ok (.iastore, 1) := by decide +kernel
theorem dX10_handler_145 : decode cX10_handler 145 = .ok (.aload_n 0, 1) := by decide +kernel
theorem dX10_handler_146 : decode cX10_handler 146 = .ok (.getfield 102, 3) := by decide +kernel
theorem dX10_handler_149 : decode cX10_handler 149 = .ok (.iload 6, 2) := by decide +kernel
theorem dX10_handler_151 : decode cX10_handler 151 = .ok (.iload_n 3, 1) := by decide +kernel
theorem dX10_handler_152 : decode cX10_handler 152 = .ok (.iastore, 1) := by decide +kernel
theorem dX10_handler_153 : decode cX10_handler 153 = .ok (.aload_n 0, 1) := by decide +kernel
theorem dX10_handler_154 : decode cX10_handler 154 = .ok (.getfield 105, 3) := by decide +kernel
theorem dX10_handler_157 : decode cX10_handler 157 = .ok (.iload 6, 2) := by decide +kernel
theorem dX10_handler_159 : decode cX10_handler 159 = .ok (.aload_n 0, 1) := by decide +kernel
theorem dX10_handler_160 : decode cX10_handler 160 = .ok (.getfield 177, 3) := by decide +kernel
theorem dX10_handler_163 : decode cX10_handler 163 = .ok (.iastore, 1) := by decide +kernel
theorem dX10_handler_164 : decode cX10_handler 164 = .ok (.aload_n 0, 1) := by decide +kernel
theorem dX10_handler_165 : decode cX10_handler 165 = .ok (.getfield 96, 3) := by decide +kernel
theorem dX10_handler_168 : decode cX10_handler 168 = .ok (.iload_n 1, 1) := by decide +kernel
theorem dX10_handler_169 : decode cX10_handler 169 = .ok (.dup2, 1) := by decide +kernel
theorem dX10_handler_170 : decode cX10_handler 170 = .ok (.iaload, 1) := by decide +kernel
theorem dX10_handler_171 : decode cX10_handler 171 = .ok (.iconst 1, 1) := by decide +kernel
theorem dX10_handler_172 : decode cX10_handler 172 = .ok (.iadd, 1) := by decide +kernel
theorem dX10_handler_173 : decode cX10_handler 173 = .ok (.iastore, 1) := by decide +kernel
theorem dX10_handler_174 : decode cX10_handler 174 = .ok (.aload_n 0, 1) := by decide +kernel
theorem dX10_handler_175 : decode cX10_handler 175 = .ok (.dup, 1) := by decide +kernel
theorem dX10_handler_176 : decode cX10_handler 176 = .ok (.getfield 177, 3) := by decide +kernel
theorem dX10_handler_179 : decode cX10_handler 179 = .ok (.iconst 1, 1) := by decide +kernel
theorem dX10_handler_180 : decode cX10_handler 180 = .ok (.iadd, 1) := by decide +kernel
theorem dX10_handler_181 : decode cX10_handler 181 = .ok (.putfield 177, 3) := by decide +kernel
theorem dX10_handler_184 : decode cX10_handler 184 = .ok (.aload_n 0, 1) := by decide +kernel
theorem dX10_handler_185 : decode cX10_handler 185 = .ok (.getfield 177, 3) := by decide +kernel
theorem dX10_handler_188 : decode cX10_handler 188 = .ok (.iconst 1, 1) := by decide +kernel
theorem dX10_handler_189 : decode cX10_handler 189 = .ok (.isub, 1) := by decide +kernel
theorem dX10_handler_190 : decode cX10_handler 190 = .ok (.ireturn, 1) := by decide +kernel
theorem dX10_handler_191 : decode cX10_handler 191 = .ok (.aload_n 0, 1) := by decide +kernel
theorem dX10_handler_192 : decode cX10_handler 192 = .ok (.getfield 105, 3) := by decide +kernel
theorem dX10_handler_195 : decode cX10_handler 195 = .ok (.bipush 6, 2) := by decide +kernel
theorem dX10_handler_197 : decode cX10_handler 197 = .ok (.iload_n 1, 1) := by decide +kernel
theorem dX10_handler_198 : decode cX10_handler 198 = .ok (.imul, 1) := by decide +kernel
theorem dX10_handler_199 : decode cX10_handler 199 = .ok (.iload 4, 2) := by decide +kernel
theorem dX10_handler_201 : decode cX10_handler 201 = .ok (.iadd, 1) := by decide +kernel
theorem dX10_handler_202 : decode cX10_handler 202 = .ok (.iaload, 1) := by decide +kernel
theorem dX10_handler_203 : decode cX10_handler 203 = .ok (.istore 6, 2) := by decide +kernel
theorem dX10_handler_205 : decode cX10_handler 205 = .ok (.aload_n 0, 1) := by decide +kernel
theorem dX10_handler_206 : decode cX10_handler 206 = .ok (.getfield 96, 3) := by decide +kernel
theorem dX10_handler_209 : decode cX10_handler 209 = .ok (.iload_n 1, 1) := by decide +kernel
theorem dX10_handler_210 : decode cX10_handler 210 = .ok (.dup2, 1) := by decide +kernel
theorem dX10_handler_211 : decode cX10_handler 211 = .ok (.iaload, 1) := by decide +kernel
theorem dX10_handler_212 : decode cX10_handler 212 = .ok (.iconst 1, 1) := by decide +kernel
theorem dX10_handler_213 : decode cX10_handler 213 = .ok (.isub, 1) := by decide +kernel
theorem dX10_handler_214 : decode cX10_handler 214 = .ok (.iastore, 1) := by decide +kernel
theorem dX10_handler_215 : decode cX10_handler 215 = .ok (.bipush 6, 2) := by decide +kernel
theorem dX10_handler_217 : decode cX10_handler 217 = .ok (.iload_n 1, 1) := by decide +kernel
theorem dX10_handler_218 : decode cX10_handler 218 = .ok (.imul, 1) := by decide +kernel
theorem dX10_handler_219 : decode cX10_handler 219 = .ok (.iload 4, 2) := by decide +kernel
theorem dX10_handler_221 : decode cX10_handler 221 = .ok (.iadd, 1) := by decide +kernel
theorem dX10_handler_222 : decode cX10_handler 222 = .ok (.istore 7, 2) := by decide +kernel
theorem dX10_handler_224 : decode cX10_handler 224 = .ok (.iload 7, 2) := by decide +kernel
theorem dX10_handler_226 : decode cX10_handler 226 = .ok (.bipush 6, 2) := by decide +kernel
theorem dX10_handler_228 : decode cX10_handler 228 = .ok (.iload_n 1, 1) := by decide +kernel
theorem dX10_handler_229 : decode cX10_handler 229 = .ok (.imul, 1) := by decide +kernel
theorem dX10_handler_230 : decode cX10_handler 230 = .ok (.aload_n 0, 1) := by decide +kernel
theorem dX10_handler_231 : decode cX10_handler 231 = .ok (.getfield 96, 3) := by decide +kernel
theorem dX10_handler_234 : decode cX10_handler 234 = .ok (.iload_n 1, 1) := by decide +kernel
theorem dX10_handler_235 : decode cX10_handler 235 = .ok (.iaload, 1) := by decide +kernel
theorem dX10_handler_236 : decode cX10_handler 236 = .ok (.iadd, 1) := by decide +kernel
theorem dX10_handler_237 : decode cX10_handler 237 = .ok (.if_icmp .ge 57, 3) := by decide +kernel
theorem dX10_handler_240 : decode cX10_handler 240 = .ok (.aload_n 0, 1) := by decide +kernel
theorem dX10_handler_241 : decode cX10_handler 241 = .ok (.getfield 99, 3) := by decide +kernel
theorem dX10_handler_244 : decode cX10_handler 244 = .ok (.iload 7, 2) := by decide +kernel
theorem dX10_handler_246 : decode cX10_handler 246 = .ok (.aload_n 0, 1) := by decide +kernel
theorem dX10_handler_247 : decode cX10_handler 247 = .ok (.getfield 99, 3) := by decide +kernel
theorem dX10_handler_250 : decode cX10_handler 250 = .ok (.iload 7, 2) := by decide +kernel
theorem dX10_handler_252 : decode cX10_handler 252 = .ok (.iconst 1, 1) := by decide +kernel
theorem dX10_handler_253 : decode cX10_handler 253 = .ok (.iadd, 1) := by decide +kernel
theorem dX10_handler_254 : decode cX10_handler 254 = .ok (.iaload, 1) := by decide +kernel
theorem dX10_handler_255 : decode cX10_handler 255 = .ok (.iastore, 1) := by decide +kernel
theorem dX10_handler_256 : decode cX10_handler 256 = .ok (.aload_n 0, 1) := by decide +kernel
theorem dX10_handler_257 : decode cX10_handler 257 = .ok (.getfield 102, 3) := by decide +kernel
theorem dX10_handler_260 : decode cX10_handler 260 = .ok (.iload 7, 2) := by decide +kernel
theorem dX10_handler_262 : decode cX10_handler 262 = .ok (.aload_n 0, 1) := by decide +kernel
theorem dX10_handler_263 : decode cX10_handler 263 = .ok (.getfield 102, 3) := by decide +kernel
theorem dX10_handler_266 : decode cX10_handler 266 = .ok (.iload 7, 2) := by decide +kernel
theorem dX10_handler_268 : decode cX10_handler 268 = .ok (.iconst 1, 1) := by decide +kernel
theorem dX10_handler_269 : decode cX10_handler 269 = .ok (.iadd, 1) := by decide +kernel
theorem dX10_handler_270 : decode cX10_handler 270 = .ok (.iaload, 1) := by decide +kernel
theorem dX10_handler_271 : decode cX10_handler 271 = .ok (.iastore, 1) := by decide +kernel
theorem dX10_handler_272 : decode cX10_handler 272 = .ok (.aload_n 0, 1) := by decide +kernel
theorem dX10_handler_273 : decode cX10_handler 273 = .ok (.getfield 105, 3) := by decide +kernel
theorem dX10_handler_276 : decode cX10_handler 276 = .ok (.iload 7, 2) := by decide +kernel
theorem dX10_handler_278 : decode cX10_handler 278 = .ok (.aload_n 0, 1) := by decide +kernel
theorem dX10_handler_279 : decode cX10_handler 279 = .ok (.getfield 105, 3) := by decide +kernel
theorem dX10_handler_282 : decode cX10_handler 282 = .ok (.iload 7, 2) := by decide +kernel
theorem dX10_handler_284 : decode cX10_handler 284 = .ok (.iconst 1, 1) := by decide +kernel
theorem dX10_handler_285 : decode cX10_handler 285 = .ok (.iadd, 1) := by decide +kernel
theorem dX10_handler_286 : decode cX10_handler 286 = .ok (.iaload, 1) := by decide +kernel
theorem dX10_handler_287 : decode cX10_handler 287 = .ok (.iastore, 1) := by decide +kernel
theorem dX10_handler_288 : decode cX10_handler 288 = .ok (.iinc 7 1, 3) := by decide +kernel
theorem dX10_handler_291 : decode cX10_handler 291 = .ok (.goto (-67), 3) := by decide +kernel
theorem dX10_handler_294 : decode cX10_handler 294 = .ok (.iload 6, 2) := by decide +kernel
theorem dX10_handler_296 : decode cX10_handler 296 = .ok (.ireturn, 1) := by decide +kernel
theorem dX10_advance_0 : decode cX10_advance 0 = .ok (.aload_n 0, 1) := by decide +kernel
theorem dX10_advance_1 : decode cX10_advance 1 = .ok (.iload_n 1, 1) := by decide +kernel
theorem dX10_advance_2 : decode cX10_advance 2 = .ok (.i2l, 1) := by decide +kernel
theorem dX10_advance_3 : decode cX10_advance 3 = .ok (.lconst 0, 1) := by decide +kernel
theorem dX10_advance_4 : decode cX10_advance 4 = .ok (.ldc2_w 180, 3) := by decide +kernel
theorem dX10_advance_7 : decode cX10_advance 7 = .ok (.invokestatic 142, 3) := by decide +kernel
theorem dX10_advance_10 : decode cX10_advance 10 = .ok (.ifCond .ne 7, 3) := by decide +kernel
theorem dX10_advance_13 : decode cX10_advance 13 = .ok (.iconst 1, 1) := by decide +kernel
theorem dX10_advance_14 : decode cX10_advance 14 = .ok (.goto 4, 3) := by decide +kernel
theorem dX10_advance_17 : decode cX10_advance 17 = .ok (.iconst 0, 1) := by decide +kernel
theorem dX10_advance_18 : decode cX10_advance 18 = .ok (.iconst 0, 1) := by decide +kernel
theorem dX10_advance_19 : decode cX10_advance 19 = .ok (.invokevirtual 159, 3) := by decide +kernel
theorem dX10_advance_22 : decode cX10_advance 22 = .ok (.ifCond .eq 5, 3) := by decide +kernel
theorem dX10_advance_25 : decode cX10_advance 25 = .ok (.lconst 0, 1) := by decide +kernel
theorem dX10_advance_26 : decode cX10_advance 26 = .ok (.lreturn, 1) := by decide +kernel
theorem dX10_advance_27 : decode cX10_advance 27 = .ok (.aload_n 0, 1) := by decide +kernel
theorem dX10_advance_28 : decode cX10_advance 28 = .ok (.dup, 1) := by decide +kernel
theorem dX10_advance_29 : decode cX10_advance 29 = .ok (.getfield 182, 3) := by decide +kernel
theorem dX10_advance_32 : decode cX10_advance 32 = .ok (.iload_n 1, 1) := by decide +kernel
theorem dX10_advance_33 : decode cX10_advance 33 = .ok (.i2l, 1) := by decide +kernel
theorem dX10_advance_34 : decode cX10_advance 34 = .ok (.ladd, 1) := by decide +kernel
theorem dX10_advance_35 : decode cX10_advance 35 = .ok (.putfield 182, 3) := by decide +kernel
theorem dX10_advance_38 : decode cX10_advance 38 = .ok (.aload_n 0, 1) := by decide +kernel
theorem dX10_advance_39 : decode cX10_advance 39 = .ok (.getfield 182, 3) := by decide +kernel
theorem dX10_advance_42 : decode cX10_advance 42 = .ok (.lreturn, 1) := by decide +kernel
theorem dX10_choose_0 : decode cX10_choose 0 = .ok (.aload_n 0, 1) := by decide +kernel
theorem dX10_choose_1 : decode cX10_choose 1 = .ok (.getfield 186, 3) := by decide +kernel
theorem dX10_choose_4 : decode cX10_choose 4 = .ok (.istore_n 1, 1) := by decide +kernel
theorem dX10_choose_5 : decode cX10_choose 5 = .ok (.aload_n 0, 1) := by decide +kernel
theorem dX10_choose_6 : decode cX10_choose 6 = .ok (.dup, 1) := by decide +kernel
theorem dX10_choose_7 : decode cX10_choose 7 = .ok (.getfield 186, 3) := by decide +kernel
theorem dX10_choose_10 : decode cX10_choose 10 = .ok (.iconst 1, 1) := by decide +kernel
theorem dX10_choose_11 : decode cX10_choose 11 = .ok (.iadd, 1) := by decide +kernel
theorem dX10_choose_12 : decode cX10_choose 12 = .ok (.putfield 186, 3) := by decide +kernel
theorem dX10_choose_15 : decode cX10_choose 15 = .ok (.aload_n 0, 1) := by decide +kernel
theorem dX10_choose_16 : decode cX10_choose 16 = .ok (.getfield 132, 3) := by decide +kernel
theorem dX10_choose_19 : decode cX10_choose 19 = .ok (.aload_n 0, 1) := by decide +kernel
theorem dX10_choose_20 : decode cX10_choose 20 = .ok (.getfield 132, 3) := by decide +kernel
theorem dX10_choose_23 : decode cX10_choose 23 = .ok (.iconst 1, 1) := by decide +kernel
theorem dX10_choose_24 : decode cX10_choose 24 = .ok (.isub, 1) := by decide +kernel
theorem dX10_choose_25 : decode cX10_choose 25 = .ok (.iand, 1) := by decide +kernel
theorem dX10_choose_26 : decode cX10_choose 26 = .ok (.ifCond .ne 12, 3) := by decide +kernel
theorem dX10_choose_29 : decode cX10_choose 29 = .ok (.iload_n 1, 1) := by decide +kernel
theorem dX10_choose_30 : decode cX10_choose 30 = .ok (.aload_n 0, 1) := by decide +kernel
theorem dX10_choose_31 : decode cX10_choose 31 = .ok (.getfield 132, 3) := by decide +kernel
theorem dX10_choose_34 : decode cX10_choose 34 = .ok (.iconst 1, 1) := by decide +kernel
theorem dX10_choose_35 : decode cX10_choose 35 = .ok (.isub, 1) := by decide +kernel
theorem dX10_choose_36 : decode cX10_choose 36 = .ok (.iand, 1) := by decide +kernel
theorem dX10_choose_37 : decode cX10_choose 37 = .ok (.ireturn, 1) := by decide +kernel
theorem dX10_choose_38 : decode cX10_choose 38 = .ok (.iload_n 1, 1) := by decide +kernel
theorem dX10_choose_39 : decode cX10_choose 39 = .ok (.aload_n 0, 1) := by decide +kernel
theorem dX10_choose_40 : decode cX10_choose 40 = .ok (.getfield 132, 3) := by decide +kernel
theorem dX10_choose_43 : decode cX10_choose 43 = .ok (.irem, 1) := by decide +kernel
theorem dX10_choose_44 : decode cX10_choose 44 = .ok (.istore_n 2, 1) := by decide +kernel
theorem dX10_choose_45 : decode cX10_choose 45 = .ok (.iload_n 2, 1) := by decide +kernel
theorem dX10_choose_46 : decode cX10_choose 46 = .ok (.ifCond .ge 8, 3) := by decide +kernel
theorem dX10_choose_49 : decode cX10_choose 49 = .ok (.iload_n 2, 1) := by decide +kernel
theorem dX10_choose_50 : decode cX10_choose 50 = .ok (.ineg, 1) := by decide +kernel
theorem dX10_choose_51 : decode cX10_choose 51 = .ok (.goto 4, 3) := by decide +kernel
theorem dX10_choose_54 : decode cX10_choose 54 = .ok (.iload_n 2, 1) := by decide +kernel
theorem dX10_choose_55 : decode cX10_choose 55 = .ok (.ireturn, 1) := by decide +kernel
theorem dX10_put_0 : decode cX10_put 0 = .ok (.aload_n 0, 1) := by decide +kernel
theorem dX10_put_1 : decode cX10_put 1 = .ok (.getfield 22, 3) := by decide +kernel
theorem dX10_put_4 : decode cX10_put 4 = .ok (.iload_n 1, 1) := by decide +kernel
theorem dX10_put_5 : decode cX10_put 5 = .ok (.iaload, 1) := by decide +kernel
theorem dX10_put_6 : decode cX10_put 6 = .ok (.iconst 3, 1) := by decide +kernel
theorem dX10_put_7 : decode cX10_put 7 = .ok (.if_icmp .gt 14, 3) := by decide +kernel
theorem dX10_put_10 : decode cX10_put 10 = .ok (.aload_n 0, 1) := by decide +kernel
theorem dX10_put_11 : decode cX10_put 11 = .ok (.getfield 25, 3) := by decide +kernel
theorem dX10_put_14 : decode cX10_put 14 = .ok (.iload_n 1, 1) := by decide +kernel
theorem dX10_put_15 : decode cX10_put 15 = .ok (.iaload, 1) := by decide +kernel
theorem dX10_put_16 : decode cX10_put 16 = .ok (.bipush 24, 2) := by decide +kernel
theorem dX10_put_18 : decode cX10_put 18 = .ok (.if_icmp .ne 16, 3) := by decide +kernel
theorem dX10_put_21 : decode cX10_put 21 = .ok (.aload_n 0, 1) := by decide +kernel
theorem dX10_put_22 : decode cX10_put 22 = .ok (.aload_n 0, 1) := by decide +kernel
theorem dX10_put_23 : decode cX10_put 23 = .ok (.getfield 189, 3) := by decide +kernel
theorem dX10_put_26 : decode cX10_put 26 = .ok (.iconst 4, 1) := by decide +kernel
theorem dX10_put_27 : decode cX10_put 27 = .ok (.iload 5, 2) := by decide +kernel
theorem dX10_put_29 : decode cX10_put 29 = .ok (.invokevirtual 155, 3) := by decide +kernel
theorem dX10_put_32 : decode cX10_put 32 = .ok (.iconst 0, 1) := by decide +kernel
theorem dX10_put_33 : decode cX10_put 33 = .ok (.ireturn, 1) := by decide +kernel
theorem dX10_put_34 : decode cX10_put 34 = .ok (.bipush 24, 2) := by decide +kernel
theorem dX10_put_36 : decode cX10_put 36 = .ok (.iload_n 1, 1) := by decide +kernel
theorem dX10_put_37 : decode cX10_put 37 = .ok (.imul, 1) := by decide +kernel
theorem dX10_put_38 : decode cX10_put 38 = .ok (.aload_n 0, 1) := by decide +kernel
theorem dX10_put_39 : decode cX10_put 39 = .ok (.getfield 25, 3) := by decide +kernel
theorem dX10_put_42 : decode cX10_put 42 = .ok (.iload_n 1, 1) := by decide +kernel
theorem dX10_put_43 : decode cX10_put 43 = .ok (.iaload, 1) := by decide +kernel
theorem dX10_put_44 : decode cX10_put 44 = .ok (.iadd, 1) := by decide +kernel
theorem dX10_put_45 : decode cX10_put 45 = .ok (.istore 6, 2) := by decide +kernel
theorem dX10_put_47 : decode cX10_put 47 = .ok (.aload_n 0, 1) := by decide +kernel
theorem dX10_put_48 : decode cX10_put 48 = .ok (.getfield 31, 3) := by decide +kernel
theorem dX10_put_51 : decode cX10_put 51 = .ok (.iload 6, 2) := by decide +kernel
theorem dX10_put_53 : decode cX10_put 53 = .ok (.iload_n 2, 1) := by decide +kernel
theorem dX10_put_54 : decode cX10_put 54 = .ok (.iastore, 1) := by decide +kernel
theorem dX10_put_55 : decode cX10_put 55 = .ok (.aload_n 0, 1) := by decide +kernel
theorem dX10_put_56 : decode cX10_put 56 = .ok (.getfield 34, 3) := by decide +kernel
theorem dX10_put_59 : decode cX10_put 59 = .ok (.iload 6, 2) := by decide +kernel
theorem dX10_put_61 : decode cX10_put 61 = .ok (.iload_n 3, 1) := by decide +kernel
theorem dX10_put_62 : decode cX10_put 62 = .ok (.iastore, 1) := by decide +kernel
theorem dX10_put_63 : decode cX10_put 63 = .ok (.aload_n 0, 1) := by decide +kernel
theorem dX10_put_64 : decode cX10_put 64 = .ok (.getfield 37, 3) := by decide +kernel
theorem dX10_put_67 : decode cX10_put 67 = .ok (.iload 6, 2) := by decide +kernel
theorem dX10_put_69 : decode cX10_put 69 = .ok (.iload 4, 2) := by decide +kernel
theorem dX10_put_71 : decode cX10_put 71 = .ok (.iastore, 1) := by decide +kernel
theorem dX10_put_72 : decode cX10_put 72 = .ok (.aload_n 0, 1) := by decide +kernel
theorem dX10_put_73 : decode cX10_put 73 = .ok (.getfield 25, 3) := by decide +kernel
theorem dX10_put_76 : decode cX10_put 76 = .ok (.iload_n 1, 1) := by decide +kernel
theorem dX10_put_77 : decode cX10_put 77 = .ok (.dup2, 1) := by decide +kernel
theorem dX10_put_78 : decode cX10_put 78 = .ok (.iaload, 1) := by decide +kernel
theorem dX10_put_79 : decode cX10_put 79 = .ok (.iconst 1, 1) := by decide +kernel
theorem dX10_put_80 : decode cX10_put 80 = .ok (.iadd, 1) := by decide +kernel
theorem dX10_put_81 : decode cX10_put 81 = .ok (.iastore, 1) := by decide +kernel
theorem dX10_put_82 : decode cX10_put 82 = .ok (.aload_n 0, 1) := by decide +kernel
theorem dX10_put_83 : decode cX10_put 83 = .ok (.getfield 22, 3) := by decide +kernel
theorem dX10_put_86 : decode cX10_put 86 = .ok (.iload_n 1, 1) := by decide +kernel
theorem dX10_put_87 : decode cX10_put 87 = .ok (.iaload, 1) := by decide +kernel
theorem dX10_put_88 : decode cX10_put 88 = .ok (.iconst 1, 1) := by decide +kernel
theorem dX10_put_89 : decode cX10_put 89 = .ok (.if_icmp .ne 9, 3) := by decide +kernel
theorem dX10_put_92 : decode cX10_put 92 = .ok (.aload_n 0, 1) := by decide +kernel
theorem dX10_put_93 : decode cX10_put 93 = .ok (.iload_n 1, 1) := by decide +kernel
theorem dX10_put_94 : decode cX10_put 94 = .ok (.iconst 2, 1) := by decide +kernel
theorem dX10_put_95 : decode cX10_put 95 = .ok (.invokevirtual 192, 3) := by decide +kernel
theorem dX10_put_98 : decode cX10_put 98 = .ok (.iconst 1, 1) := by decide +kernel
theorem dX10_put_99 : decode cX10_put 99 = .ok (.ireturn, 1) := by decide +kernel
theorem dX10_waiting_0 : decode cX10_waiting 0 = .ok (.iconst 0, 1) := by decide +kernel
theorem dX10_waiting_1 : decode cX10_waiting 1 = .ok (.istore_n 2, 1) := by decide +kernel
theorem dX10_waiting_2 : decode cX10_waiting 2 = .ok (.iconst 0, 1) := by decide +kernel
theorem dX10_waiting_3 : decode cX10_waiting 3 = .ok (.istore_n 3, 1) := by decide +kernel
theorem dX10_waiting_4 : decode cX10_waiting 4 = .ok (.iload_n 3, 1) := by decide +kernel
theorem dX10_waiting_5 : decode cX10_waiting 5 = .ok (.aload_n 0, 1) := by decide +kernel
theorem dX10_waiting_6 : decode cX10_waiting 6 = .ok (.getfield 196, 3) := by decide +kernel
theorem dX10_waiting_9 : decode cX10_waiting 9 = .ok (.if_icmp .ge 27, 3) := by decide +kernel
theorem dX10_waiting_12 : decode cX10_waiting 12 = .ok (.iload_n 2, 1) := by decide +kernel
theorem dX10_waiting_13 : decode cX10_waiting 13 = .ok (.aload_n 0, 1) := by decide +kernel
theorem dX10_waiting_14 : decode cX10_waiting 14 = .ok (.getfield 72, 3) := by decide +kernel
theorem dX10_waiting_17 : decode cX10_waiting 17 = .ok (.iload_n 3, 1) := by decide +kernel
theorem dX10_waiting_18 : decode cX10_waiting 18 = .ok (.iaload, 1) := by decide +kernel
theorem dX10_waiting_19 : decode cX10_waiting 19 = .ok (.iload_n 1, 1) := by decide +kernel
theorem dX10_waiting_20 : decode cX10_waiting 20 = .ok (.if_icmp .ne 7, 3) := by decide +kernel
theorem dX10_waiting_23 : decode cX10_waiting 23 = .ok (.iconst 1, 1) := by decide +kernel
theorem dX10_waiting_24 : decode cX10_waiting 24 = .ok (.goto 4, 3) := by decide +kernel
theorem dX10_waiting_27 : decode cX10_waiting 27 = .ok (.iconst 0, 1) := by decide +kernel
theorem dX10_waiting_28 : decode cX10_waiting 28 = .ok (.iadd, 1) := by decide +kernel
theorem dX10_waiting_29 : decode cX10_waiting 29 = .ok (.istore_n 2, 1) := by decide +kernel
theorem dX10_waiting_30 : decode cX10_waiting 30 = .ok (.iinc 3 1, 3) := by decide +kernel
theorem dX10_waiting_33 : decode cX10_waiting 33 = .ok (.goto (-29), 3) := by decide +kernel
theorem dX10_waiting_36 : decode cX10_waiting 36 = .ok (.iload_n 2, 1) := by decide +kernel
theorem dX10_waiting_37 : decode cX10_waiting 37 = .ok (.ireturn, 1) := by decide +kernel
theorem dX10_schedule_0 : decode cX10_schedule 0 = .ok (.aload_n 0, 1) := by decide +kernel
theorem dX10_schedule_1 : decode cX10_schedule 1 = .ok (.getfield 22, 3) := by decide +kernel
theorem dX10_schedule_4 : decode cX10_schedule 4 = .ok (.iload 4, 2) := by decide +kernel
theorem dX10_schedule_6 : decode cX10_schedule 6 = .ok (.iaload, 1) := by decide +kernel
theorem dX10_schedule_7 : decode cX10_schedule 7 = .ok (.iconst 2, 1) := by decide +kernel
theorem dX10_schedule_8 : decode cX10_schedule 8 = .ok (.if_icmp .gt 24, 3) := by decide +kernel
theorem dX10_schedule_11 : decode cX10_schedule 11 = .ok (.aload_n 0, 1) := by decide +kernel
theorem dX10_schedule_12 : decode cX10_schedule 12 = .ok (.getfield 196, 3) := by decide +kernel
theorem dX10_schedule_15 : decode cX10_schedule 15 = .ok (.sipush 400, 3) := by decide +kernel
theorem dX10_schedule_18 : decode cX10_schedule 18 = .ok (.if_icmp .eq 14, 3) := by decide +kernel
theorem dX10_schedule_21 : decode cX10_schedule 21 = .ok (.aload_n 0, 1) := by decide +kernel
theorem dX10_schedule_22 : decode cX10_schedule 22 = .ok (.iload 4, 2) := by decide +kernel
theorem dX10_schedule_24 : decode cX10_schedule 24 = .ok (.invokevirtual 199, 3) := by decide +kernel
theorem dX10_schedule_27 : decode cX10_schedule 27 = .ok (.bipush 24, 2) := by decide +kernel
theorem dX10_schedule_29 : decode cX10_schedule 29 = .ok (.if_icmp .ne 15, 3) := by decide +kernel
theorem dX10_schedule_32 : decode cX10_schedule 32 = .ok (.aload_n 0, 1) := by decide +kernel
theorem dX10_schedule_33 : decode cX10_schedule 33 = .ok (.aload_n 0, 1) := by decide +kernel
theorem dX10_schedule_34 : decode cX10_schedule 34 = .ok (.getfield 189, 3) := by decide +kernel
theorem dX10_schedule_37 : decode cX10_schedule 37 = .ok (.iconst 4, 1) := by decide +kernel
theorem dX10_schedule_38 : decode cX10_schedule 38 = .ok (.iload_n 1, 1) := by decide +kernel
theorem dX10_schedule_39 : decode cX10_schedule 39 = .ok (.invokevirtual 155, 3) := by decide +kernel
theorem dX10_schedule_42 : decode cX10_schedule 42 = .ok (.iconst 0, 1) := by decide +kernel
theorem dX10_schedule_43 : decode cX10_schedule 43 = .ok (.ireturn, 1) := by decide +kernel
theorem dX10_schedule_44 : decode cX10_schedule 44 = .ok (.aload_n 0, 1) := by decide +kernel
theorem dX10_schedule_45 : decode cX10_schedule 45 = .ok (.getfield 66, 3) := by decide +kernel
theorem dX10_schedule_48 : decode cX10_schedule 48 = .ok (.aload_n 0, 1) := by decide +kernel
theorem dX10_schedule_49 : decode cX10_schedule 49 = .ok (.getfield 196, 3) := by decide +kernel
theorem dX10_schedule_52 : decode cX10_schedule 52 = .ok (.iload_n 1, 1) := by decide +kernel
theorem dX10_schedule_53 : decode cX10_schedule 53 = .ok (.iastore, 1) := by decide +kernel
theorem dX10_schedule_54 : decode cX10_schedule 54 = .ok (.aload_n 0, 1) := by decide +kernel
theorem dX10_schedule_55 : decode cX10_schedule 55 = .ok (.getfield 69, 3) := by decide +kernel
theorem dX10_schedule_58 : decode cX10_schedule 58 = .ok (.aload_n 0, 1) := by decide +kernel
theorem dX10_schedule_59 : decode cX10_schedule 59 = .ok (.getfield 196, 3) := by decide +kernel
theorem dX10_schedule_62 : decode cX10_schedule 62 = .ok (.aload_n 0, 1) := by decide +kernel
theorem dX10_schedule_63 : decode cX10_schedule 63 = .ok (.getfield 182, 3) := by decide +kernel
theorem dX10_schedule_66 : decode cX10_schedule 66 = .ok (.lload_n 2, 1) := by decide +kernel
theorem dX10_schedule_67 : decode cX10_schedule 67 = .ok (.ladd, 1) := by decide +kernel
theorem dX10_schedule_68 : decode cX10_schedule 68 = .ok (.lastore, 1) := by decide +kernel
theorem dX10_schedule_69 : decode cX10_schedule 69 = .ok (.aload_n 0, 1) := by decide +kernel
theorem dX10_schedule_70 : decode cX10_schedule 70 = .ok (.getfield 72, 3) := by decide +kernel
theorem dX10_schedule_73 : decode cX10_schedule 73 = .ok (.aload_n 0, 1) := by decide +kernel
theorem dX10_schedule_74 : decode cX10_schedule 74 = .ok (.getfield 196, 3) := by decide +kernel
theorem dX10_schedule_77 : decode cX10_schedule 77 = .ok (.iload 4, 2) := by decide +kernel
theorem dX10_schedule_79 : decode cX10_schedule 79 = .ok (.iastore, 1) := by decide +kernel
theorem dX10_schedule_80 : decode cX10_schedule 80 = .ok (.aload_n 0, 1) := by decide +kernel
theorem dX10_schedule_81 : decode cX10_schedule 81 = .ok (.dup, 1) := by decide +kernel
theorem dX10_schedule_82 : decode cX10_schedule 82 = .ok (.getfield 196, 3) := by decide +kernel
theorem dX10_schedule_85 : decode cX10_schedule 85 = .ok (.iconst 1, 1) := by decide +kernel
theorem dX10_schedule_86 : decode cX10_schedule 86 = .ok (.iadd, 1) := by decide +kernel
theorem dX10_schedule_87 : decode cX10_schedule 87 = .ok (.putfield 196, 3) := by decide +kernel
theorem dX10_schedule_90 : decode cX10_schedule 90 = .ok (.aload_n 0, 1) := by decide +kernel
theorem dX10_schedule_91 : decode cX10_schedule 91 = .ok (.getfield 22, 3) := by decide +kernel
theorem dX10_schedule_94 : decode cX10_schedule 94 = .ok (.iload 4, 2) := by decide +kernel
theorem dX10_schedule_96 : decode cX10_schedule 96 = .ok (.iaload, 1) := by decide +kernel
theorem dX10_schedule_97 : decode cX10_schedule 97 = .ok (.iconst 1, 1) := by decide +kernel
theorem dX10_schedule_98 : decode cX10_schedule 98 = .ok (.if_icmp .ne 10, 3) := by decide +kernel
theorem dX10_schedule_101 : decode cX10_schedule 101 = .ok (.aload_n 0, 1) := by decide +kernel
theorem dX10_schedule_102 : decode cX10_schedule 102 = .ok (.iload 4, 2) := by decide +kernel
theorem dX10_schedule_104 : decode cX10_schedule 104 = .ok (.iconst 2, 1) := by decide +kernel
theorem dX10_schedule_105 : decode cX10_schedule 105 = .ok (.invokevirtual 192, 3) := by decide +kernel
theorem dX10_schedule_108 : decode cX10_schedule 108 = .ok (.aload_n 0, 1) := by decide +kernel
theorem dX10_schedule_109 : decode cX10_schedule 109 = .ok (.aload_n 0, 1) := by decide +kernel
theorem dX10_schedule_110 : decode cX10_schedule 110 = .ok (.getfield 189, 3) := by decide +kernel
theorem dX10_schedule_113 : decode cX10_schedule 113 = .ok (.bipush 9, 2) := by decide +kernel
theorem dX10_schedule_115 : decode cX10_schedule 115 = .ok (.aload_n 0, 1) := by decide +kernel
theorem dX10_schedule_116 : decode cX10_schedule 116 = .ok (.getfield 196, 3) := by decide +kernel
theorem dX10_schedule_119 : decode cX10_schedule 119 = .ok (.iconst 1, 1) := by decide +kernel
theorem dX10_schedule_120 : decode cX10_schedule 120 = .ok (.isub, 1) := by decide +kernel
theorem dX10_schedule_121 : decode cX10_schedule 121 = .ok (.invokevirtual 155, 3) := by decide +kernel
theorem dX10_schedule_124 : decode cX10_schedule 124 = .ok (.iconst 1, 1) := by decide +kernel
theorem dX10_schedule_125 : decode cX10_schedule 125 = .ok (.ireturn, 1) := by decide +kernel
theorem dX10_push_0 : decode cX10_push 0 = .ok (.aload_n 0, 1) := by decide +kernel
theorem dX10_push_1 : decode cX10_push 1 = .ok (.getfield 117, 3) := by decide +kernel
theorem dX10_push_4 : decode cX10_push 4 = .ok (.aload_n 0, 1) := by decide +kernel
theorem dX10_push_5 : decode cX10_push 5 = .ok (.getfield 203, 3) := by decide +kernel
theorem dX10_push_8 : decode cX10_push 8 = .ok (.iload_n 1, 1) := by decide +kernel
theorem dX10_push_9 : decode cX10_push 9 = .ok (.iastore, 1) := by decide +kernel
theorem dX10_push_10 : decode cX10_push 10 = .ok (.aload_n 0, 1) := by decide +kernel
theorem dX10_push_11 : decode cX10_push 11 = .ok (.getfield 120, 3) := by decide +kernel
theorem dX10_push_14 : decode cX10_push 14 = .ok (.aload_n 0, 1) := by decide +kernel
theorem dX10_push_15 : decode cX10_push 15 = .ok (.getfield 203, 3) := by decide +kernel
theorem dX10_push_18 : decode cX10_push 18 = .ok (.iload_n 2, 1) := by decide +kernel
theorem dX10_push_19 : decode cX10_push 19 = .ok (.iastore, 1) := by decide +kernel
theorem dX10_push_20 : decode cX10_push 20 = .ok (.aload_n 0, 1) := by decide +kernel
theorem dX10_push_21 : decode cX10_push 21 = .ok (.getfield 123, 3) := by decide +kernel
theorem dX10_push_24 : decode cX10_push 24 = .ok (.aload_n 0, 1) := by decide +kernel
theorem dX10_push_25 : decode cX10_push 25 = .ok (.getfield 203, 3) := by decide +kernel
theorem dX10_push_28 : decode cX10_push 28 = .ok (.iconst 0, 1) := by decide +kernel
theorem dX10_push_29 : decode cX10_push 29 = .ok (.iastore, 1) := by decide +kernel
theorem dX10_push_30 : decode cX10_push 30 = .ok (.aload_n 0, 1) := by decide +kernel
theorem dX10_push_31 : decode cX10_push 31 = .ok (.getfield 126, 3) := by decide +kernel
theorem dX10_push_34 : decode cX10_push 34 = .ok (.aload_n 0, 1) := by decide +kernel
theorem dX10_push_35 : decode cX10_push 35 = .ok (.getfield 203, 3) := by decide +kernel
theorem dX10_push_38 : decode cX10_push 38 = .ok (.iload_n 3, 1) := by decide +kernel
theorem dX10_push_39 : decode cX10_push 39 = .ok (.iastore, 1) := by decide +kernel
theorem dX10_push_40 : decode cX10_push 40 = .ok (.aload_n 0, 1) := by decide +kernel
theorem dX10_push_41 : decode cX10_push 41 = .ok (.getfield 129, 3) := by decide +kernel
theorem dX10_push_44 : decode cX10_push 44 = .ok (.aload_n 0, 1) := by decide +kernel
theorem dX10_push_45 : decode cX10_push 45 = .ok (.getfield 203, 3) := by decide +kernel
theorem dX10_push_48 : decode cX10_push 48 = .ok (.iconst 0, 1) := by decide +kernel
theorem dX10_push_49 : decode cX10_push 49 = .ok (.bastore, 1) := by decide +kernel
theorem dX10_push_50 : decode cX10_push 50 = .ok (.aload_n 0, 1) := by decide +kernel
theorem dX10_push_51 : decode cX10_push 51 = .ok (.dup, 1) := by decide +kernel
theorem dX10_push_52 : decode cX10_push 52 = .ok (.getfield 203, 3) := by decide +kernel
theorem dX10_push_55 : decode cX10_push 55 = .ok (.iconst 1, 1) := by decide +kernel
theorem dX10_push_56 : decode cX10_push 56 = .ok (.iadd, 1) := by decide +kernel
theorem dX10_push_57 : decode cX10_push 57 = .ok (.putfield 203, 3) := by decide +kernel
theorem dX10_push_60 : decode cX10_push 60 = .ok (.return_, 1) := by decide +kernel
theorem dX10_frames_0 : decode cX10_frames 0 = .ok (.iconst 0, 1) := by decide +kernel
theorem dX10_frames_1 : decode cX10_frames 1 = .ok (.istore_n 2, 1) := by decide +kernel
theorem dX10_frames_2 : decode cX10_frames 2 = .ok (.iconst 0, 1) := by decide +kernel
theorem dX10_frames_3 : decode cX10_frames 3 = .ok (.istore_n 3, 1) := by decide +kernel
theorem dX10_frames_4 : decode cX10_frames 4 = .ok (.iload_n 3, 1) := by decide +kernel
theorem dX10_frames_5 : decode cX10_frames 5 = .ok (.aload_n 0, 1) := by decide +kernel
theorem dX10_frames_6 : decode cX10_frames 6 = .ok (.getfield 203, 3) := by decide +kernel
theorem dX10_frames_9 : decode cX10_frames 9 = .ok (.if_icmp .ge 27, 3) := by decide +kernel
theorem dX10_frames_12 : decode cX10_frames 12 = .ok (.iload_n 2, 1) := by decide +kernel
theorem dX10_frames_13 : decode cX10_frames 13 = .ok (.aload_n 0, 1) := by decide +kernel
theorem dX10_frames_14 : decode cX10_frames 14 = .ok (.getfield 117, 3) := by decide +kernel
theorem dX10_frames_17 : decode cX10_frames 17 = .ok (.iload_n 3, 1) := by decide +kernel
theorem dX10_frames_18 : decode cX10_frames 18 = .ok (.iaload, 1) := by decide +kernel
theorem dX10_frames_19 : decode cX10_frames 19 = .ok (.iload_n 1, 1) := by decide +kernel
theorem dX10_frames_20 : decode cX10_frames 20 = .ok (.if_icmp .ne 7, 3) := by decide +kernel
theorem dX10_frames_23 : decode cX10_frames 23 = .ok (.iconst 1, 1) := by decide +kernel
theorem dX10_frames_24 : decode cX10_frames 24 = .ok (.goto 4, 3) := by decide +kernel
theorem dX10_frames_27 : decode cX10_frames 27 = .ok (.iconst 0, 1) := by decide +kernel
theorem dX10_frames_28 : decode cX10_frames 28 = .ok (.iadd, 1) := by decide +kernel
theorem dX10_frames_29 : decode cX10_frames 29 = .ok (.istore_n 2, 1) := by decide +kernel
theorem dX10_frames_30 : decode cX10_frames 30 = .ok (.iinc 3 1, 3) := by decide +kernel
theorem dX10_frames_33 : decode cX10_frames 33 = .ok (.goto (-29), 3) := by decide +kernel
theorem dX10_frames_36 : decode cX10_frames 36 = .ok (.iload_n 2, 1) := by decide +kernel
theorem dX10_frames_37 : decode cX10_frames 37 = .ok (.ireturn, 1) := by decide +kernel
theorem dX10_notify_0 : decode cX10_notify 0 = .ok (.aload_n 0, 1) := by decide +kernel
theorem dX10_notify_1 : decode cX10_notify 1 = .ok (.getfield 189, 3) := by decide +kernel
theorem dX10_notify_4 : decode cX10_notify 4 = .ok (.aload_n 0, 1) := by decide +kernel
theorem dX10_notify_5 : decode cX10_notify 5 = .ok (.getfield 75, 3) := by decide +kernel
theorem dX10_notify_8 : decode cX10_notify 8 = .ok (.iload_n 1, 1) := by decide +kernel
theorem dX10_notify_9 : decode cX10_notify 9 = .ok (.iaload, 1) := by decide +kernel
theorem dX10_notify_10 : decode cX10_notify 10 = .ok (.if_icmp .ne 32, 3) := by decide +kernel
theorem dX10_notify_13 : decode cX10_notify 13 = .ok (.aload_n 0, 1) := by decide +kernel
theorem dX10_notify_14 : decode cX10_notify 14 = .ok (.iconst 1, 1) := by decide +kernel
theorem dX10_notify_15 : decode cX10_notify 15 = .ok (.invokevirtual 206, 3) := by decide +kernel
theorem dX10_notify_18 : decode cX10_notify 18 = .ok (.iconst 4, 1) := by decide +kernel
theorem dX10_notify_19 : decode cX10_notify 19 = .ok (.if_icmp .ge 23, 3) := by decide +kernel
theorem dX10_notify_22 : decode cX10_notify 22 = .ok (.aload_n 0, 1) := by decide +kernel
theorem dX10_notify_23 : decode cX10_notify 23 = .ok (.aload_n 0, 1) := by decide +kernel
theorem dX10_notify_24 : decode cX10_notify 24 = .ok (.getfield 189, 3) := by decide +kernel
theorem dX10_notify_27 : decode cX10_notify 27 = .ok (.iconst 5, 1) := by decide +kernel
theorem dX10_notify_28 : decode cX10_notify 28 = .ok (.iload_n 2, 1) := by decide +kernel
theorem dX10_notify_29 : decode cX10_notify 29 = .ok (.invokevirtual 155, 3) := by decide +kernel
theorem dX10_notify_32 : decode cX10_notify 32 = .ok (.aload_n 0, 1) := by decide +kernel
theorem dX10_notify_33 : decode cX10_notify 33 = .ok (.iconst 1, 1) := by decide +kernel
theorem dX10_notify_34 : decode cX10_notify 34 = .ok (.iload_n 2, 1) := by decide +kernel
theorem dX10_notify_35 : decode cX10_notify 35 = .ok (.iconst 0, 1) := by decide +kernel
theorem dX10_notify_36 : decode cX10_notify 36 = .ok (.invokevirtual 209, 3) := by decide +kernel
theorem dX10_notify_39 : decode cX10_notify 39 = .ok (.goto 18, 3) := by decide +kernel
theorem dX10_notify_42 : decode cX10_notify 42 = .ok (.aload_n 0, 1) := by decide +kernel
theorem dX10_notify_43 : decode cX10_notify 43 = .ok (.aload_n 0, 1) := by decide +kernel
theorem dX10_notify_44 : decode cX10_notify 44 = .ok (.getfield 75, 3) := by decide +kernel
theorem dX10_notify_47 : decode cX10_notify 47 = .ok (.iload_n 1, 1) := by decide +kernel
theorem dX10_notify_48 : decode cX10_notify 48 = .ok (.iaload, 1) := by decide +kernel
theorem dX10_notify_49 : decode cX10_notify 49 = .ok (.iconst 1, 1) := by decide +kernel
theorem dX10_notify_50 : decode cX10_notify 50 = .ok (.iload_n 2, 1) := by decide +kernel
theorem dX10_notify_51 : decode cX10_notify 51 = .ok (.iconst 0, 1) := by decide +kernel
theorem dX10_notify_52 : decode cX10_notify 52 = .ok (.iload_n 2, 1) := by decide +kernel
theorem dX10_notify_53 : decode cX10_notify 53 = .ok (.invokevirtual 212, 3) := by decide +kernel
theorem dX10_notify_56 : decode cX10_notify 56 = .ok (.pop, 1) := by decide +kernel
theorem dX10_notify_57 : decode cX10_notify 57 = .ok (.return_, 1) := by decide +kernel
theorem dX10_finish_0 : decode cX10_finish 0 = .ok (.aload_n 0, 1) := by decide +kernel
theorem dX10_finish_1 : decode cX10_finish 1 = .ok (.getfield 78, 3) := by decide +kernel
theorem dX10_finish_4 : decode cX10_finish 4 = .ok (.iload_n 1, 1) := by decide +kernel
theorem dX10_finish_5 : decode cX10_finish 5 = .ok (.iaload, 1) := by decide +kernel
theorem dX10_finish_6 : decode cX10_finish 6 = .ok (.ifCond .ne 17, 3) := by decide +kernel
theorem dX10_finish_9 : decode cX10_finish 9 = .ok (.iload_n 2, 1) := by decide +kernel
theorem dX10_finish_10 : decode cX10_finish 10 = .ok (.iconst 3, 1) := by decide +kernel
theorem dX10_finish_11 : decode cX10_finish 11 = .ok (.if_icmp .ne 14, 3) := by decide +kernel
theorem dX10_finish_14 : decode cX10_finish 14 = .ok (.aload_n 0, 1) := by decide +kernel
theorem dX10_finish_15 : decode cX10_finish 15 = .ok (.getfield 84, 3) := by decide +kernel
theorem dX10_finish_18 : decode cX10_finish 18 = .ok (.iload_n 1, 1) := by decide +kernel
theorem dX10_finish_19 : decode cX10_finish 19 = .ok (.baload, 1) := by decide +kernel
theorem dX10_finish_20 : decode cX10_finish 20 = .ok (.ifCond .eq 5, 3) := by decide +kernel
theorem dX10_finish_23 : decode cX10_finish 23 = .ok (.iconst 0, 1) := by decide +kernel
theorem dX10_finish_24 : decode cX10_finish 24 = .ok (.ireturn, 1) := by decide +kernel
theorem dX10_finish_25 : decode cX10_finish 25 = .ok (.aload_n 0, 1) := by decide +kernel
theorem dX10_finish_26 : decode cX10_finish 26 = .ok (.getfield 78, 3) := by decide +kernel
theorem dX10_finish_29 : decode cX10_finish 29 = .ok (.iload_n 1, 1) := by decide +kernel
theorem dX10_finish_30 : decode cX10_finish 30 = .ok (.iload_n 2, 1) := by decide +kernel
theorem dX10_finish_31 : decode cX10_finish 31 = .ok (.iastore, 1) := by decide +kernel
theorem dX10_finish_32 : decode cX10_finish 32 = .ok (.aload_n 0, 1) := by decide +kernel
theorem dX10_finish_33 : decode cX10_finish 33 = .ok (.getfield 81, 3) := by decide +kernel
theorem dX10_finish_36 : decode cX10_finish 36 = .ok (.iload_n 1, 1) := by decide +kernel
theorem dX10_finish_37 : decode cX10_finish 37 = .ok (.iload_n 2, 1) := by decide +kernel
theorem dX10_finish_38 : decode cX10_finish 38 = .ok (.iconst 3, 1) := by decide +kernel
theorem dX10_finish_39 : decode cX10_finish 39 = .ok (.if_icmp .ne 7, 3) := by decide +kernel
theorem dX10_finish_42 : decode cX10_finish 42 = .ok (.iconst 0, 1) := by decide +kernel
theorem dX10_finish_43 : decode cX10_finish 43 = .ok (.goto 4, 3) := by decide +kernel
theorem dX10_finish_46 : decode cX10_finish 46 = .ok (.iload_n 3, 1) := by decide +kernel
theorem dX10_finish_47 : decode cX10_finish 47 = .ok (.iastore, 1) := by decide +kernel
theorem dX10_finish_48 : decode cX10_finish 48 = .ok (.aload_n 0, 1) := by decide +kernel
theorem dX10_finish_49 : decode cX10_finish 49 = .ok (.getfield 87, 3) := by decide +kernel
theorem dX10_finish_52 : decode cX10_finish 52 = .ok (.iload_n 1, 1) := by decide +kernel
theorem dX10_finish_53 : decode cX10_finish 53 = .ok (.iaload, 1) := by decide +kernel
theorem dX10_finish_54 : decode cX10_finish 54 = .ok (.istore 4, 2) := by decide +kernel
theorem dX10_finish_56 : decode cX10_finish 56 = .ok (.aload_n 0, 1) := by decide +kernel
theorem dX10_finish_57 : decode cX10_finish 57 = .ok (.getfield 87, 3) := by decide +kernel
theorem dX10_finish_60 : decode cX10_finish 60 = .ok (.iload_n 1, 1) := by decide +kernel
theorem dX10_finish_61 : decode cX10_finish 61 = .ok (.iconst 0, 1) := by decide +kernel
theorem dX10_finish_62 : decode cX10_finish 62 = .ok (.iastore, 1) := by decide +kernel
theorem dX10_finish_63 : decode cX10_finish 63 = .ok (.iload 4, 2) := by decide +kernel
theorem dX10_finish_65 : decode cX10_finish 65 = .ok (.ifCond .le 11, 3) := by decide +kernel
theorem dX10_finish_68 : decode cX10_finish 68 = .ok (.aload_n 0, 1) := by decide +kernel
theorem dX10_finish_69 : decode cX10_finish 69 = .ok (.iconst 3, 1) := by decide +kernel
theorem dX10_finish_70 : decode cX10_finish 70 = .ok (.iload_n 1, 1) := by decide +kernel
theorem dX10_finish_71 : decode cX10_finish 71 = .ok (.iload 4, 2) := by decide +kernel
theorem dX10_finish_73 : decode cX10_finish 73 = .ok (.invokevirtual 209, 3) := by decide +kernel
theorem dX10_finish_76 : decode cX10_finish 76 = .ok (.iconst 1, 1) := by decide +kernel
theorem dX10_finish_77 : decode cX10_finish 77 = .ok (.ireturn, 1) := by decide +kernel
theorem dX10_send_0 : decode cX10_send 0 = .ok (.aload_n 0, 1) := by decide +kernel
theorem dX10_send_1 : decode cX10_send 1 = .ok (.getfield 189, 3) := by decide +kernel
theorem dX10_send_4 : decode cX10_send 4 = .ok (.aload_n 0, 1) := by decide +kernel
theorem dX10_send_5 : decode cX10_send 5 = .ok (.getfield 93, 3) := by decide +kernel
theorem dX10_send_8 : decode cX10_send 8 = .ok (.iload_n 1, 1) := by decide +kernel
theorem dX10_send_9 : decode cX10_send 9 = .ok (.iaload, 1) := by decide +kernel
theorem dX10_send_10 : decode cX10_send 10 = .ok (.if_icmp .ne 21, 3) := by decide +kernel
theorem dX10_send_13 : decode cX10_send 13 = .ok (.aload_n 0, 1) := by decide +kernel
theorem dX10_send_14 : decode cX10_send 14 = .ok (.iconst 4, 1) := by decide +kernel
theorem dX10_send_15 : decode cX10_send 15 = .ok (.invokevirtual 206, 3) := by decide +kernel
theorem dX10_send_18 : decode cX10_send 18 = .ok (.iconst 4, 1) := by decide +kernel
theorem dX10_send_19 : decode cX10_send 19 = .ok (.if_icmp .ge 12, 3) := by decide +kernel
theorem dX10_send_22 : decode cX10_send 22 = .ok (.aload_n 0, 1) := by decide +kernel
theorem dX10_send_23 : decode cX10_send 23 = .ok (.iconst 4, 1) := by decide +kernel
theorem dX10_send_24 : decode cX10_send 24 = .ok (.iload_n 1, 1) := by decide +kernel
theorem dX10_send_25 : decode cX10_send 25 = .ok (.iload_n 2, 1) := by decide +kernel
theorem dX10_send_26 : decode cX10_send 26 = .ok (.invokevirtual 209, 3) := by decide +kernel
theorem dX10_send_29 : decode cX10_send 29 = .ok (.iconst 1, 1) := by decide +kernel
theorem dX10_send_30 : decode cX10_send 30 = .ok (.ireturn, 1) := by decide +kernel
theorem dX10_send_31 : decode cX10_send 31 = .ok (.aload_n 0, 1) := by decide +kernel
theorem dX10_send_32 : decode cX10_send 32 = .ok (.aload_n 0, 1) := by decide +kernel
theorem dX10_send_33 : decode cX10_send 33 = .ok (.getfield 93, 3) := by decide +kernel
theorem dX10_send_36 : decode cX10_send 36 = .ok (.iload_n 1, 1) := by decide +kernel
theorem dX10_send_37 : decode cX10_send 37 = .ok (.iaload, 1) := by decide +kernel
theorem dX10_send_38 : decode cX10_send 38 = .ok (.iconst 2, 1) := by decide +kernel
theorem dX10_send_39 : decode cX10_send 39 = .ok (.iload_n 1, 1) := by decide +kernel
theorem dX10_send_40 : decode cX10_send 40 = .ok (.iload_n 2, 1) := by decide +kernel
theorem dX10_send_41 : decode cX10_send 41 = .ok (.iconst (-1), 1) := by decide +kernel
theorem dX10_send_42 : decode cX10_send 42 = .ok (.invokevirtual 212, 3) := by decide +kernel
theorem dX10_send_45 : decode cX10_send 45 = .ok (.ireturn, 1) := by decide +kernel
theorem dX10_shut_0 : decode cX10_shut 0 = .ok (.iconst 0, 1) := by decide +kernel
theorem dX10_shut_1 : decode cX10_shut 1 = .ok (.istore_n 3, 1) := by decide +kernel
theorem dX10_shut_2 : decode cX10_shut 2 = .ok (.iload_n 3, 1) := by decide +kernel
theorem dX10_shut_3 : decode cX10_shut 3 = .ok (.aload_n 0, 1) := by decide +kernel
theorem dX10_shut_4 : decode cX10_shut 4 = .ok (.getfield 132, 3) := by decide +kernel
theorem dX10_shut_7 : decode cX10_shut 7 = .ok (.if_icmp .ge 61, 3) := by decide +kernel
theorem dX10_shut_10 : decode cX10_shut 10 = .ok (.aload_n 0, 1) := by decide +kernel
theorem dX10_shut_11 : decode cX10_shut 11 = .ok (.getfield 22, 3) := by decide +kernel
theorem dX10_shut_14 : decode cX10_shut 14 = .ok (.iload_n 3, 1) := by decide +kernel
theorem dX10_shut_15 : decode cX10_shut 15 = .ok (.iaload, 1) := by decide +kernel
theorem dX10_shut_16 : decode cX10_shut 16 = .ok (.iconst 3, 1) := by decide +kernel
theorem dX10_shut_17 : decode cX10_shut 17 = .ok (.if_icmp .ge 45, 3) := by decide +kernel
theorem dX10_shut_20 : decode cX10_shut 20 = .ok (.aload_n 0, 1) := by decide +kernel
theorem dX10_shut_21 : decode cX10_shut 21 = .ok (.getfield 53, 3) := by decide +kernel
theorem dX10_shut_24 : decode cX10_shut 24 = .ok (.iload_n 3, 1) := by decide +kernel
theorem dX10_shut_25 : decode cX10_shut 25 = .ok (.iload_n 1, 1) := by decide +kernel
theorem dX10_shut_26 : decode cX10_shut 26 = .ok (.i2l, 1) := by decide +kernel
theorem dX10_shut_27 : decode cX10_shut 27 = .ok (.lastore, 1) := by decide +kernel
theorem dX10_shut_28 : decode cX10_shut 28 = .ok (.aload_n 0, 1) := by decide +kernel
theorem dX10_shut_29 : decode cX10_shut 29 = .ok (.getfield 57, 3) := by decide +kernel
theorem dX10_shut_32 : decode cX10_shut 32 = .ok (.iload_n 3, 1) := by decide +kernel
theorem dX10_shut_33 : decode cX10_shut 33 = .ok (.iload_n 2, 1) := by decide +kernel
theorem dX10_shut_34 : decode cX10_shut 34 = .ok (.i2l, 1) := by decide +kernel
theorem dX10_shut_35 : decode cX10_shut 35 = .ok (.lastore, 1) := by decide +kernel
theorem dX10_shut_36 : decode cX10_shut 36 = .ok (.aload_n 0, 1) := by decide +kernel
theorem dX10_shut_37 : decode cX10_shut 37 = .ok (.getfield 60, 3) := by decide +kernel
theorem dX10_shut_40 : decode cX10_shut 40 = .ok (.iload_n 3, 1) := by decide +kernel
theorem dX10_shut_41 : decode cX10_shut 41 = .ok (.aload_n 0, 1) := by decide +kernel
theorem dX10_shut_42 : decode cX10_shut 42 = .ok (.getfield 182, 3) := by decide +kernel
theorem dX10_shut_45 : decode cX10_shut 45 = .ok (.lastore, 1) := by decide +kernel
theorem dX10_shut_46 : decode cX10_shut 46 = .ok (.aload_n 0, 1) := by decide +kernel
theorem dX10_shut_47 : decode cX10_shut 47 = .ok (.getfield 63, 3) := by decide +kernel
theorem dX10_shut_50 : decode cX10_shut 50 = .ok (.iload_n 3, 1) := by decide +kernel
theorem dX10_shut_51 : decode cX10_shut 51 = .ok (.aload_n 0, 1) := by decide +kernel
theorem dX10_shut_52 : decode cX10_shut 52 = .ok (.getfield 182, 3) := by decide +kernel
theorem dX10_shut_55 : decode cX10_shut 55 = .ok (.lastore, 1) := by decide +kernel
theorem dX10_shut_56 : decode cX10_shut 56 = .ok (.aload_n 0, 1) := by decide +kernel
theorem dX10_shut_57 : decode cX10_shut 57 = .ok (.iload_n 3, 1) := by decide +kernel
theorem dX10_shut_58 : decode cX10_shut 58 = .ok (.iconst 3, 1) := by decide +kernel
theorem dX10_shut_59 : decode cX10_shut 59 = .ok (.invokevirtual 192, 3) := by decide +kernel
theorem dX10_shut_62 : decode cX10_shut 62 = .ok (.iinc 3 1, 3) := by decide +kernel
theorem dX10_shut_65 : decode cX10_shut 65 = .ok (.goto (-63), 3) := by decide +kernel
theorem dX10_shut_68 : decode cX10_shut 68 = .ok (.return_, 1) := by decide +kernel
theorem dX10_isSo_0 : decode cX10_isSo 0 = .ok (.iload_n 1, 1) := by decide +kernel
theorem dX10_isSo_1 : decode cX10_isSo 1 = .ok (.tableswitch 202 1 13 #[67, 99, 117, 131, 131, 131, 137, 131, 179, 181, 181, 187, 131], 67) := by decide +kernel
theorem dX10_isSo_68 : decode cX10_isSo 68 = .ok (.aload_n 0, 1) := by decide +kernel
theorem dX10_isSo_69 : decode cX10_isSo 69 = .ok (.iload_n 2, 1) := by decide +kernel
theorem dX10_isSo_70 : decode cX10_isSo 70 = .ok (.invokevirtual 163, 3) := by decide +kernel
theorem dX10_isSo_73 : decode cX10_isSo 73 = .ok (.ifCond .eq 25, 3) := by decide +kernel
theorem dX10_isSo_76 : decode cX10_isSo 76 = .ok (.iload_n 3, 1) := by decide +kernel
theorem dX10_isSo_77 : decode cX10_isSo 77 = .ok (.i2l, 1) := by decide +kernel
theorem dX10_isSo_78 : decode cX10_isSo 78 = .ok (.ldc2_w 216, 3) := by decide +kernel
theorem dX10_isSo_81 : decode cX10_isSo 81 = .ok (.aload_n 0, 1) := by decide +kernel
theorem dX10_isSo_82 : decode cX10_isSo 82 = .ok (.getfield 132, 3) := by decide +kernel
theorem dX10_isSo_85 : decode cX10_isSo 85 = .ok (.iconst 1, 1) := by decide +kernel
theorem dX10_isSo_86 : decode cX10_isSo 86 = .ok (.isub, 1) := by decide +kernel
theorem dX10_isSo_87 : decode cX10_isSo 87 = .ok (.i2l, 1) := by decide +kernel
theorem dX10_isSo_88 : decode cX10_isSo 88 = .ok (.invokestatic 142, 3) := by decide +kernel
theorem dX10_isSo_91 : decode cX10_isSo 91 = .ok (.ifCond .eq 7, 3) := by decide +kernel
theorem dX10_isSo_94 : decode cX10_isSo 94 = .ok (.iconst 1, 1) := by decide +kernel
theorem dX10_isSo_95 : decode cX10_isSo 95 = .ok (.goto 4, 3) := by decide +kernel
theorem dX10_isSo_98 : decode cX10_isSo 98 = .ok (.iconst 0, 1) := by decide +kernel
theorem dX10_isSo_99 : decode cX10_isSo 99 = .ok (.ireturn, 1) := by decide +kernel
theorem dX10_isSo_100 : decode cX10_isSo 100 = .ok (.aload_n 0, 1) := by decide +kernel
theorem dX10_isSo_101 : decode cX10_isSo 101 = .ok (.iload_n 2, 1) := by decide +kernel
theorem dX10_isSo_102 : decode cX10_isSo 102 = .ok (.invokevirtual 163, 3) := by decide +kernel
theorem dX10_isSo_105 : decode cX10_isSo 105 = .ok (.ifCond .eq 11, 3) := by decide +kernel
theorem dX10_isSo_108 : decode cX10_isSo 108 = .ok (.iload_n 3, 1) := by decide +kernel
theorem dX10_isSo_109 : decode cX10_isSo 109 = .ok (.ifCond .lt 7, 3) := by decide +kernel
theorem dX10_isSo_112 : decode cX10_isSo 112 = .ok (.iconst 1, 1) := by decide +kernel
theorem dX10_isSo_113 : decode cX10_isSo 113 = .ok (.goto 4, 3) := by decide +kernel
theorem dX10_isSo_116 : decode cX10_isSo 116 = .ok (.iconst 0, 1) := by decide +kernel
theorem dX10_isSo_117 : decode cX10_isSo 117 = .ok (.ireturn, 1) := by decide +kernel
theorem dX10_isSo_118 : decode cX10_isSo 118 = .ok (.iload_n 2, 1) := by decide +kernel
theorem dX10_isSo_119 : decode cX10_isSo 119 = .ok (.i2l, 1) := by decide +kernel
theorem dX10_isSo_120 : decode cX10_isSo 120 = .ok (.lconst 0, 1) := by decide +kernel
theorem dX10_isSo_121 : decode cX10_isSo 121 = .ok (.aload_n 0, 1) := by decide +kernel
theorem dX10_isSo_122 : decode cX10_isSo 122 = .ok (.getfield 196, 3) := by decide +kernel
theorem dX10_isSo_125 : decode cX10_isSo 125 = .ok (.iconst 1, 1) := by decide +kernel
theorem dX10_isSo_126 : decode cX10_isSo 126 = .ok (.isub, 1) := by decide +kernel
theorem dX10_isSo_127 : decode cX10_isSo 127 = .ok (.i2l, 1) := by decide +kernel
theorem dX10_isSo_128 : decode cX10_isSo 128 = .ok (.invokestatic 142, 3) := by decide +kernel
theorem dX10_isSo_131 : decode cX10_isSo 131 = .ok (.ireturn, 1) := by decide +kernel
theorem dX10_isSo_132 : decode cX10_isSo 132 = .ok (.aload_n 0, 1) := by decide +kernel
theorem dX10_isSo_133 : decode cX10_isSo 133 = .ok (.iload_n 2, 1) := by decide +kernel
theorem dX10_isSo_134 : decode cX10_isSo 134 = .ok (.invokevirtual 218, 3) := by decide +kernel
theorem dX10_isSo_137 : decode cX10_isSo 137 = .ok (.ireturn, 1) := by decide +kernel
theorem dX10_isSo_138 : decode cX10_isSo 138 = .ok (.aload_n 0, 1) := by decide +kernel
theorem dX10_isSo_139 : decode cX10_isSo 139 = .ok (.iload_n 2, 1) := by decide +kernel
theorem dX10_isSo_140 : decode cX10_isSo 140 = .ok (.invokevirtual 218, 3) := by decide +kernel
theorem dX10_isSo_143 : decode cX10_isSo 143 = .ok (.ifCond .eq 35, 3) := by decide +kernel
theorem dX10_isSo_146 : decode cX10_isSo 146 = .ok (.aload_n 0, 1) := by decide +kernel
theorem dX10_isSo_147 : decode cX10_isSo 147 = .ok (.iload_n 3, 1) := by decide +kernel
theorem dX10_isSo_148 : decode cX10_isSo 148 = .ok (.invokevirtual 163, 3) := by decide +kernel
theorem dX10_isSo_151 : decode cX10_isSo 151 = .ok (.ifCond .eq 27, 3) := by decide +kernel
theorem dX10_isSo_154 : decode cX10_isSo 154 = .ok (.aload_n 0, 1) := by decide +kernel
theorem dX10_isSo_155 : decode cX10_isSo 155 = .ok (.getfield 78, 3) := by decide +kernel
theorem dX10_isSo_158 : decode cX10_isSo 158 = .ok (.iload_n 2, 1) := by decide +kernel
theorem dX10_isSo_159 : decode cX10_isSo 159 = .ok (.iaload, 1) := by decide +kernel
theorem dX10_isSo_160 : decode cX10_isSo 160 = .ok (.ifCond .ne 14, 3) := by decide +kernel
theorem dX10_isSo_163 : decode cX10_isSo 163 = .ok (.aload_n 0, 1) := by decide +kernel
theorem dX10_isSo_164 : decode cX10_isSo 164 = .ok (.getfield 87, 3) := by decide +kernel
theorem dX10_isSo_167 : decode cX10_isSo 167 = .ok (.iload_n 2, 1) := by decide +kernel
theorem dX10_isSo_168 : decode cX10_isSo 168 = .ok (.iaload, 1) := by decide +kernel
theorem dX10_isSo_169 : decode cX10_isSo 169 = .ok (.bipush 6, 2) := by decide +kernel
theorem dX10_isSo_171 : decode cX10_isSo 171 = .ok (.if_icmp .ge 7, 3) := by decide +kernel
theorem dX10_isSo_174 : decode cX10_isSo 174 = .ok (.iconst 1, 1) := by decide +kernel
theorem dX10_isSo_175 : decode cX10_isSo 175 = .ok (.goto 4, 3) := by decide +kernel
theorem dX10_isSo_178 : decode cX10_isSo 178 = .ok (.iconst 0, 1) := by decide +kernel
theorem dX10_isSo_179 : decode cX10_isSo 179 = .ok (.ireturn, 1) := by decide +kernel
theorem dX10_isSo_180 : decode cX10_isSo 180 = .ok (.iconst 0, 1) := by decide +kernel
theorem dX10_isSo_181 : decode cX10_isSo 181 = .ok (.ireturn, 1) := by decide +kernel
theorem dX10_isSo_182 : decode cX10_isSo 182 = .ok (.aload_n 0, 1) := by decide +kernel
theorem dX10_isSo_183 : decode cX10_isSo 183 = .ok (.iload_n 2, 1) := by decide +kernel
theorem dX10_isSo_184 : decode cX10_isSo 184 = .ok (.invokevirtual 172, 3) := by decide +kernel
theorem dX10_isSo_187 : decode cX10_isSo 187 = .ok (.ireturn, 1) := by decide +kernel
theorem dX10_isSo_188 : decode cX10_isSo 188 = .ok (.iload_n 2, 1) := by decide +kernel
theorem dX10_isSo_189 : decode cX10_isSo 189 = .ok (.ifCond .lt 12, 3) := by decide +kernel
theorem dX10_isSo_192 : decode cX10_isSo 192 = .ok (.iload_n 3, 1) := by decide +kernel
theorem dX10_isSo_193 : decode cX10_isSo 193 = .ok (.iload_n 2, 1) := by decide +kernel
theorem dX10_isSo_194 : decode cX10_isSo 194 = .ok (.if_icmp .lt 7, 3) := by decide +kernel
theorem dX10_isSo_197 : decode cX10_isSo 197 = .ok (.iconst 1, 1) := by decide +kernel
theorem dX10_isSo_198 : decode cX10_isSo 198 = .ok (.goto 4, 3) := by decide +kernel
theorem dX10_isSo_201 : decode cX10_isSo 201 = .ok (.iconst 0, 1) := by decide +kernel
theorem dX10_isSo_202 : decode cX10_isSo 202 = .ok (.ireturn, 1) := by decide +kernel
theorem dX10_isSo_203 : decode cX10_isSo 203 = .ok (.iconst 1, 1) := by decide +kernel
theorem dX10_isSo_204 : decode cX10_isSo 204 = .ok (.ireturn, 1) := by decide +kernel
theorem dX10_work_0 : decode cX10_work 0 = .ok (.aload_n 0, 1) := by decide +kernel
theorem dX10_work_1 : decode cX10_work 1 = .ok (.getfield 203, 3) := by decide +kernel
theorem dX10_work_4 : decode cX10_work 4 = .ok (.iconst 1, 1) := by decide +kernel
theorem dX10_work_5 : decode cX10_work 5 = .ok (.isub, 1) := by decide +kernel
theorem dX10_work_6 : decode cX10_work 6 = .ok (.istore_n 1, 1) := by decide +kernel
theorem dX10_work_7 : decode cX10_work 7 = .ok (.aload_n 0, 1) := by decide +kernel
theorem dX10_work_8 : decode cX10_work 8 = .ok (.getfield 120, 3) := by decide +kernel
theorem dX10_work_11 : decode cX10_work 11 = .ok (.iload_n 1, 1) := by decide +kernel
theorem dX10_work_12 : decode cX10_work 12 = .ok (.iaload, 1) := by decide +kernel
theorem dX10_work_13 : decode cX10_work 13 = .ok (.istore_n 2, 1) := by decide +kernel
theorem dX10_work_14 : decode cX10_work 14 = .ok (.bipush 8, 2) := by decide +kernel
theorem dX10_work_16 : decode cX10_work 16 = .ok (.iload_n 2, 1) := by decide +kernel
theorem dX10_work_17 : decode cX10_work 17 = .ok (.imul, 1) := by decide +kernel
theorem dX10_work_18 : decode cX10_work 18 = .ok (.aload_n 0, 1) := by decide +kernel
theorem dX10_work_19 : decode cX10_work 19 = .ok (.getfield 123, 3) := by decide +kernel
theorem dX10_work_22 : decode cX10_work 22 = .ok (.iload_n 1, 1) := by decide +kernel
theorem dX10_work_23 : decode cX10_work 23 = .ok (.iaload, 1) := by decide +kernel
theorem dX10_work_24 : decode cX10_work 24 = .ok (.iadd, 1) := by decide +kernel
theorem dX10_work_25 : decode cX10_work 25 = .ok (.istore_n 3, 1) := by decide +kernel
theorem dX10_work_26 : decode cX10_work 26 = .ok (.aload_n 0, 1) := by decide +kernel
theorem dX10_work_27 : decode cX10_work 27 = .ok (.getfield 13, 3) := by decide +kernel
theorem dX10_work_30 : decode cX10_work 30 = .ok (.iload_n 3, 1) := by decide +kernel
theorem dX10_work_31 : decode cX10_work 31 = .ok (.iaload, 1) := by decide +kernel
theorem dX10_work_32 : decode cX10_work 32 = .ok (.istore 4, 2) := by decide +kernel
theorem dX10_work_34 : decode cX10_work 34 = .ok (.aload_n 0, 1) := by decide +kernel
theorem dX10_work_35 : decode cX10_work 35 = .ok (.getfield 16, 3) := by decide +kernel
theorem dX10_work_38 : decode cX10_work 38 = .ok (.iload_n 3, 1) := by decide +kernel
theorem dX10_work_39 : decode cX10_work 39 = .ok (.iaload, 1) := by decide +kernel
theorem dX10_work_40 : decode cX10_work 40 = .ok (.istore 5, 2) := by decide +kernel
theorem dX10_work_42 : decode cX10_work 42 = .ok (.aload_n 0, 1) := by decide +kernel
theorem dX10_work_43 : decode cX10_work 43 = .ok (.getfield 19, 3) := by decide +kernel
theorem dX10_work_46 : decode cX10_work 46 = .ok (.iload_n 3, 1) := by decide +kernel
theorem dX10_work_47 : decode cX10_work 47 = .ok (.iaload, 1) := by decide +kernel
theorem dX10_work_48 : decode cX10_work 48 = .ok (.istore 6, 2) := by decide +kernel
theorem dX10_work_50 : decode cX10_work 50 = .ok (.aload_n 0, 1) := by decide +kernel
theorem dX10_work_51 : decode cX10_work 51 = .ok (.getfield 123, 3) := by decide +kernel
theorem dX10_work_54 : decode cX10_work 54 = .ok (.iload_n 1, 1) := by decide +kernel
theorem dX10_work_55 : decode cX10_work 55 = .ok (.dup2, 1) := by decide +kernel
theorem dX10_work_56 : decode cX10_work 56 = .ok (.iaload, 1) := by decide +kernel
theorem dX10_work_57 : decode cX10_work 57 = .ok (.iconst 1, 1) := by decide +kernel
theorem dX10_work_58 : decode cX10_work 58 = .ok (.iadd, 1) := by decide +kernel
theorem dX10_work_59 : decode cX10_work 59 = .ok (.iastore, 1) := by decide +kernel
theorem dX10_work_60 : decode cX10_work 60 = .ok (.aload_n 0, 1) := by decide +kernel
theorem dX10_work_61 : decode cX10_work 61 = .ok (.dup, 1) := by decide +kernel
theorem dX10_work_62 : decode cX10_work 62 = .ok (.getfield 221, 3) := by decide +kernel
theorem dX10_work_65 : decode cX10_work 65 = .ok (.iconst 1, 1) := by decide +kernel
theorem dX10_work_66 : decode cX10_work 66 = .ok (.iadd, 1) := by decide +kernel
theorem dX10_work_67 : decode cX10_work 67 = .ok (.putfield 221, 3) := by decide +kernel
theorem dX10_work_70 : decode cX10_work 70 = .ok (.aload_n 0, 1) := by decide +kernel
theorem dX10_work_71 : decode cX10_work 71 = .ok (.getfield 221, 3) := by decide +kernel
theorem dX10_work_74 : decode cX10_work 74 = .ok (.sipush 1000, 3) := by decide +kernel
theorem dX10_work_77 : decode cX10_work 77 = .ok (.if_icmp .gt 16, 3) := by decide +kernel
theorem dX10_work_80 : decode cX10_work 80 = .ok (.aload_n 0, 1) := by decide +kernel
theorem dX10_work_81 : decode cX10_work 81 = .ok (.iload 4, 2) := by decide +kernel
theorem dX10_work_83 : decode cX10_work 83 = .ok (.iload 5, 2) := by decide +kernel
theorem dX10_work_85 : decode cX10_work 85 = .ok (.iload 6, 2) := by decide +kernel
theorem dX10_work_87 : decode cX10_work 87 = .ok (.invokevirtual 224, 3) := by decide +kernel
theorem dX10_work_90 : decode cX10_work 90 = .ok (.ifCond .ne 24, 3) := by decide +kernel
theorem dX10_work_93 : decode cX10_work 93 = .ok (.aload_n 0, 1) := by decide +kernel
theorem dX10_work_94 : decode cX10_work 94 = .ok (.aload_n 0, 1) := by decide +kernel
theorem dX10_work_95 : decode cX10_work 95 = .ok (.getfield 189, 3) := by decide +kernel
theorem dX10_work_98 : decode cX10_work 98 = .ok (.iconst 2, 1) := by decide +kernel
theorem dX10_work_99 : decode cX10_work 99 = .ok (.iload_n 2, 1) := by decide +kernel
theorem dX10_work_100 : decode cX10_work 100 = .ok (.invokevirtual 155, 3) := by decide +kernel
theorem dX10_work_103 : decode cX10_work 103 = .ok (.aload_n 0, 1) := by decide +kernel
theorem dX10_work_104 : decode cX10_work 104 = .ok (.dup, 1) := by decide +kernel
theorem dX10_work_105 : decode cX10_work 105 = .ok (.getfield 203, 3) := by decide +kernel
theorem dX10_work_108 : decode cX10_work 108 = .ok (.iconst 1, 1) := by decide +kernel
theorem dX10_work_109 : decode cX10_work 109 = .ok (.isub, 1) := by decide +kernel
theorem dX10_work_110 : decode cX10_work 110 = .ok (.putfield 203, 3) := by decide +kernel
theorem dX10_work_113 : decode cX10_work 113 = .ok (.return_, 1) := by decide +kernel
theorem dX10_work_114 : decode cX10_work 114 = .ok (.iload 4, 2) := by decide +kernel
theorem dX10_work_116 : decode cX10_work 116 = .ok (.tableswitch 238 0 12 #[68, 82, 125, 142, 153, 153, 169, 181, 192, 238, 201, 213, 227], 68) := by decide +kernel
theorem dX10_work_184 : decode cX10_work 184 = .ok (.aload_n 0, 1) := by decide +kernel
theorem dX10_work_185 : decode cX10_work 185 = .ok (.aload_n 0, 1) := by decide +kernel
theorem dX10_work_186 : decode cX10_work 186 = .ok (.getfield 189, 3) := by decide +kernel
theorem dX10_work_189 : decode cX10_work 189 = .ok (.iconst 0, 1) := by decide +kernel
theorem dX10_work_190 : decode cX10_work 190 = .ok (.iload 5, 2) := by decide +kernel
theorem dX10_work_192 : decode cX10_work 192 = .ok (.invokevirtual 155, 3) := by decide +kernel
theorem dX10_work_195 : decode cX10_work 195 = .ok (.goto 167, 3) := by decide +kernel
theorem dX10_work_198 : decode cX10_work 198 = .ok (.aload_n 0, 1) := by decide +kernel
theorem dX10_work_199 : decode cX10_work 199 = .ok (.iload 6, 2) := by decide +kernel
theorem dX10_work_201 : decode cX10_work 201 = .ok (.iconst (-1), 1) := by decide +kernel
theorem dX10_work_202 : decode cX10_work 202 = .ok (.if_icmp .ne 10, 3) := by decide +kernel
theorem dX10_work_205 : decode cX10_work 205 = .ok (.aload_n 0, 1) := by decide +kernel
theorem dX10_work_206 : decode cX10_work 206 = .ok (.getfield 189, 3) := by decide +kernel
theorem dX10_work_209 : decode cX10_work 209 = .ok (.goto 19, 3) := by decide +kernel
theorem dX10_work_212 : decode cX10_work 212 = .ok (.iload 6, 2) := by decide +kernel
theorem dX10_work_214 : decode cX10_work 214 = .ok (.bipush (-2), 2) := by decide +kernel
theorem dX10_work_216 : decode cX10_work 216 = .ok (.if_icmp .ne 10, 3) := by decide +kernel
theorem dX10_work_219 : decode cX10_work 219 = .ok (.aload_n 0, 1) := by decide +kernel
theorem dX10_work_220 : decode cX10_work 220 = .ok (.invokevirtual 228, 3) := by decide +kernel
theorem dX10_work_223 : decode cX10_work 223 = .ok (.goto 5, 3) := by decide +kernel
theorem dX10_work_226 : decode cX10_work 226 = .ok (.iload 6, 2) := by decide +kernel
theorem dX10_work_228 : decode cX10_work 228 = .ok (.iconst 0, 1) := by decide +kernel
theorem dX10_work_229 : decode cX10_work 229 = .ok (.iload 5, 2) := by decide +kernel
theorem dX10_work_231 : decode cX10_work 231 = .ok (.iconst 0, 1) := by decide +kernel
theorem dX10_work_232 : decode cX10_work 232 = .ok (.iload 5, 2) := by decide +kernel
theorem dX10_work_234 : decode cX10_work 234 = .ok (.invokevirtual 212, 3) := by decide +kernel
theorem dX10_work_237 : decode cX10_work 237 = .ok (.pop, 1) := by decide +kernel
theorem dX10_work_238 : decode cX10_work 238 = .ok (.goto 124, 3) := by decide +kernel
theorem dX10_work_241 : decode cX10_work 241 = .ok (.aload_n 0, 1) := by decide +kernel
theorem dX10_work_242 : decode cX10_work 242 = .ok (.iload 5, 2) := by decide +kernel
theorem dX10_work_244 : decode cX10_work 244 = .ok (.iload 6, 2) := by decide +kernel
theorem dX10_work_246 : decode cX10_work 246 = .ok (.i2l, 1) := by decide +kernel
theorem dX10_work_247 : decode cX10_work 247 = .ok (.aload_n 0, 1) := by decide +kernel
theorem dX10_work_248 : decode cX10_work 248 = .ok (.getfield 189, 3) := by decide +kernel
theorem dX10_work_251 : decode cX10_work 251 = .ok (.invokevirtual 232, 3) := by decide +kernel
theorem dX10_work_254 : decode cX10_work 254 = .ok (.pop, 1) := by decide +kernel
theorem dX10_work_255 : decode cX10_work 255 = .ok (.goto 107, 3) := by decide +kernel
theorem dX10_work_258 : decode cX10_work 258 = .ok (.aload_n 0, 1) := by decide +kernel
theorem dX10_work_259 : decode cX10_work 259 = .ok (.getfield 72, 3) := by decide +kernel
theorem dX10_work_262 : decode cX10_work 262 = .ok (.iload 5, 2) := by decide +kernel
theorem dX10_work_264 : decode cX10_work 264 = .ok (.iconst (-1), 1) := by decide +kernel
theorem dX10_work_265 : decode cX10_work 265 = .ok (.iastore, 1) := by decide +kernel
theorem dX10_work_266 : decode cX10_work 266 = .ok (.goto 96, 3) := by decide +kernel
theorem dX10_work_269 : decode cX10_work 269 = .ok (.aload_n 0, 1) := by decide +kernel
theorem dX10_work_270 : decode cX10_work 270 = .ok (.iload 5, 2) := by decide +kernel
theorem dX10_work_272 : decode cX10_work 272 = .ok (.iload 4, 2) := by decide +kernel
theorem dX10_work_274 : decode cX10_work 274 = .ok (.iconst 3, 1) := by decide +kernel
theorem dX10_work_275 : decode cX10_work 275 = .ok (.isub, 1) := by decide +kernel
theorem dX10_work_276 : decode cX10_work 276 = .ok (.iload 6, 2) := by decide +kernel
theorem dX10_work_278 : decode cX10_work 278 = .ok (.invokevirtual 236, 3) := by decide +kernel
theorem dX10_work_281 : decode cX10_work 281 = .ok (.pop, 1) := by decide +kernel
theorem dX10_work_282 : decode cX10_work 282 = .ok (.goto 80, 3) := by decide +kernel
theorem dX10_work_285 : decode cX10_work 285 = .ok (.aload_n 0, 1) := by decide +kernel
theorem dX10_work_286 : decode cX10_work 286 = .ok (.iload 5, 2) := by decide +kernel
theorem dX10_work_288 : decode cX10_work 288 = .ok (.iconst 3, 1) := by decide +kernel
theorem dX10_work_289 : decode cX10_work 289 = .ok (.iconst 0, 1) := by decide +kernel
theorem dX10_work_290 : decode cX10_work 290 = .ok (.invokevirtual 236, 3) := by decide +kernel
theorem dX10_work_293 : decode cX10_work 293 = .ok (.pop, 1) := by decide +kernel
theorem dX10_work_294 : decode cX10_work 294 = .ok (.goto 68, 3) := by decide +kernel
theorem dX10_work_297 : decode cX10_work 297 = .ok (.aload_n 0, 1) := by decide +kernel
theorem dX10_work_298 : decode cX10_work 298 = .ok (.iload 5, 2) := by decide +kernel
theorem dX10_work_300 : decode cX10_work 300 = .ok (.iload 6, 2) := by decide +kernel
theorem dX10_work_302 : decode cX10_work 302 = .ok (.invokevirtual 239, 3) := by decide +kernel
theorem dX10_work_305 : decode cX10_work 305 = .ok (.goto 57, 3) := by decide +kernel
theorem dX10_work_308 : decode cX10_work 308 = .ok (.aload_n 0, 1) := by decide +kernel
theorem dX10_work_309 : decode cX10_work 309 = .ok (.iload 5, 2) := by decide +kernel
theorem dX10_work_311 : decode cX10_work 311 = .ok (.invokevirtual 242, 3) := by decide +kernel
theorem dX10_work_314 : decode cX10_work 314 = .ok (.goto 48, 3) := by decide +kernel
theorem dX10_work_317 : decode cX10_work 317 = .ok (.aload_n 0, 1) := by decide +kernel
theorem dX10_work_318 : decode cX10_work 318 = .ok (.iload 5, 2) := by decide +kernel
theorem dX10_work_320 : decode cX10_work 320 = .ok (.iload 6, 2) := by decide +kernel
theorem dX10_work_322 : decode cX10_work 322 = .ok (.invokevirtual 246, 3) := by decide +kernel
theorem dX10_work_325 : decode cX10_work 325 = .ok (.pop, 1) := by decide +kernel
theorem dX10_work_326 : decode cX10_work 326 = .ok (.goto 36, 3) := by decide +kernel
theorem dX10_work_329 : decode cX10_work 329 = .ok (.aload_n 0, 1) := by decide +kernel
theorem dX10_work_330 : decode cX10_work 330 = .ok (.iload 5, 2) := by decide +kernel
theorem dX10_work_332 : decode cX10_work 332 = .ok (.iconst 1, 1) := by decide +kernel
theorem dX10_work_333 : decode cX10_work 333 = .ok (.ixor, 1) := by decide +kernel
theorem dX10_work_334 : decode cX10_work 334 = .ok (.iload 6, 2) := by decide +kernel
theorem dX10_work_336 : decode cX10_work 336 = .ok (.invokevirtual 246, 3) := by decide +kernel
theorem dX10_work_339 : decode cX10_work 339 = .ok (.pop, 1) := by decide +kernel
theorem dX10_work_340 : decode cX10_work 340 = .ok (.goto 22, 3) := by decide +kernel
theorem dX10_work_343 : decode cX10_work 343 = .ok (.aload_n 0, 1) := by decide +kernel
theorem dX10_work_344 : decode cX10_work 344 = .ok (.iload 5, 2) := by decide +kernel
theorem dX10_work_346 : decode cX10_work 346 = .ok (.iload 6, 2) := by decide +kernel
theorem dX10_work_348 : decode cX10_work 348 = .ok (.invokevirtual 250, 3) := by decide +kernel
theorem dX10_work_351 : decode cX10_work 351 = .ok (.goto 11, 3) := by decide +kernel
theorem dX10_work_354 : decode cX10_work 354 = .ok (.aload_n 0, 1) := by decide +kernel
theorem dX10_work_355 : decode cX10_work 355 = .ok (.getfield 84, 3) := by decide +kernel
theorem dX10_work_358 : decode cX10_work 358 = .ok (.iload 5, 2) := by decide +kernel
theorem dX10_work_360 : decode cX10_work 360 = .ok (.iconst 1, 1) := by decide +kernel
theorem dX10_work_361 : decode cX10_work 361 = .ok (.bastore, 1) := by decide +kernel
theorem dX10_work_362 : decode cX10_work 362 = .ok (.return_, 1) := by decide +kernel
theorem dX10_listenAt_0 : decode cX10_listenAt 0 = .ok (.aload_n 0, 1) := by decide +kernel
theorem dX10_listenAt_1 : decode cX10_listenAt 1 = .ok (.getfield 78, 3) := by decide +kernel
theorem dX10_listenAt_4 : decode cX10_listenAt 4 = .ok (.iload_n 1, 1) := by decide +kernel
theorem dX10_listenAt_5 : decode cX10_listenAt 5 = .ok (.iaload, 1) := by decide +kernel
theorem dX10_listenAt_6 : decode cX10_listenAt 6 = .ok (.ifCond .eq 10, 3) := by decide +kernel
theorem dX10_listenAt_9 : decode cX10_listenAt 9 = .ok (.aload_n 0, 1) := by decide +kernel
theorem dX10_listenAt_10 : decode cX10_listenAt 10 = .ok (.iload_n 1, 1) := by decide +kernel
theorem dX10_listenAt_11 : decode cX10_listenAt 11 = .ok (.iload_n 2, 1) := by decide +kernel
theorem dX10_listenAt_12 : decode cX10_listenAt 12 = .ok (.invokevirtual 253, 3) := by decide +kernel
theorem dX10_listenAt_15 : decode cX10_listenAt 15 = .ok (.return_, 1) := by decide +kernel
theorem dX10_listenAt_16 : decode cX10_listenAt 16 = .ok (.aload_n 0, 1) := by decide +kernel
theorem dX10_listenAt_17 : decode cX10_listenAt 17 = .ok (.getfield 90, 3) := by decide +kernel
theorem dX10_listenAt_20 : decode cX10_listenAt 20 = .ok (.bipush 6, 2) := by decide +kernel
theorem dX10_listenAt_22 : decode cX10_listenAt 22 = .ok (.iload_n 1, 1) := by decide +kernel
theorem dX10_listenAt_23 : decode cX10_listenAt 23 = .ok (.imul, 1) := by decide +kernel
theorem dX10_listenAt_24 : decode cX10_listenAt 24 = .ok (.aload_n 0, 1) := by decide +kernel
theorem dX10_listenAt_25 : decode cX10_listenAt 25 = .ok (.getfield 87, 3) := by decide +kernel
theorem dX10_listenAt_28 : decode cX10_listenAt 28 = .ok (.iload_n 1, 1) := by decide +kernel
theorem dX10_listenAt_29 : decode cX10_listenAt 29 = .ok (.iaload, 1) := by decide +kernel
theorem dX10_listenAt_30 : decode cX10_listenAt 30 = .ok (.iadd, 1) := by decide +kernel
theorem dX10_listenAt_31 : decode cX10_listenAt 31 = .ok (.iload_n 2, 1) := by decide +kernel
theorem dX10_listenAt_32 : decode cX10_listenAt 32 = .ok (.iastore, 1) := by decide +kernel
theorem dX10_listenAt_33 : decode cX10_listenAt 33 = .ok (.aload_n 0, 1) := by decide +kernel
theorem dX10_listenAt_34 : decode cX10_listenAt 34 = .ok (.getfield 87, 3) := by decide +kernel
theorem dX10_listenAt_37 : decode cX10_listenAt 37 = .ok (.iload_n 1, 1) := by decide +kernel
theorem dX10_listenAt_38 : decode cX10_listenAt 38 = .ok (.dup2, 1) := by decide +kernel
theorem dX10_listenAt_39 : decode cX10_listenAt 39 = .ok (.iaload, 1) := by decide +kernel
theorem dX10_listenAt_40 : decode cX10_listenAt 40 = .ok (.iconst 1, 1) := by decide +kernel
theorem dX10_listenAt_41 : decode cX10_listenAt 41 = .ok (.iadd, 1) := by decide +kernel
theorem dX10_listenAt_42 : decode cX10_listenAt 42 = .ok (.iastore, 1) := by decide +kernel
theorem dX10_listenAt_43 : decode cX10_listenAt 43 = .ok (.return_, 1) := by decide +kernel
theorem dX10_await_0 : decode cX10_await 0 = .ok (.aload_n 0, 1) := by decide +kernel
theorem dX10_await_1 : decode cX10_await 1 = .ok (.getfield 78, 3) := by decide +kernel
theorem dX10_await_4 : decode cX10_await 4 = .ok (.iload_n 1, 1) := by decide +kernel
theorem dX10_await_5 : decode cX10_await 5 = .ok (.iaload, 1) := by decide +kernel
theorem dX10_await_6 : decode cX10_await 6 = .ok (.ifCond .eq 4, 3) := by decide +kernel
theorem dX10_await_9 : decode cX10_await 9 = .ok (.return_, 1) := by decide +kernel
theorem dX10_await_10 : decode cX10_await 10 = .ok (.aload_n 0, 1) := by decide +kernel
theorem dX10_await_11 : decode cX10_await 11 = .ok (.getfield 203, 3) := by decide +kernel
theorem dX10_await_14 : decode cX10_await 14 = .ok (.iconst 1, 1) := by decide +kernel
theorem dX10_await_15 : decode cX10_await 15 = .ok (.if_icmp .gt 16, 3) := by decide +kernel
theorem dX10_await_18 : decode cX10_await 18 = .ok (.aload_n 0, 1) := by decide +kernel
theorem dX10_await_19 : decode cX10_await 19 = .ok (.getfield 75, 3) := by decide +kernel
theorem dX10_await_22 : decode cX10_await 22 = .ok (.iload_n 1, 1) := by decide +kernel
theorem dX10_await_23 : decode cX10_await 23 = .ok (.iaload, 1) := by decide +kernel
theorem dX10_await_24 : decode cX10_await 24 = .ok (.aload_n 0, 1) := by decide +kernel
theorem dX10_await_25 : decode cX10_await 25 = .ok (.getfield 189, 3) := by decide +kernel
theorem dX10_await_28 : decode cX10_await 28 = .ok (.if_icmp .ne 14, 3) := by decide +kernel
theorem dX10_await_31 : decode cX10_await 31 = .ok (.aload_n 0, 1) := by decide +kernel
theorem dX10_await_32 : decode cX10_await 32 = .ok (.aload_n 0, 1) := by decide +kernel
theorem dX10_await_33 : decode cX10_await 33 = .ok (.getfield 189, 3) := by decide +kernel
theorem dX10_await_36 : decode cX10_await 36 = .ok (.iconst 3, 1) := by decide +kernel
theorem dX10_await_37 : decode cX10_await 37 = .ok (.iload_n 1, 1) := by decide +kernel
theorem dX10_await_38 : decode cX10_await 38 = .ok (.invokevirtual 155, 3) := by decide +kernel
theorem dX10_await_41 : decode cX10_await 41 = .ok (.return_, 1) := by decide +kernel
theorem dX10_await_42 : decode cX10_await 42 = .ok (.aload_n 0, 1) := by decide +kernel
theorem dX10_await_43 : decode cX10_await 43 = .ok (.getfield 40, 3) := by decide +kernel
theorem dX10_await_46 : decode cX10_await 46 = .ok (.aload_n 0, 1) := by decide +kernel
theorem dX10_await_47 : decode cX10_await 47 = .ok (.getfield 189, 3) := by decide +kernel
theorem dX10_await_50 : decode cX10_await 50 = .ok (.iconst 1, 1) := by decide +kernel
theorem dX10_await_51 : decode cX10_await 51 = .ok (.bastore, 1) := by decide +kernel
theorem dX10_await_52 : decode cX10_await 52 = .ok (.aload_n 0, 1) := by decide +kernel
theorem dX10_await_53 : decode cX10_await 53 = .ok (.getfield 44, 3) := by decide +kernel
theorem dX10_await_56 : decode cX10_await 56 = .ok (.aload_n 0, 1) := by decide +kernel
theorem dX10_await_57 : decode cX10_await 57 = .ok (.getfield 189, 3) := by decide +kernel
theorem dX10_await_60 : decode cX10_await 60 = .ok (.aload_n 0, 1) := by decide +kernel
theorem dX10_await_61 : decode cX10_await 61 = .ok (.getfield 120, 3) := by decide +kernel
theorem dX10_await_64 : decode cX10_await 64 = .ok (.iconst 0, 1) := by decide +kernel
theorem dX10_await_65 : decode cX10_await 65 = .ok (.iaload, 1) := by decide +kernel
theorem dX10_await_66 : decode cX10_await 66 = .ok (.iastore, 1) := by decide +kernel
theorem dX10_await_67 : decode cX10_await 67 = .ok (.aload_n 0, 1) := by decide +kernel
theorem dX10_await_68 : decode cX10_await 68 = .ok (.getfield 47, 3) := by decide +kernel
theorem dX10_await_71 : decode cX10_await 71 = .ok (.aload_n 0, 1) := by decide +kernel
theorem dX10_await_72 : decode cX10_await 72 = .ok (.getfield 189, 3) := by decide +kernel
theorem dX10_await_75 : decode cX10_await 75 = .ok (.aload_n 0, 1) := by decide +kernel
theorem dX10_await_76 : decode cX10_await 76 = .ok (.getfield 123, 3) := by decide +kernel
theorem dX10_await_79 : decode cX10_await 79 = .ok (.iconst 0, 1) := by decide +kernel
theorem dX10_await_80 : decode cX10_await 80 = .ok (.iaload, 1) := by decide +kernel
theorem dX10_await_81 : decode cX10_await 81 = .ok (.iastore, 1) := by decide +kernel
theorem dX10_await_82 : decode cX10_await 82 = .ok (.aload_n 0, 1) := by decide +kernel
theorem dX10_await_83 : decode cX10_await 83 = .ok (.getfield 50, 3) := by decide +kernel
theorem dX10_await_86 : decode cX10_await 86 = .ok (.aload_n 0, 1) := by decide +kernel
theorem dX10_await_87 : decode cX10_await 87 = .ok (.getfield 189, 3) := by decide +kernel
theorem dX10_await_90 : decode cX10_await 90 = .ok (.iload_n 1, 1) := by decide +kernel
theorem dX10_await_91 : decode cX10_await 91 = .ok (.iastore, 1) := by decide +kernel
theorem dX10_await_92 : decode cX10_await 92 = .ok (.aload_n 0, 1) := by decide +kernel
theorem dX10_await_93 : decode cX10_await 93 = .ok (.iconst 0, 1) := by decide +kernel
theorem dX10_await_94 : decode cX10_await 94 = .ok (.putfield 203, 3) := by decide +kernel
theorem dX10_await_97 : decode cX10_await 97 = .ok (.return_, 1) := by decide +kernel
theorem dX10_pass_0 : decode cX10_pass 0 = .ok (.aload_n 0, 1) := by decide +kernel
theorem dX10_pass_1 : decode cX10_pass 1 = .ok (.getfield 203, 3) := by decide +kernel
theorem dX10_pass_4 : decode cX10_pass 4 = .ok (.iconst 1, 1) := by decide +kernel
theorem dX10_pass_5 : decode cX10_pass 5 = .ok (.isub, 1) := by decide +kernel
theorem dX10_pass_6 : decode cX10_pass 6 = .ok (.istore_n 1, 1) := by decide +kernel
theorem dX10_pass_7 : decode cX10_pass 7 = .ok (.aload_n 0, 1) := by decide +kernel
theorem dX10_pass_8 : decode cX10_pass 8 = .ok (.getfield 120, 3) := by decide +kernel
theorem dX10_pass_11 : decode cX10_pass 11 = .ok (.iload_n 1, 1) := by decide +kernel
theorem dX10_pass_12 : decode cX10_pass 12 = .ok (.iaload, 1) := by decide +kernel
theorem dX10_pass_13 : decode cX10_pass 13 = .ok (.istore_n 2, 1) := by decide +kernel
theorem dX10_pass_14 : decode cX10_pass 14 = .ok (.bipush 6, 2) := by decide +kernel
theorem dX10_pass_16 : decode cX10_pass 16 = .ok (.iload_n 2, 1) := by decide +kernel
theorem dX10_pass_17 : decode cX10_pass 17 = .ok (.imul, 1) := by decide +kernel
theorem dX10_pass_18 : decode cX10_pass 18 = .ok (.aload_n 0, 1) := by decide +kernel
theorem dX10_pass_19 : decode cX10_pass 19 = .ok (.getfield 123, 3) := by decide +kernel
theorem dX10_pass_22 : decode cX10_pass 22 = .ok (.iload_n 1, 1) := by decide +kernel
theorem dX10_pass_23 : decode cX10_pass 23 = .ok (.iaload, 1) := by decide +kernel
theorem dX10_pass_24 : decode cX10_pass 24 = .ok (.iadd, 1) := by decide +kernel
theorem dX10_pass_25 : decode cX10_pass 25 = .ok (.istore_n 3, 1) := by decide +kernel
theorem dX10_pass_26 : decode cX10_pass 26 = .ok (.aload_n 0, 1) := by decide +kernel
theorem dX10_pass_27 : decode cX10_pass 27 = .ok (.getfield 126, 3) := by decide +kernel
theorem dX10_pass_30 : decode cX10_pass 30 = .ok (.iload_n 1, 1) := by decide +kernel
theorem dX10_pass_31 : decode cX10_pass 31 = .ok (.iaload, 1) := by decide +kernel
theorem dX10_pass_32 : decode cX10_pass 32 = .ok (.istore 4, 2) := by decide +kernel
theorem dX10_pass_34 : decode cX10_pass 34 = .ok (.aload_n 0, 1) := by decide +kernel
theorem dX10_pass_35 : decode cX10_pass 35 = .ok (.getfield 123, 3) := by decide +kernel
theorem dX10_pass_38 : decode cX10_pass 38 = .ok (.iload_n 1, 1) := by decide +kernel
theorem dX10_pass_39 : decode cX10_pass 39 = .ok (.iaload, 1) := by decide +kernel
theorem dX10_pass_40 : decode cX10_pass 40 = .ok (.aload_n 0, 1) := by decide +kernel
theorem dX10_pass_41 : decode cX10_pass 41 = .ok (.getfield 96, 3) := by decide +kernel
theorem dX10_pass_44 : decode cX10_pass 44 = .ok (.iload_n 2, 1) := by decide +kernel
theorem dX10_pass_45 : decode cX10_pass 45 = .ok (.iaload, 1) := by decide +kernel
theorem dX10_pass_46 : decode cX10_pass 46 = .ok (.if_icmp .ne 50, 3) := by decide +kernel
theorem dX10_pass_49 : decode cX10_pass 49 = .ok (.aload_n 0, 1) := by decide +kernel
theorem dX10_pass_50 : decode cX10_pass 50 = .ok (.getfield 129, 3) := by decide +kernel
theorem dX10_pass_53 : decode cX10_pass 53 = .ok (.iload_n 1, 1) := by decide +kernel
theorem dX10_pass_54 : decode cX10_pass 54 = .ok (.baload, 1) := by decide +kernel
theorem dX10_pass_55 : decode cX10_pass 55 = .ok (.ifCond .eq 18, 3) := by decide +kernel
theorem dX10_pass_58 : decode cX10_pass 58 = .ok (.aload_n 0, 1) := by decide +kernel
theorem dX10_pass_59 : decode cX10_pass 59 = .ok (.aload_n 0, 1) := by decide +kernel
theorem dX10_pass_60 : decode cX10_pass 60 = .ok (.getfield 189, 3) := by decide +kernel
theorem dX10_pass_63 : decode cX10_pass 63 = .ok (.iconst 2, 1) := by decide +kernel
theorem dX10_pass_64 : decode cX10_pass 64 = .ok (.iconst (-1), 1) := by decide +kernel
theorem dX10_pass_65 : decode cX10_pass 65 = .ok (.iload_n 2, 1) := by decide +kernel
theorem dX10_pass_66 : decode cX10_pass 66 = .ok (.isub, 1) := by decide +kernel
theorem dX10_pass_67 : decode cX10_pass 67 = .ok (.invokevirtual 155, 3) := by decide +kernel
theorem dX10_pass_70 : decode cX10_pass 70 = .ok (.goto 15, 3) := by decide +kernel
theorem dX10_pass_73 : decode cX10_pass 73 = .ok (.aload_n 0, 1) := by decide +kernel
theorem dX10_pass_74 : decode cX10_pass 74 = .ok (.aload_n 0, 1) := by decide +kernel
theorem dX10_pass_75 : decode cX10_pass 75 = .ok (.getfield 189, 3) := by decide +kernel
theorem dX10_pass_78 : decode cX10_pass 78 = .ok (.bipush 8, 2) := by decide +kernel
theorem dX10_pass_80 : decode cX10_pass 80 = .ok (.iload 4, 2) := by decide +kernel
theorem dX10_pass_82 : decode cX10_pass 82 = .ok (.invokevirtual 155, 3) := by decide +kernel
theorem dX10_pass_85 : decode cX10_pass 85 = .ok (.aload_n 0, 1) := by decide +kernel
theorem dX10_pass_86 : decode cX10_pass 86 = .ok (.dup, 1) := by decide +kernel
theorem dX10_pass_87 : decode cX10_pass 87 = .ok (.getfield 203, 3) := by decide +kernel
theorem dX10_pass_90 : decode cX10_pass 90 = .ok (.iconst 1, 1) := by decide +kernel
theorem dX10_pass_91 : decode cX10_pass 91 = .ok (.isub, 1) := by decide +kernel
theorem dX10_pass_92 : decode cX10_pass 92 = .ok (.putfield 203, 3) := by decide +kernel
theorem dX10_pass_95 : decode cX10_pass 95 = .ok (.return_, 1) := by decide +kernel
theorem dX10_pass_96 : decode cX10_pass 96 = .ok (.aload_n 0, 1) := by decide +kernel
theorem dX10_pass_97 : decode cX10_pass 97 = .ok (.getfield 123, 3) := by decide +kernel
theorem dX10_pass_100 : decode cX10_pass 100 = .ok (.iload_n 1, 1) := by decide +kernel
theorem dX10_pass_101 : decode cX10_pass 101 = .ok (.dup2, 1) := by decide +kernel
theorem dX10_pass_102 : decode cX10_pass 102 = .ok (.iaload, 1) := by decide +kernel
theorem dX10_pass_103 : decode cX10_pass 103 = .ok (.iconst 1, 1) := by decide +kernel
theorem dX10_pass_104 : decode cX10_pass 104 = .ok (.iadd, 1) := by decide +kernel
theorem dX10_pass_105 : decode cX10_pass 105 = .ok (.iastore, 1) := by decide +kernel
theorem dX10_pass_106 : decode cX10_pass 106 = .ok (.aload_n 0, 1) := by decide +kernel
theorem dX10_pass_107 : decode cX10_pass 107 = .ok (.getfield 99, 3) := by decide +kernel
theorem dX10_pass_110 : decode cX10_pass 110 = .ok (.iload_n 3, 1) := by decide +kernel
theorem dX10_pass_111 : decode cX10_pass 111 = .ok (.iaload, 1) := by decide +kernel
theorem dX10_pass_112 : decode cX10_pass 112 = .ok (.istore 5, 2) := by decide +kernel
theorem dX10_pass_114 : decode cX10_pass 114 = .ok (.aload_n 0, 1) := by decide +kernel
theorem dX10_pass_115 : decode cX10_pass 115 = .ok (.getfield 129, 3) := by decide +kernel
theorem dX10_pass_118 : decode cX10_pass 118 = .ok (.iload_n 1, 1) := by decide +kernel
theorem dX10_pass_119 : decode cX10_pass 119 = .ok (.baload, 1) := by decide +kernel
theorem dX10_pass_120 : decode cX10_pass 120 = .ok (.ifCond .eq 21, 3) := by decide +kernel
theorem dX10_pass_123 : decode cX10_pass 123 = .ok (.iload 5, 2) := by decide +kernel
theorem dX10_pass_125 : decode cX10_pass 125 = .ok (.bipush 6, 2) := by decide +kernel
theorem dX10_pass_127 : decode cX10_pass 127 = .ok (.if_icmp .ne 13, 3) := by decide +kernel
theorem dX10_pass_130 : decode cX10_pass 130 = .ok (.aload_n 0, 1) := by decide +kernel
theorem dX10_pass_131 : decode cX10_pass 131 = .ok (.dup, 1) := by decide +kernel
theorem dX10_pass_132 : decode cX10_pass 132 = .ok (.getfield 203, 3) := by decide +kernel
theorem dX10_pass_135 : decode cX10_pass 135 = .ok (.iconst 1, 1) := by decide +kernel
theorem dX10_pass_136 : decode cX10_pass 136 = .ok (.isub, 1) := by decide +kernel
theorem dX10_pass_137 : decode cX10_pass 137 = .ok (.putfield 203, 3) := by decide +kernel
theorem dX10_pass_140 : decode cX10_pass 140 = .ok (.return_, 1) := by decide +kernel
theorem dX10_pass_141 : decode cX10_pass 141 = .ok (.iload 5, 2) := by decide +kernel
theorem dX10_pass_143 : decode cX10_pass 143 = .ok (.bipush 6, 2) := by decide +kernel
theorem dX10_pass_145 : decode cX10_pass 145 = .ok (.if_icmp .ne 4, 3) := by decide +kernel
theorem dX10_pass_148 : decode cX10_pass 148 = .ok (.return_, 1) := by decide +kernel
theorem dX10_pass_149 : decode cX10_pass 149 = .ok (.aload_n 0, 1) := by decide +kernel
theorem dX10_pass_150 : decode cX10_pass 150 = .ok (.aload_n 0, 1) := by decide +kernel
theorem dX10_pass_151 : decode cX10_pass 151 = .ok (.getfield 189, 3) := by decide +kernel
theorem dX10_pass_154 : decode cX10_pass 154 = .ok (.bipush 6, 2) := by decide +kernel
theorem dX10_pass_156 : decode cX10_pass 156 = .ok (.ldc_w 256, 3) := by decide +kernel
theorem dX10_pass_159 : decode cX10_pass 159 = .ok (.aload_n 0, 1) := by decide +kernel
theorem dX10_pass_160 : decode cX10_pass 160 = .ok (.getfield 105, 3) := by decide +kernel
theorem dX10_pass_163 : decode cX10_pass 163 = .ok (.iload_n 3, 1) := by decide +kernel
theorem dX10_pass_164 : decode cX10_pass 164 = .ok (.iaload, 1) := by decide +kernel
theorem dX10_pass_165 : decode cX10_pass 165 = .ok (.imul, 1) := by decide +kernel
theorem dX10_pass_166 : decode cX10_pass 166 = .ok (.iload 4, 2) := by decide +kernel
theorem dX10_pass_168 : decode cX10_pass 168 = .ok (.iadd, 1) := by decide +kernel
theorem dX10_pass_169 : decode cX10_pass 169 = .ok (.invokevirtual 155, 3) := by decide +kernel
theorem dX10_pass_172 : decode cX10_pass 172 = .ok (.iload 5, 2) := by decide +kernel
theorem dX10_pass_174 : decode cX10_pass 174 = .ok (.iconst 1, 1) := by decide +kernel
theorem dX10_pass_175 : decode cX10_pass 175 = .ok (.if_icmp .ne 18, 3) := by decide +kernel
theorem dX10_pass_178 : decode cX10_pass 178 = .ok (.aload_n 0, 1) := by decide +kernel
theorem dX10_pass_179 : decode cX10_pass 179 = .ok (.getfield 126, 3) := by decide +kernel
theorem dX10_pass_182 : decode cX10_pass 182 = .ok (.iload_n 1, 1) := by decide +kernel
theorem dX10_pass_183 : decode cX10_pass 183 = .ok (.iload 4, 2) := by decide +kernel
theorem dX10_pass_185 : decode cX10_pass 185 = .ok (.aload_n 0, 1) := by decide +kernel
theorem dX10_pass_186 : decode cX10_pass 186 = .ok (.getfield 105, 3) := by decide +kernel
theorem dX10_pass_189 : decode cX10_pass 189 = .ok (.iload_n 3, 1) := by decide +kernel
theorem dX10_pass_190 : decode cX10_pass 190 = .ok (.iaload, 1) := by decide +kernel
theorem dX10_pass_191 : decode cX10_pass 191 = .ok (.iadd, 1) := by decide +kernel
theorem dX10_pass_192 : decode cX10_pass 192 = .ok (.iastore, 1) := by decide +kernel
theorem dX10_pass_193 : decode cX10_pass 193 = .ok (.iload 5, 2) := by decide +kernel
theorem dX10_pass_195 : decode cX10_pass 195 = .ok (.iconst 2, 1) := by decide +kernel
theorem dX10_pass_196 : decode cX10_pass 196 = .ok (.if_icmp .ne 21, 3) := by decide +kernel
theorem dX10_pass_199 : decode cX10_pass 199 = .ok (.iload 4, 2) := by decide +kernel
theorem dX10_pass_201 : decode cX10_pass 201 = .ok (.iconst 1, 1) := by decide +kernel
theorem dX10_pass_202 : decode cX10_pass 202 = .ok (.iand, 1) := by decide +kernel
theorem dX10_pass_203 : decode cX10_pass 203 = .ok (.iconst 1, 1) := by decide +kernel
theorem dX10_pass_204 : decode cX10_pass 204 = .ok (.if_icmp .ne 13, 3) := by decide +kernel
theorem dX10_pass_207 : decode cX10_pass 207 = .ok (.aload_n 0, 1) := by decide +kernel
theorem dX10_pass_208 : decode cX10_pass 208 = .ok (.dup, 1) := by decide +kernel
theorem dX10_pass_209 : decode cX10_pass 209 = .ok (.getfield 203, 3) := by decide +kernel
theorem dX10_pass_212 : decode cX10_pass 212 = .ok (.iconst 1, 1) := by decide +kernel
theorem dX10_pass_213 : decode cX10_pass 213 = .ok (.isub, 1) := by decide +kernel
theorem dX10_pass_214 : decode cX10_pass 214 = .ok (.putfield 203, 3) := by decide +kernel
theorem dX10_pass_217 : decode cX10_pass 217 = .ok (.iload 5, 2) := by decide +kernel
theorem dX10_pass_219 : decode cX10_pass 219 = .ok (.iconst 3, 1) := by decide +kernel
theorem dX10_pass_220 : decode cX10_pass 220 = .ok (.if_icmp .ne 33, 3) := by decide +kernel
theorem dX10_pass_223 : decode cX10_pass 223 = .ok (.aload_n 0, 1) := by decide +kernel
theorem dX10_pass_224 : decode cX10_pass 224 = .ok (.getfield 221, 3) := by decide +kernel
theorem dX10_pass_227 : decode cX10_pass 227 = .ok (.sipush 1000, 3) := by decide +kernel
theorem dX10_pass_230 : decode cX10_pass 230 = .ok (.if_icmp .ge 23, 3) := by decide +kernel
theorem dX10_pass_233 : decode cX10_pass 233 = .ok (.aload_n 0, 1) := by decide +kernel
theorem dX10_pass_234 : decode cX10_pass 234 = .ok (.dup, 1) := by decide +kernel
theorem dX10_pass_235 : decode cX10_pass 235 = .ok (.getfield 221, 3) := by decide +kernel
theorem dX10_pass_238 : decode cX10_pass 238 = .ok (.iconst 1, 1) := by decide +kernel
theorem dX10_pass_239 : decode cX10_pass 239 = .ok (.iadd, 1) := by decide +kernel
theorem dX10_pass_240 : decode cX10_pass 240 = .ok (.putfield 221, 3) := by decide +kernel
theorem dX10_pass_243 : decode cX10_pass 243 = .ok (.aload_n 0, 1) := by decide +kernel
theorem dX10_pass_244 : decode cX10_pass 244 = .ok (.iload_n 2, 1) := by decide +kernel
theorem dX10_pass_245 : decode cX10_pass 245 = .ok (.iconst 1, 1) := by decide +kernel
theorem dX10_pass_246 : decode cX10_pass 246 = .ok (.ixor, 1) := by decide +kernel
theorem dX10_pass_247 : decode cX10_pass 247 = .ok (.iload 4, 2) := by decide +kernel
theorem dX10_pass_249 : decode cX10_pass 249 = .ok (.invokevirtual 246, 3) := by decide +kernel
theorem dX10_pass_252 : decode cX10_pass 252 = .ok (.pop, 1) := by decide +kernel
theorem dX10_pass_253 : decode cX10_pass 253 = .ok (.iload 5, 2) := by decide +kernel
theorem dX10_pass_255 : decode cX10_pass 255 = .ok (.iconst 4, 1) := by decide +kernel
theorem dX10_pass_256 : decode cX10_pass 256 = .ok (.if_icmp .ne 15, 3) := by decide +kernel
theorem dX10_pass_259 : decode cX10_pass 259 = .ok (.aload_n 0, 1) := by decide +kernel
theorem dX10_pass_260 : decode cX10_pass 260 = .ok (.iconst 2, 1) := by decide +kernel
theorem dX10_pass_261 : decode cX10_pass 261 = .ok (.aload_n 0, 1) := by decide +kernel
theorem dX10_pass_262 : decode cX10_pass 262 = .ok (.getfield 102, 3) := by decide +kernel
theorem dX10_pass_265 : decode cX10_pass 265 = .ok (.iload_n 3, 1) := by decide +kernel
theorem dX10_pass_266 : decode cX10_pass 266 = .ok (.iaload, 1) := by decide +kernel
theorem dX10_pass_267 : decode cX10_pass 267 = .ok (.iconst 0, 1) := by decide +kernel
theorem dX10_pass_268 : decode cX10_pass 268 = .ok (.invokevirtual 209, 3) := by decide +kernel
theorem dX10_pass_271 : decode cX10_pass 271 = .ok (.iload 5, 2) := by decide +kernel
theorem dX10_pass_273 : decode cX10_pass 273 = .ok (.iconst 5, 1) := by decide +kernel
theorem dX10_pass_274 : decode cX10_pass 274 = .ok (.if_icmp .ne 17, 3) := by decide +kernel
theorem dX10_pass_277 : decode cX10_pass 277 = .ok (.iload 4, 2) := by decide +kernel
theorem dX10_pass_279 : decode cX10_pass 279 = .ok (.iconst 3, 1) := by decide +kernel
theorem dX10_pass_280 : decode cX10_pass 280 = .ok (.irem, 1) := by decide +kernel
theorem dX10_pass_281 : decode cX10_pass 281 = .ok (.ifCond .ne 10, 3) := by decide +kernel
theorem dX10_pass_284 : decode cX10_pass 284 = .ok (.aload_n 0, 1) := by decide +kernel
theorem dX10_pass_285 : decode cX10_pass 285 = .ok (.getfield 129, 3) := by decide +kernel
theorem dX10_pass_288 : decode cX10_pass 288 = .ok (.iload_n 1, 1) := by decide +kernel
theorem dX10_pass_289 : decode cX10_pass 289 = .ok (.iconst 1, 1) := by decide +kernel
theorem dX10_pass_290 : decode cX10_pass 290 = .ok (.bastore, 1) := by decide +kernel
theorem dX10_pass_291 : decode cX10_pass 291 = .ok (.return_, 1) := by decide +kernel
theorem dX10_run_0 : decode cX10_run 0 = .ok (.aload_n 0, 1) := by decide +kernel
theorem dX10_run_1 : decode cX10_run 1 = .ok (.getfield 203, 3) := by decide +kernel
theorem dX10_run_4 : decode cX10_run 4 = .ok (.ifCond .le 151, 3) := by decide +kernel
theorem dX10_run_7 : decode cX10_run 7 = .ok (.aload_n 0, 1) := by decide +kernel
theorem dX10_run_8 : decode cX10_run 8 = .ok (.getfield 203, 3) := by decide +kernel
theorem dX10_run_11 : decode cX10_run 11 = .ok (.iconst 1, 1) := by decide +kernel
theorem dX10_run_12 : decode cX10_run 12 = .ok (.isub, 1) := by decide +kernel
theorem dX10_run_13 : decode cX10_run 13 = .ok (.istore_n 1, 1) := by decide +kernel
theorem dX10_run_14 : decode cX10_run 14 = .ok (.aload_n 0, 1) := by decide +kernel
theorem dX10_run_15 : decode cX10_run 15 = .ok (.getfield 117, 3) := by decide +kernel
theorem dX10_run_18 : decode cX10_run 18 = .ok (.iload_n 1, 1) := by decide +kernel
theorem dX10_run_19 : decode cX10_run 19 = .ok (.iaload, 1) := by decide +kernel
theorem dX10_run_20 : decode cX10_run 20 = .ok (.iconst 4, 1) := by decide +kernel
theorem dX10_run_21 : decode cX10_run 21 = .ok (.if_icmp .ne 10, 3) := by decide +kernel
theorem dX10_run_24 : decode cX10_run 24 = .ok (.aload_n 0, 1) := by decide +kernel
theorem dX10_run_25 : decode cX10_run 25 = .ok (.invokevirtual 257, 3) := by decide +kernel
theorem dX10_run_28 : decode cX10_run 28 = .ok (.goto 124, 3) := by decide +kernel
theorem dX10_run_31 : decode cX10_run 31 = .ok (.aload_n 0, 1) := by decide +kernel
theorem dX10_run_32 : decode cX10_run 32 = .ok (.getfield 117, 3) := by decide +kernel
theorem dX10_run_35 : decode cX10_run 35 = .ok (.iload_n 1, 1) := by decide +kernel
theorem dX10_run_36 : decode cX10_run 36 = .ok (.iaload, 1) := by decide +kernel
theorem dX10_run_37 : decode cX10_run 37 = .ok (.iconst 3, 1) := by decide +kernel
theorem dX10_run_38 : decode cX10_run 38 = .ok (.if_icmp .ne 77, 3) := by decide +kernel
theorem dX10_run_41 : decode cX10_run 41 = .ok (.aload_n 0, 1) := by decide +kernel
theorem dX10_run_42 : decode cX10_run 42 = .ok (.getfield 123, 3) := by decide +kernel
theorem dX10_run_45 : decode cX10_run 45 = .ok (.iload_n 1, 1) := by decide +kernel
theorem dX10_run_46 : decode cX10_run 46 = .ok (.iaload, 1) := by decide +kernel
theorem dX10_run_47 : decode cX10_run 47 = .ok (.aload_n 0, 1) := by decide +kernel
theorem dX10_run_48 : decode cX10_run 48 = .ok (.getfield 126, 3) := by decide +kernel
theorem dX10_run_51 : decode cX10_run 51 = .ok (.iload_n 1, 1) := by decide +kernel
theorem dX10_run_52 : decode cX10_run 52 = .ok (.iaload, 1) := by decide +kernel
theorem dX10_run_53 : decode cX10_run 53 = .ok (.if_icmp .ne 16, 3) := by decide +kernel
theorem dX10_run_56 : decode cX10_run 56 = .ok (.aload_n 0, 1) := by decide +kernel
theorem dX10_run_57 : decode cX10_run 57 = .ok (.dup, 1) := by decide +kernel
theorem dX10_run_58 : decode cX10_run 58 = .ok (.getfield 203, 3) := by decide +kernel
theorem dX10_run_61 : decode cX10_run 61 = .ok (.iconst 1, 1) := by decide +kernel
theorem dX10_run_62 : decode cX10_run 62 = .ok (.isub, 1) := by decide +kernel
theorem dX10_run_63 : decode cX10_run 63 = .ok (.putfield 203, 3) := by decide +kernel
theorem dX10_run_66 : decode cX10_run 66 = .ok (.goto 86, 3) := by decide +kernel
theorem dX10_run_69 : decode cX10_run 69 = .ok (.aload_n 0, 1) := by decide +kernel
theorem dX10_run_70 : decode cX10_run 70 = .ok (.getfield 90, 3) := by decide +kernel
theorem dX10_run_73 : decode cX10_run 73 = .ok (.bipush 6, 2) := by decide +kernel
theorem dX10_run_75 : decode cX10_run 75 = .ok (.aload_n 0, 1) := by decide +kernel
theorem dX10_run_76 : decode cX10_run 76 = .ok (.getfield 120, 3) := by decide +kernel
theorem dX10_run_79 : decode cX10_run 79 = .ok (.iload_n 1, 1) := by decide +kernel
theorem dX10_run_80 : decode cX10_run 80 = .ok (.iaload, 1) := by decide +kernel
theorem dX10_run_81 : decode cX10_run 81 = .ok (.imul, 1) := by decide +kernel
theorem dX10_run_82 : decode cX10_run 82 = .ok (.aload_n 0, 1) := by decide +kernel
theorem dX10_run_83 : decode cX10_run 83 = .ok (.getfield 123, 3) := by decide +kernel
theorem dX10_run_86 : decode cX10_run 86 = .ok (.iload_n 1, 1) := by decide +kernel
theorem dX10_run_87 : decode cX10_run 87 = .ok (.iaload, 1) := by decide +kernel
theorem dX10_run_88 : decode cX10_run 88 = .ok (.iadd, 1) := by decide +kernel
theorem dX10_run_89 : decode cX10_run 89 = .ok (.iaload, 1) := by decide +kernel
theorem dX10_run_90 : decode cX10_run 90 = .ok (.istore_n 2, 1) := by decide +kernel
theorem dX10_run_91 : decode cX10_run 91 = .ok (.aload_n 0, 1) := by decide +kernel
theorem dX10_run_92 : decode cX10_run 92 = .ok (.getfield 123, 3) := by decide +kernel
theorem dX10_run_95 : decode cX10_run 95 = .ok (.iload_n 1, 1) := by decide +kernel
theorem dX10_run_96 : decode cX10_run 96 = .ok (.dup2, 1) := by decide +kernel
theorem dX10_run_97 : decode cX10_run 97 = .ok (.iaload, 1) := by decide +kernel
theorem dX10_run_98 : decode cX10_run 98 = .ok (.iconst 1, 1) := by decide +kernel
theorem dX10_run_99 : decode cX10_run 99 = .ok (.iadd, 1) := by decide +kernel
theorem dX10_run_100 : decode cX10_run 100 = .ok (.iastore, 1) := by decide +kernel
theorem dX10_run_101 : decode cX10_run 101 = .ok (.aload_n 0, 1) := by decide +kernel
theorem dX10_run_102 : decode cX10_run 102 = .ok (.aload_n 0, 1) := by decide +kernel
theorem dX10_run_103 : decode cX10_run 103 = .ok (.getfield 120, 3) := by decide +kernel
theorem dX10_run_106 : decode cX10_run 106 = .ok (.iload_n 1, 1) := by decide +kernel
theorem dX10_run_107 : decode cX10_run 107 = .ok (.iaload, 1) := by decide +kernel
theorem dX10_run_108 : decode cX10_run 108 = .ok (.iload_n 2, 1) := by decide +kernel
theorem dX10_run_109 : decode cX10_run 109 = .ok (.invokevirtual 253, 3) := by decide +kernel
theorem dX10_run_112 : decode cX10_run 112 = .ok (.goto 40, 3) := by decide +kernel
theorem dX10_run_115 : decode cX10_run 115 = .ok (.aload_n 0, 1) := by decide +kernel
theorem dX10_run_116 : decode cX10_run 116 = .ok (.getfield 123, 3) := by decide +kernel
theorem dX10_run_119 : decode cX10_run 119 = .ok (.iload_n 1, 1) := by decide +kernel
theorem dX10_run_120 : decode cX10_run 120 = .ok (.iaload, 1) := by decide +kernel
theorem dX10_run_121 : decode cX10_run 121 = .ok (.aload_n 0, 1) := by decide +kernel
theorem dX10_run_122 : decode cX10_run 122 = .ok (.getfield 7, 3) := by decide +kernel
theorem dX10_run_125 : decode cX10_run 125 = .ok (.aload_n 0, 1) := by decide +kernel
theorem dX10_run_126 : decode cX10_run 126 = .ok (.getfield 120, 3) := by decide +kernel
theorem dX10_run_129 : decode cX10_run 129 = .ok (.iload_n 1, 1) := by decide +kernel
theorem dX10_run_130 : decode cX10_run 130 = .ok (.iaload, 1) := by decide +kernel
theorem dX10_run_131 : decode cX10_run 131 = .ok (.iaload, 1) := by decide +kernel
theorem dX10_run_132 : decode cX10_run 132 = .ok (.if_icmp .ne 16, 3) := by decide +kernel
theorem dX10_run_135 : decode cX10_run 135 = .ok (.aload_n 0, 1) := by decide +kernel
theorem dX10_run_136 : decode cX10_run 136 = .ok (.dup, 1) := by decide +kernel
theorem dX10_run_137 : decode cX10_run 137 = .ok (.getfield 203, 3) := by decide +kernel
theorem dX10_run_140 : decode cX10_run 140 = .ok (.iconst 1, 1) := by decide +kernel
theorem dX10_run_141 : decode cX10_run 141 = .ok (.isub, 1) := by decide +kernel
theorem dX10_run_142 : decode cX10_run 142 = .ok (.putfield 203, 3) := by decide +kernel
theorem dX10_run_145 : decode cX10_run 145 = .ok (.goto 7, 3) := by decide +kernel
theorem dX10_run_148 : decode cX10_run 148 = .ok (.aload_n 0, 1) := by decide +kernel
theorem dX10_run_149 : decode cX10_run 149 = .ok (.invokevirtual 260, 3) := by decide +kernel
theorem dX10_run_152 : decode cX10_run 152 = .ok (.goto (-152), 3) := by decide +kernel
theorem dX10_run_155 : decode cX10_run 155 = .ok (.return_, 1) := by decide +kernel
theorem dX10_beginBatch_0 : decode cX10_beginBatch 0 = .ok (.iconst 0, 1) := by decide +kernel
theorem dX10_beginBatch_1 : decode cX10_beginBatch 1 = .ok (.istore_n 2, 1) := by decide +kernel
theorem dX10_beginBatch_2 : decode cX10_beginBatch 2 = .ok (.iload_n 2, 1) := by decide +kernel
theorem dX10_beginBatch_3 : decode cX10_beginBatch 3 = .ok (.ifCond .lt 123, 3) := by decide +kernel
theorem dX10_beginBatch_6 : decode cX10_beginBatch 6 = .ok (.aload_n 0, 1) := by decide +kernel
theorem dX10_beginBatch_7 : decode cX10_beginBatch 7 = .ok (.getfield 25, 3) := by decide +kernel
theorem dX10_beginBatch_10 : decode cX10_beginBatch 10 = .ok (.iload_n 1, 1) := by decide +kernel
theorem dX10_beginBatch_11 : decode cX10_beginBatch 11 = .ok (.iaload, 1) := by decide +kernel
theorem dX10_beginBatch_12 : decode cX10_beginBatch 12 = .ok (.bipush 24, 2) := by decide +kernel
theorem dX10_beginBatch_14 : decode cX10_beginBatch 14 = .ok (.if_icmp .ge 112, 3) := by decide +kernel
theorem dX10_beginBatch_17 : decode cX10_beginBatch 17 = .ok (.iconst (-1), 1) := by decide +kernel
theorem dX10_beginBatch_18 : decode cX10_beginBatch 18 = .ok (.istore_n 2, 1) := by decide +kernel
theorem dX10_beginBatch_19 : decode cX10_beginBatch 19 = .ok (.iconst 0, 1) := by decide +kernel
theorem dX10_beginBatch_20 : decode cX10_beginBatch 20 = .ok (.istore_n 3, 1) := by decide +kernel
theorem dX10_beginBatch_21 : decode cX10_beginBatch 21 = .ok (.iload_n 3, 1) := by decide +kernel
theorem dX10_beginBatch_22 : decode cX10_beginBatch 22 = .ok (.aload_n 0, 1) := by decide +kernel
theorem dX10_beginBatch_23 : decode cX10_beginBatch 23 = .ok (.getfield 196, 3) := by decide +kernel
theorem dX10_beginBatch_26 : decode cX10_beginBatch 26 = .ok (.if_icmp .ge 71, 3) := by decide +kernel
theorem dX10_beginBatch_29 : decode cX10_beginBatch 29 = .ok (.aload_n 0, 1) := by decide +kernel
theorem dX10_beginBatch_30 : decode cX10_beginBatch 30 = .ok (.getfield 72, 3) := by decide +kernel
theorem dX10_beginBatch_33 : decode cX10_beginBatch 33 = .ok (.iload_n 3, 1) := by decide +kernel
theorem dX10_beginBatch_34 : decode cX10_beginBatch 34 = .ok (.iaload, 1) := by decide +kernel
theorem dX10_beginBatch_35 : decode cX10_beginBatch 35 = .ok (.iload_n 1, 1) := by decide +kernel
theorem dX10_beginBatch_36 : decode cX10_beginBatch 36 = .ok (.if_icmp .ne 21, 3) := by decide +kernel
theorem dX10_beginBatch_39 : decode cX10_beginBatch 39 = .ok (.aload_n 0, 1) := by decide +kernel
theorem dX10_beginBatch_40 : decode cX10_beginBatch 40 = .ok (.getfield 69, 3) := by decide +kernel
theorem dX10_beginBatch_43 : decode cX10_beginBatch 43 = .ok (.iload_n 3, 1) := by decide +kernel
theorem dX10_beginBatch_44 : decode cX10_beginBatch 44 = .ok (.laload, 1) := by decide +kernel
theorem dX10_beginBatch_45 : decode cX10_beginBatch 45 = .ok (.aload_n 0, 1) := by decide +kernel
theorem dX10_beginBatch_46 : decode cX10_beginBatch 46 = .ok (.getfield 182, 3) := by decide +kernel
theorem dX10_beginBatch_49 : decode cX10_beginBatch 49 = .ok (.lcmp, 1) := by decide +kernel
theorem dX10_beginBatch_50 : decode cX10_beginBatch 50 = .ok (.ifCond .gt 7, 3) := by decide +kernel
theorem dX10_beginBatch_53 : decode cX10_beginBatch 53 = .ok (.iconst 1, 1) := by decide +kernel
theorem dX10_beginBatch_54 : decode cX10_beginBatch 54 = .ok (.goto 4, 3) := by decide +kernel
theorem dX10_beginBatch_57 : decode cX10_beginBatch 57 = .ok (.iconst 0, 1) := by decide +kernel
theorem dX10_beginBatch_58 : decode cX10_beginBatch 58 = .ok (.istore 4, 2) := by decide +kernel
theorem dX10_beginBatch_60 : decode cX10_beginBatch 60 = .ok (.iload 4, 2) := by decide +kernel
theorem dX10_beginBatch_62 : decode cX10_beginBatch 62 = .ok (.ifCond .eq 27, 3) := by decide +kernel
theorem dX10_beginBatch_65 : decode cX10_beginBatch 65 = .ok (.iload_n 2, 1) := by decide +kernel
theorem dX10_beginBatch_66 : decode cX10_beginBatch 66 = .ok (.ifCond .lt 19, 3) := by decide +kernel
theorem dX10_beginBatch_69 : decode cX10_beginBatch 69 = .ok (.aload_n 0, 1) := by decide +kernel
theorem dX10_beginBatch_70 : decode cX10_beginBatch 70 = .ok (.getfield 69, 3) := by decide +kernel
theorem dX10_beginBatch_73 : decode cX10_beginBatch 73 = .ok (.iload_n 3, 1) := by decide +kernel
theorem dX10_beginBatch_74 : decode cX10_beginBatch 74 = .ok (.laload, 1) := by decide +kernel
theorem dX10_beginBatch_75 : decode cX10_beginBatch 75 = .ok (.aload_n 0, 1) := by decide +kernel
theorem dX10_beginBatch_76 : decode cX10_beginBatch 76 = .ok (.getfield 69, 3) := by decide +kernel
theorem dX10_beginBatch_79 : decode cX10_beginBatch 79 = .ok (.iload_n 2, 1) := by decide +kernel
theorem dX10_beginBatch_80 : decode cX10_beginBatch 80 = .ok (.laload, 1) := by decide +kernel
theorem dX10_beginBatch_81 : decode cX10_beginBatch 81 = .ok (.lcmp, 1) := by decide +kernel
theorem dX10_beginBatch_82 : decode cX10_beginBatch 82 = .ok (.ifCond .ge 7, 3) := by decide +kernel
theorem dX10_beginBatch_85 : decode cX10_beginBatch 85 = .ok (.iload_n 3, 1) := by decide +kernel
theorem dX10_beginBatch_86 : decode cX10_beginBatch 86 = .ok (.goto 4, 3) := by decide +kernel
theorem dX10_beginBatch_89 : decode cX10_beginBatch 89 = .ok (.iload_n 2, 1) := by decide +kernel
theorem dX10_beginBatch_90 : decode cX10_beginBatch 90 = .ok (.istore_n 2, 1) := by decide +kernel
theorem dX10_beginBatch_91 : decode cX10_beginBatch 91 = .ok (.iinc 3 1, 3) := by decide +kernel
theorem dX10_beginBatch_94 : decode cX10_beginBatch 94 = .ok (.goto (-73), 3) := by decide +kernel
theorem dX10_beginBatch_97 : decode cX10_beginBatch 97 = .ok (.iload_n 2, 1) := by decide +kernel
theorem dX10_beginBatch_98 : decode cX10_beginBatch 98 = .ok (.ifCond .lt (-96), 3) := by decide +kernel
theorem dX10_beginBatch_101 : decode cX10_beginBatch 101 = .ok (.aload_n 0, 1) := by decide +kernel
theorem dX10_beginBatch_102 : decode cX10_beginBatch 102 = .ok (.getfield 72, 3) := by decide +kernel
theorem dX10_beginBatch_105 : decode cX10_beginBatch 105 = .ok (.iload_n 2, 1) := by decide +kernel
theorem dX10_beginBatch_106 : decode cX10_beginBatch 106 = .ok (.iconst (-1), 1) := by decide +kernel
theorem dX10_beginBatch_107 : decode cX10_beginBatch 107 = .ok (.iastore, 1) := by decide +kernel
theorem dX10_beginBatch_108 : decode cX10_beginBatch 108 = .ok (.aload_n 0, 1) := by decide +kernel
theorem dX10_beginBatch_109 : decode cX10_beginBatch 109 = .ok (.iload_n 1, 1) := by decide +kernel
theorem dX10_beginBatch_110 : decode cX10_beginBatch 110 = .ok (.iconst 0, 1) := by decide +kernel
theorem dX10_beginBatch_111 : decode cX10_beginBatch 111 = .ok (.aload_n 0, 1) := by decide +kernel
theorem dX10_beginBatch_112 : decode cX10_beginBatch 112 = .ok (.getfield 66, 3) := by decide +kernel
theorem dX10_beginBatch_115 : decode cX10_beginBatch 115 = .ok (.iload_n 2, 1) := by decide +kernel
theorem dX10_beginBatch_116 : decode cX10_beginBatch 116 = .ok (.iaload, 1) := by decide +kernel
theorem dX10_beginBatch_117 : decode cX10_beginBatch 117 = .ok (.iconst 0, 1) := by decide +kernel
theorem dX10_beginBatch_118 : decode cX10_beginBatch 118 = .ok (.iconst 0, 1) := by decide +kernel
theorem dX10_beginBatch_119 : decode cX10_beginBatch 119 = .ok (.invokevirtual 212, 3) := by decide +kernel
theorem dX10_beginBatch_122 : decode cX10_beginBatch 122 = .ok (.pop, 1) := by decide +kernel
theorem dX10_beginBatch_123 : decode cX10_beginBatch 123 = .ok (.goto (-121), 3) := by decide +kernel
theorem dX10_beginBatch_126 : decode cX10_beginBatch 126 = .ok (.aload_n 0, 1) := by decide +kernel
theorem dX10_beginBatch_127 : decode cX10_beginBatch 127 = .ok (.getfield 28, 3) := by decide +kernel
theorem dX10_beginBatch_130 : decode cX10_beginBatch 130 = .ok (.iload_n 1, 1) := by decide +kernel
theorem dX10_beginBatch_131 : decode cX10_beginBatch 131 = .ok (.aload_n 0, 1) := by decide +kernel
theorem dX10_beginBatch_132 : decode cX10_beginBatch 132 = .ok (.getfield 25, 3) := by decide +kernel
theorem dX10_beginBatch_135 : decode cX10_beginBatch 135 = .ok (.iload_n 1, 1) := by decide +kernel
theorem dX10_beginBatch_136 : decode cX10_beginBatch 136 = .ok (.iaload, 1) := by decide +kernel
theorem dX10_beginBatch_137 : decode cX10_beginBatch 137 = .ok (.bipush 16, 2) := by decide +kernel
theorem dX10_beginBatch_139 : decode cX10_beginBatch 139 = .ok (.if_icmp .ge 12, 3) := by decide +kernel
theorem dX10_beginBatch_142 : decode cX10_beginBatch 142 = .ok (.aload_n 0, 1) := by decide +kernel
theorem dX10_beginBatch_143 : decode cX10_beginBatch 143 = .ok (.getfield 25, 3) := by decide +kernel
theorem dX10_beginBatch_146 : decode cX10_beginBatch 146 = .ok (.iload_n 1, 1) := by decide +kernel
theorem dX10_beginBatch_147 : decode cX10_beginBatch 147 = .ok (.iaload, 1) := by decide +kernel
theorem dX10_beginBatch_148 : decode cX10_beginBatch 148 = .ok (.goto 5, 3) := by decide +kernel
theorem dX10_beginBatch_151 : decode cX10_beginBatch 151 = .ok (.bipush 16, 2) := by decide +kernel
theorem dX10_beginBatch_153 : decode cX10_beginBatch 153 = .ok (.iastore, 1) := by decide +kernel
theorem dX10_beginBatch_154 : decode cX10_beginBatch 154 = .ok (.return_, 1) := by decide +kernel
theorem dX10_confirm_0 : decode cX10_confirm 0 = .ok (.aload_n 0, 1) := by decide +kernel
theorem dX10_confirm_1 : decode cX10_confirm 1 = .ok (.getfield 53, 3) := by decide +kernel
theorem dX10_confirm_4 : decode cX10_confirm 4 = .ok (.iload_n 1, 1) := by decide +kernel
theorem dX10_confirm_5 : decode cX10_confirm 5 = .ok (.laload, 1) := by decide +kernel
theorem dX10_confirm_6 : decode cX10_confirm 6 = .ok (.lconst 0, 1) := by decide +kernel
theorem dX10_confirm_7 : decode cX10_confirm 7 = .ok (.lcmp, 1) := by decide +kernel
theorem dX10_confirm_8 : decode cX10_confirm 8 = .ok (.ifCond .eq 45, 3) := by decide +kernel
theorem dX10_confirm_11 : decode cX10_confirm 11 = .ok (.aload_n 0, 1) := by decide +kernel
theorem dX10_confirm_12 : decode cX10_confirm 12 = .ok (.getfield 182, 3) := by decide +kernel
theorem dX10_confirm_15 : decode cX10_confirm 15 = .ok (.aload_n 0, 1) := by decide +kernel
theorem dX10_confirm_16 : decode cX10_confirm 16 = .ok (.getfield 60, 3) := by decide +kernel
theorem dX10_confirm_19 : decode cX10_confirm 19 = .ok (.iload_n 1, 1) := by decide +kernel
theorem dX10_confirm_20 : decode cX10_confirm 20 = .ok (.laload, 1) := by decide +kernel
theorem dX10_confirm_21 : decode cX10_confirm 21 = .ok (.lsub, 1) := by decide +kernel
theorem dX10_confirm_22 : decode cX10_confirm 22 = .ok (.aload_n 0, 1) := by decide +kernel
theorem dX10_confirm_23 : decode cX10_confirm 23 = .ok (.getfield 57, 3) := by decide +kernel
theorem dX10_confirm_26 : decode cX10_confirm 26 = .ok (.iload_n 1, 1) := by decide +kernel
theorem dX10_confirm_27 : decode cX10_confirm 27 = .ok (.laload, 1) := by decide +kernel
theorem dX10_confirm_28 : decode cX10_confirm 28 = .ok (.lcmp, 1) := by decide +kernel
theorem dX10_confirm_29 : decode cX10_confirm 29 = .ok (.ifCond .gt 24, 3) := by decide +kernel
theorem dX10_confirm_32 : decode cX10_confirm 32 = .ok (.aload_n 0, 1) := by decide +kernel
theorem dX10_confirm_33 : decode cX10_confirm 33 = .ok (.getfield 182, 3) := by decide +kernel
theorem dX10_confirm_36 : decode cX10_confirm 36 = .ok (.aload_n 0, 1) := by decide +kernel
theorem dX10_confirm_37 : decode cX10_confirm 37 = .ok (.getfield 63, 3) := by decide +kernel
theorem dX10_confirm_40 : decode cX10_confirm 40 = .ok (.iload_n 1, 1) := by decide +kernel
theorem dX10_confirm_41 : decode cX10_confirm 41 = .ok (.laload, 1) := by decide +kernel
theorem dX10_confirm_42 : decode cX10_confirm 42 = .ok (.lsub, 1) := by decide +kernel
theorem dX10_confirm_43 : decode cX10_confirm 43 = .ok (.aload_n 0, 1) := by decide +kernel
theorem dX10_confirm_44 : decode cX10_confirm 44 = .ok (.getfield 53, 3) := by decide +kernel
theorem dX10_confirm_47 : decode cX10_confirm 47 = .ok (.iload_n 1, 1) := by decide +kernel
theorem dX10_confirm_48 : decode cX10_confirm 48 = .ok (.laload, 1) := by decide +kernel
theorem dX10_confirm_49 : decode cX10_confirm 49 = .ok (.lcmp, 1) := by decide +kernel
theorem dX10_confirm_50 : decode cX10_confirm 50 = .ok (.ifCond .le 7, 3) := by decide +kernel
theorem dX10_confirm_53 : decode cX10_confirm 53 = .ok (.iconst 1, 1) := by decide +kernel
theorem dX10_confirm_54 : decode cX10_confirm 54 = .ok (.goto 4, 3) := by decide +kernel
theorem dX10_confirm_57 : decode cX10_confirm 57 = .ok (.iconst 0, 1) := by decide +kernel
theorem dX10_confirm_58 : decode cX10_confirm 58 = .ok (.istore_n 2, 1) := by decide +kernel
theorem dX10_confirm_59 : decode cX10_confirm 59 = .ok (.iload_n 2, 1) := by decide +kernel
theorem dX10_confirm_60 : decode cX10_confirm 60 = .ok (.ifCond .ne 5, 3) := by decide +kernel
theorem dX10_confirm_63 : decode cX10_confirm 63 = .ok (.iconst 0, 1) := by decide +kernel
theorem dX10_confirm_64 : decode cX10_confirm 64 = .ok (.ireturn, 1) := by decide +kernel
theorem dX10_confirm_65 : decode cX10_confirm 65 = .ok (.aload_n 0, 1) := by decide +kernel
theorem dX10_confirm_66 : decode cX10_confirm 66 = .ok (.iload_n 1, 1) := by decide +kernel
theorem dX10_confirm_67 : decode cX10_confirm 67 = .ok (.iconst 4, 1) := by decide +kernel
theorem dX10_confirm_68 : decode cX10_confirm 68 = .ok (.invokevirtual 192, 3) := by decide +kernel
theorem dX10_confirm_71 : decode cX10_confirm 71 = .ok (.aload_n 0, 1) := by decide +kernel
theorem dX10_confirm_72 : decode cX10_confirm 72 = .ok (.iload_n 1, 1) := by decide +kernel
theorem dX10_confirm_73 : decode cX10_confirm 73 = .ok (.iconst 5, 1) := by decide +kernel
theorem dX10_confirm_74 : decode cX10_confirm 74 = .ok (.invokevirtual 192, 3) := by decide +kernel
theorem dX10_confirm_77 : decode cX10_confirm 77 = .ok (.iconst 3, 1) := by decide +kernel
theorem dX10_confirm_78 : decode cX10_confirm 78 = .ok (.ireturn, 1) := by decide +kernel
theorem dX10_step_0 : decode cX10_step 0 = .ok (.aload_n 0, 1) := by decide +kernel
theorem dX10_step_1 : decode cX10_step 1 = .ok (.aload_n 0, 1) := by decide +kernel
theorem dX10_step_2 : decode cX10_step 2 = .ok (.iload_n 1, 1) := by decide +kernel
theorem dX10_step_3 : decode cX10_step 3 = .ok (.invokevirtual 169, 3) := by decide +kernel
theorem dX10_step_6 : decode cX10_step 6 = .ok (.ifCond .ne 7, 3) := by decide +kernel
theorem dX10_step_9 : decode cX10_step 9 = .ok (.iconst 1, 1) := by decide +kernel
theorem dX10_step_10 : decode cX10_step 10 = .ok (.goto 4, 3) := by decide +kernel
theorem dX10_step_13 : decode cX10_step 13 = .ok (.iconst 0, 1) := by decide +kernel
theorem dX10_step_14 : decode cX10_step 14 = .ok (.iconst 0, 1) := by decide +kernel
theorem dX10_step_15 : decode cX10_step 15 = .ok (.invokevirtual 159, 3) := by decide +kernel
theorem dX10_step_18 : decode cX10_step 18 = .ok (.ifCond .eq 5, 3) := by decide +kernel
theorem dX10_step_21 : decode cX10_step 21 = .ok (.iconst 0, 1) := by decide +kernel
theorem dX10_step_22 : decode cX10_step 22 = .ok (.ireturn, 1) := by decide +kernel
theorem dX10_step_23 : decode cX10_step 23 = .ok (.aload_n 0, 1) := by decide +kernel
theorem dX10_step_24 : decode cX10_step 24 = .ok (.getfield 22, 3) := by decide +kernel
theorem dX10_step_27 : decode cX10_step 27 = .ok (.iload_n 1, 1) := by decide +kernel
theorem dX10_step_28 : decode cX10_step 28 = .ok (.iaload, 1) := by decide +kernel
theorem dX10_step_29 : decode cX10_step 29 = .ok (.iconst 1, 1) := by decide +kernel
theorem dX10_step_30 : decode cX10_step 30 = .ok (.if_icmp .eq 13, 3) := by decide +kernel
theorem dX10_step_33 : decode cX10_step 33 = .ok (.aload_n 0, 1) := by decide +kernel
theorem dX10_step_34 : decode cX10_step 34 = .ok (.getfield 22, 3) := by decide +kernel
theorem dX10_step_37 : decode cX10_step 37 = .ok (.iload_n 1, 1) := by decide +kernel
theorem dX10_step_38 : decode cX10_step 38 = .ok (.iaload, 1) := by decide +kernel
theorem dX10_step_39 : decode cX10_step 39 = .ok (.iconst 5, 1) := by decide +kernel
theorem dX10_step_40 : decode cX10_step 40 = .ok (.if_icmp .ne 5, 3) := by decide +kernel
theorem dX10_step_43 : decode cX10_step 43 = .ok (.iconst 0, 1) := by decide +kernel
theorem dX10_step_44 : decode cX10_step 44 = .ok (.ireturn, 1) := by decide +kernel
theorem dX10_step_45 : decode cX10_step 45 = .ok (.aload_n 0, 1) := by decide +kernel
theorem dX10_step_46 : decode cX10_step 46 = .ok (.iload_n 1, 1) := by decide +kernel
theorem dX10_step_47 : decode cX10_step 47 = .ok (.putfield 189, 3) := by decide +kernel
theorem dX10_step_50 : decode cX10_step 50 = .ok (.aload_n 0, 1) := by decide +kernel
theorem dX10_step_51 : decode cX10_step 51 = .ok (.iconst 0, 1) := by decide +kernel
theorem dX10_step_52 : decode cX10_step 52 = .ok (.putfield 203, 3) := by decide +kernel
theorem dX10_step_55 : decode cX10_step 55 = .ok (.aload_n 0, 1) := by decide +kernel
theorem dX10_step_56 : decode cX10_step 56 = .ok (.iconst 0, 1) := by decide +kernel
theorem dX10_step_57 : decode cX10_step 57 = .ok (.putfield 221, 3) := by decide +kernel
theorem dX10_step_60 : decode cX10_step 60 = .ok (.aload_n 0, 1) := by decide +kernel
theorem dX10_step_61 : decode cX10_step 61 = .ok (.getfield 22, 3) := by decide +kernel
theorem dX10_step_64 : decode cX10_step 64 = .ok (.iload_n 1, 1) := by decide +kernel
theorem dX10_step_65 : decode cX10_step 65 = .ok (.iaload, 1) := by decide +kernel
theorem dX10_step_66 : decode cX10_step 66 = .ok (.iconst 3, 1) := by decide +kernel
theorem dX10_step_67 : decode cX10_step 67 = .ok (.if_icmp .ne 45, 3) := by decide +kernel
theorem dX10_step_70 : decode cX10_step 70 = .ok (.iconst 0, 1) := by decide +kernel
theorem dX10_step_71 : decode cX10_step 71 = .ok (.istore_n 2, 1) := by decide +kernel
theorem dX10_step_72 : decode cX10_step 72 = .ok (.iload_n 2, 1) := by decide +kernel
theorem dX10_step_73 : decode cX10_step 73 = .ok (.aload_n 0, 1) := by decide +kernel
theorem dX10_step_74 : decode cX10_step 74 = .ok (.getfield 196, 3) := by decide +kernel
theorem dX10_step_77 : decode cX10_step 77 = .ok (.if_icmp .ge 35, 3) := by decide +kernel
theorem dX10_step_80 : decode cX10_step 80 = .ok (.aload_n 0, 1) := by decide +kernel
theorem dX10_step_81 : decode cX10_step 81 = .ok (.getfield 72, 3) := by decide +kernel
theorem dX10_step_84 : decode cX10_step 84 = .ok (.iload_n 2, 1) := by decide +kernel
theorem dX10_step_85 : decode cX10_step 85 = .ok (.aload_n 0, 1) := by decide +kernel
theorem dX10_step_86 : decode cX10_step 86 = .ok (.getfield 72, 3) := by decide +kernel
theorem dX10_step_89 : decode cX10_step 89 = .ok (.iload_n 2, 1) := by decide +kernel
theorem dX10_step_90 : decode cX10_step 90 = .ok (.iaload, 1) := by decide +kernel
theorem dX10_step_91 : decode cX10_step 91 = .ok (.iload_n 1, 1) := by decide +kernel
theorem dX10_step_92 : decode cX10_step 92 = .ok (.if_icmp .ne 7, 3) := by decide +kernel
theorem dX10_step_95 : decode cX10_step 95 = .ok (.iconst (-1), 1) := by decide +kernel
theorem dX10_step_96 : decode cX10_step 96 = .ok (.goto 9, 3) := by decide +kernel
theorem dX10_step_99 : decode cX10_step 99 = .ok (.aload_n 0, 1) := by decide +kernel
theorem dX10_step_100 : decode cX10_step 100 = .ok (.getfield 72, 3) := by decide +kernel
theorem dX10_step_103 : decode cX10_step 103 = .ok (.iload_n 2, 1) := by decide +kernel
theorem dX10_step_104 : decode cX10_step 104 = .ok (.iaload, 1) := by decide +kernel
theorem dX10_step_105 : decode cX10_step 105 = .ok (.iastore, 1) := by decide +kernel
theorem dX10_step_106 : decode cX10_step 106 = .ok (.iinc 2 1, 3) := by decide +kernel
theorem dX10_step_109 : decode cX10_step 109 = .ok (.goto (-37), 3) := by decide +kernel
theorem dX10_step_112 : decode cX10_step 112 = .ok (.aload_n 0, 1) := by decide +kernel
theorem dX10_step_113 : decode cX10_step 113 = .ok (.getfield 40, 3) := by decide +kernel
theorem dX10_step_116 : decode cX10_step 116 = .ok (.iload_n 1, 1) := by decide +kernel
theorem dX10_step_117 : decode cX10_step 117 = .ok (.baload, 1) := by decide +kernel
theorem dX10_step_118 : decode cX10_step 118 = .ok (.ifCond .eq 69, 3) := by decide +kernel
theorem dX10_step_121 : decode cX10_step 121 = .ok (.aload_n 0, 1) := by decide +kernel
theorem dX10_step_122 : decode cX10_step 122 = .ok (.getfield 78, 3) := by decide +kernel
theorem dX10_step_125 : decode cX10_step 125 = .ok (.aload_n 0, 1) := by decide +kernel
theorem dX10_step_126 : decode cX10_step 126 = .ok (.getfield 50, 3) := by decide +kernel
theorem dX10_step_129 : decode cX10_step 129 = .ok (.iload_n 1, 1) := by decide +kernel
theorem dX10_step_130 : decode cX10_step 130 = .ok (.iaload, 1) := by decide +kernel
theorem dX10_step_131 : decode cX10_step 131 = .ok (.iaload, 1) := by decide +kernel
theorem dX10_step_132 : decode cX10_step 132 = .ok (.ifCond .ne 5, 3) := by decide +kernel
theorem dX10_step_135 : decode cX10_step 135 = .ok (.iconst 2, 1) := by decide +kernel
theorem dX10_step_136 : decode cX10_step 136 = .ok (.ireturn, 1) := by decide +kernel
theorem dX10_step_137 : decode cX10_step 137 = .ok (.aload_n 0, 1) := by decide +kernel
theorem dX10_step_138 : decode cX10_step 138 = .ok (.getfield 40, 3) := by decide +kernel
theorem dX10_step_141 : decode cX10_step 141 = .ok (.iload_n 1, 1) := by decide +kernel
theorem dX10_step_142 : decode cX10_step 142 = .ok (.iconst 0, 1) := by decide +kernel
theorem dX10_step_143 : decode cX10_step 143 = .ok (.bastore, 1) := by decide +kernel
theorem dX10_step_144 : decode cX10_step 144 = .ok (.aload_n 0, 1) := by decide +kernel
theorem dX10_step_145 : decode cX10_step 145 = .ok (.iload_n 1, 1) := by decide +kernel
theorem dX10_step_146 : decode cX10_step 146 = .ok (.bipush 10, 2) := by decide +kernel
theorem dX10_step_148 : decode cX10_step 148 = .ok (.aload_n 0, 1) := by decide +kernel
theorem dX10_step_149 : decode cX10_step 149 = .ok (.getfield 50, 3) := by decide +kernel
theorem dX10_step_152 : decode cX10_step 152 = .ok (.iload_n 1, 1) := by decide +kernel
theorem dX10_step_153 : decode cX10_step 153 = .ok (.iaload, 1) := by decide +kernel
theorem dX10_step_154 : decode cX10_step 154 = .ok (.invokevirtual 155, 3) := by decide +kernel
theorem dX10_step_157 : decode cX10_step 157 = .ok (.aload_n 0, 1) := by decide +kernel
theorem dX10_step_158 : decode cX10_step 158 = .ok (.iconst 0, 1) := by decide +kernel
theorem dX10_step_159 : decode cX10_step 159 = .ok (.aload_n 0, 1) := by decide +kernel
theorem dX10_step_160 : decode cX10_step 160 = .ok (.getfield 44, 3) := by decide +kernel
theorem dX10_step_163 : decode cX10_step 163 = .ok (.iload_n 1, 1) := by decide +kernel
theorem dX10_step_164 : decode cX10_step 164 = .ok (.iaload, 1) := by decide +kernel
theorem dX10_step_165 : decode cX10_step 165 = .ok (.iconst 0, 1) := by decide +kernel
theorem dX10_step_166 : decode cX10_step 166 = .ok (.invokevirtual 209, 3) := by decide +kernel
theorem dX10_step_169 : decode cX10_step 169 = .ok (.aload_n 0, 1) := by decide +kernel
theorem dX10_step_170 : decode cX10_step 170 = .ok (.getfield 123, 3) := by decide +kernel
theorem dX10_step_173 : decode cX10_step 173 = .ok (.iconst 0, 1) := by decide +kernel
theorem dX10_step_174 : decode cX10_step 174 = .ok (.aload_n 0, 1) := by decide +kernel
theorem dX10_step_175 : decode cX10_step 175 = .ok (.getfield 47, 3) := by decide +kernel
theorem dX10_step_178 : decode cX10_step 178 = .ok (.iload_n 1, 1) := by decide +kernel
theorem dX10_step_179 : decode cX10_step 179 = .ok (.iaload, 1) := by decide +kernel
theorem dX10_step_180 : decode cX10_step 180 = .ok (.iastore, 1) := by decide +kernel
theorem dX10_step_181 : decode cX10_step 181 = .ok (.aload_n 0, 1) := by decide +kernel
theorem dX10_step_182 : decode cX10_step 182 = .ok (.invokevirtual 263, 3) := by decide +kernel
theorem dX10_step_185 : decode cX10_step 185 = .ok (.iconst 1, 1) := by decide +kernel
theorem dX10_step_186 : decode cX10_step 186 = .ok (.ireturn, 1) := by decide +kernel
theorem dX10_step_187 : decode cX10_step 187 = .ok (.aload_n 0, 1) := by decide +kernel
theorem dX10_step_188 : decode cX10_step 188 = .ok (.getfield 28, 3) := by decide +kernel
theorem dX10_step_191 : decode cX10_step 191 = .ok (.iload_n 1, 1) := by decide +kernel
theorem dX10_step_192 : decode cX10_step 192 = .ok (.iaload, 1) := by decide +kernel
theorem dX10_step_193 : decode cX10_step 193 = .ok (.ifCond .ne 8, 3) := by decide +kernel
theorem dX10_step_196 : decode cX10_step 196 = .ok (.aload_n 0, 1) := by decide +kernel
theorem dX10_step_197 : decode cX10_step 197 = .ok (.iload_n 1, 1) := by decide +kernel
theorem dX10_step_198 : decode cX10_step 198 = .ok (.invokevirtual 266, 3) := by decide +kernel
theorem dX10_step_201 : decode cX10_step 201 = .ok (.aload_n 0, 1) := by decide +kernel
theorem dX10_step_202 : decode cX10_step 202 = .ok (.getfield 25, 3) := by decide +kernel
theorem dX10_step_205 : decode cX10_step 205 = .ok (.iload_n 1, 1) := by decide +kernel
theorem dX10_step_206 : decode cX10_step 206 = .ok (.iaload, 1) := by decide +kernel
theorem dX10_step_207 : decode cX10_step 207 = .ok (.ifCond .ne 23, 3) := by decide +kernel
theorem dX10_step_210 : decode cX10_step 210 = .ok (.aload_n 0, 1) := by decide +kernel
theorem dX10_step_211 : decode cX10_step 211 = .ok (.getfield 22, 3) := by decide +kernel
theorem dX10_step_214 : decode cX10_step 214 = .ok (.iload_n 1, 1) := by decide +kernel
theorem dX10_step_215 : decode cX10_step 215 = .ok (.iaload, 1) := by decide +kernel
theorem dX10_step_216 : decode cX10_step 216 = .ok (.iconst 3, 1) := by decide +kernel
theorem dX10_step_217 : decode cX10_step 217 = .ok (.if_icmp .ne 11, 3) := by decide +kernel
theorem dX10_step_220 : decode cX10_step 220 = .ok (.aload_n 0, 1) := by decide +kernel
theorem dX10_step_221 : decode cX10_step 221 = .ok (.iload_n 1, 1) := by decide +kernel
theorem dX10_step_222 : decode cX10_step 222 = .ok (.invokevirtual 269, 3) := by decide +kernel
theorem dX10_step_225 : decode cX10_step 225 = .ok (.goto 4, 3) := by decide +kernel
theorem dX10_step_228 : decode cX10_step 228 = .ok (.iconst 0, 1) := by decide +kernel
theorem dX10_step_229 : decode cX10_step 229 = .ok (.ireturn, 1) := by decide +kernel
theorem dX10_step_230 : decode cX10_step 230 = .ok (.bipush 24, 2) := by decide +kernel
theorem dX10_step_232 : decode cX10_step 232 = .ok (.iload_n 1, 1) := by decide +kernel
theorem dX10_step_233 : decode cX10_step 233 = .ok (.imul, 1) := by decide +kernel
theorem dX10_step_234 : decode cX10_step 234 = .ok (.istore_n 2, 1) := by decide +kernel
theorem dX10_step_235 : decode cX10_step 235 = .ok (.aload_n 0, 1) := by decide +kernel
theorem dX10_step_236 : decode cX10_step 236 = .ok (.getfield 31, 3) := by decide +kernel
theorem dX10_step_239 : decode cX10_step 239 = .ok (.iload_n 2, 1) := by decide +kernel
theorem dX10_step_240 : decode cX10_step 240 = .ok (.iaload, 1) := by decide +kernel
theorem dX10_step_241 : decode cX10_step 241 = .ok (.istore_n 3, 1) := by decide +kernel
theorem dX10_step_242 : decode cX10_step 242 = .ok (.aload_n 0, 1) := by decide +kernel
theorem dX10_step_243 : decode cX10_step 243 = .ok (.getfield 34, 3) := by decide +kernel
theorem dX10_step_246 : decode cX10_step 246 = .ok (.iload_n 2, 1) := by decide +kernel
theorem dX10_step_247 : decode cX10_step 247 = .ok (.iaload, 1) := by decide +kernel
theorem dX10_step_248 : decode cX10_step 248 = .ok (.istore 4, 2) := by decide +kernel
theorem dX10_step_250 : decode cX10_step 250 = .ok (.aload_n 0, 1) := by decide +kernel
theorem dX10_step_251 : decode cX10_step 251 = .ok (.getfield 37, 3) := by decide +kernel
theorem dX10_step_254 : decode cX10_step 254 = .ok (.iload_n 2, 1) := by decide +kernel
theorem dX10_step_255 : decode cX10_step 255 = .ok (.iaload, 1) := by decide +kernel
theorem dX10_step_256 : decode cX10_step 256 = .ok (.istore 5, 2) := by decide +kernel
theorem dX10_step_258 : decode cX10_step 258 = .ok (.aload_n 0, 1) := by decide +kernel
theorem dX10_step_259 : decode cX10_step 259 = .ok (.getfield 25, 3) := by decide +kernel
theorem dX10_step_262 : decode cX10_step 262 = .ok (.iload_n 1, 1) := by decide +kernel
theorem dX10_step_263 : decode cX10_step 263 = .ok (.dup2, 1) := by decide +kernel
theorem dX10_step_264 : decode cX10_step 264 = .ok (.iaload, 1) := by decide +kernel
theorem dX10_step_265 : decode cX10_step 265 = .ok (.iconst 1, 1) := by decide +kernel
theorem dX10_step_266 : decode cX10_step 266 = .ok (.isub, 1) := by decide +kernel
theorem dX10_step_267 : decode cX10_step 267 = .ok (.iastore, 1) := by decide +kernel
theorem dX10_step_268 : decode cX10_step 268 = .ok (.aload_n 0, 1) := by decide +kernel
theorem dX10_step_269 : decode cX10_step 269 = .ok (.getfield 28, 3) := by decide +kernel
theorem dX10_step_272 : decode cX10_step 272 = .ok (.iload_n 1, 1) := by decide +kernel
theorem dX10_step_273 : decode cX10_step 273 = .ok (.dup2, 1) := by decide +kernel
theorem dX10_step_274 : decode cX10_step 274 = .ok (.iaload, 1) := by decide +kernel
theorem dX10_step_275 : decode cX10_step 275 = .ok (.iconst 1, 1) := by decide +kernel
theorem dX10_step_276 : decode cX10_step 276 = .ok (.isub, 1) := by decide +kernel
theorem dX10_step_277 : decode cX10_step 277 = .ok (.iastore, 1) := by decide +kernel
theorem dX10_step_278 : decode cX10_step 278 = .ok (.iload_n 2, 1) := by decide +kernel
theorem dX10_step_279 : decode cX10_step 279 = .ok (.istore 6, 2) := by decide +kernel
theorem dX10_step_281 : decode cX10_step 281 = .ok (.iload 6, 2) := by decide +kernel
theorem dX10_step_283 : decode cX10_step 283 = .ok (.iload_n 2, 1) := by decide +kernel
theorem dX10_step_284 : decode cX10_step 284 = .ok (.aload_n 0, 1) := by decide +kernel
theorem dX10_step_285 : decode cX10_step 285 = .ok (.getfield 25, 3) := by decide +kernel
theorem dX10_step_288 : decode cX10_step 288 = .ok (.iload_n 1, 1) := by decide +kernel
theorem dX10_step_289 : decode cX10_step 289 = .ok (.iaload, 1) := by decide +kernel
theorem dX10_step_290 : decode cX10_step 290 = .ok (.iadd, 1) := by decide +kernel
theorem dX10_step_291 : decode cX10_step 291 = .ok (.if_icmp .ge 57, 3) := by decide +kernel
theorem dX10_step_294 : decode cX10_step 294 = .ok (.aload_n 0, 1) := by decide +kernel
theorem dX10_step_295 : decode cX10_step 295 = .ok (.getfield 31, 3) := by decide +kernel
theorem dX10_step_298 : decode cX10_step 298 = .ok (.iload 6, 2) := by decide +kernel
theorem dX10_step_300 : decode cX10_step 300 = .ok (.aload_n 0, 1) := by decide +kernel
theorem dX10_step_301 : decode cX10_step 301 = .ok (.getfield 31, 3) := by decide +kernel
theorem dX10_step_304 : decode cX10_step 304 = .ok (.iload 6, 2) := by decide +kernel
theorem dX10_step_306 : decode cX10_step 306 = .ok (.iconst 1, 1) := by decide +kernel
theorem dX10_step_307 : decode cX10_step 307 = .ok (.iadd, 1) := by decide +kernel
theorem dX10_step_308 : decode cX10_step 308 = .ok (.iaload, 1) := by decide +kernel
theorem dX10_step_309 : decode cX10_step 309 = .ok (.iastore, 1) := by decide +kernel
theorem dX10_step_310 : decode cX10_step 310 = .ok (.aload_n 0, 1) := by decide +kernel
theorem dX10_step_311 : decode cX10_step 311 = .ok (.getfield 34, 3) := by decide +kernel
theorem dX10_step_314 : decode cX10_step 314 = .ok (.iload 6, 2) := by decide +kernel
theorem dX10_step_316 : decode cX10_step 316 = .ok (.aload_n 0, 1) := by decide +kernel
theorem dX10_step_317 : decode cX10_step 317 = .ok (.getfield 34, 3) := by decide +kernel
theorem dX10_step_320 : decode cX10_step 320 = .ok (.iload 6, 2) := by decide +kernel
theorem dX10_step_322 : decode cX10_step 322 = .ok (.iconst 1, 1) := by decide +kernel
theorem dX10_step_323 : decode cX10_step 323 = .ok (.iadd, 1) := by decide +kernel
theorem dX10_step_324 : decode cX10_step 324 = .ok (.iaload, 1) := by decide +kernel
theorem dX10_step_325 : decode cX10_step 325 = .ok (.iastore, 1) := by decide +kernel
theorem dX10_step_326 : decode cX10_step 326 = .ok (.aload_n 0, 1) := by decide +kernel
theorem dX10_step_327 : decode cX10_step 327 = .ok (.getfield 37, 3) := by decide +kernel
theorem dX10_step_330 : decode cX10_step 330 = .ok (.iload 6, 2) := by decide +kernel
theorem dX10_step_332 : decode cX10_step 332 = .ok (.aload_n 0, 1) := by decide +kernel
theorem dX10_step_333 : decode cX10_step 333 = .ok (.getfield 37, 3) := by decide +kernel
theorem dX10_step_336 : decode cX10_step 336 = .ok (.iload 6, 2) := by decide +kernel
theorem dX10_step_338 : decode cX10_step 338 = .ok (.iconst 1, 1) := by decide +kernel
theorem dX10_step_339 : decode cX10_step 339 = .ok (.iadd, 1) := by decide +kernel
theorem dX10_step_340 : decode cX10_step 340 = .ok (.iaload, 1) := by decide +kernel
theorem dX10_step_341 : decode cX10_step 341 = .ok (.iastore, 1) := by decide +kernel
theorem dX10_step_342 : decode cX10_step 342 = .ok (.iinc 6 1, 3) := by decide +kernel
theorem dX10_step_345 : decode cX10_step 345 = .ok (.goto (-64), 3) := by decide +kernel
theorem dX10_step_348 : decode cX10_step 348 = .ok (.aload_n 0, 1) := by decide +kernel
theorem dX10_step_349 : decode cX10_step 349 = .ok (.getfield 22, 3) := by decide +kernel
theorem dX10_step_352 : decode cX10_step 352 = .ok (.iload_n 1, 1) := by decide +kernel
theorem dX10_step_353 : decode cX10_step 353 = .ok (.iaload, 1) := by decide +kernel
theorem dX10_step_354 : decode cX10_step 354 = .ok (.iconst 3, 1) := by decide +kernel
theorem dX10_step_355 : decode cX10_step 355 = .ok (.if_icmp .ne 13, 3) := by decide +kernel
theorem dX10_step_358 : decode cX10_step 358 = .ok (.aload_n 0, 1) := by decide +kernel
theorem dX10_step_359 : decode cX10_step 359 = .ok (.getfield 63, 3) := by decide +kernel
theorem dX10_step_362 : decode cX10_step 362 = .ok (.iload_n 1, 1) := by decide +kernel
theorem dX10_step_363 : decode cX10_step 363 = .ok (.aload_n 0, 1) := by decide +kernel
theorem dX10_step_364 : decode cX10_step 364 = .ok (.getfield 182, 3) := by decide +kernel
theorem dX10_step_367 : decode cX10_step 367 = .ok (.lastore, 1) := by decide +kernel
theorem dX10_step_368 : decode cX10_step 368 = .ok (.aload_n 0, 1) := by decide +kernel
theorem dX10_step_369 : decode cX10_step 369 = .ok (.iload_n 1, 1) := by decide +kernel
theorem dX10_step_370 : decode cX10_step 370 = .ok (.iload_n 3, 1) := by decide +kernel
theorem dX10_step_371 : decode cX10_step 371 = .ok (.iconst 1, 1) := by decide +kernel
theorem dX10_step_372 : decode cX10_step 372 = .ok (.if_icmp .ne 7, 3) := by decide +kernel
theorem dX10_step_375 : decode cX10_step 375 = .ok (.iconst 5, 1) := by decide +kernel
theorem dX10_step_376 : decode cX10_step 376 = .ok (.goto 4, 3) := by decide +kernel
theorem dX10_step_379 : decode cX10_step 379 = .ok (.iconst 1, 1) := by decide +kernel
theorem dX10_step_380 : decode cX10_step 380 = .ok (.iload_n 3, 1) := by decide +kernel
theorem dX10_step_381 : decode cX10_step 381 = .ok (.iconst 2, 1) := by decide +kernel
theorem dX10_step_382 : decode cX10_step 382 = .ok (.if_icmp .ne 7, 3) := by decide +kernel
theorem dX10_step_385 : decode cX10_step 385 = .ok (.iconst (-1), 1) := by decide +kernel
theorem dX10_step_386 : decode cX10_step 386 = .ok (.goto 5, 3) := by decide +kernel
theorem dX10_step_389 : decode cX10_step 389 = .ok (.iload 4, 2) := by decide +kernel
theorem dX10_step_391 : decode cX10_step 391 = .ok (.invokevirtual 155, 3) := by decide +kernel
theorem dX10_step_394 : decode cX10_step 394 = .ok (.aload_n 0, 1) := by decide +kernel
theorem dX10_step_395 : decode cX10_step 395 = .ok (.iload_n 3, 1) := by decide +kernel
theorem dX10_step_396 : decode cX10_step 396 = .ok (.iconst 2, 1) := by decide +kernel
theorem dX10_step_397 : decode cX10_step 397 = .ok (.if_icmp .ne 7, 3) := by decide +kernel
theorem dX10_step_400 : decode cX10_step 400 = .ok (.iconst 4, 1) := by decide +kernel
theorem dX10_step_401 : decode cX10_step 401 = .ok (.goto 4, 3) := by decide +kernel
theorem dX10_step_404 : decode cX10_step 404 = .ok (.iconst 0, 1) := by decide +kernel
theorem dX10_step_405 : decode cX10_step 405 = .ok (.iload 4, 2) := by decide +kernel
theorem dX10_step_407 : decode cX10_step 407 = .ok (.iload 5, 2) := by decide +kernel
theorem dX10_step_409 : decode cX10_step 409 = .ok (.invokevirtual 209, 3) := by decide +kernel
theorem dX10_step_412 : decode cX10_step 412 = .ok (.aload_n 0, 1) := by decide +kernel
theorem dX10_step_413 : decode cX10_step 413 = .ok (.invokevirtual 263, 3) := by decide +kernel
theorem dX10_step_416 : decode cX10_step 416 = .ok (.iconst 1, 1) := by decide +kernel
theorem dX10_step_417 : decode cX10_step 417 = .ok (.ireturn, 1) := by decide +kernel
theorem dX10_host_0 : decode cX10_host 0 = .ok (.aload_n 0, 1) := by decide +kernel
theorem dX10_host_1 : decode cX10_host 1 = .ok (.iconst (-1), 1) := by decide +kernel
theorem dX10_host_2 : decode cX10_host 2 = .ok (.putfield 189, 3) := by decide +kernel
theorem dX10_host_5 : decode cX10_host 5 = .ok (.aload_n 0, 1) := by decide +kernel
theorem dX10_host_6 : decode cX10_host 6 = .ok (.iconst 0, 1) := by decide +kernel
theorem dX10_host_7 : decode cX10_host 7 = .ok (.putfield 203, 3) := by decide +kernel
theorem dX10_host_10 : decode cX10_host 10 = .ok (.return_, 1) := by decide +kernel
theorem dX10_execute_0 : decode cX10_execute 0 = .ok (.aload_n 0, 1) := by decide +kernel
theorem dX10_execute_1 : decode cX10_execute 1 = .ok (.aload_n 0, 1) := by decide +kernel
theorem dX10_execute_2 : decode cX10_execute 2 = .ok (.iload_n 1, 1) := by decide +kernel
theorem dX10_execute_3 : decode cX10_execute 3 = .ok (.invokevirtual 163, 3) := by decide +kernel
theorem dX10_execute_6 : decode cX10_execute 6 = .ok (.ifCond .eq 17, 3) := by decide +kernel
theorem dX10_execute_9 : decode cX10_execute 9 = .ok (.iload_n 2, 1) := by decide +kernel
theorem dX10_execute_10 : decode cX10_execute 10 = .ok (.bipush (-2), 2) := by decide +kernel
theorem dX10_execute_12 : decode cX10_execute 12 = .ok (.if_icmp .eq 15, 3) := by decide +kernel
theorem dX10_execute_15 : decode cX10_execute 15 = .ok (.aload_n 0, 1) := by decide +kernel
theorem dX10_execute_16 : decode cX10_execute 16 = .ok (.iload_n 2, 1) := by decide +kernel
theorem dX10_execute_17 : decode cX10_execute 17 = .ok (.invokevirtual 169, 3) := by decide +kernel
theorem dX10_execute_20 : decode cX10_execute 20 = .ok (.ifCond .ne 7, 3) := by decide +kernel
theorem dX10_execute_23 : decode cX10_execute 23 = .ok (.iconst 1, 1) := by decide +kernel
theorem dX10_execute_24 : decode cX10_execute 24 = .ok (.goto 4, 3) := by decide +kernel
theorem dX10_execute_27 : decode cX10_execute 27 = .ok (.iconst 0, 1) := by decide +kernel
theorem dX10_execute_28 : decode cX10_execute 28 = .ok (.iconst 0, 1) := by decide +kernel
theorem dX10_execute_29 : decode cX10_execute 29 = .ok (.invokevirtual 159, 3) := by decide +kernel
theorem dX10_execute_32 : decode cX10_execute 32 = .ok (.ifCond .eq 5, 3) := by decide +kernel
theorem dX10_execute_35 : decode cX10_execute 35 = .ok (.iconst 0, 1) := by decide +kernel
theorem dX10_execute_36 : decode cX10_execute 36 = .ok (.ireturn, 1) := by decide +kernel
theorem dX10_execute_37 : decode cX10_execute 37 = .ok (.aload_n 0, 1) := by decide +kernel
theorem dX10_execute_38 : decode cX10_execute 38 = .ok (.invokevirtual 272, 3) := by decide +kernel
theorem dX10_execute_41 : decode cX10_execute 41 = .ok (.iload_n 2, 1) := by decide +kernel
theorem dX10_execute_42 : decode cX10_execute 42 = .ok (.bipush (-2), 2) := by decide +kernel
theorem dX10_execute_44 : decode cX10_execute 44 = .ok (.if_icmp .ne 10, 3) := by decide +kernel
theorem dX10_execute_47 : decode cX10_execute 47 = .ok (.aload_n 0, 1) := by decide +kernel
theorem dX10_execute_48 : decode cX10_execute 48 = .ok (.invokevirtual 228, 3) := by decide +kernel
theorem dX10_execute_51 : decode cX10_execute 51 = .ok (.goto 4, 3) := by decide +kernel
theorem dX10_execute_54 : decode cX10_execute 54 = .ok (.iload_n 2, 1) := by decide +kernel
theorem dX10_execute_55 : decode cX10_execute 55 = .ok (.istore_n 3, 1) := by decide +kernel
theorem dX10_execute_56 : decode cX10_execute 56 = .ok (.aload_n 0, 1) := by decide +kernel
theorem dX10_execute_57 : decode cX10_execute 57 = .ok (.iconst 0, 1) := by decide +kernel
theorem dX10_execute_58 : decode cX10_execute 58 = .ok (.aload_n 0, 1) := by decide +kernel
theorem dX10_execute_59 : decode cX10_execute 59 = .ok (.iload_n 3, 1) := by decide +kernel
theorem dX10_execute_60 : decode cX10_execute 60 = .ok (.iconst 0, 1) := by decide +kernel
theorem dX10_execute_61 : decode cX10_execute 61 = .ok (.iload_n 1, 1) := by decide +kernel
theorem dX10_execute_62 : decode cX10_execute 62 = .ok (.iconst 0, 1) := by decide +kernel
theorem dX10_execute_63 : decode cX10_execute 63 = .ok (.iload_n 1, 1) := by decide +kernel
theorem dX10_execute_64 : decode cX10_execute 64 = .ok (.invokevirtual 212, 3) := by decide +kernel
theorem dX10_execute_67 : decode cX10_execute 67 = .ok (.ifCond .ne 7, 3) := by decide +kernel
theorem dX10_execute_70 : decode cX10_execute 70 = .ok (.iconst 1, 1) := by decide +kernel
theorem dX10_execute_71 : decode cX10_execute 71 = .ok (.goto 4, 3) := by decide +kernel
theorem dX10_execute_74 : decode cX10_execute 74 = .ok (.iconst 0, 1) := by decide +kernel
theorem dX10_execute_75 : decode cX10_execute 75 = .ok (.invokevirtual 159, 3) := by decide +kernel
theorem dX10_execute_78 : decode cX10_execute 78 = .ok (.ifCond .eq 5, 3) := by decide +kernel
theorem dX10_execute_81 : decode cX10_execute 81 = .ok (.iconst 0, 1) := by decide +kernel
theorem dX10_execute_82 : decode cX10_execute 82 = .ok (.ireturn, 1) := by decide +kernel
theorem dX10_execute_83 : decode cX10_execute 83 = .ok (.iload_n 3, 1) := by decide +kernel
theorem dX10_execute_84 : decode cX10_execute 84 = .ok (.ireturn, 1) := by decide +kernel
theorem dX10_timer_0 : decode cX10_timer 0 = .ok (.aload_n 0, 1) := by decide +kernel
theorem dX10_timer_1 : decode cX10_timer 1 = .ok (.aload_n 0, 1) := by decide +kernel
theorem dX10_timer_2 : decode cX10_timer 2 = .ok (.iload_n 1, 1) := by decide +kernel
theorem dX10_timer_3 : decode cX10_timer 3 = .ok (.invokevirtual 163, 3) := by decide +kernel
theorem dX10_timer_6 : decode cX10_timer 6 = .ok (.ifCond .eq 15, 3) := by decide +kernel
theorem dX10_timer_9 : decode cX10_timer 9 = .ok (.iload_n 2, 1) := by decide +kernel
theorem dX10_timer_10 : decode cX10_timer 10 = .ok (.ifCond .lt 11, 3) := by decide +kernel
theorem dX10_timer_13 : decode cX10_timer 13 = .ok (.aload_n 0, 1) := by decide +kernel
theorem dX10_timer_14 : decode cX10_timer 14 = .ok (.iload_n 3, 1) := by decide +kernel
theorem dX10_timer_15 : decode cX10_timer 15 = .ok (.invokevirtual 169, 3) := by decide +kernel
theorem dX10_timer_18 : decode cX10_timer 18 = .ok (.ifCond .ne 7, 3) := by decide +kernel
theorem dX10_timer_21 : decode cX10_timer 21 = .ok (.iconst 1, 1) := by decide +kernel
theorem dX10_timer_22 : decode cX10_timer 22 = .ok (.goto 4, 3) := by decide +kernel
theorem dX10_timer_25 : decode cX10_timer 25 = .ok (.iconst 0, 1) := by decide +kernel
theorem dX10_timer_26 : decode cX10_timer 26 = .ok (.iconst 0, 1) := by decide +kernel
theorem dX10_timer_27 : decode cX10_timer 27 = .ok (.invokevirtual 159, 3) := by decide +kernel
theorem dX10_timer_30 : decode cX10_timer 30 = .ok (.ifCond .eq 5, 3) := by decide +kernel
theorem dX10_timer_33 : decode cX10_timer 33 = .ok (.iconst 0, 1) := by decide +kernel
theorem dX10_timer_34 : decode cX10_timer 34 = .ok (.ireturn, 1) := by decide +kernel
theorem dX10_timer_35 : decode cX10_timer 35 = .ok (.aload_n 0, 1) := by decide +kernel
theorem dX10_timer_36 : decode cX10_timer 36 = .ok (.invokevirtual 272, 3) := by decide +kernel
theorem dX10_timer_39 : decode cX10_timer 39 = .ok (.aload_n 0, 1) := by decide +kernel
theorem dX10_timer_40 : decode cX10_timer 40 = .ok (.iconst 0, 1) := by decide +kernel
theorem dX10_timer_41 : decode cX10_timer 41 = .ok (.aload_n 0, 1) := by decide +kernel
theorem dX10_timer_42 : decode cX10_timer 42 = .ok (.iload_n 1, 1) := by decide +kernel
theorem dX10_timer_43 : decode cX10_timer 43 = .ok (.iload_n 2, 1) := by decide +kernel
theorem dX10_timer_44 : decode cX10_timer 44 = .ok (.i2l, 1) := by decide +kernel
theorem dX10_timer_45 : decode cX10_timer 45 = .ok (.iload_n 3, 1) := by decide +kernel
theorem dX10_timer_46 : decode cX10_timer 46 = .ok (.invokevirtual 232, 3) := by decide +kernel
theorem dX10_timer_49 : decode cX10_timer 49 = .ok (.ifCond .ne 7, 3) := by decide +kernel
theorem dX10_timer_52 : decode cX10_timer 52 = .ok (.iconst 1, 1) := by decide +kernel
theorem dX10_timer_53 : decode cX10_timer 53 = .ok (.goto 4, 3) := by decide +kernel
theorem dX10_timer_56 : decode cX10_timer 56 = .ok (.iconst 0, 1) := by decide +kernel
theorem dX10_timer_57 : decode cX10_timer 57 = .ok (.invokevirtual 159, 3) := by decide +kernel
theorem dX10_timer_60 : decode cX10_timer 60 = .ok (.ifCond .eq 5, 3) := by decide +kernel
theorem dX10_timer_63 : decode cX10_timer 63 = .ok (.iconst 0, 1) := by decide +kernel
theorem dX10_timer_64 : decode cX10_timer 64 = .ok (.ireturn, 1) := by decide +kernel
theorem dX10_timer_65 : decode cX10_timer 65 = .ok (.aload_n 0, 1) := by decide +kernel
theorem dX10_timer_66 : decode cX10_timer 66 = .ok (.getfield 196, 3) := by decide +kernel
theorem dX10_timer_69 : decode cX10_timer 69 = .ok (.iconst 1, 1) := by decide +kernel
theorem dX10_timer_70 : decode cX10_timer 70 = .ok (.isub, 1) := by decide +kernel
theorem dX10_timer_71 : decode cX10_timer 71 = .ok (.ireturn, 1) := by decide +kernel
theorem dX10_cancel_0 : decode cX10_cancel 0 = .ok (.aload_n 0, 1) := by decide +kernel
theorem dX10_cancel_1 : decode cX10_cancel 1 = .ok (.iconst 0, 1) := by decide +kernel
theorem dX10_cancel_2 : decode cX10_cancel 2 = .ok (.putfield 136, 3) := by decide +kernel
theorem dX10_cancel_5 : decode cX10_cancel 5 = .ok (.iload_n 1, 1) := by decide +kernel
theorem dX10_cancel_6 : decode cX10_cancel 6 = .ok (.i2l, 1) := by decide +kernel
theorem dX10_cancel_7 : decode cX10_cancel 7 = .ok (.lconst 0, 1) := by decide +kernel
theorem dX10_cancel_8 : decode cX10_cancel 8 = .ok (.aload_n 0, 1) := by decide +kernel
theorem dX10_cancel_9 : decode cX10_cancel 9 = .ok (.getfield 196, 3) := by decide +kernel
theorem dX10_cancel_12 : decode cX10_cancel 12 = .ok (.iconst 1, 1) := by decide +kernel
theorem dX10_cancel_13 : decode cX10_cancel 13 = .ok (.isub, 1) := by decide +kernel
theorem dX10_cancel_14 : decode cX10_cancel 14 = .ok (.i2l, 1) := by decide +kernel
theorem dX10_cancel_15 : decode cX10_cancel 15 = .ok (.invokestatic 142, 3) := by decide +kernel
theorem dX10_cancel_18 : decode cX10_cancel 18 = .ok (.ifCond .eq 16, 3) := by decide +kernel
theorem dX10_cancel_21 : decode cX10_cancel 21 = .ok (.aload_n 0, 1) := by decide +kernel
theorem dX10_cancel_22 : decode cX10_cancel 22 = .ok (.getfield 72, 3) := by decide +kernel
theorem dX10_cancel_25 : decode cX10_cancel 25 = .ok (.iload_n 1, 1) := by decide +kernel
theorem dX10_cancel_26 : decode cX10_cancel 26 = .ok (.iaload, 1) := by decide +kernel
theorem dX10_cancel_27 : decode cX10_cancel 27 = .ok (.ifCond .lt 7, 3) := by decide +kernel
theorem dX10_cancel_30 : decode cX10_cancel 30 = .ok (.iconst 1, 1) := by decide +kernel
theorem dX10_cancel_31 : decode cX10_cancel 31 = .ok (.goto 4, 3) := by decide +kernel
theorem dX10_cancel_34 : decode cX10_cancel 34 = .ok (.iconst 0, 1) := by decide +kernel
theorem dX10_cancel_35 : decode cX10_cancel 35 = .ok (.istore_n 2, 1) := by decide +kernel
theorem dX10_cancel_36 : decode cX10_cancel 36 = .ok (.iload_n 2, 1) := by decide +kernel
theorem dX10_cancel_37 : decode cX10_cancel 37 = .ok (.ifCond .eq 10, 3) := by decide +kernel
theorem dX10_cancel_40 : decode cX10_cancel 40 = .ok (.aload_n 0, 1) := by decide +kernel
theorem dX10_cancel_41 : decode cX10_cancel 41 = .ok (.getfield 72, 3) := by decide +kernel
theorem dX10_cancel_44 : decode cX10_cancel 44 = .ok (.iload_n 1, 1) := by decide +kernel
theorem dX10_cancel_45 : decode cX10_cancel 45 = .ok (.iconst (-1), 1) := by decide +kernel
theorem dX10_cancel_46 : decode cX10_cancel 46 = .ok (.iastore, 1) := by decide +kernel
theorem dX10_cancel_47 : decode cX10_cancel 47 = .ok (.iload_n 2, 1) := by decide +kernel
theorem dX10_cancel_48 : decode cX10_cancel 48 = .ok (.ireturn, 1) := by decide +kernel
theorem dX10_complete_0 : decode cX10_complete 0 = .ok (.aload_n 0, 1) := by decide +kernel
theorem dX10_complete_1 : decode cX10_complete 1 = .ok (.aload_n 0, 1) := by decide +kernel
theorem dX10_complete_2 : decode cX10_complete 2 = .ok (.iload_n 1, 1) := by decide +kernel
theorem dX10_complete_3 : decode cX10_complete 3 = .ok (.invokevirtual 218, 3) := by decide +kernel
theorem dX10_complete_6 : decode cX10_complete 6 = .ok (.ifCond .eq 15, 3) := by decide +kernel
theorem dX10_complete_9 : decode cX10_complete 9 = .ok (.iload_n 2, 1) := by decide +kernel
theorem dX10_complete_10 : decode cX10_complete 10 = .ok (.i2l, 1) := by decide +kernel
theorem dX10_complete_11 : decode cX10_complete 11 = .ok (.lconst 1, 1) := by decide +kernel
theorem dX10_complete_12 : decode cX10_complete 12 = .ok (.ldc2_w 275, 3) := by decide +kernel
theorem dX10_complete_15 : decode cX10_complete 15 = .ok (.invokestatic 142, 3) := by decide +kernel
theorem dX10_complete_18 : decode cX10_complete 18 = .ok (.ifCond .ne 7, 3) := by decide +kernel
theorem dX10_complete_21 : decode cX10_complete 21 = .ok (.iconst 1, 1) := by decide +kernel
theorem dX10_complete_22 : decode cX10_complete 22 = .ok (.goto 4, 3) := by decide +kernel
theorem dX10_complete_25 : decode cX10_complete 25 = .ok (.iconst 0, 1) := by decide +kernel
theorem dX10_complete_26 : decode cX10_complete 26 = .ok (.iconst 0, 1) := by decide +kernel
theorem dX10_complete_27 : decode cX10_complete 27 = .ok (.invokevirtual 159, 3) := by decide +kernel
theorem dX10_complete_30 : decode cX10_complete 30 = .ok (.ifCond .eq 5, 3) := by decide +kernel
theorem dX10_complete_33 : decode cX10_complete 33 = .ok (.iconst 0, 1) := by decide +kernel
theorem dX10_complete_34 : decode cX10_complete 34 = .ok (.ireturn, 1) := by decide +kernel
theorem dX10_complete_35 : decode cX10_complete 35 = .ok (.aload_n 0, 1) := by decide +kernel
theorem dX10_complete_36 : decode cX10_complete 36 = .ok (.invokevirtual 272, 3) := by decide +kernel
theorem dX10_complete_39 : decode cX10_complete 39 = .ok (.iload_n 2, 1) := by decide +kernel
theorem dX10_complete_40 : decode cX10_complete 40 = .ok (.iconst 4, 1) := by decide +kernel
theorem dX10_complete_41 : decode cX10_complete 41 = .ok (.if_icmp .ne 20, 3) := by decide +kernel
theorem dX10_complete_44 : decode cX10_complete 44 = .ok (.aload_n 0, 1) := by decide +kernel
theorem dX10_complete_45 : decode cX10_complete 45 = .ok (.getfield 78, 3) := by decide +kernel
theorem dX10_complete_48 : decode cX10_complete 48 = .ok (.iload_n 1, 1) := by decide +kernel
theorem dX10_complete_49 : decode cX10_complete 49 = .ok (.iaload, 1) := by decide +kernel
theorem dX10_complete_50 : decode cX10_complete 50 = .ok (.ifCond .ne 7, 3) := by decide +kernel
theorem dX10_complete_53 : decode cX10_complete 53 = .ok (.iconst 1, 1) := by decide +kernel
theorem dX10_complete_54 : decode cX10_complete 54 = .ok (.goto 14, 3) := by decide +kernel
theorem dX10_complete_57 : decode cX10_complete 57 = .ok (.iconst 0, 1) := by decide +kernel
theorem dX10_complete_58 : decode cX10_complete 58 = .ok (.goto 10, 3) := by decide +kernel
theorem dX10_complete_61 : decode cX10_complete 61 = .ok (.aload_n 0, 1) := by decide +kernel
theorem dX10_complete_62 : decode cX10_complete 62 = .ok (.iload_n 1, 1) := by decide +kernel
theorem dX10_complete_63 : decode cX10_complete 63 = .ok (.iload_n 2, 1) := by decide +kernel
theorem dX10_complete_64 : decode cX10_complete 64 = .ok (.iload_n 3, 1) := by decide +kernel
theorem dX10_complete_65 : decode cX10_complete 65 = .ok (.invokevirtual 236, 3) := by decide +kernel
theorem dX10_complete_68 : decode cX10_complete 68 = .ok (.istore 4, 2) := by decide +kernel
theorem dX10_complete_70 : decode cX10_complete 70 = .ok (.iload_n 2, 1) := by decide +kernel
theorem dX10_complete_71 : decode cX10_complete 71 = .ok (.iconst 4, 1) := by decide +kernel
theorem dX10_complete_72 : decode cX10_complete 72 = .ok (.if_icmp .ne 10, 3) := by decide +kernel
theorem dX10_complete_75 : decode cX10_complete 75 = .ok (.aload_n 0, 1) := by decide +kernel
theorem dX10_complete_76 : decode cX10_complete 76 = .ok (.getfield 84, 3) := by decide +kernel
theorem dX10_complete_79 : decode cX10_complete 79 = .ok (.iload_n 1, 1) := by decide +kernel
theorem dX10_complete_80 : decode cX10_complete 80 = .ok (.iconst 1, 1) := by decide +kernel
theorem dX10_complete_81 : decode cX10_complete 81 = .ok (.bastore, 1) := by decide +kernel
theorem dX10_complete_82 : decode cX10_complete 82 = .ok (.aload_n 0, 1) := by decide +kernel
theorem dX10_complete_83 : decode cX10_complete 83 = .ok (.invokevirtual 263, 3) := by decide +kernel
theorem dX10_complete_86 : decode cX10_complete 86 = .ok (.iload 4, 2) := by decide +kernel
theorem dX10_complete_88 : decode cX10_complete 88 = .ok (.ireturn, 1) := by decide +kernel
theorem dX10_listen_0 : decode cX10_listen 0 = .ok (.aload_n 0, 1) := by decide +kernel
theorem dX10_listen_1 : decode cX10_listen 1 = .ok (.aload_n 0, 1) := by decide +kernel
theorem dX10_listen_2 : decode cX10_listen 2 = .ok (.iload_n 1, 1) := by decide +kernel
theorem dX10_listen_3 : decode cX10_listen 3 = .ok (.invokevirtual 218, 3) := by decide +kernel
theorem dX10_listen_6 : decode cX10_listen 6 = .ok (.ifCond .eq 31, 3) := by decide +kernel
theorem dX10_listen_9 : decode cX10_listen 9 = .ok (.aload_n 0, 1) := by decide +kernel
theorem dX10_listen_10 : decode cX10_listen 10 = .ok (.iload_n 2, 1) := by decide +kernel
theorem dX10_listen_11 : decode cX10_listen 11 = .ok (.invokevirtual 163, 3) := by decide +kernel
theorem dX10_listen_14 : decode cX10_listen 14 = .ok (.ifCond .eq 23, 3) := by decide +kernel
theorem dX10_listen_17 : decode cX10_listen 17 = .ok (.aload_n 0, 1) := by decide +kernel
theorem dX10_listen_18 : decode cX10_listen 18 = .ok (.getfield 78, 3) := by decide +kernel
theorem dX10_listen_21 : decode cX10_listen 21 = .ok (.iload_n 1, 1) := by decide +kernel
theorem dX10_listen_22 : decode cX10_listen 22 = .ok (.iaload, 1) := by decide +kernel
theorem dX10_listen_23 : decode cX10_listen 23 = .ok (.ifCond .ne 18, 3) := by decide +kernel
theorem dX10_listen_26 : decode cX10_listen 26 = .ok (.aload_n 0, 1) := by decide +kernel
theorem dX10_listen_27 : decode cX10_listen 27 = .ok (.getfield 87, 3) := by decide +kernel
theorem dX10_listen_30 : decode cX10_listen 30 = .ok (.iload_n 1, 1) := by decide +kernel
theorem dX10_listen_31 : decode cX10_listen 31 = .ok (.iaload, 1) := by decide +kernel
theorem dX10_listen_32 : decode cX10_listen 32 = .ok (.bipush 6, 2) := by decide +kernel
theorem dX10_listen_34 : decode cX10_listen 34 = .ok (.if_icmp .ne 7, 3) := by decide +kernel
theorem dX10_listen_37 : decode cX10_listen 37 = .ok (.iconst 1, 1) := by decide +kernel
theorem dX10_listen_38 : decode cX10_listen 38 = .ok (.goto 4, 3) := by decide +kernel
theorem dX10_listen_41 : decode cX10_listen 41 = .ok (.iconst 0, 1) := by decide +kernel
theorem dX10_listen_42 : decode cX10_listen 42 = .ok (.iconst 0, 1) := by decide +kernel
theorem dX10_listen_43 : decode cX10_listen 43 = .ok (.invokevirtual 159, 3) := by decide +kernel
theorem dX10_listen_46 : decode cX10_listen 46 = .ok (.ifCond .eq 4, 3) := by decide +kernel
theorem dX10_listen_49 : decode cX10_listen 49 = .ok (.return_, 1) := by decide +kernel
theorem dX10_listen_50 : decode cX10_listen 50 = .ok (.aload_n 0, 1) := by decide +kernel
theorem dX10_listen_51 : decode cX10_listen 51 = .ok (.invokevirtual 272, 3) := by decide +kernel
theorem dX10_listen_54 : decode cX10_listen 54 = .ok (.aload_n 0, 1) := by decide +kernel
theorem dX10_listen_55 : decode cX10_listen 55 = .ok (.iload_n 1, 1) := by decide +kernel
theorem dX10_listen_56 : decode cX10_listen 56 = .ok (.iload_n 2, 1) := by decide +kernel
theorem dX10_listen_57 : decode cX10_listen 57 = .ok (.invokevirtual 239, 3) := by decide +kernel
theorem dX10_listen_60 : decode cX10_listen 60 = .ok (.aload_n 0, 1) := by decide +kernel
theorem dX10_listen_61 : decode cX10_listen 61 = .ok (.invokevirtual 263, 3) := by decide +kernel
theorem dX10_listen_64 : decode cX10_listen 64 = .ok (.return_, 1) := by decide +kernel
theorem dX10_fire_0 : decode cX10_fire 0 = .ok (.aload_n 0, 1) := by decide +kernel
theorem dX10_fire_1 : decode cX10_fire 1 = .ok (.aload_n 0, 1) := by decide +kernel
theorem dX10_fire_2 : decode cX10_fire 2 = .ok (.iload_n 1, 1) := by decide +kernel
theorem dX10_fire_3 : decode cX10_fire 3 = .ok (.invokevirtual 172, 3) := by decide +kernel
theorem dX10_fire_6 : decode cX10_fire 6 = .ok (.ifCond .ne 7, 3) := by decide +kernel
theorem dX10_fire_9 : decode cX10_fire 9 = .ok (.iconst 1, 1) := by decide +kernel
theorem dX10_fire_10 : decode cX10_fire 10 = .ok (.goto 4, 3) := by decide +kernel
theorem dX10_fire_13 : decode cX10_fire 13 = .ok (.iconst 0, 1) := by decide +kernel
theorem dX10_fire_14 : decode cX10_fire 14 = .ok (.iconst 0, 1) := by decide +kernel
theorem dX10_fire_15 : decode cX10_fire 15 = .ok (.invokevirtual 159, 3) := by decide +kernel
theorem dX10_fire_18 : decode cX10_fire 18 = .ok (.ifCond .eq 4, 3) := by decide +kernel
theorem dX10_fire_21 : decode cX10_fire 21 = .ok (.return_, 1) := by decide +kernel
theorem dX10_fire_22 : decode cX10_fire 22 = .ok (.aload_n 0, 1) := by decide +kernel
theorem dX10_fire_23 : decode cX10_fire 23 = .ok (.invokevirtual 272, 3) := by decide +kernel
theorem dX10_fire_26 : decode cX10_fire 26 = .ok (.aload_n 0, 1) := by decide +kernel
theorem dX10_fire_27 : decode cX10_fire 27 = .ok (.iconst 0, 1) := by decide +kernel
theorem dX10_fire_28 : decode cX10_fire 28 = .ok (.aload_n 0, 1) := by decide +kernel
theorem dX10_fire_29 : decode cX10_fire 29 = .ok (.iload_n 1, 1) := by decide +kernel
theorem dX10_fire_30 : decode cX10_fire 30 = .ok (.iload_n 2, 1) := by decide +kernel
theorem dX10_fire_31 : decode cX10_fire 31 = .ok (.invokevirtual 246, 3) := by decide +kernel
theorem dX10_fire_34 : decode cX10_fire 34 = .ok (.ifCond .ne 7, 3) := by decide +kernel
theorem dX10_fire_37 : decode cX10_fire 37 = .ok (.iconst 1, 1) := by decide +kernel
theorem dX10_fire_38 : decode cX10_fire 38 = .ok (.goto 4, 3) := by decide +kernel
theorem dX10_fire_41 : decode cX10_fire 41 = .ok (.iconst 0, 1) := by decide +kernel
theorem dX10_fire_42 : decode cX10_fire 42 = .ok (.invokevirtual 159, 3) := by decide +kernel
theorem dX10_fire_45 : decode cX10_fire 45 = .ok (.pop, 1) := by decide +kernel
theorem dX10_fire_46 : decode cX10_fire 46 = .ok (.return_, 1) := by decide +kernel
theorem dX10_shutdown_0 : decode cX10_shutdown 0 = .ok (.aload_n 0, 1) := by decide +kernel
theorem dX10_shutdown_1 : decode cX10_shutdown 1 = .ok (.iload_n 1, 1) := by decide +kernel
theorem dX10_shutdown_2 : decode cX10_shutdown 2 = .ok (.ifCond .lt 8, 3) := by decide +kernel
theorem dX10_shutdown_5 : decode cX10_shutdown 5 = .ok (.iload_n 2, 1) := by decide +kernel
theorem dX10_shutdown_6 : decode cX10_shutdown 6 = .ok (.iload_n 1, 1) := by decide +kernel
theorem dX10_shutdown_7 : decode cX10_shutdown 7 = .ok (.if_icmp .ge 7, 3) := by decide +kernel
theorem dX10_shutdown_10 : decode cX10_shutdown 10 = .ok (.iconst 1, 1) := by decide +kernel
theorem dX10_shutdown_11 : decode cX10_shutdown 11 = .ok (.goto 4, 3) := by decide +kernel
theorem dX10_shutdown_14 : decode cX10_shutdown 14 = .ok (.iconst 0, 1) := by decide +kernel
theorem dX10_shutdown_15 : decode cX10_shutdown 15 = .ok (.iconst 0, 1) := by decide +kernel
theorem dX10_shutdown_16 : decode cX10_shutdown 16 = .ok (.invokevirtual 159, 3) := by decide +kernel
theorem dX10_shutdown_19 : decode cX10_shutdown 19 = .ok (.ifCond .eq 4, 3) := by decide +kernel
theorem dX10_shutdown_22 : decode cX10_shutdown 22 = .ok (.return_, 1) := by decide +kernel
theorem dX10_shutdown_23 : decode cX10_shutdown 23 = .ok (.aload_n 0, 1) := by decide +kernel
theorem dX10_shutdown_24 : decode cX10_shutdown 24 = .ok (.invokevirtual 272, 3) := by decide +kernel
theorem dX10_shutdown_27 : decode cX10_shutdown 27 = .ok (.aload_n 0, 1) := by decide +kernel
theorem dX10_shutdown_28 : decode cX10_shutdown 28 = .ok (.iload_n 1, 1) := by decide +kernel
theorem dX10_shutdown_29 : decode cX10_shutdown 29 = .ok (.iload_n 2, 1) := by decide +kernel
theorem dX10_shutdown_30 : decode cX10_shutdown 30 = .ok (.invokevirtual 250, 3) := by decide +kernel
theorem dX10_shutdown_33 : decode cX10_shutdown 33 = .ok (.return_, 1) := by decide +kernel
theorem dX10_loop_0 : decode cX10_loop 0 = .ok (.aload_n 0, 1) := by decide +kernel
theorem dX10_loop_1 : decode cX10_loop 1 = .ok (.aload_n 0, 1) := by decide +kernel
theorem dX10_loop_2 : decode cX10_loop 2 = .ok (.iload_n 1, 1) := by decide +kernel
theorem dX10_loop_3 : decode cX10_loop 3 = .ok (.invokevirtual 169, 3) := by decide +kernel
theorem dX10_loop_6 : decode cX10_loop 6 = .ok (.ifCond .eq 15, 3) := by decide +kernel
theorem dX10_loop_9 : decode cX10_loop 9 = .ok (.iload_n 2, 1) := by decide +kernel
theorem dX10_loop_10 : decode cX10_loop 10 = .ok (.i2l, 1) := by decide +kernel
theorem dX10_loop_11 : decode cX10_loop 11 = .ok (.lconst 0, 1) := by decide +kernel
theorem dX10_loop_12 : decode cX10_loop 12 = .ok (.ldc2_w 275, 3) := by decide +kernel
theorem dX10_loop_15 : decode cX10_loop 15 = .ok (.invokestatic 142, 3) := by decide +kernel
theorem dX10_loop_18 : decode cX10_loop 18 = .ok (.ifCond .ne 7, 3) := by decide +kernel
theorem dX10_loop_21 : decode cX10_loop 21 = .ok (.iconst 1, 1) := by decide +kernel
theorem dX10_loop_22 : decode cX10_loop 22 = .ok (.goto 4, 3) := by decide +kernel
theorem dX10_loop_25 : decode cX10_loop 25 = .ok (.iconst 0, 1) := by decide +kernel
theorem dX10_loop_26 : decode cX10_loop 26 = .ok (.iconst 0, 1) := by decide +kernel
theorem dX10_loop_27 : decode cX10_loop 27 = .ok (.invokevirtual 159, 3) := by decide +kernel
theorem dX10_loop_30 : decode cX10_loop 30 = .ok (.ifCond .eq 5, 3) := by decide +kernel
theorem dX10_loop_33 : decode cX10_loop 33 = .ok (.iconst 0, 1) := by decide +kernel
theorem dX10_loop_34 : decode cX10_loop 34 = .ok (.ireturn, 1) := by decide +kernel
theorem dX10_loop_35 : decode cX10_loop 35 = .ok (.iload_n 2, 1) := by decide +kernel
theorem dX10_loop_36 : decode cX10_loop 36 = .ok (.ifCond .ne 12, 3) := by decide +kernel
theorem dX10_loop_39 : decode cX10_loop 39 = .ok (.aload_n 0, 1) := by decide +kernel
theorem dX10_loop_40 : decode cX10_loop 40 = .ok (.getfield 22, 3) := by decide +kernel
theorem dX10_loop_43 : decode cX10_loop 43 = .ok (.iload_n 1, 1) := by decide +kernel
theorem dX10_loop_44 : decode cX10_loop 44 = .ok (.iaload, 1) := by decide +kernel
theorem dX10_loop_45 : decode cX10_loop 45 = .ok (.goto 58, 3) := by decide +kernel
theorem dX10_loop_48 : decode cX10_loop 48 = .ok (.iload_n 2, 1) := by decide +kernel
theorem dX10_loop_49 : decode cX10_loop 49 = .ok (.iconst 1, 1) := by decide +kernel
theorem dX10_loop_50 : decode cX10_loop 50 = .ok (.if_icmp .ne 12, 3) := by decide +kernel
theorem dX10_loop_53 : decode cX10_loop 53 = .ok (.aload_n 0, 1) := by decide +kernel
theorem dX10_loop_54 : decode cX10_loop 54 = .ok (.getfield 25, 3) := by decide +kernel
theorem dX10_loop_57 : decode cX10_loop 57 = .ok (.iload_n 1, 1) := by decide +kernel
theorem dX10_loop_58 : decode cX10_loop 58 = .ok (.iaload, 1) := by decide +kernel
theorem dX10_loop_59 : decode cX10_loop 59 = .ok (.goto 44, 3) := by decide +kernel
theorem dX10_loop_62 : decode cX10_loop 62 = .ok (.iload_n 2, 1) := by decide +kernel
theorem dX10_loop_63 : decode cX10_loop 63 = .ok (.iconst 2, 1) := by decide +kernel
theorem dX10_loop_64 : decode cX10_loop 64 = .ok (.if_icmp .ne 11, 3) := by decide +kernel
theorem dX10_loop_67 : decode cX10_loop 67 = .ok (.aload_n 0, 1) := by decide +kernel
theorem dX10_loop_68 : decode cX10_loop 68 = .ok (.iload_n 1, 1) := by decide +kernel
theorem dX10_loop_69 : decode cX10_loop 69 = .ok (.invokevirtual 199, 3) := by decide +kernel
theorem dX10_loop_72 : decode cX10_loop 72 = .ok (.goto 31, 3) := by decide +kernel
theorem dX10_loop_75 : decode cX10_loop 75 = .ok (.iload_n 2, 1) := by decide +kernel
theorem dX10_loop_76 : decode cX10_loop 76 = .ok (.iconst 3, 1) := by decide +kernel
theorem dX10_loop_77 : decode cX10_loop 77 = .ok (.if_icmp .ne 20, 3) := by decide +kernel
theorem dX10_loop_80 : decode cX10_loop 80 = .ok (.aload_n 0, 1) := by decide +kernel
theorem dX10_loop_81 : decode cX10_loop 81 = .ok (.getfield 40, 3) := by decide +kernel
theorem dX10_loop_84 : decode cX10_loop 84 = .ok (.iload_n 1, 1) := by decide +kernel
theorem dX10_loop_85 : decode cX10_loop 85 = .ok (.baload, 1) := by decide +kernel
theorem dX10_loop_86 : decode cX10_loop 86 = .ok (.ifCond .eq 7, 3) := by decide +kernel
theorem dX10_loop_89 : decode cX10_loop 89 = .ok (.iconst 1, 1) := by decide +kernel
theorem dX10_loop_90 : decode cX10_loop 90 = .ok (.goto 13, 3) := by decide +kernel
theorem dX10_loop_93 : decode cX10_loop 93 = .ok (.iconst 0, 1) := by decide +kernel
theorem dX10_loop_94 : decode cX10_loop 94 = .ok (.goto 9, 3) := by decide +kernel
theorem dX10_loop_97 : decode cX10_loop 97 = .ok (.aload_n 0, 1) := by decide +kernel
theorem dX10_loop_98 : decode cX10_loop 98 = .ok (.getfield 28, 3) := by decide +kernel
theorem dX10_loop_101 : decode cX10_loop 101 = .ok (.iload_n 1, 1) := by decide +kernel
theorem dX10_loop_102 : decode cX10_loop 102 = .ok (.iaload, 1) := by decide +kernel
theorem dX10_loop_103 : decode cX10_loop 103 = .ok (.ireturn, 1) := by decide +kernel
theorem dX10_look_0 : decode cX10_look 0 = .ok (.aload_n 0, 1) := by decide +kernel
theorem dX10_look_1 : decode cX10_look 1 = .ok (.aload_n 0, 1) := by decide +kernel
theorem dX10_look_2 : decode cX10_look 2 = .ok (.iload_n 1, 1) := by decide +kernel
theorem dX10_look_3 : decode cX10_look 3 = .ok (.invokevirtual 218, 3) := by decide +kernel
theorem dX10_look_6 : decode cX10_look 6 = .ok (.ifCond .eq 15, 3) := by decide +kernel
theorem dX10_look_9 : decode cX10_look 9 = .ok (.iload_n 2, 1) := by decide +kernel
theorem dX10_look_10 : decode cX10_look 10 = .ok (.i2l, 1) := by decide +kernel
theorem dX10_look_11 : decode cX10_look 11 = .ok (.lconst 0, 1) := by decide +kernel
theorem dX10_look_12 : decode cX10_look 12 = .ok (.ldc2_w 277, 3) := by decide +kernel
theorem dX10_look_15 : decode cX10_look 15 = .ok (.invokestatic 142, 3) := by decide +kernel
theorem dX10_look_18 : decode cX10_look 18 = .ok (.ifCond .ne 7, 3) := by decide +kernel
theorem dX10_look_21 : decode cX10_look 21 = .ok (.iconst 1, 1) := by decide +kernel
theorem dX10_look_22 : decode cX10_look 22 = .ok (.goto 4, 3) := by decide +kernel
theorem dX10_look_25 : decode cX10_look 25 = .ok (.iconst 0, 1) := by decide +kernel
theorem dX10_look_26 : decode cX10_look 26 = .ok (.iconst 0, 1) := by decide +kernel
theorem dX10_look_27 : decode cX10_look 27 = .ok (.invokevirtual 159, 3) := by decide +kernel
theorem dX10_look_30 : decode cX10_look 30 = .ok (.ifCond .eq 5, 3) := by decide +kernel
theorem dX10_look_33 : decode cX10_look 33 = .ok (.iconst 0, 1) := by decide +kernel
theorem dX10_look_34 : decode cX10_look 34 = .ok (.ireturn, 1) := by decide +kernel
theorem dX10_look_35 : decode cX10_look 35 = .ok (.iload_n 2, 1) := by decide +kernel
theorem dX10_look_36 : decode cX10_look 36 = .ok (.ifCond .ne 12, 3) := by decide +kernel
theorem dX10_look_39 : decode cX10_look 39 = .ok (.aload_n 0, 1) := by decide +kernel
theorem dX10_look_40 : decode cX10_look 40 = .ok (.getfield 78, 3) := by decide +kernel
theorem dX10_look_43 : decode cX10_look 43 = .ok (.iload_n 1, 1) := by decide +kernel
theorem dX10_look_44 : decode cX10_look 44 = .ok (.iaload, 1) := by decide +kernel
theorem dX10_look_45 : decode cX10_look 45 = .ok (.goto 23, 3) := by decide +kernel
theorem dX10_look_48 : decode cX10_look 48 = .ok (.iload_n 2, 1) := by decide +kernel
theorem dX10_look_49 : decode cX10_look 49 = .ok (.iconst 1, 1) := by decide +kernel
theorem dX10_look_50 : decode cX10_look 50 = .ok (.if_icmp .ne 12, 3) := by decide +kernel
theorem dX10_look_53 : decode cX10_look 53 = .ok (.aload_n 0, 1) := by decide +kernel
theorem dX10_look_54 : decode cX10_look 54 = .ok (.getfield 81, 3) := by decide +kernel
theorem dX10_look_57 : decode cX10_look 57 = .ok (.iload_n 1, 1) := by decide +kernel
theorem dX10_look_58 : decode cX10_look 58 = .ok (.iaload, 1) := by decide +kernel
theorem dX10_look_59 : decode cX10_look 59 = .ok (.goto 9, 3) := by decide +kernel
theorem dX10_look_62 : decode cX10_look 62 = .ok (.aload_n 0, 1) := by decide +kernel
theorem dX10_look_63 : decode cX10_look 63 = .ok (.getfield 87, 3) := by decide +kernel
theorem dX10_look_66 : decode cX10_look 66 = .ok (.iload_n 1, 1) := by decide +kernel
theorem dX10_look_67 : decode cX10_look 67 = .ok (.iaload, 1) := by decide +kernel
theorem dX10_look_68 : decode cX10_look 68 = .ok (.ireturn, 1) := by decide +kernel
theorem dX10_traced_0 : decode cX10_traced 0 = .ok (.aload_n 0, 1) := by decide +kernel
theorem dX10_traced_1 : decode cX10_traced 1 = .ok (.iconst 0, 1) := by decide +kernel
theorem dX10_traced_2 : decode cX10_traced 2 = .ok (.putfield 136, 3) := by decide +kernel
theorem dX10_traced_5 : decode cX10_traced 5 = .ok (.aload_n 0, 1) := by decide +kernel
theorem dX10_traced_6 : decode cX10_traced 6 = .ok (.getfield 152, 3) := by decide +kernel
theorem dX10_traced_9 : decode cX10_traced 9 = .ok (.ireturn, 1) := by decide +kernel
theorem dX10_trace_0 : decode cX10_trace 0 = .ok (.iload_n 2, 1) := by decide +kernel
theorem dX10_trace_1 : decode cX10_trace 1 = .ok (.i2l, 1) := by decide +kernel
theorem dX10_trace_2 : decode cX10_trace 2 = .ok (.lconst 0, 1) := by decide +kernel
theorem dX10_trace_3 : decode cX10_trace 3 = .ok (.ldc2_w 277, 3) := by decide +kernel
theorem dX10_trace_6 : decode cX10_trace 6 = .ok (.invokestatic 142, 3) := by decide +kernel
theorem dX10_trace_9 : decode cX10_trace 9 = .ok (.ifCond .ne 7, 3) := by decide +kernel
theorem dX10_trace_12 : decode cX10_trace 12 = .ok (.iconst 1, 1) := by decide +kernel
theorem dX10_trace_13 : decode cX10_trace 13 = .ok (.goto 4, 3) := by decide +kernel
theorem dX10_trace_16 : decode cX10_trace 16 = .ok (.iconst 0, 1) := by decide +kernel
theorem dX10_trace_17 : decode cX10_trace 17 = .ok (.istore_n 3, 1) := by decide +kernel
theorem dX10_trace_18 : decode cX10_trace 18 = .ok (.aload_n 0, 1) := by decide +kernel
theorem dX10_trace_19 : decode cX10_trace 19 = .ok (.iload_n 3, 1) := by decide +kernel
theorem dX10_trace_20 : decode cX10_trace 20 = .ok (.iload_n 3, 1) := by decide +kernel
theorem dX10_trace_21 : decode cX10_trace 21 = .ok (.ifCond .ne 35, 3) := by decide +kernel
theorem dX10_trace_24 : decode cX10_trace 24 = .ok (.iload_n 1, 1) := by decide +kernel
theorem dX10_trace_25 : decode cX10_trace 25 = .ok (.i2l, 1) := by decide +kernel
theorem dX10_trace_26 : decode cX10_trace 26 = .ok (.lconst 0, 1) := by decide +kernel
theorem dX10_trace_27 : decode cX10_trace 27 = .ok (.aload_n 0, 1) := by decide +kernel
theorem dX10_trace_28 : decode cX10_trace 28 = .ok (.getfield 152, 3) := by decide +kernel
theorem dX10_trace_31 : decode cX10_trace 31 = .ok (.iconst 1, 1) := by decide +kernel
theorem dX10_trace_32 : decode cX10_trace 32 = .ok (.isub, 1) := by decide +kernel
theorem dX10_trace_33 : decode cX10_trace 33 = .ok (.i2l, 1) := by decide +kernel
theorem dX10_trace_34 : decode cX10_trace 34 = .ok (.invokestatic 142, 3) := by decide +kernel
theorem dX10_trace_37 : decode cX10_trace 37 = .ok (.ifCond .eq 15, 3) := by decide +kernel
theorem dX10_trace_40 : decode cX10_trace 40 = .ok (.iload_n 1, 1) := by decide +kernel
theorem dX10_trace_41 : decode cX10_trace 41 = .ok (.sipush 300, 3) := by decide +kernel
theorem dX10_trace_44 : decode cX10_trace 44 = .ok (.iadd, 1) := by decide +kernel
theorem dX10_trace_45 : decode cX10_trace 45 = .ok (.aload_n 0, 1) := by decide +kernel
theorem dX10_trace_46 : decode cX10_trace 46 = .ok (.getfield 152, 3) := by decide +kernel
theorem dX10_trace_49 : decode cX10_trace 49 = .ok (.if_icmp .ge 7, 3) := by decide +kernel
theorem dX10_trace_52 : decode cX10_trace 52 = .ok (.iconst 1, 1) := by decide +kernel
theorem dX10_trace_53 : decode cX10_trace 53 = .ok (.goto 4, 3) := by decide +kernel
theorem dX10_trace_56 : decode cX10_trace 56 = .ok (.iconst 0, 1) := by decide +kernel
theorem dX10_trace_57 : decode cX10_trace 57 = .ok (.invokevirtual 159, 3) := by decide +kernel
theorem dX10_trace_60 : decode cX10_trace 60 = .ok (.ifCond .eq 5, 3) := by decide +kernel
theorem dX10_trace_63 : decode cX10_trace 63 = .ok (.iconst 0, 1) := by decide +kernel
theorem dX10_trace_64 : decode cX10_trace 64 = .ok (.ireturn, 1) := by decide +kernel
theorem dX10_trace_65 : decode cX10_trace 65 = .ok (.iload_n 2, 1) := by decide +kernel
theorem dX10_trace_66 : decode cX10_trace 66 = .ok (.ifCond .ne 16, 3) := by decide +kernel
theorem dX10_trace_69 : decode cX10_trace 69 = .ok (.aload_n 0, 1) := by decide +kernel
theorem dX10_trace_70 : decode cX10_trace 70 = .ok (.getfield 108, 3) := by decide +kernel
theorem dX10_trace_73 : decode cX10_trace 73 = .ok (.iload_n 1, 1) := by decide +kernel
theorem dX10_trace_74 : decode cX10_trace 74 = .ok (.sipush 300, 3) := by decide +kernel
theorem dX10_trace_77 : decode cX10_trace 77 = .ok (.irem, 1) := by decide +kernel
theorem dX10_trace_78 : decode cX10_trace 78 = .ok (.iaload, 1) := by decide +kernel
theorem dX10_trace_79 : decode cX10_trace 79 = .ok (.goto 31, 3) := by decide +kernel
theorem dX10_trace_82 : decode cX10_trace 82 = .ok (.iload_n 2, 1) := by decide +kernel
theorem dX10_trace_83 : decode cX10_trace 83 = .ok (.iconst 1, 1) := by decide +kernel
theorem dX10_trace_84 : decode cX10_trace 84 = .ok (.if_icmp .ne 16, 3) := by decide +kernel
theorem dX10_trace_87 : decode cX10_trace 87 = .ok (.aload_n 0, 1) := by decide +kernel
theorem dX10_trace_88 : decode cX10_trace 88 = .ok (.getfield 111, 3) := by decide +kernel
theorem dX10_trace_91 : decode cX10_trace 91 = .ok (.iload_n 1, 1) := by decide +kernel
theorem dX10_trace_92 : decode cX10_trace 92 = .ok (.sipush 300, 3) := by decide +kernel
theorem dX10_trace_95 : decode cX10_trace 95 = .ok (.irem, 1) := by decide +kernel
theorem dX10_trace_96 : decode cX10_trace 96 = .ok (.iaload, 1) := by decide +kernel
theorem dX10_trace_97 : decode cX10_trace 97 = .ok (.goto 13, 3) := by decide +kernel
theorem dX10_trace_100 : decode cX10_trace 100 = .ok (.aload_n 0, 1) := by decide +kernel
theorem dX10_trace_101 : decode cX10_trace 101 = .ok (.getfield 114, 3) := by decide +kernel
theorem dX10_trace_104 : decode cX10_trace 104 = .ok (.iload_n 1, 1) := by decide +kernel
theorem dX10_trace_105 : decode cX10_trace 105 = .ok (.sipush 300, 3) := by decide +kernel
theorem dX10_trace_108 : decode cX10_trace 108 = .ok (.irem, 1) := by decide +kernel
theorem dX10_trace_109 : decode cX10_trace 109 = .ok (.iaload, 1) := by decide +kernel
theorem dX10_trace_110 : decode cX10_trace 110 = .ok (.ireturn, 1) := by decide +kernel
end
section
def WS_0 : List Cond := [.code yX0_has cX0_has 2 (some .boolean), .fieldLink RX0 25 "LoopGroup$Channels" "count" "I", .code yX0_addPair cX0_addPair 3 (some .int), .fieldLink RX0 9 "LoopGroup$Channels" "loops" "[I", .code yX0_peer cX0_peer 2 (some .int), .code yX0_addHandler cX0_addHandler 5 (some .int), .fieldLink RX0 13 "LoopGroup$Channels" "sizes" "[I", .fieldLink RX0 16 "LoopGroup$Channels" "kinds" "[I", .fieldLink RX0 19 "LoopGroup$Channels" "tasks" "[I", .fieldLink RX0 22 "LoopGroup$Channels" "numbers" "[I", .fieldLink RX0 29 "LoopGroup$Channels" "handlersMade" "I", .code yX0_removeHandler cX0_removeHandler 6 (some .int), .methodLink RX0 32 arraycopyName, .native arraycopyName, .static arraycopyName, .initialized "java/lang/System", .code yX1_isQuiet cX1_isQuiet 3 (some .boolean), .fieldLink RX1 32 "LoopGroup$Loop" "quiet" "I", .fieldLink RX1 35 "LoopGroup$Loop" "start" "J", .fieldLink RX1 39 "LoopGroup$Loop" "timeout" "I", .fieldLink RX1 42 "LoopGroup$Loop" "last" "J", .code yX2_has cX2_has 2 (some .boolean), .fieldLink RX2 29 "LoopGroup$Promises" "count" "I", .code yX2_add cX2_add 2 (some .int), .fieldLink RX2 9 "LoopGroup$Promises" "executors" "[I", .code yX2_isPending cX2_isPending 2 (some .boolean), .fieldLink RX2 13 "LoopGroup$Promises" "states" "[I", .code yX2_pin cX2_pin 2 (some .boolean), .fieldLink RX2 19 "LoopGroup$Promises" "pinned" "[Z", .methodLink RX2 33 yX2_isPending, .instanceMethod yX2_isPending, .selects RX2 yX2_isPending yX2_isPending, .initialized RX2, .code yX2_close cX2_close 4 (some .boolean), .fieldLink RX2 16 "LoopGroup$Promises" "values" "[I", .code yX2_takesListener cX2_takesListener 2 (some .boolean), .fieldLink RX2 23 "LoopGroup$Promises" "waiting" "[I", .code yX2_addWaiting cX2_addWaiting 3 none, .fieldLink RX2 26 "LoopGroup$Promises" "listeners" "[I", .code yX3_isFull cX3_isFull 1 (some .boolean), .fieldLink RX3 19 "LoopGroup$Queue" "size" "I", .code yX3_put cX3_put 5 none, .fieldLink RX3 23 "LoopGroup$Queue" "first" "I", .fieldLink RX3 9 "LoopGroup$Queue" "kinds" "[I", .fieldLink RX3 13 "LoopGroup$Queue" "numbers" "[I", .fieldLink RX3 16 "LoopGroup$Queue" "messages" "[I", .code yX3_dropFirst cX3_dropFirst 1 none, .code yX8_log cX8_log 5 none, .fieldLink RX8 13 "LoopGroup$Trace" "count" "I", .fieldLink RX8 9 "LoopGroup$Trace" "rows" "[I", .code yX5_choose cX5_choose 3 (some .int), .fieldLink RX5 25 "LoopGroup$Scheduler" "chosen" "I", .fieldLink RX5 20 "LoopGroup$Scheduler" "loops" "[LLoopGroup$Loop;", .methodLink RX5 29 Lib.Math.abs.name, .static Lib.Math.abs.name, .initialized "java/lang/Math", .code Lib.Math.abs.name Lib.Math.abs.code 1 (some .int), .code yX4_targetOf cX4_targetOf 3 (some .int), .fieldLink RX4 37 "LoopGroup$Runner" "scheduler" "LLoopGroup$Scheduler;", .methodLink RX4 226 yX5_choose]
def WS_1 : List Cond := [.instanceMethod yX5_choose, .selects RX5 yX5_choose yX5_choose, .initialized RX5, .code yX5_become cX5_become 3 none, .fieldLink RX5 35 "LoopGroup$Loop" "state" "I", .fieldLink RX5 12 "LoopGroup$Scheduler" "trace" "LLoopGroup$Trace;", .methodLink RX5 48 yX8_log, .instanceMethod yX8_log, .selects RX8 yX8_log yX8_log, .initialized RX8, .fieldLink RX5 38 "LoopGroup$Loop" "queue" "LLoopGroup$Queue;", .methodLink RX5 42 yX3_isFull, .instanceMethod yX3_isFull, .selects RX3 yX3_isFull yX3_isFull, .initialized RX3, .methodLink RX5 52 yX5_become, .instanceMethod yX5_become, .selects RX5 yX5_become yX5_become, .methodLink RX5 56 yX3_put, .instanceMethod yX3_put, .selects RX3 yX3_put yX3_put, .code yX5_enqueue cX5_enqueue 7 (some .boolean), .code yX7_put cX7_put 5 none, .fieldLink RX7 11 "LoopGroup$Timers" "numbers" "[I", .fieldLink RX7 22 "LoopGroup$Timers" "size" "I", .fieldLink RX7 15 "LoopGroup$Timers" "tasks" "[I", .fieldLink RX7 18 "LoopGroup$Timers" "deadlines" "[J", .fieldLink RX5 59 "LoopGroup$Scheduler" "timersMade" "I", .fieldLink RX5 62 "LoopGroup$Loop" "timers" "LLoopGroup$Timers;", .fieldLink RX5 66 "LoopGroup$Timers" "size" "I", .fieldLink RX5 71 "LoopGroup$Scheduler" "clock" "J", .methodLink RX5 75 yX7_put, .instanceMethod yX7_put, .selects RX7 yX7_put yX7_put, .initialized RX7, .code yX5_schedule cX5_schedule 8 (some .int), .code yX7_placeOf cX7_placeOf 3 (some .int), .code yX7_removeAt cX7_removeAt 2 none, .code yX5_dropTimer cX5_dropTimer 4 (some .boolean), .methodLink RX5 78 yX7_placeOf, .instanceMethod yX7_placeOf, .selects RX7 yX7_placeOf yX7_placeOf, .methodLink RX5 81 yX7_removeAt, .instanceMethod yX7_removeAt, .selects RX7 yX7_removeAt yX7_removeAt, .code yX5_shutAll cX5_shutAll 5 none, .fieldLink RX5 101 "LoopGroup$Loop" "quiet" "I", .fieldLink RX5 104 "LoopGroup$Loop" "timeout" "I", .fieldLink RX5 107 "LoopGroup$Loop" "start" "J", .fieldLink RX5 110 "LoopGroup$Loop" "last" "J", .code yX6_has cX6_has 2 (some .boolean), .fieldLink RX6 22 "LoopGroup$Tasks" "count" "I", .code yX5_has cX5_has 2 (some .boolean), .code yX5_canShut cX5_canShut 3 (some .boolean), .fieldLink RX4 12 "LoopGroup$Runner" "tasks" "LLoopGroup$Tasks;", .fieldLink RX4 171 "LoopGroup$Scheduler" "timersMade" "I", .fieldLink RX4 21 "LoopGroup$Runner" "promises" "LLoopGroup$Promises;", .fieldLink RX4 28 "LoopGroup$Runner" "channels" "LLoopGroup$Channels;", .methodLink RX4 167 yX6_has, .instanceMethod yX6_has]
def WS_2 : List Cond := [.selects RX6 yX6_has yX6_has, .initialized RX6, .methodLink RX4 170 yX5_has, .instanceMethod yX5_has, .selects RX5 yX5_has yX5_has, .methodLink RX4 174 yX2_has, .instanceMethod yX2_has, .selects RX2 yX2_has yX2_has, .methodLink RX4 175 yX2_takesListener, .instanceMethod yX2_takesListener, .selects RX2 yX2_takesListener yX2_takesListener, .methodLink RX4 178 yX0_has, .instanceMethod yX0_has, .selects RX0 yX0_has yX0_has, .initialized RX0, .methodLink RX4 179 yX5_canShut, .instanceMethod yX5_canShut, .selects RX5 yX5_canShut yX5_canShut, .code yX4_canDo cX4_canDo 4 (some .boolean), .code yX4_await cX4_await 3 (some .int), .fieldLink RX4 183 "LoopGroup$Runner" "notifying" "I", .fieldLink RX4 186 "LoopGroup$Runner" "firing" "I", .fieldLink RX4 189 "LoopGroup$Promises" "executors" "[I", .fieldLink RX4 45 "LoopGroup$Runner" "trace" "LLoopGroup$Trace;", .fieldLink RX4 46 "LoopGroup$Scheduler" "loops" "[LLoopGroup$Loop;", .fieldLink RX4 68 "LoopGroup$Loop" "awaited" "I", .methodLink RX4 97 yX2_isPending, .methodLink RX4 102 yX8_log, .methodLink RX4 242 yX2_addWaiting, .instanceMethod yX2_addWaiting, .selects RX2 yX2_addWaiting yX2_addWaiting, .methodLink RX4 239 yX4_tell, .instanceMethod yX4_tell, .selects RX4 yX4_tell yX4_tell, .initialized RX4, .code yX4_carryOut cX4_carryOut 5 none, .methodLink RX4 192 yX4_targetOf, .instanceMethod yX4_targetOf, .selects RX4 yX4_targetOf yX4_targetOf, .methodLink RX4 195 yX5_enqueue, .instanceMethod yX5_enqueue, .selects RX5 yX5_enqueue yX5_enqueue, .methodLink RX4 199 yX5_schedule, .instanceMethod yX5_schedule, .selects RX5 yX5_schedule yX5_schedule, .methodLink RX4 202 yX5_dropTimer, .instanceMethod yX5_dropTimer, .selects RX5 yX5_dropTimer yX5_dropTimer, .methodLink RX4 205 yX4_settle, .instanceMethod yX4_settle, .selects RX4 yX4_settle yX4_settle, .methodLink RX4 209 yX4_addListener, .instanceMethod yX4_addListener, .selects RX4 yX4_addListener yX4_addListener, .methodLink RX4 212 yX4_send, .instanceMethod yX4_send, .selects RX4 yX4_send yX4_send, .methodLink RX4 215 yX0_peer, .instanceMethod yX0_peer, .selects RX0 yX0_peer yX0_peer]
def WS_3 : List Cond := [.methodLink RX4 219 yX5_shutAll, .instanceMethod yX5_shutAll, .selects RX5 yX5_shutAll yX5_shutAll, .methodLink RX4 223 yX2_pin, .instanceMethod yX2_pin, .selects RX2 yX2_pin yX2_pin, .code yX4_doOrder cX4_doOrder 5 (some .int), .fieldLink RX4 65 "LoopGroup$Runner" "work" "I", .methodLink RX4 155 yX4_canDo, .instanceMethod yX4_canDo, .selects RX4 yX4_canDo yX4_canDo, .methodLink RX4 159 yX4_await, .instanceMethod yX4_await, .selects RX4 yX4_await yX4_await, .methodLink RX4 163 yX4_carryOut, .instanceMethod yX4_carryOut, .selects RX4 yX4_carryOut yX4_carryOut, .code yX4_doOrders cX4_doOrders 7 none, .fieldLink RX4 141 "LoopGroup$Tasks" "sizes" "[I", .fieldLink RX4 144 "LoopGroup$Tasks" "kinds" "[I", .fieldLink RX4 145 "LoopGroup$Tasks" "as" "[I", .fieldLink RX4 148 "LoopGroup$Tasks" "bs" "[I", .fieldLink RX4 106 "LoopGroup$Loop" "pausedTask" "I", .fieldLink RX4 109 "LoopGroup$Loop" "pausedOrder" "I", .methodLink RX4 151 yX4_doOrder, .instanceMethod yX4_doOrder, .selects RX4 yX4_doOrder yX4_doOrder, .code yX4_echo cX4_echo 4 none, .code yX4_goThrough cX4_goThrough 9 none, .fieldLink RX4 247 "LoopGroup$Channels" "sizes" "[I", .fieldLink RX4 248 "LoopGroup$Channels" "kinds" "[I", .fieldLink RX4 252 "LoopGroup$Channels" "numbers" "[I", .methodLink RX4 249 yX4_handle, .instanceMethod yX4_handle, .selects RX4 yX4_handle yX4_handle, .code yX4_handle cX4_handle 5 (some .int), .constant RX4 253 (1000000), .fieldLink RX4 257 "LoopGroup$Channels" "tasks" "[I", .methodLink RX4 254 yX4_echo, .instanceMethod yX4_echo, .selects RX4 yX4_echo yX4_echo, .methodLink RX4 112 yX4_doOrders, .instanceMethod yX4_doOrders, .selects RX4 yX4_doOrders yX4_doOrders, .code yX4_send cX4_send 5 (some .boolean), .fieldLink RX4 245 "LoopGroup$Channels" "loops" "[I", .methodLink RX4 138 yX4_goThrough, .instanceMethod yX4_goThrough, .selects RX4 yX4_goThrough yX4_goThrough, .code yX4_settle cX4_settle 7 (some .boolean), .fieldLink RX4 233 "LoopGroup$Promises" "waiting" "[I", .fieldLink RX4 236 "LoopGroup$Promises" "listeners" "[I", .methodLink RX4 230 yX2_close, .instanceMethod yX2_close, .selects RX2 yX2_close yX2_close, .code yX4_tell cX4_tell 5 none, .code yX4_addListener cX4_addListener 4 none, .code yX4_resume cX4_resume 4 (some .int), .code yX7_isBefore cX7_isBefore 3 (some .boolean), .code yX7_firstDue cX7_firstDue 5 (some .int)]
def WS_4 : List Cond := [.methodLink RX7 26 yX7_isBefore, .instanceMethod yX7_isBefore, .selects RX7 yX7_isBefore yX7_isBefore, .fieldLink RX5 89 "LoopGroup$Timers" "tasks" "[I", .fieldLink RX5 93 "LoopGroup$Queue" "size" "I", .methodLink RX5 94 Lib.Math.min.name, .static Lib.Math.min.name, .code Lib.Math.min.name Lib.Math.min.code 2 (some .int), .fieldLink RX5 98 "LoopGroup$Loop" "batch" "I", .methodLink RX5 85 yX7_firstDue, .instanceMethod yX7_firstDue, .selects RX7 yX7_firstDue yX7_firstDue, .code yX5_beginBatch cX5_beginBatch 4 none, .methodLink RX5 113 yX1_isQuiet, .instanceMethod yX1_isQuiet, .selects RX1 yX1_isQuiet yX1_isQuiet, .initialized RX1, .code yX5_confirm cX5_confirm 3 (some .boolean), .fieldLink RX4 82 "LoopGroup$Loop" "queue" "LLoopGroup$Queue;", .fieldLink RX4 115 "LoopGroup$Queue" "first" "I", .fieldLink RX4 118 "LoopGroup$Queue" "kinds" "[I", .fieldLink RX4 122 "LoopGroup$Queue" "numbers" "[I", .fieldLink RX4 125 "LoopGroup$Queue" "messages" "[I", .fieldLink RX4 75 "LoopGroup$Loop" "batch" "I", .fieldLink RX4 131 "LoopGroup$Scheduler" "clock" "J", .fieldLink RX4 135 "LoopGroup$Loop" "last" "J", .methodLink RX4 128 yX3_dropFirst, .instanceMethod yX3_dropFirst, .selects RX3 yX3_dropFirst yX3_dropFirst, .code yX4_beginFirst cX4_beginFirst 7 none, .fieldLink RX4 50 "LoopGroup$Loop" "state" "I", .fieldLink RX4 56 "LoopGroup$Loop" "timers" "LLoopGroup$Timers;", .fieldLink RX4 60 "LoopGroup$Timers" "size" "I", .fieldLink RX4 86 "LoopGroup$Queue" "size" "I", .methodLink RX4 71 yX4_resume, .instanceMethod yX4_resume, .selects RX4 yX4_resume yX4_resume, .methodLink RX4 78 yX5_beginBatch, .instanceMethod yX5_beginBatch, .selects RX5 yX5_beginBatch yX5_beginBatch, .methodLink RX4 89 yX5_confirm, .instanceMethod yX5_confirm, .selects RX5 yX5_confirm yX5_confirm, .methodLink RX4 93 yX4_beginFirst, .instanceMethod yX4_beginFirst, .selects RX4 yX4_beginFirst yX4_beginFirst, .code yX4_takeStep cX4_takeStep 3 (some .int), .code yX6_add cX6_add 1 (some .int), .code yX6_addOrder cX6_addOrder 6 (some .int), .fieldLink RX6 9 "LoopGroup$Tasks" "sizes" "[I", .fieldLink RX6 13 "LoopGroup$Tasks" "kinds" "[I", .fieldLink RX6 16 "LoopGroup$Tasks" "as" "[I", .fieldLink RX6 19 "LoopGroup$Tasks" "bs" "[I", .code yX8_keeps cX8_keeps 2 (some .boolean), .code yX8_read cX8_read 3 (some .int), .code yX9_task cX9_task 1 (some .int), .classLink RX9 51 "java/lang/IllegalStateException", .initialized "java/lang/IllegalStateException", .fieldLink RX9 34 "LoopGroup" "tasks" "LLoopGroup$Tasks;", .fieldLink RX9 45 "LoopGroup$Tasks" "count" "I"]
def WS_5 : List Cond := [.methodLink RX9 58 yX6_add, .instanceMethod yX6_add, .selects RX6 yX6_add yX6_add, .code yX9_needTask cX9_needTask 2 none, .classLink RX9 65 "java/lang/IllegalArgumentException", .initialized "java/lang/IllegalArgumentException", .methodLink RX9 236 yX6_has, .fieldLink RX9 70 "LoopGroup$Tasks" "sizes" "[I", .methodLink RX9 62 yX9_needTask, .instanceMethod yX9_needTask, .selects RX9 yX9_needTask yX9_needTask, .initialized RX9, .methodLink RX9 76 yX6_addOrder, .instanceMethod yX6_addOrder, .selects RX6 yX6_addOrder yX6_addOrder, .code yX9_order cX9_order 5 (some .int), .code yX9_needLoop cX9_needLoop 2 none, .fieldLink RX9 22 "LoopGroup" "scheduler" "LLoopGroup$Scheduler;", .methodLink RX9 241 yX5_has, .fieldLink RX9 39 "LoopGroup" "promises" "LLoopGroup$Promises;", .fieldLink RX9 83 "LoopGroup$Promises" "count" "I", .methodLink RX9 80 yX9_needLoop, .instanceMethod yX9_needLoop, .selects RX9 yX9_needLoop yX9_needLoop, .methodLink RX9 88 yX2_add, .instanceMethod yX2_add, .selects RX2 yX2_add yX2_add, .code yX9_promise cX9_promise 2 (some .int), .fieldLink RX9 44 "LoopGroup" "channels" "LLoopGroup$Channels;", .fieldLink RX9 91 "LoopGroup$Channels" "count" "I", .methodLink RX9 96 yX0_addPair, .instanceMethod yX0_addPair, .selects RX0 yX0_addPair yX0_addPair, .code yX9_channels cX9_channels 3 (some .int), .code yX9_needChannel cX9_needChannel 2 none, .methodLink RX9 247 yX0_has, .fieldLink RX9 103 "LoopGroup$Channels" "sizes" "[I", .methodLink RX9 100 yX9_needChannel, .instanceMethod yX9_needChannel, .selects RX9 yX9_needChannel yX9_needChannel, .methodLink RX9 106 yX0_removeHandler, .instanceMethod yX0_removeHandler, .selects RX0 yX0_removeHandler yX0_removeHandler, .methodLink RX9 113 yX0_addHandler, .instanceMethod yX0_addHandler, .selects RX0 yX0_addHandler yX0_addHandler, .code yX9_handler cX9_handler 5 (some .int), .code yX9_advance cX9_advance 2 (some .long), .constant RX9 117 (1000000), .fieldLink RX9 120 "LoopGroup$Scheduler" "clock" "J", .methodLink RX9 124 yX5_choose, .methodLink RX9 129 yX5_enqueue, .code yX9_execute cX9_execute 4 (some .int), .methodLink RX9 137 yX5_schedule, .code yX9_timer cX9_timer 5 (some .int), .code yX9_cancel cX9_cancel 2 (some .boolean), .methodLink RX9 140 yX5_dropTimer, .code yX9_needPromise cX9_needPromise 2 none, .methodLink RX9 244 yX2_has, .fieldLink RX9 14 "LoopGroup" "runner" "LLoopGroup$Runner;"]
def WS_6 : List Cond := [.methodLink RX9 144 yX9_needPromise, .instanceMethod yX9_needPromise, .selects RX9 yX9_needPromise yX9_needPromise, .methodLink RX9 147 yX2_pin, .methodLink RX9 152 yX4_settle, .code yX9_complete cX9_complete 4 (some .boolean), .methodLink RX9 156 yX2_takesListener, .methodLink RX9 161 yX4_addListener, .code yX9_listen cX9_listen 3 none, .methodLink RX9 165 yX4_send, .code yX9_fire cX9_fire 3 none, .methodLink RX9 169 yX5_canShut, .methodLink RX9 175 yX5_shutAll, .code yX9_shutdown cX9_shutdown 3 none, .methodLink RX9 179 yX4_takeStep, .instanceMethod yX4_takeStep, .selects RX4 yX4_takeStep yX4_takeStep, .code yX9_step cX9_step 2 (some .int), .code yX9_loop cX9_loop 4 (some .int), .fieldLink RX9 182 "LoopGroup$Scheduler" "loops" "[LLoopGroup$Loop;", .fieldLink RX9 186 "LoopGroup$Loop" "state" "I", .fieldLink RX9 191 "LoopGroup$Loop" "queue" "LLoopGroup$Queue;", .fieldLink RX9 195 "LoopGroup$Queue" "size" "I", .fieldLink RX9 198 "LoopGroup$Loop" "timers" "LLoopGroup$Timers;", .fieldLink RX9 202 "LoopGroup$Timers" "size" "I", .fieldLink RX9 205 "LoopGroup$Loop" "awaited" "I", .fieldLink RX9 208 "LoopGroup$Loop" "batch" "I", .code yX9_look cX9_look 3 (some .int), .fieldLink RX9 213 "LoopGroup$Promises" "states" "[I", .fieldLink RX9 216 "LoopGroup$Promises" "values" "[I", .fieldLink RX9 219 "LoopGroup$Promises" "waiting" "[I", .code yX9_traced cX9_traced 1 (some .int), .fieldLink RX9 29 "LoopGroup" "trace" "LLoopGroup$Trace;", .fieldLink RX9 222 "LoopGroup$Trace" "count" "I", .code yX9_trace cX9_trace 3 (some .int), .classLink RX9 228 "java/lang/IndexOutOfBoundsException", .initialized "java/lang/IndexOutOfBoundsException", .methodLink RX9 225 yX8_keeps, .instanceMethod yX8_keeps, .selects RX8 yX8_keeps yX8_keeps, .methodLink RX9 233 yX8_read, .instanceMethod yX8_read, .selects RX8 yX8_read yX8_read, .code yX10_thrown cX10_thrown 1 (some .int), .fieldLink RX10 136 "LoopGroupModel" "thrown" "I", .code yX10_throwing cX10_throwing 3 (some .boolean), .code yX10_in cX10_in 6 (some .boolean), .code yX10_isTask cX10_isTask 2 (some .boolean), .fieldLink RX10 139 "LoopGroupModel" "tasks" "I", .methodLink RX10 142 yX10_in, .static yX10_in, .initialized RX10, .code yX10_isLoop cX10_isLoop 2 (some .boolean), .fieldLink RX10 132 "LoopGroupModel" "n" "I", .code yX10_isPromise cX10_isPromise 2 (some .boolean), .fieldLink RX10 146 "LoopGroupModel" "promises" "I", .code yX10_isChannel cX10_isChannel 2 (some .boolean), .fieldLink RX10 149 "LoopGroupModel" "channels" "I", .code yX10_log cX10_log 4 none, .fieldLink RX10 108 "LoopGroupModel" "traceLoop" "[I"]
def WS_7 : List Cond := [.fieldLink RX10 152 "LoopGroupModel" "traced" "I", .fieldLink RX10 111 "LoopGroupModel" "traceKind" "[I", .fieldLink RX10 114 "LoopGroupModel" "traceValue" "[I", .code yX10_become cX10_become 3 none, .fieldLink RX10 22 "LoopGroupModel" "state" "[I", .methodLink RX10 155 yX10_log, .instanceMethod yX10_log, .selects RX10 yX10_log yX10_log, .code yX10_task cX10_task 1 (some .int), .methodLink RX10 159 yX10_throwing, .instanceMethod yX10_throwing, .selects RX10 yX10_throwing yX10_throwing, .code yX10_order cX10_order 7 (some .int), .constantLong RX10 167 (13), .fieldLink RX10 7 "LoopGroupModel" "many" "[I", .fieldLink RX10 13 "LoopGroupModel" "kind" "[I", .fieldLink RX10 16 "LoopGroupModel" "first" "[I", .fieldLink RX10 19 "LoopGroupModel" "second" "[I", .methodLink RX10 163 yX10_isTask, .instanceMethod yX10_isTask, .selects RX10 yX10_isTask yX10_isTask, .code yX10_promise cX10_promise 3 (some .int), .fieldLink RX10 75 "LoopGroupModel" "executor" "[I", .methodLink RX10 169 yX10_isLoop, .instanceMethod yX10_isLoop, .selects RX10 yX10_isLoop yX10_isLoop, .code yX10_channels cX10_channels 4 (some .int), .fieldLink RX10 93 "LoopGroupModel" "channelLoop" "[I", .constantLong RX10 175 (6), .fieldLink RX10 96 "LoopGroupModel" "handlers" "[I", .fieldLink RX10 99 "LoopGroupModel" "handlerKind" "[I", .fieldLink RX10 102 "LoopGroupModel" "handlerTask" "[I", .fieldLink RX10 105 "LoopGroupModel" "handlerNumber" "[I", .fieldLink RX10 177 "LoopGroupModel" "handlersEver" "I", .methodLink RX10 172 yX10_isChannel, .instanceMethod yX10_isChannel, .selects RX10 yX10_isChannel yX10_isChannel, .code yX10_handler cX10_handler 8 (some .int), .code yX10_advance cX10_advance 2 (some .long), .constantLong RX10 180 (1000000), .fieldLink RX10 182 "LoopGroupModel" "clock" "J", .code yX10_choose cX10_choose 3 (some .int), .fieldLink RX10 186 "LoopGroupModel" "chosen" "I", .code yX10_put cX10_put 7 (some .boolean), .fieldLink RX10 25 "LoopGroupModel" "queued" "[I", .fieldLink RX10 189 "LoopGroupModel" "thread" "I", .fieldLink RX10 31 "LoopGroupModel" "queueKind" "[I", .fieldLink RX10 34 "LoopGroupModel" "queueWhat" "[I", .fieldLink RX10 37 "LoopGroupModel" "queueMessage" "[I", .methodLink RX10 192 yX10_become, .instanceMethod yX10_become, .selects RX10 yX10_become yX10_become, .code yX10_waiting cX10_waiting 4 (some .int), .fieldLink RX10 196 "LoopGroupModel" "timers" "I", .fieldLink RX10 72 "LoopGroupModel" "timerLoop" "[I", .code yX10_schedule cX10_schedule 5 (some .boolean), .fieldLink RX10 66 "LoopGroupModel" "timerTask" "[I", .fieldLink RX10 69 "LoopGroupModel" "deadline" "[J", .methodLink RX10 199 yX10_waiting, .instanceMethod yX10_waiting]
def WS_8 : List Cond := [.selects RX10 yX10_waiting yX10_waiting, .code yX10_push cX10_push 4 none, .fieldLink RX10 117 "LoopGroupModel" "frame" "[I", .fieldLink RX10 203 "LoopGroupModel" "depth" "I", .fieldLink RX10 120 "LoopGroupModel" "frameOf" "[I", .fieldLink RX10 123 "LoopGroupModel" "frameAt" "[I", .fieldLink RX10 126 "LoopGroupModel" "frameMore" "[I", .fieldLink RX10 129 "LoopGroupModel" "frameThrown" "[Z", .code yX10_frames cX10_frames 4 (some .int), .methodLink RX10 206 yX10_frames, .instanceMethod yX10_frames, .selects RX10 yX10_frames yX10_frames, .methodLink RX10 209 yX10_push, .instanceMethod yX10_push, .selects RX10 yX10_push yX10_push, .methodLink RX10 212 yX10_put, .instanceMethod yX10_put, .selects RX10 yX10_put yX10_put, .code yX10_notify cX10_notify 3 none, .code yX10_finish cX10_finish 5 (some .boolean), .fieldLink RX10 78 "LoopGroupModel" "promiseState" "[I", .fieldLink RX10 84 "LoopGroupModel" "pinned" "[Z", .fieldLink RX10 81 "LoopGroupModel" "promiseValue" "[I", .fieldLink RX10 87 "LoopGroupModel" "listeners" "[I", .code yX10_send cX10_send 3 (some .boolean), .code yX10_shut cX10_shut 4 none, .fieldLink RX10 53 "LoopGroupModel" "quiet" "[J", .fieldLink RX10 57 "LoopGroupModel" "timeout" "[J", .fieldLink RX10 60 "LoopGroupModel" "start" "[J", .fieldLink RX10 63 "LoopGroupModel" "last" "[J", .code yX10_isSo cX10_isSo 4 (some .boolean), .constantLong RX10 216 (-2), .methodLink RX10 218 yX10_isPromise, .instanceMethod yX10_isPromise, .selects RX10 yX10_isPromise yX10_isPromise, .fieldLink RX10 90 "LoopGroupModel" "listenerTask" "[I", .methodLink RX10 253 yX10_notify, .instanceMethod yX10_notify, .selects RX10 yX10_notify yX10_notify, .code yX10_listenAt cX10_listenAt 3 none, .code yX10_await cX10_await 2 none, .fieldLink RX10 40 "LoopGroupModel" "blocked" "[Z", .fieldLink RX10 44 "LoopGroupModel" "blockedTask" "[I", .fieldLink RX10 47 "LoopGroupModel" "blockedOrder" "[I", .fieldLink RX10 50 "LoopGroupModel" "blockedBy" "[I", .fieldLink RX10 221 "LoopGroupModel" "acts" "I", .methodLink RX10 224 yX10_isSo, .instanceMethod yX10_isSo, .selects RX10 yX10_isSo yX10_isSo, .methodLink RX10 228 yX10_choose, .instanceMethod yX10_choose, .selects RX10 yX10_choose yX10_choose, .methodLink RX10 232 yX10_schedule, .instanceMethod yX10_schedule, .selects RX10 yX10_schedule yX10_schedule, .methodLink RX10 236 yX10_finish, .instanceMethod yX10_finish, .selects RX10 yX10_finish yX10_finish, .methodLink RX10 239 yX10_listenAt, .instanceMethod yX10_listenAt]
def WS_9 : List Cond := [.selects RX10 yX10_listenAt yX10_listenAt, .methodLink RX10 242 yX10_await, .instanceMethod yX10_await, .selects RX10 yX10_await yX10_await, .methodLink RX10 246 yX10_send, .instanceMethod yX10_send, .selects RX10 yX10_send yX10_send, .methodLink RX10 250 yX10_shut, .instanceMethod yX10_shut, .selects RX10 yX10_shut yX10_shut, .code yX10_work cX10_work 7 none, .constant RX10 256 (1000000), .code yX10_pass cX10_pass 6 none, .methodLink RX10 257 yX10_pass, .instanceMethod yX10_pass, .selects RX10 yX10_pass yX10_pass, .methodLink RX10 260 yX10_work, .instanceMethod yX10_work, .selects RX10 yX10_work yX10_work, .code yX10_run cX10_run 3 none, .fieldLink RX10 28 "LoopGroupModel" "batch" "[I", .code yX10_beginBatch cX10_beginBatch 5 none, .code yX10_confirm cX10_confirm 3 (some .int), .methodLink RX10 263 yX10_run, .instanceMethod yX10_run, .selects RX10 yX10_run yX10_run, .methodLink RX10 266 yX10_beginBatch, .instanceMethod yX10_beginBatch, .selects RX10 yX10_beginBatch yX10_beginBatch, .methodLink RX10 269 yX10_confirm, .instanceMethod yX10_confirm, .selects RX10 yX10_confirm yX10_confirm, .code yX10_step cX10_step 7 (some .int), .code yX10_host cX10_host 1 none, .methodLink RX10 272 yX10_host, .instanceMethod yX10_host, .selects RX10 yX10_host yX10_host, .code yX10_execute cX10_execute 4 (some .int), .code yX10_timer cX10_timer 4 (some .int), .code yX10_cancel cX10_cancel 3 (some .boolean), .constantLong RX10 275 (4), .code yX10_complete cX10_complete 5 (some .boolean), .code yX10_listen cX10_listen 3 none, .code yX10_fire cX10_fire 3 none, .code yX10_shutdown cX10_shutdown 3 none, .code yX10_loop cX10_loop 3 (some .int), .code yX10_look cX10_look 3 (some .int), .constantLong RX10 277 (2), .code yX10_traced cX10_traced 1 (some .int), .code yX10_trace cX10_trace 4 (some .int)]
def WS0 : List Cond := WS_0 ++ (WS_1 ++ (WS_2 ++ (WS_3 ++ (WS_4 ++ (WS_5 ++ (WS_6 ++ (WS_7 ++ (WS_8 ++ (WS_9)))))))))
def WSL : List Cond := wsX00 ++ (wsX10 ++ (wsX20 ++ (wsX30 ++ (wsX40 ++ (wsX50 ++ (wsX60 ++ (wsX70 ++ (wsX80 ++ (wsX90 ++ (wsX100))))))))))
def WST : List Cond := (vx_atS RX9 232 "java/lang/IndexOutOfBoundsException" ["java/lang/RuntimeException", "java/lang/Exception"]).filter goodWord ++ ((vx_atS RX9 55 "java/lang/IllegalStateException" ["java/lang/RuntimeException", "java/lang/Exception"]).filter goodWord ++ ((vx_atS RX9 69 "java/lang/IllegalArgumentException" ["java/lang/RuntimeException", "java/lang/Exception"]).filter goodWord))
def WS : List Cond := WS0 ++ (WSL ++ WST)
theorem in_WS_0 {w : Cond} (h : w ∈ WS_0) : w ∈ WS := (List.mem_append_left _ (List.mem_append_left _ h))
theorem in_WS_1 {w : Cond} (h : w ∈ WS_1) : w ∈ WS := (List.mem_append_left _ (List.mem_append_right _ (List.mem_append_left _ h)))
theorem in_WS_2 {w : Cond} (h : w ∈ WS_2) : w ∈ WS := (List.mem_append_left _ (List.mem_append_right _ (List.mem_append_right _ (List.mem_append_left _ h))))
theorem in_WS_3 {w : Cond} (h : w ∈ WS_3) : w ∈ WS := (List.mem_append_left _ (List.mem_append_right _ (List.mem_append_right _ (List.mem_append_right _ (List.mem_append_left _ h)))))
theorem in_WS_4 {w : Cond} (h : w ∈ WS_4) : w ∈ WS := (List.mem_append_left _ (List.mem_append_right _ (List.mem_append_right _ (List.mem_append_right _ (List.mem_append_right _ (List.mem_append_left _ h))))))
theorem in_WS_5 {w : Cond} (h : w ∈ WS_5) : w ∈ WS := (List.mem_append_left _ (List.mem_append_right _ (List.mem_append_right _ (List.mem_append_right _ (List.mem_append_right _ (List.mem_append_right _ (List.mem_append_left _ h)))))))
theorem in_WS_6 {w : Cond} (h : w ∈ WS_6) : w ∈ WS := (List.mem_append_left _ (List.mem_append_right _ (List.mem_append_right _ (List.mem_append_right _ (List.mem_append_right _ (List.mem_append_right _ (List.mem_append_right _ (List.mem_append_left _ h))))))))
theorem in_WS_7 {w : Cond} (h : w ∈ WS_7) : w ∈ WS := (List.mem_append_left _ (List.mem_append_right _ (List.mem_append_right _ (List.mem_append_right _ (List.mem_append_right _ (List.mem_append_right _ (List.mem_append_right _ (List.mem_append_right _ (List.mem_append_left _ h)))))))))
theorem in_WS_8 {w : Cond} (h : w ∈ WS_8) : w ∈ WS := (List.mem_append_left _ (List.mem_append_right _ (List.mem_append_right _ (List.mem_append_right _ (List.mem_append_right _ (List.mem_append_right _ (List.mem_append_right _ (List.mem_append_right _ (List.mem_append_right _ (List.mem_append_left _ h))))))))))
theorem in_WS_9 {w : Cond} (h : w ∈ WS_9) : w ∈ WS := (List.mem_append_left _ (List.mem_append_right _ (List.mem_append_right _ (List.mem_append_right _ (List.mem_append_right _ (List.mem_append_right _ (List.mem_append_right _ (List.mem_append_right _ (List.mem_append_right _ (List.mem_append_right _ h))))))))))
theorem in_L0 : ∀ w ∈ wsX00, w ∈ WS := fun w h => (List.mem_append_right _ (List.mem_append_left _ (List.mem_append_left _ h)))
theorem in_L1 : ∀ w ∈ wsX10, w ∈ WS := fun w h => (List.mem_append_right _ (List.mem_append_left _ (List.mem_append_right _ (List.mem_append_left _ h))))
theorem in_L2 : ∀ w ∈ wsX20, w ∈ WS := fun w h => (List.mem_append_right _ (List.mem_append_left _ (List.mem_append_right _ (List.mem_append_right _ (List.mem_append_left _ h)))))
theorem in_L3 : ∀ w ∈ wsX30, w ∈ WS := fun w h => (List.mem_append_right _ (List.mem_append_left _ (List.mem_append_right _ (List.mem_append_right _ (List.mem_append_right _ (List.mem_append_left _ h))))))
theorem in_L4 : ∀ w ∈ wsX40, w ∈ WS := fun w h => (List.mem_append_right _ (List.mem_append_left _ (List.mem_append_right _ (List.mem_append_right _ (List.mem_append_right _ (List.mem_append_right _ (List.mem_append_left _ h)))))))
theorem in_L5 : ∀ w ∈ wsX50, w ∈ WS := fun w h => (List.mem_append_right _ (List.mem_append_left _ (List.mem_append_right _ (List.mem_append_right _ (List.mem_append_right _ (List.mem_append_right _ (List.mem_append_right _ (List.mem_append_left _ h))))))))
theorem in_L6 : ∀ w ∈ wsX60, w ∈ WS := fun w h => (List.mem_append_right _ (List.mem_append_left _ (List.mem_append_right _ (List.mem_append_right _ (List.mem_append_right _ (List.mem_append_right _ (List.mem_append_right _ (List.mem_append_right _ (List.mem_append_left _ h)))))))))
theorem in_L7 : ∀ w ∈ wsX70, w ∈ WS := fun w h => (List.mem_append_right _ (List.mem_append_left _ (List.mem_append_right _ (List.mem_append_right _ (List.mem_append_right _ (List.mem_append_right _ (List.mem_append_right _ (List.mem_append_right _ (List.mem_append_right _ (List.mem_append_left _ h))))))))))
theorem in_L8 : ∀ w ∈ wsX80, w ∈ WS := fun w h => (List.mem_append_right _ (List.mem_append_left _ (List.mem_append_right _ (List.mem_append_right _ (List.mem_append_right _ (List.mem_append_right _ (List.mem_append_right _ (List.mem_append_right _ (List.mem_append_right _ (List.mem_append_right _ (List.mem_append_left _ h)))))))))))
theorem in_L9 : ∀ w ∈ wsX90, w ∈ WS := fun w h => (List.mem_append_right _ (List.mem_append_left _ (List.mem_append_right _ (List.mem_append_right _ (List.mem_append_right _ (List.mem_append_right _ (List.mem_append_right _ (List.mem_append_right _ (List.mem_append_right _ (List.mem_append_right _ (List.mem_append_right _ (List.mem_append_left _ h))))))))))))
theorem in_L10 : ∀ w ∈ wsX100, w ∈ WS := fun w h => (List.mem_append_right _ (List.mem_append_left _ (List.mem_append_right _ (List.mem_append_right _ (List.mem_append_right _ (List.mem_append_right _ (List.mem_append_right _ (List.mem_append_right _ (List.mem_append_right _ (List.mem_append_right _ (List.mem_append_right _ (List.mem_append_right _ h))))))))))))
theorem in_T0 : ∀ w ∈ (vx_atS RX9 232 "java/lang/IndexOutOfBoundsException" ["java/lang/RuntimeException", "java/lang/Exception"]).filter goodWord, w ∈ WS := fun w h => (List.mem_append_right _ (List.mem_append_right _ (List.mem_append_left _ h)))
theorem in_T1 : ∀ w ∈ (vx_atS RX9 55 "java/lang/IllegalStateException" ["java/lang/RuntimeException", "java/lang/Exception"]).filter goodWord, w ∈ WS := fun w h => (List.mem_append_right _ (List.mem_append_right _ (List.mem_append_right _ (List.mem_append_left _ h))))
theorem in_T2 : ∀ w ∈ (vx_atS RX9 69 "java/lang/IllegalArgumentException" ["java/lang/RuntimeException", "java/lang/Exception"]).filter goodWord, w ∈ WS := fun w h => (List.mem_append_right _ (List.mem_append_right _ (List.mem_append_right _ (List.mem_append_right _ h))))
set_option maxRecDepth 100000 in
theorem WS_good : WS.all goodWord = true := by decide +kernel
theorem f_X0_25 : Cond.fieldLink RX0 25 "LoopGroup$Channels" "count" "I" ∈ WS := (in_WS_0 (List.mem_of_getElem? (i := 1) rfl))
theorem f_X0_9 : Cond.fieldLink RX0 9 "LoopGroup$Channels" "loops" "[I" ∈ WS := (in_WS_0 (List.mem_of_getElem? (i := 3) rfl))
theorem f_X0_13 : Cond.fieldLink RX0 13 "LoopGroup$Channels" "sizes" "[I" ∈ WS := (in_WS_0 (List.mem_of_getElem? (i := 6) rfl))
theorem f_X0_16 : Cond.fieldLink RX0 16 "LoopGroup$Channels" "kinds" "[I" ∈ WS := (in_WS_0 (List.mem_of_getElem? (i := 7) rfl))
theorem f_X0_19 : Cond.fieldLink RX0 19 "LoopGroup$Channels" "tasks" "[I" ∈ WS := (in_WS_0 (List.mem_of_getElem? (i := 8) rfl))
theorem f_X0_22 : Cond.fieldLink RX0 22 "LoopGroup$Channels" "numbers" "[I" ∈ WS := (in_WS_0 (List.mem_of_getElem? (i := 9) rfl))
theorem f_X0_29 : Cond.fieldLink RX0 29 "LoopGroup$Channels" "handlersMade" "I" ∈ WS := (in_WS_0 (List.mem_of_getElem? (i := 10) rfl))
theorem k_X0_32 : Cond.methodLink RX0 32 arraycopyName ∈ WS := (in_WS_0 (List.mem_of_getElem? (i := 12) rfl))
theorem f_X1_32 : Cond.fieldLink RX1 32 "LoopGroup$Loop" "quiet" "I" ∈ WS := (in_WS_0 (List.mem_of_getElem? (i := 17) rfl))
theorem f_X1_35 : Cond.fieldLink RX1 35 "LoopGroup$Loop" "start" "J" ∈ WS := (in_WS_0 (List.mem_of_getElem? (i := 18) rfl))
theorem f_X1_39 : Cond.fieldLink RX1 39 "LoopGroup$Loop" "timeout" "I" ∈ WS := (in_WS_0 (List.mem_of_getElem? (i := 19) rfl))
theorem f_X1_42 : Cond.fieldLink RX1 42 "LoopGroup$Loop" "last" "J" ∈ WS := (in_WS_0 (List.mem_of_getElem? (i := 20) rfl))
theorem f_X2_29 : Cond.fieldLink RX2 29 "LoopGroup$Promises" "count" "I" ∈ WS := (in_WS_0 (List.mem_of_getElem? (i := 22) rfl))
theorem f_X2_9 : Cond.fieldLink RX2 9 "LoopGroup$Promises" "executors" "[I" ∈ WS := (in_WS_0 (List.mem_of_getElem? (i := 24) rfl))
theorem f_X2_13 : Cond.fieldLink RX2 13 "LoopGroup$Promises" "states" "[I" ∈ WS := (in_WS_0 (List.mem_of_getElem? (i := 26) rfl))
theorem f_X2_19 : Cond.fieldLink RX2 19 "LoopGroup$Promises" "pinned" "[Z" ∈ WS := (in_WS_0 (List.mem_of_getElem? (i := 28) rfl))
theorem k_X2_33 : Cond.methodLink RX2 33 yX2_isPending ∈ WS := (in_WS_0 (List.mem_of_getElem? (i := 29) rfl))
theorem f_X2_16 : Cond.fieldLink RX2 16 "LoopGroup$Promises" "values" "[I" ∈ WS := (in_WS_0 (List.mem_of_getElem? (i := 34) rfl))
theorem f_X2_23 : Cond.fieldLink RX2 23 "LoopGroup$Promises" "waiting" "[I" ∈ WS := (in_WS_0 (List.mem_of_getElem? (i := 36) rfl))
theorem f_X2_26 : Cond.fieldLink RX2 26 "LoopGroup$Promises" "listeners" "[I" ∈ WS := (in_WS_0 (List.mem_of_getElem? (i := 38) rfl))
theorem f_X3_19 : Cond.fieldLink RX3 19 "LoopGroup$Queue" "size" "I" ∈ WS := (in_WS_0 (List.mem_of_getElem? (i := 40) rfl))
theorem f_X3_23 : Cond.fieldLink RX3 23 "LoopGroup$Queue" "first" "I" ∈ WS := (in_WS_0 (List.mem_of_getElem? (i := 42) rfl))
theorem f_X3_9 : Cond.fieldLink RX3 9 "LoopGroup$Queue" "kinds" "[I" ∈ WS := (in_WS_0 (List.mem_of_getElem? (i := 43) rfl))
theorem f_X3_13 : Cond.fieldLink RX3 13 "LoopGroup$Queue" "numbers" "[I" ∈ WS := (in_WS_0 (List.mem_of_getElem? (i := 44) rfl))
theorem f_X3_16 : Cond.fieldLink RX3 16 "LoopGroup$Queue" "messages" "[I" ∈ WS := (in_WS_0 (List.mem_of_getElem? (i := 45) rfl))
theorem f_X8_13 : Cond.fieldLink RX8 13 "LoopGroup$Trace" "count" "I" ∈ WS := (in_WS_0 (List.mem_of_getElem? (i := 48) rfl))
theorem f_X8_9 : Cond.fieldLink RX8 9 "LoopGroup$Trace" "rows" "[I" ∈ WS := (in_WS_0 (List.mem_of_getElem? (i := 49) rfl))
theorem f_X5_25 : Cond.fieldLink RX5 25 "LoopGroup$Scheduler" "chosen" "I" ∈ WS := (in_WS_0 (List.mem_of_getElem? (i := 51) rfl))
theorem f_X5_20 : Cond.fieldLink RX5 20 "LoopGroup$Scheduler" "loops" "[LLoopGroup$Loop;" ∈ WS := (in_WS_0 (List.mem_of_getElem? (i := 52) rfl))
theorem k_X5_29 : Cond.methodLink RX5 29 Lib.Math.abs.name ∈ WS := (in_WS_0 (List.mem_of_getElem? (i := 53) rfl))
theorem f_X4_37 : Cond.fieldLink RX4 37 "LoopGroup$Runner" "scheduler" "LLoopGroup$Scheduler;" ∈ WS := (in_WS_0 (List.mem_of_getElem? (i := 58) rfl))
theorem k_X4_226 : Cond.methodLink RX4 226 yX5_choose ∈ WS := (in_WS_0 (List.mem_of_getElem? (i := 59) rfl))
theorem f_X5_35 : Cond.fieldLink RX5 35 "LoopGroup$Loop" "state" "I" ∈ WS := (in_WS_1 (List.mem_of_getElem? (i := 4) rfl))
theorem f_X5_12 : Cond.fieldLink RX5 12 "LoopGroup$Scheduler" "trace" "LLoopGroup$Trace;" ∈ WS := (in_WS_1 (List.mem_of_getElem? (i := 5) rfl))
theorem k_X5_48 : Cond.methodLink RX5 48 yX8_log ∈ WS := (in_WS_1 (List.mem_of_getElem? (i := 6) rfl))
theorem f_X5_38 : Cond.fieldLink RX5 38 "LoopGroup$Loop" "queue" "LLoopGroup$Queue;" ∈ WS := (in_WS_1 (List.mem_of_getElem? (i := 10) rfl))
theorem k_X5_42 : Cond.methodLink RX5 42 yX3_isFull ∈ WS := (in_WS_1 (List.mem_of_getElem? (i := 11) rfl))
theorem k_X5_52 : Cond.methodLink RX5 52 yX5_become ∈ WS := (in_WS_1 (List.mem_of_getElem? (i := 15) rfl))
theorem k_X5_56 : Cond.methodLink RX5 56 yX3_put ∈ WS := (in_WS_1 (List.mem_of_getElem? (i := 18) rfl))
theorem f_X7_11 : Cond.fieldLink RX7 11 "LoopGroup$Timers" "numbers" "[I" ∈ WS := (in_WS_1 (List.mem_of_getElem? (i := 23) rfl))
theorem f_X7_22 : Cond.fieldLink RX7 22 "LoopGroup$Timers" "size" "I" ∈ WS := (in_WS_1 (List.mem_of_getElem? (i := 24) rfl))
theorem f_X7_15 : Cond.fieldLink RX7 15 "LoopGroup$Timers" "tasks" "[I" ∈ WS := (in_WS_1 (List.mem_of_getElem? (i := 25) rfl))
theorem f_X7_18 : Cond.fieldLink RX7 18 "LoopGroup$Timers" "deadlines" "[J" ∈ WS := (in_WS_1 (List.mem_of_getElem? (i := 26) rfl))
theorem f_X5_59 : Cond.fieldLink RX5 59 "LoopGroup$Scheduler" "timersMade" "I" ∈ WS := (in_WS_1 (List.mem_of_getElem? (i := 27) rfl))
theorem f_X5_62 : Cond.fieldLink RX5 62 "LoopGroup$Loop" "timers" "LLoopGroup$Timers;" ∈ WS := (in_WS_1 (List.mem_of_getElem? (i := 28) rfl))
theorem f_X5_66 : Cond.fieldLink RX5 66 "LoopGroup$Timers" "size" "I" ∈ WS := (in_WS_1 (List.mem_of_getElem? (i := 29) rfl))
theorem f_X5_71 : Cond.fieldLink RX5 71 "LoopGroup$Scheduler" "clock" "J" ∈ WS := (in_WS_1 (List.mem_of_getElem? (i := 30) rfl))
theorem k_X5_75 : Cond.methodLink RX5 75 yX7_put ∈ WS := (in_WS_1 (List.mem_of_getElem? (i := 31) rfl))
theorem k_X5_78 : Cond.methodLink RX5 78 yX7_placeOf ∈ WS := (in_WS_1 (List.mem_of_getElem? (i := 39) rfl))
theorem k_X5_81 : Cond.methodLink RX5 81 yX7_removeAt ∈ WS := (in_WS_1 (List.mem_of_getElem? (i := 42) rfl))
theorem f_X5_101 : Cond.fieldLink RX5 101 "LoopGroup$Loop" "quiet" "I" ∈ WS := (in_WS_1 (List.mem_of_getElem? (i := 46) rfl))
theorem f_X5_104 : Cond.fieldLink RX5 104 "LoopGroup$Loop" "timeout" "I" ∈ WS := (in_WS_1 (List.mem_of_getElem? (i := 47) rfl))
theorem f_X5_107 : Cond.fieldLink RX5 107 "LoopGroup$Loop" "start" "J" ∈ WS := (in_WS_1 (List.mem_of_getElem? (i := 48) rfl))
theorem f_X5_110 : Cond.fieldLink RX5 110 "LoopGroup$Loop" "last" "J" ∈ WS := (in_WS_1 (List.mem_of_getElem? (i := 49) rfl))
theorem f_X6_22 : Cond.fieldLink RX6 22 "LoopGroup$Tasks" "count" "I" ∈ WS := (in_WS_1 (List.mem_of_getElem? (i := 51) rfl))
theorem f_X4_12 : Cond.fieldLink RX4 12 "LoopGroup$Runner" "tasks" "LLoopGroup$Tasks;" ∈ WS := (in_WS_1 (List.mem_of_getElem? (i := 54) rfl))
theorem f_X4_171 : Cond.fieldLink RX4 171 "LoopGroup$Scheduler" "timersMade" "I" ∈ WS := (in_WS_1 (List.mem_of_getElem? (i := 55) rfl))
theorem f_X4_21 : Cond.fieldLink RX4 21 "LoopGroup$Runner" "promises" "LLoopGroup$Promises;" ∈ WS := (in_WS_1 (List.mem_of_getElem? (i := 56) rfl))
theorem f_X4_28 : Cond.fieldLink RX4 28 "LoopGroup$Runner" "channels" "LLoopGroup$Channels;" ∈ WS := (in_WS_1 (List.mem_of_getElem? (i := 57) rfl))
theorem k_X4_167 : Cond.methodLink RX4 167 yX6_has ∈ WS := (in_WS_1 (List.mem_of_getElem? (i := 58) rfl))
theorem k_X4_170 : Cond.methodLink RX4 170 yX5_has ∈ WS := (in_WS_2 (List.mem_of_getElem? (i := 2) rfl))
theorem k_X4_174 : Cond.methodLink RX4 174 yX2_has ∈ WS := (in_WS_2 (List.mem_of_getElem? (i := 5) rfl))
theorem k_X4_175 : Cond.methodLink RX4 175 yX2_takesListener ∈ WS := (in_WS_2 (List.mem_of_getElem? (i := 8) rfl))
theorem k_X4_178 : Cond.methodLink RX4 178 yX0_has ∈ WS := (in_WS_2 (List.mem_of_getElem? (i := 11) rfl))
theorem k_X4_179 : Cond.methodLink RX4 179 yX5_canShut ∈ WS := (in_WS_2 (List.mem_of_getElem? (i := 15) rfl))
theorem f_X4_183 : Cond.fieldLink RX4 183 "LoopGroup$Runner" "notifying" "I" ∈ WS := (in_WS_2 (List.mem_of_getElem? (i := 20) rfl))
theorem f_X4_186 : Cond.fieldLink RX4 186 "LoopGroup$Runner" "firing" "I" ∈ WS := (in_WS_2 (List.mem_of_getElem? (i := 21) rfl))
theorem f_X4_189 : Cond.fieldLink RX4 189 "LoopGroup$Promises" "executors" "[I" ∈ WS := (in_WS_2 (List.mem_of_getElem? (i := 22) rfl))
theorem f_X4_45 : Cond.fieldLink RX4 45 "LoopGroup$Runner" "trace" "LLoopGroup$Trace;" ∈ WS := (in_WS_2 (List.mem_of_getElem? (i := 23) rfl))
theorem f_X4_46 : Cond.fieldLink RX4 46 "LoopGroup$Scheduler" "loops" "[LLoopGroup$Loop;" ∈ WS := (in_WS_2 (List.mem_of_getElem? (i := 24) rfl))
theorem f_X4_68 : Cond.fieldLink RX4 68 "LoopGroup$Loop" "awaited" "I" ∈ WS := (in_WS_2 (List.mem_of_getElem? (i := 25) rfl))
theorem k_X4_97 : Cond.methodLink RX4 97 yX2_isPending ∈ WS := (in_WS_2 (List.mem_of_getElem? (i := 26) rfl))
theorem k_X4_102 : Cond.methodLink RX4 102 yX8_log ∈ WS := (in_WS_2 (List.mem_of_getElem? (i := 27) rfl))
theorem k_X4_242 : Cond.methodLink RX4 242 yX2_addWaiting ∈ WS := (in_WS_2 (List.mem_of_getElem? (i := 28) rfl))
theorem k_X4_239 : Cond.methodLink RX4 239 yX4_tell ∈ WS := (in_WS_2 (List.mem_of_getElem? (i := 31) rfl))
theorem k_X4_192 : Cond.methodLink RX4 192 yX4_targetOf ∈ WS := (in_WS_2 (List.mem_of_getElem? (i := 36) rfl))
theorem k_X4_195 : Cond.methodLink RX4 195 yX5_enqueue ∈ WS := (in_WS_2 (List.mem_of_getElem? (i := 39) rfl))
theorem k_X4_199 : Cond.methodLink RX4 199 yX5_schedule ∈ WS := (in_WS_2 (List.mem_of_getElem? (i := 42) rfl))
theorem k_X4_202 : Cond.methodLink RX4 202 yX5_dropTimer ∈ WS := (in_WS_2 (List.mem_of_getElem? (i := 45) rfl))
theorem k_X4_205 : Cond.methodLink RX4 205 yX4_settle ∈ WS := (in_WS_2 (List.mem_of_getElem? (i := 48) rfl))
theorem k_X4_209 : Cond.methodLink RX4 209 yX4_addListener ∈ WS := (in_WS_2 (List.mem_of_getElem? (i := 51) rfl))
theorem k_X4_212 : Cond.methodLink RX4 212 yX4_send ∈ WS := (in_WS_2 (List.mem_of_getElem? (i := 54) rfl))
theorem k_X4_215 : Cond.methodLink RX4 215 yX0_peer ∈ WS := (in_WS_2 (List.mem_of_getElem? (i := 57) rfl))
theorem k_X4_219 : Cond.methodLink RX4 219 yX5_shutAll ∈ WS := (in_WS_3 (List.mem_of_getElem? (i := 0) rfl))
theorem k_X4_223 : Cond.methodLink RX4 223 yX2_pin ∈ WS := (in_WS_3 (List.mem_of_getElem? (i := 3) rfl))
theorem f_X4_65 : Cond.fieldLink RX4 65 "LoopGroup$Runner" "work" "I" ∈ WS := (in_WS_3 (List.mem_of_getElem? (i := 7) rfl))
theorem k_X4_155 : Cond.methodLink RX4 155 yX4_canDo ∈ WS := (in_WS_3 (List.mem_of_getElem? (i := 8) rfl))
theorem k_X4_159 : Cond.methodLink RX4 159 yX4_await ∈ WS := (in_WS_3 (List.mem_of_getElem? (i := 11) rfl))
theorem k_X4_163 : Cond.methodLink RX4 163 yX4_carryOut ∈ WS := (in_WS_3 (List.mem_of_getElem? (i := 14) rfl))
theorem f_X4_141 : Cond.fieldLink RX4 141 "LoopGroup$Tasks" "sizes" "[I" ∈ WS := (in_WS_3 (List.mem_of_getElem? (i := 18) rfl))
theorem f_X4_144 : Cond.fieldLink RX4 144 "LoopGroup$Tasks" "kinds" "[I" ∈ WS := (in_WS_3 (List.mem_of_getElem? (i := 19) rfl))
theorem f_X4_145 : Cond.fieldLink RX4 145 "LoopGroup$Tasks" "as" "[I" ∈ WS := (in_WS_3 (List.mem_of_getElem? (i := 20) rfl))
theorem f_X4_148 : Cond.fieldLink RX4 148 "LoopGroup$Tasks" "bs" "[I" ∈ WS := (in_WS_3 (List.mem_of_getElem? (i := 21) rfl))
theorem f_X4_106 : Cond.fieldLink RX4 106 "LoopGroup$Loop" "pausedTask" "I" ∈ WS := (in_WS_3 (List.mem_of_getElem? (i := 22) rfl))
theorem f_X4_109 : Cond.fieldLink RX4 109 "LoopGroup$Loop" "pausedOrder" "I" ∈ WS := (in_WS_3 (List.mem_of_getElem? (i := 23) rfl))
theorem k_X4_151 : Cond.methodLink RX4 151 yX4_doOrder ∈ WS := (in_WS_3 (List.mem_of_getElem? (i := 24) rfl))
theorem f_X4_247 : Cond.fieldLink RX4 247 "LoopGroup$Channels" "sizes" "[I" ∈ WS := (in_WS_3 (List.mem_of_getElem? (i := 29) rfl))
theorem f_X4_248 : Cond.fieldLink RX4 248 "LoopGroup$Channels" "kinds" "[I" ∈ WS := (in_WS_3 (List.mem_of_getElem? (i := 30) rfl))
theorem f_X4_252 : Cond.fieldLink RX4 252 "LoopGroup$Channels" "numbers" "[I" ∈ WS := (in_WS_3 (List.mem_of_getElem? (i := 31) rfl))
theorem k_X4_249 : Cond.methodLink RX4 249 yX4_handle ∈ WS := (in_WS_3 (List.mem_of_getElem? (i := 32) rfl))
theorem n_X4_253 : Cond.constant RX4 253 (1000000) ∈ WS := (in_WS_3 (List.mem_of_getElem? (i := 36) rfl))
theorem f_X4_257 : Cond.fieldLink RX4 257 "LoopGroup$Channels" "tasks" "[I" ∈ WS := (in_WS_3 (List.mem_of_getElem? (i := 37) rfl))
theorem k_X4_254 : Cond.methodLink RX4 254 yX4_echo ∈ WS := (in_WS_3 (List.mem_of_getElem? (i := 38) rfl))
theorem k_X4_112 : Cond.methodLink RX4 112 yX4_doOrders ∈ WS := (in_WS_3 (List.mem_of_getElem? (i := 41) rfl))
theorem f_X4_245 : Cond.fieldLink RX4 245 "LoopGroup$Channels" "loops" "[I" ∈ WS := (in_WS_3 (List.mem_of_getElem? (i := 45) rfl))
theorem k_X4_138 : Cond.methodLink RX4 138 yX4_goThrough ∈ WS := (in_WS_3 (List.mem_of_getElem? (i := 46) rfl))
theorem f_X4_233 : Cond.fieldLink RX4 233 "LoopGroup$Promises" "waiting" "[I" ∈ WS := (in_WS_3 (List.mem_of_getElem? (i := 50) rfl))
theorem f_X4_236 : Cond.fieldLink RX4 236 "LoopGroup$Promises" "listeners" "[I" ∈ WS := (in_WS_3 (List.mem_of_getElem? (i := 51) rfl))
theorem k_X4_230 : Cond.methodLink RX4 230 yX2_close ∈ WS := (in_WS_3 (List.mem_of_getElem? (i := 52) rfl))
theorem k_X7_26 : Cond.methodLink RX7 26 yX7_isBefore ∈ WS := (in_WS_4 (List.mem_of_getElem? (i := 0) rfl))
theorem f_X5_89 : Cond.fieldLink RX5 89 "LoopGroup$Timers" "tasks" "[I" ∈ WS := (in_WS_4 (List.mem_of_getElem? (i := 3) rfl))
theorem f_X5_93 : Cond.fieldLink RX5 93 "LoopGroup$Queue" "size" "I" ∈ WS := (in_WS_4 (List.mem_of_getElem? (i := 4) rfl))
theorem k_X5_94 : Cond.methodLink RX5 94 Lib.Math.min.name ∈ WS := (in_WS_4 (List.mem_of_getElem? (i := 5) rfl))
theorem f_X5_98 : Cond.fieldLink RX5 98 "LoopGroup$Loop" "batch" "I" ∈ WS := (in_WS_4 (List.mem_of_getElem? (i := 8) rfl))
theorem k_X5_85 : Cond.methodLink RX5 85 yX7_firstDue ∈ WS := (in_WS_4 (List.mem_of_getElem? (i := 9) rfl))
theorem k_X5_113 : Cond.methodLink RX5 113 yX1_isQuiet ∈ WS := (in_WS_4 (List.mem_of_getElem? (i := 13) rfl))
theorem f_X4_82 : Cond.fieldLink RX4 82 "LoopGroup$Loop" "queue" "LLoopGroup$Queue;" ∈ WS := (in_WS_4 (List.mem_of_getElem? (i := 18) rfl))
theorem f_X4_115 : Cond.fieldLink RX4 115 "LoopGroup$Queue" "first" "I" ∈ WS := (in_WS_4 (List.mem_of_getElem? (i := 19) rfl))
theorem f_X4_118 : Cond.fieldLink RX4 118 "LoopGroup$Queue" "kinds" "[I" ∈ WS := (in_WS_4 (List.mem_of_getElem? (i := 20) rfl))
theorem f_X4_122 : Cond.fieldLink RX4 122 "LoopGroup$Queue" "numbers" "[I" ∈ WS := (in_WS_4 (List.mem_of_getElem? (i := 21) rfl))
theorem f_X4_125 : Cond.fieldLink RX4 125 "LoopGroup$Queue" "messages" "[I" ∈ WS := (in_WS_4 (List.mem_of_getElem? (i := 22) rfl))
theorem f_X4_75 : Cond.fieldLink RX4 75 "LoopGroup$Loop" "batch" "I" ∈ WS := (in_WS_4 (List.mem_of_getElem? (i := 23) rfl))
theorem f_X4_131 : Cond.fieldLink RX4 131 "LoopGroup$Scheduler" "clock" "J" ∈ WS := (in_WS_4 (List.mem_of_getElem? (i := 24) rfl))
theorem f_X4_135 : Cond.fieldLink RX4 135 "LoopGroup$Loop" "last" "J" ∈ WS := (in_WS_4 (List.mem_of_getElem? (i := 25) rfl))
theorem k_X4_128 : Cond.methodLink RX4 128 yX3_dropFirst ∈ WS := (in_WS_4 (List.mem_of_getElem? (i := 26) rfl))
theorem f_X4_50 : Cond.fieldLink RX4 50 "LoopGroup$Loop" "state" "I" ∈ WS := (in_WS_4 (List.mem_of_getElem? (i := 30) rfl))
theorem f_X4_56 : Cond.fieldLink RX4 56 "LoopGroup$Loop" "timers" "LLoopGroup$Timers;" ∈ WS := (in_WS_4 (List.mem_of_getElem? (i := 31) rfl))
theorem f_X4_60 : Cond.fieldLink RX4 60 "LoopGroup$Timers" "size" "I" ∈ WS := (in_WS_4 (List.mem_of_getElem? (i := 32) rfl))
theorem f_X4_86 : Cond.fieldLink RX4 86 "LoopGroup$Queue" "size" "I" ∈ WS := (in_WS_4 (List.mem_of_getElem? (i := 33) rfl))
theorem k_X4_71 : Cond.methodLink RX4 71 yX4_resume ∈ WS := (in_WS_4 (List.mem_of_getElem? (i := 34) rfl))
theorem k_X4_78 : Cond.methodLink RX4 78 yX5_beginBatch ∈ WS := (in_WS_4 (List.mem_of_getElem? (i := 37) rfl))
theorem k_X4_89 : Cond.methodLink RX4 89 yX5_confirm ∈ WS := (in_WS_4 (List.mem_of_getElem? (i := 40) rfl))
theorem k_X4_93 : Cond.methodLink RX4 93 yX4_beginFirst ∈ WS := (in_WS_4 (List.mem_of_getElem? (i := 43) rfl))
theorem f_X6_9 : Cond.fieldLink RX6 9 "LoopGroup$Tasks" "sizes" "[I" ∈ WS := (in_WS_4 (List.mem_of_getElem? (i := 49) rfl))
theorem f_X6_13 : Cond.fieldLink RX6 13 "LoopGroup$Tasks" "kinds" "[I" ∈ WS := (in_WS_4 (List.mem_of_getElem? (i := 50) rfl))
theorem f_X6_16 : Cond.fieldLink RX6 16 "LoopGroup$Tasks" "as" "[I" ∈ WS := (in_WS_4 (List.mem_of_getElem? (i := 51) rfl))
theorem f_X6_19 : Cond.fieldLink RX6 19 "LoopGroup$Tasks" "bs" "[I" ∈ WS := (in_WS_4 (List.mem_of_getElem? (i := 52) rfl))
theorem q_X9_51 : Cond.classLink RX9 51 "java/lang/IllegalStateException" ∈ WS := (in_WS_4 (List.mem_of_getElem? (i := 56) rfl))
theorem f_X9_34 : Cond.fieldLink RX9 34 "LoopGroup" "tasks" "LLoopGroup$Tasks;" ∈ WS := (in_WS_4 (List.mem_of_getElem? (i := 58) rfl))
theorem f_X9_45 : Cond.fieldLink RX9 45 "LoopGroup$Tasks" "count" "I" ∈ WS := (in_WS_4 (List.mem_of_getElem? (i := 59) rfl))
theorem k_X9_58 : Cond.methodLink RX9 58 yX6_add ∈ WS := (in_WS_5 (List.mem_of_getElem? (i := 0) rfl))
theorem q_X9_65 : Cond.classLink RX9 65 "java/lang/IllegalArgumentException" ∈ WS := (in_WS_5 (List.mem_of_getElem? (i := 4) rfl))
theorem k_X9_236 : Cond.methodLink RX9 236 yX6_has ∈ WS := (in_WS_5 (List.mem_of_getElem? (i := 6) rfl))
theorem f_X9_70 : Cond.fieldLink RX9 70 "LoopGroup$Tasks" "sizes" "[I" ∈ WS := (in_WS_5 (List.mem_of_getElem? (i := 7) rfl))
theorem k_X9_62 : Cond.methodLink RX9 62 yX9_needTask ∈ WS := (in_WS_5 (List.mem_of_getElem? (i := 8) rfl))
theorem k_X9_76 : Cond.methodLink RX9 76 yX6_addOrder ∈ WS := (in_WS_5 (List.mem_of_getElem? (i := 12) rfl))
theorem f_X9_22 : Cond.fieldLink RX9 22 "LoopGroup" "scheduler" "LLoopGroup$Scheduler;" ∈ WS := (in_WS_5 (List.mem_of_getElem? (i := 17) rfl))
theorem k_X9_241 : Cond.methodLink RX9 241 yX5_has ∈ WS := (in_WS_5 (List.mem_of_getElem? (i := 18) rfl))
theorem f_X9_39 : Cond.fieldLink RX9 39 "LoopGroup" "promises" "LLoopGroup$Promises;" ∈ WS := (in_WS_5 (List.mem_of_getElem? (i := 19) rfl))
theorem f_X9_83 : Cond.fieldLink RX9 83 "LoopGroup$Promises" "count" "I" ∈ WS := (in_WS_5 (List.mem_of_getElem? (i := 20) rfl))
theorem k_X9_80 : Cond.methodLink RX9 80 yX9_needLoop ∈ WS := (in_WS_5 (List.mem_of_getElem? (i := 21) rfl))
theorem k_X9_88 : Cond.methodLink RX9 88 yX2_add ∈ WS := (in_WS_5 (List.mem_of_getElem? (i := 24) rfl))
theorem f_X9_44 : Cond.fieldLink RX9 44 "LoopGroup" "channels" "LLoopGroup$Channels;" ∈ WS := (in_WS_5 (List.mem_of_getElem? (i := 28) rfl))
theorem f_X9_91 : Cond.fieldLink RX9 91 "LoopGroup$Channels" "count" "I" ∈ WS := (in_WS_5 (List.mem_of_getElem? (i := 29) rfl))
theorem k_X9_96 : Cond.methodLink RX9 96 yX0_addPair ∈ WS := (in_WS_5 (List.mem_of_getElem? (i := 30) rfl))
theorem k_X9_247 : Cond.methodLink RX9 247 yX0_has ∈ WS := (in_WS_5 (List.mem_of_getElem? (i := 35) rfl))
theorem f_X9_103 : Cond.fieldLink RX9 103 "LoopGroup$Channels" "sizes" "[I" ∈ WS := (in_WS_5 (List.mem_of_getElem? (i := 36) rfl))
theorem k_X9_100 : Cond.methodLink RX9 100 yX9_needChannel ∈ WS := (in_WS_5 (List.mem_of_getElem? (i := 37) rfl))
theorem k_X9_106 : Cond.methodLink RX9 106 yX0_removeHandler ∈ WS := (in_WS_5 (List.mem_of_getElem? (i := 40) rfl))
theorem k_X9_113 : Cond.methodLink RX9 113 yX0_addHandler ∈ WS := (in_WS_5 (List.mem_of_getElem? (i := 43) rfl))
theorem n_X9_117 : Cond.constant RX9 117 (1000000) ∈ WS := (in_WS_5 (List.mem_of_getElem? (i := 48) rfl))
theorem f_X9_120 : Cond.fieldLink RX9 120 "LoopGroup$Scheduler" "clock" "J" ∈ WS := (in_WS_5 (List.mem_of_getElem? (i := 49) rfl))
theorem k_X9_124 : Cond.methodLink RX9 124 yX5_choose ∈ WS := (in_WS_5 (List.mem_of_getElem? (i := 50) rfl))
theorem k_X9_129 : Cond.methodLink RX9 129 yX5_enqueue ∈ WS := (in_WS_5 (List.mem_of_getElem? (i := 51) rfl))
theorem k_X9_137 : Cond.methodLink RX9 137 yX5_schedule ∈ WS := (in_WS_5 (List.mem_of_getElem? (i := 53) rfl))
theorem k_X9_140 : Cond.methodLink RX9 140 yX5_dropTimer ∈ WS := (in_WS_5 (List.mem_of_getElem? (i := 56) rfl))
theorem k_X9_244 : Cond.methodLink RX9 244 yX2_has ∈ WS := (in_WS_5 (List.mem_of_getElem? (i := 58) rfl))
theorem f_X9_14 : Cond.fieldLink RX9 14 "LoopGroup" "runner" "LLoopGroup$Runner;" ∈ WS := (in_WS_5 (List.mem_of_getElem? (i := 59) rfl))
theorem k_X9_144 : Cond.methodLink RX9 144 yX9_needPromise ∈ WS := (in_WS_6 (List.mem_of_getElem? (i := 0) rfl))
theorem k_X9_147 : Cond.methodLink RX9 147 yX2_pin ∈ WS := (in_WS_6 (List.mem_of_getElem? (i := 3) rfl))
theorem k_X9_152 : Cond.methodLink RX9 152 yX4_settle ∈ WS := (in_WS_6 (List.mem_of_getElem? (i := 4) rfl))
theorem k_X9_156 : Cond.methodLink RX9 156 yX2_takesListener ∈ WS := (in_WS_6 (List.mem_of_getElem? (i := 6) rfl))
theorem k_X9_161 : Cond.methodLink RX9 161 yX4_addListener ∈ WS := (in_WS_6 (List.mem_of_getElem? (i := 7) rfl))
theorem k_X9_165 : Cond.methodLink RX9 165 yX4_send ∈ WS := (in_WS_6 (List.mem_of_getElem? (i := 9) rfl))
theorem k_X9_169 : Cond.methodLink RX9 169 yX5_canShut ∈ WS := (in_WS_6 (List.mem_of_getElem? (i := 11) rfl))
theorem k_X9_175 : Cond.methodLink RX9 175 yX5_shutAll ∈ WS := (in_WS_6 (List.mem_of_getElem? (i := 12) rfl))
theorem k_X9_179 : Cond.methodLink RX9 179 yX4_takeStep ∈ WS := (in_WS_6 (List.mem_of_getElem? (i := 14) rfl))
theorem f_X9_182 : Cond.fieldLink RX9 182 "LoopGroup$Scheduler" "loops" "[LLoopGroup$Loop;" ∈ WS := (in_WS_6 (List.mem_of_getElem? (i := 19) rfl))
theorem f_X9_186 : Cond.fieldLink RX9 186 "LoopGroup$Loop" "state" "I" ∈ WS := (in_WS_6 (List.mem_of_getElem? (i := 20) rfl))
theorem f_X9_191 : Cond.fieldLink RX9 191 "LoopGroup$Loop" "queue" "LLoopGroup$Queue;" ∈ WS := (in_WS_6 (List.mem_of_getElem? (i := 21) rfl))
theorem f_X9_195 : Cond.fieldLink RX9 195 "LoopGroup$Queue" "size" "I" ∈ WS := (in_WS_6 (List.mem_of_getElem? (i := 22) rfl))
theorem f_X9_198 : Cond.fieldLink RX9 198 "LoopGroup$Loop" "timers" "LLoopGroup$Timers;" ∈ WS := (in_WS_6 (List.mem_of_getElem? (i := 23) rfl))
theorem f_X9_202 : Cond.fieldLink RX9 202 "LoopGroup$Timers" "size" "I" ∈ WS := (in_WS_6 (List.mem_of_getElem? (i := 24) rfl))
theorem f_X9_205 : Cond.fieldLink RX9 205 "LoopGroup$Loop" "awaited" "I" ∈ WS := (in_WS_6 (List.mem_of_getElem? (i := 25) rfl))
theorem f_X9_208 : Cond.fieldLink RX9 208 "LoopGroup$Loop" "batch" "I" ∈ WS := (in_WS_6 (List.mem_of_getElem? (i := 26) rfl))
theorem f_X9_213 : Cond.fieldLink RX9 213 "LoopGroup$Promises" "states" "[I" ∈ WS := (in_WS_6 (List.mem_of_getElem? (i := 28) rfl))
theorem f_X9_216 : Cond.fieldLink RX9 216 "LoopGroup$Promises" "values" "[I" ∈ WS := (in_WS_6 (List.mem_of_getElem? (i := 29) rfl))
theorem f_X9_219 : Cond.fieldLink RX9 219 "LoopGroup$Promises" "waiting" "[I" ∈ WS := (in_WS_6 (List.mem_of_getElem? (i := 30) rfl))
theorem f_X9_29 : Cond.fieldLink RX9 29 "LoopGroup" "trace" "LLoopGroup$Trace;" ∈ WS := (in_WS_6 (List.mem_of_getElem? (i := 32) rfl))
theorem f_X9_222 : Cond.fieldLink RX9 222 "LoopGroup$Trace" "count" "I" ∈ WS := (in_WS_6 (List.mem_of_getElem? (i := 33) rfl))
theorem q_X9_228 : Cond.classLink RX9 228 "java/lang/IndexOutOfBoundsException" ∈ WS := (in_WS_6 (List.mem_of_getElem? (i := 35) rfl))
theorem k_X9_225 : Cond.methodLink RX9 225 yX8_keeps ∈ WS := (in_WS_6 (List.mem_of_getElem? (i := 37) rfl))
theorem k_X9_233 : Cond.methodLink RX9 233 yX8_read ∈ WS := (in_WS_6 (List.mem_of_getElem? (i := 40) rfl))
theorem f_X10_136 : Cond.fieldLink RX10 136 "LoopGroupModel" "thrown" "I" ∈ WS := (in_WS_6 (List.mem_of_getElem? (i := 44) rfl))
theorem f_X10_139 : Cond.fieldLink RX10 139 "LoopGroupModel" "tasks" "I" ∈ WS := (in_WS_6 (List.mem_of_getElem? (i := 48) rfl))
theorem k_X10_142 : Cond.methodLink RX10 142 yX10_in ∈ WS := (in_WS_6 (List.mem_of_getElem? (i := 49) rfl))
theorem f_X10_132 : Cond.fieldLink RX10 132 "LoopGroupModel" "n" "I" ∈ WS := (in_WS_6 (List.mem_of_getElem? (i := 53) rfl))
theorem f_X10_146 : Cond.fieldLink RX10 146 "LoopGroupModel" "promises" "I" ∈ WS := (in_WS_6 (List.mem_of_getElem? (i := 55) rfl))
theorem f_X10_149 : Cond.fieldLink RX10 149 "LoopGroupModel" "channels" "I" ∈ WS := (in_WS_6 (List.mem_of_getElem? (i := 57) rfl))
theorem f_X10_108 : Cond.fieldLink RX10 108 "LoopGroupModel" "traceLoop" "[I" ∈ WS := (in_WS_6 (List.mem_of_getElem? (i := 59) rfl))
theorem f_X10_152 : Cond.fieldLink RX10 152 "LoopGroupModel" "traced" "I" ∈ WS := (in_WS_7 (List.mem_of_getElem? (i := 0) rfl))
theorem f_X10_111 : Cond.fieldLink RX10 111 "LoopGroupModel" "traceKind" "[I" ∈ WS := (in_WS_7 (List.mem_of_getElem? (i := 1) rfl))
theorem f_X10_114 : Cond.fieldLink RX10 114 "LoopGroupModel" "traceValue" "[I" ∈ WS := (in_WS_7 (List.mem_of_getElem? (i := 2) rfl))
theorem f_X10_22 : Cond.fieldLink RX10 22 "LoopGroupModel" "state" "[I" ∈ WS := (in_WS_7 (List.mem_of_getElem? (i := 4) rfl))
theorem k_X10_155 : Cond.methodLink RX10 155 yX10_log ∈ WS := (in_WS_7 (List.mem_of_getElem? (i := 5) rfl))
theorem k_X10_159 : Cond.methodLink RX10 159 yX10_throwing ∈ WS := (in_WS_7 (List.mem_of_getElem? (i := 9) rfl))
theorem n_X10_167 : Cond.constantLong RX10 167 (13) ∈ WS := (in_WS_7 (List.mem_of_getElem? (i := 13) rfl))
theorem f_X10_7 : Cond.fieldLink RX10 7 "LoopGroupModel" "many" "[I" ∈ WS := (in_WS_7 (List.mem_of_getElem? (i := 14) rfl))
theorem f_X10_13 : Cond.fieldLink RX10 13 "LoopGroupModel" "kind" "[I" ∈ WS := (in_WS_7 (List.mem_of_getElem? (i := 15) rfl))
theorem f_X10_16 : Cond.fieldLink RX10 16 "LoopGroupModel" "first" "[I" ∈ WS := (in_WS_7 (List.mem_of_getElem? (i := 16) rfl))
theorem f_X10_19 : Cond.fieldLink RX10 19 "LoopGroupModel" "second" "[I" ∈ WS := (in_WS_7 (List.mem_of_getElem? (i := 17) rfl))
theorem k_X10_163 : Cond.methodLink RX10 163 yX10_isTask ∈ WS := (in_WS_7 (List.mem_of_getElem? (i := 18) rfl))
theorem f_X10_75 : Cond.fieldLink RX10 75 "LoopGroupModel" "executor" "[I" ∈ WS := (in_WS_7 (List.mem_of_getElem? (i := 22) rfl))
theorem k_X10_169 : Cond.methodLink RX10 169 yX10_isLoop ∈ WS := (in_WS_7 (List.mem_of_getElem? (i := 23) rfl))
theorem f_X10_93 : Cond.fieldLink RX10 93 "LoopGroupModel" "channelLoop" "[I" ∈ WS := (in_WS_7 (List.mem_of_getElem? (i := 27) rfl))
theorem n_X10_175 : Cond.constantLong RX10 175 (6) ∈ WS := (in_WS_7 (List.mem_of_getElem? (i := 28) rfl))
theorem f_X10_96 : Cond.fieldLink RX10 96 "LoopGroupModel" "handlers" "[I" ∈ WS := (in_WS_7 (List.mem_of_getElem? (i := 29) rfl))
theorem f_X10_99 : Cond.fieldLink RX10 99 "LoopGroupModel" "handlerKind" "[I" ∈ WS := (in_WS_7 (List.mem_of_getElem? (i := 30) rfl))
theorem f_X10_102 : Cond.fieldLink RX10 102 "LoopGroupModel" "handlerTask" "[I" ∈ WS := (in_WS_7 (List.mem_of_getElem? (i := 31) rfl))
theorem f_X10_105 : Cond.fieldLink RX10 105 "LoopGroupModel" "handlerNumber" "[I" ∈ WS := (in_WS_7 (List.mem_of_getElem? (i := 32) rfl))
theorem f_X10_177 : Cond.fieldLink RX10 177 "LoopGroupModel" "handlersEver" "I" ∈ WS := (in_WS_7 (List.mem_of_getElem? (i := 33) rfl))
theorem k_X10_172 : Cond.methodLink RX10 172 yX10_isChannel ∈ WS := (in_WS_7 (List.mem_of_getElem? (i := 34) rfl))
theorem n_X10_180 : Cond.constantLong RX10 180 (1000000) ∈ WS := (in_WS_7 (List.mem_of_getElem? (i := 39) rfl))
theorem f_X10_182 : Cond.fieldLink RX10 182 "LoopGroupModel" "clock" "J" ∈ WS := (in_WS_7 (List.mem_of_getElem? (i := 40) rfl))
theorem f_X10_186 : Cond.fieldLink RX10 186 "LoopGroupModel" "chosen" "I" ∈ WS := (in_WS_7 (List.mem_of_getElem? (i := 42) rfl))
theorem f_X10_25 : Cond.fieldLink RX10 25 "LoopGroupModel" "queued" "[I" ∈ WS := (in_WS_7 (List.mem_of_getElem? (i := 44) rfl))
theorem f_X10_189 : Cond.fieldLink RX10 189 "LoopGroupModel" "thread" "I" ∈ WS := (in_WS_7 (List.mem_of_getElem? (i := 45) rfl))
theorem f_X10_31 : Cond.fieldLink RX10 31 "LoopGroupModel" "queueKind" "[I" ∈ WS := (in_WS_7 (List.mem_of_getElem? (i := 46) rfl))
theorem f_X10_34 : Cond.fieldLink RX10 34 "LoopGroupModel" "queueWhat" "[I" ∈ WS := (in_WS_7 (List.mem_of_getElem? (i := 47) rfl))
theorem f_X10_37 : Cond.fieldLink RX10 37 "LoopGroupModel" "queueMessage" "[I" ∈ WS := (in_WS_7 (List.mem_of_getElem? (i := 48) rfl))
theorem k_X10_192 : Cond.methodLink RX10 192 yX10_become ∈ WS := (in_WS_7 (List.mem_of_getElem? (i := 49) rfl))
theorem f_X10_196 : Cond.fieldLink RX10 196 "LoopGroupModel" "timers" "I" ∈ WS := (in_WS_7 (List.mem_of_getElem? (i := 53) rfl))
theorem f_X10_72 : Cond.fieldLink RX10 72 "LoopGroupModel" "timerLoop" "[I" ∈ WS := (in_WS_7 (List.mem_of_getElem? (i := 54) rfl))
theorem f_X10_66 : Cond.fieldLink RX10 66 "LoopGroupModel" "timerTask" "[I" ∈ WS := (in_WS_7 (List.mem_of_getElem? (i := 56) rfl))
theorem f_X10_69 : Cond.fieldLink RX10 69 "LoopGroupModel" "deadline" "[J" ∈ WS := (in_WS_7 (List.mem_of_getElem? (i := 57) rfl))
theorem k_X10_199 : Cond.methodLink RX10 199 yX10_waiting ∈ WS := (in_WS_7 (List.mem_of_getElem? (i := 58) rfl))
theorem f_X10_117 : Cond.fieldLink RX10 117 "LoopGroupModel" "frame" "[I" ∈ WS := (in_WS_8 (List.mem_of_getElem? (i := 2) rfl))
theorem f_X10_203 : Cond.fieldLink RX10 203 "LoopGroupModel" "depth" "I" ∈ WS := (in_WS_8 (List.mem_of_getElem? (i := 3) rfl))
theorem f_X10_120 : Cond.fieldLink RX10 120 "LoopGroupModel" "frameOf" "[I" ∈ WS := (in_WS_8 (List.mem_of_getElem? (i := 4) rfl))
theorem f_X10_123 : Cond.fieldLink RX10 123 "LoopGroupModel" "frameAt" "[I" ∈ WS := (in_WS_8 (List.mem_of_getElem? (i := 5) rfl))
theorem f_X10_126 : Cond.fieldLink RX10 126 "LoopGroupModel" "frameMore" "[I" ∈ WS := (in_WS_8 (List.mem_of_getElem? (i := 6) rfl))
theorem f_X10_129 : Cond.fieldLink RX10 129 "LoopGroupModel" "frameThrown" "[Z" ∈ WS := (in_WS_8 (List.mem_of_getElem? (i := 7) rfl))
theorem k_X10_206 : Cond.methodLink RX10 206 yX10_frames ∈ WS := (in_WS_8 (List.mem_of_getElem? (i := 9) rfl))
theorem k_X10_209 : Cond.methodLink RX10 209 yX10_push ∈ WS := (in_WS_8 (List.mem_of_getElem? (i := 12) rfl))
theorem k_X10_212 : Cond.methodLink RX10 212 yX10_put ∈ WS := (in_WS_8 (List.mem_of_getElem? (i := 15) rfl))
theorem f_X10_78 : Cond.fieldLink RX10 78 "LoopGroupModel" "promiseState" "[I" ∈ WS := (in_WS_8 (List.mem_of_getElem? (i := 20) rfl))
theorem f_X10_84 : Cond.fieldLink RX10 84 "LoopGroupModel" "pinned" "[Z" ∈ WS := (in_WS_8 (List.mem_of_getElem? (i := 21) rfl))
theorem f_X10_81 : Cond.fieldLink RX10 81 "LoopGroupModel" "promiseValue" "[I" ∈ WS := (in_WS_8 (List.mem_of_getElem? (i := 22) rfl))
theorem f_X10_87 : Cond.fieldLink RX10 87 "LoopGroupModel" "listeners" "[I" ∈ WS := (in_WS_8 (List.mem_of_getElem? (i := 23) rfl))
theorem f_X10_53 : Cond.fieldLink RX10 53 "LoopGroupModel" "quiet" "[J" ∈ WS := (in_WS_8 (List.mem_of_getElem? (i := 26) rfl))
theorem f_X10_57 : Cond.fieldLink RX10 57 "LoopGroupModel" "timeout" "[J" ∈ WS := (in_WS_8 (List.mem_of_getElem? (i := 27) rfl))
theorem f_X10_60 : Cond.fieldLink RX10 60 "LoopGroupModel" "start" "[J" ∈ WS := (in_WS_8 (List.mem_of_getElem? (i := 28) rfl))
theorem f_X10_63 : Cond.fieldLink RX10 63 "LoopGroupModel" "last" "[J" ∈ WS := (in_WS_8 (List.mem_of_getElem? (i := 29) rfl))
theorem n_X10_216 : Cond.constantLong RX10 216 (-2) ∈ WS := (in_WS_8 (List.mem_of_getElem? (i := 31) rfl))
theorem k_X10_218 : Cond.methodLink RX10 218 yX10_isPromise ∈ WS := (in_WS_8 (List.mem_of_getElem? (i := 32) rfl))
theorem f_X10_90 : Cond.fieldLink RX10 90 "LoopGroupModel" "listenerTask" "[I" ∈ WS := (in_WS_8 (List.mem_of_getElem? (i := 35) rfl))
theorem k_X10_253 : Cond.methodLink RX10 253 yX10_notify ∈ WS := (in_WS_8 (List.mem_of_getElem? (i := 36) rfl))
theorem f_X10_40 : Cond.fieldLink RX10 40 "LoopGroupModel" "blocked" "[Z" ∈ WS := (in_WS_8 (List.mem_of_getElem? (i := 41) rfl))
theorem f_X10_44 : Cond.fieldLink RX10 44 "LoopGroupModel" "blockedTask" "[I" ∈ WS := (in_WS_8 (List.mem_of_getElem? (i := 42) rfl))
theorem f_X10_47 : Cond.fieldLink RX10 47 "LoopGroupModel" "blockedOrder" "[I" ∈ WS := (in_WS_8 (List.mem_of_getElem? (i := 43) rfl))
theorem f_X10_50 : Cond.fieldLink RX10 50 "LoopGroupModel" "blockedBy" "[I" ∈ WS := (in_WS_8 (List.mem_of_getElem? (i := 44) rfl))
theorem f_X10_221 : Cond.fieldLink RX10 221 "LoopGroupModel" "acts" "I" ∈ WS := (in_WS_8 (List.mem_of_getElem? (i := 45) rfl))
theorem k_X10_224 : Cond.methodLink RX10 224 yX10_isSo ∈ WS := (in_WS_8 (List.mem_of_getElem? (i := 46) rfl))
theorem k_X10_228 : Cond.methodLink RX10 228 yX10_choose ∈ WS := (in_WS_8 (List.mem_of_getElem? (i := 49) rfl))
theorem k_X10_232 : Cond.methodLink RX10 232 yX10_schedule ∈ WS := (in_WS_8 (List.mem_of_getElem? (i := 52) rfl))
theorem k_X10_236 : Cond.methodLink RX10 236 yX10_finish ∈ WS := (in_WS_8 (List.mem_of_getElem? (i := 55) rfl))
theorem k_X10_239 : Cond.methodLink RX10 239 yX10_listenAt ∈ WS := (in_WS_8 (List.mem_of_getElem? (i := 58) rfl))
theorem k_X10_242 : Cond.methodLink RX10 242 yX10_await ∈ WS := (in_WS_9 (List.mem_of_getElem? (i := 1) rfl))
theorem k_X10_246 : Cond.methodLink RX10 246 yX10_send ∈ WS := (in_WS_9 (List.mem_of_getElem? (i := 4) rfl))
theorem k_X10_250 : Cond.methodLink RX10 250 yX10_shut ∈ WS := (in_WS_9 (List.mem_of_getElem? (i := 7) rfl))
theorem n_X10_256 : Cond.constant RX10 256 (1000000) ∈ WS := (in_WS_9 (List.mem_of_getElem? (i := 11) rfl))
theorem k_X10_257 : Cond.methodLink RX10 257 yX10_pass ∈ WS := (in_WS_9 (List.mem_of_getElem? (i := 13) rfl))
theorem k_X10_260 : Cond.methodLink RX10 260 yX10_work ∈ WS := (in_WS_9 (List.mem_of_getElem? (i := 16) rfl))
theorem f_X10_28 : Cond.fieldLink RX10 28 "LoopGroupModel" "batch" "[I" ∈ WS := (in_WS_9 (List.mem_of_getElem? (i := 20) rfl))
theorem k_X10_263 : Cond.methodLink RX10 263 yX10_run ∈ WS := (in_WS_9 (List.mem_of_getElem? (i := 23) rfl))
theorem k_X10_266 : Cond.methodLink RX10 266 yX10_beginBatch ∈ WS := (in_WS_9 (List.mem_of_getElem? (i := 26) rfl))
theorem k_X10_269 : Cond.methodLink RX10 269 yX10_confirm ∈ WS := (in_WS_9 (List.mem_of_getElem? (i := 29) rfl))
theorem k_X10_272 : Cond.methodLink RX10 272 yX10_host ∈ WS := (in_WS_9 (List.mem_of_getElem? (i := 34) rfl))
theorem n_X10_275 : Cond.constantLong RX10 275 (4) ∈ WS := (in_WS_9 (List.mem_of_getElem? (i := 40) rfl))
theorem n_X10_277 : Cond.constantLong RX10 277 (2) ∈ WS := (in_WS_9 (List.mem_of_getElem? (i := 47) rfl))
abbrev vq_M : Type := MethodName × ByteArray × Nat × Option FieldType
/-- what a call of an instance method needs of the words -/
def vq_okV (y : vq_M) (na : Nat) : Prop := Cond.instanceMethod y.1 ∈ WS ∧ Cond.selects y.1.cls y.1 y.1 ∈ WS ∧ Cond.initialized y.1.cls ∈ WS ∧ Cond.code y.1 y.2.1 y.2.2.1 y.2.2.2 ∈ WS ∧ (y.1.cls ≠ "java/lang/invoke/MethodHandle" ∧ y.1.cls ≠ "java/lang/invoke/VarHandle" ∧ (parseMethodDescriptor y.1.desc).map (fun d => d.parameters.length) = some na)
def vq_okS (y : vq_M) (na : Nat) : Prop := Cond.static y.1 ∈ WS ∧ Cond.initialized y.1.cls ∈ WS ∧ Cond.code y.1 y.2.1 y.2.2.1 y.2.2.2 ∈ WS ∧ (y.1.cls ≠ "java/lang/invoke/MethodHandle" ∧ y.1.cls ≠ "java/lang/invoke/VarHandle" ∧ (parseMethodDescriptor y.1.desc).map (fun d => d.parameters.length) = some na)
abbrev m_X0_has : vq_M := (yX0_has, cX0_has, 2, (some .boolean))
theorem o_X0_has : vq_okV m_X0_has 1 := ⟨(in_WS_2 (List.mem_of_getElem? (i := 12) rfl)), (in_WS_2 (List.mem_of_getElem? (i := 13) rfl)), (in_WS_2 (List.mem_of_getElem? (i := 14) rfl)), (in_WS_0 (List.mem_of_getElem? (i := 0) rfl)), by decide +kernel⟩
abbrev m_X0_addPair : vq_M := (yX0_addPair, cX0_addPair, 3, (some .int))
theorem o_X0_addPair : vq_okV m_X0_addPair 2 := ⟨(in_WS_5 (List.mem_of_getElem? (i := 31) rfl)), (in_WS_5 (List.mem_of_getElem? (i := 32) rfl)), (in_WS_2 (List.mem_of_getElem? (i := 14) rfl)), (in_WS_0 (List.mem_of_getElem? (i := 2) rfl)), by decide +kernel⟩
abbrev m_X0_peer : vq_M := (yX0_peer, cX0_peer, 2, (some .int))
theorem o_X0_peer : vq_okV m_X0_peer 1 := ⟨(in_WS_2 (List.mem_of_getElem? (i := 58) rfl)), (in_WS_2 (List.mem_of_getElem? (i := 59) rfl)), (in_WS_2 (List.mem_of_getElem? (i := 14) rfl)), (in_WS_0 (List.mem_of_getElem? (i := 4) rfl)), by decide +kernel⟩
abbrev m_X0_addHandler : vq_M := (yX0_addHandler, cX0_addHandler, 5, (some .int))
theorem o_X0_addHandler : vq_okV m_X0_addHandler 3 := ⟨(in_WS_5 (List.mem_of_getElem? (i := 44) rfl)), (in_WS_5 (List.mem_of_getElem? (i := 45) rfl)), (in_WS_2 (List.mem_of_getElem? (i := 14) rfl)), (in_WS_0 (List.mem_of_getElem? (i := 5) rfl)), by decide +kernel⟩
abbrev m_X0_removeHandler : vq_M := (yX0_removeHandler, cX0_removeHandler, 6, (some .int))
theorem o_X0_removeHandler : vq_okV m_X0_removeHandler 2 := ⟨(in_WS_5 (List.mem_of_getElem? (i := 41) rfl)), (in_WS_5 (List.mem_of_getElem? (i := 42) rfl)), (in_WS_2 (List.mem_of_getElem? (i := 14) rfl)), (in_WS_0 (List.mem_of_getElem? (i := 11) rfl)), by decide +kernel⟩
abbrev m_X1_isQuiet : vq_M := (yX1_isQuiet, cX1_isQuiet, 3, (some .boolean))
theorem o_X1_isQuiet : vq_okV m_X1_isQuiet 1 := ⟨(in_WS_4 (List.mem_of_getElem? (i := 14) rfl)), (in_WS_4 (List.mem_of_getElem? (i := 15) rfl)), (in_WS_4 (List.mem_of_getElem? (i := 16) rfl)), (in_WS_0 (List.mem_of_getElem? (i := 16) rfl)), by decide +kernel⟩
abbrev m_X2_has : vq_M := (yX2_has, cX2_has, 2, (some .boolean))
theorem o_X2_has : vq_okV m_X2_has 1 := ⟨(in_WS_2 (List.mem_of_getElem? (i := 6) rfl)), (in_WS_2 (List.mem_of_getElem? (i := 7) rfl)), (in_WS_0 (List.mem_of_getElem? (i := 32) rfl)), (in_WS_0 (List.mem_of_getElem? (i := 21) rfl)), by decide +kernel⟩
abbrev m_X2_add : vq_M := (yX2_add, cX2_add, 2, (some .int))
theorem o_X2_add : vq_okV m_X2_add 1 := ⟨(in_WS_5 (List.mem_of_getElem? (i := 25) rfl)), (in_WS_5 (List.mem_of_getElem? (i := 26) rfl)), (in_WS_0 (List.mem_of_getElem? (i := 32) rfl)), (in_WS_0 (List.mem_of_getElem? (i := 23) rfl)), by decide +kernel⟩
abbrev m_X2_isPending : vq_M := (yX2_isPending, cX2_isPending, 2, (some .boolean))
theorem o_X2_isPending : vq_okV m_X2_isPending 1 := ⟨(in_WS_0 (List.mem_of_getElem? (i := 30) rfl)), (in_WS_0 (List.mem_of_getElem? (i := 31) rfl)), (in_WS_0 (List.mem_of_getElem? (i := 32) rfl)), (in_WS_0 (List.mem_of_getElem? (i := 25) rfl)), by decide +kernel⟩
abbrev m_X2_pin : vq_M := (yX2_pin, cX2_pin, 2, (some .boolean))
theorem o_X2_pin : vq_okV m_X2_pin 1 := ⟨(in_WS_3 (List.mem_of_getElem? (i := 4) rfl)), (in_WS_3 (List.mem_of_getElem? (i := 5) rfl)), (in_WS_0 (List.mem_of_getElem? (i := 32) rfl)), (in_WS_0 (List.mem_of_getElem? (i := 27) rfl)), by decide +kernel⟩
abbrev m_X2_close : vq_M := (yX2_close, cX2_close, 4, (some .boolean))
theorem o_X2_close : vq_okV m_X2_close 3 := ⟨(in_WS_3 (List.mem_of_getElem? (i := 53) rfl)), (in_WS_3 (List.mem_of_getElem? (i := 54) rfl)), (in_WS_0 (List.mem_of_getElem? (i := 32) rfl)), (in_WS_0 (List.mem_of_getElem? (i := 33) rfl)), by decide +kernel⟩
abbrev m_X2_takesListener : vq_M := (yX2_takesListener, cX2_takesListener, 2, (some .boolean))
theorem o_X2_takesListener : vq_okV m_X2_takesListener 1 := ⟨(in_WS_2 (List.mem_of_getElem? (i := 9) rfl)), (in_WS_2 (List.mem_of_getElem? (i := 10) rfl)), (in_WS_0 (List.mem_of_getElem? (i := 32) rfl)), (in_WS_0 (List.mem_of_getElem? (i := 35) rfl)), by decide +kernel⟩
abbrev m_X2_addWaiting : vq_M := (yX2_addWaiting, cX2_addWaiting, 3, none)
theorem o_X2_addWaiting : vq_okV m_X2_addWaiting 2 := ⟨(in_WS_2 (List.mem_of_getElem? (i := 29) rfl)), (in_WS_2 (List.mem_of_getElem? (i := 30) rfl)), (in_WS_0 (List.mem_of_getElem? (i := 32) rfl)), (in_WS_0 (List.mem_of_getElem? (i := 37) rfl)), by decide +kernel⟩
abbrev m_X3_isFull : vq_M := (yX3_isFull, cX3_isFull, 1, (some .boolean))
theorem o_X3_isFull : vq_okV m_X3_isFull 0 := ⟨(in_WS_1 (List.mem_of_getElem? (i := 12) rfl)), (in_WS_1 (List.mem_of_getElem? (i := 13) rfl)), (in_WS_1 (List.mem_of_getElem? (i := 14) rfl)), (in_WS_0 (List.mem_of_getElem? (i := 39) rfl)), by decide +kernel⟩
abbrev m_X3_put : vq_M := (yX3_put, cX3_put, 5, none)
theorem o_X3_put : vq_okV m_X3_put 3 := ⟨(in_WS_1 (List.mem_of_getElem? (i := 19) rfl)), (in_WS_1 (List.mem_of_getElem? (i := 20) rfl)), (in_WS_1 (List.mem_of_getElem? (i := 14) rfl)), (in_WS_0 (List.mem_of_getElem? (i := 41) rfl)), by decide +kernel⟩
abbrev m_X3_dropFirst : vq_M := (yX3_dropFirst, cX3_dropFirst, 1, none)
theorem o_X3_dropFirst : vq_okV m_X3_dropFirst 0 := ⟨(in_WS_4 (List.mem_of_getElem? (i := 27) rfl)), (in_WS_4 (List.mem_of_getElem? (i := 28) rfl)), (in_WS_1 (List.mem_of_getElem? (i := 14) rfl)), (in_WS_0 (List.mem_of_getElem? (i := 46) rfl)), by decide +kernel⟩
abbrev m_X8_log : vq_M := (yX8_log, cX8_log, 5, none)
theorem o_X8_log : vq_okV m_X8_log 3 := ⟨(in_WS_1 (List.mem_of_getElem? (i := 7) rfl)), (in_WS_1 (List.mem_of_getElem? (i := 8) rfl)), (in_WS_1 (List.mem_of_getElem? (i := 9) rfl)), (in_WS_0 (List.mem_of_getElem? (i := 47) rfl)), by decide +kernel⟩
abbrev m_X5_choose : vq_M := (yX5_choose, cX5_choose, 3, (some .int))
theorem o_X5_choose : vq_okV m_X5_choose 0 := ⟨(in_WS_1 (List.mem_of_getElem? (i := 0) rfl)), (in_WS_1 (List.mem_of_getElem? (i := 1) rfl)), (in_WS_1 (List.mem_of_getElem? (i := 2) rfl)), (in_WS_0 (List.mem_of_getElem? (i := 50) rfl)), by decide +kernel⟩
abbrev m_X4_targetOf : vq_M := (yX4_targetOf, cX4_targetOf, 3, (some .int))
theorem o_X4_targetOf : vq_okV m_X4_targetOf 2 := ⟨(in_WS_2 (List.mem_of_getElem? (i := 37) rfl)), (in_WS_2 (List.mem_of_getElem? (i := 38) rfl)), (in_WS_2 (List.mem_of_getElem? (i := 34) rfl)), (in_WS_0 (List.mem_of_getElem? (i := 57) rfl)), by decide +kernel⟩
abbrev m_X5_become : vq_M := (yX5_become, cX5_become, 3, none)
theorem o_X5_become : vq_okV m_X5_become 2 := ⟨(in_WS_1 (List.mem_of_getElem? (i := 16) rfl)), (in_WS_1 (List.mem_of_getElem? (i := 17) rfl)), (in_WS_1 (List.mem_of_getElem? (i := 2) rfl)), (in_WS_1 (List.mem_of_getElem? (i := 3) rfl)), by decide +kernel⟩
abbrev m_X5_enqueue : vq_M := (yX5_enqueue, cX5_enqueue, 7, (some .boolean))
theorem o_X5_enqueue : vq_okV m_X5_enqueue 5 := ⟨(in_WS_2 (List.mem_of_getElem? (i := 40) rfl)), (in_WS_2 (List.mem_of_getElem? (i := 41) rfl)), (in_WS_1 (List.mem_of_getElem? (i := 2) rfl)), (in_WS_1 (List.mem_of_getElem? (i := 21) rfl)), by decide +kernel⟩
abbrev m_X7_put : vq_M := (yX7_put, cX7_put, 5, none)
theorem o_X7_put : vq_okV m_X7_put 3 := ⟨(in_WS_1 (List.mem_of_getElem? (i := 32) rfl)), (in_WS_1 (List.mem_of_getElem? (i := 33) rfl)), (in_WS_1 (List.mem_of_getElem? (i := 34) rfl)), (in_WS_1 (List.mem_of_getElem? (i := 22) rfl)), by decide +kernel⟩
abbrev m_X5_schedule : vq_M := (yX5_schedule, cX5_schedule, 8, (some .int))
theorem o_X5_schedule : vq_okV m_X5_schedule 4 := ⟨(in_WS_2 (List.mem_of_getElem? (i := 43) rfl)), (in_WS_2 (List.mem_of_getElem? (i := 44) rfl)), (in_WS_1 (List.mem_of_getElem? (i := 2) rfl)), (in_WS_1 (List.mem_of_getElem? (i := 35) rfl)), by decide +kernel⟩
abbrev m_X7_placeOf : vq_M := (yX7_placeOf, cX7_placeOf, 3, (some .int))
theorem o_X7_placeOf : vq_okV m_X7_placeOf 1 := ⟨(in_WS_1 (List.mem_of_getElem? (i := 40) rfl)), (in_WS_1 (List.mem_of_getElem? (i := 41) rfl)), (in_WS_1 (List.mem_of_getElem? (i := 34) rfl)), (in_WS_1 (List.mem_of_getElem? (i := 36) rfl)), by decide +kernel⟩
abbrev m_X7_removeAt : vq_M := (yX7_removeAt, cX7_removeAt, 2, none)
theorem o_X7_removeAt : vq_okV m_X7_removeAt 1 := ⟨(in_WS_1 (List.mem_of_getElem? (i := 43) rfl)), (in_WS_1 (List.mem_of_getElem? (i := 44) rfl)), (in_WS_1 (List.mem_of_getElem? (i := 34) rfl)), (in_WS_1 (List.mem_of_getElem? (i := 37) rfl)), by decide +kernel⟩
abbrev m_X5_dropTimer : vq_M := (yX5_dropTimer, cX5_dropTimer, 4, (some .boolean))
theorem o_X5_dropTimer : vq_okV m_X5_dropTimer 1 := ⟨(in_WS_2 (List.mem_of_getElem? (i := 46) rfl)), (in_WS_2 (List.mem_of_getElem? (i := 47) rfl)), (in_WS_1 (List.mem_of_getElem? (i := 2) rfl)), (in_WS_1 (List.mem_of_getElem? (i := 38) rfl)), by decide +kernel⟩
abbrev m_X5_shutAll : vq_M := (yX5_shutAll, cX5_shutAll, 5, none)
theorem o_X5_shutAll : vq_okV m_X5_shutAll 2 := ⟨(in_WS_3 (List.mem_of_getElem? (i := 1) rfl)), (in_WS_3 (List.mem_of_getElem? (i := 2) rfl)), (in_WS_1 (List.mem_of_getElem? (i := 2) rfl)), (in_WS_1 (List.mem_of_getElem? (i := 45) rfl)), by decide +kernel⟩
abbrev m_X6_has : vq_M := (yX6_has, cX6_has, 2, (some .boolean))
theorem o_X6_has : vq_okV m_X6_has 1 := ⟨(in_WS_1 (List.mem_of_getElem? (i := 59) rfl)), (in_WS_2 (List.mem_of_getElem? (i := 0) rfl)), (in_WS_2 (List.mem_of_getElem? (i := 1) rfl)), (in_WS_1 (List.mem_of_getElem? (i := 50) rfl)), by decide +kernel⟩
abbrev m_X5_has : vq_M := (yX5_has, cX5_has, 2, (some .boolean))
theorem o_X5_has : vq_okV m_X5_has 1 := ⟨(in_WS_2 (List.mem_of_getElem? (i := 3) rfl)), (in_WS_2 (List.mem_of_getElem? (i := 4) rfl)), (in_WS_1 (List.mem_of_getElem? (i := 2) rfl)), (in_WS_1 (List.mem_of_getElem? (i := 52) rfl)), by decide +kernel⟩
abbrev m_X5_canShut : vq_M := (yX5_canShut, cX5_canShut, 3, (some .boolean))
theorem o_X5_canShut : vq_okV m_X5_canShut 2 := ⟨(in_WS_2 (List.mem_of_getElem? (i := 16) rfl)), (in_WS_2 (List.mem_of_getElem? (i := 17) rfl)), (in_WS_1 (List.mem_of_getElem? (i := 2) rfl)), (in_WS_1 (List.mem_of_getElem? (i := 53) rfl)), by decide +kernel⟩
abbrev m_X4_canDo : vq_M := (yX4_canDo, cX4_canDo, 4, (some .boolean))
theorem o_X4_canDo : vq_okV m_X4_canDo 3 := ⟨(in_WS_3 (List.mem_of_getElem? (i := 9) rfl)), (in_WS_3 (List.mem_of_getElem? (i := 10) rfl)), (in_WS_2 (List.mem_of_getElem? (i := 34) rfl)), (in_WS_2 (List.mem_of_getElem? (i := 18) rfl)), by decide +kernel⟩
abbrev m_X4_await : vq_M := (yX4_await, cX4_await, 3, (some .int))
theorem o_X4_await : vq_okV m_X4_await 2 := ⟨(in_WS_3 (List.mem_of_getElem? (i := 12) rfl)), (in_WS_3 (List.mem_of_getElem? (i := 13) rfl)), (in_WS_2 (List.mem_of_getElem? (i := 34) rfl)), (in_WS_2 (List.mem_of_getElem? (i := 19) rfl)), by decide +kernel⟩
abbrev m_X4_addListener : vq_M := (yX4_addListener, cX4_addListener, 4, none)
theorem o_X4_addListener : vq_okV m_X4_addListener 3 := ⟨(in_WS_2 (List.mem_of_getElem? (i := 52) rfl)), (in_WS_2 (List.mem_of_getElem? (i := 53) rfl)), (in_WS_2 (List.mem_of_getElem? (i := 34) rfl)), (in_WS_3 (List.mem_of_getElem? (i := 56) rfl)), by decide +kernel⟩
abbrev m_X4_carryOut : vq_M := (yX4_carryOut, cX4_carryOut, 5, none)
theorem o_X4_carryOut : vq_okV m_X4_carryOut 4 := ⟨(in_WS_3 (List.mem_of_getElem? (i := 15) rfl)), (in_WS_3 (List.mem_of_getElem? (i := 16) rfl)), (in_WS_2 (List.mem_of_getElem? (i := 34) rfl)), (in_WS_2 (List.mem_of_getElem? (i := 35) rfl)), by decide +kernel⟩
abbrev m_X4_doOrder : vq_M := (yX4_doOrder, cX4_doOrder, 5, (some .int))
theorem o_X4_doOrder : vq_okV m_X4_doOrder 4 := ⟨(in_WS_3 (List.mem_of_getElem? (i := 25) rfl)), (in_WS_3 (List.mem_of_getElem? (i := 26) rfl)), (in_WS_2 (List.mem_of_getElem? (i := 34) rfl)), (in_WS_3 (List.mem_of_getElem? (i := 6) rfl)), by decide +kernel⟩
abbrev m_X4_doOrders : vq_M := (yX4_doOrders, cX4_doOrders, 7, none)
theorem o_X4_doOrders : vq_okV m_X4_doOrders 3 := ⟨(in_WS_3 (List.mem_of_getElem? (i := 42) rfl)), (in_WS_3 (List.mem_of_getElem? (i := 43) rfl)), (in_WS_2 (List.mem_of_getElem? (i := 34) rfl)), (in_WS_3 (List.mem_of_getElem? (i := 17) rfl)), by decide +kernel⟩
abbrev m_X4_echo : vq_M := (yX4_echo, cX4_echo, 4, none)
theorem o_X4_echo : vq_okV m_X4_echo 3 := ⟨(in_WS_3 (List.mem_of_getElem? (i := 39) rfl)), (in_WS_3 (List.mem_of_getElem? (i := 40) rfl)), (in_WS_2 (List.mem_of_getElem? (i := 34) rfl)), (in_WS_3 (List.mem_of_getElem? (i := 27) rfl)), by decide +kernel⟩
abbrev m_X4_goThrough : vq_M := (yX4_goThrough, cX4_goThrough, 9, none)
theorem o_X4_goThrough : vq_okV m_X4_goThrough 3 := ⟨(in_WS_3 (List.mem_of_getElem? (i := 47) rfl)), (in_WS_3 (List.mem_of_getElem? (i := 48) rfl)), (in_WS_2 (List.mem_of_getElem? (i := 34) rfl)), (in_WS_3 (List.mem_of_getElem? (i := 28) rfl)), by decide +kernel⟩
abbrev m_X4_handle : vq_M := (yX4_handle, cX4_handle, 5, (some .int))
theorem o_X4_handle : vq_okV m_X4_handle 4 := ⟨(in_WS_3 (List.mem_of_getElem? (i := 33) rfl)), (in_WS_3 (List.mem_of_getElem? (i := 34) rfl)), (in_WS_2 (List.mem_of_getElem? (i := 34) rfl)), (in_WS_3 (List.mem_of_getElem? (i := 35) rfl)), by decide +kernel⟩
abbrev m_X4_send : vq_M := (yX4_send, cX4_send, 5, (some .boolean))
theorem o_X4_send : vq_okV m_X4_send 3 := ⟨(in_WS_2 (List.mem_of_getElem? (i := 55) rfl)), (in_WS_2 (List.mem_of_getElem? (i := 56) rfl)), (in_WS_2 (List.mem_of_getElem? (i := 34) rfl)), (in_WS_3 (List.mem_of_getElem? (i := 44) rfl)), by decide +kernel⟩
abbrev m_X4_settle : vq_M := (yX4_settle, cX4_settle, 7, (some .boolean))
theorem o_X4_settle : vq_okV m_X4_settle 4 := ⟨(in_WS_2 (List.mem_of_getElem? (i := 49) rfl)), (in_WS_2 (List.mem_of_getElem? (i := 50) rfl)), (in_WS_2 (List.mem_of_getElem? (i := 34) rfl)), (in_WS_3 (List.mem_of_getElem? (i := 49) rfl)), by decide +kernel⟩
abbrev m_X4_tell : vq_M := (yX4_tell, cX4_tell, 5, none)
theorem o_X4_tell : vq_okV m_X4_tell 3 := ⟨(in_WS_2 (List.mem_of_getElem? (i := 32) rfl)), (in_WS_2 (List.mem_of_getElem? (i := 33) rfl)), (in_WS_2 (List.mem_of_getElem? (i := 34) rfl)), (in_WS_3 (List.mem_of_getElem? (i := 55) rfl)), by decide +kernel⟩
abbrev m_X4_resume : vq_M := (yX4_resume, cX4_resume, 4, (some .int))
theorem o_X4_resume : vq_okV m_X4_resume 2 := ⟨(in_WS_4 (List.mem_of_getElem? (i := 35) rfl)), (in_WS_4 (List.mem_of_getElem? (i := 36) rfl)), (in_WS_2 (List.mem_of_getElem? (i := 34) rfl)), (in_WS_3 (List.mem_of_getElem? (i := 57) rfl)), by decide +kernel⟩
abbrev m_X7_isBefore : vq_M := (yX7_isBefore, cX7_isBefore, 3, (some .boolean))
theorem o_X7_isBefore : vq_okV m_X7_isBefore 2 := ⟨(in_WS_4 (List.mem_of_getElem? (i := 1) rfl)), (in_WS_4 (List.mem_of_getElem? (i := 2) rfl)), (in_WS_1 (List.mem_of_getElem? (i := 34) rfl)), (in_WS_3 (List.mem_of_getElem? (i := 58) rfl)), by decide +kernel⟩
abbrev m_X7_firstDue : vq_M := (yX7_firstDue, cX7_firstDue, 5, (some .int))
theorem o_X7_firstDue : vq_okV m_X7_firstDue 1 := ⟨(in_WS_4 (List.mem_of_getElem? (i := 10) rfl)), (in_WS_4 (List.mem_of_getElem? (i := 11) rfl)), (in_WS_1 (List.mem_of_getElem? (i := 34) rfl)), (in_WS_3 (List.mem_of_getElem? (i := 59) rfl)), by decide +kernel⟩
abbrev m_X5_beginBatch : vq_M := (yX5_beginBatch, cX5_beginBatch, 4, none)
theorem o_X5_beginBatch : vq_okV m_X5_beginBatch 1 := ⟨(in_WS_4 (List.mem_of_getElem? (i := 38) rfl)), (in_WS_4 (List.mem_of_getElem? (i := 39) rfl)), (in_WS_1 (List.mem_of_getElem? (i := 2) rfl)), (in_WS_4 (List.mem_of_getElem? (i := 12) rfl)), by decide +kernel⟩
abbrev m_X5_confirm : vq_M := (yX5_confirm, cX5_confirm, 3, (some .boolean))
theorem o_X5_confirm : vq_okV m_X5_confirm 1 := ⟨(in_WS_4 (List.mem_of_getElem? (i := 41) rfl)), (in_WS_4 (List.mem_of_getElem? (i := 42) rfl)), (in_WS_1 (List.mem_of_getElem? (i := 2) rfl)), (in_WS_4 (List.mem_of_getElem? (i := 17) rfl)), by decide +kernel⟩
abbrev m_X4_beginFirst : vq_M := (yX4_beginFirst, cX4_beginFirst, 7, none)
theorem o_X4_beginFirst : vq_okV m_X4_beginFirst 2 := ⟨(in_WS_4 (List.mem_of_getElem? (i := 44) rfl)), (in_WS_4 (List.mem_of_getElem? (i := 45) rfl)), (in_WS_2 (List.mem_of_getElem? (i := 34) rfl)), (in_WS_4 (List.mem_of_getElem? (i := 29) rfl)), by decide +kernel⟩
abbrev m_X4_takeStep : vq_M := (yX4_takeStep, cX4_takeStep, 3, (some .int))
theorem o_X4_takeStep : vq_okV m_X4_takeStep 1 := ⟨(in_WS_6 (List.mem_of_getElem? (i := 15) rfl)), (in_WS_6 (List.mem_of_getElem? (i := 16) rfl)), (in_WS_2 (List.mem_of_getElem? (i := 34) rfl)), (in_WS_4 (List.mem_of_getElem? (i := 46) rfl)), by decide +kernel⟩
abbrev m_X6_add : vq_M := (yX6_add, cX6_add, 1, (some .int))
theorem o_X6_add : vq_okV m_X6_add 0 := ⟨(in_WS_5 (List.mem_of_getElem? (i := 1) rfl)), (in_WS_5 (List.mem_of_getElem? (i := 2) rfl)), (in_WS_2 (List.mem_of_getElem? (i := 1) rfl)), (in_WS_4 (List.mem_of_getElem? (i := 47) rfl)), by decide +kernel⟩
abbrev m_X6_addOrder : vq_M := (yX6_addOrder, cX6_addOrder, 6, (some .int))
theorem o_X6_addOrder : vq_okV m_X6_addOrder 4 := ⟨(in_WS_5 (List.mem_of_getElem? (i := 13) rfl)), (in_WS_5 (List.mem_of_getElem? (i := 14) rfl)), (in_WS_2 (List.mem_of_getElem? (i := 1) rfl)), (in_WS_4 (List.mem_of_getElem? (i := 48) rfl)), by decide +kernel⟩
abbrev m_X8_keeps : vq_M := (yX8_keeps, cX8_keeps, 2, (some .boolean))
theorem o_X8_keeps : vq_okV m_X8_keeps 1 := ⟨(in_WS_6 (List.mem_of_getElem? (i := 38) rfl)), (in_WS_6 (List.mem_of_getElem? (i := 39) rfl)), (in_WS_1 (List.mem_of_getElem? (i := 9) rfl)), (in_WS_4 (List.mem_of_getElem? (i := 53) rfl)), by decide +kernel⟩
abbrev m_X8_read : vq_M := (yX8_read, cX8_read, 3, (some .int))
theorem o_X8_read : vq_okV m_X8_read 2 := ⟨(in_WS_6 (List.mem_of_getElem? (i := 41) rfl)), (in_WS_6 (List.mem_of_getElem? (i := 42) rfl)), (in_WS_1 (List.mem_of_getElem? (i := 9) rfl)), (in_WS_4 (List.mem_of_getElem? (i := 54) rfl)), by decide +kernel⟩
abbrev m_X9_task : vq_M := (yX9_task, cX9_task, 1, (some .int))
abbrev m_X9_needTask : vq_M := (yX9_needTask, cX9_needTask, 2, none)
theorem o_X9_needTask : vq_okV m_X9_needTask 1 := ⟨(in_WS_5 (List.mem_of_getElem? (i := 9) rfl)), (in_WS_5 (List.mem_of_getElem? (i := 10) rfl)), (in_WS_5 (List.mem_of_getElem? (i := 11) rfl)), (in_WS_5 (List.mem_of_getElem? (i := 3) rfl)), by decide +kernel⟩
abbrev m_X9_order : vq_M := (yX9_order, cX9_order, 5, (some .int))
abbrev m_X9_needLoop : vq_M := (yX9_needLoop, cX9_needLoop, 2, none)
theorem o_X9_needLoop : vq_okV m_X9_needLoop 1 := ⟨(in_WS_5 (List.mem_of_getElem? (i := 22) rfl)), (in_WS_5 (List.mem_of_getElem? (i := 23) rfl)), (in_WS_5 (List.mem_of_getElem? (i := 11) rfl)), (in_WS_5 (List.mem_of_getElem? (i := 16) rfl)), by decide +kernel⟩
abbrev m_X9_promise : vq_M := (yX9_promise, cX9_promise, 2, (some .int))
abbrev m_X9_channels : vq_M := (yX9_channels, cX9_channels, 3, (some .int))
abbrev m_X9_needChannel : vq_M := (yX9_needChannel, cX9_needChannel, 2, none)
theorem o_X9_needChannel : vq_okV m_X9_needChannel 1 := ⟨(in_WS_5 (List.mem_of_getElem? (i := 38) rfl)), (in_WS_5 (List.mem_of_getElem? (i := 39) rfl)), (in_WS_5 (List.mem_of_getElem? (i := 11) rfl)), (in_WS_5 (List.mem_of_getElem? (i := 34) rfl)), by decide +kernel⟩
abbrev m_X9_handler : vq_M := (yX9_handler, cX9_handler, 5, (some .int))
abbrev m_X9_advance : vq_M := (yX9_advance, cX9_advance, 2, (some .long))
abbrev m_X9_execute : vq_M := (yX9_execute, cX9_execute, 4, (some .int))
abbrev m_X9_timer : vq_M := (yX9_timer, cX9_timer, 5, (some .int))
abbrev m_X9_cancel : vq_M := (yX9_cancel, cX9_cancel, 2, (some .boolean))
abbrev m_X9_needPromise : vq_M := (yX9_needPromise, cX9_needPromise, 2, none)
theorem o_X9_needPromise : vq_okV m_X9_needPromise 1 := ⟨(in_WS_6 (List.mem_of_getElem? (i := 1) rfl)), (in_WS_6 (List.mem_of_getElem? (i := 2) rfl)), (in_WS_5 (List.mem_of_getElem? (i := 11) rfl)), (in_WS_5 (List.mem_of_getElem? (i := 57) rfl)), by decide +kernel⟩
abbrev m_X9_complete : vq_M := (yX9_complete, cX9_complete, 4, (some .boolean))
abbrev m_X9_listen : vq_M := (yX9_listen, cX9_listen, 3, none)
abbrev m_X9_fire : vq_M := (yX9_fire, cX9_fire, 3, none)
abbrev m_X9_shutdown : vq_M := (yX9_shutdown, cX9_shutdown, 3, none)
abbrev m_X9_step : vq_M := (yX9_step, cX9_step, 2, (some .int))
abbrev m_X9_loop : vq_M := (yX9_loop, cX9_loop, 4, (some .int))
abbrev m_X9_look : vq_M := (yX9_look, cX9_look, 3, (some .int))
abbrev m_X9_traced : vq_M := (yX9_traced, cX9_traced, 1, (some .int))
abbrev m_X9_trace : vq_M := (yX9_trace, cX9_trace, 3, (some .int))
abbrev m_X10_thrown : vq_M := (yX10_thrown, cX10_thrown, 1, (some .int))
abbrev m_X10_throwing : vq_M := (yX10_throwing, cX10_throwing, 3, (some .boolean))
theorem o_X10_throwing : vq_okV m_X10_throwing 2 := ⟨(in_WS_7 (List.mem_of_getElem? (i := 10) rfl)), (in_WS_7 (List.mem_of_getElem? (i := 11) rfl)), (in_WS_6 (List.mem_of_getElem? (i := 51) rfl)), (in_WS_6 (List.mem_of_getElem? (i := 45) rfl)), by decide +kernel⟩
abbrev m_X10_in : vq_M := (yX10_in, cX10_in, 6, (some .boolean))
theorem o_X10_in : vq_okS m_X10_in 3 := ⟨(in_WS_6 (List.mem_of_getElem? (i := 50) rfl)), (in_WS_6 (List.mem_of_getElem? (i := 51) rfl)), (in_WS_6 (List.mem_of_getElem? (i := 46) rfl)), by decide +kernel⟩
abbrev m_X10_isTask : vq_M := (yX10_isTask, cX10_isTask, 2, (some .boolean))
theorem o_X10_isTask : vq_okV m_X10_isTask 1 := ⟨(in_WS_7 (List.mem_of_getElem? (i := 19) rfl)), (in_WS_7 (List.mem_of_getElem? (i := 20) rfl)), (in_WS_6 (List.mem_of_getElem? (i := 51) rfl)), (in_WS_6 (List.mem_of_getElem? (i := 47) rfl)), by decide +kernel⟩
abbrev m_X10_isLoop : vq_M := (yX10_isLoop, cX10_isLoop, 2, (some .boolean))
theorem o_X10_isLoop : vq_okV m_X10_isLoop 1 := ⟨(in_WS_7 (List.mem_of_getElem? (i := 24) rfl)), (in_WS_7 (List.mem_of_getElem? (i := 25) rfl)), (in_WS_6 (List.mem_of_getElem? (i := 51) rfl)), (in_WS_6 (List.mem_of_getElem? (i := 52) rfl)), by decide +kernel⟩
abbrev m_X10_isPromise : vq_M := (yX10_isPromise, cX10_isPromise, 2, (some .boolean))
theorem o_X10_isPromise : vq_okV m_X10_isPromise 1 := ⟨(in_WS_8 (List.mem_of_getElem? (i := 33) rfl)), (in_WS_8 (List.mem_of_getElem? (i := 34) rfl)), (in_WS_6 (List.mem_of_getElem? (i := 51) rfl)), (in_WS_6 (List.mem_of_getElem? (i := 54) rfl)), by decide +kernel⟩
abbrev m_X10_isChannel : vq_M := (yX10_isChannel, cX10_isChannel, 2, (some .boolean))
theorem o_X10_isChannel : vq_okV m_X10_isChannel 1 := ⟨(in_WS_7 (List.mem_of_getElem? (i := 35) rfl)), (in_WS_7 (List.mem_of_getElem? (i := 36) rfl)), (in_WS_6 (List.mem_of_getElem? (i := 51) rfl)), (in_WS_6 (List.mem_of_getElem? (i := 56) rfl)), by decide +kernel⟩
abbrev m_X10_log : vq_M := (yX10_log, cX10_log, 4, none)
theorem o_X10_log : vq_okV m_X10_log 3 := ⟨(in_WS_7 (List.mem_of_getElem? (i := 6) rfl)), (in_WS_7 (List.mem_of_getElem? (i := 7) rfl)), (in_WS_6 (List.mem_of_getElem? (i := 51) rfl)), (in_WS_6 (List.mem_of_getElem? (i := 58) rfl)), by decide +kernel⟩
abbrev m_X10_become : vq_M := (yX10_become, cX10_become, 3, none)
theorem o_X10_become : vq_okV m_X10_become 2 := ⟨(in_WS_7 (List.mem_of_getElem? (i := 50) rfl)), (in_WS_7 (List.mem_of_getElem? (i := 51) rfl)), (in_WS_6 (List.mem_of_getElem? (i := 51) rfl)), (in_WS_7 (List.mem_of_getElem? (i := 3) rfl)), by decide +kernel⟩
abbrev m_X10_task : vq_M := (yX10_task, cX10_task, 1, (some .int))
abbrev m_X10_order : vq_M := (yX10_order, cX10_order, 7, (some .int))
abbrev m_X10_promise : vq_M := (yX10_promise, cX10_promise, 3, (some .int))
abbrev m_X10_channels : vq_M := (yX10_channels, cX10_channels, 4, (some .int))
abbrev m_X10_handler : vq_M := (yX10_handler, cX10_handler, 8, (some .int))
abbrev m_X10_advance : vq_M := (yX10_advance, cX10_advance, 2, (some .long))
abbrev m_X10_choose : vq_M := (yX10_choose, cX10_choose, 3, (some .int))
theorem o_X10_choose : vq_okV m_X10_choose 0 := ⟨(in_WS_8 (List.mem_of_getElem? (i := 50) rfl)), (in_WS_8 (List.mem_of_getElem? (i := 51) rfl)), (in_WS_6 (List.mem_of_getElem? (i := 51) rfl)), (in_WS_7 (List.mem_of_getElem? (i := 41) rfl)), by decide +kernel⟩
abbrev m_X10_put : vq_M := (yX10_put, cX10_put, 7, (some .boolean))
theorem o_X10_put : vq_okV m_X10_put 5 := ⟨(in_WS_8 (List.mem_of_getElem? (i := 16) rfl)), (in_WS_8 (List.mem_of_getElem? (i := 17) rfl)), (in_WS_6 (List.mem_of_getElem? (i := 51) rfl)), (in_WS_7 (List.mem_of_getElem? (i := 43) rfl)), by decide +kernel⟩
abbrev m_X10_waiting : vq_M := (yX10_waiting, cX10_waiting, 4, (some .int))
theorem o_X10_waiting : vq_okV m_X10_waiting 1 := ⟨(in_WS_7 (List.mem_of_getElem? (i := 59) rfl)), (in_WS_8 (List.mem_of_getElem? (i := 0) rfl)), (in_WS_6 (List.mem_of_getElem? (i := 51) rfl)), (in_WS_7 (List.mem_of_getElem? (i := 52) rfl)), by decide +kernel⟩
abbrev m_X10_schedule : vq_M := (yX10_schedule, cX10_schedule, 5, (some .boolean))
theorem o_X10_schedule : vq_okV m_X10_schedule 3 := ⟨(in_WS_8 (List.mem_of_getElem? (i := 53) rfl)), (in_WS_8 (List.mem_of_getElem? (i := 54) rfl)), (in_WS_6 (List.mem_of_getElem? (i := 51) rfl)), (in_WS_7 (List.mem_of_getElem? (i := 55) rfl)), by decide +kernel⟩
abbrev m_X10_push : vq_M := (yX10_push, cX10_push, 4, none)
theorem o_X10_push : vq_okV m_X10_push 3 := ⟨(in_WS_8 (List.mem_of_getElem? (i := 13) rfl)), (in_WS_8 (List.mem_of_getElem? (i := 14) rfl)), (in_WS_6 (List.mem_of_getElem? (i := 51) rfl)), (in_WS_8 (List.mem_of_getElem? (i := 1) rfl)), by decide +kernel⟩
abbrev m_X10_frames : vq_M := (yX10_frames, cX10_frames, 4, (some .int))
theorem o_X10_frames : vq_okV m_X10_frames 1 := ⟨(in_WS_8 (List.mem_of_getElem? (i := 10) rfl)), (in_WS_8 (List.mem_of_getElem? (i := 11) rfl)), (in_WS_6 (List.mem_of_getElem? (i := 51) rfl)), (in_WS_8 (List.mem_of_getElem? (i := 8) rfl)), by decide +kernel⟩
abbrev m_X10_notify : vq_M := (yX10_notify, cX10_notify, 3, none)
theorem o_X10_notify : vq_okV m_X10_notify 2 := ⟨(in_WS_8 (List.mem_of_getElem? (i := 37) rfl)), (in_WS_8 (List.mem_of_getElem? (i := 38) rfl)), (in_WS_6 (List.mem_of_getElem? (i := 51) rfl)), (in_WS_8 (List.mem_of_getElem? (i := 18) rfl)), by decide +kernel⟩
abbrev m_X10_finish : vq_M := (yX10_finish, cX10_finish, 5, (some .boolean))
theorem o_X10_finish : vq_okV m_X10_finish 3 := ⟨(in_WS_8 (List.mem_of_getElem? (i := 56) rfl)), (in_WS_8 (List.mem_of_getElem? (i := 57) rfl)), (in_WS_6 (List.mem_of_getElem? (i := 51) rfl)), (in_WS_8 (List.mem_of_getElem? (i := 19) rfl)), by decide +kernel⟩
abbrev m_X10_send : vq_M := (yX10_send, cX10_send, 3, (some .boolean))
theorem o_X10_send : vq_okV m_X10_send 2 := ⟨(in_WS_9 (List.mem_of_getElem? (i := 5) rfl)), (in_WS_9 (List.mem_of_getElem? (i := 6) rfl)), (in_WS_6 (List.mem_of_getElem? (i := 51) rfl)), (in_WS_8 (List.mem_of_getElem? (i := 24) rfl)), by decide +kernel⟩
abbrev m_X10_shut : vq_M := (yX10_shut, cX10_shut, 4, none)
theorem o_X10_shut : vq_okV m_X10_shut 2 := ⟨(in_WS_9 (List.mem_of_getElem? (i := 8) rfl)), (in_WS_9 (List.mem_of_getElem? (i := 9) rfl)), (in_WS_6 (List.mem_of_getElem? (i := 51) rfl)), (in_WS_8 (List.mem_of_getElem? (i := 25) rfl)), by decide +kernel⟩
abbrev m_X10_isSo : vq_M := (yX10_isSo, cX10_isSo, 4, (some .boolean))
theorem o_X10_isSo : vq_okV m_X10_isSo 3 := ⟨(in_WS_8 (List.mem_of_getElem? (i := 47) rfl)), (in_WS_8 (List.mem_of_getElem? (i := 48) rfl)), (in_WS_6 (List.mem_of_getElem? (i := 51) rfl)), (in_WS_8 (List.mem_of_getElem? (i := 30) rfl)), by decide +kernel⟩
abbrev m_X10_listenAt : vq_M := (yX10_listenAt, cX10_listenAt, 3, none)
theorem o_X10_listenAt : vq_okV m_X10_listenAt 2 := ⟨(in_WS_8 (List.mem_of_getElem? (i := 59) rfl)), (in_WS_9 (List.mem_of_getElem? (i := 0) rfl)), (in_WS_6 (List.mem_of_getElem? (i := 51) rfl)), (in_WS_8 (List.mem_of_getElem? (i := 39) rfl)), by decide +kernel⟩
abbrev m_X10_await : vq_M := (yX10_await, cX10_await, 2, none)
theorem o_X10_await : vq_okV m_X10_await 1 := ⟨(in_WS_9 (List.mem_of_getElem? (i := 2) rfl)), (in_WS_9 (List.mem_of_getElem? (i := 3) rfl)), (in_WS_6 (List.mem_of_getElem? (i := 51) rfl)), (in_WS_8 (List.mem_of_getElem? (i := 40) rfl)), by decide +kernel⟩
abbrev m_X10_work : vq_M := (yX10_work, cX10_work, 7, none)
theorem o_X10_work : vq_okV m_X10_work 0 := ⟨(in_WS_9 (List.mem_of_getElem? (i := 17) rfl)), (in_WS_9 (List.mem_of_getElem? (i := 18) rfl)), (in_WS_6 (List.mem_of_getElem? (i := 51) rfl)), (in_WS_9 (List.mem_of_getElem? (i := 10) rfl)), by decide +kernel⟩
abbrev m_X10_pass : vq_M := (yX10_pass, cX10_pass, 6, none)
theorem o_X10_pass : vq_okV m_X10_pass 0 := ⟨(in_WS_9 (List.mem_of_getElem? (i := 14) rfl)), (in_WS_9 (List.mem_of_getElem? (i := 15) rfl)), (in_WS_6 (List.mem_of_getElem? (i := 51) rfl)), (in_WS_9 (List.mem_of_getElem? (i := 12) rfl)), by decide +kernel⟩
abbrev m_X10_run : vq_M := (yX10_run, cX10_run, 3, none)
theorem o_X10_run : vq_okV m_X10_run 0 := ⟨(in_WS_9 (List.mem_of_getElem? (i := 24) rfl)), (in_WS_9 (List.mem_of_getElem? (i := 25) rfl)), (in_WS_6 (List.mem_of_getElem? (i := 51) rfl)), (in_WS_9 (List.mem_of_getElem? (i := 19) rfl)), by decide +kernel⟩
abbrev m_X10_beginBatch : vq_M := (yX10_beginBatch, cX10_beginBatch, 5, none)
theorem o_X10_beginBatch : vq_okV m_X10_beginBatch 1 := ⟨(in_WS_9 (List.mem_of_getElem? (i := 27) rfl)), (in_WS_9 (List.mem_of_getElem? (i := 28) rfl)), (in_WS_6 (List.mem_of_getElem? (i := 51) rfl)), (in_WS_9 (List.mem_of_getElem? (i := 21) rfl)), by decide +kernel⟩
abbrev m_X10_confirm : vq_M := (yX10_confirm, cX10_confirm, 3, (some .int))
theorem o_X10_confirm : vq_okV m_X10_confirm 1 := ⟨(in_WS_9 (List.mem_of_getElem? (i := 30) rfl)), (in_WS_9 (List.mem_of_getElem? (i := 31) rfl)), (in_WS_6 (List.mem_of_getElem? (i := 51) rfl)), (in_WS_9 (List.mem_of_getElem? (i := 22) rfl)), by decide +kernel⟩
abbrev m_X10_step : vq_M := (yX10_step, cX10_step, 7, (some .int))
abbrev m_X10_host : vq_M := (yX10_host, cX10_host, 1, none)
theorem o_X10_host : vq_okV m_X10_host 0 := ⟨(in_WS_9 (List.mem_of_getElem? (i := 35) rfl)), (in_WS_9 (List.mem_of_getElem? (i := 36) rfl)), (in_WS_6 (List.mem_of_getElem? (i := 51) rfl)), (in_WS_9 (List.mem_of_getElem? (i := 33) rfl)), by decide +kernel⟩
abbrev m_X10_execute : vq_M := (yX10_execute, cX10_execute, 4, (some .int))
abbrev m_X10_timer : vq_M := (yX10_timer, cX10_timer, 4, (some .int))
abbrev m_X10_cancel : vq_M := (yX10_cancel, cX10_cancel, 3, (some .boolean))
abbrev m_X10_complete : vq_M := (yX10_complete, cX10_complete, 5, (some .boolean))
abbrev m_X10_listen : vq_M := (yX10_listen, cX10_listen, 3, none)
abbrev m_X10_fire : vq_M := (yX10_fire, cX10_fire, 3, none)
abbrev m_X10_shutdown : vq_M := (yX10_shutdown, cX10_shutdown, 3, none)
abbrev m_X10_loop : vq_M := (yX10_loop, cX10_loop, 3, (some .int))
abbrev m_X10_look : vq_M := (yX10_look, cX10_look, 3, (some .int))
abbrev m_X10_traced : vq_M := (yX10_traced, cX10_traced, 1, (some .int))
abbrev m_X10_trace : vq_M := (yX10_trace, cX10_trace, 4, (some .int))
end
section
/-! the system's cells have numbers (ids): 0 the LoopGroup, 1 Runner, 2 Scheduler, 3 Trace, 4 Tasks, 5 Promises, 6 Channels; 300 + 10 o + k the array in field k of the object o; lid l 0 .. lid l 8: loop l, its queue, its timers, the queue's arrays, the timers' arrays; 30 the reference, 200 + k the array in its field k; 90 the law's own array -/
abbrev MI : Type := Nat → Nat → Int32
abbrev ML : Type := Nat → Nat → Int64
def lid (l j : Nat) : Nat := 1000 + 10 * l + j
/-- the kind of a cell: below 11 an object of that class, 20 ints, 21 longs, 22 booleans, 23 references -/
def gk0 : Nat → Nat
  | 0 => 9
  | 1 => 4
  | 2 => 5
  | 3 => 8
  | 4 => 6
  | 5 => 2
  | 6 => 0
  | 30 => 10
  | 90 => 21
  | 204 => 20
  | 205 => 20
  | 206 => 20
  | 207 => 20
  | 208 => 20
  | 209 => 20
  | 210 => 20
  | 211 => 20
  | 212 => 20
  | 213 => 20
  | 214 => 22
  | 215 => 20
  | 216 => 20
  | 217 => 20
  | 218 => 21
  | 219 => 21
  | 220 => 21
  | 221 => 21
  | 224 => 20
  | 225 => 21
  | 226 => 20
  | 228 => 20
  | 229 => 20
  | 230 => 20
  | 231 => 22
  | 232 => 20
  | 233 => 20
  | 235 => 20
  | 236 => 20
  | 237 => 20
  | 238 => 20
  | 239 => 20
  | 242 => 20
  | 243 => 20
  | 244 => 20
  | 246 => 20
  | 247 => 20
  | 248 => 20
  | 249 => 20
  | 250 => 22
  | 321 => 23
  | 330 => 20
  | 340 => 20
  | 341 => 20
  | 342 => 20
  | 343 => 20
  | 350 => 20
  | 351 => 20
  | 352 => 20
  | 353 => 22
  | 354 => 20
  | 355 => 20
  | 360 => 20
  | 361 => 20
  | 362 => 20
  | 363 => 20
  | 364 => 20
  | _ => 99
def gkL : Nat → Nat
  | 0 => 1
  | 1 => 3
  | 2 => 7
  | 3 => 20
  | 4 => 20
  | 5 => 20
  | 6 => 20
  | 7 => 20
  | 8 => 21
  | _ => 99
def gk (i : Nat) : Nat := if i < 1000 then gk0 i else gkL ((i - 1000) % 10)
def gl0 : Nat → Nat
  | 90 => 1
  | 204 => 24
  | 205 => 192
  | 206 => 192
  | 207 => 192
  | 208 => 8
  | 209 => 8
  | 210 => 8
  | 211 => 192
  | 212 => 192
  | 213 => 192
  | 214 => 8
  | 215 => 8
  | 216 => 8
  | 217 => 8
  | 218 => 8
  | 219 => 8
  | 220 => 8
  | 221 => 8
  | 224 => 400
  | 225 => 400
  | 226 => 400
  | 228 => 32
  | 229 => 32
  | 230 => 32
  | 231 => 32
  | 232 => 32
  | 233 => 192
  | 235 => 16
  | 236 => 16
  | 237 => 96
  | 238 => 96
  | 239 => 96
  | 242 => 300
  | 243 => 300
  | 244 => 300
  | 246 => 80
  | 247 => 80
  | 248 => 80
  | 249 => 80
  | 250 => 80
  | 330 => 900
  | 340 => 24
  | 341 => 192
  | 342 => 192
  | 343 => 192
  | 350 => 32
  | 351 => 32
  | 352 => 32
  | 353 => 32
  | 354 => 32
  | 355 => 192
  | 360 => 16
  | 361 => 16
  | 362 => 96
  | 363 => 96
  | 364 => 96
  | _ => 24
def gl (n i : Nat) : Nat := if i = 321 then n else gl0 i
def grf_30 : Nat → Option Nat
  | 4 => some 204
  | 5 => some 205
  | 6 => some 206
  | 7 => some 207
  | 8 => some 208
  | 9 => some 209
  | 10 => some 210
  | 11 => some 211
  | 12 => some 212
  | 13 => some 213
  | 14 => some 214
  | 15 => some 215
  | 16 => some 216
  | 17 => some 217
  | 18 => some 218
  | 19 => some 219
  | 20 => some 220
  | 21 => some 221
  | 24 => some 224
  | 25 => some 225
  | 26 => some 226
  | 28 => some 228
  | 29 => some 229
  | 30 => some 230
  | 31 => some 231
  | 32 => some 232
  | 33 => some 233
  | 35 => some 235
  | 36 => some 236
  | 37 => some 237
  | 38 => some 238
  | 39 => some 239
  | 42 => some 242
  | 43 => some 243
  | 44 => some 244
  | 46 => some 246
  | 47 => some 247
  | 48 => some 248
  | 49 => some 249
  | 50 => some 250
  | _ => none
def grf_2 : Nat → Option Nat
  | 0 => some 3
  | 1 => some 321
  | _ => none
def grf_3 : Nat → Option Nat
  | 0 => some 330
  | _ => none
def grf_4 : Nat → Option Nat
  | 0 => some 340
  | 1 => some 341
  | 2 => some 342
  | 3 => some 343
  | _ => none
def grf_5 : Nat → Option Nat
  | 0 => some 350
  | 1 => some 351
  | 2 => some 352
  | 3 => some 353
  | 4 => some 354
  | 5 => some 355
  | _ => none
def grf_6 : Nat → Option Nat
  | 0 => some 360
  | 1 => some 361
  | 2 => some 362
  | 3 => some 363
  | 4 => some 364
  | _ => none
def grf_0 : Nat → Option Nat
  | 0 => some 1
  | 1 => some 2
  | 2 => some 3
  | 3 => some 4
  | 4 => some 5
  | 5 => some 6
  | _ => none
def grf_1 : Nat → Option Nat
  | 0 => some 4
  | 1 => some 5
  | 2 => some 6
  | 3 => some 2
  | 4 => some 3
  | _ => none
def gr0 : Nat → Nat → Option Nat
  | 0, k => grf_0 k
  | 1, k => grf_1 k
  | 2, k => grf_2 k
  | 3, k => grf_3 k
  | 4, k => grf_4 k
  | 5, k => grf_5 k
  | 6, k => grf_6 k
  | 30, k => grf_30 k
  | 321, k => some (lid k 0)
  | _, _ => none
/-- a loop's own references: of the loop its queue and timers, of those their arrays -/
def grL (l : Nat) : Nat → Nat → Option Nat
  | 0, 0 => some (lid l 1)
  | 0, 1 => some (lid l 2)
  | 1, 0 => some (lid l 3)
  | 1, 1 => some (lid l 4)
  | 1, 2 => some (lid l 5)
  | 2, 0 => some (lid l 6)
  | 2, 1 => some (lid l 7)
  | 2, 2 => some (lid l 8)
  | _, _ => none
def gr (i k : Nat) : Option Nat := if i < 1000 then gr0 i k else grL ((i - 1000) / 10) ((i - 1000) % 10) k
def vq_fk : Nat → List Nat
  | 0 => [2, 2, 2, 2, 2, 0, 0]
  | 1 => [2, 2, 0, 0, 0, 0, 0, 0, 0, 1, 1]
  | 2 => [2, 2, 2, 2, 2, 2, 0]
  | 3 => [2, 2, 2, 0, 0]
  | 4 => [2, 2, 2, 2, 2, 0, 0, 0]
  | 5 => [2, 2, 1, 0, 0]
  | 6 => [2, 2, 2, 2, 0]
  | 7 => [2, 2, 2, 0]
  | 8 => [2, 0]
  | 9 => [2, 2, 2, 2, 2, 2]
  | 10 => [0, 0, 1, 0, 2, 2, 2, 2, 2, 2, 2, 2, 2, 2, 2, 2, 2, 2, 2, 2, 2, 2, 0, 0, 2, 2, 2, 0, 2, 2, 2, 2, 2, 2, 0, 2, 2, 2, 2, 2, 0, 0, 2, 2, 2, 0, 2, 2, 2, 2, 2, 0, 0]
  | _ => []
def vq_fix : List Nat := [0, 1, 2, 3, 4, 5, 6, 30, 90, 204, 205, 206, 207, 208, 209, 210, 211, 212, 213, 214, 215, 216, 217, 218, 219, 220, 221, 224, 225, 226, 228, 229, 230, 231, 232, 233, 235, 236, 237, 238, 239, 242, 243, 244, 246, 247, 248, 249, 250, 321, 330, 340, 341, 342, 343, 350, 351, 352, 353, 354, 355, 360, 361, 362, 363, 364]
def vq_ids (n : Nat) : List Nat := vq_fix ++ (List.range n).flatMap (fun l => (List.range 9).map (fun j => lid l j))
/-- the cell i is there, of kind c -/
def vq_is (n i c : Nat) : Prop := i ∈ vq_ids n ∧ gk i = c
theorem vq_isF (n i : Nat) {c : Nat} (h : vq_fix.contains i = true) (hc : gk i = c) : vq_is n i c := ⟨List.mem_append_left _ (List.contains_iff_mem.mp h), hc⟩
theorem gk_lid (l j : Nat) (hj : j < 9) : gk (lid l j) = gkL j := by
  unfold gk lid
  rw [if_neg (by omega), show (1000 + 10 * l + j - 1000) % 10 = j by omega]
theorem gr_lid (l j k : Nat) (hj : j < 9) : gr (lid l j) k = grL l j k := by
  unfold gr lid
  rw [if_neg (by omega), show (1000 + 10 * l + j - 1000) / 10 = l by omega, show (1000 + 10 * l + j - 1000) % 10 = j by omega]
theorem gl_lid (n l j : Nat) : gl n (lid l j) = 24 := by
  unfold gl lid
  rw [if_neg (by omega)]
  unfold gl0
  split <;> first | omega | rfl
theorem vq_isL {n l : Nat} (hl : l < n) (j : Nat) {c : Nat} (hj : j < 9) (hc : gkL j = c) : vq_is n (lid l j) c :=
  ⟨List.mem_append_right _ (List.mem_flatMap.mpr ⟨l, List.mem_range.mpr hl, List.mem_map.mpr ⟨j, List.mem_range.mpr hj, rfl⟩⟩), (gk_lid l j hj).trans hc⟩
theorem is_0 (n : Nat) : vq_is n 0 9 := vq_isF n 0 rfl rfl
theorem is_1 (n : Nat) : vq_is n 1 4 := vq_isF n 1 rfl rfl
theorem is_2 (n : Nat) : vq_is n 2 5 := vq_isF n 2 rfl rfl
theorem is_3 (n : Nat) : vq_is n 3 8 := vq_isF n 3 rfl rfl
theorem is_4 (n : Nat) : vq_is n 4 6 := vq_isF n 4 rfl rfl
theorem is_5 (n : Nat) : vq_is n 5 2 := vq_isF n 5 rfl rfl
theorem is_6 (n : Nat) : vq_is n 6 0 := vq_isF n 6 rfl rfl
theorem is_30 (n : Nat) : vq_is n 30 10 := vq_isF n 30 rfl rfl
theorem is_90 (n : Nat) : vq_is n 90 21 := vq_isF n 90 rfl rfl
theorem is_204 (n : Nat) : vq_is n 204 20 := vq_isF n 204 rfl rfl
theorem is_205 (n : Nat) : vq_is n 205 20 := vq_isF n 205 rfl rfl
theorem is_206 (n : Nat) : vq_is n 206 20 := vq_isF n 206 rfl rfl
theorem is_207 (n : Nat) : vq_is n 207 20 := vq_isF n 207 rfl rfl
theorem is_208 (n : Nat) : vq_is n 208 20 := vq_isF n 208 rfl rfl
theorem is_209 (n : Nat) : vq_is n 209 20 := vq_isF n 209 rfl rfl
theorem is_210 (n : Nat) : vq_is n 210 20 := vq_isF n 210 rfl rfl
theorem is_211 (n : Nat) : vq_is n 211 20 := vq_isF n 211 rfl rfl
theorem is_212 (n : Nat) : vq_is n 212 20 := vq_isF n 212 rfl rfl
theorem is_213 (n : Nat) : vq_is n 213 20 := vq_isF n 213 rfl rfl
theorem is_214 (n : Nat) : vq_is n 214 22 := vq_isF n 214 rfl rfl
theorem is_215 (n : Nat) : vq_is n 215 20 := vq_isF n 215 rfl rfl
theorem is_216 (n : Nat) : vq_is n 216 20 := vq_isF n 216 rfl rfl
theorem is_217 (n : Nat) : vq_is n 217 20 := vq_isF n 217 rfl rfl
theorem is_218 (n : Nat) : vq_is n 218 21 := vq_isF n 218 rfl rfl
theorem is_219 (n : Nat) : vq_is n 219 21 := vq_isF n 219 rfl rfl
theorem is_220 (n : Nat) : vq_is n 220 21 := vq_isF n 220 rfl rfl
theorem is_221 (n : Nat) : vq_is n 221 21 := vq_isF n 221 rfl rfl
theorem is_224 (n : Nat) : vq_is n 224 20 := vq_isF n 224 rfl rfl
theorem is_225 (n : Nat) : vq_is n 225 21 := vq_isF n 225 rfl rfl
theorem is_226 (n : Nat) : vq_is n 226 20 := vq_isF n 226 rfl rfl
theorem is_228 (n : Nat) : vq_is n 228 20 := vq_isF n 228 rfl rfl
theorem is_229 (n : Nat) : vq_is n 229 20 := vq_isF n 229 rfl rfl
theorem is_230 (n : Nat) : vq_is n 230 20 := vq_isF n 230 rfl rfl
theorem is_231 (n : Nat) : vq_is n 231 22 := vq_isF n 231 rfl rfl
theorem is_232 (n : Nat) : vq_is n 232 20 := vq_isF n 232 rfl rfl
theorem is_233 (n : Nat) : vq_is n 233 20 := vq_isF n 233 rfl rfl
theorem is_235 (n : Nat) : vq_is n 235 20 := vq_isF n 235 rfl rfl
theorem is_236 (n : Nat) : vq_is n 236 20 := vq_isF n 236 rfl rfl
theorem is_237 (n : Nat) : vq_is n 237 20 := vq_isF n 237 rfl rfl
theorem is_238 (n : Nat) : vq_is n 238 20 := vq_isF n 238 rfl rfl
theorem is_239 (n : Nat) : vq_is n 239 20 := vq_isF n 239 rfl rfl
theorem is_242 (n : Nat) : vq_is n 242 20 := vq_isF n 242 rfl rfl
theorem is_243 (n : Nat) : vq_is n 243 20 := vq_isF n 243 rfl rfl
theorem is_244 (n : Nat) : vq_is n 244 20 := vq_isF n 244 rfl rfl
theorem is_246 (n : Nat) : vq_is n 246 20 := vq_isF n 246 rfl rfl
theorem is_247 (n : Nat) : vq_is n 247 20 := vq_isF n 247 rfl rfl
theorem is_248 (n : Nat) : vq_is n 248 20 := vq_isF n 248 rfl rfl
theorem is_249 (n : Nat) : vq_is n 249 20 := vq_isF n 249 rfl rfl
theorem is_250 (n : Nat) : vq_is n 250 22 := vq_isF n 250 rfl rfl
theorem is_321 (n : Nat) : vq_is n 321 23 := vq_isF n 321 rfl rfl
theorem is_330 (n : Nat) : vq_is n 330 20 := vq_isF n 330 rfl rfl
theorem is_340 (n : Nat) : vq_is n 340 20 := vq_isF n 340 rfl rfl
theorem is_341 (n : Nat) : vq_is n 341 20 := vq_isF n 341 rfl rfl
theorem is_342 (n : Nat) : vq_is n 342 20 := vq_isF n 342 rfl rfl
theorem is_343 (n : Nat) : vq_is n 343 20 := vq_isF n 343 rfl rfl
theorem is_350 (n : Nat) : vq_is n 350 20 := vq_isF n 350 rfl rfl
theorem is_351 (n : Nat) : vq_is n 351 20 := vq_isF n 351 rfl rfl
theorem is_352 (n : Nat) : vq_is n 352 20 := vq_isF n 352 rfl rfl
theorem is_353 (n : Nat) : vq_is n 353 22 := vq_isF n 353 rfl rfl
theorem is_354 (n : Nat) : vq_is n 354 20 := vq_isF n 354 rfl rfl
theorem is_355 (n : Nat) : vq_is n 355 20 := vq_isF n 355 rfl rfl
theorem is_360 (n : Nat) : vq_is n 360 20 := vq_isF n 360 rfl rfl
theorem is_361 (n : Nat) : vq_is n 361 20 := vq_isF n 361 rfl rfl
theorem is_362 (n : Nat) : vq_is n 362 20 := vq_isF n 362 rfl rfl
theorem is_363 (n : Nat) : vq_is n 363 20 := vq_isF n 363 rfl rfl
theorem is_364 (n : Nat) : vq_is n 364 20 := vq_isF n 364 rfl rfl
end
section
/-! ===== a method's body over the memory by numbers: VP (at a place of the body), VM (a method's contract) ===== -/
def vq_tr (a : Nat → Nat) : Value → Value
  | .ref i => .ref (a i)
  | v => v
def vq_t2 (a : Nat → Nat) (q : Nat × Value) : Nat × Value := (q.1, vq_tr a q.2)
abbrev vq_S : Type := ClassId × ClassId × ClassId × ClassId
def vq_val (a : Nat → Nat) (I : MI) (L : ML) (i kd k : Nat) : Value := if kd = 0 then .int (I i k) else if kd = 1 then .long (L i k) else va_rf ((gr i k).map a)
def vq_fl (a : Nat → Nat) (I : MI) (L : ML) (i : Nat) : List Nat → Nat → List Value
  | [], _ => []
  | kd :: r, k => vq_val a I L i kd k :: vq_fl a I L i r (k + 1)
theorem vq_fl_get {a : Nat → Nat} {I : MI} {L : ML} {i : Nat} : ∀ (ks : List Nat) (k0 j : Nat) {kd : Nat}, ks[j]? = some kd → (vq_fl a I L i ks k0)[j]? = some (vq_val a I L i kd (k0 + j))
  | [], _, _, _, h => by simp at h
  | x :: r, k0, 0, kd, h => by
    simp only [List.getElem?_cons_zero, Option.some.injEq] at h
    subst h
    rfl
  | x :: r, k0, j + 1, kd, h => by
    simp only [List.getElem?_cons_succ] at h
    have := vq_fl_get (a := a) (I := I) (L := L) (i := i) r (k0 + 1) j h
    simp only [vq_fl, List.getElem?_cons_succ]
    rw [this, show k0 + 1 + j = k0 + (j + 1) by omega]
theorem vq_fl_len {a : Nat → Nat} {I : MI} {L : ML} {i : Nat} : ∀ (ks : List Nat) (k0 : Nat), (vq_fl a I L i ks k0).length = ks.length
  | [], _ => rfl
  | x :: r, k0 => by simp only [vq_fl, List.length_cons, vq_fl_len r]
def upI (I : MI) (i j : Nat) (v : Int32) : MI := fun x y => if x = i ∧ y = j then v else I x y
def upL (L : ML) (i j : Nat) (v : Int64) : ML := fun x y => if x = i ∧ y = j then v else L x y
theorem vq_fl_setI {a : Nat → Nat} {I : MI} {L : ML} {i : Nat} {v : Int32} : ∀ (ks : List Nat) (k0 j : Nat), ks[j]? = some 0 → (vq_fl a I L i ks k0).set j (.int v) = vq_fl a (upI I i (k0 + j) v) L i ks k0
  | [], _, _, h => by simp at h
  | x :: r, k0, j, h => by
    have key : ∀ (ks : List Nat) (k1 k2 : Nat), k1 < k2 → vq_fl a I L i ks k2 = vq_fl a (upI I i k1 v) L i ks k2 := by
      intro ks
      induction ks with
      | nil => intro _ _ _; rfl
      | cons y ys ih =>
        intro k1 k2 hk
        simp only [vq_fl]
        rw [ih k1 (k2 + 1) (by omega)]
        simp only [vq_val, upI, true_and]
        rw [if_neg (show ¬ k2 = k1 by omega)]
    match j, h with
    | 0, h =>
      simp only [List.getElem?_cons_zero, Option.some.injEq] at h
      subst h
      simp only [vq_fl, List.set_cons_zero, Nat.add_zero]
      rw [← key r k0 (k0 + 1) (by omega)]
      simp [vq_val, upI]
    | j + 1, h =>
      simp only [List.getElem?_cons_succ] at h
      simp only [vq_fl, List.set_cons_succ]
      rw [vq_fl_setI r (k0 + 1) j h, show k0 + 1 + j = k0 + (j + 1) by omega]
      simp only [vq_val, upI, true_and]
      rw [if_neg (show ¬ k0 = k0 + (j + 1) by omega)]
theorem vq_fl_setL {a : Nat → Nat} {I : MI} {L : ML} {i : Nat} {v : Int64} : ∀ (ks : List Nat) (k0 j : Nat), ks[j]? = some 1 → (vq_fl a I L i ks k0).set j (.long v) = vq_fl a I (upL L i (k0 + j) v) i ks k0
  | [], _, _, h => by simp at h
  | x :: r, k0, j, h => by
    have key : ∀ (ks : List Nat) (k1 k2 : Nat), k1 < k2 → vq_fl a I L i ks k2 = vq_fl a I (upL L i k1 v) i ks k2 := by
      intro ks
      induction ks with
      | nil => intro _ _ _; rfl
      | cons y ys ih =>
        intro k1 k2 hk
        simp only [vq_fl]
        rw [ih k1 (k2 + 1) (by omega)]
        simp only [vq_val, upL, true_and]
        rw [if_neg (show ¬ k2 = k1 by omega)]
    match j, h with
    | 0, h =>
      simp only [List.getElem?_cons_zero, Option.some.injEq] at h
      subst h
      simp only [vq_fl, List.set_cons_zero, Nat.add_zero]
      rw [← key r k0 (k0 + 1) (by omega)]
      simp [vq_val, upL]
    | j + 1, h =>
      simp only [List.getElem?_cons_succ] at h
      simp only [vq_fl, List.set_cons_succ]
      rw [vq_fl_setL r (k0 + 1) j h, show k0 + 1 + j = k0 + (j + 1) by omega]
      simp only [vq_val, upL, true_and]
      rw [if_neg (show ¬ k0 = k0 + (j + 1) by omega)]
theorem vq_fl_other {a : Nat → Nat} {I I' : MI} {L L' : ML} {i : Nat} (hI : I' i = I i) (hL : L' i = L i) : ∀ (ks : List Nat) (k0 : Nat), vq_fl a I' L' i ks k0 = vq_fl a I L i ks k0
  | [], _ => rfl
  | x :: r, k0 => by
    simp only [vq_fl, vq_val, hI, hL]
    rw [vq_fl_other hI hL r]
def vq_ct (n : Nat) (a : Nat → Nat) (cs : vq_S) (I : MI) (L : ML) (i : Nat) : va_E :=
  if gk i = 20 then .inl (cs.1, gl n i, .inl (I i)) else
  if gk i = 21 then .inl (cs.2.1, gl n i, .inr (.inl (L i))) else
  if gk i = 22 then .inl (cs.2.2.1, gl n i, .inl (I i)) else
  if gk i = 23 then .inl (cs.2.2.2, gl n i, .inr (.inr (.inr (.inr (fun j => (gr i j).map a))))) else
  .inr (gk i, vq_fl a I L i (vq_fk (gk i)) 0)
theorem vq_ct_other {n : Nat} {a : Nat → Nat} {cs : vq_S} {I I' : MI} {L L' : ML} {i : Nat} (hI : I' i = I i) (hL : L' i = L i) : vq_ct n a cs I' L' i = vq_ct n a cs I L i := by
  simp only [vq_ct, hI, hL, vq_fl_other hI hL]
def vq_W (n : Nat) (a : Nat → Nat) (cs : vq_S) (I : MI) (L : ML) : va_W := (vq_ids n).map (fun i => (a i, vq_ct n a cs I L i))
theorem vq_set {A : Nat → Prop} {ids : List Nat} {a : Nat → Nat} {f g : Nat → va_E} {k i : Nat} (hD : va_D A (ids.map (fun j => (a j, f j)))) (hk : ids[k]? = some i) (hg : ∀ j, j ≠ i → g j = f j) : (ids.map (fun j => (a j, f j))).set k (a i, g i) = ids.map (fun j => (a j, g j)) := by
  have h0 : (ids.map (fun j => (a j, f j)))[k]? = some (a i, f i) := by rw [List.getElem?_map, hk]; rfl
  apply List.ext_getElem?
  intro q
  by_cases hq : q = k
  · subst hq
    rw [List.getElem?_set_self (by rw [List.length_map]; exact (List.getElem?_eq_some_iff.mp hk).1), List.getElem?_map, hk]
    rfl
  · rw [List.getElem?_set_ne (fun h => hq h.symm), List.getElem?_map, List.getElem?_map]
    cases hj : ids[q]? with
    | none => rfl
    | some j =>
      simp only [Option.map_some]
      have hne : j ≠ i := fun h => by
        subst h
        exact hq (hD.1 q k _ _ (by rw [List.getElem?_map, hj]; rfl) h0 rfl)
      rw [hg j hne]
abbrev vq_ty (cs : vq_S) : List (ClassId × FieldType) := [(cs.1, .int), (cs.2.1, .long), (cs.2.2.1, .boolean), (cs.2.2.2, .object "LoopGroup$Loop")]
/-- what throws need of the start: the two statics of Throwable, the texts -/
def vq_txt : List (String × Nat × String) := []
def vq_E (A : Nat → Prop) (U : State) (H : Heap) : Prop := vx_Zq Bundle.tN "UNASSIGNED_STACK" Bundle.steD A U H ∧ vx_Zq Bundle.tN "SUPPRESSED_SENTINEL" Bundle.listD A U H
abbrev vq_rm (d K : Nat) : Room := { frames := d, cells := K, slots := 6 * K, locals := 64 * d }
def vq_at (n : Nat) (a : Nat → Nat) (cs : vq_S) (D : va_G) (A : Nat → Prop) (I : MI) (L : ML) (t : State) : Prop := va_P D vwCl (vq_W n a cs I L) t.heap ∧ va_K D vwCl (vq_ty cs) t ∧ va_D A (vq_W n a cs I L)
abbrev vq_R : Type := Option Value → MI → ML → Prop
abbrev vq_RX : Type := String → MI → ML → Prop
def vq_Qc (rt : Option FieldType) (n : Nat) (a : Nat → Nat) (cs : vq_S) (D : va_G) (A : Nat → Prop) (Q : vq_R) : Array Value → State → Outcome → State → Prop := match rt with
  | none => va_Qv (fun u : MI × ML => Q none u.1 u.2) (fun u t => vq_at n a cs D A u.1 u.2 t) A
  | some .long => va_Ql (fun (r : Int64) (u : MI × ML) => Q (some (.long r)) u.1 u.2) (fun u t => vq_at n a cs D A u.1 u.2 t) A
  | some _ => va_Qi (fun (r : Int32) (u : MI × ML) => Q (some (.int r)) u.1 u.2) (fun u t => vq_at n a cs D A u.1 u.2 t) A
def vq_XC (n : Nat) (a : Nat → Nat) (cs : vq_S) (D : va_G) (A : Nat → Prop) (QX : vq_RX) : String → State → State → Prop := vx_X (fun _ : MI × ML => True) (fun E u t => QX E u.1 u.2 ∧ vq_at n a cs D A u.1 u.2 t) A
def vq_C (n : Nat) (y : vq_M) (a : Nat → Nat) (cs : vq_S) (D : va_G) (A : Nat → Prop) (p : Program) (s : State) (m : MethodId) (args : Array Value) (meth : Method) (c : Code) : Prop :=
  p.tables.exec = Jvm.exec ∧ c.code = y.2.1 ∧ meth.sig.returnType = y.2.2.2 ∧ c.maxLocals = y.2.2.1 ∧ s.vm.findClass y.1.cls = some m.cls ∧ (∀ w ∈ WS, w.before args s = true) ∧ meth.locks = false ∧ (∀ x ∈ c.exceptionTable.toList, False) ∧ va_K D vwCl (vq_ty cs) s ∧ vq_E A s s.heap ∧ (∀ q, s.heap.size ≤ q → A q)
/-- at the place pc of y's body, with these locals, stack and memory, k cells used: it comes to an end with Q, or throws with QX -/
def VP (l : Launch) (n : Nat) (y : vq_M) (d K : Nat) (Q : vq_R) (QX : vq_RX) (k pc : Nat) (lv : List (Nat × Value)) (st : List Value) (I : MI) (L : ML) : Prop :=
  ∀ (p : Program) (e : Env) (s : State) (m : MethodId) (args : Array Value) (below : List Frame) (meth : Method) (c : Code) (a : Nat → Nat) (cs : vq_S) (D : va_G) (A : Nat → Prop) (H : Heap) (locs : List Loc) (ls : Array Slot),
    vq_C n y a cs D A p s m args meth c → va_P D vwCl (vq_W n a cs I L) H → va_D A (vq_W n a cs I L) → va_S A s.heap H locs → lv_has ls y.2.2.1 (lv.map (vq_t2 a)) →
    W p l e (vq_rm d K) s m args below meth c H locs k (6 * k) (vx_MQ below (vq_Qc y.2.2.2 n a cs D A Q) (vq_XC n a cs D A QX) args s K (6 * K) A) (F0 m pc ls (st.map (vq_tr a)))
def vq_Pc (n : Nat) (a : Nat → Nat) (cs : vq_S) (D : va_G) (sz : Nat) (av : List Value) (I : MI) (L : ML) : Array Value → State → Prop := va_Pc (av.map (vq_tr a)) (fun U => U.heap.size = sz ∧ vq_at n a cs D (fun _ => True) I L U ∧ vq_E (va_A (vq_W n a cs I L) sz) U U.heap)
/-- y's contract: with these arguments and this memory it ends with Q, or throws with QX -/
def VM (l : Launch) (n : Nat) (y : vq_M) (d K : Nat) (av : List Value) (I : MI) (L : ML) (Q : vq_R) (QX : vq_RX) : Prop :=
  ∀ (a : Nat → Nat) (cs : vq_S) (D : va_G) (sz : Nat), vx_Met l y.1 (Cond.code y.1 y.2.1 y.2.2.1 y.2.2.2 :: WS) (vq_rm d K) (vq_Pc n a cs D sz av I L) (vq_Qc y.2.2.2 n a cs D (va_A (vq_W n a cs I L) sz) Q) (vq_XC n a cs D (va_A (vq_W n a cs I L) sz) QX) K (6 * K) (va_A (vq_W n a cs I L) sz)
theorem vq_lvm {a : Nat → Nat} {ls : Array Slot} {nL i : Nat} {v : Value} {lv : List (Nat × Value)} (h : lv_has ls nL (lv.map (vq_t2 a))) (hi : (i, v) ∈ lv) : ls[i]? = some (.val (vq_tr a v)) := h.2.2 (i, vq_tr a v) (List.mem_map.mpr ⟨(i, v), hi, rfl⟩)
/-- the value of a local -/
def vq_lk : List (Nat × Value) → Nat → Option Value
  | [], _ => none
  | (j, v) :: r, i => if j = i then some v else vq_lk r i
theorem vq_lk_mem {i : Nat} {v : Value} : ∀ {lv : List (Nat × Value)}, vq_lk lv i = some v → (i, v) ∈ lv
  | [], h => by cases h
  | (j, w) :: r, h => by
    simp only [vq_lk] at h
    split at h
    · rename_i hj
      subst hj
      cases h
      exact List.mem_cons_self
    · exact List.mem_cons_of_mem _ (vq_lk_mem h)
theorem vq_lkm {a : Nat → Nat} {ls : Array Slot} {nL i : Nat} {v : Value} {lv : List (Nat × Value)} (h : lv_has ls nL (lv.map (vq_t2 a))) (hi : vq_lk lv i = some v) : ls[i]? = some (.val (vq_tr a v)) := vq_lvm h (vq_lk_mem hi)
theorem vq_cat (a : Nat → Nat) (v : Value) : (vq_tr a v).category = v.category := by cases v <;> rfl
theorem vq_filt (a : Nat → Nat) (f : Nat → Nat → Bool) (lv : List (Nat × Value)) : (lv.map (vq_t2 a)).filter (fun q => f q.1 q.2.category) = (lv.filter (fun q => f q.1 q.2.category)).map (vq_t2 a) := by
  rw [List.filter_map]
  congr 1
  apply List.filter_congr
  intro x hx
  simp only [Function.comp, vq_t2, vq_cat]
end
section
section VPR
variable {l : Launch} {n : Nat} {y : vq_M} {d K : Nat} {Q : vq_R} {QX : vq_RX} {k pc : Nat} {lv lv' : List (Nat × Value)} {st : List Value} {I : MI} {L : ML}
/-- fewer locals -/
theorem q_lv (lv' : List (Nat × Value)) (h : ∀ q ∈ lv', q ∈ lv) (kk : VP l n y d K Q QX k pc lv' st I L) : VP l n y d K Q QX k pc lv st I L := by
  intro p e s m args below meth c a cs D A H locs ls C hP hD hS hl
  refine kk p e s m args below meth c a cs D A H locs ls C hP hD hS ⟨hl.1, hl.2.1, fun q hq => ?_⟩
  obtain ⟨x, hx, rfl⟩ := List.mem_map.mp hq
  exact hl.2.2 _ (List.mem_map.mpr ⟨x, h x hx, rfl⟩)
theorem q_iconst {z : Int} (v : Int32) (hd : decode y.2.1 pc = .ok (.iconst z, 1)) (hv : Int32.ofInt z = v) (kk : VP l n y d K Q QX k (pc + 1) lv (.int v :: st) I L) : VP l n y d K Q QX k pc lv st I L := by
  intro p e s m args below meth c a cs D A H locs ls C hP hD hS hl
  exact lv_iconst C.1 C.2.1 hd hv (kk p e s m args below meth c a cs D A H locs ls C hP hD hS hl)
theorem q_bipush {z : Int} (v : Int32) (hd : decode y.2.1 pc = .ok (.bipush z, 2)) (hv : (Int8.ofInt z).toInt32 = v) (kk : VP l n y d K Q QX k (pc + 2) lv (.int v :: st) I L) : VP l n y d K Q QX k pc lv st I L := by
  intro p e s m args below meth c a cs D A H locs ls C hP hD hS hl
  exact lv_bipush C.1 C.2.1 hd hv (kk p e s m args below meth c a cs D A H locs ls C hP hD hS hl)
theorem q_sipush {z : Int} (v : Int32) (hd : decode y.2.1 pc = .ok (.sipush z, 3)) (hv : (Int16.ofInt z).toInt32 = v) (kk : VP l n y d K Q QX k (pc + 3) lv (.int v :: st) I L) : VP l n y d K Q QX k pc lv st I L := by
  intro p e s m args below meth c a cs D A H locs ls C hP hD hS hl
  exact lv_sipush C.1 C.2.1 hd hv (kk p e s m args below meth c a cs D A H locs ls C hP hD hS hl)
theorem q_lconst {z : Fin 2} (v : Int64) (hd : decode y.2.1 pc = .ok (.lconst z, 1)) (hv : Int64.ofNat (z : Nat) = v) (kk : VP l n y d K Q QX k (pc + 1) lv (.long v :: st) I L) : VP l n y d K Q QX k pc lv st I L := by
  intro p e s m args below meth c a cs D A H locs ls C hP hD hS hl
  exact lv_lconst C.1 C.2.1 hd hv (kk p e s m args below meth c a cs D A H locs ls C hP hD hS hl)
theorem q_ldc {own : String} {ix : Nat} {v : Int32} (hw : Cond.constant own ix v ∈ WS) (ho : y.1.cls = own) (hd : decode y.2.1 pc = .ok (.ldc ix, 2)) (kk : VP l n y d K Q QX k (pc + 2) lv (.int v :: st) I L) : VP l n y d K Q QX k pc lv st I L := by
  intro p e s m args below meth c a cs D A H locs ls C hP hD hS hl
  exact lv_ldc C.1 C.2.1 (ho ▸ C.2.2.2.2.1) (C.2.2.2.2.2.1 _ hw) hd (kk p e s m args below meth c a cs D A H locs ls C hP hD hS hl)
theorem q_ldc2 {own : String} {ix : Nat} {v : Int64} (hw : Cond.constantLong own ix v ∈ WS) (ho : y.1.cls = own) (hd : decode y.2.1 pc = .ok (.ldc2_w ix, 3)) (kk : VP l n y d K Q QX k (pc + 3) lv (.long v :: st) I L) : VP l n y d K Q QX k pc lv st I L := by
  intro p e s m args below meth c a cs D A H locs ls C hP hD hS hl
  exact lv_ldc2 C.1 C.2.1 (ho ▸ C.2.2.2.2.1) (C.2.2.2.2.2.1 _ hw) hd (kk p e s m args below meth c a cs D A H locs ls C hP hD hS hl)
theorem q_iload {i : Nat} {v : Int32} (hd : decode y.2.1 pc = .ok (.iload i, 2)) (hi : vq_lk lv i = some (.int v)) (kk : VP l n y d K Q QX k (pc + 2) lv (.int v :: st) I L) : VP l n y d K Q QX k pc lv st I L := by
  intro p e s m args below meth c a cs D A H locs ls C hP hD hS hl
  exact lv_iload C.1 C.2.1 hd (vq_lkm hl hi) (kk p e s m args below meth c a cs D A H locs ls C hP hD hS hl)
theorem q_iload_n {i : Fin 4} {v : Int32} (hd : decode y.2.1 pc = .ok (.iload_n i, 1)) (hi : vq_lk lv i.1 = some (.int v)) (kk : VP l n y d K Q QX k (pc + 1) lv (.int v :: st) I L) : VP l n y d K Q QX k pc lv st I L := by
  intro p e s m args below meth c a cs D A H locs ls C hP hD hS hl
  exact lv_iload_n C.1 C.2.1 hd rfl (vq_lkm hl hi) (kk p e s m args below meth c a cs D A H locs ls C hP hD hS hl)
theorem q_lload {i : Nat} {v : Int64} (hd : decode y.2.1 pc = .ok (.lload i, 2)) (hi : vq_lk lv i = some (.long v)) (kk : VP l n y d K Q QX k (pc + 2) lv (.long v :: st) I L) : VP l n y d K Q QX k pc lv st I L := by
  intro p e s m args below meth c a cs D A H locs ls C hP hD hS hl
  exact lv_lload C.1 C.2.1 hd (vq_lkm hl hi) (kk p e s m args below meth c a cs D A H locs ls C hP hD hS hl)
theorem q_lload_n {i : Fin 4} {v : Int64} (hd : decode y.2.1 pc = .ok (.lload_n i, 1)) (hi : vq_lk lv i.1 = some (.long v)) (kk : VP l n y d K Q QX k (pc + 1) lv (.long v :: st) I L) : VP l n y d K Q QX k pc lv st I L := by
  intro p e s m args below meth c a cs D A H locs ls C hP hD hS hl
  exact lv_lload_n C.1 C.2.1 hd rfl (vq_lkm hl hi) (kk p e s m args below meth c a cs D A H locs ls C hP hD hS hl)
theorem q_aload {i : Nat} {v : Nat} (hd : decode y.2.1 pc = .ok (.aload i, 2)) (hi : vq_lk lv i = some (.ref v)) (kk : VP l n y d K Q QX k (pc + 2) lv (.ref v :: st) I L) : VP l n y d K Q QX k pc lv st I L := by
  intro p e s m args below meth c a cs D A H locs ls C hP hD hS hl
  exact lv_aload C.1 C.2.1 hd (vq_lkm hl hi) (kk p e s m args below meth c a cs D A H locs ls C hP hD hS hl)
theorem q_aload_n {i : Fin 4} {v : Nat} (hd : decode y.2.1 pc = .ok (.aload_n i, 1)) (hi : vq_lk lv i.1 = some (.ref v)) (kk : VP l n y d K Q QX k (pc + 1) lv (.ref v :: st) I L) : VP l n y d K Q QX k pc lv st I L := by
  intro p e s m args below meth c a cs D A H locs ls C hP hD hS hl
  exact lv_aload_n C.1 C.2.1 hd rfl (vq_lkm hl hi) (kk p e s m args below meth c a cs D A H locs ls C hP hD hS hl)
theorem q_istore {i : Nat} {v : Int32} (lv' : List (Nat × Value)) (hd : decode y.2.1 pc = .ok (.istore i, 2)) (hn : i < y.2.2.1) (hl' : (i, Value.int v) :: lv.filter (fun q => !(q.1 == i) && !(q.1 + 1 == i && q.2.category == 2)) = lv') (kk : VP l n y d K Q QX k (pc + 2) lv' st I L) : VP l n y d K Q QX k pc lv (.int v :: st) I L := by
  intro p e s m args below meth c a cs D A H locs ls C hP hD hS hl
  subst hl'
  exact lv_istore C.1 C.2.1 hd hl hn (congrArg _ (vq_filt a (fun x z => !(x == i) && !(x + 1 == i && z == 2)) lv)) (fun ls' hl' => kk p e s m args below meth c a cs D A H locs ls' C hP hD hS hl')
theorem q_istore_n {i : Fin 4} {v : Int32} (lv' : List (Nat × Value)) (hd : decode y.2.1 pc = .ok (.istore_n i, 1)) (hn : i.1 < y.2.2.1) (hl' : (i.1, Value.int v) :: lv.filter (fun q => !(q.1 == i.1) && !(q.1 + 1 == i.1 && q.2.category == 2)) = lv') (kk : VP l n y d K Q QX k (pc + 1) lv' st I L) : VP l n y d K Q QX k pc lv (.int v :: st) I L := by
  intro p e s m args below meth c a cs D A H locs ls C hP hD hS hl
  subst hl'
  exact lv_istore_n C.1 C.2.1 hd rfl hl hn (congrArg _ (vq_filt a (fun x z => !(x == i.1) && !(x + 1 == i.1 && z == 2)) lv)) (fun ls' hl' => kk p e s m args below meth c a cs D A H locs ls' C hP hD hS hl')
theorem q_lstore {i : Nat} {v : Int64} (lv' : List (Nat × Value)) (hd : decode y.2.1 pc = .ok (.lstore i, 2)) (hn : i + 1 < y.2.2.1) (hl' : (i, Value.long v) :: lv.filter (fun q => !(q.1 == i) && (!(q.1 == i + 1) && !(q.1 + 1 == i && q.2.category == 2))) = lv') (kk : VP l n y d K Q QX k (pc + 2) lv' st I L) : VP l n y d K Q QX k pc lv (.long v :: st) I L := by
  intro p e s m args below meth c a cs D A H locs ls C hP hD hS hl
  subst hl'
  exact lv_lstore C.1 C.2.1 hd hl hn (congrArg _ (vq_filt a (fun x z => !(x == i) && (!(x == i + 1) && !(x + 1 == i && z == 2))) lv)) (fun ls' hl' => kk p e s m args below meth c a cs D A H locs ls' C hP hD hS hl')
theorem q_astore {i : Nat} {v : Nat} (lv' : List (Nat × Value)) (hd : decode y.2.1 pc = .ok (.astore i, 2)) (hn : i < y.2.2.1) (hl' : (i, Value.ref v) :: lv.filter (fun q => !(q.1 == i) && !(q.1 + 1 == i && q.2.category == 2)) = lv') (kk : VP l n y d K Q QX k (pc + 2) lv' st I L) : VP l n y d K Q QX k pc lv (.ref v :: st) I L := by
  intro p e s m args below meth c a cs D A H locs ls C hP hD hS hl
  subst hl'
  exact lv_astore C.1 C.2.1 hd hl hn (congrArg _ (vq_filt a (fun x z => !(x == i) && !(x + 1 == i && z == 2)) lv)) (fun ls' hl' => kk p e s m args below meth c a cs D A H locs ls' C hP hD hS hl')
theorem q_astore_n {i : Fin 4} {v : Nat} (lv' : List (Nat × Value)) (hd : decode y.2.1 pc = .ok (.astore_n i, 1)) (hn : i.1 < y.2.2.1) (hl' : (i.1, Value.ref v) :: lv.filter (fun q => !(q.1 == i.1) && !(q.1 + 1 == i.1 && q.2.category == 2)) = lv') (kk : VP l n y d K Q QX k (pc + 1) lv' st I L) : VP l n y d K Q QX k pc lv (.ref v :: st) I L := by
  intro p e s m args below meth c a cs D A H locs ls C hP hD hS hl
  subst hl'
  exact lv_astore_n C.1 C.2.1 hd rfl hl hn (congrArg _ (vq_filt a (fun x z => !(x == i.1) && !(x + 1 == i.1 && z == 2)) lv)) (fun ls' hl' => kk p e s m args below meth c a cs D A H locs ls' C hP hD hS hl')
theorem q_iinc {i : Nat} {z : Int} {x : Int32} (lv' : List (Nat × Value)) (v : Int32) (hd : decode y.2.1 pc = .ok (.iinc i z, 3)) (hi : vq_lk lv i = some (.int x)) (hv : x + Int32.ofInt z = v) (hn : i < y.2.2.1) (hl' : (i, Value.int v) :: lv.filter (fun q => !(q.1 == i) && !(q.1 + 1 == i && q.2.category == 2)) = lv') (kk : VP l n y d K Q QX k (pc + 3) lv' st I L) : VP l n y d K Q QX k pc lv st I L := by
  intro p e s m args below meth c a cs D A H locs ls C hP hD hS hl
  subst hl'
  obtain ⟨j, hj⟩ := List.getElem?_of_mem (vq_lk_mem hi)
  exact lv_iinc C.1 C.2.1 hd hl (k := j) (by rw [List.getElem?_map, hj]; rfl) hv hn (congrArg _ (vq_filt a (fun x z => !(x == i) && !(x + 1 == i && z == 2)) lv)) (fun ls' hl' => kk p e s m args below meth c a cs D A H locs ls' C hP hD hS hl')
theorem q_iadd {x z : Int32} (hd : decode y.2.1 pc = .ok (.iadd, 1)) (kk : VP l n y d K Q QX k (pc + 1) lv (.int (x + z) :: st) I L) : VP l n y d K Q QX k pc lv (.int z :: .int x :: st) I L := by
  intro p e s m args below meth c a cs D A H locs ls C hP hD hS hl
  exact lv_iadd C.1 C.2.1 hd (kk p e s m args below meth c a cs D A H locs ls C hP hD hS hl)
theorem q_isub {x z : Int32} (hd : decode y.2.1 pc = .ok (.isub, 1)) (kk : VP l n y d K Q QX k (pc + 1) lv (.int (x - z) :: st) I L) : VP l n y d K Q QX k pc lv (.int z :: .int x :: st) I L := by
  intro p e s m args below meth c a cs D A H locs ls C hP hD hS hl
  exact lv_isub C.1 C.2.1 hd (kk p e s m args below meth c a cs D A H locs ls C hP hD hS hl)
theorem q_imul {x z : Int32} (hd : decode y.2.1 pc = .ok (.imul, 1)) (kk : VP l n y d K Q QX k (pc + 1) lv (.int (x * z) :: st) I L) : VP l n y d K Q QX k pc lv (.int z :: .int x :: st) I L := by
  intro p e s m args below meth c a cs D A H locs ls C hP hD hS hl
  exact lv_imul C.1 C.2.1 hd (kk p e s m args below meth c a cs D A H locs ls C hP hD hS hl)
theorem q_iand {x z : Int32} (hd : decode y.2.1 pc = .ok (.iand, 1)) (kk : VP l n y d K Q QX k (pc + 1) lv (.int (x &&& z) :: st) I L) : VP l n y d K Q QX k pc lv (.int z :: .int x :: st) I L := by
  intro p e s m args below meth c a cs D A H locs ls C hP hD hS hl
  exact lv_iand C.1 C.2.1 hd (kk p e s m args below meth c a cs D A H locs ls C hP hD hS hl)
theorem q_ixor {x z : Int32} (hd : decode y.2.1 pc = .ok (.ixor, 1)) (kk : VP l n y d K Q QX k (pc + 1) lv (.int (x ^^^ z) :: st) I L) : VP l n y d K Q QX k pc lv (.int z :: .int x :: st) I L := by
  intro p e s m args below meth c a cs D A H locs ls C hP hD hS hl
  exact lv_ixor C.1 C.2.1 hd (kk p e s m args below meth c a cs D A H locs ls C hP hD hS hl)
theorem q_irem {x z : Int32} (hd : decode y.2.1 pc = .ok (.irem, 1)) (hz : ¬ z = 0) (kk : VP l n y d K Q QX k (pc + 1) lv (.int (x - x / z * z) :: st) I L) : VP l n y d K Q QX k pc lv (.int z :: .int x :: st) I L := by
  intro p e s m args below meth c a cs D A H locs ls C hP hD hS hl
  exact lv_irem C.1 C.2.1 hd hz (kk p e s m args below meth c a cs D A H locs ls C hP hD hS hl)
theorem q_ineg {x : Int32} (hd : decode y.2.1 pc = .ok (.ineg, 1)) (kk : VP l n y d K Q QX k (pc + 1) lv (.int (-x) :: st) I L) : VP l n y d K Q QX k pc lv (.int x :: st) I L := by
  intro p e s m args below meth c a cs D A H locs ls C hP hD hS hl
  exact lv_ineg C.1 C.2.1 hd (kk p e s m args below meth c a cs D A H locs ls C hP hD hS hl)
theorem q_ladd {x z : Int64} (hd : decode y.2.1 pc = .ok (.ladd, 1)) (kk : VP l n y d K Q QX k (pc + 1) lv (.long (x + z) :: st) I L) : VP l n y d K Q QX k pc lv (.long z :: .long x :: st) I L := by
  intro p e s m args below meth c a cs D A H locs ls C hP hD hS hl
  exact lv_ladd C.1 C.2.1 hd (kk p e s m args below meth c a cs D A H locs ls C hP hD hS hl)
theorem q_lsub {x z : Int64} (hd : decode y.2.1 pc = .ok (.lsub, 1)) (kk : VP l n y d K Q QX k (pc + 1) lv (.long (x - z) :: st) I L) : VP l n y d K Q QX k pc lv (.long z :: .long x :: st) I L := by
  intro p e s m args below meth c a cs D A H locs ls C hP hD hS hl
  exact lv_lsub C.1 C.2.1 hd (kk p e s m args below meth c a cs D A H locs ls C hP hD hS hl)
theorem q_i2l {x : Int32} (hd : decode y.2.1 pc = .ok (.i2l, 1)) (kk : VP l n y d K Q QX k (pc + 1) lv (.long x.toInt64 :: st) I L) : VP l n y d K Q QX k pc lv (.int x :: st) I L := by
  intro p e s m args below meth c a cs D A H locs ls C hP hD hS hl
  exact lv_i2l C.1 C.2.1 hd rfl (kk p e s m args below meth c a cs D A H locs ls C hP hD hS hl)
theorem q_lcmp {x z : Int64} (hd : decode y.2.1 pc = .ok (.lcmp, 1)) (kk : VP l n y d K Q QX k (pc + 1) lv (.int (lg_cmp x z) :: st) I L) : VP l n y d K Q QX k pc lv (.long z :: .long x :: st) I L := by
  intro p e s m args below meth c a cs D A H locs ls C hP hD hS hl
  exact W.lcmp C.1 C.2.1 hd (kk p e s m args below meth c a cs D A H locs ls C hP hD hS hl)
theorem q_dup {v : Value} (hd : decode y.2.1 pc = .ok (.dup, 1)) (hv : v.category = 1) (kk : VP l n y d K Q QX k (pc + 1) lv (v :: v :: st) I L) : VP l n y d K Q QX k pc lv (v :: st) I L := by
  intro p e s m args below meth c a cs D A H locs ls C hP hD hS hl
  exact lv_dup C.1 C.2.1 hd (by rw [vq_cat]; exact hv) (kk p e s m args below meth c a cs D A H locs ls C hP hD hS hl)
theorem q_pop {v : Value} (hd : decode y.2.1 pc = .ok (.pop, 1)) (hv : v.category = 1) (kk : VP l n y d K Q QX k (pc + 1) lv (st) I L) : VP l n y d K Q QX k pc lv (v :: st) I L := by
  intro p e s m args below meth c a cs D A H locs ls C hP hD hS hl
  exact lv_pop C.1 C.2.1 hd (by rw [vq_cat]; exact hv) (kk p e s m args below meth c a cs D A H locs ls C hP hD hS hl)
theorem q_dup2 {v w : Value} (hd : decode y.2.1 pc = .ok (.dup2, 1)) (hv : v.category = 1) (hw : w.category = 1) (kk : VP l n y d K Q QX k (pc + 1) lv (v :: w :: v :: w :: st) I L) : VP l n y d K Q QX k pc lv (v :: w :: st) I L := by
  intro p e s m args below meth c a cs D A H locs ls C hP hD hS hl
  exact lv_dup2_11 C.1 C.2.1 hd (by rw [vq_cat]; exact hv) (by rw [vq_cat]; exact hw) (kk p e s m args below meth c a cs D A H locs ls C hP hD hS hl)
theorem q_if_eq {x : Int32} {off : Int} (tgt : Nat) (hd : decode y.2.1 pc = .ok (.ifCond .eq off, 3)) (ht : (pc : Int) + off = (tgt : Int)) (kt : x = 0 → VP l n y d K Q QX k tgt lv st I L) (kf : ¬ (x = 0) → VP l n y d K Q QX k (pc + 3) lv st I L) : VP l n y d K Q QX k pc lv (.int x :: st) I L := by
  intro p e s m args below meth c a cs D A H locs ls C hP hD hS hl
  exact lv_if_eq C.1 C.2.1 hd ht (fun h => kt h p e s m args below meth c a cs D A H locs ls C hP hD hS hl) (fun h => kf h p e s m args below meth c a cs D A H locs ls C hP hD hS hl)
theorem q_icmp_eq {x z : Int32} {off : Int} (tgt : Nat) (hd : decode y.2.1 pc = .ok (.if_icmp .eq off, 3)) (ht : (pc : Int) + off = (tgt : Int)) (kt : x = z → VP l n y d K Q QX k tgt lv st I L) (kf : ¬ (x = z) → VP l n y d K Q QX k (pc + 3) lv st I L) : VP l n y d K Q QX k pc lv (.int z :: .int x :: st) I L := by
  intro p e s m args below meth c a cs D A H locs ls C hP hD hS hl
  exact lv_icmp_eq C.1 C.2.1 hd ht (fun h => kt h p e s m args below meth c a cs D A H locs ls C hP hD hS hl) (fun h => kf h p e s m args below meth c a cs D A H locs ls C hP hD hS hl)
theorem q_if_ne {x : Int32} {off : Int} (tgt : Nat) (hd : decode y.2.1 pc = .ok (.ifCond .ne off, 3)) (ht : (pc : Int) + off = (tgt : Int)) (kt : x ≠ 0 → VP l n y d K Q QX k tgt lv st I L) (kf : x = 0 → VP l n y d K Q QX k (pc + 3) lv st I L) : VP l n y d K Q QX k pc lv (.int x :: st) I L := by
  intro p e s m args below meth c a cs D A H locs ls C hP hD hS hl
  exact lv_if_ne C.1 C.2.1 hd ht (fun h => kt h p e s m args below meth c a cs D A H locs ls C hP hD hS hl) (fun h => kf h p e s m args below meth c a cs D A H locs ls C hP hD hS hl)
theorem q_icmp_ne {x z : Int32} {off : Int} (tgt : Nat) (hd : decode y.2.1 pc = .ok (.if_icmp .ne off, 3)) (ht : (pc : Int) + off = (tgt : Int)) (kt : x ≠ z → VP l n y d K Q QX k tgt lv st I L) (kf : x = z → VP l n y d K Q QX k (pc + 3) lv st I L) : VP l n y d K Q QX k pc lv (.int z :: .int x :: st) I L := by
  intro p e s m args below meth c a cs D A H locs ls C hP hD hS hl
  exact lv_icmp_ne C.1 C.2.1 hd ht (fun h => kt h p e s m args below meth c a cs D A H locs ls C hP hD hS hl) (fun h => kf h p e s m args below meth c a cs D A H locs ls C hP hD hS hl)
theorem q_if_lt {x : Int32} {off : Int} (tgt : Nat) (hd : decode y.2.1 pc = .ok (.ifCond .lt off, 3)) (ht : (pc : Int) + off = (tgt : Int)) (kt : x < 0 → VP l n y d K Q QX k tgt lv st I L) (kf : ¬ (x < 0) → VP l n y d K Q QX k (pc + 3) lv st I L) : VP l n y d K Q QX k pc lv (.int x :: st) I L := by
  intro p e s m args below meth c a cs D A H locs ls C hP hD hS hl
  exact lv_if_lt C.1 C.2.1 hd ht (fun h => kt h p e s m args below meth c a cs D A H locs ls C hP hD hS hl) (fun h => kf h p e s m args below meth c a cs D A H locs ls C hP hD hS hl)
theorem q_icmp_lt {x z : Int32} {off : Int} (tgt : Nat) (hd : decode y.2.1 pc = .ok (.if_icmp .lt off, 3)) (ht : (pc : Int) + off = (tgt : Int)) (kt : x < z → VP l n y d K Q QX k tgt lv st I L) (kf : ¬ (x < z) → VP l n y d K Q QX k (pc + 3) lv st I L) : VP l n y d K Q QX k pc lv (.int z :: .int x :: st) I L := by
  intro p e s m args below meth c a cs D A H locs ls C hP hD hS hl
  exact lv_icmp_lt C.1 C.2.1 hd ht (fun h => kt h p e s m args below meth c a cs D A H locs ls C hP hD hS hl) (fun h => kf h p e s m args below meth c a cs D A H locs ls C hP hD hS hl)
theorem q_if_ge {x : Int32} {off : Int} (tgt : Nat) (hd : decode y.2.1 pc = .ok (.ifCond .ge off, 3)) (ht : (pc : Int) + off = (tgt : Int)) (kt : 0 ≤ x → VP l n y d K Q QX k tgt lv st I L) (kf : ¬ (0 ≤ x) → VP l n y d K Q QX k (pc + 3) lv st I L) : VP l n y d K Q QX k pc lv (.int x :: st) I L := by
  intro p e s m args below meth c a cs D A H locs ls C hP hD hS hl
  exact lv_if_ge C.1 C.2.1 hd ht (fun h => kt h p e s m args below meth c a cs D A H locs ls C hP hD hS hl) (fun h => kf h p e s m args below meth c a cs D A H locs ls C hP hD hS hl)
theorem q_icmp_ge {x z : Int32} {off : Int} (tgt : Nat) (hd : decode y.2.1 pc = .ok (.if_icmp .ge off, 3)) (ht : (pc : Int) + off = (tgt : Int)) (kt : z ≤ x → VP l n y d K Q QX k tgt lv st I L) (kf : ¬ (z ≤ x) → VP l n y d K Q QX k (pc + 3) lv st I L) : VP l n y d K Q QX k pc lv (.int z :: .int x :: st) I L := by
  intro p e s m args below meth c a cs D A H locs ls C hP hD hS hl
  exact lv_icmp_ge C.1 C.2.1 hd ht (fun h => kt h p e s m args below meth c a cs D A H locs ls C hP hD hS hl) (fun h => kf h p e s m args below meth c a cs D A H locs ls C hP hD hS hl)
theorem q_if_gt {x : Int32} {off : Int} (tgt : Nat) (hd : decode y.2.1 pc = .ok (.ifCond .gt off, 3)) (ht : (pc : Int) + off = (tgt : Int)) (kt : 0 < x → VP l n y d K Q QX k tgt lv st I L) (kf : ¬ (0 < x) → VP l n y d K Q QX k (pc + 3) lv st I L) : VP l n y d K Q QX k pc lv (.int x :: st) I L := by
  intro p e s m args below meth c a cs D A H locs ls C hP hD hS hl
  exact lv_if_gt C.1 C.2.1 hd ht (fun h => kt h p e s m args below meth c a cs D A H locs ls C hP hD hS hl) (fun h => kf h p e s m args below meth c a cs D A H locs ls C hP hD hS hl)
theorem q_icmp_gt {x z : Int32} {off : Int} (tgt : Nat) (hd : decode y.2.1 pc = .ok (.if_icmp .gt off, 3)) (ht : (pc : Int) + off = (tgt : Int)) (kt : z < x → VP l n y d K Q QX k tgt lv st I L) (kf : ¬ (z < x) → VP l n y d K Q QX k (pc + 3) lv st I L) : VP l n y d K Q QX k pc lv (.int z :: .int x :: st) I L := by
  intro p e s m args below meth c a cs D A H locs ls C hP hD hS hl
  exact lv_icmp_gt C.1 C.2.1 hd ht (fun h => kt h p e s m args below meth c a cs D A H locs ls C hP hD hS hl) (fun h => kf h p e s m args below meth c a cs D A H locs ls C hP hD hS hl)
theorem q_if_le {x : Int32} {off : Int} (tgt : Nat) (hd : decode y.2.1 pc = .ok (.ifCond .le off, 3)) (ht : (pc : Int) + off = (tgt : Int)) (kt : x ≤ 0 → VP l n y d K Q QX k tgt lv st I L) (kf : ¬ (x ≤ 0) → VP l n y d K Q QX k (pc + 3) lv st I L) : VP l n y d K Q QX k pc lv (.int x :: st) I L := by
  intro p e s m args below meth c a cs D A H locs ls C hP hD hS hl
  exact lv_if_le C.1 C.2.1 hd ht (fun h => kt h p e s m args below meth c a cs D A H locs ls C hP hD hS hl) (fun h => kf h p e s m args below meth c a cs D A H locs ls C hP hD hS hl)
theorem q_icmp_le {x z : Int32} {off : Int} (tgt : Nat) (hd : decode y.2.1 pc = .ok (.if_icmp .le off, 3)) (ht : (pc : Int) + off = (tgt : Int)) (kt : x ≤ z → VP l n y d K Q QX k tgt lv st I L) (kf : ¬ (x ≤ z) → VP l n y d K Q QX k (pc + 3) lv st I L) : VP l n y d K Q QX k pc lv (.int z :: .int x :: st) I L := by
  intro p e s m args below meth c a cs D A H locs ls C hP hD hS hl
  exact lv_icmp_le C.1 C.2.1 hd ht (fun h => kt h p e s m args below meth c a cs D A H locs ls C hP hD hS hl) (fun h => kf h p e s m args below meth c a cs D A H locs ls C hP hD hS hl)
theorem q_goto {off : Int} (tgt : Nat) (hd : decode y.2.1 pc = .ok (.goto off, 3)) (ht : (pc : Int) + off = (tgt : Int)) (kk : VP l n y d K Q QX k tgt lv (st) I L) : VP l n y d K Q QX k pc lv (st) I L := by
  intro p e s m args below meth c a cs D A H locs ls C hP hD hS hl
  exact lv_goto C.1 C.2.1 hd ht (kk p e s m args below meth c a cs D A H locs ls C hP hD hS hl)
theorem q_swIn {dflt lo hi : Int} {offs : Array Int} {len : Nat} {x : Int32} {off : Int} (tgt : Nat) (hd : decode y.2.1 pc = .ok (.tableswitch dflt lo hi offs, len)) (h1 : ¬ x.toInt < lo) (h2 : ¬ hi < x.toInt) (ho : offs[(x.toInt - lo).toNat]? = some off) (ht : (pc : Int) + off = (tgt : Int)) (kk : VP l n y d K Q QX k tgt lv (st) I L) : VP l n y d K Q QX k pc lv (.int x :: st) I L := by
  intro p e s m args below meth c a cs D A H locs ls C hP hD hS hl
  exact lv_tableIn C.1 C.2.1 hd h1 h2 ho ht (kk p e s m args below meth c a cs D A H locs ls C hP hD hS hl)
theorem q_swOut {dflt lo hi : Int} {offs : Array Int} {len : Nat} {x : Int32} (tgt : Nat) (hd : decode y.2.1 pc = .ok (.tableswitch dflt lo hi offs, len)) (h : x.toInt < lo ∨ hi < x.toInt) (ht : (pc : Int) + dflt = (tgt : Int)) (kk : VP l n y d K Q QX k tgt lv (st) I L) : VP l n y d K Q QX k pc lv (.int x :: st) I L := by
  intro p e s m args below meth c a cs D A H locs ls C hP hD hS hl
  exact lv_tableOut C.1 C.2.1 hd h ht (kk p e s m args below meth c a cs D A H locs ls C hP hD hS hl)
end VPR
end
section
/-! ===== fields, arrays, ends, calls ===== -/
def vq_cl (ci : Nat) : vw_C := vwCl.getD ci (RX0, TX0, 7)
def vq_tyf : Nat → Nat → FieldType
  | 0 => tyX0
  | 1 => tyX1
  | 2 => tyX2
  | 3 => tyX3
  | 4 => tyX4
  | 5 => tyX5
  | 6 => tyX6
  | 7 => tyX7
  | 8 => tyX8
  | 9 => tyX9
  | _ => tyX10
theorem vq_lay (ci : Nat) (h : ci < 11) : ∀ w ∈ u_ws (vq_cl ci).1 (vq_cl ci).2.1 (vq_cl ci).2.2, w ∈ WS := by
  match ci, h with
  | 0, _ => exact in_L0
  | 1, _ => exact in_L1
  | 2, _ => exact in_L2
  | 3, _ => exact in_L3
  | 4, _ => exact in_L4
  | 5, _ => exact in_L5
  | 6, _ => exact in_L6
  | 7, _ => exact in_L7
  | 8, _ => exact in_L8
  | 9, _ => exact in_L9
  | 10, _ => exact in_L10
theorem vq_clg (ci : Nat) (h : ci < 11) : vwCl[ci]? = some ((vq_cl ci).1, (vq_cl ci).2.1, (vq_cl ci).2.2) := by
  match ci, h with
  | 0, _ => rfl
  | 1, _ => rfl
  | 2, _ => rfl
  | 3, _ => rfl
  | 4, _ => rfl
  | 5, _ => rfl
  | 6, _ => rfl
  | 7, _ => rfl
  | 8, _ => rfl
  | 9, _ => rfl
  | 10, _ => rfl
theorem vq_tyok (ci : Nat) (h : ci < 11) : ∀ k, k < (vq_cl ci).2.2 → parseFieldDescriptor ((vq_cl ci).2.1 k).2.2.1 = some (vq_tyf ci k) := by
  match ci, h with
  | 0, _ => exact tyX0_ok
  | 1, _ => exact tyX1_ok
  | 2, _ => exact tyX2_ok
  | 3, _ => exact tyX3_ok
  | 4, _ => exact tyX4_ok
  | 5, _ => exact tyX5_ok
  | 6, _ => exact tyX6_ok
  | 7, _ => exact tyX7_ok
  | 8, _ => exact tyX8_ok
  | 9, _ => exact tyX9_ok
  | 10, _ => exact tyX10_ok
theorem vq_nm (ci : Nat) (h : ci < 11) : ∀ a, a < (vq_cl ci).2.2 → ∀ b, b < (vq_cl ci).2.2 → a ≠ b → ((vq_cl ci).2.1 a).2.1 ≠ ((vq_cl ci).2.1 b).2.1 := by
  match ci, h with
  | 0, _ => exact nmX0
  | 1, _ => exact nmX1
  | 2, _ => exact nmX2
  | 3, _ => exact nmX3
  | 4, _ => exact nmX4
  | 5, _ => exact nmX5
  | 6, _ => exact nmX6
  | 7, _ => exact nmX7
  | 8, _ => exact nmX8
  | 9, _ => exact nmX9
  | 10, _ => exact nmX10
theorem vq_pos {n i : Nat} {a : Nat → Nat} {cs : vq_S} {I : MI} {L : ML} {c : Nat} (hi : vq_is n i c) : ∃ q0 : Nat, (vq_ids n)[q0]? = some i ∧ (vq_W n a cs I L)[q0]? = some (a i, vq_ct n a cs I L i) := by
  obtain ⟨q0, h⟩ := List.getElem?_of_mem hi.1
  exact ⟨q0, h, by rw [vq_W, List.getElem?_map, h]; rfl⟩
theorem vq_ctO {n i ci : Nat} {a : Nat → Nat} {cs : vq_S} {I : MI} {L : ML} (h : gk i = ci) (hc : ci < 11) : vq_ct n a cs I L i = .inr (ci, vq_fl a I L i (vq_fk ci) 0) := by
  simp only [vq_ct, h]
  rw [if_neg (by omega), if_neg (by omega), if_neg (by omega), if_neg (by omega)]
theorem upI_ne {I : MI} {i j x : Nat} {v : Int32} (h : x ≠ i) : upI I i j v x = I x := by
  funext z
  simp [upI, h]
theorem upL_ne {L : ML} {i j x : Nat} {v : Int64} (h : x ≠ i) : upL L i j v x = L x := by
  funext z
  simp [upL, h]
theorem upI_self {I : MI} {i j : Nat} {v : Int32} : upI I i j v i = upd (I i) j v := by
  funext z
  simp [upI, upd]
theorem upL_self {L : ML} {i j : Nat} {v : Int64} : upL L i j v i = vp_updL (L i) j v := by
  funext z
  simp [upL, vp_updL]
section VPH
variable {l : Launch} {n : Nat} {y : vq_M} {d K : Nat} {Q : vq_R} {QX : vq_RX} {k pc : Nat} {lv lv' : List (Nat × Value)} {st : List Value} {I : MI} {L : ML}
theorem q_get (i ci j : Nat) {kd ix : Nat} {v : Value} {own : String} (hi : vq_is n i ci) (hci : ci < 11) (hkd : (vq_fk ci)[j]? = some kd) (hj : j < (vq_cl ci).2.2) (hw : Cond.fieldLink own ix ((vq_cl ci).2.1 j).1 ((vq_cl ci).2.1 j).2.1 ((vq_cl ci).2.1 j).2.2.1 ∈ WS) (ho : y.1.cls = own) (hv : ∀ a : Nat → Nat, vq_val a I L i kd j = vq_tr a v) (hd : decode y.2.1 pc = .ok (.getfield ix, 3)) (kk : VP l n y d K Q QX k (pc + 3) lv (v :: st) I L) : VP l n y d K Q QX k pc lv (.ref i :: st) I L := by
  intro p e s m args below meth c a cs D A H locs ls C hP hD hS hl
  obtain ⟨q0, hq, hw0⟩ := vq_pos (a := a) (cs := cs) (I := I) (L := L) hi
  rw [vq_ctO hi.2 hci] at hw0
  have hv' : (vq_fl a I L i (vq_fk ci) 0)[j]? = some (vq_tr a v) := by rw [vq_fl_get _ 0 j hkd, Nat.zero_add, hv a]
  exact va_get (D := D) (ci := ci) (v := vq_tr a v) (own := own) C.1 C.2.1 C.2.2.2.2.2.1 (vq_lay ci hci) (ho ▸ C.2.2.2.2.1) C.2.2.2.2.2.2.2.2.1 hP q0 hw0 (vq_clg ci hci) j hj (C.2.2.2.2.2.1 _ hw) (fun _ h => h) hv' hd (kk p e s m args below meth c a cs D A H locs ls C hP hD hS hl)
theorem q_getI (i ci j : Nat) {ix : Nat} {own : String} (hi : vq_is n i ci) (hci : ci < 11) (hkd : (vq_fk ci)[j]? = some 0) (hj : j < (vq_cl ci).2.2) (hw : Cond.fieldLink own ix ((vq_cl ci).2.1 j).1 ((vq_cl ci).2.1 j).2.1 ((vq_cl ci).2.1 j).2.2.1 ∈ WS) (ho : y.1.cls = own) (hd : decode y.2.1 pc = .ok (.getfield ix, 3)) (kk : VP l n y d K Q QX k (pc + 3) lv (.int (I i j) :: st) I L) : VP l n y d K Q QX k pc lv (.ref i :: st) I L :=
  q_get i ci j hi hci hkd hj hw ho (fun _ => rfl) hd kk
theorem q_getL (i ci j : Nat) {ix : Nat} {own : String} (hi : vq_is n i ci) (hci : ci < 11) (hkd : (vq_fk ci)[j]? = some 1) (hj : j < (vq_cl ci).2.2) (hw : Cond.fieldLink own ix ((vq_cl ci).2.1 j).1 ((vq_cl ci).2.1 j).2.1 ((vq_cl ci).2.1 j).2.2.1 ∈ WS) (ho : y.1.cls = own) (hd : decode y.2.1 pc = .ok (.getfield ix, 3)) (kk : VP l n y d K Q QX k (pc + 3) lv (.long (L i j) :: st) I L) : VP l n y d K Q QX k pc lv (.ref i :: st) I L :=
  q_get i ci j hi hci hkd hj hw ho (fun _ => rfl) hd kk
theorem q_getR (i ci j x : Nat) {ix : Nat} {own : String} (hi : vq_is n i ci) (hci : ci < 11) (hkd : (vq_fk ci)[j]? = some 2) (hx : gr i j = some x) (hj : j < (vq_cl ci).2.2) (hw : Cond.fieldLink own ix ((vq_cl ci).2.1 j).1 ((vq_cl ci).2.1 j).2.1 ((vq_cl ci).2.1 j).2.2.1 ∈ WS) (ho : y.1.cls = own) (hd : decode y.2.1 pc = .ok (.getfield ix, 3)) (kk : VP l n y d K Q QX k (pc + 3) lv (.ref x :: st) I L) : VP l n y d K Q QX k pc lv (.ref i :: st) I L :=
  q_get i ci j hi hci hkd hj hw ho (fun a => by simp [vq_val, hx, vq_tr, va_rf]) hd kk
theorem q_putI (i ci j : Nat) {v : Int32} {ix : Nat} {own : String} (hi : vq_is n i ci) (hci : ci < 11) (hkd : (vq_fk ci)[j]? = some 0) (hj : j < (vq_cl ci).2.2) (hf : ((vq_cl ci).2.1 j).2.2.2 = false) (hp : vq_tyf ci j = .int) (hw : Cond.fieldLink own ix ((vq_cl ci).2.1 j).1 ((vq_cl ci).2.1 j).2.1 ((vq_cl ci).2.1 j).2.2.1 ∈ WS) (ho : y.1.cls = own) (hd : decode y.2.1 pc = .ok (.putfield ix, 3)) (kk : VP l n y d K Q QX k (pc + 3) lv st (upI I i j v) L) : VP l n y d K Q QX k pc lv (.int v :: .ref i :: st) I L := by
  intro p e s m args below meth c a cs D A H locs ls C hP hD hS hl
  obtain ⟨q0, hq, hw0⟩ := vq_pos (a := a) (cs := cs) (I := I) (L := L) hi
  rw [vq_ctO hi.2 hci] at hw0
  refine va_put (D := D) (ci := ci) (v := .int v) (ty := .int) (own := own) C.1 C.2.1 C.2.2.2.2.2.1 (vq_lay ci hci) (vq_tyf ci) (vq_tyok ci hci) (vq_nm ci hci) (ho ▸ C.2.2.2.2.1) C.2.2.2.2.2.2.2.2.1 hP hD hS q0 hw0 (vq_clg ci hci) j hj (C.2.2.2.2.2.1 _ hw) (fun _ h => h) hf (hp ▸ vq_tyok ci hci j hj) rfl rfl (by rw [vq_fl_len]; exact (List.getElem?_eq_some_iff.mp hkd).1) hd (fun H1 locs1 hP1 hD1 hS1 => ?_)
  have e9 : (vq_W n a cs I L).set q0 (a i, .inr (ci, (vq_fl a I L i (vq_fk ci) 0).set j (.int v))) = vq_W n a cs (upI I i j v) L := by
    have h := vq_set (f := fun i => vq_ct n a cs I L i) (g := fun i => vq_ct n a cs (upI I i j v) L i) (k := q0) (i := i) hD hq
    rw [vq_fl_setI _ 0 j hkd, Nat.zero_add, ← vq_ctO (n := n) (cs := cs) hi.2 hci]
    exact vq_set (f := fun x => vq_ct n a cs I L x) (g := fun x => vq_ct n a cs (upI I i j v) L x) hD hq (fun x hx => vq_ct_other (upI_ne hx) rfl)
  rw [e9] at hP1 hD1
  exact kk p e s m args below meth c a cs D A H1 locs1 ls C hP1 hD1 hS1 hl
theorem q_putL (i ci j : Nat) {v : Int64} {ix : Nat} {own : String} (hi : vq_is n i ci) (hci : ci < 11) (hkd : (vq_fk ci)[j]? = some 1) (hj : j < (vq_cl ci).2.2) (hf : ((vq_cl ci).2.1 j).2.2.2 = false) (hp : vq_tyf ci j = .long) (hw : Cond.fieldLink own ix ((vq_cl ci).2.1 j).1 ((vq_cl ci).2.1 j).2.1 ((vq_cl ci).2.1 j).2.2.1 ∈ WS) (ho : y.1.cls = own) (hd : decode y.2.1 pc = .ok (.putfield ix, 3)) (kk : VP l n y d K Q QX k (pc + 3) lv st I (upL L i j v)) : VP l n y d K Q QX k pc lv (.long v :: .ref i :: st) I L := by
  intro p e s m args below meth c a cs D A H locs ls C hP hD hS hl
  obtain ⟨q0, hq, hw0⟩ := vq_pos (a := a) (cs := cs) (I := I) (L := L) hi
  rw [vq_ctO hi.2 hci] at hw0
  refine va_put (D := D) (ci := ci) (v := .long v) (ty := .long) (own := own) C.1 C.2.1 C.2.2.2.2.2.1 (vq_lay ci hci) (vq_tyf ci) (vq_tyok ci hci) (vq_nm ci hci) (ho ▸ C.2.2.2.2.1) C.2.2.2.2.2.2.2.2.1 hP hD hS q0 hw0 (vq_clg ci hci) j hj (C.2.2.2.2.2.1 _ hw) (fun _ h => h) hf (hp ▸ vq_tyok ci hci j hj) rfl rfl (by rw [vq_fl_len]; exact (List.getElem?_eq_some_iff.mp hkd).1) hd (fun H1 locs1 hP1 hD1 hS1 => ?_)
  have e9 : (vq_W n a cs I L).set q0 (a i, .inr (ci, (vq_fl a I L i (vq_fk ci) 0).set j (.long v))) = vq_W n a cs I (upL L i j v) := by
    rw [vq_fl_setL _ 0 j hkd, Nat.zero_add, ← vq_ctO (n := n) (cs := cs) hi.2 hci]
    exact vq_set (f := fun x => vq_ct n a cs I L x) (g := fun x => vq_ct n a cs I (upL L i j v) x) hD hq (fun x hx => vq_ct_other rfl (upL_ne hx))
  rw [e9] at hP1 hD1
  exact kk p e s m args below meth c a cs D A H1 locs1 ls C hP1 hD1 hS1 hl
theorem vq_ct20 {n i : Nat} {a : Nat → Nat} {cs : vq_S} {I : MI} {L : ML} (h : gk i = 20) : vq_ct n a cs I L i = .inl (cs.1, gl n i, .inl (I i)) := by
  simp only [vq_ct, h]; rfl
theorem vq_ct21 {n i : Nat} {a : Nat → Nat} {cs : vq_S} {I : MI} {L : ML} (h : gk i = 21) : vq_ct n a cs I L i = .inl (cs.2.1, gl n i, .inr (.inl (L i))) := by
  simp only [vq_ct, h]; rfl
theorem vq_ct22 {n i : Nat} {a : Nat → Nat} {cs : vq_S} {I : MI} {L : ML} (h : gk i = 22) : vq_ct n a cs I L i = .inl (cs.2.2.1, gl n i, .inl (I i)) := by
  simp only [vq_ct, h]; rfl
theorem vq_ct23 {n i : Nat} {a : Nat → Nat} {cs : vq_S} {I : MI} {L : ML} (h : gk i = 23) : vq_ct n a cs I L i = .inl (cs.2.2.2, gl n i, .inr (.inr (.inr (.inr (fun j => (gr i j).map a))))) := by
  simp only [vq_ct, h]; rfl
theorem gl_lt {n : Nat} (hn : n < 2 ^ 31) (i : Nat) : gl n i < 2 ^ 31 := by
  unfold gl
  split
  · exact hn
  · unfold gl0
    split <;> decide
/-- an index that is a number below the length -/
theorem vq_in {x : Int32} {j N : Nat} (hx : x = nI j) (hj : j < N) (hN : N < 2 ^ 31) : vp_in x N ∧ x.toNatClampNeg = j := by
  subst hx
  exact ⟨vp_in_nI hj hN, nI_clamp (by omega)⟩
theorem q_iald (i j : Nat) {x : Int32} (hn : n < 2 ^ 31) (hi : vq_is n i 20) (hx : x = nI j) (hj : j < gl n i) (hd : decode y.2.1 pc = .ok (.iaload, 1)) (kk : VP l n y d K Q QX k (pc + 1) lv (.int (I i j) :: st) I L) : VP l n y d K Q QX k pc lv (.int x :: .ref i :: st) I L := by
  intro p e s m args below meth c a cs D A H locs ls C hP hD hS hl
  obtain ⟨q0, hq, hw0⟩ := vq_pos (a := a) (cs := cs) (I := I) (L := L) hi
  rw [vq_ct20 hi.2] at hw0
  obtain ⟨h1, h2⟩ := vq_in hx hj (gl_lt hn i)
  refine va_iald (D := D) C.1 C.2.1 C.2.2.2.2.2.2.2.2.1 hP q0 0 hw0 rfl h1 hd ?_
  rw [h2]
  exact kk p e s m args below meth c a cs D A H locs ls C hP hD hS hl
theorem q_lald (i j : Nat) {x : Int32} (hn : n < 2 ^ 31) (hi : vq_is n i 21) (hx : x = nI j) (hj : j < gl n i) (hd : decode y.2.1 pc = .ok (.laload, 1)) (kk : VP l n y d K Q QX k (pc + 1) lv (.long (L i j) :: st) I L) : VP l n y d K Q QX k pc lv (.int x :: .ref i :: st) I L := by
  intro p e s m args below meth c a cs D A H locs ls C hP hD hS hl
  obtain ⟨q0, hq, hw0⟩ := vq_pos (a := a) (cs := cs) (I := I) (L := L) hi
  rw [vq_ct21 hi.2] at hw0
  obtain ⟨h1, h2⟩ := vq_in hx hj (gl_lt hn i)
  refine va_lald (D := D) C.1 C.2.1 C.2.2.2.2.2.2.2.2.1 hP q0 1 hw0 rfl h1 hd ?_
  rw [h2]
  exact kk p e s m args below meth c a cs D A H locs ls C hP hD hS hl
theorem q_zald (i j : Nat) {x : Int32} (hn : n < 2 ^ 31) (hi : vq_is n i 22) (hx : x = nI j) (hj : j < gl n i) (hd : decode y.2.1 pc = .ok (.baload, 1)) (kk : VP l n y d K Q QX k (pc + 1) lv (.int (I i j) :: st) I L) : VP l n y d K Q QX k pc lv (.int x :: .ref i :: st) I L := by
  intro p e s m args below meth c a cs D A H locs ls C hP hD hS hl
  obtain ⟨q0, hq, hw0⟩ := vq_pos (a := a) (cs := cs) (I := I) (L := L) hi
  rw [vq_ct22 hi.2] at hw0
  obtain ⟨h1, h2⟩ := vq_in hx hj (gl_lt hn i)
  refine va_zald (D := D) C.1 C.2.1 C.2.2.2.2.2.2.2.2.1 hP q0 2 hw0 rfl h1 hd ?_
  rw [h2]
  exact kk p e s m args below meth c a cs D A H locs ls C hP hD hS hl
theorem q_aald (i j z : Nat) {x : Int32} (hn : n < 2 ^ 31) (hi : vq_is n i 23) (hx : x = nI j) (hj : j < gl n i) (hz : gr i j = some z) (hd : decode y.2.1 pc = .ok (.aaload, 1)) (kk : VP l n y d K Q QX k (pc + 1) lv (.ref z :: st) I L) : VP l n y d K Q QX k pc lv (.int x :: .ref i :: st) I L := by
  intro p e s m args below meth c a cs D A H locs ls C hP hD hS hl
  obtain ⟨q0, hq, hw0⟩ := vq_pos (a := a) (cs := cs) (I := I) (L := L) hi
  rw [vq_ct23 hi.2] at hw0
  obtain ⟨h1, h2⟩ := vq_in hx hj (gl_lt hn i)
  refine va_aldq (D := D) C.1 C.2.1 C.2.2.2.2.2.2.2.2.1 hP q0 3 hw0 rfl h1 hd ?_
  rw [h2]
  simp only [hz, Option.map_some]
  exact kk p e s m args below meth c a cs D A H locs ls C hP hD hS hl
theorem q_alenI (i : Nat) (hi : vq_is n i 23) (hd : decode y.2.1 pc = .ok (.arraylength, 1)) (kk : VP l n y d K Q QX k (pc + 1) lv (.int (nI (gl n i)) :: st) I L) : VP l n y d K Q QX k pc lv (.ref i :: st) I L := by
  intro p e s m args below meth c a cs D A H locs ls C hP hD hS hl
  obtain ⟨q0, hq, hw0⟩ := vq_pos (a := a) (cs := cs) (I := I) (L := L) hi
  rw [vq_ct23 hi.2] at hw0
  exact va_alen (D := D) C.1 C.2.1 C.2.2.2.2.2.2.2.2.1 hP q0 3 hw0 rfl rfl hd (kk p e s m args below meth c a cs D A H locs ls C hP hD hS hl)
theorem q_iast (i j : Nat) {x v : Int32} (hn : n < 2 ^ 31) (hi : vq_is n i 20) (hx : x = nI j) (hj : j < gl n i) (hd : decode y.2.1 pc = .ok (.iastore, 1)) (kk : VP l n y d K Q QX k (pc + 1) lv st (upI I i j v) L) : VP l n y d K Q QX k pc lv (.int v :: .int x :: .ref i :: st) I L := by
  intro p e s m args below meth c a cs D A H locs ls C hP hD hS hl
  obtain ⟨q0, hq, hw0⟩ := vq_pos (a := a) (cs := cs) (I := I) (L := L) hi
  rw [vq_ct20 hi.2] at hw0
  obtain ⟨h1, h2⟩ := vq_in hx hj (gl_lt hn i)
  refine va_iast (D := D) C.1 C.2.1 C.2.2.2.2.2.2.2.2.1 hP hD hS q0 0 hw0 rfl h1 hd (fun H1 locs1 hP1 hD1 hS1 => ?_)
  have e9 : (vq_W n a cs I L).set q0 (a i, .inl (cs.1, gl n i, .inl (upd (I i) x.toNatClampNeg v))) = vq_W n a cs (upI I i j v) L := by
    rw [h2, ← upI_self, ← vq_ct20 (n := n) (a := a) (cs := cs) (L := L) hi.2]
    exact vq_set (f := fun x => vq_ct n a cs I L x) (g := fun x => vq_ct n a cs (upI I i j v) L x) hD hq (fun x hx => vq_ct_other (upI_ne hx) rfl)
  rw [e9] at hP1 hD1
  exact kk p e s m args below meth c a cs D A H1 locs1 ls C hP1 hD1 hS1 hl
theorem q_zast (i j : Nat) {x v : Int32} (hn : n < 2 ^ 31) (hi : vq_is n i 22) (hx : x = nI j) (hj : j < gl n i) (hv : vp_nar .boolean v = v) (hd : decode y.2.1 pc = .ok (.bastore, 1)) (kk : VP l n y d K Q QX k (pc + 1) lv st (upI I i j v) L) : VP l n y d K Q QX k pc lv (.int v :: .int x :: .ref i :: st) I L := by
  intro p e s m args below meth c a cs D A H locs ls C hP hD hS hl
  obtain ⟨q0, hq, hw0⟩ := vq_pos (a := a) (cs := cs) (I := I) (L := L) hi
  rw [vq_ct22 hi.2] at hw0
  obtain ⟨h1, h2⟩ := vq_in hx hj (gl_lt hn i)
  refine va_zast (D := D) C.1 C.2.1 C.2.2.2.2.2.2.2.2.1 hP hD hS q0 2 hw0 rfl h1 hd (fun H1 locs1 hP1 hD1 hS1 => ?_)
  have e9 : (vq_W n a cs I L).set q0 (a i, .inl (cs.2.2.1, gl n i, .inl (upd (I i) x.toNatClampNeg (vp_nar .boolean v)))) = vq_W n a cs (upI I i j v) L := by
    rw [h2, hv, ← upI_self, ← vq_ct22 (n := n) (a := a) (cs := cs) (L := L) hi.2]
    exact vq_set (f := fun x => vq_ct n a cs I L x) (g := fun x => vq_ct n a cs (upI I i j v) L x) hD hq (fun x hx => vq_ct_other (upI_ne hx) rfl)
  rw [e9] at hP1 hD1
  exact kk p e s m args below meth c a cs D A H1 locs1 ls C hP1 hD1 hS1 hl
theorem q_last (i j : Nat) {x : Int32} {v : Int64} (hn : n < 2 ^ 31) (hi : vq_is n i 21) (hx : x = nI j) (hj : j < gl n i) (hd : decode y.2.1 pc = .ok (.lastore, 1)) (kk : VP l n y d K Q QX k (pc + 1) lv st I (upL L i j v)) : VP l n y d K Q QX k pc lv (.long v :: .int x :: .ref i :: st) I L := by
  intro p e s m args below meth c a cs D A H locs ls C hP hD hS hl
  obtain ⟨q0, hq, hw0⟩ := vq_pos (a := a) (cs := cs) (I := I) (L := L) hi
  rw [vq_ct21 hi.2] at hw0
  obtain ⟨h1, h2⟩ := vq_in hx hj (gl_lt hn i)
  refine va_last (D := D) C.1 C.2.1 C.2.2.2.2.2.2.2.2.1 hP hD hS q0 1 hw0 rfl h1 hd (fun H1 locs1 hP1 hD1 hS1 => ?_)
  have e9 : (vq_W n a cs I L).set q0 (a i, .inl (cs.2.1, gl n i, .inr (.inl (vp_updL (L i) x.toNatClampNeg v)))) = vq_W n a cs I (upL L i j v) := by
    rw [h2, ← upL_self, ← vq_ct21 (n := n) (a := a) (cs := cs) (I := I) hi.2]
    exact vq_set (f := fun x => vq_ct n a cs I L x) (g := fun x => vq_ct n a cs I (upL L i j v) x) hD hq (fun x hx => vq_ct_other rfl (upL_ne hx))
  rw [e9] at hP1 hD1
  exact kk p e s m args below meth c a cs D A H1 locs1 ls C hP1 hD1 hS1 hl
end VPH
end
section
theorem vq_lvargs (a : Nat → Nat) : ∀ (i : Nat) (av : List Value), lv_args i (av.map (vq_tr a)) = (lv_args i av).map (vq_t2 a)
  | _, [] => rfl
  | i, v :: vs => by
    simp only [List.map_cons, lv_args, vq_cat, vq_lvargs a]
    rfl
theorem vq_E.moved {A : Nat → Prop} {u U : State} {H : Heap} (hvm : u.vm.Alike U.vm) (h : vq_E A u H) : vq_E A U H := ⟨h.1.moved hvm, h.2.moved hvm⟩
theorem vq_E.kept {A : Nat → Prop} {U : State} {H H1 : Heap} (h : vq_E A U H) (hq : ∀ a : Nat, a < H.size → ¬ A a → H1[a]? = H[a]?) : vq_E A U H1 := ⟨h.1.kept hq, h.2.kept hq⟩
theorem vq_E.narrow {A B : Nat → Prop} {U : State} {H : Heap} (h : vq_E A U H) (hAB : ∀ q, B q → A q) : vq_E B U H := ⟨h.1.narrow hAB, h.2.narrow hAB⟩
theorem vq_blind {n : Nat} {a : Nat → Nat} {cs : vq_S} {D : va_G} {sz : Nat} {av : List Value} {I : MI} {L : ML} : FrameBlind (vq_Pc n a cs D sz av I L) := by
  intro v U g mk h
  obtain ⟨q0, q1, ⟨qP, qK, qD⟩, qE⟩ := h
  exact ⟨q0, q1, ⟨qP, va_K.moved (u := U) (U := U.calling g mk v) (Vm.Alike.refl U.vm) qK, qD⟩, vq_E.moved (u := U) (U := U.calling g mk v) (Vm.Alike.refl U.vm) qE⟩
theorem vq_sub {A : Nat → Prop} {ws : va_W} {H0 H : Heap} {locs : List Loc} (hD : va_D A ws) (hS : va_S A H0 H locs) (hA : ∀ q, H0.size ≤ q → A q) : ∀ q, va_A ws H.size q → A q := by
  intro q hq
  rcases hq with ⟨k, e, hk⟩ | h
  · exact hD.2 k _ hk
  · exact hA q (Nat.le_trans hS.1 h)
section VPC
variable {l : Launch} {n : Nat} {y : vq_M} {d K : Nat} {Q : vq_R} {QX : vq_RX} {k pc : Nat} {lv lv' : List (Nat × Value)} {st : List Value} {I : MI} {L : ML}
theorem VM_of (av : List Value) (lv : List (Nat × Value)) (hy : plainName y.1.cls = true) (hnl : ∀ a : Nat → Nat, (lg_sl (av.map (vq_tr a))).length ≤ y.2.2.1) (hlv : lv_args 0 av = lv) (h : VP l n y d K Q QX 0 0 lv [] I L) : VM l n y d K av I L Q QX := by
  subst hlv
  intro a cs D sz
  refine vx_ofW (cc := y.2.1) (maxL := y.2.2.1) (ret := y.2.2.2) hy rfl ?_
  intro p e s m args below meth c s₁ B hml htab hv
  obtain ⟨rfl, hsz, ⟨hP, hK, hD0⟩, hE⟩ := hv
  have hts := atoms_spec (ws := Cond.code y.1 y.2.1 y.2.2.1 y.2.2.2 :: WS) B.pre
  subst hsz
  have hD := hD0.self (sz := s.heap.size)
  have hl := lv_entry (av.map (vq_tr a)) (n := y.2.2.1) (hnl a)
  rw [lg_entry_eq]
  rw [vq_lvargs] at hl
  exact h p e s m _ below meth c a cs D _ s.heap [] _ ⟨B.exec, B.bytes, B.returns, hml, findClass_of_methodNamed B.named, fun w hw => hts w (List.mem_cons_of_mem _ hw), B.notSynchronized, htab, hK, hE, fun q hq => Or.inr hq⟩ hP hD va_S.rf hl
theorem q_iret {v : Int32} (hd : decode y.2.1 pc = .ok (.ireturn, 1)) (hr : y.2.2.2 = some .int) (hk : k ≤ K) (h : Q (some (.int v)) I L) : VP l n y d K Q QX k pc lv [.int v] I L := by
  intro p e s m args below meth c a cs D A H locs ls C hP hD hS hl
  refine W.widen (k := K) (n := 6 * K) hk (by omega) (vx_ret ?_)
  refine W.iret C.1 C.2.1 (C.2.2.1.trans hr) (fun t ht hW => ?_) hS.2.2 hd C.2.2.2.2.2.2.1
  rw [hr]
  exact ⟨⟨v, (I, L), rfl, h, by rw [ht]; exact hP, va_K.moved hW.alike C.2.2.2.2.2.2.2.2.1, hD⟩, hS.F ht⟩
theorem q_zret {v : Int32} (hd : decode y.2.1 pc = .ok (.ireturn, 1)) (hr : y.2.2.2 = some .boolean) (hk : k ≤ K) (hv : narrow .boolean (.int v) = .int v) (h : Q (some (.int v)) I L) : VP l n y d K Q QX k pc lv [.int v] I L := by
  intro p e s m args below meth c a cs D A H locs ls C hP hD hS hl
  refine W.widen (k := K) (n := 6 * K) hk (by omega) (vx_ret ?_)
  refine W.zret C.1 C.2.1 (C.2.2.1.trans hr) hv (fun t ht hW => ?_) hS.2.2 hd C.2.2.2.2.2.2.1
  rw [hr]
  exact ⟨⟨v, (I, L), rfl, h, by rw [ht]; exact hP, va_K.moved hW.alike C.2.2.2.2.2.2.2.2.1, hD⟩, hS.F ht⟩
theorem q_lret {v : Int64} (hd : decode y.2.1 pc = .ok (.lreturn, 1)) (hr : y.2.2.2 = some .long) (hk : k ≤ K) (h : Q (some (.long v)) I L) : VP l n y d K Q QX k pc lv [.long v] I L := by
  intro p e s m args below meth c a cs D A H locs ls C hP hD hS hl
  refine W.widen (k := K) (n := 6 * K) hk (by omega) (vx_ret ?_)
  refine W.lret C.1 C.2.1 (C.2.2.1.trans hr) (fun t ht hW => ?_) hS.2.2 hd C.2.2.2.2.2.2.1
  rw [hr]
  exact ⟨⟨v, (I, L), rfl, h, by rw [ht]; exact hP, va_K.moved hW.alike C.2.2.2.2.2.2.2.2.1, hD⟩, hS.F ht⟩
theorem q_vret (hd : decode y.2.1 pc = .ok (.return_, 1)) (hr : y.2.2.2 = none) (hk : k ≤ K) (h : Q none I L) : VP l n y d K Q QX k pc lv [] I L := by
  intro p e s m args below meth c a cs D A H locs ls C hP hD hS hl
  refine W.widen (k := K) (n := 6 * K) hk (by omega) (vx_ret ?_)
  refine W.vret C.1 C.2.1 (C.2.2.1.trans hr) (fun t ht hW => ?_) hS.2.2 hd C.2.2.2.2.2.2.1
  rw [hr]
  exact ⟨⟨(I, L), rfl, h, by rw [ht]; exact hP, va_K.moved hW.alike C.2.2.2.2.2.2.2.2.1, hD⟩, hS.F ht⟩
theorem vq_gd {w : Cond} (h : w ∈ WS) : (w.onTables && w.keeps) = true ∨ ∃ ty, w = .arrayClass ty := good_of_word (List.all_eq_true.mp WS_good w h)
theorem vq_goodV {own : String} {ix na : Nat} {y' : vq_M} (ho : vq_okV y' na) (hw : Cond.methodLink own ix y'.1 ∈ WS) : GoodIn WS (wsV own ix y'.1.cls y'.1 (Cond.code y'.1 y'.2.1 y'.2.2.1 y'.2.2.2 :: WS)) := by
  obtain ⟨h1, h2, h3, h4, -⟩ := ho
  intro w h
  have hm : w ∈ WS := by
    rcases List.mem_append.mp h with h | h
    · simp only [List.mem_cons, List.not_mem_nil, or_false] at h
      rcases h with rfl | rfl | rfl | rfl <;> assumption
    · rcases List.mem_cons.mp h with rfl | h
      · exact h4
      · exact h
  exact ⟨hm, vq_gd hm⟩
theorem vq_goodS {ix na : Nat} {y' : vq_M} (ho : vq_okS y' na) (hw : Cond.methodLink y'.1.cls ix y'.1 ∈ WS) : GoodIn WS (wsS y'.1.cls ix y'.1 (Cond.code y'.1 y'.2.1 y'.2.2.1 y'.2.2.2 :: WS)) := by
  obtain ⟨h1, h3, h4, -⟩ := ho
  intro w h
  have hm : w ∈ WS := by
    rcases List.mem_append.mp h with h | h
    · simp only [List.mem_cons, List.not_mem_nil, or_false] at h
      rcases h with rfl | rfl | rfl <;> assumption
    · rcases List.mem_cons.mp h with rfl | h
      · exact h4
      · exact h
  exact ⟨hm, vq_gd hm⟩
theorem vq_cats (a : Nat → Nat) (st : List Value) : ((st.map (vq_tr a)).map fun v => v.category).sum = (st.map fun v => v.category).sum := by
  rw [List.map_map]
  congr 1
  apply List.map_congr_left
  intro v hv
  exact vq_cat a v
/-- a call of an instance method: the run -/
theorem vq_runV {y' : vq_M} {na ix b ci d' K' : Nat} {own : String} {As : List Value} {Q' : vq_R} {QX' : vq_RX} {p : Program} {e : Env} {s : State} {m : MethodId} {args : Array Value} {below : List Frame} {meth : Method} {c : Code} {a : Nat → Nat} {cs : vq_S} {D : va_G} {A : Nat → Prop} {H : Heap} {locs : List Loc} {ls : Array Slot}
    (hok : vq_okV y' na) (hlen : As.length = na) (hw : Cond.methodLink own ix y'.1 ∈ WS) (ho : y.1.cls = own) (hi : vq_is n b ci) (hci : ci < 11) (hcl : (vq_cl ci).1 = y'.1.cls) (hd : decode y.2.1 pc = .ok (.invokevirtual ix, 3)) (hrest : (st.map fun v => v.category).sum ≤ 8) (hdep : d' + 1 ≤ d) (hL : y'.2.2.1 ≤ 40) (hk : k + K' ≤ K) (hM : VM l n y' d' K' (.ref b :: As) I L Q' QX')
    (C : vq_C n y a cs D A p s m args meth c) (hP : va_P D vwCl (vq_W n a cs I L) H) (hD : va_D A (vq_W n a cs I L)) (hS : va_S A s.heap H locs) (hl : lv_has ls y.2.2.1 (lv.map (vq_t2 a))) :
    vx_Run p l e (vq_rm d K) s m args below meth c H locs k (6 * k) K' (6 * K') (F0 m pc ls ((As.reverse ++ .ref b :: st).map (vq_tr a))) (st.map (vq_tr a)) (vq_Qc y'.2.2.2 n a cs D (va_A (vq_W n a cs I L) H.size) Q' (((Value.ref b :: As).map (vq_tr a)).toArray)) (vq_XC n a cs D (va_A (vq_W n a cs I L) H.size) QX') (va_A (vq_W n a cs I L) H.size) := by
  obtain ⟨q0, hq, hw0⟩ := vq_pos (a := a) (cs := cs) (I := I) (L := L) hi
  rw [vq_ctO hi.2 hci] at hw0
  have hts := C.2.2.2.2.2.1
  have hown : s.vm.findClass own = some m.cls := ho ▸ C.2.2.2.2.1
  have hsub := vq_sub hD hS C.2.2.2.2.2.2.2.2.2.2
  refine vx_runV (b := a b) (As := As.map (vq_tr a)) (rest := st.map (vq_tr a)) (y := y'.1) (C := y'.1.cls) (own := own) ⟨C.1, C.2.1, C.2.2.2.1, hown, hts⟩ (hM a cs D H.size) (cwV na hts (vq_goodV hok hw) rfl rfl rfl ⟨rfl, hok.2.2.2.2⟩ ⟨hdep, by show 8 + (y'.2.2.1 + 11) + 64 * d' ≤ 64 * d; omega⟩) ⟨vq_blind, ?_, fun U hU hW => ?_⟩ rfl ?_ hl.1 ?_ ?_ hd ⟨hk, by show 6 * k + 6 * K' ≤ 6 * K; omega⟩
  · rw [← hcl]
    exact va_recv C.2.2.2.2.2.2.2.2.1 hP (vq_clg ci hci) hw0
  · refine ⟨rfl, by rw [hU], ⟨by rw [hU]; exact hP, va_K.moved hW.alike C.2.2.2.2.2.2.2.2.1, hD.weaken (fun _ _ _ _ => trivial)⟩, ?_⟩
    rw [hU]
    exact ((C.2.2.2.2.2.2.2.2.2.1.kept hS.2.1).moved hW.alike).narrow hsub
  · rw [List.length_map]; exact hlen
  · show (As.reverse ++ .ref b :: st).map (vq_tr a) = (As.map (vq_tr a)).reverse ++ .ref (a b) :: st.map (vq_tr a)
    rw [List.map_append, List.map_reverse]
    rfl
  · exact lv_room (by rw [vq_cats]; exact hrest)
theorem vq_runS {y' : vq_M} {na ix d' K' : Nat} {As : List Value} {Q' : vq_R} {QX' : vq_RX} {p : Program} {e : Env} {s : State} {m : MethodId} {args : Array Value} {below : List Frame} {meth : Method} {c : Code} {a : Nat → Nat} {cs : vq_S} {D : va_G} {A : Nat → Prop} {H : Heap} {locs : List Loc} {ls : Array Slot}
    (hok : vq_okS y' na) (hlen : As.length = na) (hw : Cond.methodLink y'.1.cls ix y'.1 ∈ WS) (ho : y.1.cls = y'.1.cls) (hd : decode y.2.1 pc = .ok (.invokestatic ix, 3)) (hrest : (st.map fun v => v.category).sum ≤ 8) (hdep : d' + 1 ≤ d) (hL : y'.2.2.1 ≤ 40) (hk : k + K' ≤ K) (hM : VM l n y' d' K' As I L Q' QX')
    (C : vq_C n y a cs D A p s m args meth c) (hP : va_P D vwCl (vq_W n a cs I L) H) (hD : va_D A (vq_W n a cs I L)) (hS : va_S A s.heap H locs) (hl : lv_has ls y.2.2.1 (lv.map (vq_t2 a))) :
    vx_Run p l e (vq_rm d K) s m args below meth c H locs k (6 * k) K' (6 * K') (F0 m pc ls ((As.reverse ++ st).map (vq_tr a))) (st.map (vq_tr a)) (vq_Qc y'.2.2.2 n a cs D (va_A (vq_W n a cs I L) H.size) Q' ((As.map (vq_tr a)).toArray)) (vq_XC n a cs D (va_A (vq_W n a cs I L) H.size) QX') (va_A (vq_W n a cs I L) H.size) := by
  have hts := C.2.2.2.2.2.1
  have hown : s.vm.findClass y'.1.cls = some m.cls := ho ▸ C.2.2.2.2.1
  have hsub := vq_sub hD hS C.2.2.2.2.2.2.2.2.2.2
  refine vx_runS (As := As.map (vq_tr a)) (rest := st.map (vq_tr a)) (y := y'.1) (own := y'.1.cls) ⟨C.1, C.2.1, C.2.2.2.1, hown, hts⟩ (hM a cs D H.size) (cwS na hts (vq_goodS hok hw) rfl rfl rfl ⟨rfl, hok.2.2.2⟩ ⟨hdep, by show 8 + (y'.2.2.1 + 11) + 64 * d' ≤ 64 * d; omega⟩) ⟨vq_blind, fun U hU hW => ?_⟩ rfl ?_ hl.1 ?_ ?_ hd ⟨hk, by show 6 * k + 6 * K' ≤ 6 * K; omega⟩
  · refine ⟨rfl, by rw [hU], ⟨by rw [hU]; exact hP, va_K.moved hW.alike C.2.2.2.2.2.2.2.2.1, hD.weaken (fun _ _ _ _ => trivial)⟩, ?_⟩
    rw [hU]
    exact ((C.2.2.2.2.2.2.2.2.2.1.kept hS.2.1).moved hW.alike).narrow hsub
  · rw [List.length_map]; exact hlen
  · show (As.reverse ++ st).map (vq_tr a) = (As.map (vq_tr a)).reverse ++ st.map (vq_tr a)
    rw [List.map_append, List.map_reverse]
  · exact lv_room (by rw [vq_cats]; exact hrest)
/-- what the callee throws leaves this method too -/
theorem vq_outX {p : Program} {e : Env} {s : State} {m : MethodId} {args : Array Value} {below : List Frame} {meth : Method} {c : Code} {a : Nat → Nat} {cs : vq_S} {D : va_G} {A : Nat → Prop} {H1 : Heap} {locs1 : List Loc} {ls : Array Slot} {rest : List Value} {E : String} {ce : Cell} {q9 : Addr} {I' : MI} {L' : ML} {A1 : Nat → Prop} {t : State} {K' : Nat}
    (C : vq_C n y a cs D A p s m args meth c) (hk : k + K' ≤ K) (ht : t.heap = H1) (hB : QX E I' L') (hat : vq_at n a cs D A1 I' L' t) (hA1 : ∀ q, A1 q → A q) (hS1 : va_S A s.heap H1 locs1) (hce : H1[q9]? = some ce) (hcv : ce.vm = .none) (hcl : s.vm.findClass E = some ce.cls) :
    vx_W p l e (vq_rm d K) s m args below meth c H1 locs1 (k + K') (6 * k + 6 * K') (vx_MQ below (vq_Qc y.2.2.2 n a cs D A Q) (vq_XC n a cs D A QX) args s K (6 * K) A) (F0 m pc ls rest) q9 := by
  refine vx_out (fun x hx => absurd hx (fun h => (C.2.2.2.2.2.2.2.1 x h).elim)) C.2.2.2.2.2.2.1 hce hcv hcl (fun t' ht' hvm' => ?_) hS1.2.2 hk (by omega)
  refine ⟨(I', L'), trivial, ⟨hB, by rw [ht', ← ht]; exact hat.1, va_K.moved hvm' C.2.2.2.2.2.2.2.2.1, hat.2.2.weaken (fun _ _ _ h => hA1 _ h)⟩, hS1.F ht'⟩
theorem q_callv {y' : vq_M} {na ix b ci d' K' : Nat} {own : String} (As : List Value) {Q' : vq_R} {QX' : vq_RX} (hok : vq_okV y' na) (hlen : As.length = na) (hw : Cond.methodLink own ix y'.1 ∈ WS) (ho : y.1.cls = own) (hi : vq_is n b ci) (hci : ci < 11) (hcl : (vq_cl ci).1 = y'.1.cls) (hd : decode y.2.1 pc = .ok (.invokevirtual ix, 3)) (hrest : (st.map fun v => v.category).sum ≤ 8) (hdep : d' + 1 ≤ d) (hL : y'.2.2.1 ≤ 40) (hk : k + K' ≤ K) (hr : y'.2.2.2 = none)
    (hM : VM l n y' d' K' (.ref b :: As) I L Q' QX') (kx : ∀ E I' L', QX' E I' L' → QX E I' L') (kk : ∀ I' L', Q' none I' L' → VP l n y d K Q QX (k + K') (pc + 3) lv st I' L') : VP l n y d K Q QX k pc lv (As.reverse ++ .ref b :: st) I L := by
  intro p e s m args below meth c a cs D A H locs ls C hP hD hS hl
  have hrun := vq_runV (e := e) (below := below) hok hlen hw ho hi hci hcl hd hrest hdep hL hk hM C hP hD hS hl
  have hsub := vq_sub hD hS C.2.2.2.2.2.2.2.2.2.2
  have hq : vq_Qc y'.2.2.2 n a cs D (va_A (vq_W n a cs I L) H.size) Q' = va_Qv (fun (u : MI × ML) => Q' none u.1 u.2) (fun u t => vq_at n a cs D (va_A (vq_W n a cs I L) H.size) u.1 u.2 t) (va_A (vq_W n a cs I L) H.size) := by
    rw [hr]; rfl
  rw [hq] at hrun
  refine vx_callv hrun hS (fun q _ h => hsub q h) hsub (fun q _ h => hsub q h) (fun E ce q9 u t H1 locs1 ht hvm _ hB h1 hk1 hS1 hce hcv hcl9 => ?_) (fun u t H1 locs1 ht hvm hp hB h1 hk1 hS1 => ?_)
  · exact vq_outX C hk ht (kx _ _ _ hB.1) hB.2 hsub hS1 hce hcv hcl9
  · have hz : 6 * k + 6 * K' = 6 * (k + K') := by omega
    rw [hz]
    exact kk u.1 u.2 hp p e s m args below meth c a cs D A H1 locs1 ls C (ht ▸ hB.1) (hB.2.2.weaken (fun _ _ _ h => hsub _ h)) hS1 hl
theorem q_calli {y' : vq_M} {na ix b ci d' K' : Nat} {own : String} (As : List Value) {Q' : vq_R} {QX' : vq_RX} (hok : vq_okV y' na) (hlen : As.length = na) (hw : Cond.methodLink own ix y'.1 ∈ WS) (ho : y.1.cls = own) (hi : vq_is n b ci) (hci : ci < 11) (hcl : (vq_cl ci).1 = y'.1.cls) (hd : decode y.2.1 pc = .ok (.invokevirtual ix, 3)) (hrest : (st.map fun v => v.category).sum ≤ 8) (hdep : d' + 1 ≤ d) (hL : y'.2.2.1 ≤ 40) (hk : k + K' ≤ K) (hr : y'.2.2.2 = some .int ∨ y'.2.2.2 = some .boolean)
    (hM : VM l n y' d' K' (.ref b :: As) I L Q' QX') (kx : ∀ E I' L', QX' E I' L' → QX E I' L') (kk : ∀ r I' L', Q' (some (.int r)) I' L' → VP l n y d K Q QX (k + K') (pc + 3) lv (.int r :: st) I' L') : VP l n y d K Q QX k pc lv (As.reverse ++ .ref b :: st) I L := by
  intro p e s m args below meth c a cs D A H locs ls C hP hD hS hl
  have hrun := vq_runV (e := e) (below := below) hok hlen hw ho hi hci hcl hd hrest hdep hL hk hM C hP hD hS hl
  have hsub := vq_sub hD hS C.2.2.2.2.2.2.2.2.2.2
  have hq : vq_Qc y'.2.2.2 n a cs D (va_A (vq_W n a cs I L) H.size) Q' = va_Qi (fun (r : Int32) (u : MI × ML) => Q' (some (.int r)) u.1 u.2) (fun u t => vq_at n a cs D (va_A (vq_W n a cs I L) H.size) u.1 u.2 t) (va_A (vq_W n a cs I L) H.size) := by
    rcases hr with h | h <;> rw [h] <;> rfl
  rw [hq] at hrun
  refine vx_calli hrun hS (fun q _ h => hsub q h) hsub (fun q _ h => hsub q h) (fun E ce q9 u t H1 locs1 ht hvm _ hB h1 hk1 hS1 hce hcv hcl9 => ?_) (fun r u t H1 locs1 ht hvm hp hB h1 hk1 hS1 => ?_)
  · exact vq_outX C hk ht (kx _ _ _ hB.1) hB.2 hsub hS1 hce hcv hcl9
  · have hz : 6 * k + 6 * K' = 6 * (k + K') := by omega
    rw [hz]
    exact kk r u.1 u.2 hp p e s m args below meth c a cs D A H1 locs1 ls C (ht ▸ hB.1) (hB.2.2.weaken (fun _ _ _ h => hsub _ h)) hS1 hl
theorem q_calls {y' : vq_M} {na ix d' K' : Nat} (As : List Value) {Q' : vq_R} {QX' : vq_RX} (hok : vq_okS y' na) (hlen : As.length = na) (hw : Cond.methodLink y'.1.cls ix y'.1 ∈ WS) (ho : y.1.cls = y'.1.cls) (hd : decode y.2.1 pc = .ok (.invokestatic ix, 3)) (hrest : (st.map fun v => v.category).sum ≤ 8) (hdep : d' + 1 ≤ d) (hL : y'.2.2.1 ≤ 40) (hk : k + K' ≤ K) (hr : y'.2.2.2 = some .int ∨ y'.2.2.2 = some .boolean)
    (hM : VM l n y' d' K' As I L Q' QX') (kx : ∀ E I' L', QX' E I' L' → QX E I' L') (kk : ∀ r I' L', Q' (some (.int r)) I' L' → VP l n y d K Q QX (k + K') (pc + 3) lv (.int r :: st) I' L') : VP l n y d K Q QX k pc lv (As.reverse ++ st) I L := by
  intro p e s m args below meth c a cs D A H locs ls C hP hD hS hl
  have hrun := vq_runS (e := e) (below := below) hok hlen hw ho hd hrest hdep hL hk hM C hP hD hS hl
  have hsub := vq_sub hD hS C.2.2.2.2.2.2.2.2.2.2
  have hq : vq_Qc y'.2.2.2 n a cs D (va_A (vq_W n a cs I L) H.size) Q' = va_Qi (fun (r : Int32) (u : MI × ML) => Q' (some (.int r)) u.1 u.2) (fun u t => vq_at n a cs D (va_A (vq_W n a cs I L) H.size) u.1 u.2 t) (va_A (vq_W n a cs I L) H.size) := by
    rcases hr with h | h <;> rw [h] <;> rfl
  rw [hq] at hrun
  refine vx_calli hrun hS (fun q _ h => hsub q h) hsub (fun q _ h => hsub q h) (fun E ce q9 u t H1 locs1 ht hvm _ hB h1 hk1 hS1 hce hcv hcl9 => ?_) (fun r u t H1 locs1 ht hvm hp hB h1 hk1 hS1 => ?_)
  · exact vq_outX C hk ht (kx _ _ _ hB.1) hB.2 hsub hS1 hce hcv hcl9
  · have hz : 6 * k + 6 * K' = 6 * (k + K') := by omega
    rw [hz]
    exact kk r u.1 u.2 hp p e s m args below meth c a cs D A H1 locs1 ls C (ht ▸ hB.1) (hB.2.2.weaken (fun _ _ _ h => hsub _ h)) hS1 hl
end VPC
end
section
abbrev noX : vq_RX := fun _ _ _ => False
theorem nI_lit (k : Nat) : (OfNat.ofNat k : Int32) = nI k := rfl
theorem nI_rem {x z : Int32} {c k : Nat} (hx : x = nI c) (hz : z = nI k) (hc : c < 2 ^ 31) (h0 : 0 < k) (hk : k < 2 ^ 31) : x - x / z * z = nI (c % k) := by
  subst hx; subst hz
  exact pk_rem hc h0 hk
theorem rdI (I : MI) (i j x z : Nat) (v : Int32) : upI I i j v x z = if x = i ∧ z = j then v else I x z := rfl
theorem rdL (I : ML) (i j x z : Nat) (v : Int64) : upL I i j v x z = if x = i ∧ z = j then v else I x z := rfl
def Clog (I : MI) (c : Nat) (t kd v : Int32) : MI := upI (upI (upI (upI I 330 (c % 300 * 3) t) 330 (c % 300 * 3 + 1) kd) 330 (c % 300 * 3 + 2) v) 3 1 (nI (c + 1))
set_option maxHeartbeats 4000000 in
set_option maxRecDepth 100000 in
theorem c_log (l : Launch) (n : Nat) (hn : n < 2 ^ 31) (d : Nat) (I : MI) (L : ML) (c : Nat) (t kd v : Int32) (hc : I 3 1 = nI c) (hcb : c < 2 ^ 31) :
    VM l n m_X8_log d 0 [.ref 3, .int t, .int kd, .int v] I L (fun r I' L' => r = none ∧ I' = Clog I c t kd v ∧ L' = L) noX := by
  refine VM_of _ [(0, .ref 3), (1, .int t), (2, .int kd), (3, .int v)] rfl (fun a => Nat.le_of_ble_eq_true rfl) rfl ?_
  have h3 : c % 300 < 300 := Nat.mod_lt _ (by decide)
  have e1 : (I 3 1 - I 3 1 / 300 * 300) * 3 = nI (c % 300 * 3) := by rw [nI_rem (z := 300) (k := 300) hc rfl hcb (by decide) (by decide)]; exact pk_mul _ 3
  refine q_aload_n dX8_log_0 rfl ?_
  refine q_getI 3 8 1 (is_3 n) (by decide) rfl (by decide) f_X8_13 rfl dX8_log_1 ?_
  refine q_sipush (300) dX8_log_4 (by decide) ?_
  refine q_irem dX8_log_7 (by decide) ?_
  refine q_iconst (3) dX8_log_8 (by decide) ?_
  refine q_imul dX8_log_9 ?_
  rw [e1]
  refine q_istore [(4, _), (0, _), (1, _), (2, _), (3, _)] dX8_log_10 (by decide) rfl ?_
  refine q_aload_n dX8_log_12 rfl ?_
  refine q_getR 3 8 0 330 (is_3 n) (by decide) rfl rfl (by decide) f_X8_9 rfl dX8_log_13 ?_
  refine q_iload dX8_log_16 rfl ?_
  refine q_iload_n dX8_log_18 rfl ?_
  refine q_iast 330 (c % 300 * 3) hn (is_330 n) rfl (by show _ < 900; omega) dX8_log_19 ?_
  refine q_aload_n dX8_log_20 rfl ?_
  refine q_getR 3 8 0 330 (is_3 n) (by decide) rfl rfl (by decide) f_X8_9 rfl dX8_log_21 ?_
  refine q_iload dX8_log_24 rfl ?_
  refine q_iconst (1) dX8_log_26 (by decide) ?_
  refine q_iadd dX8_log_27 ?_
  refine q_iload_n dX8_log_28 rfl ?_
  refine q_iast 330 (c % 300 * 3 + 1) hn (is_330 n) (nI_add _ 1) (by show _ < 900; omega) dX8_log_29 ?_
  refine q_aload_n dX8_log_30 rfl ?_
  refine q_getR 3 8 0 330 (is_3 n) (by decide) rfl rfl (by decide) f_X8_9 rfl dX8_log_31 ?_
  refine q_iload dX8_log_34 rfl ?_
  refine q_iconst (2) dX8_log_36 (by decide) ?_
  refine q_iadd dX8_log_37 ?_
  refine q_iload_n dX8_log_38 rfl ?_
  refine q_iast 330 (c % 300 * 3 + 2) hn (is_330 n) (nI_add _ 2) (by show _ < 900; omega) dX8_log_39 ?_
  refine q_aload_n dX8_log_40 rfl ?_
  refine q_dup dX8_log_41 rfl ?_
  refine q_getI 3 8 1 (is_3 n) (by decide) rfl (by decide) f_X8_13 rfl dX8_log_42 ?_
  refine q_iconst (1) dX8_log_45 (by decide) ?_
  refine q_iadd dX8_log_46 ?_
  refine q_putI 3 8 1 (is_3 n) (by decide) rfl (by decide) rfl rfl f_X8_13 rfl dX8_log_47 ?_
  refine q_vret dX8_log_50 rfl (by omega) ⟨rfl, ?_, rfl⟩
  simp only [Clog]
  congr 1
  simp only [rdI]
  simp [hc, nI_1]
def Rlog (I : MI) (c : Nat) (t kd v : Int32) : MI := upI (upI (upI (upI I 242 (c % 300) t) 243 (c % 300) kd) 244 (c % 300) v) 30 41 (nI (c + 1))
set_option maxHeartbeats 4000000 in
set_option maxRecDepth 100000 in
theorem r_log (l : Launch) (n : Nat) (hn : n < 2 ^ 31) (d : Nat) (I : MI) (L : ML) (c : Nat) (t kd v : Int32) (hc : I 30 41 = nI c) (hcb : c < 2 ^ 31) :
    VM l n m_X10_log d 0 [.ref 30, .int t, .int kd, .int v] I L (fun r I' L' => r = none ∧ I' = Rlog I c t kd v ∧ L' = L) noX := by
  refine VM_of _ [(0, .ref 30), (1, .int t), (2, .int kd), (3, .int v)] rfl (fun a => Nat.le_of_ble_eq_true rfl) rfl ?_
  have h3 : c % 300 < 300 := Nat.mod_lt _ (by decide)
  refine q_aload_n dX10_log_0 rfl ?_
  refine q_getR 30 10 42 242 (is_30 n) (by decide) rfl rfl (by decide) f_X10_108 rfl dX10_log_1 ?_
  refine q_aload_n dX10_log_4 rfl ?_
  refine q_getI 30 10 41 (is_30 n) (by decide) rfl (by decide) f_X10_152 rfl dX10_log_5 ?_
  refine q_sipush (300) dX10_log_8 (by decide) ?_
  refine q_irem dX10_log_11 (by decide) ?_
  refine q_iload_n dX10_log_12 rfl ?_
  refine q_iast 242 (c % 300) hn (is_242 n) (nI_rem hc rfl hcb (by decide) (by decide)) h3 dX10_log_13 ?_
  refine q_aload_n dX10_log_14 rfl ?_
  refine q_getR 30 10 43 243 (is_30 n) (by decide) rfl rfl (by decide) f_X10_111 rfl dX10_log_15 ?_
  refine q_aload_n dX10_log_18 rfl ?_
  refine q_getI 30 10 41 (is_30 n) (by decide) rfl (by decide) f_X10_152 rfl dX10_log_19 ?_
  refine q_sipush (300) dX10_log_22 (by decide) ?_
  refine q_irem dX10_log_25 (by decide) ?_
  refine q_iload_n dX10_log_26 rfl ?_
  refine q_iast 243 (c % 300) hn (is_243 n) (nI_rem (by simp [rdI, hc]) rfl hcb (by decide) (by decide)) h3 dX10_log_27 ?_
  refine q_aload_n dX10_log_28 rfl ?_
  refine q_getR 30 10 44 244 (is_30 n) (by decide) rfl rfl (by decide) f_X10_114 rfl dX10_log_29 ?_
  refine q_aload_n dX10_log_32 rfl ?_
  refine q_getI 30 10 41 (is_30 n) (by decide) rfl (by decide) f_X10_152 rfl dX10_log_33 ?_
  refine q_sipush (300) dX10_log_36 (by decide) ?_
  refine q_irem dX10_log_39 (by decide) ?_
  refine q_iload_n dX10_log_40 rfl ?_
  refine q_iast 244 (c % 300) hn (is_244 n) (nI_rem (by simp [rdI, hc]) rfl hcb (by decide) (by decide)) h3 dX10_log_41 ?_
  refine q_aload_n dX10_log_42 rfl ?_
  refine q_dup dX10_log_43 rfl ?_
  refine q_getI 30 10 41 (is_30 n) (by decide) rfl (by decide) f_X10_152 rfl dX10_log_44 ?_
  refine q_iconst (1) dX10_log_47 (by decide) ?_
  refine q_iadd dX10_log_48 ?_
  refine q_putI 30 10 41 (is_30 n) (by decide) rfl (by decide) rfl rfl f_X10_152 rfl dX10_log_49 ?_
  refine q_vret dX10_log_52 rfl (by omega) ⟨rfl, ?_, rfl⟩
  simp only [Rlog]
  congr 1
  simp only [rdI]
  simp [hc, nI_1]
end
section
/-! ===== what the system does, over the reference's own memory (S ints, T longs; frames apart) ===== -/
def N (x : Int32) : Nat := x.toNatClampNeg
theorem N_nI {j : Nat} (h : j < 2 ^ 31) : N (nI j) = j := nI_clamp h
/-- a number from 0 to b -/
def nb (x : Int32) (b : Nat) : Prop := x = nI (N x) ∧ N x ≤ b
theorem nb_of {x : Int32} {j b : Nat} (h : x = nI j) (hj : j ≤ b) (hb : b < 2 ^ 31) : nb x b := by
  subst h
  unfold nb
  rw [N_nI (by omega)]
  exact ⟨rfl, hj⟩
def Flog (S : MI) (t k v : Int32) : MI := Rlog S (N (S 30 41)) t k v
def Fbec (S : MI) (l : Nat) (s : Int32) : MI := Flog (upI S 208 l s) (nI l) 7 s
/-- rejected by the loop l -/
abbrev rej (S : MI) (l : Nat) : Prop := 3 < S 208 l ∨ S 209 l = 24
def Fenq0 (S : MI) (l : Nat) (k what msg : Int32) : MI := upI (upI (upI (upI S 211 (24 * l + N (S 209 l)) k) 212 (24 * l + N (S 209 l)) what) 213 (24 * l + N (S 209 l)) msg) 209 l (S 209 l + 1)
def Fenq (S : MI) (l : Nat) (k what msg : Int32) : MI := if S 208 l = 1 then Fbec (Fenq0 S l k what msg) l 2 else Fenq0 S l k what msg
def Fput (S : MI) (th : Int32) (l : Nat) (k what msg val : Int32) : MI := if rej S l then Flog S th 4 val else Fenq S l k what msg
/-- how many of the first timers wait at the loop l -/
def Fcnt (S : MI) (l : Nat) : Nat → Nat
  | 0 => 0
  | t + 1 => Fcnt S l t + (if S 226 t = nI l then 1 else 0)
abbrev rejT (S : MI) (l : Nat) : Prop := 2 < S 208 l ∨ S 30 23 = 400 ∨ Fcnt S l (N (S 30 23)) = 24
def Fsch0 (S : MI) (l : Nat) (t : Int32) : MI := upI (upI (upI S 224 (N (S 30 23)) t) 226 (N (S 30 23)) (nI l)) 30 23 (S 30 23 + 1)
def Fsch (S : MI) (th : Int32) (l : Nat) (t : Int32) : MI := if rejT S l then Flog S th 4 t else Flog (if S 208 l = 1 then Fbec (Fsch0 S l t) l 2 else Fsch0 S l t) th 9 (S 30 23)
def TSch (S : MI) (T : ML) (l : Nat) (delay : Int64) : ML := if rejT S l then T else upL T 225 (N (S 30 23)) (T 30 2 + delay)
/-- the chooser -/
def Fch (n : Nat) (c : Int32) : Int32 := if nI n &&& (nI n - 1) = 0 then c &&& (nI n - 1) else if c - c / nI n * nI n < 0 then -(c - c / nI n * nI n) else c - c / nI n * nI n
def FchS (S : MI) : MI := upI S 30 22 (S 30 22 + 1)
def Fshut (S : MI) : Nat → MI
  | 0 => S
  | k + 1 => if Fshut S k 208 k < 3 then Fbec (Fshut S k) k 3 else Fshut S k
def TShut (S : MI) (T : ML) (q t : Int64) : Nat → ML
  | 0 => T
  | k + 1 => if Fshut S k 208 k < 3 then upL (upL (upL (upL (TShut S T q t k) 218 k q) 219 k t) 220 k (T 30 2)) 221 k (T 30 2) else TShut S T q t k
abbrev isT (S : MI) (a : Int32) : Prop := 0 ≤ a ∧ a < S 30 3
abbrev isP (S : MI) (a : Int32) : Prop := 0 ≤ a ∧ a < S 30 27
abbrev isC (S : MI) (a : Int32) : Prop := 0 ≤ a ∧ a < S 30 34
abbrev isL (n : Nat) (a : Int32) : Prop := 0 ≤ a ∧ a < nI n
/-- whether an order's numbers are so -/
abbrev Fcan (n : Nat) (S : MI) (k a b : Int32) : Prop :=
  if k = 0 then True else
  if k = 1 then isT S a ∧ (b = -1 ∨ b = -2 ∨ isL n b) else
  if k = 2 then isT S a ∧ 0 ≤ b else
  if k = 3 then 0 ≤ a ∧ a < S 30 23 else
  if k = 4 ∨ k = 5 ∨ k = 6 ∨ k = 8 ∨ k = 13 then isP S a else
  if k = 7 then isP S a ∧ isT S b ∧ (S 229 (N a) ≠ 0 ∨ S 232 (N a) < 6) else
  if k = 10 ∨ k = 11 then isC S a else
  if k = 12 then 0 ≤ a ∧ a ≤ b else False
abbrev PX : Type := MI × ML × Nat
/-- one listener is told -/
def Ltell (D : Nat → Nat → Nat → PX → PX) (th : Int32) (nf fr p t : Nat) (x : PX) : PX :=
  if x.1 228 p = th ∧ nf < 4 then D (nf + 1) fr t (Flog x.1 th 5 (nI t), x.2.1, x.2.2) else (Fput x.1 th (N (x.1 228 p)) 1 (nI t) 0 (nI t), x.2.1, x.2.2)
def Ltells (D : Nat → Nat → Nat → PX → PX) (th : Int32) (nf fr p k : Nat) : Nat → PX → PX
  | 0, x => x
  | m + 1, x => Ltells D th nf fr p k m (Ltell D th nf fr p (N (x.1 233 (6 * p + (k - (m + 1))))) x)
/-- a promise that can't be completed so -/
abbrev noFin (S : MI) (p : Nat) (how : Int32) : Prop := S 229 p ≠ 0 ∨ (how = 3 ∧ S 231 p ≠ 0)
def Ffin (S : MI) (p : Nat) (how v : Int32) : MI := upI (upI (upI S 229 p how) 230 p (if how = 3 then 0 else v)) 232 p 0
def Lfin (D : Nat → Nat → Nat → PX → PX) (th : Int32) (nf fr p : Nat) (how v : Int32) (x : PX) : PX :=
  if noFin x.1 p how then x else Ltells D th nf fr p (N (x.1 232 p)) (N (x.1 232 p)) (Ffin x.1 p how v, x.2.1, x.2.2)
def Flis (S : MI) (p t : Nat) : MI := upI (upI S 233 (6 * p + N (S 232 p)) (nI t)) 232 p (S 232 p + 1)
def Llis (D : Nat → Nat → Nat → PX → PX) (th : Int32) (nf fr p t : Nat) (x : PX) : PX :=
  if x.1 229 p ≠ 0 then Ltell D th nf fr p t x else (Flis x.1 p t, x.2.1, x.2.2)
def Lsend (G : Nat → Nat → Nat → Int32 → PX → PX) (th : Int32) (nf fr c : Nat) (m : Int32) (x : PX) : PX :=
  if x.1 235 c = th ∧ fr < 4 then G nf fr c m x else (Fput x.1 th (N (x.1 235 c)) 2 (nI c) m (-1), x.2.1, x.2.2)
/-- the loop that an EXECUTE goes to -/
def Ftgt (n : Nat) (S : MI) (th b : Int32) : Nat := if b = -1 then N th else if b = -2 then N (Fch n (S 30 22)) else N b
def FtgtS (S : MI) (b : Int32) : MI := if b = -2 then FchS S else S
def Lcarry (n : Nat) (D : Nat → Nat → Nat → PX → PX) (G : Nat → Nat → Nat → Int32 → PX → PX) (th : Int32) (nf fr : Nat) (k a b : Int32) (x : PX) : PX :=
  if k = 0 then (Flog x.1 th 0 a, x.2.1, x.2.2) else
  if k = 1 then (Fput (FtgtS x.1 b) th (Ftgt n x.1 th b) 0 a 0 a, x.2.1, x.2.2) else
  if k = 2 then (Fsch x.1 th (N th) a, TSch x.1 x.2.1 (N th) b.toInt64, x.2.2) else
  if k = 3 then (upI x.1 226 (N a) (-1), x.2.1, x.2.2) else
  if k = 4 then Lfin D th nf fr (N a) 1 b x else
  if k = 5 then Lfin D th nf fr (N a) 2 b x else
  if k = 6 then Lfin D th nf fr (N a) 3 b x else
  if k = 7 then Llis D th nf fr (N a) (N b) x else
  if k = 10 then Lsend G th nf fr (N a) b x else
  if k = 11 then Lsend G th nf fr (N (a ^^^ 1)) b x else
  if k = 12 then (Fshut x.1 n, TShut x.1 x.2.1 a.toInt64 b.toInt64 n, x.2.2) else
  if k = 13 then (upI x.1 231 (N a) 1, x.2.1, x.2.2) else x
/-- the loop th blocks at the promise a, in the task t, with the order o next -/
def Fblk (S : MI) (th t o : Nat) (a : Int32) : MI := upI (upI (upI (upI S 214 th 1) 215 th (nI t)) 216 th (nI o)) 217 th a
/-- an order; 0 it goes on, 1 it threw, 2 the task pauses -/
def Lord (n : Nat) (D : Nat → Nat → Nat → PX → PX) (G : Nat → Nat → Nat → Int32 → PX → PX) (th : Int32) (nf fr : Nat) (k a b : Int32) (x : PX) : PX × Nat :=
  if 1000 ≤ x.2.2 then (x, 1) else
  if ¬ Fcan n x.1 k a b then ((x.1, x.2.1, x.2.2 + 1), 1) else
  if k = 8 then
    if x.1 229 (N a) ≠ 0 then ((x.1, x.2.1, x.2.2 + 1), 0) else
    if 0 < nf ∨ 0 < fr ∨ x.1 228 (N a) = th then ((Flog x.1 th 3 a, x.2.1, x.2.2 + 1), 0) else ((x.1, x.2.1, x.2.2 + 1), 2)
  else (Lcarry n D G th nf fr k a b (x.1, x.2.1, x.2.2 + 1), 0)
def Lords (n : Nat) (D : Nat → Nat → Nat → PX → PX) (G : Nat → Nat → Nat → Int32 → PX → PX) (th : Int32) (nf fr t : Nat) : Nat → Nat → PX → PX
  | 0, _, x => x
  | m + 1, k, x => match Lord n D G th nf fr (x.1 205 (8 * t + k)) (x.1 206 (8 * t + k)) (x.1 207 (8 * t + k)) x with
    | (y, 0) => Lords n D G th nf fr t m (k + 1) y
    | (y, 1) => (Flog y.1 th 2 (nI t), y.2.1, y.2.2)
    | (y, _) => (Fblk y.1 (N th) t (k + 1) (x.1 206 (8 * t + k)), y.2.1, y.2.2)
def Lecho (G : Nat → Nat → Nat → Int32 → PX → PX) (th : Int32) (nf fr c : Nat) (m : Int32) (x : PX) : PX :=
  if x.2.2 < 1000 then Lsend G th nf fr (N (nI c ^^^ 1)) m (x.1, x.2.1, x.2.2 + 1) else x
/-- a message (or what was thrown: f = 2) from the place j of the pipeline on -/
def Lgo (n : Nat) (D : Nat → Nat → Nat → PX → PX) (G : Nat → Nat → Nat → Int32 → PX → PX) (th : Int32) (nf fr c : Nat) : Nat → Nat → Nat → Int32 → PX → PX
  | 0, _, f, ps, x => if f = 0 then (Flog x.1 th 8 ps, x.2.1, x.2.2) else (Flog x.1 th 2 (-1 - nI c), x.2.1, x.2.2)
  | m + 1, j, f, ps, x =>
    if f = 2 then (if x.1 237 (6 * c + j) = 6 then x else Lgo n D G th nf fr c m (j + 1) 2 ps x) else
    if x.1 237 (6 * c + j) = 6 then Lgo n D G th nf fr c m (j + 1) 0 ps x else
    if x.1 237 (6 * c + j) = 1 then Lgo n D G th nf fr c m (j + 1) 0 (ps + x.1 239 (6 * c + j)) (Flog x.1 th 6 (1000000 * x.1 239 (6 * c + j) + ps), x.2.1, x.2.2) else
    if x.1 237 (6 * c + j) = 2 then (if ps &&& 1 = 1 then (Flog x.1 th 6 (1000000 * x.1 239 (6 * c + j) + ps), x.2.1, x.2.2) else Lgo n D G th nf fr c m (j + 1) 0 ps (Flog x.1 th 6 (1000000 * x.1 239 (6 * c + j) + ps), x.2.1, x.2.2)) else
    if x.1 237 (6 * c + j) = 3 then Lgo n D G th nf fr c m (j + 1) 0 ps (Lecho G th nf (fr + 1) c ps (Flog x.1 th 6 (1000000 * x.1 239 (6 * c + j) + ps), x.2.1, x.2.2)) else
    if x.1 237 (6 * c + j) = 4 then Lgo n D G th nf fr c m (j + 1) 0 ps (D nf (fr + 1) (N (x.1 238 (6 * c + j))) (Flog x.1 th 6 (1000000 * x.1 239 (6 * c + j) + ps), x.2.1, x.2.2)) else
    if x.1 237 (6 * c + j) = 5 then Lgo n D G th nf fr c m (j + 1) (if ps - ps / 3 * 3 = 0 then 2 else 0) ps (Flog x.1 th 6 (1000000 * x.1 239 (6 * c + j) + ps), x.2.1, x.2.2) else
    Lgo n D G th nf fr c m (j + 1) 0 ps (Flog x.1 th 6 (1000000 * x.1 239 (6 * c + j) + ps), x.2.1, x.2.2)
/-- the levels of what runs within what -/
def Lv (n : Nat) (th : Int32) : Nat → (Nat → Nat → Nat → PX → PX) × (Nat → Nat → Nat → Int32 → PX → PX)
  | 0 => (fun _ _ _ x => x, fun _ _ _ _ x => x)
  | g + 1 => (fun nf fr t x => Lords n (Lv n th g).1 (Lv n th g).2 th nf fr t (N (x.1 204 t)) 0 x, fun nf fr c m x => Lgo n (Lv n th g).1 (Lv n th g).2 th nf fr c (N (x.1 236 c)) 0 0 m x)
/-! ===== what is always so ===== -/
def nbt (x : Int32) (b : Nat) : Prop := x = nI (N x) ∧ N x < b
def InvT (S : MI) : Prop := nb (S 30 3) 24 ∧ ∀ t, nb (S 204 t) 8
def InvP (n : Nat) (S : MI) : Prop := nb (S 30 27) 32 ∧ ∀ p, p < N (S 30 27) → nbt (S 228 p) n ∧ nb (S 232 p) 6 ∧ ∀ j, j < N (S 232 p) → nbt (S 233 (6 * p + j)) (N (S 30 3))
def InvC (n : Nat) (S : MI) : Prop := nb (S 30 34) 16 ∧ N (S 30 34) % 2 = 0 ∧ ∀ c, c < N (S 30 34) → nbt (S 235 c) n ∧ nb (S 236 c) 6 ∧ ∀ j, j < N (S 236 c) → S 237 (6 * c + j) = 4 → nbt (S 238 (6 * c + j)) (N (S 30 3))
def InvM (n : Nat) (S : MI) : Prop := nb (S 30 23) 400 ∧ ∀ t, t < N (S 30 23) → nbt (S 224 t) (N (S 30 3)) ∧ (S 226 t = -1 ∨ nbt (S 226 t) n)
def InvQ (S : MI) (l : Nat) : Prop := nb (S 209 l) 24 ∧ ∀ i, i < N (S 209 l) → (S 211 (24 * l + i) = 2 ∧ nbt (S 212 (24 * l + i)) (N (S 30 34))) ∨ ((S 211 (24 * l + i) = 0 ∨ S 211 (24 * l + i) = 1) ∧ nbt (S 212 (24 * l + i)) (N (S 30 3)))
def InvB (S : MI) (l : Nat) : Prop := (S 214 l = 0 ∨ S 214 l = 1) ∧ (S 214 l = 1 → nbt (S 215 l) (N (S 30 3)) ∧ nb (S 216 l) 8 ∧ nbt (S 217 l) (N (S 30 27)))
def InvS (S : MI) (l : Nat) : Prop := S 208 l = 1 ∨ S 208 l = 2 ∨ S 208 l = 3 ∨ S 208 l = 4 ∨ S 208 l = 5
def Inv (n : Nat) (S : MI) : Prop := (1 ≤ n ∧ n ≤ 8) ∧ S 30 1 = nI n ∧ InvT S ∧ InvP n S ∧ InvC n S ∧ InvM n S ∧ (∀ l, l < n → InvQ S l ∧ InvB S l ∧ InvS S l) ∧ S 30 41 = nI (N (S 30 41))
end
section
/-! ===== the class's cells beside the reference's memory ===== -/
def CRt (S I : MI) : Prop := I 3 1 = S 30 41 ∧ ∀ i, i < 300 → I 330 (i * 3) = S 242 i ∧ I 330 (i * 3 + 1) = S 243 i ∧ I 330 (i * 3 + 2) = S 244 i
def CRk (S I : MI) : Prop := I 4 4 = S 30 3 ∧ I 340 = S 204 ∧ I 341 = S 205 ∧ I 342 = S 206 ∧ I 343 = S 207
def CRp (S I : MI) : Prop := I 5 6 = S 30 27 ∧ I 350 = S 228 ∧ I 351 = S 229 ∧ I 352 = S 230 ∧ (∀ p, S 229 p = 0 → I 353 p = S 231 p) ∧ I 354 = S 232 ∧ I 355 = S 233
def CRc (S I : MI) : Prop := I 6 5 = S 30 34 ∧ I 6 6 = S 30 40 ∧ I 360 = S 235 ∧ I 361 = S 236 ∧ I 362 = S 237 ∧ I 363 = S 238 ∧ I 364 = S 239
def CRs (S : MI) (T : ML) (I : MI) (L : ML) : Prop := L 2 2 = T 30 2 ∧ I 2 3 = S 30 22 ∧ I 2 4 = S 30 23
def CRq (S I : MI) (l : Nat) : Prop := I (lid l 1) 4 = S 209 l ∧ ∃ f, f < 24 ∧ I (lid l 1) 3 = nI f ∧ ∀ i, i < N (S 209 l) → I (lid l 3) ((f + i) % 24) = S 211 (24 * l + i) ∧ I (lid l 4) ((f + i) % 24) = S 212 (24 * l + i) ∧ I (lid l 5) ((f + i) % 24) = S 213 (24 * l + i)
def CRm (S : MI) (T : ML) (I : MI) (L : ML) (l : Nat) : Prop := I (lid l 2) 3 = nI (Fcnt S l (N (S 30 23))) ∧ Fcnt S l (N (S 30 23)) ≤ 24 ∧
  (∀ k, k < Fcnt S l (N (S 30 23)) → nbt (I (lid l 6) k) (N (S 30 23)) ∧ S 226 (N (I (lid l 6) k)) = nI l ∧ I (lid l 7) k = S 224 (N (I (lid l 6) k)) ∧ L (lid l 8) k = T 225 (N (I (lid l 6) k))) ∧
  (∀ k k', k < Fcnt S l (N (S 30 23)) → k' < Fcnt S l (N (S 30 23)) → I (lid l 6) k = I (lid l 6) k' → k = k') ∧
  (∀ t, t < N (S 30 23) → S 226 t = nI l → ∃ k, k < Fcnt S l (N (S 30 23)) ∧ I (lid l 6) k = nI t)
def CRl (S : MI) (T : ML) (I : MI) (L : ML) (l : Nat) : Prop := I (lid l 0) 2 = S 208 l ∧ I (lid l 0) 3 = S 210 l ∧ (S 214 l = 0 → I (lid l 0) 4 = -1) ∧ (S 214 l = 1 → I (lid l 0) 4 = S 217 l ∧ I (lid l 0) 5 = S 215 l ∧ I (lid l 0) 6 = S 216 l) ∧
  (3 ≤ S 208 l → (I (lid l 0) 7).toInt64 = T 218 l ∧ (I (lid l 0) 8).toInt64 = T 219 l ∧ L (lid l 0) 9 = T 220 l ∧ L (lid l 0) 10 = T 221 l)
def CR (n : Nat) (S : MI) (T : ML) (I : MI) (L : ML) : Prop := CRt S I ∧ CRk S I ∧ CRp S I ∧ CRc S I ∧ CRs S T I L ∧ ∀ l, l < n → CRq S I l ∧ CRm S T I L l ∧ CRl S T I L l
/-- the cells that are not the class's -/
def oth (i : Nat) : Prop := i = 30 ∨ i = 90 ∨ (200 ≤ i ∧ i < 300)
/-- the class's memory beside S, T; w orders done, nf notifications and fr messages open; the other cells as in J, M -/
def CX (n : Nat) (S : MI) (T : ML) (w nf fr : Nat) (J : MI) (M : ML) (I : MI) (L : ML) : Prop := CR n S T I L ∧ Inv n S ∧ (I 1 5 = nI w ∧ I 1 6 = nI nf ∧ I 1 7 = nI fr) ∧ (∀ i, oth i → I i = J i ∧ L i = M i)
theorem lid_ne {l j k : Nat} (h : k < 1000) : (lid l j = k) = False := by
  unfold lid
  simp only [eq_iff_iff, iff_false]
  omega
theorem ne_lid {l j k : Nat} (h : k < 1000) : (k = lid l j) = False := by
  unfold lid
  simp only [eq_iff_iff, iff_false]
  omega
theorem lid_eq {l j l' j' : Nat} (h : j < 10) (h' : j' < 10) : (lid l j = lid l' j') = (l = l' ∧ j = j') := by
  unfold lid
  simp only [eq_iff_iff]
  omega
theorem Fcnt_cong {S S' : MI} {l : Nat} (h : S' 226 = S 226) : ∀ t, Fcnt S' l t = Fcnt S l t
  | 0 => rfl
  | t + 1 => by simp only [Fcnt, h, Fcnt_cong h t]
theorem CRm_cong {S S' I I' : MI} {T T' L L' : ML} {l : Nat} (h : CRm S T I L l) (h1 : S' 30 23 = S 30 23) (h2 : S' 226 = S 226) (h3 : S' 224 = S 224) (h4 : T' 225 = T 225) (i2 : I' (lid l 2) 3 = I (lid l 2) 3) (i6 : I' (lid l 6) = I (lid l 6)) (i7 : I' (lid l 7) = I (lid l 7)) (i8 : L' (lid l 8) = L (lid l 8)) : CRm S' T' I' L' l := by
  unfold CRm at h ⊢
  rw [h1, h2, h3, h4, i2, i6, i7, i8, Fcnt_cong h2]
  exact h
theorem CRq_cong {S S' I I' : MI} {l : Nat} (h : CRq S I l) (h1 : S' 209 l = S 209 l) (h2 : S' 211 = S 211) (h3 : S' 212 = S 212) (h4 : S' 213 = S 213) (i1 : I' (lid l 1) = I (lid l 1)) (i3 : I' (lid l 3) = I (lid l 3)) (i4 : I' (lid l 4) = I (lid l 4)) (i5 : I' (lid l 5) = I (lid l 5)) : CRq S' I' l := by
  unfold CRq at h ⊢
  rw [h1, h2, h3, h4, i1, i3, i4, i5]
  exact h
theorem CRl_cong {S S' I I' : MI} {T T' L L' : ML} {l : Nat} (h : CRl S T I L l) (h1 : S' 208 l = S 208 l) (h2 : S' 210 l = S 210 l) (h3 : S' 214 l = S 214 l) (h4 : S' 215 l = S 215 l) (h5 : S' 216 l = S 216 l) (h6 : S' 217 l = S 217 l) (t1 : T' 218 l = T 218 l) (t2 : T' 219 l = T 219 l) (t3 : T' 220 l = T 220 l) (t4 : T' 221 l = T 221 l) (i0 : I' (lid l 0) = I (lid l 0)) (i1 : L' (lid l 0) = L (lid l 0)) : CRl S' T' I' L' l := by
  unfold CRl at h ⊢
  rw [h1, h2, h3, h4, h5, h6, t1, t2, t3, t4, i0, i1]
  exact h
theorem CR_log {n : Nat} {S I : MI} {T L : ML} {c : Nat} (t k v : Int32) (h : CR n S T I L) (hc : S 30 41 = nI c) (hcb : c < 2 ^ 31) : CR n (Flog S t k v) T (Clog I c t k v) L := by
  obtain ⟨h1, h2, h3, h4, h5, h6⟩ := h
  have hN : N (S 30 41) = c := by rw [hc]; exact N_nI hcb
  refine ⟨⟨?_, fun i hi => ?_⟩, ?_, ?_, ?_, ?_, fun l hl => ⟨?_, ?_, ?_⟩⟩
  · simp [Flog, Rlog, Clog, rdI, hN]
  · obtain ⟨a1, a2, a3⟩ := h1.2 i hi
    by_cases e : i = c % 300
    · subst e
      simp [Flog, Rlog, Clog, rdI, hN]
    · have e1 : ¬ i * 3 = c % 300 * 3 := by omega
      have e2 : ¬ i * 3 = c % 300 * 3 + 1 := by omega
      have e3 : ¬ i * 3 = c % 300 * 3 + 2 := by omega
      have e4 : ¬ i * 3 + 1 = c % 300 * 3 := by omega
      have e5 : ¬ i * 3 + 1 = c % 300 * 3 + 2 := by omega
      have e6 : ¬ i * 3 + 2 = c % 300 * 3 := by omega
      have e7 : ¬ i * 3 + 2 = c % 300 * 3 + 1 := by omega
      simp [Flog, Rlog, Clog, rdI, hN, e, e1, e2, e3, e4, e5, e6, e7, a1, a2, a3]
  · simpa [CRk, Flog, Rlog, Clog, upI_ne, rdI] using h2
  · simpa [CRp, Flog, Rlog, Clog, upI_ne, rdI] using h3
  · simpa [CRc, Flog, Rlog, Clog, upI_ne, rdI] using h4
  · simpa [CRs, Flog, Rlog, Clog, upI_ne, rdI] using h5
  · exact CRq_cong (h6 l hl).1 (by simp [Flog, Rlog, rdI]) (by simp [Flog, Rlog, upI_ne]) (by simp [Flog, Rlog, upI_ne]) (by simp [Flog, Rlog, upI_ne]) (by simp [Clog, upI_ne, lid_ne]) (by simp [Clog, upI_ne, lid_ne]) (by simp [Clog, upI_ne, lid_ne]) (by simp [Clog, upI_ne, lid_ne])
  · exact CRm_cong (h6 l hl).2.1 (by simp [Flog, Rlog, rdI]) (by simp [Flog, Rlog, upI_ne]) (by simp [Flog, Rlog, upI_ne]) rfl (by simp [Clog, upI_ne, lid_ne]) (by simp [Clog, upI_ne, lid_ne]) (by simp [Clog, upI_ne, lid_ne]) rfl
  · exact CRl_cong (h6 l hl).2.2 (by simp [Flog, Rlog, rdI]) (by simp [Flog, Rlog, rdI]) (by simp [Flog, Rlog, rdI]) (by simp [Flog, Rlog, rdI]) (by simp [Flog, Rlog, rdI]) (by simp [Flog, Rlog, rdI]) rfl rfl rfl rfl (by simp [Clog, upI_ne, lid_ne]) rfl
end
section
/-! ===== the class's leaves: reads ===== -/
theorem gl_321 (n : Nat) : gl n 321 = n := rfl
def bI (p : Prop) [Decidable p] : Int32 := if p then 1 else 0
theorem bI_z {p : Prop} [Decidable p] : (bI p = 0) = ¬ p := by
  unfold bI
  split <;> rename_i h <;> simp [h]
theorem bI_t {p : Prop} [Decidable p] (h : p) : bI p = 1 := if_pos h
theorem bI_f {p : Prop} [Decidable p] (h : ¬ p) : bI p = 0 := if_neg h
theorem bI_nar {p : Prop} [Decidable p] : narrow .boolean (.int (bI p)) = .int (bI p) := by
  unfold bI
  split <;> decide
section
variable (l : Launch) (n : Nat) (hn : n < 2 ^ 31) (d : Nat) (I : MI) (L : ML)
set_option maxHeartbeats 4000000 in
set_option maxRecDepth 100000 in
theorem c_tasks_has (x : Int32)  : VM l n m_X6_has d 0 [.ref 4, .int x] I L (fun r I' L' => r = some (.int (bI (0 ≤ x ∧ x < I 4 4))) ∧ I' = I ∧ L' = L) noX := by
  refine VM_of _ [(0, .ref 4), (1, .int x)] rfl (fun a => Nat.le_of_ble_eq_true rfl) rfl ?_
  refine q_iload_n dX6_has_0 rfl ?_
  refine q_if_lt 16 dX6_has_1 (by decide) (fun h1 => ?_) (fun h1 => ?_)
  · refine q_iconst (0) dX6_has_16 (by decide) ?_
    refine q_zret dX6_has_17 rfl (by omega) (by decide) ?_
    refine ⟨?_, rfl, rfl⟩; unfold bI; split <;> first | rfl | (exfalso; (try simp only [bI_z, ne_eq, Decidable.not_not] at *); simp only [Int32.lt_iff_toInt_lt, Int32.le_iff_toInt_le, Int32.toInt_zero, gl_321, ← Int32.toInt_inj, ne_eq] at *; omega)
  · refine q_iload_n dX6_has_4 rfl ?_
    refine q_aload_n dX6_has_5 rfl ?_
    refine q_getI 4 6 4 (is_4 n) (by decide) rfl (by decide) f_X6_22 rfl dX6_has_6 ?_
    refine q_icmp_ge 16 dX6_has_9 (by decide) (fun h9 => ?_) (fun h9 => ?_)
    · refine q_iconst (0) dX6_has_16 (by decide) ?_
      refine q_zret dX6_has_17 rfl (by omega) (by decide) ?_
      refine ⟨?_, rfl, rfl⟩; unfold bI; split <;> first | rfl | (exfalso; (try simp only [bI_z, ne_eq, Decidable.not_not] at *); simp only [Int32.lt_iff_toInt_lt, Int32.le_iff_toInt_le, Int32.toInt_zero, gl_321, ← Int32.toInt_inj, ne_eq] at *; omega)
    · refine q_iconst (1) dX6_has_12 (by decide) ?_
      refine q_goto 17 dX6_has_13 (by decide) ?_
      refine q_zret dX6_has_17 rfl (by omega) (by decide) ?_
      refine ⟨?_, rfl, rfl⟩; unfold bI; split <;> first | rfl | (exfalso; (try simp only [bI_z, ne_eq, Decidable.not_not] at *); simp only [Int32.lt_iff_toInt_lt, Int32.le_iff_toInt_le, Int32.toInt_zero, gl_321, ← Int32.toInt_inj, ne_eq] at *; omega)
set_option maxHeartbeats 4000000 in
set_option maxRecDepth 100000 in
theorem c_promises_has (x : Int32)  : VM l n m_X2_has d 0 [.ref 5, .int x] I L (fun r I' L' => r = some (.int (bI (0 ≤ x ∧ x < I 5 6))) ∧ I' = I ∧ L' = L) noX := by
  refine VM_of _ [(0, .ref 5), (1, .int x)] rfl (fun a => Nat.le_of_ble_eq_true rfl) rfl ?_
  refine q_iload_n dX2_has_0 rfl ?_
  refine q_if_lt 16 dX2_has_1 (by decide) (fun h1 => ?_) (fun h1 => ?_)
  · refine q_iconst (0) dX2_has_16 (by decide) ?_
    refine q_zret dX2_has_17 rfl (by omega) (by decide) ?_
    refine ⟨?_, rfl, rfl⟩; unfold bI; split <;> first | rfl | (exfalso; (try simp only [bI_z, ne_eq, Decidable.not_not] at *); simp only [Int32.lt_iff_toInt_lt, Int32.le_iff_toInt_le, Int32.toInt_zero, gl_321, ← Int32.toInt_inj, ne_eq] at *; omega)
  · refine q_iload_n dX2_has_4 rfl ?_
    refine q_aload_n dX2_has_5 rfl ?_
    refine q_getI 5 2 6 (is_5 n) (by decide) rfl (by decide) f_X2_29 rfl dX2_has_6 ?_
    refine q_icmp_ge 16 dX2_has_9 (by decide) (fun h9 => ?_) (fun h9 => ?_)
    · refine q_iconst (0) dX2_has_16 (by decide) ?_
      refine q_zret dX2_has_17 rfl (by omega) (by decide) ?_
      refine ⟨?_, rfl, rfl⟩; unfold bI; split <;> first | rfl | (exfalso; (try simp only [bI_z, ne_eq, Decidable.not_not] at *); simp only [Int32.lt_iff_toInt_lt, Int32.le_iff_toInt_le, Int32.toInt_zero, gl_321, ← Int32.toInt_inj, ne_eq] at *; omega)
    · refine q_iconst (1) dX2_has_12 (by decide) ?_
      refine q_goto 17 dX2_has_13 (by decide) ?_
      refine q_zret dX2_has_17 rfl (by omega) (by decide) ?_
      refine ⟨?_, rfl, rfl⟩; unfold bI; split <;> first | rfl | (exfalso; (try simp only [bI_z, ne_eq, Decidable.not_not] at *); simp only [Int32.lt_iff_toInt_lt, Int32.le_iff_toInt_le, Int32.toInt_zero, gl_321, ← Int32.toInt_inj, ne_eq] at *; omega)
set_option maxHeartbeats 4000000 in
set_option maxRecDepth 100000 in
theorem c_channels_has (x : Int32)  : VM l n m_X0_has d 0 [.ref 6, .int x] I L (fun r I' L' => r = some (.int (bI (0 ≤ x ∧ x < I 6 5))) ∧ I' = I ∧ L' = L) noX := by
  refine VM_of _ [(0, .ref 6), (1, .int x)] rfl (fun a => Nat.le_of_ble_eq_true rfl) rfl ?_
  refine q_iload_n dX0_has_0 rfl ?_
  refine q_if_lt 16 dX0_has_1 (by decide) (fun h1 => ?_) (fun h1 => ?_)
  · refine q_iconst (0) dX0_has_16 (by decide) ?_
    refine q_zret dX0_has_17 rfl (by omega) (by decide) ?_
    refine ⟨?_, rfl, rfl⟩; unfold bI; split <;> first | rfl | (exfalso; (try simp only [bI_z, ne_eq, Decidable.not_not] at *); simp only [Int32.lt_iff_toInt_lt, Int32.le_iff_toInt_le, Int32.toInt_zero, gl_321, ← Int32.toInt_inj, ne_eq] at *; omega)
  · refine q_iload_n dX0_has_4 rfl ?_
    refine q_aload_n dX0_has_5 rfl ?_
    refine q_getI 6 0 5 (is_6 n) (by decide) rfl (by decide) f_X0_25 rfl dX0_has_6 ?_
    refine q_icmp_ge 16 dX0_has_9 (by decide) (fun h9 => ?_) (fun h9 => ?_)
    · refine q_iconst (0) dX0_has_16 (by decide) ?_
      refine q_zret dX0_has_17 rfl (by omega) (by decide) ?_
      refine ⟨?_, rfl, rfl⟩; unfold bI; split <;> first | rfl | (exfalso; (try simp only [bI_z, ne_eq, Decidable.not_not] at *); simp only [Int32.lt_iff_toInt_lt, Int32.le_iff_toInt_le, Int32.toInt_zero, gl_321, ← Int32.toInt_inj, ne_eq] at *; omega)
    · refine q_iconst (1) dX0_has_12 (by decide) ?_
      refine q_goto 17 dX0_has_13 (by decide) ?_
      refine q_zret dX0_has_17 rfl (by omega) (by decide) ?_
      refine ⟨?_, rfl, rfl⟩; unfold bI; split <;> first | rfl | (exfalso; (try simp only [bI_z, ne_eq, Decidable.not_not] at *); simp only [Int32.lt_iff_toInt_lt, Int32.le_iff_toInt_le, Int32.toInt_zero, gl_321, ← Int32.toInt_inj, ne_eq] at *; omega)
set_option maxHeartbeats 4000000 in
set_option maxRecDepth 100000 in
theorem c_sched_has (x : Int32)  : VM l n m_X5_has d 0 [.ref 2, .int x] I L (fun r I' L' => r = some (.int (bI (0 ≤ x ∧ x < nI n))) ∧ I' = I ∧ L' = L) noX := by
  refine VM_of _ [(0, .ref 2), (1, .int x)] rfl (fun a => Nat.le_of_ble_eq_true rfl) rfl ?_
  refine q_iload_n dX5_has_0 rfl ?_
  refine q_if_lt 17 dX5_has_1 (by decide) (fun h1 => ?_) (fun h1 => ?_)
  · refine q_iconst (0) dX5_has_17 (by decide) ?_
    refine q_zret dX5_has_18 rfl (by omega) (by decide) ?_
    refine ⟨?_, rfl, rfl⟩; unfold bI; split <;> first | rfl | (exfalso; (try simp only [bI_z, ne_eq, Decidable.not_not] at *); simp only [Int32.lt_iff_toInt_lt, Int32.le_iff_toInt_le, Int32.toInt_zero, gl_321, ← Int32.toInt_inj, ne_eq] at *; omega)
  · refine q_iload_n dX5_has_4 rfl ?_
    refine q_aload_n dX5_has_5 rfl ?_
    refine q_getR 2 5 1 321 (is_2 n) (by decide) rfl rfl (by decide) f_X5_20 rfl dX5_has_6 ?_
    refine q_alenI 321 (is_321 n) dX5_has_9 ?_
    refine q_icmp_ge 17 dX5_has_10 (by decide) (fun h10 => ?_) (fun h10 => ?_)
    · refine q_iconst (0) dX5_has_17 (by decide) ?_
      refine q_zret dX5_has_18 rfl (by omega) (by decide) ?_
      refine ⟨?_, rfl, rfl⟩; unfold bI; split <;> first | rfl | (exfalso; (try simp only [bI_z, ne_eq, Decidable.not_not] at *); simp only [Int32.lt_iff_toInt_lt, Int32.le_iff_toInt_le, Int32.toInt_zero, gl_321, ← Int32.toInt_inj, ne_eq] at *; omega)
    · refine q_iconst (1) dX5_has_13 (by decide) ?_
      refine q_goto 18 dX5_has_14 (by decide) ?_
      refine q_zret dX5_has_18 rfl (by omega) (by decide) ?_
      refine ⟨?_, rfl, rfl⟩; unfold bI; split <;> first | rfl | (exfalso; (try simp only [bI_z, ne_eq, Decidable.not_not] at *); simp only [Int32.lt_iff_toInt_lt, Int32.le_iff_toInt_le, Int32.toInt_zero, gl_321, ← Int32.toInt_inj, ne_eq] at *; omega)
set_option maxHeartbeats 4000000 in
set_option maxRecDepth 100000 in
theorem c_canShut (q t : Int32)  : VM l n m_X5_canShut d 0 [.ref 2, .int q, .int t] I L (fun r I' L' => r = some (.int (bI (0 ≤ q ∧ q ≤ t))) ∧ I' = I ∧ L' = L) noX := by
  refine VM_of _ [(0, .ref 2), (1, .int q), (2, .int t)] rfl (fun a => Nat.le_of_ble_eq_true rfl) rfl ?_
  refine q_iload_n dX5_canShut_0 rfl ?_
  refine q_if_lt 13 dX5_canShut_1 (by decide) (fun h1 => ?_) (fun h1 => ?_)
  · refine q_iconst (0) dX5_canShut_13 (by decide) ?_
    refine q_zret dX5_canShut_14 rfl (by omega) (by decide) ?_
    refine ⟨?_, rfl, rfl⟩; unfold bI; split <;> first | rfl | (exfalso; (try simp only [bI_z, ne_eq, Decidable.not_not] at *); simp only [Int32.lt_iff_toInt_lt, Int32.le_iff_toInt_le, Int32.toInt_zero, gl_321, ← Int32.toInt_inj, ne_eq] at *; omega)
  · refine q_iload_n dX5_canShut_4 rfl ?_
    refine q_iload_n dX5_canShut_5 rfl ?_
    refine q_icmp_lt 13 dX5_canShut_6 (by decide) (fun h6 => ?_) (fun h6 => ?_)
    · refine q_iconst (0) dX5_canShut_13 (by decide) ?_
      refine q_zret dX5_canShut_14 rfl (by omega) (by decide) ?_
      refine ⟨?_, rfl, rfl⟩; unfold bI; split <;> first | rfl | (exfalso; (try simp only [bI_z, ne_eq, Decidable.not_not] at *); simp only [Int32.lt_iff_toInt_lt, Int32.le_iff_toInt_le, Int32.toInt_zero, gl_321, ← Int32.toInt_inj, ne_eq] at *; omega)
    · refine q_iconst (1) dX5_canShut_9 (by decide) ?_
      refine q_goto 14 dX5_canShut_10 (by decide) ?_
      refine q_zret dX5_canShut_14 rfl (by omega) (by decide) ?_
      refine ⟨?_, rfl, rfl⟩; unfold bI; split <;> first | rfl | (exfalso; (try simp only [bI_z, ne_eq, Decidable.not_not] at *); simp only [Int32.lt_iff_toInt_lt, Int32.le_iff_toInt_le, Int32.toInt_zero, gl_321, ← Int32.toInt_inj, ne_eq] at *; omega)
set_option maxHeartbeats 4000000 in
set_option maxRecDepth 100000 in
theorem c_isFull (i : Nat) (hi : i < n) : VM l n m_X3_isFull d 0 [.ref (lid i 1)] I L (fun r I' L' => r = some (.int (bI (24 ≤ I (lid i 1) 4))) ∧ I' = I ∧ L' = L) noX := by
  refine VM_of _ [(0, .ref (lid i 1))] rfl (fun a => Nat.le_of_ble_eq_true rfl) rfl ?_
  refine q_aload_n dX3_isFull_0 rfl ?_
  refine q_getI (lid i 1) 3 4 (vq_isL hi 1 (by decide) rfl) (by decide) rfl (by decide) f_X3_19 rfl dX3_isFull_1 ?_
  refine q_bipush (24) dX3_isFull_4 (by decide) ?_
  refine q_icmp_lt 13 dX3_isFull_6 (by decide) (fun h6 => ?_) (fun h6 => ?_)
  · refine q_iconst (0) dX3_isFull_13 (by decide) ?_
    refine q_zret dX3_isFull_14 rfl (by omega) (by decide) ?_
    refine ⟨?_, rfl, rfl⟩; unfold bI; split <;> first | rfl | (exfalso; (try simp only [bI_z, ne_eq, Decidable.not_not] at *); simp only [Int32.lt_iff_toInt_lt, Int32.le_iff_toInt_le, Int32.toInt_zero, gl_321, ← Int32.toInt_inj, ne_eq] at *; omega)
  · refine q_iconst (1) dX3_isFull_9 (by decide) ?_
    refine q_goto 14 dX3_isFull_10 (by decide) ?_
    refine q_zret dX3_isFull_14 rfl (by omega) (by decide) ?_
    refine ⟨?_, rfl, rfl⟩; unfold bI; split <;> first | rfl | (exfalso; (try simp only [bI_z, ne_eq, Decidable.not_not] at *); simp only [Int32.lt_iff_toInt_lt, Int32.le_iff_toInt_le, Int32.toInt_zero, gl_321, ← Int32.toInt_inj, ne_eq] at *; omega)
set_option maxHeartbeats 4000000 in
set_option maxRecDepth 100000 in
theorem c_isPending (x : Nat) (hn : n < 2 ^ 31) (hx : x < 32) : VM l n m_X2_isPending d 0 [.ref 5, .int (nI x)] I L (fun r I' L' => r = some (.int (bI (I 351 x = 0))) ∧ I' = I ∧ L' = L) noX := by
  refine VM_of _ [(0, .ref 5), (1, .int (nI x))] rfl (fun a => Nat.le_of_ble_eq_true rfl) rfl ?_
  refine q_aload_n dX2_isPending_0 rfl ?_
  refine q_getR 5 2 1 351 (is_5 n) (by decide) rfl rfl (by decide) f_X2_13 rfl dX2_isPending_1 ?_
  refine q_iload_n dX2_isPending_4 rfl ?_
  refine q_iald 351 (x) hn (is_351 n) rfl hx dX2_isPending_5 ?_
  refine q_if_ne 13 dX2_isPending_6 (by decide) (fun h6 => ?_) (fun h6 => ?_)
  · refine q_iconst (0) dX2_isPending_13 (by decide) ?_
    refine q_zret dX2_isPending_14 rfl (by omega) (by decide) ?_
    refine ⟨?_, rfl, rfl⟩; unfold bI; split <;> first | rfl | (exfalso; (try simp only [bI_z, ne_eq, Decidable.not_not] at *); simp only [Int32.lt_iff_toInt_lt, Int32.le_iff_toInt_le, Int32.toInt_zero, gl_321, ← Int32.toInt_inj, ne_eq] at *; omega)
  · refine q_iconst (1) dX2_isPending_9 (by decide) ?_
    refine q_goto 14 dX2_isPending_10 (by decide) ?_
    refine q_zret dX2_isPending_14 rfl (by omega) (by decide) ?_
    refine ⟨?_, rfl, rfl⟩; unfold bI; split <;> first | rfl | (exfalso; (try simp only [bI_z, ne_eq, Decidable.not_not] at *); simp only [Int32.lt_iff_toInt_lt, Int32.le_iff_toInt_le, Int32.toInt_zero, gl_321, ← Int32.toInt_inj, ne_eq] at *; omega)
set_option maxHeartbeats 4000000 in
set_option maxRecDepth 100000 in
theorem c_takes (x : Nat) (hn : n < 2 ^ 31) (hx : x < 32) (hd : 1 ≤ d) : VM l n m_X2_takesListener d 0 [.ref 5, .int (nI x)] I L (fun r I' L' => r = some (.int (bI (I 351 x ≠ 0 ∨ I 354 x < 6))) ∧ I' = I ∧ L' = L) noX := by
  refine VM_of _ [(0, .ref 5), (1, .int (nI x))] rfl (fun a => Nat.le_of_ble_eq_true rfl) rfl ?_
  refine q_aload_n dX2_takesListener_0 rfl ?_
  refine q_iload_n dX2_takesListener_1 rfl ?_
  refine q_calli [.int _] o_X2_isPending rfl k_X2_33 rfl (is_5 n) (by decide) rfl dX2_takesListener_2 (by decide) (by omega) (by decide) (by omega) (Or.inr rfl) (c_isPending l n (d - 1) I L x hn hx) (fun _ _ _ h => h.elim) (fun r1 I1 L1 hq => ?_)
  obtain ⟨e1, rfl, rfl⟩ := hq; cases e1
  refine q_if_eq 19 dX2_takesListener_5 (by decide) (fun h5 => ?_) (fun h5 => ?_)
  · refine q_iconst (1) dX2_takesListener_19 (by decide) ?_
    refine q_goto 24 dX2_takesListener_20 (by decide) ?_
    refine q_zret dX2_takesListener_24 rfl (by omega) (by decide) ?_
    refine ⟨?_, rfl, rfl⟩; unfold bI; split <;> first | rfl | (exfalso; (try simp only [bI_z, ne_eq, Decidable.not_not] at *); simp only [Int32.lt_iff_toInt_lt, Int32.le_iff_toInt_le, Int32.toInt_zero, gl_321, ← Int32.toInt_inj, ne_eq] at *; omega)
  · refine q_aload_n dX2_takesListener_8 rfl ?_
    refine q_getR 5 2 4 354 (is_5 n) (by decide) rfl rfl (by decide) f_X2_23 rfl dX2_takesListener_9 ?_
    refine q_iload_n dX2_takesListener_12 rfl ?_
    refine q_iald 354 (x) hn (is_354 n) rfl hx dX2_takesListener_13 ?_
    refine q_bipush (6) dX2_takesListener_14 (by decide) ?_
    refine q_icmp_ge 23 dX2_takesListener_16 (by decide) (fun h16 => ?_) (fun h16 => ?_)
    · refine q_iconst (0) dX2_takesListener_23 (by decide) ?_
      refine q_zret dX2_takesListener_24 rfl (by omega) (by decide) ?_
      refine ⟨?_, rfl, rfl⟩; unfold bI; split <;> first | rfl | (exfalso; (try simp only [bI_z, ne_eq, Decidable.not_not] at *); simp only [Int32.lt_iff_toInt_lt, Int32.le_iff_toInt_le, Int32.toInt_zero, gl_321, ← Int32.toInt_inj, ne_eq] at *; omega)
    · refine q_iconst (1) dX2_takesListener_19 (by decide) ?_
      refine q_goto 24 dX2_takesListener_20 (by decide) ?_
      refine q_zret dX2_takesListener_24 rfl (by omega) (by decide) ?_
      refine ⟨?_, rfl, rfl⟩; unfold bI; split <;> first | rfl | (exfalso; (try simp only [bI_z, ne_eq, Decidable.not_not] at *); simp only [Int32.lt_iff_toInt_lt, Int32.le_iff_toInt_le, Int32.toInt_zero, gl_321, ← Int32.toInt_inj, ne_eq] at *; omega)
set_option maxHeartbeats 4000000 in
set_option maxRecDepth 100000 in
theorem c_keeps (x : Int32)  : VM l n m_X8_keeps d 0 [.ref 3, .int x] I L (fun r I' L' => r = some (.int (bI (0 ≤ x ∧ x < I 3 1 ∧ I 3 1 - 300 ≤ x))) ∧ I' = I ∧ L' = L) noX := by
  refine VM_of _ [(0, .ref 3), (1, .int x)] rfl (fun a => Nat.le_of_ble_eq_true rfl) rfl ?_
  refine q_iload_n dX8_keeps_0 rfl ?_
  refine q_if_lt 28 dX8_keeps_1 (by decide) (fun h1 => ?_) (fun h1 => ?_)
  · refine q_iconst (0) dX8_keeps_28 (by decide) ?_
    refine q_zret dX8_keeps_29 rfl (by omega) (by decide) ?_
    refine ⟨?_, rfl, rfl⟩; unfold bI; split <;> first | rfl | (exfalso; (try simp only [bI_z, ne_eq, Decidable.not_not] at *); simp only [Int32.lt_iff_toInt_lt, Int32.le_iff_toInt_le, Int32.toInt_zero, gl_321, ← Int32.toInt_inj, ne_eq] at *; omega)
  · refine q_iload_n dX8_keeps_4 rfl ?_
    refine q_aload_n dX8_keeps_5 rfl ?_
    refine q_getI 3 8 1 (is_3 n) (by decide) rfl (by decide) f_X8_13 rfl dX8_keeps_6 ?_
    refine q_icmp_ge 28 dX8_keeps_9 (by decide) (fun h9 => ?_) (fun h9 => ?_)
    · refine q_iconst (0) dX8_keeps_28 (by decide) ?_
      refine q_zret dX8_keeps_29 rfl (by omega) (by decide) ?_
      refine ⟨?_, rfl, rfl⟩; unfold bI; split <;> first | rfl | (exfalso; (try simp only [bI_z, ne_eq, Decidable.not_not] at *); simp only [Int32.lt_iff_toInt_lt, Int32.le_iff_toInt_le, Int32.toInt_zero, gl_321, ← Int32.toInt_inj, ne_eq] at *; omega)
    · refine q_iload_n dX8_keeps_12 rfl ?_
      refine q_aload_n dX8_keeps_13 rfl ?_
      refine q_getI 3 8 1 (is_3 n) (by decide) rfl (by decide) f_X8_13 rfl dX8_keeps_14 ?_
      refine q_sipush (300) dX8_keeps_17 (by decide) ?_
      refine q_isub dX8_keeps_20 ?_
      refine q_icmp_lt 28 dX8_keeps_21 (by decide) (fun h21 => ?_) (fun h21 => ?_)
      · refine q_iconst (0) dX8_keeps_28 (by decide) ?_
        refine q_zret dX8_keeps_29 rfl (by omega) (by decide) ?_
        refine ⟨?_, rfl, rfl⟩; unfold bI; split <;> first | rfl | (exfalso; (try simp only [bI_z, ne_eq, Decidable.not_not] at *); simp only [Int32.lt_iff_toInt_lt, Int32.le_iff_toInt_le, Int32.toInt_zero, gl_321, ← Int32.toInt_inj, ne_eq] at *; omega)
      · refine q_iconst (1) dX8_keeps_24 (by decide) ?_
        refine q_goto 29 dX8_keeps_25 (by decide) ?_
        refine q_zret dX8_keeps_29 rfl (by omega) (by decide) ?_
        refine ⟨?_, rfl, rfl⟩; unfold bI; split <;> first | rfl | (exfalso; (try simp only [bI_z, ne_eq, Decidable.not_not] at *); simp only [Int32.lt_iff_toInt_lt, Int32.le_iff_toInt_le, Int32.toInt_zero, gl_321, ← Int32.toInt_inj, ne_eq] at *; omega)
set_option maxHeartbeats 4000000 in
set_option maxRecDepth 100000 in
theorem c_peer (x : Int32)  : VM l n m_X0_peer d 0 [.ref 6, .int x] I L (fun r I' L' => r = some (.int (x ^^^ 1)) ∧ I' = I ∧ L' = L) noX := by
  refine VM_of _ [(0, .ref 6), (1, .int x)] rfl (fun a => Nat.le_of_ble_eq_true rfl) rfl ?_
  refine q_iload_n dX0_peer_0 rfl ?_
  refine q_iconst (1) dX0_peer_1 (by decide) ?_
  refine q_ixor dX0_peer_2 ?_
  refine q_iret dX0_peer_3 rfl (by omega) ?_
  exact ⟨rfl, rfl, rfl⟩
set_option maxHeartbeats 4000000 in
set_option maxRecDepth 100000 in
theorem c_read (x w : Nat) (hn : n < 2 ^ 31) (hx : x < 2 ^ 31) (hw : w < 3) : VM l n m_X8_read d 0 [.ref 3, .int (nI x), .int (nI w)] I L (fun r I' L' => r = some (.int (I 330 (x % 300 * 3 + w))) ∧ I' = I ∧ L' = L) noX := by
  refine VM_of _ [(0, .ref 3), (1, .int (nI x)), (2, .int (nI w))] rfl (fun a => Nat.le_of_ble_eq_true rfl) rfl ?_
  have h3 : x % 300 < 300 := Nat.mod_lt _ (by decide)
  refine q_aload_n dX8_read_0 rfl ?_
  refine q_getR 3 8 0 330 (is_3 n) (by decide) rfl rfl (by decide) f_X8_9 rfl dX8_read_1 ?_
  refine q_iload_n dX8_read_4 rfl ?_
  refine q_sipush (300) dX8_read_5 (by decide) ?_
  refine q_irem dX8_read_8 (by decide) ?_
  refine q_iconst (3) dX8_read_9 (by decide) ?_
  refine q_imul dX8_read_10 ?_
  refine q_iload_n dX8_read_11 rfl ?_
  refine q_iadd dX8_read_12 ?_
  refine q_iald 330 (x % 300 * 3 + w) hn (is_330 n) (by rw [nI_rem (z := 300) (c := x) (k := 300) rfl rfl hx (by decide) (by decide)]; exact (congrArg (· + nI w) (pk_mul _ 3)).trans (nI_add _ _)) (by show _ < 900; omega) dX8_read_13 ?_
  refine q_iret dX8_read_14 rfl (by omega) ?_
  exact ⟨rfl, rfl, rfl⟩
set_option maxHeartbeats 4000000 in
set_option maxRecDepth 100000 in
theorem c_isBefore (i j k : Nat) (hn : n < 2 ^ 31) (hi : i < n) (hj : j < 24) (hk : k < 24) : VM l n m_X7_isBefore d 0 [.ref (lid i 2), .int (nI j), .int (nI k)] I L (fun r I' L' => r = some (.int (bI (if L (lid i 8) j = L (lid i 8) k then I (lid i 6) j < I (lid i 6) k else L (lid i 8) j < L (lid i 8) k))) ∧ I' = I ∧ L' = L) noX := by
  refine VM_of _ [(0, .ref (lid i 2)), (1, .int (nI j)), (2, .int (nI k))] rfl (fun a => Nat.le_of_ble_eq_true rfl) rfl ?_
  have e8 := gl_lid n i 8
  have e6 := gl_lid n i 6
  refine q_aload_n dX7_isBefore_0 rfl ?_
  refine q_getR (lid i 2) 7 2 (lid i 8) (vq_isL hi 2 (by decide) rfl) (by decide) rfl ((gr_lid i 2 2 (by decide)).trans rfl) (by decide) f_X7_18 rfl dX7_isBefore_1 ?_
  refine q_iload_n dX7_isBefore_4 rfl ?_
  refine q_lald (lid i 8) (j) hn (vq_isL hi 8 (by decide) rfl) rfl (by rw [e8]; exact hj) dX7_isBefore_5 ?_
  refine q_aload_n dX7_isBefore_6 rfl ?_
  refine q_getR (lid i 2) 7 2 (lid i 8) (vq_isL hi 2 (by decide) rfl) (by decide) rfl ((gr_lid i 2 2 (by decide)).trans rfl) (by decide) f_X7_18 rfl dX7_isBefore_7 ?_
  refine q_iload_n dX7_isBefore_10 rfl ?_
  refine q_lald (lid i 8) (k) hn (vq_isL hi 8 (by decide) rfl) rfl (by rw [e8]; exact hk) dX7_isBefore_11 ?_
  refine q_lcmp dX7_isBefore_12 ?_
  refine q_if_eq 40 dX7_isBefore_13 (by decide) (fun h13 => ?_) (fun h13 => ?_)
  · refine q_aload_n dX7_isBefore_40 rfl ?_
    refine q_getR (lid i 2) 7 0 (lid i 6) (vq_isL hi 2 (by decide) rfl) (by decide) rfl ((gr_lid i 2 0 (by decide)).trans rfl) (by decide) f_X7_11 rfl dX7_isBefore_41 ?_
    refine q_iload_n dX7_isBefore_44 rfl ?_
    refine q_iald (lid i 6) (j) hn (vq_isL hi 6 (by decide) rfl) rfl (by rw [e6]; exact hj) dX7_isBefore_45 ?_
    refine q_aload_n dX7_isBefore_46 rfl ?_
    refine q_getR (lid i 2) 7 0 (lid i 6) (vq_isL hi 2 (by decide) rfl) (by decide) rfl ((gr_lid i 2 0 (by decide)).trans rfl) (by decide) f_X7_11 rfl dX7_isBefore_47 ?_
    refine q_iload_n dX7_isBefore_50 rfl ?_
    refine q_iald (lid i 6) (k) hn (vq_isL hi 6 (by decide) rfl) rfl (by rw [e6]; exact hk) dX7_isBefore_51 ?_
    refine q_icmp_ge 59 dX7_isBefore_52 (by decide) (fun h52 => ?_) (fun h52 => ?_)
    · refine q_iconst (0) dX7_isBefore_59 (by decide) ?_
      refine q_zret dX7_isBefore_60 rfl (by omega) (by decide) ?_
      exact ⟨by simp_all [bI, lg_cmp_eq, lg_cmp_ge, Int32.not_lt, Int32.not_le, Int64.not_lt, Int64.not_le], rfl, rfl⟩
    · refine q_iconst (1) dX7_isBefore_55 (by decide) ?_
      refine q_goto 60 dX7_isBefore_56 (by decide) ?_
      refine q_zret dX7_isBefore_60 rfl (by omega) (by decide) ?_
      exact ⟨by simp_all [bI, lg_cmp_eq, lg_cmp_ge, Int32.not_lt, Int32.not_le, Int64.not_lt, Int64.not_le], rfl, rfl⟩
  · refine q_aload_n dX7_isBefore_16 rfl ?_
    refine q_getR (lid i 2) 7 2 (lid i 8) (vq_isL hi 2 (by decide) rfl) (by decide) rfl ((gr_lid i 2 2 (by decide)).trans rfl) (by decide) f_X7_18 rfl dX7_isBefore_17 ?_
    refine q_iload_n dX7_isBefore_20 rfl ?_
    refine q_lald (lid i 8) (j) hn (vq_isL hi 8 (by decide) rfl) rfl (by rw [e8]; exact hj) dX7_isBefore_21 ?_
    refine q_aload_n dX7_isBefore_22 rfl ?_
    refine q_getR (lid i 2) 7 2 (lid i 8) (vq_isL hi 2 (by decide) rfl) (by decide) rfl ((gr_lid i 2 2 (by decide)).trans rfl) (by decide) f_X7_18 rfl dX7_isBefore_23 ?_
    refine q_iload_n dX7_isBefore_26 rfl ?_
    refine q_lald (lid i 8) (k) hn (vq_isL hi 8 (by decide) rfl) rfl (by rw [e8]; exact hk) dX7_isBefore_27 ?_
    refine q_lcmp dX7_isBefore_28 ?_
    refine q_if_ge 36 dX7_isBefore_29 (by decide) (fun h29 => ?_) (fun h29 => ?_)
    · refine q_iconst (0) dX7_isBefore_36 (by decide) ?_
      refine q_goto 60 dX7_isBefore_37 (by decide) ?_
      refine q_zret dX7_isBefore_60 rfl (by omega) (by decide) ?_
      exact ⟨by simp_all [bI, lg_cmp_eq, lg_cmp_ge, Int32.not_lt, Int32.not_le, Int64.not_lt, Int64.not_le], rfl, rfl⟩
    · refine q_iconst (1) dX7_isBefore_32 (by decide) ?_
      refine q_goto 60 dX7_isBefore_33 (by decide) ?_
      refine q_zret dX7_isBefore_60 rfl (by omega) (by decide) ?_
      exact ⟨by simp_all [bI, lg_cmp_eq, lg_cmp_ge, Int32.not_lt, Int32.not_le, Int64.not_lt, Int64.not_le], rfl, rfl⟩
set_option maxHeartbeats 4000000 in
set_option maxRecDepth 100000 in
theorem c_isQuiet (i : Nat) (c : Int64) (hi : i < n) : VM l n m_X1_isQuiet d 0 [.ref (lid i 0), .long c] I L (fun r I' L' => r = some (.int (bI (I (lid i 0) 7 = 0 ∨ (I (lid i 0) 8).toInt64 < c - L (lid i 0) 9 ∨ (I (lid i 0) 7).toInt64 < c - L (lid i 0) 10))) ∧ I' = I ∧ L' = L) noX := by
  refine VM_of _ [(0, .ref (lid i 0)), (1, .long c)] rfl (fun a => Nat.le_of_ble_eq_true rfl) rfl ?_
  refine q_aload_n dX1_isQuiet_0 rfl ?_
  refine q_getI (lid i 0) 1 7 (vq_isL hi 0 (by decide) rfl) (by decide) rfl (by decide) f_X1_32 rfl dX1_isQuiet_1 ?_
  refine q_if_eq 37 dX1_isQuiet_4 (by decide) (fun h4 => ?_) (fun h4 => ?_)
  · refine q_iconst (1) dX1_isQuiet_37 (by decide) ?_
    refine q_goto 42 dX1_isQuiet_38 (by decide) ?_
    refine q_zret dX1_isQuiet_42 rfl (by omega) (by decide) ?_
    exact ⟨by simp_all [bI, lg_cmp_gt, lg_cmp_le, Int32.not_lt, Int32.not_le, Int64.not_lt, Int64.not_le], rfl, rfl⟩
  · refine q_lload_n dX1_isQuiet_7 rfl ?_
    refine q_aload_n dX1_isQuiet_8 rfl ?_
    refine q_getL (lid i 0) 1 9 (vq_isL hi 0 (by decide) rfl) (by decide) rfl (by decide) f_X1_35 rfl dX1_isQuiet_9 ?_
    refine q_lsub dX1_isQuiet_12 ?_
    refine q_aload_n dX1_isQuiet_13 rfl ?_
    refine q_getI (lid i 0) 1 8 (vq_isL hi 0 (by decide) rfl) (by decide) rfl (by decide) f_X1_39 rfl dX1_isQuiet_14 ?_
    refine q_i2l dX1_isQuiet_17 ?_
    refine q_lcmp dX1_isQuiet_18 ?_
    refine q_if_gt 37 dX1_isQuiet_19 (by decide) (fun h19 => ?_) (fun h19 => ?_)
    · refine q_iconst (1) dX1_isQuiet_37 (by decide) ?_
      refine q_goto 42 dX1_isQuiet_38 (by decide) ?_
      refine q_zret dX1_isQuiet_42 rfl (by omega) (by decide) ?_
      exact ⟨by simp_all [bI, lg_cmp_gt, lg_cmp_le, Int32.not_lt, Int32.not_le, Int64.not_lt, Int64.not_le], rfl, rfl⟩
    · refine q_lload_n dX1_isQuiet_22 rfl ?_
      refine q_aload_n dX1_isQuiet_23 rfl ?_
      refine q_getL (lid i 0) 1 10 (vq_isL hi 0 (by decide) rfl) (by decide) rfl (by decide) f_X1_42 rfl dX1_isQuiet_24 ?_
      refine q_lsub dX1_isQuiet_27 ?_
      refine q_aload_n dX1_isQuiet_28 rfl ?_
      refine q_getI (lid i 0) 1 7 (vq_isL hi 0 (by decide) rfl) (by decide) rfl (by decide) f_X1_32 rfl dX1_isQuiet_29 ?_
      refine q_i2l dX1_isQuiet_32 ?_
      refine q_lcmp dX1_isQuiet_33 ?_
      refine q_if_le 41 dX1_isQuiet_34 (by decide) (fun h34 => ?_) (fun h34 => ?_)
      · refine q_iconst (0) dX1_isQuiet_41 (by decide) ?_
        refine q_zret dX1_isQuiet_42 rfl (by omega) (by decide) ?_
        exact ⟨by simp_all [bI, lg_cmp_gt, lg_cmp_le, Int32.not_lt, Int32.not_le, Int64.not_lt, Int64.not_le], rfl, rfl⟩
      · refine q_iconst (1) dX1_isQuiet_37 (by decide) ?_
        refine q_goto 42 dX1_isQuiet_38 (by decide) ?_
        refine q_zret dX1_isQuiet_42 rfl (by omega) (by decide) ?_
        exact ⟨by simp_all [bI, lg_cmp_gt, lg_cmp_le, Int32.not_lt, Int32.not_le, Int64.not_lt, Int64.not_le], rfl, rfl⟩
end
end
section
/-! ===== the class's leaves: writes, the memory behind them exactly ===== -/
def Cqput (I : MI) (i a : Nat) (k x m : Int32) : MI := upI (upI (upI (upI I (lid i 3) a k) (lid i 4) a x) (lid i 5) a m) (lid i 1) 4 (I (lid i 1) 4 + 1)
def Cqdrop (I : MI) (i f : Nat) : MI := upI (upI I (lid i 1) 3 (nI ((f + 1) % 24))) (lid i 1) 4 (I (lid i 1) 4 - 1)
def Ctadd (I : MI) : MI := upI I 4 4 (I 4 4 + 1)
def Cord (I : MI) (t m : Nat) (k a b : Int32) : MI := upI (upI (upI (upI I 341 (8 * t + m) k) 342 (8 * t + m) a) 343 (8 * t + m) b) 340 t (nI (m + 1))
def Cpadd (I : MI) (c : Nat) (e : Int32) : MI := upI (upI I 350 c e) 5 6 (nI (c + 1))
def Cwait (I : MI) (p m : Nat) (t : Int32) : MI := upI (upI I 355 (6 * p + m) t) 354 p (nI (m + 1))
def Cpair (I : MI) (c : Nat) (x z : Int32) : MI := upI (upI (upI I 360 c x) 360 (c + 1) z) 6 5 (nI (c + 2))
def Chand (I : MI) (c m : Nat) (k t : Int32) : MI := upI (upI (upI (upI (upI I 362 (6 * c + m) k) 363 (6 * c + m) t) 364 (6 * c + m) (I 6 6)) 361 c (nI (m + 1))) 6 6 (I 6 6 + 1)
def Cmput (I : MI) (i z : Nat) (k t : Int32) : MI := upI (upI (upI I (lid i 6) z k) (lid i 7) z t) (lid i 2) 3 (nI (z + 1))
def Cmrem (I : MI) (i z k : Nat) : MI := upI (upI (upI I (lid i 2) 3 (nI z)) (lid i 6) k (I (lid i 6) z)) (lid i 7) k (I (lid i 7) z)
def Cbec (I : MI) (c i : Nat) (s : Int32) : MI := Clog (upI I (lid i 0) 2 s) c (nI i) 7 s
theorem nI_sub1 (q : Nat) : nI (q + 1) - 1 = nI q := nI_pred q
theorem ix8 (t m : Nat) {x z : Int32} (hx : x = nI t) (hz : z = nI m) : x * 8 + z = nI (8 * t + m) := by
  subst hx; subst hz
  rw [show (8 : Int32) = nI 8 from rfl, pk_mul, nI_add, Nat.mul_comm]
theorem ix6 (t m : Nat) {x z : Int32} (hx : x = nI t) (hz : z = nI m) : x * 6 + z = nI (6 * t + m) := by
  subst hx; subst hz
  rw [show (6 : Int32) = nI 6 from rfl, pk_mul, nI_add, Nat.mul_comm]
theorem nI_add1 {x : Int32} {q : Nat} (h : x = nI q) : x + 1 = nI (q + 1) := by subst h; exact nI_1 q
section
variable (l : Launch) (n : Nat) (hn : n < 2 ^ 31) (d : Nat) (I : MI) (L : ML)
set_option maxHeartbeats 4000000 in
set_option maxRecDepth 100000 in
theorem c_qput (i f q : Nat) (k x m : Int32) (hn : n < 2 ^ 31) (hi : i < n) (hf : I (lid i 1) 3 = nI f) (hq : I (lid i 1) 4 = nI q) (hfb : f < 24) (hqb : q < 24) : VM l n m_X3_put d 0 [.ref (lid i 1), .int k, .int x, .int m] I L (fun r I' L' => r = none ∧ I' = Cqput I i ((f + q) % 24) k x m ∧ L' = L) noX := by
  refine VM_of _ [(0, .ref (lid i 1)), (1, .int k), (2, .int x), (3, .int m)] rfl (fun a => Nat.le_of_ble_eq_true rfl) rfl ?_
  have hb : (f + q) % 24 < 24 := Nat.mod_lt _ (by decide)
  have e1 : (I (lid i 1) 3 + I (lid i 1) 4) - (I (lid i 1) 3 + I (lid i 1) 4) / 24 * 24 = nI ((f + q) % 24) := nI_rem (z := 24) (k := 24) (by rw [hf, hq, nI_add]) rfl (by omega) (by decide) (by decide)
  refine q_aload_n dX3_put_0 rfl ?_
  refine q_getI (lid i 1) 3 3 (vq_isL hi 1 (by decide) rfl) (by decide) rfl (by decide) f_X3_23 rfl dX3_put_1 ?_
  refine q_aload_n dX3_put_4 rfl ?_
  refine q_getI (lid i 1) 3 4 (vq_isL hi 1 (by decide) rfl) (by decide) rfl (by decide) f_X3_19 rfl dX3_put_5 ?_
  refine q_iadd dX3_put_8 ?_
  refine q_bipush (24) dX3_put_9 (by decide) ?_
  refine q_irem dX3_put_11 (by decide) ?_
  rw [e1]
  refine q_istore [(4, _), (0, _), (1, _), (2, _), (3, _)] dX3_put_12 (by decide) rfl ?_
  refine q_aload_n dX3_put_14 rfl ?_
  refine q_getR (lid i 1) 3 0 (lid i 3) (vq_isL hi 1 (by decide) rfl) (by decide) rfl ((gr_lid i 1 0 (by decide)).trans rfl) (by decide) f_X3_9 rfl dX3_put_15 ?_
  refine q_iload dX3_put_18 rfl ?_
  refine q_iload_n dX3_put_20 rfl ?_
  refine q_iast (lid i 3) ((f + q) % 24) hn (vq_isL hi 3 (by decide) rfl) rfl (by rw [gl_lid]; exact hb) dX3_put_21 ?_
  refine q_aload_n dX3_put_22 rfl ?_
  refine q_getR (lid i 1) 3 1 (lid i 4) (vq_isL hi 1 (by decide) rfl) (by decide) rfl ((gr_lid i 1 1 (by decide)).trans rfl) (by decide) f_X3_13 rfl dX3_put_23 ?_
  refine q_iload dX3_put_26 rfl ?_
  refine q_iload_n dX3_put_28 rfl ?_
  refine q_iast (lid i 4) ((f + q) % 24) hn (vq_isL hi 4 (by decide) rfl) rfl (by rw [gl_lid]; exact hb) dX3_put_29 ?_
  refine q_aload_n dX3_put_30 rfl ?_
  refine q_getR (lid i 1) 3 2 (lid i 5) (vq_isL hi 1 (by decide) rfl) (by decide) rfl ((gr_lid i 1 2 (by decide)).trans rfl) (by decide) f_X3_16 rfl dX3_put_31 ?_
  refine q_iload dX3_put_34 rfl ?_
  refine q_iload_n dX3_put_36 rfl ?_
  refine q_iast (lid i 5) ((f + q) % 24) hn (vq_isL hi 5 (by decide) rfl) rfl (by rw [gl_lid]; exact hb) dX3_put_37 ?_
  refine q_aload_n dX3_put_38 rfl ?_
  refine q_dup dX3_put_39 rfl ?_
  refine q_getI (lid i 1) 3 4 (vq_isL hi 1 (by decide) rfl) (by decide) rfl (by decide) f_X3_19 rfl dX3_put_40 ?_
  refine q_iconst (1) dX3_put_43 (by decide) ?_
  refine q_iadd dX3_put_44 ?_
  refine q_putI (lid i 1) 3 4 (vq_isL hi 1 (by decide) rfl) (by decide) rfl (by decide) rfl rfl f_X3_19 rfl dX3_put_45 ?_
  refine q_vret dX3_put_48 rfl (by omega) ⟨rfl, ?_, rfl⟩
  simp [Cqput, rdI, lid_eq]
set_option maxHeartbeats 4000000 in
set_option maxRecDepth 100000 in
theorem c_qdrop (i f : Nat) (hi : i < n) (hf : I (lid i 1) 3 = nI f) (hfb : f < 24) : VM l n m_X3_dropFirst d 0 [.ref (lid i 1)] I L (fun r I' L' => r = none ∧ I' = Cqdrop I i f ∧ L' = L) noX := by
  refine VM_of _ [(0, .ref (lid i 1))] rfl (fun a => Nat.le_of_ble_eq_true rfl) rfl ?_
  have e1 : (I (lid i 1) 3 + 1) - (I (lid i 1) 3 + 1) / 24 * 24 = nI ((f + 1) % 24) := nI_rem (z := 24) (k := 24) (by rw [hf, nI_1]) rfl (by omega) (by decide) (by decide)
  refine q_aload_n dX3_dropFirst_0 rfl ?_
  refine q_aload_n dX3_dropFirst_1 rfl ?_
  refine q_getI (lid i 1) 3 3 (vq_isL hi 1 (by decide) rfl) (by decide) rfl (by decide) f_X3_23 rfl dX3_dropFirst_2 ?_
  refine q_iconst (1) dX3_dropFirst_5 (by decide) ?_
  refine q_iadd dX3_dropFirst_6 ?_
  refine q_bipush (24) dX3_dropFirst_7 (by decide) ?_
  refine q_irem dX3_dropFirst_9 (by decide) ?_
  rw [e1]
  refine q_putI (lid i 1) 3 3 (vq_isL hi 1 (by decide) rfl) (by decide) rfl (by decide) rfl rfl f_X3_23 rfl dX3_dropFirst_10 ?_
  refine q_aload_n dX3_dropFirst_13 rfl ?_
  refine q_dup dX3_dropFirst_14 rfl ?_
  refine q_getI (lid i 1) 3 4 (vq_isL hi 1 (by decide) rfl) (by decide) rfl (by decide) f_X3_19 rfl dX3_dropFirst_15 ?_
  refine q_iconst (1) dX3_dropFirst_18 (by decide) ?_
  refine q_isub dX3_dropFirst_19 ?_
  refine q_putI (lid i 1) 3 4 (vq_isL hi 1 (by decide) rfl) (by decide) rfl (by decide) rfl rfl f_X3_19 rfl dX3_dropFirst_20 ?_
  refine q_vret dX3_dropFirst_23 rfl (by omega) ⟨rfl, ?_, rfl⟩
  simp [Cqdrop, rdI, lid_eq]
set_option maxHeartbeats 4000000 in
set_option maxRecDepth 100000 in
theorem c_tadd : VM l n m_X6_add d 0 [.ref 4] I L (fun r I' L' => r = some (.int (I 4 4 + 1 - 1)) ∧ I' = Ctadd I ∧ L' = L) noX := by
  refine VM_of _ [(0, .ref 4)] rfl (fun a => Nat.le_of_ble_eq_true rfl) rfl ?_
  refine q_aload_n dX6_add_0 rfl ?_
  refine q_dup dX6_add_1 rfl ?_
  refine q_getI 4 6 4 (is_4 n) (by decide) rfl (by decide) f_X6_22 rfl dX6_add_2 ?_
  refine q_iconst (1) dX6_add_5 (by decide) ?_
  refine q_iadd dX6_add_6 ?_
  refine q_putI 4 6 4 (is_4 n) (by decide) rfl (by decide) rfl rfl f_X6_22 rfl dX6_add_7 ?_
  refine q_aload_n dX6_add_10 rfl ?_
  refine q_getI 4 6 4 (is_4 n) (by decide) rfl (by decide) f_X6_22 rfl dX6_add_11 ?_
  refine q_iconst (1) dX6_add_14 (by decide) ?_
  refine q_isub dX6_add_15 ?_
  refine q_iret dX6_add_16 rfl (by omega) ?_
  exact ⟨by simp [rdI], rfl, rfl⟩
set_option maxHeartbeats 4000000 in
set_option maxRecDepth 100000 in
theorem c_addOrder (t m : Nat) (k a b : Int32) (hn : n < 2 ^ 31) (ht : t < 24) (hm : I 340 t = nI m) (hmb : m < 8) : VM l n m_X6_addOrder d 0 [.ref 4, .int (nI t), .int k, .int a, .int b] I L (fun r I' L' => r = some (.int (nI (m + 1))) ∧ I' = Cord I t m k a b ∧ L' = L) noX := by
  refine VM_of _ [(0, .ref 4), (1, .int (nI t)), (2, .int k), (3, .int a), (4, .int b)] rfl (fun a => Nat.le_of_ble_eq_true rfl) rfl ?_
  have e1 : nI t * 8 + I 340 t = nI (8 * t + m) := ix8 t m rfl hm
  refine q_iload_n dX6_addOrder_0 rfl ?_
  refine q_bipush (8) dX6_addOrder_1 (by decide) ?_
  refine q_imul dX6_addOrder_3 ?_
  refine q_aload_n dX6_addOrder_4 rfl ?_
  refine q_getR 4 6 0 340 (is_4 n) (by decide) rfl rfl (by decide) f_X6_9 rfl dX6_addOrder_5 ?_
  refine q_iload_n dX6_addOrder_8 rfl ?_
  refine q_iald 340 (t) hn (is_340 n) rfl ht dX6_addOrder_9 ?_
  refine q_iadd dX6_addOrder_10 ?_
  rw [e1]
  refine q_istore [(5, _), (0, _), (1, _), (2, _), (3, _), (4, _)] dX6_addOrder_11 (by decide) rfl ?_
  refine q_aload_n dX6_addOrder_13 rfl ?_
  refine q_getR 4 6 1 341 (is_4 n) (by decide) rfl rfl (by decide) f_X6_13 rfl dX6_addOrder_14 ?_
  refine q_iload dX6_addOrder_17 rfl ?_
  refine q_iload_n dX6_addOrder_19 rfl ?_
  refine q_iast 341 (8 * t + m) hn (is_341 n) rfl (by show _ < 192; omega) dX6_addOrder_20 ?_
  refine q_aload_n dX6_addOrder_21 rfl ?_
  refine q_getR 4 6 2 342 (is_4 n) (by decide) rfl rfl (by decide) f_X6_16 rfl dX6_addOrder_22 ?_
  refine q_iload dX6_addOrder_25 rfl ?_
  refine q_iload_n dX6_addOrder_27 rfl ?_
  refine q_iast 342 (8 * t + m) hn (is_342 n) rfl (by show _ < 192; omega) dX6_addOrder_28 ?_
  refine q_aload_n dX6_addOrder_29 rfl ?_
  refine q_getR 4 6 3 343 (is_4 n) (by decide) rfl rfl (by decide) f_X6_19 rfl dX6_addOrder_30 ?_
  refine q_iload dX6_addOrder_33 rfl ?_
  refine q_iload dX6_addOrder_35 rfl ?_
  refine q_iast 343 (8 * t + m) hn (is_343 n) rfl (by show _ < 192; omega) dX6_addOrder_37 ?_
  refine q_aload_n dX6_addOrder_38 rfl ?_
  refine q_getR 4 6 0 340 (is_4 n) (by decide) rfl rfl (by decide) f_X6_9 rfl dX6_addOrder_39 ?_
  refine q_iload_n dX6_addOrder_42 rfl ?_
  refine q_dup2 dX6_addOrder_43 rfl rfl ?_
  refine q_iald 340 (t) hn (is_340 n) rfl ht dX6_addOrder_44 ?_
  refine q_iconst (1) dX6_addOrder_45 (by decide) ?_
  refine q_iadd dX6_addOrder_46 ?_
  refine q_iast 340 (t) hn (is_340 n) rfl ht dX6_addOrder_47 ?_
  refine q_aload_n dX6_addOrder_48 rfl ?_
  refine q_getR 4 6 0 340 (is_4 n) (by decide) rfl rfl (by decide) f_X6_9 rfl dX6_addOrder_49 ?_
  refine q_iload_n dX6_addOrder_52 rfl ?_
  refine q_iald 340 (t) hn (is_340 n) rfl ht dX6_addOrder_53 ?_
  refine q_iret dX6_addOrder_54 rfl (by omega) ?_
  exact ⟨by simp [rdI, hm, nI_1], by simp [Cord, rdI, hm, nI_1], rfl⟩
set_option maxHeartbeats 4000000 in
set_option maxRecDepth 100000 in
theorem c_padd (c : Nat) (e : Int32) (hn : n < 2 ^ 31) (hc : I 5 6 = nI c) (hcb : c < 32) : VM l n m_X2_add d 0 [.ref 5, .int e] I L (fun r I' L' => r = some (.int (nI c)) ∧ I' = Cpadd I c e ∧ L' = L) noX := by
  refine VM_of _ [(0, .ref 5), (1, .int e)] rfl (fun a => Nat.le_of_ble_eq_true rfl) rfl ?_
  refine q_aload_n dX2_add_0 rfl ?_
  refine q_getR 5 2 0 350 (is_5 n) (by decide) rfl rfl (by decide) f_X2_9 rfl dX2_add_1 ?_
  refine q_aload_n dX2_add_4 rfl ?_
  refine q_getI 5 2 6 (is_5 n) (by decide) rfl (by decide) f_X2_29 rfl dX2_add_5 ?_
  refine q_iload_n dX2_add_8 rfl ?_
  refine q_iast 350 (c) hn (is_350 n) hc hcb dX2_add_9 ?_
  refine q_aload_n dX2_add_10 rfl ?_
  refine q_dup dX2_add_11 rfl ?_
  refine q_getI 5 2 6 (is_5 n) (by decide) rfl (by decide) f_X2_29 rfl dX2_add_12 ?_
  refine q_iconst (1) dX2_add_15 (by decide) ?_
  refine q_iadd dX2_add_16 ?_
  refine q_putI 5 2 6 (is_5 n) (by decide) rfl (by decide) rfl rfl f_X2_29 rfl dX2_add_17 ?_
  refine q_aload_n dX2_add_20 rfl ?_
  refine q_getI 5 2 6 (is_5 n) (by decide) rfl (by decide) f_X2_29 rfl dX2_add_21 ?_
  refine q_iconst (1) dX2_add_24 (by decide) ?_
  refine q_isub dX2_add_25 ?_
  refine q_iret dX2_add_26 rfl (by omega) ?_
  exact ⟨by simp [rdI, hc, nI_1, nI_sub1], by simp [Cpadd, rdI, hc, nI_1], rfl⟩
set_option maxHeartbeats 4000000 in
set_option maxRecDepth 100000 in
theorem c_pin (p : Nat) (hn : n < 2 ^ 31) (hp : p < 32) (hd : 1 ≤ d) : VM l n m_X2_pin d 0 [.ref 5, .int (nI p)] I L (fun r I' L' => r = some (.int (bI (I 351 p = 0))) ∧ I' = (if I 351 p = 0 then upI I 353 p 1 else I) ∧ L' = L) noX := by
  refine VM_of _ [(0, .ref 5), (1, .int (nI p))] rfl (fun a => Nat.le_of_ble_eq_true rfl) rfl ?_
  refine q_aload_n dX2_pin_0 rfl ?_
  refine q_iload_n dX2_pin_1 rfl ?_
  refine q_calli [.int _] o_X2_isPending rfl k_X2_33 rfl (is_5 n) (by decide) rfl dX2_pin_2 (by decide) (by omega) (by decide) (by omega) (Or.inr rfl) (c_isPending l n (d - 1) I L p hn hp) (fun _ _ _ h => h.elim) (fun r1 I1 L1 hq => ?_)
  obtain ⟨e1, rfl, rfl⟩ := hq; cases e1
  refine q_if_ne 10 dX2_pin_5 (by decide) (fun h5 => ?_) (fun h5 => ?_)
  · refine q_aload_n dX2_pin_10 rfl ?_
    refine q_getR 5 2 3 353 (is_5 n) (by decide) rfl rfl (by decide) f_X2_19 rfl dX2_pin_11 ?_
    refine q_iload_n dX2_pin_14 rfl ?_
    refine q_iconst (1) dX2_pin_15 (by decide) ?_
    refine q_zast 353 (p) hn (is_353 n) rfl hp (by decide) dX2_pin_16 ?_
    refine q_iconst (1) dX2_pin_17 (by decide) ?_
    refine q_zret dX2_pin_18 rfl (by omega) (by decide) ?_
    (simp only [bI_z, ne_eq, Decidable.not_not] at h5; simp [bI, h5])
  · refine q_iconst (0) dX2_pin_8 (by decide) ?_
    refine q_zret dX2_pin_9 rfl (by omega) (by decide) ?_
    (simp only [bI_z, ne_eq, Decidable.not_not] at h5; simp [bI, h5])
set_option maxHeartbeats 4000000 in
set_option maxRecDepth 100000 in
theorem c_close (p : Nat) (s v : Int32) (hn : n < 2 ^ 31) (hp : p < 32) (hd : 1 ≤ d) : VM l n m_X2_close d 0 [.ref 5, .int (nI p), .int s, .int v] I L (fun r I' L' => r = some (.int (bI (¬ (I 351 p ≠ 0 ∨ (s = 3 ∧ I 353 p ≠ 0))))) ∧ I' = (if I 351 p ≠ 0 ∨ (s = 3 ∧ I 353 p ≠ 0) then I else upI (upI I 351 p s) 352 p (if s = 3 then 0 else v)) ∧ L' = L) noX := by
  refine VM_of _ [(0, .ref 5), (1, .int (nI p)), (2, .int s), (3, .int v)] rfl (fun a => Nat.le_of_ble_eq_true rfl) rfl ?_
  refine q_aload_n dX2_close_0 rfl ?_
  refine q_iload_n dX2_close_1 rfl ?_
  refine q_calli [.int _] o_X2_isPending rfl k_X2_33 rfl (is_5 n) (by decide) rfl dX2_close_2 (by decide) (by omega) (by decide) (by omega) (Or.inr rfl) (c_isPending l n (d - 1) I L p hn hp) (fun _ _ _ h => h.elim) (fun r1 I1 L1 hq => ?_)
  obtain ⟨e1, rfl, rfl⟩ := hq; cases e1
  refine q_if_eq 22 dX2_close_5 (by decide) (fun h5 => ?_) (fun h5 => ?_)
  · refine q_iconst (0) dX2_close_22 (by decide) ?_
    refine q_zret dX2_close_23 rfl (by omega) (by decide) ?_
    (simp only [bI_z, ne_eq, Decidable.not_not] at *; simp_all [bI])
  · refine q_iload_n dX2_close_8 rfl ?_
    refine q_iconst (3) dX2_close_9 (by decide) ?_
    refine q_icmp_ne 24 dX2_close_10 (by decide) (fun h10 => ?_) (fun h10 => ?_)
    · refine q_aload_n dX2_close_24 rfl ?_
      refine q_getR 5 2 1 351 (is_5 n) (by decide) rfl rfl (by decide) f_X2_13 rfl dX2_close_25 ?_
      refine q_iload_n dX2_close_28 rfl ?_
      refine q_iload_n dX2_close_29 rfl ?_
      refine q_iast 351 (p) hn (is_351 n) rfl hp dX2_close_30 ?_
      refine q_aload_n dX2_close_31 rfl ?_
      refine q_getR 5 2 2 352 (is_5 n) (by decide) rfl rfl (by decide) f_X2_16 rfl dX2_close_32 ?_
      refine q_iload_n dX2_close_35 rfl ?_
      refine q_iload_n dX2_close_36 rfl ?_
      refine q_iconst (3) dX2_close_37 (by decide) ?_
      refine q_icmp_ne 45 dX2_close_38 (by decide) (fun h38 => ?_) (fun h38 => ?_)
      · refine q_iload_n dX2_close_45 rfl ?_
        refine q_iast 352 (p) hn (is_352 n) rfl hp dX2_close_46 ?_
        refine q_iconst (1) dX2_close_47 (by decide) ?_
        refine q_zret dX2_close_48 rfl (by omega) (by decide) ?_
        (simp only [bI_z, ne_eq, Decidable.not_not] at *; simp_all [bI])
      · refine q_iconst (0) dX2_close_41 (by decide) ?_
        refine q_goto 46 dX2_close_42 (by decide) ?_
        refine q_iast 352 (p) hn (is_352 n) rfl hp dX2_close_46 ?_
        refine q_iconst (1) dX2_close_47 (by decide) ?_
        refine q_zret dX2_close_48 rfl (by omega) (by decide) ?_
        (simp only [bI_z, ne_eq, Decidable.not_not] at *; simp_all [bI])
    · refine q_aload_n dX2_close_13 rfl ?_
      refine q_getR 5 2 3 353 (is_5 n) (by decide) rfl rfl (by decide) f_X2_19 rfl dX2_close_14 ?_
      refine q_iload_n dX2_close_17 rfl ?_
      refine q_zald 353 (p) hn (is_353 n) rfl hp dX2_close_18 ?_
      refine q_if_eq 24 dX2_close_19 (by decide) (fun h19 => ?_) (fun h19 => ?_)
      · refine q_aload_n dX2_close_24 rfl ?_
        refine q_getR 5 2 1 351 (is_5 n) (by decide) rfl rfl (by decide) f_X2_13 rfl dX2_close_25 ?_
        refine q_iload_n dX2_close_28 rfl ?_
        refine q_iload_n dX2_close_29 rfl ?_
        refine q_iast 351 (p) hn (is_351 n) rfl hp dX2_close_30 ?_
        refine q_aload_n dX2_close_31 rfl ?_
        refine q_getR 5 2 2 352 (is_5 n) (by decide) rfl rfl (by decide) f_X2_16 rfl dX2_close_32 ?_
        refine q_iload_n dX2_close_35 rfl ?_
        refine q_iload_n dX2_close_36 rfl ?_
        refine q_iconst (3) dX2_close_37 (by decide) ?_
        refine q_icmp_ne 45 dX2_close_38 (by decide) (fun h38 => ?_) (fun h38 => ?_)
        · refine q_iload_n dX2_close_45 rfl ?_
          refine q_iast 352 (p) hn (is_352 n) rfl hp dX2_close_46 ?_
          refine q_iconst (1) dX2_close_47 (by decide) ?_
          refine q_zret dX2_close_48 rfl (by omega) (by decide) ?_
          (simp only [bI_z, ne_eq, Decidable.not_not] at *; simp_all [bI])
        · refine q_iconst (0) dX2_close_41 (by decide) ?_
          refine q_goto 46 dX2_close_42 (by decide) ?_
          refine q_iast 352 (p) hn (is_352 n) rfl hp dX2_close_46 ?_
          refine q_iconst (1) dX2_close_47 (by decide) ?_
          refine q_zret dX2_close_48 rfl (by omega) (by decide) ?_
          (simp only [bI_z, ne_eq, Decidable.not_not] at *; simp_all [bI])
      · refine q_iconst (0) dX2_close_22 (by decide) ?_
        refine q_zret dX2_close_23 rfl (by omega) (by decide) ?_
        (simp only [bI_z, ne_eq, Decidable.not_not] at *; simp_all [bI])
set_option maxHeartbeats 4000000 in
set_option maxRecDepth 100000 in
theorem c_addWaiting (p m : Nat) (t : Int32) (hn : n < 2 ^ 31) (hp : p < 32) (hm : I 354 p = nI m) (hmb : m < 6) : VM l n m_X2_addWaiting d 0 [.ref 5, .int (nI p), .int t] I L (fun r I' L' => r = none ∧ I' = Cwait I p m t ∧ L' = L) noX := by
  refine VM_of _ [(0, .ref 5), (1, .int (nI p)), (2, .int t)] rfl (fun a => Nat.le_of_ble_eq_true rfl) rfl ?_
  refine q_aload_n dX2_addWaiting_0 rfl ?_
  refine q_getR 5 2 5 355 (is_5 n) (by decide) rfl rfl (by decide) f_X2_26 rfl dX2_addWaiting_1 ?_
  refine q_iload_n dX2_addWaiting_4 rfl ?_
  refine q_bipush (6) dX2_addWaiting_5 (by decide) ?_
  refine q_imul dX2_addWaiting_7 ?_
  refine q_aload_n dX2_addWaiting_8 rfl ?_
  refine q_getR 5 2 4 354 (is_5 n) (by decide) rfl rfl (by decide) f_X2_23 rfl dX2_addWaiting_9 ?_
  refine q_iload_n dX2_addWaiting_12 rfl ?_
  refine q_iald 354 (p) hn (is_354 n) rfl hp dX2_addWaiting_13 ?_
  refine q_iadd dX2_addWaiting_14 ?_
  refine q_iload_n dX2_addWaiting_15 rfl ?_
  refine q_iast 355 (6 * p + m) hn (is_355 n) (ix6 p m rfl hm) (by show _ < 192; omega) dX2_addWaiting_16 ?_
  refine q_aload_n dX2_addWaiting_17 rfl ?_
  refine q_getR 5 2 4 354 (is_5 n) (by decide) rfl rfl (by decide) f_X2_23 rfl dX2_addWaiting_18 ?_
  refine q_iload_n dX2_addWaiting_21 rfl ?_
  refine q_dup2 dX2_addWaiting_22 rfl rfl ?_
  refine q_iald 354 (p) hn (is_354 n) rfl hp dX2_addWaiting_23 ?_
  refine q_iconst (1) dX2_addWaiting_24 (by decide) ?_
  refine q_iadd dX2_addWaiting_25 ?_
  refine q_iast 354 (p) hn (is_354 n) rfl hp dX2_addWaiting_26 ?_
  refine q_vret dX2_addWaiting_27 rfl (by omega) ?_
  exact ⟨rfl, by simp [Cwait, rdI, hm, nI_1], rfl⟩
set_option maxHeartbeats 4000000 in
set_option maxRecDepth 100000 in
theorem c_addPair (c : Nat) (x z : Int32) (hn : n < 2 ^ 31) (hc : I 6 5 = nI c) (hcb : c < 15) : VM l n m_X0_addPair d 0 [.ref 6, .int x, .int z] I L (fun r I' L' => r = some (.int (nI c)) ∧ I' = Cpair I c x z ∧ L' = L) noX := by
  refine VM_of _ [(0, .ref 6), (1, .int x), (2, .int z)] rfl (fun a => Nat.le_of_ble_eq_true rfl) rfl ?_
  have e2 : nI c + 2 = nI (c + 2) := nI_add c 2
  have e3 : nI (c + 2) - 2 = nI c := (pk_sub (a := c + 2) (b := 2) (by omega))
  refine q_aload_n dX0_addPair_0 rfl ?_
  refine q_getR 6 0 0 360 (is_6 n) (by decide) rfl rfl (by decide) f_X0_9 rfl dX0_addPair_1 ?_
  refine q_aload_n dX0_addPair_4 rfl ?_
  refine q_getI 6 0 5 (is_6 n) (by decide) rfl (by decide) f_X0_25 rfl dX0_addPair_5 ?_
  refine q_iload_n dX0_addPair_8 rfl ?_
  refine q_iast 360 (c) hn (is_360 n) hc (by show _ < 16; omega) dX0_addPair_9 ?_
  refine q_aload_n dX0_addPair_10 rfl ?_
  refine q_getR 6 0 0 360 (is_6 n) (by decide) rfl rfl (by decide) f_X0_9 rfl dX0_addPair_11 ?_
  refine q_aload_n dX0_addPair_14 rfl ?_
  refine q_getI 6 0 5 (is_6 n) (by decide) rfl (by decide) f_X0_25 rfl dX0_addPair_15 ?_
  refine q_iconst (1) dX0_addPair_18 (by decide) ?_
  refine q_iadd dX0_addPair_19 ?_
  refine q_iload_n dX0_addPair_20 rfl ?_
  refine q_iast 360 (c + 1) hn (is_360 n) (by simp [rdI, hc, nI_1]) (by show _ < 16; omega) dX0_addPair_21 ?_
  refine q_aload_n dX0_addPair_22 rfl ?_
  refine q_dup dX0_addPair_23 rfl ?_
  refine q_getI 6 0 5 (is_6 n) (by decide) rfl (by decide) f_X0_25 rfl dX0_addPair_24 ?_
  refine q_iconst (2) dX0_addPair_27 (by decide) ?_
  refine q_iadd dX0_addPair_28 ?_
  refine q_putI 6 0 5 (is_6 n) (by decide) rfl (by decide) rfl rfl f_X0_25 rfl dX0_addPair_29 ?_
  refine q_aload_n dX0_addPair_32 rfl ?_
  refine q_getI 6 0 5 (is_6 n) (by decide) rfl (by decide) f_X0_25 rfl dX0_addPair_33 ?_
  refine q_iconst (2) dX0_addPair_36 (by decide) ?_
  refine q_isub dX0_addPair_37 ?_
  refine q_iret dX0_addPair_38 rfl (by omega) ?_
  exact ⟨by simp [rdI, hc, e2, e3], by simp [Cpair, rdI, hc, e2], rfl⟩
set_option maxHeartbeats 4000000 in
set_option maxRecDepth 100000 in
theorem c_addHandler (c m : Nat) (k t : Int32) (hn : n < 2 ^ 31) (hc : c < 16) (hm : I 361 c = nI m) (hmb : m < 6) : VM l n m_X0_addHandler d 0 [.ref 6, .int (nI c), .int k, .int t] I L (fun r I' L' => r = some (.int (I 6 6)) ∧ I' = Chand I c m k t ∧ L' = L) noX := by
  refine VM_of _ [(0, .ref 6), (1, .int (nI c)), (2, .int k), (3, .int t)] rfl (fun a => Nat.le_of_ble_eq_true rfl) rfl ?_
  have e1 : nI c * 6 + I 361 c = nI (6 * c + m) := ix6 c m rfl hm
  refine q_iload_n dX0_addHandler_0 rfl ?_
  refine q_bipush (6) dX0_addHandler_1 (by decide) ?_
  refine q_imul dX0_addHandler_3 ?_
  refine q_aload_n dX0_addHandler_4 rfl ?_
  refine q_getR 6 0 1 361 (is_6 n) (by decide) rfl rfl (by decide) f_X0_13 rfl dX0_addHandler_5 ?_
  refine q_iload_n dX0_addHandler_8 rfl ?_
  refine q_iald 361 (c) hn (is_361 n) rfl hc dX0_addHandler_9 ?_
  refine q_iadd dX0_addHandler_10 ?_
  rw [e1]
  refine q_istore [(4, _), (0, _), (1, _), (2, _), (3, _)] dX0_addHandler_11 (by decide) rfl ?_
  refine q_aload_n dX0_addHandler_13 rfl ?_
  refine q_getR 6 0 2 362 (is_6 n) (by decide) rfl rfl (by decide) f_X0_16 rfl dX0_addHandler_14 ?_
  refine q_iload dX0_addHandler_17 rfl ?_
  refine q_iload_n dX0_addHandler_19 rfl ?_
  refine q_iast 362 (6 * c + m) hn (is_362 n) rfl (by show _ < 96; omega) dX0_addHandler_20 ?_
  refine q_aload_n dX0_addHandler_21 rfl ?_
  refine q_getR 6 0 3 363 (is_6 n) (by decide) rfl rfl (by decide) f_X0_19 rfl dX0_addHandler_22 ?_
  refine q_iload dX0_addHandler_25 rfl ?_
  refine q_iload_n dX0_addHandler_27 rfl ?_
  refine q_iast 363 (6 * c + m) hn (is_363 n) rfl (by show _ < 96; omega) dX0_addHandler_28 ?_
  refine q_aload_n dX0_addHandler_29 rfl ?_
  refine q_getR 6 0 4 364 (is_6 n) (by decide) rfl rfl (by decide) f_X0_22 rfl dX0_addHandler_30 ?_
  refine q_iload dX0_addHandler_33 rfl ?_
  refine q_aload_n dX0_addHandler_35 rfl ?_
  refine q_getI 6 0 6 (is_6 n) (by decide) rfl (by decide) f_X0_29 rfl dX0_addHandler_36 ?_
  refine q_iast 364 (6 * c + m) hn (is_364 n) rfl (by show _ < 96; omega) dX0_addHandler_39 ?_
  refine q_aload_n dX0_addHandler_40 rfl ?_
  refine q_getR 6 0 1 361 (is_6 n) (by decide) rfl rfl (by decide) f_X0_13 rfl dX0_addHandler_41 ?_
  refine q_iload_n dX0_addHandler_44 rfl ?_
  refine q_dup2 dX0_addHandler_45 rfl rfl ?_
  refine q_iald 361 (c) hn (is_361 n) rfl hc dX0_addHandler_46 ?_
  refine q_iconst (1) dX0_addHandler_47 (by decide) ?_
  refine q_iadd dX0_addHandler_48 ?_
  refine q_iast 361 (c) hn (is_361 n) rfl hc dX0_addHandler_49 ?_
  refine q_aload_n dX0_addHandler_50 rfl ?_
  refine q_dup dX0_addHandler_51 rfl ?_
  refine q_getI 6 0 6 (is_6 n) (by decide) rfl (by decide) f_X0_29 rfl dX0_addHandler_52 ?_
  refine q_iconst (1) dX0_addHandler_55 (by decide) ?_
  refine q_iadd dX0_addHandler_56 ?_
  refine q_putI 6 0 6 (is_6 n) (by decide) rfl (by decide) rfl rfl f_X0_29 rfl dX0_addHandler_57 ?_
  refine q_aload_n dX0_addHandler_60 rfl ?_
  refine q_getR 6 0 4 364 (is_6 n) (by decide) rfl rfl (by decide) f_X0_22 rfl dX0_addHandler_61 ?_
  refine q_iload dX0_addHandler_64 rfl ?_
  refine q_iald 364 (6 * c + m) hn (is_364 n) rfl (by show _ < 96; omega) dX0_addHandler_66 ?_
  refine q_iret dX0_addHandler_67 rfl (by omega) ?_
  exact ⟨by simp [rdI], by simp [Chand, rdI, hm, nI_1], rfl⟩
set_option maxHeartbeats 4000000 in
set_option maxRecDepth 100000 in
theorem c_mput (i z : Nat) (k t : Int32) (dl : Int64) (hn : n < 2 ^ 31) (hi : i < n) (hz : I (lid i 2) 3 = nI z) (hzb : z < 24) : VM l n m_X7_put d 0 [.ref (lid i 2), .int k, .int t, .long dl] I L (fun r I' L' => r = none ∧ I' = Cmput I i z k t ∧ L' = upL L (lid i 8) z dl) noX := by
  refine VM_of _ [(0, .ref (lid i 2)), (1, .int k), (2, .int t), (3, .long dl)] rfl (fun a => Nat.le_of_ble_eq_true rfl) rfl ?_
  refine q_aload_n dX7_put_0 rfl ?_
  refine q_getR (lid i 2) 7 0 (lid i 6) (vq_isL hi 2 (by decide) rfl) (by decide) rfl ((gr_lid i 2 0 (by decide)).trans rfl) (by decide) f_X7_11 rfl dX7_put_1 ?_
  refine q_aload_n dX7_put_4 rfl ?_
  refine q_getI (lid i 2) 7 3 (vq_isL hi 2 (by decide) rfl) (by decide) rfl (by decide) f_X7_22 rfl dX7_put_5 ?_
  refine q_iload_n dX7_put_8 rfl ?_
  refine q_iast (lid i 6) (z) hn (vq_isL hi 6 (by decide) rfl) hz (by rw [gl_lid]; exact hzb) dX7_put_9 ?_
  refine q_aload_n dX7_put_10 rfl ?_
  refine q_getR (lid i 2) 7 1 (lid i 7) (vq_isL hi 2 (by decide) rfl) (by decide) rfl ((gr_lid i 2 1 (by decide)).trans rfl) (by decide) f_X7_15 rfl dX7_put_11 ?_
  refine q_aload_n dX7_put_14 rfl ?_
  refine q_getI (lid i 2) 7 3 (vq_isL hi 2 (by decide) rfl) (by decide) rfl (by decide) f_X7_22 rfl dX7_put_15 ?_
  refine q_iload_n dX7_put_18 rfl ?_
  refine q_iast (lid i 7) (z) hn (vq_isL hi 7 (by decide) rfl) (by simp [rdI, lid_eq, hz]) (by rw [gl_lid]; exact hzb) dX7_put_19 ?_
  refine q_aload_n dX7_put_20 rfl ?_
  refine q_getR (lid i 2) 7 2 (lid i 8) (vq_isL hi 2 (by decide) rfl) (by decide) rfl ((gr_lid i 2 2 (by decide)).trans rfl) (by decide) f_X7_18 rfl dX7_put_21 ?_
  refine q_aload_n dX7_put_24 rfl ?_
  refine q_getI (lid i 2) 7 3 (vq_isL hi 2 (by decide) rfl) (by decide) rfl (by decide) f_X7_22 rfl dX7_put_25 ?_
  refine q_lload_n dX7_put_28 rfl ?_
  refine q_last (lid i 8) (z) hn (vq_isL hi 8 (by decide) rfl) (by simp [rdI, lid_eq, hz]) (by rw [gl_lid]; exact hzb) dX7_put_29 ?_
  refine q_aload_n dX7_put_30 rfl ?_
  refine q_dup dX7_put_31 rfl ?_
  refine q_getI (lid i 2) 7 3 (vq_isL hi 2 (by decide) rfl) (by decide) rfl (by decide) f_X7_22 rfl dX7_put_32 ?_
  refine q_iconst (1) dX7_put_35 (by decide) ?_
  refine q_iadd dX7_put_36 ?_
  refine q_putI (lid i 2) 7 3 (vq_isL hi 2 (by decide) rfl) (by decide) rfl (by decide) rfl rfl f_X7_22 rfl dX7_put_37 ?_
  refine q_vret dX7_put_40 rfl (by omega) ?_
  exact ⟨rfl, by simp [Cmput, rdI, lid_eq, hz, nI_1], rfl⟩
set_option maxHeartbeats 4000000 in
set_option maxRecDepth 100000 in
theorem c_mrem (i z k : Nat) (hn : n < 2 ^ 31) (hi : i < n) (hz : I (lid i 2) 3 = nI (z + 1)) (hzb : z < 24) (hk : k < 24) : VM l n m_X7_removeAt d 0 [.ref (lid i 2), .int (nI k)] I L (fun r I' L' => r = none ∧ I' = Cmrem I i z k ∧ L' = upL L (lid i 8) k (L (lid i 8) z)) noX := by
  refine VM_of _ [(0, .ref (lid i 2)), (1, .int (nI k))] rfl (fun a => Nat.le_of_ble_eq_true rfl) rfl ?_
  refine q_aload_n dX7_removeAt_0 rfl ?_
  refine q_dup dX7_removeAt_1 rfl ?_
  refine q_getI (lid i 2) 7 3 (vq_isL hi 2 (by decide) rfl) (by decide) rfl (by decide) f_X7_22 rfl dX7_removeAt_2 ?_
  refine q_iconst (1) dX7_removeAt_5 (by decide) ?_
  refine q_isub dX7_removeAt_6 ?_
  refine q_putI (lid i 2) 7 3 (vq_isL hi 2 (by decide) rfl) (by decide) rfl (by decide) rfl rfl f_X7_22 rfl dX7_removeAt_7 ?_
  refine q_aload_n dX7_removeAt_10 rfl ?_
  refine q_getR (lid i 2) 7 0 (lid i 6) (vq_isL hi 2 (by decide) rfl) (by decide) rfl ((gr_lid i 2 0 (by decide)).trans rfl) (by decide) f_X7_11 rfl dX7_removeAt_11 ?_
  refine q_iload_n dX7_removeAt_14 rfl ?_
  refine q_aload_n dX7_removeAt_15 rfl ?_
  refine q_getR (lid i 2) 7 0 (lid i 6) (vq_isL hi 2 (by decide) rfl) (by decide) rfl ((gr_lid i 2 0 (by decide)).trans rfl) (by decide) f_X7_11 rfl dX7_removeAt_16 ?_
  refine q_aload_n dX7_removeAt_19 rfl ?_
  refine q_getI (lid i 2) 7 3 (vq_isL hi 2 (by decide) rfl) (by decide) rfl (by decide) f_X7_22 rfl dX7_removeAt_20 ?_
  refine q_iald (lid i 6) (z) hn (vq_isL hi 6 (by decide) rfl) (by simp [rdI, lid_eq, hz, nI_sub1]) (by rw [gl_lid]; exact hzb) dX7_removeAt_23 ?_
  refine q_iast (lid i 6) (k) hn (vq_isL hi 6 (by decide) rfl) rfl (by rw [gl_lid]; exact hk) dX7_removeAt_24 ?_
  refine q_aload_n dX7_removeAt_25 rfl ?_
  refine q_getR (lid i 2) 7 1 (lid i 7) (vq_isL hi 2 (by decide) rfl) (by decide) rfl ((gr_lid i 2 1 (by decide)).trans rfl) (by decide) f_X7_15 rfl dX7_removeAt_26 ?_
  refine q_iload_n dX7_removeAt_29 rfl ?_
  refine q_aload_n dX7_removeAt_30 rfl ?_
  refine q_getR (lid i 2) 7 1 (lid i 7) (vq_isL hi 2 (by decide) rfl) (by decide) rfl ((gr_lid i 2 1 (by decide)).trans rfl) (by decide) f_X7_15 rfl dX7_removeAt_31 ?_
  refine q_aload_n dX7_removeAt_34 rfl ?_
  refine q_getI (lid i 2) 7 3 (vq_isL hi 2 (by decide) rfl) (by decide) rfl (by decide) f_X7_22 rfl dX7_removeAt_35 ?_
  refine q_iald (lid i 7) (z) hn (vq_isL hi 7 (by decide) rfl) (by simp [rdI, lid_eq, hz, nI_sub1]) (by rw [gl_lid]; exact hzb) dX7_removeAt_38 ?_
  refine q_iast (lid i 7) (k) hn (vq_isL hi 7 (by decide) rfl) rfl (by rw [gl_lid]; exact hk) dX7_removeAt_39 ?_
  refine q_aload_n dX7_removeAt_40 rfl ?_
  refine q_getR (lid i 2) 7 2 (lid i 8) (vq_isL hi 2 (by decide) rfl) (by decide) rfl ((gr_lid i 2 2 (by decide)).trans rfl) (by decide) f_X7_18 rfl dX7_removeAt_41 ?_
  refine q_iload_n dX7_removeAt_44 rfl ?_
  refine q_aload_n dX7_removeAt_45 rfl ?_
  refine q_getR (lid i 2) 7 2 (lid i 8) (vq_isL hi 2 (by decide) rfl) (by decide) rfl ((gr_lid i 2 2 (by decide)).trans rfl) (by decide) f_X7_18 rfl dX7_removeAt_46 ?_
  refine q_aload_n dX7_removeAt_49 rfl ?_
  refine q_getI (lid i 2) 7 3 (vq_isL hi 2 (by decide) rfl) (by decide) rfl (by decide) f_X7_22 rfl dX7_removeAt_50 ?_
  refine q_lald (lid i 8) (z) hn (vq_isL hi 8 (by decide) rfl) (by simp [rdI, lid_eq, hz, nI_sub1]) (by rw [gl_lid]; exact hzb) dX7_removeAt_53 ?_
  refine q_last (lid i 8) (k) hn (vq_isL hi 8 (by decide) rfl) rfl (by rw [gl_lid]; exact hk) dX7_removeAt_54 ?_
  refine q_vret dX7_removeAt_55 rfl (by omega) ?_
  exact ⟨rfl, by simp [Cmrem, rdI, lid_eq, hz, nI_sub1], rfl⟩
set_option maxHeartbeats 4000000 in
set_option maxRecDepth 100000 in
theorem c_become (i c : Nat) (s : Int32) (hn : n < 2 ^ 31) (hi : i < n) (hc : I 3 1 = nI c) (hcb : c < 2 ^ 31) (hd : 1 ≤ d) : VM l n m_X5_become d 0 [.ref 2, .int (nI i), .int s] I L (fun r I' L' => r = none ∧ I' = Cbec I c i s ∧ L' = L) noX := by
  refine VM_of _ [(0, .ref 2), (1, .int (nI i)), (2, .int s)] rfl (fun a => Nat.le_of_ble_eq_true rfl) rfl ?_
  refine q_aload_n dX5_become_0 rfl ?_
  refine q_getR 2 5 1 321 (is_2 n) (by decide) rfl rfl (by decide) f_X5_20 rfl dX5_become_1 ?_
  refine q_iload_n dX5_become_4 rfl ?_
  refine q_aald 321 (i) (lid (i) 0) hn (is_321 n) rfl hi rfl dX5_become_5 ?_
  refine q_iload_n dX5_become_6 rfl ?_
  refine q_putI (lid i 0) 1 2 (vq_isL hi 0 (by decide) rfl) (by decide) rfl (by decide) rfl rfl f_X5_35 rfl dX5_become_7 ?_
  refine q_aload_n dX5_become_10 rfl ?_
  refine q_getR 2 5 0 3 (is_2 n) (by decide) rfl rfl (by decide) f_X5_12 rfl dX5_become_11 ?_
  refine q_iload_n dX5_become_14 rfl ?_
  refine q_bipush (7) dX5_become_15 (by decide) ?_
  refine q_iload_n dX5_become_17 rfl ?_
  refine q_callv [.int _, .int _, .int _] o_X8_log rfl k_X5_48 rfl (is_3 n) (by decide) rfl dX5_become_18 (by decide) (by omega) (by decide) (by omega) rfl (c_log l n hn (d - 1) _ L c (nI i) 7 s (by simp [rdI, ne_lid, hc]) hcb) (fun _ _ _ h => h.elim) (fun I1 L1 hq => ?_)
  obtain ⟨-, rfl, rfl⟩ := hq
  refine q_vret dX5_become_21 rfl (by omega) ?_
  exact ⟨rfl, rfl, rfl⟩
end
end
section
/-! ===== steps of the memory S that keep what is always so, and the class's cells beside it ===== -/
def tr (S : MI) : Nat := N (S 30 41)
theorem oth_b {i : Nat} (h : oth i) : 7 ≤ i ∧ i < 300 := by
  unfold oth at h
  omega
theorem CX_of {n w nf fr : Nat} {S S' I I' J : MI} {T T' L L' M : ML} (h : CX n S T w nf fr J M I L) (hC : CR n S' T' I' L') (hV : Inv n S') (h1 : I' 1 = I 1) (ho : ∀ i, 7 ≤ i → i < 300 → I' i = I i ∧ L' i = L i) : CX n S' T' w nf fr J M I' L' := by
  obtain ⟨-, -, h3, h4⟩ := h
  refine ⟨hC, hV, by rw [h1]; exact h3, fun i hi => ?_⟩
  have hb := oth_b hi
  obtain ⟨a1, a2⟩ := ho i hb.1 hb.2
  rw [a1, a2]
  exact h4 i hi
theorem InvT_cong {S S' : MI} (h : InvT S) (h1 : S' 30 3 = S 30 3) (h2 : S' 204 = S 204) : InvT S' := by
  unfold InvT at h ⊢
  rw [h1, h2]
  exact h
theorem InvP_cong {n : Nat} {S S' : MI} (h : InvP n S) (h1 : S' 30 3 = S 30 3) (h2 : S' 30 27 = S 30 27) (h3 : S' 228 = S 228) (h4 : S' 232 = S 232) (h5 : S' 233 = S 233) : InvP n S' := by
  unfold InvP at h ⊢
  rw [h1, h2, h3, h4, h5]
  exact h
theorem InvC_cong {n : Nat} {S S' : MI} (h : InvC n S) (h1 : S' 30 3 = S 30 3) (h2 : S' 30 34 = S 30 34) (h3 : S' 235 = S 235) (h4 : S' 236 = S 236) (h5 : S' 237 = S 237) (h6 : S' 238 = S 238) : InvC n S' := by
  unfold InvC at h ⊢
  rw [h1, h2, h3, h4, h5, h6]
  exact h
theorem InvM_cong {n : Nat} {S S' : MI} (h : InvM n S) (h1 : S' 30 3 = S 30 3) (h2 : S' 30 23 = S 30 23) (h3 : S' 224 = S 224) (h4 : S' 226 = S 226) : InvM n S' := by
  unfold InvM at h ⊢
  rw [h1, h2, h3, h4]
  exact h
theorem InvQ_cong {S S' : MI} {l : Nat} (h : InvQ S l) (h1 : S' 30 3 = S 30 3) (h2 : S' 30 34 = S 30 34) (h3 : S' 209 l = S 209 l) (h4 : ∀ i, i < N (S 209 l) → S' 211 (24 * l + i) = S 211 (24 * l + i)) (h5 : ∀ i, i < N (S 209 l) → S' 212 (24 * l + i) = S 212 (24 * l + i)) : InvQ S' l := by
  unfold InvQ at h ⊢
  rw [h1, h2, h3]
  refine ⟨h.1, fun i hi => ?_⟩
  rw [h4 i hi, h5 i hi]
  exact h.2 i hi
theorem InvB_cong {S S' : MI} {l : Nat} (h : InvB S l) (h1 : S' 30 3 = S 30 3) (h2 : S' 30 27 = S 30 27) (h3 : S' 214 l = S 214 l) (h4 : S' 215 l = S 215 l) (h5 : S' 216 l = S 216 l) (h6 : S' 217 l = S 217 l) : InvB S' l := by
  unfold InvB at h ⊢
  rw [h1, h2, h3, h4, h5, h6]
  exact h
theorem InvS_cong {S S' : MI} {l : Nat} (h : InvS S l) (h1 : S' 208 l = S 208 l) : InvS S' l := by
  unfold InvS at h ⊢
  rw [h1]
  exact h
theorem Inv_tr {n : Nat} {S : MI} (h : Inv n S) : S 30 41 = nI (tr S) := h.2.2.2.2.2.2.2
theorem Inv_log {n : Nat} {S : MI} (t k v : Int32) (h : Inv n S) (hb : tr S + 1 < 2 ^ 31) : Inv n (Flog S t k v) ∧ tr (Flog S t k v) = tr S + 1 := by
  obtain ⟨h1, h2, h3, h4, h5, h6, h7, h8⟩ := h
  have e : Flog S t k v 30 41 = nI (tr S + 1) := by simp [Flog, Rlog, rdI, tr]
  have et : tr (Flog S t k v) = tr S + 1 := by
    unfold tr
    rw [e]
    exact N_nI hb
  refine ⟨⟨h1, by simp [Flog, Rlog, rdI, h2], InvT_cong h3 (by simp [Flog, Rlog, rdI]) (by simp [Flog, Rlog, upI_ne]), InvP_cong h4 (by simp [Flog, Rlog, rdI]) (by simp [Flog, Rlog, rdI]) (by simp [Flog, Rlog, upI_ne]) (by simp [Flog, Rlog, upI_ne]) (by simp [Flog, Rlog, upI_ne]), InvC_cong h5 (by simp [Flog, Rlog, rdI]) (by simp [Flog, Rlog, rdI]) (by simp [Flog, Rlog, upI_ne]) (by simp [Flog, Rlog, upI_ne]) (by simp [Flog, Rlog, upI_ne]) (by simp [Flog, Rlog, upI_ne]), InvM_cong h6 (by simp [Flog, Rlog, rdI]) (by simp [Flog, Rlog, rdI]) (by simp [Flog, Rlog, upI_ne]) (by simp [Flog, Rlog, upI_ne]), fun l hl => ⟨InvQ_cong (h7 l hl).1 (by simp [Flog, Rlog, rdI]) (by simp [Flog, Rlog, rdI]) (by simp [Flog, Rlog, rdI]) (fun i _ => by simp [Flog, Rlog, rdI]) (fun i _ => by simp [Flog, Rlog, rdI]), InvB_cong (h7 l hl).2.1 (by simp [Flog, Rlog, rdI]) (by simp [Flog, Rlog, rdI]) (by simp [Flog, Rlog, rdI]) (by simp [Flog, Rlog, rdI]) (by simp [Flog, Rlog, rdI]) (by simp [Flog, Rlog, rdI]), InvS_cong (h7 l hl).2.2 (by simp [Flog, Rlog, rdI])⟩, ?_⟩, et⟩
  rw [e, N_nI hb]
theorem CX_log {n w nf fr : Nat} {S I J : MI} {T L M : ML} (t k v : Int32) (h : CX n S T w nf fr J M I L) (hb : tr S + 1 < 2 ^ 31) : CX n (Flog S t k v) T w nf fr J M (Clog I (tr S) t k v) L := by
  refine CX_of h (CR_log t k v h.1 (Inv_tr h.2.1) (by omega)) (Inv_log t k v h.2.1 hb).1 (by simp [Clog, upI_ne]) (fun i h7 h8 => ?_)
  simp [Clog, upI_ne, show i ≠ 3 by omega, show i ≠ 330 by omega]
theorem CX_cnt {n w nf fr : Nat} {S I J : MI} {T L M : ML} (h : CX n S T w nf fr J M I L) : I 3 1 = nI (tr S) := h.1.1.1.trans (Inv_tr h.2.1)
/-- the state of a loop -/
theorem Inv_st {n : Nat} {S : MI} {i : Nat} {s : Int32} (h : Inv n S) (hs : s = 1 ∨ s = 2 ∨ s = 3 ∨ s = 4 ∨ s = 5) : Inv n (upI S 208 i s) := by
  obtain ⟨h1, h2, h3, h4, h5, h6, h7, h8⟩ := h
  refine ⟨h1, by simp [rdI, h2], InvT_cong h3 (by simp [rdI]) (by simp [upI_ne]), InvP_cong h4 (by simp [rdI]) (by simp [rdI]) (by simp [upI_ne]) (by simp [upI_ne]) (by simp [upI_ne]), InvC_cong h5 (by simp [rdI]) (by simp [rdI]) (by simp [upI_ne]) (by simp [upI_ne]) (by simp [upI_ne]) (by simp [upI_ne]), InvM_cong h6 (by simp [rdI]) (by simp [rdI]) (by simp [upI_ne]) (by simp [upI_ne]), fun l hl => ⟨InvQ_cong (h7 l hl).1 (by simp [rdI]) (by simp [rdI]) (by simp [rdI]) (fun i _ => by simp [rdI]) (fun i _ => by simp [rdI]), InvB_cong (h7 l hl).2.1 (by simp [rdI]) (by simp [rdI]) (by simp [rdI]) (by simp [rdI]) (by simp [rdI]) (by simp [rdI]), ?_⟩, by simp [rdI]; exact h8⟩
  unfold InvS
  by_cases e : l = i
  · subst e
    simpa [rdI] using hs
  · have := (h7 l hl).2.2
    unfold InvS at this
    simpa [rdI, e] using this
theorem CX_st {n w nf fr : Nat} {S I J : MI} {T L M : ML} {i : Nat} {s : Int32} (h : CX n S T w nf fr J M I L) (hs : s = 1 ∨ s = 2 ∨ s = 3 ∨ s = 4 ∨ s = 5) (hq : 3 ≤ s → (I (lid i 0) 7).toInt64 = T 218 i ∧ (I (lid i 0) 8).toInt64 = T 219 i ∧ L (lid i 0) 9 = T 220 i ∧ L (lid i 0) 10 = T 221 i) : CX n (upI S 208 i s) T w nf fr J M (upI I (lid i 0) 2 s) L := by
  obtain ⟨h1, h2, h3, h4, h5, h6⟩ := id h.1
  refine CX_of h ⟨?_, ?_, ?_, ?_, ?_, fun l hl => ⟨?_, ?_, ?_⟩⟩ (Inv_st h.2.1 hs) (by simp [upI_ne, ne_lid]) (fun i h7 h8 => ?_)
  · simpa [CRt, upI_ne, rdI, ne_lid] using h1
  · simpa [CRk, upI_ne, rdI, ne_lid] using h2
  · simpa [CRp, upI_ne, rdI, ne_lid] using h3
  · simpa [CRc, upI_ne, rdI, ne_lid] using h4
  · simpa [CRs, upI_ne, rdI, ne_lid] using h5
  · exact CRq_cong (h6 l hl).1 (by simp [rdI]) (by simp [upI_ne]) (by simp [upI_ne]) (by simp [upI_ne]) (by simp [upI_ne, lid_eq]) (by simp [upI_ne, lid_eq]) (by simp [upI_ne, lid_eq]) (by simp [upI_ne, lid_eq])
  · exact CRm_cong (h6 l hl).2.1 (by simp [rdI]) (by simp [upI_ne]) (by simp [upI_ne]) rfl (by simp [upI_ne, lid_eq]) (by simp [upI_ne, lid_eq]) (by simp [upI_ne, lid_eq]) rfl
  · by_cases e : l = i
    · subst e
      have := (h6 l hl).2.2
      unfold CRl at this ⊢
      exact ⟨by simp [rdI], by simpa [rdI] using this.2.1, by simpa [rdI] using this.2.2.1, by simpa [rdI] using this.2.2.2.1, fun h3 => by simpa [rdI] using hq (by simpa [rdI] using h3)⟩
    · exact CRl_cong (h6 l hl).2.2 (by simp [rdI, e]) (by simp [rdI]) (by simp [rdI]) (by simp [rdI]) (by simp [rdI]) (by simp [rdI]) rfl rfl rfl rfl (by simp [upI_ne, lid_eq, e]) rfl
  · simp [upI_ne, ne_lid (show i < 1000 by omega)]
theorem CX_bec {n w nf fr : Nat} {S I J : MI} {T L M : ML} {i : Nat} {s : Int32} (h : CX n S T w nf fr J M I L) (hb : tr S + 1 < 2 ^ 31) (hs : s = 1 ∨ s = 2 ∨ s = 3 ∨ s = 4 ∨ s = 5) (hq : 3 ≤ s → (I (lid i 0) 7).toInt64 = T 218 i ∧ (I (lid i 0) 8).toInt64 = T 219 i ∧ L (lid i 0) 9 = T 220 i ∧ L (lid i 0) 10 = T 221 i) : CX n (Fbec S i s) T w nf fr J M (Cbec I (tr S) i s) L ∧ tr (Fbec S i s) = tr S + 1 := by
  have h1 := CX_st (i := i) h hs hq
  have e : tr (upI S 208 i s) = tr S := by simp [tr, rdI]
  have h2 := CX_log (nI i) 7 s h1 (by rw [e]; exact hb)
  rw [e] at h2
  exact ⟨h2, by unfold Fbec; rw [(Inv_log _ _ _ h1.2.1 (by rw [e]; exact hb)).2, e]⟩
end
section
theorem w_abs : Cond.static Lib.Math.abs.name ∈ WS ∧ Cond.initialized "java/lang/Math" ∈ WS ∧ Cond.code Lib.Math.abs.name Lib.Math.abs.code 1 (some .int) ∈ WS := by decide +kernel
theorem w_min : Cond.static Lib.Math.min.name ∈ WS ∧ Cond.initialized "java/lang/Math" ∈ WS ∧ Cond.code Lib.Math.min.name Lib.Math.min.code 2 (some .int) ∈ WS := by decide +kernel
theorem w_copy : Cond.native arraycopyName ∈ WS ∧ Cond.static arraycopyName ∈ WS ∧ Cond.initialized "java/lang/System" ∈ WS := by decide +kernel
def cpI (I : MI) (i sp dp m : Nat) : MI := fun x z => if x = i then va_cpy (I i) (I i) sp dp m z else I x z
theorem cpI_ne {I : MI} {i sp dp m x : Nat} (h : x ≠ i) : cpI I i sp dp m x = I x := by
  funext z
  simp [cpI, h]
theorem cpI_self {I : MI} {i sp dp m : Nat} : cpI I i sp dp m i = va_cpy (I i) (I i) sp dp m := by
  funext z
  simp [cpI]
section
variable {l : Launch} {n : Nat} {y : vq_M} {d K : Nat} {Q : vq_R} {QX : vq_RX} {k pc : Nat} {lv lv' : List (Nat × Value)} {st : List Value} {I : MI} {L : ML}
theorem q_min {x z : Int32} {ix : Nat} {own : String} (hw : Cond.methodLink own ix Lib.Math.min.name ∈ WS) (ho : y.1.cls = own) (hd : decode y.2.1 pc = .ok (.invokestatic ix, 3)) (hdep : 1 ≤ d) (hrest : (st.map fun v => v.category).sum ≤ 8) (hk : k ≤ K) (kk : VP l n y d K Q QX k (pc + 3) lv (.int (if z < x then z else x) :: st) I L) : VP l n y d K Q QX k pc lv (.int z :: .int x :: st) I L := by
  intro p e s m args below meth c a cs D A H locs ls C hP hD hS hl
  have hts := C.2.2.2.2.2.1
  exact va_mmin C.1 C.2.1 (C.2.2.2.1.trans hl.1.symm) (own := own) (ho ▸ C.2.2.2.2.1) (hts _ hw) (hts _ w_min.1) (hts _ w_min.2.1) (hts _ w_min.2.2) hdep (by rw [vq_cats]; show _ ≤ 64 * d; omega) hk (by show 6 * k ≤ 6 * K; omega) hd (kk p e s m args below meth c a cs D A H locs ls C hP hD hS hl)
theorem q_abs {x : Int32} {ix : Nat} {own : String} (hw : Cond.methodLink own ix Lib.Math.abs.name ∈ WS) (ho : y.1.cls = own) (hd : decode y.2.1 pc = .ok (.invokestatic ix, 3)) (hdep : 1 ≤ d) (hrest : (st.map fun v => v.category).sum ≤ 8) (hk : k ≤ K) (kk : VP l n y d K Q QX k (pc + 3) lv (.int (if 0 ≤ x then x else 0 - x) :: st) I L) : VP l n y d K Q QX k pc lv (.int x :: st) I L := by
  intro p e s m args below meth c a cs D A H locs ls C hP hD hS hl
  have hts := C.2.2.2.2.2.1
  exact va_mabs C.1 C.2.1 (C.2.2.2.1.trans hl.1.symm) (own := own) (ho ▸ C.2.2.2.2.1) (hts _ hw) (hts _ w_abs.1) (hts _ w_abs.2.1) (hts _ w_abs.2.2) hdep (by rw [vq_cats]; show _ ≤ 64 * d; omega) hk (by show 6 * k ≤ 6 * K; omega) hd (kk p e s m args below meth c a cs D A H locs ls C hP hD hS hl)
theorem q_copy (i sp dp c0 : Nat) {x1 x2 x3 : Int32} {ix : Nat} {own : String} (hn : n < 2 ^ 31) (hi : vq_is n i 20) (h1 : x1 = nI sp) (h2 : x2 = nI dp) (h3 : x3 = nI c0) (h4 : sp + c0 ≤ gl n i) (h5 : dp + c0 ≤ gl n i) (hw : Cond.methodLink own ix arraycopyName ∈ WS) (ho : y.1.cls = own) (hd : decode y.2.1 pc = .ok (.invokestatic ix, 3)) (hdep : 1 ≤ d) (hrest : (st.map fun v => v.category).sum ≤ 8) (kk : VP l n y d K Q QX k (pc + 3) lv st (cpI I i sp dp c0) L) : VP l n y d K Q QX k pc lv (.int x3 :: .int x2 :: .ref i :: .int x1 :: .ref i :: st) I L := by
  intro p e s m args below meth c a cs D A H locs ls C hP hD hS hl
  have hts := C.2.2.2.2.2.1
  obtain ⟨q0, hq, hw0⟩ := vq_pos (a := a) (cs := cs) (I := I) (L := L) hi
  rw [vq_ct20 hi.2] at hw0
  have hg := gl_lt hn i
  subst h1; subst h2; subst h3
  have e1 : (nI sp).toNatClampNeg = sp := nI_clamp (by omega)
  have e2 : (nI dp).toNatClampNeg = dp := nI_clamp (by omega)
  have e3 : (nI c0).toNatClampNeg = c0 := nI_clamp (by omega)
  refine va_copyi (D := D) C.1 C.2.1 (C.2.2.2.1.trans hl.1.symm) (own := own) (ho ▸ C.2.2.2.2.1) (hts _ hw) (hts _ w_copy.1) (hts _ w_copy.2.1) (hts _ w_copy.2.2) C.2.2.2.2.2.2.2.2.1 hP hD hS q0 q0 0 0 hw0 hw0 rfl rfl rfl (nI_pos (by omega)) (nI_pos (by omega)) (nI_pos (by omega)) (by rw [e1, e3]; exact h4) (by rw [e2, e3]; exact h5) (fun i _ => rfl) hdep ?_ hd (fun H1 locs1 hP1 hD1 hS1 => ?_)
  · rw [vq_cats]
    have e9 : nativeFrameWords "java/lang/System" "arraycopy" 5 + 11 ≤ 56 := by decide
    show _ ≤ 64 * d
    omega
  · rw [e1, e2, e3] at hP1 hD1
    have e9 : (vq_W n a cs I L).set q0 (a i, .inl (cs.1, gl n i, .inl (va_cpy (I i) (I i) sp dp c0))) = vq_W n a cs (cpI I i sp dp c0) L := by
      rw [← cpI_self, ← vq_ct20 (n := n) (a := a) (cs := cs) (L := L) hi.2]
      exact vq_set (f := fun x => vq_ct n a cs I L x) (g := fun x => vq_ct n a cs (cpI I i sp dp c0) L x) hD hq (fun x hx => vq_ct_other (cpI_ne hx) rfl)
    rw [e9] at hP1 hD1
    exact kk p e s m args below meth c a cs D A H1 locs1 ls C hP1 hD1 hS1 hl
end
end
section
/-! ===== the queues ===== -/
theorem CRq_cong2 {S S' I I' : MI} {l : Nat} (h : CRq S I l) (h1 : S' 209 l = S 209 l) (h2 : ∀ i, i < N (S 209 l) → S' 211 (24 * l + i) = S 211 (24 * l + i)) (h3 : ∀ i, i < N (S 209 l) → S' 212 (24 * l + i) = S 212 (24 * l + i)) (h4 : ∀ i, i < N (S 209 l) → S' 213 (24 * l + i) = S 213 (24 * l + i)) (i1 : I' (lid l 1) = I (lid l 1)) (i3 : I' (lid l 3) = I (lid l 3)) (i4 : I' (lid l 4) = I (lid l 4)) (i5 : I' (lid l 5) = I (lid l 5)) : CRq S' I' l := by
  unfold CRq at h ⊢
  rw [h1, i1, i3, i4, i5]
  obtain ⟨a, f, b, c, e⟩ := h
  refine ⟨a, f, b, c, fun i hi => ?_⟩
  rw [h2 i hi, h3 i hi, h4 i hi]
  exact e i hi
/-- what may stand in a queue -/
def okQ (S : MI) (k x : Int32) : Prop := (k = 2 ∧ nbt x (N (S 30 34))) ∨ ((k = 0 ∨ k = 1) ∧ nbt x (N (S 30 3)))
theorem Inv_enq0 {n : Nat} {S : MI} {i : Nat} {k x m : Int32} (h : Inv n S) (hi : i < n) (hq : N (S 209 i) < 24) (hk : okQ S k x) : Inv n (Fenq0 S i k x m) := by
  obtain ⟨h1, h2, h3, h4, h5, h6, h7, h8⟩ := h
  have e9 : S 209 i + 1 = nI (N (S 209 i) + 1) := nI_add1 (h7 i hi).1.1.1
  refine ⟨h1, by simp [Fenq0, rdI, h2], InvT_cong h3 (by simp [Fenq0, rdI]) (by simp [Fenq0, upI_ne]), InvP_cong h4 (by simp [Fenq0, rdI]) (by simp [Fenq0, rdI]) (by simp [Fenq0, upI_ne]) (by simp [Fenq0, upI_ne]) (by simp [Fenq0, upI_ne]), InvC_cong h5 (by simp [Fenq0, rdI]) (by simp [Fenq0, rdI]) (by simp [Fenq0, upI_ne]) (by simp [Fenq0, upI_ne]) (by simp [Fenq0, upI_ne]) (by simp [Fenq0, upI_ne]), InvM_cong h6 (by simp [Fenq0, rdI]) (by simp [Fenq0, rdI]) (by simp [Fenq0, upI_ne]) (by simp [Fenq0, upI_ne]), fun l hl => ⟨?_, InvB_cong (h7 l hl).2.1 (by simp [Fenq0, rdI]) (by simp [Fenq0, rdI]) (by simp [Fenq0, rdI]) (by simp [Fenq0, rdI]) (by simp [Fenq0, rdI]) (by simp [Fenq0, rdI]), InvS_cong (h7 l hl).2.2 (by simp [Fenq0, rdI])⟩, by simp [Fenq0, rdI]; exact h8⟩
  by_cases e : l = i
  · subst e
    have e2 : Fenq0 S l k x m 209 l = nI (N (S 209 l) + 1) := by simp [Fenq0, rdI, e9]
    have e3 : N (Fenq0 S l k x m 209 l) = N (S 209 l) + 1 := by rw [e2]; exact N_nI (by omega)
    unfold InvQ
    rw [e3]
    refine ⟨nb_of e2 (by omega) (by decide), fun j hj => ?_⟩
    by_cases ej : j = N (S 209 l)
    · subst ej
      simpa [Fenq0, rdI, okQ] using hk
    · have := (h7 l hl).1.2 j (by omega)
      simpa [Fenq0, rdI, ej] using this
  · refine InvQ_cong (h7 l hl).1 (by simp [Fenq0, rdI]) (by simp [Fenq0, rdI]) (by simp [Fenq0, rdI, e]) (fun j hj => ?_) (fun j hj => ?_)
    · have hb := (h7 l hl).1.1.2
      have : ¬ 24 * l + j = 24 * i + N (S 209 i) := by omega
      simp [Fenq0, rdI, this]
    · have hb := (h7 l hl).1.1.2
      have : ¬ 24 * l + j = 24 * i + N (S 209 i) := by omega
      simp [Fenq0, rdI, this]
theorem CX_enq0 {n w nf fr : Nat} {S I J : MI} {T L M : ML} {i f : Nat} {k x m : Int32} (h : CX n S T w nf fr J M I L) (hi : i < n) (hq : N (S 209 i) < 24) (hk : okQ S k x) (hf : f < 24) (hfe : I (lid i 1) 3 = nI f) : CX n (Fenq0 S i k x m) T w nf fr J M (Cqput I i ((f + N (S 209 i)) % 24) k x m) L := by
  obtain ⟨h1, h2, h3, h4, h5, h6⟩ := id h.1
  have hV := h.2.1.2.2.2.2.2.2.1
  refine CX_of h ⟨?_, ?_, ?_, ?_, ?_, fun l hl => ⟨?_, ?_, ?_⟩⟩ (Inv_enq0 h.2.1 hi hq hk) (by simp [Cqput, upI_ne, ne_lid]) (fun i h7 h8 => ?_)
  · simpa [CRt, Fenq0, Cqput, upI_ne, rdI, ne_lid] using h1
  · simpa [CRk, Fenq0, Cqput, upI_ne, rdI, ne_lid] using h2
  · simpa [CRp, Fenq0, Cqput, upI_ne, rdI, ne_lid] using h3
  · simpa [CRc, Fenq0, Cqput, upI_ne, rdI, ne_lid] using h4
  · simpa [CRs, Fenq0, Cqput, upI_ne, rdI, ne_lid] using h5
  · by_cases e : l = i
    · subst e
      obtain ⟨q1, f', q2, q3, q4⟩ := (h6 l hl).1
      have e9 : S 209 l + 1 = nI (N (S 209 l) + 1) := nI_add1 (hV l hl).1.1.1
      have e2 : Fenq0 S l k x m 209 l = nI (N (S 209 l) + 1) := by simp [Fenq0, rdI, e9]
      have e3 : N (Fenq0 S l k x m 209 l) = N (S 209 l) + 1 := by rw [e2]; exact N_nI (by omega)
      have ef : f' = f := by
        have := q3.symm.trans hfe
        exact (nI_eq (by omega) (by omega)).mp this
      subst ef
      refine ⟨by simp [Fenq0, Cqput, rdI, q1], f', q2, by simpa [Cqput, rdI, lid_eq] using q3, fun j hj => ?_⟩
      rw [e3] at hj
      by_cases ej : j = N (S 209 l)
      · subst ej
        simp [Fenq0, Cqput, rdI, lid_eq]
      · have := q4 j (by omega)
        have em : ¬ (f' + j) % 24 = (f' + N (S 209 l)) % 24 := by omega
        simpa [Fenq0, Cqput, rdI, lid_eq, ej, em] using this
    · refine CRq_cong2 (h6 l hl).1 (by simp [Fenq0, rdI, e]) (fun j hj => ?_) (fun j hj => ?_) (fun j hj => ?_) (by simp [Cqput, upI_ne, lid_eq, e]) (by simp [Cqput, upI_ne, lid_eq, e]) (by simp [Cqput, upI_ne, lid_eq, e]) (by simp [Cqput, upI_ne, lid_eq, e])
      all_goals
        have hb := (hV l hl).1.1.2
        have : ¬ 24 * l + j = 24 * i + N (S 209 i) := by omega
        simp [Fenq0, rdI, this]
  · exact CRm_cong (h6 l hl).2.1 (by simp [Fenq0, rdI]) (by simp [Fenq0, upI_ne]) (by simp [Fenq0, upI_ne]) rfl (by simp [Cqput, upI_ne, lid_eq]) (by simp [Cqput, upI_ne, lid_eq]) (by simp [Cqput, upI_ne, lid_eq]) rfl
  · exact CRl_cong (h6 l hl).2.2 (by simp [Fenq0, rdI]) (by simp [Fenq0, rdI]) (by simp [Fenq0, rdI]) (by simp [Fenq0, rdI]) (by simp [Fenq0, rdI]) (by simp [Fenq0, rdI]) rfl rfl rfl rfl (by simp [Cqput, upI_ne, lid_eq]) rfl
  · simp [Cqput, upI_ne, ne_lid (show i < 1000 by omega)]
theorem Fenq_comm {S : MI} {i : Nat} {k x m : Int32} (hq : S 30 41 = nI (tr S)) : Fenq0 (Fbec S i 2) i k x m = Fbec (Fenq0 S i k x m) i 2 := by
  have e1 : N (upI S 208 i 2 30 41) = tr S := by simp [rdI, tr]
  have e2 : N (upI (Fenq0 S i k x m) 208 i 2 30 41) = tr S := by simp [Fenq0, rdI, tr]
  have e3 : N (Fbec S i 2 209 i) = N (S 209 i) := by simp [Fbec, Flog, Rlog, rdI]
  have e4 : Fbec S i 2 209 i = S 209 i := by simp [Fbec, Flog, Rlog, rdI]
  unfold Fenq0
  rw [e3, e4]
  unfold Fbec Flog Rlog
  rw [e1]
  funext a b
  simp only [rdI]
  have e5 : N (if 30 = 209 ∧ 41 = i then S 209 i + 1 else if 30 = 213 ∧ 41 = 24 * i + N (S 209 i) then m else if 30 = 212 ∧ 41 = 24 * i + N (S 209 i) then x else if 30 = 211 ∧ 41 = 24 * i + N (S 209 i) then k else S 30 41) = tr S := by simp [tr]
  simp only [show (30 = 208 ∧ 41 = i) = False by simp, if_false, e5]
  by_cases ha : a = 209
  · subst ha; simp
  · by_cases ha : a = 211
    · subst ha; simp
    · by_cases ha : a = 212
      · subst ha; simp
      · by_cases ha : a = 213
        · subst ha; simp
        · simp [*]
theorem i32_4 {s : Int32} : (4 ≤ s) = (3 < s) := by
  simp only [eq_iff_iff, Int32.lt_iff_toInt_lt, Int32.le_iff_toInt_le, show (4 : Int32).toInt = 4 from rfl, show (3 : Int32).toInt = 3 from rfl]
  omega
theorem nb_24 {x : Int32} (h : nb x 24) : (24 ≤ x) = (x = 24) := by
  obtain ⟨h1, h2⟩ := h
  rw [h1, show (24 : Int32) = nI 24 from rfl, nI_leI (by omega) (by omega), eq_iff_iff, nI_eq (by omega) (by omega)]
  omega
theorem nb_lt {x : Int32} (h : nb x 24) (h9 : ¬ x = 24) : N x < 24 := by
  obtain ⟨h1, h2⟩ := h
  rcases Nat.lt_or_ge (N x) 24 with q | q
  · exact q
  · exact absurd (by rw [h1, show N x = 24 by omega]; rfl) h9
section
variable (l : Launch) (n : Nat) (hn : n < 2 ^ 31) (d : Nat) (I : MI) (L : ML)
set_option maxHeartbeats 4000000 in
set_option maxRecDepth 100000 in
theorem c_enqueue {S J : MI} {T M : ML} {w nf fr : Nat} (tg : Nat) (th k x m : Int32) (hn : n < 2 ^ 31) (h : CX n S T w nf fr J M I L) (htg : tg < n) (hk : okQ S k x) (hb : tr S + 1 < 2 ^ 31) (hd : 2 ≤ d) : VM l n m_X5_enqueue d 0 [.ref 2, .int th, .int (nI tg), .int k, .int x, .int m] I L (fun r I' L' => r = some (.int (bI (¬ rej S tg))) ∧ CX n (Fput S th tg k x m (if k = 2 then -1 else x)) T w nf fr J M I' L') noX := by
  refine VM_of _ [(0, .ref 2), (1, .int th), (2, .int (nI tg)), (3, .int k), (4, .int x), (5, .int m)] rfl (fun a => Nat.le_of_ble_eq_true rfl) rfl ?_
  have hst : I (lid tg 0) 2 = S 208 tg := (h.1.2.2.2.2.2 tg htg).2.2.1
  have hsz : I (lid tg 1) 4 = S 209 tg := (h.1.2.2.2.2.2 tg htg).1.1
  have hnb := (h.2.1.2.2.2.2.2.2.1 tg htg).1.1
  have hvS := (h.2.1.2.2.2.2.2.2.1 tg htg).2.2
  have hc := CX_cnt h
  obtain ⟨-, f, hf, hfe, -⟩ := (h.1.2.2.2.2.2 tg htg).1
  refine q_aload_n dX5_enqueue_0 rfl ?_
  refine q_getR 2 5 1 321 (is_2 n) (by decide) rfl rfl (by decide) f_X5_20 rfl dX5_enqueue_1 ?_
  refine q_iload_n dX5_enqueue_4 rfl ?_
  refine q_aald 321 (tg) (lid (tg) 0) hn (is_321 n) rfl htg rfl dX5_enqueue_5 ?_
  refine q_astore [(6, _), (0, _), (1, _), (2, _), (3, _), (4, _), (5, _)] dX5_enqueue_6 (by decide) rfl ?_
  refine q_aload dX5_enqueue_8 rfl ?_
  refine q_getI (lid tg 0) 1 2 (vq_isL htg 0 (by decide) rfl) (by decide) rfl (by decide) f_X5_35 rfl dX5_enqueue_10 ?_
  refine q_iconst (4) dX5_enqueue_13 (by decide) ?_
  refine q_icmp_ge 28 dX5_enqueue_14 (by decide) (fun h14 => ?_) (fun h14 => ?_)
  · refine q_aload_n dX5_enqueue_28 rfl ?_
    refine q_getR 2 5 0 3 (is_2 n) (by decide) rfl rfl (by decide) f_X5_12 rfl dX5_enqueue_29 ?_
    refine q_iload_n dX5_enqueue_32 rfl ?_
    refine q_iconst (4) dX5_enqueue_33 (by decide) ?_
    refine q_iload_n dX5_enqueue_34 rfl ?_
    refine q_iconst (2) dX5_enqueue_35 (by decide) ?_
    refine q_icmp_ne 43 dX5_enqueue_36 (by decide) (fun h36 => ?_) (fun h36 => ?_)
    · refine q_iload dX5_enqueue_43 rfl ?_
      refine q_callv [.int _, .int _, .int _] o_X8_log rfl k_X5_48 rfl (is_3 n) (by decide) rfl dX5_enqueue_45 (by decide) (by omega) (by decide) (by omega) rfl (c_log l n hn (d - 1) _ L (tr S) th 4 _ (by exact hc) (by omega)) (fun _ _ _ h => h.elim) (fun I2 L2 hq => ?_)
      obtain ⟨-, e2, e3⟩ := hq; subst e2; cases e3.symm
      refine q_iconst (0) dX5_enqueue_48 (by decide) ?_
      refine q_zret dX5_enqueue_49 rfl (by omega) (by decide) ?_
      ((try rw [hst, i32_4] at h14); (try simp only [bI_z, nb_24 hnb, ne_eq, Decidable.not_not] at h25); (try rw [hst] at h56); first | (have hr : rej S tg := (by first | exact Or.inl h14 | exact Or.inr h25); refine ⟨by rw [bI_f (fun q => q hr)], ?_⟩; rw [Fput, if_pos hr]; simpa [h36] using CX_log th 4 _ h hb) | (have hr : ¬ rej S tg := (fun q => q.elim h14 h25); refine ⟨by rw [bI_t hr], ?_⟩; rw [Fput, if_neg hr]; unfold Fenq; first | (rw [if_neg h56]; exact CX_enq0 h htg (nb_lt hnb h25) hk hf hfe) | (rw [if_pos h56, ← Fenq_comm (Inv_tr h.2.1)]; exact (by have h9 := (CX_bec (i := tg) (s := 2) h hb (by decide) (fun q => absurd q (by decide))).1; have e9 : Fbec S tg 2 209 tg = S 209 tg := (by simp [Fbec, Flog, Rlog, rdI]); have := CX_enq0 (i := tg) (f := f) (k := k) (x := x) (m := m) h9 htg (by rw [e9]; exact nb_lt hnb h25) (by simpa [okQ, Fbec, Flog, Rlog, rdI] using hk) hf (by simp [Cbec, Clog, rdI, lid_eq, lid_ne, hfe]); rw [e9] at this; exact this))))
    · refine q_iconst (-1) dX5_enqueue_39 (by decide) ?_
      refine q_goto 45 dX5_enqueue_40 (by decide) ?_
      refine q_callv [.int _, .int _, .int _] o_X8_log rfl k_X5_48 rfl (is_3 n) (by decide) rfl dX5_enqueue_45 (by decide) (by omega) (by decide) (by omega) rfl (c_log l n hn (d - 1) _ L (tr S) th 4 _ (by exact hc) (by omega)) (fun _ _ _ h => h.elim) (fun I2 L2 hq => ?_)
      obtain ⟨-, e2, e3⟩ := hq; subst e2; cases e3.symm
      refine q_iconst (0) dX5_enqueue_48 (by decide) ?_
      refine q_zret dX5_enqueue_49 rfl (by omega) (by decide) ?_
      ((try rw [hst, i32_4] at h14); (try simp only [bI_z, nb_24 hnb, ne_eq, Decidable.not_not] at h25); (try rw [hst] at h56); first | (have hr : rej S tg := (by first | exact Or.inl h14 | exact Or.inr h25); refine ⟨by rw [bI_f (fun q => q hr)], ?_⟩; rw [Fput, if_pos hr]; simpa [h36] using CX_log th 4 _ h hb) | (have hr : ¬ rej S tg := (fun q => q.elim h14 h25); refine ⟨by rw [bI_t hr], ?_⟩; rw [Fput, if_neg hr]; unfold Fenq; first | (rw [if_neg h56]; exact CX_enq0 h htg (nb_lt hnb h25) hk hf hfe) | (rw [if_pos h56, ← Fenq_comm (Inv_tr h.2.1)]; exact (by have h9 := (CX_bec (i := tg) (s := 2) h hb (by decide) (fun q => absurd q (by decide))).1; have e9 : Fbec S tg 2 209 tg = S 209 tg := (by simp [Fbec, Flog, Rlog, rdI]); have := CX_enq0 (i := tg) (f := f) (k := k) (x := x) (m := m) h9 htg (by rw [e9]; exact nb_lt hnb h25) (by simpa [okQ, Fbec, Flog, Rlog, rdI] using hk) hf (by simp [Cbec, Clog, rdI, lid_eq, lid_ne, hfe]); rw [e9] at this; exact this))))
  · refine q_aload dX5_enqueue_17 rfl ?_
    refine q_getR (lid tg 0) 1 0 (lid tg 1) (vq_isL htg 0 (by decide) rfl) (by decide) rfl ((gr_lid tg 0 0 (by decide)).trans rfl) (by decide) f_X5_38 rfl dX5_enqueue_19 ?_
    refine q_calli [] o_X3_isFull rfl k_X5_42 rfl (vq_isL htg 1 (by decide) rfl) (by decide) rfl dX5_enqueue_22 (by decide) (by omega) (by decide) (by omega) (Or.inr rfl) (c_isFull l n (d - 1) I L tg htg) (fun _ _ _ h => h.elim) (fun r1 I1 L1 hq => ?_)
    obtain ⟨e1, e2, e3⟩ := hq; cases e1; cases e2.symm; cases e3.symm; rw [hsz]
    refine q_if_eq 50 dX5_enqueue_25 (by decide) (fun h25 => ?_) (fun h25 => ?_)
    · refine q_aload dX5_enqueue_50 rfl ?_
      refine q_getI (lid tg 0) 1 2 (vq_isL htg 0 (by decide) rfl) (by decide) rfl (by decide) f_X5_35 rfl dX5_enqueue_52 ?_
      refine q_iconst (1) dX5_enqueue_55 (by decide) ?_
      refine q_icmp_ne 65 dX5_enqueue_56 (by decide) (fun h56 => ?_) (fun h56 => ?_)
      · refine q_aload dX5_enqueue_65 rfl ?_
        refine q_getR (lid tg 0) 1 0 (lid tg 1) (vq_isL htg 0 (by decide) rfl) (by decide) rfl ((gr_lid tg 0 0 (by decide)).trans rfl) (by decide) f_X5_38 rfl dX5_enqueue_67 ?_
        refine q_iload_n dX5_enqueue_70 rfl ?_
        refine q_iload dX5_enqueue_71 rfl ?_
        refine q_iload dX5_enqueue_73 rfl ?_
        refine q_callv [.int _, .int _, .int _] o_X3_put rfl k_X5_56 rfl (vq_isL htg 1 (by decide) rfl) (by decide) rfl dX5_enqueue_75 (by decide) (by omega) (by decide) (by omega) rfl (c_qput l n (d - 1) _ L tg f (N (S 209 tg)) k x m hn htg (by simp [Cbec, Clog, rdI, lid_eq, lid_ne, hfe]) (by simp [Cbec, Clog, rdI, lid_eq, lid_ne, hsz]; exact hnb.1) hf (nb_lt hnb (by simpa [bI_z, nb_24 hnb] using h25))) (fun _ _ _ h => h.elim) (fun I3 L3 hq => ?_)
        obtain ⟨-, e2, e3⟩ := hq; subst e2; cases e3.symm
        refine q_iconst (1) dX5_enqueue_78 (by decide) ?_
        refine q_zret dX5_enqueue_79 rfl (by omega) (by decide) ?_
        ((try rw [hst, i32_4] at h14); (try simp only [bI_z, nb_24 hnb, ne_eq, Decidable.not_not] at h25); (try rw [hst] at h56); first | (have hr : rej S tg := (by first | exact Or.inl h14 | exact Or.inr h25); refine ⟨by rw [bI_f (fun q => q hr)], ?_⟩; rw [Fput, if_pos hr]; simpa [h36] using CX_log th 4 _ h hb) | (have hr : ¬ rej S tg := (fun q => q.elim h14 h25); refine ⟨by rw [bI_t hr], ?_⟩; rw [Fput, if_neg hr]; unfold Fenq; first | (rw [if_neg h56]; exact CX_enq0 h htg (nb_lt hnb h25) hk hf hfe) | (rw [if_pos h56, ← Fenq_comm (Inv_tr h.2.1)]; exact (by have h9 := (CX_bec (i := tg) (s := 2) h hb (by decide) (fun q => absurd q (by decide))).1; have e9 : Fbec S tg 2 209 tg = S 209 tg := (by simp [Fbec, Flog, Rlog, rdI]); have := CX_enq0 (i := tg) (f := f) (k := k) (x := x) (m := m) h9 htg (by rw [e9]; exact nb_lt hnb h25) (by simpa [okQ, Fbec, Flog, Rlog, rdI] using hk) hf (by simp [Cbec, Clog, rdI, lid_eq, lid_ne, hfe]); rw [e9] at this; exact this))))
      · refine q_aload_n dX5_enqueue_59 rfl ?_
        refine q_iload_n dX5_enqueue_60 rfl ?_
        refine q_iconst (2) dX5_enqueue_61 (by decide) ?_
        refine q_callv [.int _, .int _] o_X5_become rfl k_X5_52 rfl (is_2 n) (by decide) rfl dX5_enqueue_62 (by decide) (by omega) (by decide) (by omega) rfl (c_become l n (d - 1) _ L tg (tr S) 2 hn htg (by exact hc) (by omega) (by omega)) (fun _ _ _ h => h.elim) (fun I2 L2 hq => ?_)
        obtain ⟨-, e2, e3⟩ := hq; subst e2; cases e3.symm
        refine q_aload dX5_enqueue_65 rfl ?_
        refine q_getR (lid tg 0) 1 0 (lid tg 1) (vq_isL htg 0 (by decide) rfl) (by decide) rfl ((gr_lid tg 0 0 (by decide)).trans rfl) (by decide) f_X5_38 rfl dX5_enqueue_67 ?_
        refine q_iload_n dX5_enqueue_70 rfl ?_
        refine q_iload dX5_enqueue_71 rfl ?_
        refine q_iload dX5_enqueue_73 rfl ?_
        refine q_callv [.int _, .int _, .int _] o_X3_put rfl k_X5_56 rfl (vq_isL htg 1 (by decide) rfl) (by decide) rfl dX5_enqueue_75 (by decide) (by omega) (by decide) (by omega) rfl (c_qput l n (d - 1) _ L tg f (N (S 209 tg)) k x m hn htg (by simp [Cbec, Clog, rdI, lid_eq, lid_ne, hfe]) (by simp [Cbec, Clog, rdI, lid_eq, lid_ne, hsz]; exact hnb.1) hf (nb_lt hnb (by simpa [bI_z, nb_24 hnb] using h25))) (fun _ _ _ h => h.elim) (fun I3 L3 hq => ?_)
        obtain ⟨-, e2, e3⟩ := hq; subst e2; cases e3.symm
        refine q_iconst (1) dX5_enqueue_78 (by decide) ?_
        refine q_zret dX5_enqueue_79 rfl (by omega) (by decide) ?_
        ((try rw [hst, i32_4] at h14); (try simp only [bI_z, nb_24 hnb, ne_eq, Decidable.not_not] at h25); (try rw [hst] at h56); first | (have hr : rej S tg := (by first | exact Or.inl h14 | exact Or.inr h25); refine ⟨by rw [bI_f (fun q => q hr)], ?_⟩; rw [Fput, if_pos hr]; simpa [h36] using CX_log th 4 _ h hb) | (have hr : ¬ rej S tg := (fun q => q.elim h14 h25); refine ⟨by rw [bI_t hr], ?_⟩; rw [Fput, if_neg hr]; unfold Fenq; first | (rw [if_neg h56]; exact CX_enq0 h htg (nb_lt hnb h25) hk hf hfe) | (rw [if_pos h56, ← Fenq_comm (Inv_tr h.2.1)]; exact (by have h9 := (CX_bec (i := tg) (s := 2) h hb (by decide) (fun q => absurd q (by decide))).1; have e9 : Fbec S tg 2 209 tg = S 209 tg := (by simp [Fbec, Flog, Rlog, rdI]); have := CX_enq0 (i := tg) (f := f) (k := k) (x := x) (m := m) h9 htg (by rw [e9]; exact nb_lt hnb h25) (by simpa [okQ, Fbec, Flog, Rlog, rdI] using hk) hf (by simp [Cbec, Clog, rdI, lid_eq, lid_ne, hfe]); rw [e9] at this; exact this))))
    · refine q_aload_n dX5_enqueue_28 rfl ?_
      refine q_getR 2 5 0 3 (is_2 n) (by decide) rfl rfl (by decide) f_X5_12 rfl dX5_enqueue_29 ?_
      refine q_iload_n dX5_enqueue_32 rfl ?_
      refine q_iconst (4) dX5_enqueue_33 (by decide) ?_
      refine q_iload_n dX5_enqueue_34 rfl ?_
      refine q_iconst (2) dX5_enqueue_35 (by decide) ?_
      refine q_icmp_ne 43 dX5_enqueue_36 (by decide) (fun h36 => ?_) (fun h36 => ?_)
      · refine q_iload dX5_enqueue_43 rfl ?_
        refine q_callv [.int _, .int _, .int _] o_X8_log rfl k_X5_48 rfl (is_3 n) (by decide) rfl dX5_enqueue_45 (by decide) (by omega) (by decide) (by omega) rfl (c_log l n hn (d - 1) _ L (tr S) th 4 _ (by exact hc) (by omega)) (fun _ _ _ h => h.elim) (fun I2 L2 hq => ?_)
        obtain ⟨-, e2, e3⟩ := hq; subst e2; cases e3.symm
        refine q_iconst (0) dX5_enqueue_48 (by decide) ?_
        refine q_zret dX5_enqueue_49 rfl (by omega) (by decide) ?_
        ((try rw [hst, i32_4] at h14); (try simp only [bI_z, nb_24 hnb, ne_eq, Decidable.not_not] at h25); (try rw [hst] at h56); first | (have hr : rej S tg := (by first | exact Or.inl h14 | exact Or.inr h25); refine ⟨by rw [bI_f (fun q => q hr)], ?_⟩; rw [Fput, if_pos hr]; simpa [h36] using CX_log th 4 _ h hb) | (have hr : ¬ rej S tg := (fun q => q.elim h14 h25); refine ⟨by rw [bI_t hr], ?_⟩; rw [Fput, if_neg hr]; unfold Fenq; first | (rw [if_neg h56]; exact CX_enq0 h htg (nb_lt hnb h25) hk hf hfe) | (rw [if_pos h56, ← Fenq_comm (Inv_tr h.2.1)]; exact (by have h9 := (CX_bec (i := tg) (s := 2) h hb (by decide) (fun q => absurd q (by decide))).1; have e9 : Fbec S tg 2 209 tg = S 209 tg := (by simp [Fbec, Flog, Rlog, rdI]); have := CX_enq0 (i := tg) (f := f) (k := k) (x := x) (m := m) h9 htg (by rw [e9]; exact nb_lt hnb h25) (by simpa [okQ, Fbec, Flog, Rlog, rdI] using hk) hf (by simp [Cbec, Clog, rdI, lid_eq, lid_ne, hfe]); rw [e9] at this; exact this))))
      · refine q_iconst (-1) dX5_enqueue_39 (by decide) ?_
        refine q_goto 45 dX5_enqueue_40 (by decide) ?_
        refine q_callv [.int _, .int _, .int _] o_X8_log rfl k_X5_48 rfl (is_3 n) (by decide) rfl dX5_enqueue_45 (by decide) (by omega) (by decide) (by omega) rfl (c_log l n hn (d - 1) _ L (tr S) th 4 _ (by exact hc) (by omega)) (fun _ _ _ h => h.elim) (fun I2 L2 hq => ?_)
        obtain ⟨-, e2, e3⟩ := hq; subst e2; cases e3.symm
        refine q_iconst (0) dX5_enqueue_48 (by decide) ?_
        refine q_zret dX5_enqueue_49 rfl (by omega) (by decide) ?_
        ((try rw [hst, i32_4] at h14); (try simp only [bI_z, nb_24 hnb, ne_eq, Decidable.not_not] at h25); (try rw [hst] at h56); first | (have hr : rej S tg := (by first | exact Or.inl h14 | exact Or.inr h25); refine ⟨by rw [bI_f (fun q => q hr)], ?_⟩; rw [Fput, if_pos hr]; simpa [h36] using CX_log th 4 _ h hb) | (have hr : ¬ rej S tg := (fun q => q.elim h14 h25); refine ⟨by rw [bI_t hr], ?_⟩; rw [Fput, if_neg hr]; unfold Fenq; first | (rw [if_neg h56]; exact CX_enq0 h htg (nb_lt hnb h25) hk hf hfe) | (rw [if_pos h56, ← Fenq_comm (Inv_tr h.2.1)]; exact (by have h9 := (CX_bec (i := tg) (s := 2) h hb (by decide) (fun q => absurd q (by decide))).1; have e9 : Fbec S tg 2 209 tg = S 209 tg := (by simp [Fbec, Flog, Rlog, rdI]); have := CX_enq0 (i := tg) (f := f) (k := k) (x := x) (m := m) h9 htg (by rw [e9]; exact nb_lt hnb h25) (by simpa [okQ, Fbec, Flog, Rlog, rdI] using hk) hf (by simp [Cbec, Clog, rdI, lid_eq, lid_ne, hfe]); rw [e9] at this; exact this))))
end
end
section
set_option maxHeartbeats 1000000 in
theorem Inv_ch {n : Nat} {S : MI} (h : Inv n S) : Inv n (FchS S) := by
  obtain ⟨h1, h2, h3, h4, h5, h6, h7, h8⟩ := h
  refine ⟨h1, (by simpa [FchS, upI_ne, rdI] using h2), InvT_cong h3 (by simp [FchS, upI_ne, rdI]) (by simp [FchS, upI_ne, rdI]), InvP_cong h4 (by simp [FchS, upI_ne, rdI]) (by simp [FchS, upI_ne, rdI]) (by simp [FchS, upI_ne, rdI]) (by simp [FchS, upI_ne, rdI]) (by simp [FchS, upI_ne, rdI]), InvC_cong h5 (by simp [FchS, upI_ne, rdI]) (by simp [FchS, upI_ne, rdI]) (by simp [FchS, upI_ne, rdI]) (by simp [FchS, upI_ne, rdI]) (by simp [FchS, upI_ne, rdI]) (by simp [FchS, upI_ne, rdI]), InvM_cong h6 (by simp [FchS, upI_ne, rdI]) (by simp [FchS, upI_ne, rdI]) (by simp [FchS, upI_ne, rdI]) (by simp [FchS, upI_ne, rdI]), fun l hl => ⟨InvQ_cong (h7 l hl).1 (by simp [FchS, upI_ne, rdI]) (by simp [FchS, upI_ne, rdI]) (by simp [FchS, upI_ne, rdI]) (fun j hj => by simp [FchS, upI_ne, rdI]) (fun j hj => by simp [FchS, upI_ne, rdI]), InvB_cong (h7 l hl).2.1 (by simp [FchS, upI_ne, rdI]) (by simp [FchS, upI_ne, rdI]) (by simp [FchS, upI_ne, rdI]) (by simp [FchS, upI_ne, rdI]) (by simp [FchS, upI_ne, rdI]) (by simp [FchS, upI_ne, rdI]), InvS_cong (h7 l hl).2.2 (by simp [FchS, upI_ne, rdI])⟩, (by simpa [FchS, upI_ne, rdI] using h8)⟩
set_option maxHeartbeats 1000000 in
theorem CX_ch {n w nf fr : Nat} {S I J : MI} {T L M : ML} (h : CX n S T w nf fr J M I L)  : CX n (FchS S) (T) w nf fr J M (upI I 2 3 (I 2 3 + 1)) (L) := by
  obtain ⟨h1, h2, h3, h4, h5, h6⟩ := id h.1
  have hV := h.2.1.2.2.2.2.2.2.1
  refine CX_of h ⟨?_, ?_, ?_, ?_, ?_, fun l hl => ⟨?_, ?_, ?_⟩⟩ (Inv_ch h.2.1) (by simp [FchS, upI_ne, upL_ne, rdI, rdL, lid_eq, lid_ne, ne_lid]) (fun i9 h79 h89 => ?_)
  · simpa [CRt, FchS, upI_ne, upL_ne, rdI, rdL, lid_eq, lid_ne, ne_lid] using h1
  · simpa [CRk, FchS, upI_ne, upL_ne, rdI, rdL, lid_eq, lid_ne, ne_lid] using h2
  · simpa [CRp, FchS, upI_ne, upL_ne, rdI, rdL, lid_eq, lid_ne, ne_lid] using h3
  · simpa [CRc, FchS, upI_ne, upL_ne, rdI, rdL, lid_eq, lid_ne, ne_lid] using h4
  · obtain ⟨a1, a2, a3⟩ := h5
    exact ⟨a1, by simp [FchS, rdI, a2], by simpa [FchS, rdI] using a3⟩
  · exact CRq_cong2 (h6 l hl).1 (by simp [FchS, upI_ne, upL_ne, rdI, rdL, lid_eq, lid_ne, ne_lid]) (fun j hj => by simp [FchS, upI_ne, upL_ne, rdI, rdL, lid_eq, lid_ne, ne_lid]) (fun j hj => by simp [FchS, upI_ne, upL_ne, rdI, rdL, lid_eq, lid_ne, ne_lid]) (fun j hj => by simp [FchS, upI_ne, upL_ne, rdI, rdL, lid_eq, lid_ne, ne_lid]) (by simp [FchS, upI_ne, upL_ne, rdI, rdL, lid_eq, lid_ne, ne_lid]) (by simp [FchS, upI_ne, upL_ne, rdI, rdL, lid_eq, lid_ne, ne_lid]) (by simp [FchS, upI_ne, upL_ne, rdI, rdL, lid_eq, lid_ne, ne_lid]) (by simp [FchS, upI_ne, upL_ne, rdI, rdL, lid_eq, lid_ne, ne_lid])
  · exact CRm_cong (h6 l hl).2.1 (by simp [FchS, upI_ne, upL_ne, rdI, rdL, lid_eq, lid_ne, ne_lid]) (by simp [FchS, upI_ne, upL_ne, rdI, rdL, lid_eq, lid_ne, ne_lid]) (by simp [FchS, upI_ne, upL_ne, rdI, rdL, lid_eq, lid_ne, ne_lid]) (by simp [FchS, upI_ne, upL_ne, rdI, rdL, lid_eq, lid_ne, ne_lid]) (by simp [FchS, upI_ne, upL_ne, rdI, rdL, lid_eq, lid_ne, ne_lid]) (by simp [FchS, upI_ne, upL_ne, rdI, rdL, lid_eq, lid_ne, ne_lid]) (by simp [FchS, upI_ne, upL_ne, rdI, rdL, lid_eq, lid_ne, ne_lid]) (by simp [FchS, upI_ne, upL_ne, rdI, rdL, lid_eq, lid_ne, ne_lid])
  · exact CRl_cong (h6 l hl).2.2 (by simp [FchS, upI_ne, upL_ne, rdI, rdL, lid_eq, lid_ne, ne_lid]) (by simp [FchS, upI_ne, upL_ne, rdI, rdL, lid_eq, lid_ne, ne_lid]) (by simp [FchS, upI_ne, upL_ne, rdI, rdL, lid_eq, lid_ne, ne_lid]) (by simp [FchS, upI_ne, upL_ne, rdI, rdL, lid_eq, lid_ne, ne_lid]) (by simp [FchS, upI_ne, upL_ne, rdI, rdL, lid_eq, lid_ne, ne_lid]) (by simp [FchS, upI_ne, upL_ne, rdI, rdL, lid_eq, lid_ne, ne_lid]) (by simp [FchS, upI_ne, upL_ne, rdI, rdL, lid_eq, lid_ne, ne_lid]) (by simp [FchS, upI_ne, upL_ne, rdI, rdL, lid_eq, lid_ne, ne_lid]) (by simp [FchS, upI_ne, upL_ne, rdI, rdL, lid_eq, lid_ne, ne_lid]) (by simp [FchS, upI_ne, upL_ne, rdI, rdL, lid_eq, lid_ne, ne_lid]) (by simp [FchS, upI_ne, upL_ne, rdI, rdL, lid_eq, lid_ne, ne_lid]) (by simp [FchS, upI_ne, upL_ne, rdI, rdL, lid_eq, lid_ne, ne_lid])
  · simp [FchS, upI_ne, upL_ne, rdI, rdL, lid_eq, lid_ne, ne_lid, ne_lid (show i9 < 1000 by omega), show i9 ≠ 1 by omega, show i9 ≠ 2 by omega, show i9 ≠ 3 by omega, show i9 ≠ 4 by omega, show i9 ≠ 5 by omega, show i9 ≠ 6 by omega, show i9 ≠ 330 by omega, show i9 ≠ 340 by omega, show i9 ≠ 341 by omega, show i9 ≠ 342 by omega, show i9 ≠ 343 by omega, show i9 ≠ 350 by omega, show i9 ≠ 351 by omega, show i9 ≠ 352 by omega, show i9 ≠ 353 by omega, show i9 ≠ 354 by omega, show i9 ≠ 355 by omega, show i9 ≠ 360 by omega, show i9 ≠ 361 by omega, show i9 ≠ 362 by omega, show i9 ≠ 363 by omega, show i9 ≠ 364 by omega]
set_option maxHeartbeats 1000000 in
theorem Inv_ba {n : Nat} {S : MI} {i : Nat} (v : Int32) (h : Inv n S) : Inv n (upI S 210 i v) := by
  obtain ⟨h1, h2, h3, h4, h5, h6, h7, h8⟩ := h
  refine ⟨h1, (by simpa [upI_ne, rdI] using h2), InvT_cong h3 (by simp [upI_ne, rdI]) (by simp [upI_ne, rdI]), InvP_cong h4 (by simp [upI_ne, rdI]) (by simp [upI_ne, rdI]) (by simp [upI_ne, rdI]) (by simp [upI_ne, rdI]) (by simp [upI_ne, rdI]), InvC_cong h5 (by simp [upI_ne, rdI]) (by simp [upI_ne, rdI]) (by simp [upI_ne, rdI]) (by simp [upI_ne, rdI]) (by simp [upI_ne, rdI]) (by simp [upI_ne, rdI]), InvM_cong h6 (by simp [upI_ne, rdI]) (by simp [upI_ne, rdI]) (by simp [upI_ne, rdI]) (by simp [upI_ne, rdI]), fun l hl => ⟨InvQ_cong (h7 l hl).1 (by simp [upI_ne, rdI]) (by simp [upI_ne, rdI]) (by simp [upI_ne, rdI]) (fun j hj => by simp [upI_ne, rdI]) (fun j hj => by simp [upI_ne, rdI]), InvB_cong (h7 l hl).2.1 (by simp [upI_ne, rdI]) (by simp [upI_ne, rdI]) (by simp [upI_ne, rdI]) (by simp [upI_ne, rdI]) (by simp [upI_ne, rdI]) (by simp [upI_ne, rdI]), InvS_cong (h7 l hl).2.2 (by simp [upI_ne, rdI])⟩, (by simpa [upI_ne, rdI] using h8)⟩
set_option maxHeartbeats 1000000 in
theorem CX_ba {n w nf fr : Nat} {S I J : MI} {T L M : ML} {i : Nat} (v : Int32) (h : CX n S T w nf fr J M I L)  : CX n (upI S 210 i v) (T) w nf fr J M (upI I (lid i 0) 3 v) (L) := by
  obtain ⟨h1, h2, h3, h4, h5, h6⟩ := id h.1
  have hV := h.2.1.2.2.2.2.2.2.1
  refine CX_of h ⟨?_, ?_, ?_, ?_, ?_, fun l hl => ⟨?_, ?_, ?_⟩⟩ (Inv_ba v h.2.1) (by simp [upI_ne, upL_ne, rdI, rdL, lid_eq, lid_ne, ne_lid]) (fun i9 h79 h89 => ?_)
  · simpa [CRt, upI_ne, upL_ne, rdI, rdL, lid_eq, lid_ne, ne_lid] using h1
  · simpa [CRk, upI_ne, upL_ne, rdI, rdL, lid_eq, lid_ne, ne_lid] using h2
  · simpa [CRp, upI_ne, upL_ne, rdI, rdL, lid_eq, lid_ne, ne_lid] using h3
  · simpa [CRc, upI_ne, upL_ne, rdI, rdL, lid_eq, lid_ne, ne_lid] using h4
  · simpa [CRs, upI_ne, upL_ne, rdI, rdL, lid_eq, lid_ne, ne_lid] using h5
  · exact CRq_cong2 (h6 l hl).1 (by simp [upI_ne, upL_ne, rdI, rdL, lid_eq, lid_ne, ne_lid]) (fun j hj => by simp [upI_ne, upL_ne, rdI, rdL, lid_eq, lid_ne, ne_lid]) (fun j hj => by simp [upI_ne, upL_ne, rdI, rdL, lid_eq, lid_ne, ne_lid]) (fun j hj => by simp [upI_ne, upL_ne, rdI, rdL, lid_eq, lid_ne, ne_lid]) (by simp [upI_ne, upL_ne, rdI, rdL, lid_eq, lid_ne, ne_lid]) (by simp [upI_ne, upL_ne, rdI, rdL, lid_eq, lid_ne, ne_lid]) (by simp [upI_ne, upL_ne, rdI, rdL, lid_eq, lid_ne, ne_lid]) (by simp [upI_ne, upL_ne, rdI, rdL, lid_eq, lid_ne, ne_lid])
  · exact CRm_cong (h6 l hl).2.1 (by simp [upI_ne, upL_ne, rdI, rdL, lid_eq, lid_ne, ne_lid]) (by simp [upI_ne, upL_ne, rdI, rdL, lid_eq, lid_ne, ne_lid]) (by simp [upI_ne, upL_ne, rdI, rdL, lid_eq, lid_ne, ne_lid]) (by simp [upI_ne, upL_ne, rdI, rdL, lid_eq, lid_ne, ne_lid]) (by simp [upI_ne, upL_ne, rdI, rdL, lid_eq, lid_ne, ne_lid]) (by simp [upI_ne, upL_ne, rdI, rdL, lid_eq, lid_ne, ne_lid]) (by simp [upI_ne, upL_ne, rdI, rdL, lid_eq, lid_ne, ne_lid]) (by simp [upI_ne, upL_ne, rdI, rdL, lid_eq, lid_ne, ne_lid])
  · have hl0 := (h6 l hl).2.2
    unfold CRl at hl0 ⊢
    by_cases e : l = i
    · subst e
      exact ⟨by simpa [upI_ne, upL_ne, rdI, rdL, lid_eq, lid_ne, ne_lid] using hl0.1, by simp [upI_ne, upL_ne, rdI, rdL, lid_eq, lid_ne, ne_lid], by simpa [upI_ne, upL_ne, rdI, rdL, lid_eq, lid_ne, ne_lid] using hl0.2.2.1, by simpa [upI_ne, upL_ne, rdI, rdL, lid_eq, lid_ne, ne_lid] using hl0.2.2.2.1, by simpa [upI_ne, upL_ne, rdI, rdL, lid_eq, lid_ne, ne_lid] using hl0.2.2.2.2⟩
    · simpa [upI_ne, upL_ne, rdI, rdL, lid_eq, lid_ne, ne_lid, e] using hl0
  · simp [upI_ne, upL_ne, rdI, rdL, lid_eq, lid_ne, ne_lid, ne_lid (show i9 < 1000 by omega), show i9 ≠ 1 by omega, show i9 ≠ 2 by omega, show i9 ≠ 3 by omega, show i9 ≠ 4 by omega, show i9 ≠ 5 by omega, show i9 ≠ 6 by omega, show i9 ≠ 330 by omega, show i9 ≠ 340 by omega, show i9 ≠ 341 by omega, show i9 ≠ 342 by omega, show i9 ≠ 343 by omega, show i9 ≠ 350 by omega, show i9 ≠ 351 by omega, show i9 ≠ 352 by omega, show i9 ≠ 353 by omega, show i9 ≠ 354 by omega, show i9 ≠ 355 by omega, show i9 ≠ 360 by omega, show i9 ≠ 361 by omega, show i9 ≠ 362 by omega, show i9 ≠ 363 by omega, show i9 ≠ 364 by omega]
def Cqt (I : MI) (i : Nat) (q t : Int32) : MI := upI (upI I (lid i 0) 7 q) (lid i 0) 8 t
def CqtL (L : ML) (i : Nat) (c : Int64) : ML := upL (upL L (lid i 0) 9 c) (lid i 0) 10 c
def Tqt (T : ML) (i : Nat) (q t c : Int64) : ML := upL (upL (upL (upL T 218 i q) 219 i t) 220 i c) 221 i c
set_option maxHeartbeats 1000000 in
theorem CX_qt {n w nf fr : Nat} {S I J : MI} {T L M : ML} {i : Nat} (q t : Int32) (c : Int64) (h : CX n S T w nf fr J M I L) (hs : S 208 i < 3) : CX n (S) (Tqt T i q.toInt64 t.toInt64 c) w nf fr J M (Cqt I i q t) (CqtL L i c) := by
  obtain ⟨h1, h2, h3, h4, h5, h6⟩ := id h.1
  have hV := h.2.1.2.2.2.2.2.2.1
  refine CX_of h ⟨?_, ?_, ?_, ?_, ?_, fun l hl => ⟨?_, ?_, ?_⟩⟩ (h.2.1) (by simp [Cqt, CqtL, Tqt, upI_ne, upL_ne, rdI, rdL, lid_eq, lid_ne, ne_lid]) (fun i9 h79 h89 => ?_)
  · simpa [CRt, Cqt, CqtL, Tqt, upI_ne, upL_ne, rdI, rdL, lid_eq, lid_ne, ne_lid] using h1
  · simpa [CRk, Cqt, CqtL, Tqt, upI_ne, upL_ne, rdI, rdL, lid_eq, lid_ne, ne_lid] using h2
  · simpa [CRp, Cqt, CqtL, Tqt, upI_ne, upL_ne, rdI, rdL, lid_eq, lid_ne, ne_lid] using h3
  · simpa [CRc, Cqt, CqtL, Tqt, upI_ne, upL_ne, rdI, rdL, lid_eq, lid_ne, ne_lid] using h4
  · simpa [CRs, Cqt, CqtL, Tqt, upI_ne, upL_ne, rdI, rdL, lid_eq, lid_ne, ne_lid] using h5
  · exact CRq_cong2 (h6 l hl).1 (by simp [Cqt, CqtL, Tqt, upI_ne, upL_ne, rdI, rdL, lid_eq, lid_ne, ne_lid]) (fun j hj => by simp [Cqt, CqtL, Tqt, upI_ne, upL_ne, rdI, rdL, lid_eq, lid_ne, ne_lid]) (fun j hj => by simp [Cqt, CqtL, Tqt, upI_ne, upL_ne, rdI, rdL, lid_eq, lid_ne, ne_lid]) (fun j hj => by simp [Cqt, CqtL, Tqt, upI_ne, upL_ne, rdI, rdL, lid_eq, lid_ne, ne_lid]) (by simp [Cqt, CqtL, Tqt, upI_ne, upL_ne, rdI, rdL, lid_eq, lid_ne, ne_lid]) (by simp [Cqt, CqtL, Tqt, upI_ne, upL_ne, rdI, rdL, lid_eq, lid_ne, ne_lid]) (by simp [Cqt, CqtL, Tqt, upI_ne, upL_ne, rdI, rdL, lid_eq, lid_ne, ne_lid]) (by simp [Cqt, CqtL, Tqt, upI_ne, upL_ne, rdI, rdL, lid_eq, lid_ne, ne_lid])
  · exact CRm_cong (h6 l hl).2.1 (by simp [Cqt, CqtL, Tqt, upI_ne, upL_ne, rdI, rdL, lid_eq, lid_ne, ne_lid]) (by simp [Cqt, CqtL, Tqt, upI_ne, upL_ne, rdI, rdL, lid_eq, lid_ne, ne_lid]) (by simp [Cqt, CqtL, Tqt, upI_ne, upL_ne, rdI, rdL, lid_eq, lid_ne, ne_lid]) (by simp [Cqt, CqtL, Tqt, upI_ne, upL_ne, rdI, rdL, lid_eq, lid_ne, ne_lid]) (by simp [Cqt, CqtL, Tqt, upI_ne, upL_ne, rdI, rdL, lid_eq, lid_ne, ne_lid]) (by simp [Cqt, CqtL, Tqt, upI_ne, upL_ne, rdI, rdL, lid_eq, lid_ne, ne_lid]) (by simp [Cqt, CqtL, Tqt, upI_ne, upL_ne, rdI, rdL, lid_eq, lid_ne, ne_lid]) (by simp [Cqt, CqtL, Tqt, upI_ne, upL_ne, rdI, rdL, lid_eq, lid_ne, ne_lid])
  · have hl0 := (h6 l hl).2.2
    unfold CRl at hl0 ⊢
    by_cases e : l = i
    · subst e
      exact ⟨by simpa [Cqt, CqtL, Tqt, upI_ne, upL_ne, rdI, rdL, lid_eq, lid_ne, ne_lid] using hl0.1, by simpa [Cqt, CqtL, Tqt, upI_ne, upL_ne, rdI, rdL, lid_eq, lid_ne, ne_lid] using hl0.2.1, by simpa [Cqt, CqtL, Tqt, upI_ne, upL_ne, rdI, rdL, lid_eq, lid_ne, ne_lid] using hl0.2.2.1, by simpa [Cqt, CqtL, Tqt, upI_ne, upL_ne, rdI, rdL, lid_eq, lid_ne, ne_lid] using hl0.2.2.2.1, by simp [Cqt, CqtL, Tqt, upI_ne, upL_ne, rdI, rdL, lid_eq, lid_ne, ne_lid]⟩
    · simpa [Cqt, CqtL, Tqt, upI_ne, upL_ne, rdI, rdL, lid_eq, lid_ne, ne_lid, e] using hl0
  · simp [Cqt, CqtL, Tqt, upI_ne, upL_ne, rdI, rdL, lid_eq, lid_ne, ne_lid, ne_lid (show i9 < 1000 by omega), show i9 ≠ 1 by omega, show i9 ≠ 2 by omega, show i9 ≠ 3 by omega, show i9 ≠ 4 by omega, show i9 ≠ 5 by omega, show i9 ≠ 6 by omega, show i9 ≠ 330 by omega, show i9 ≠ 340 by omega, show i9 ≠ 341 by omega, show i9 ≠ 342 by omega, show i9 ≠ 343 by omega, show i9 ≠ 350 by omega, show i9 ≠ 351 by omega, show i9 ≠ 352 by omega, show i9 ≠ 353 by omega, show i9 ≠ 354 by omega, show i9 ≠ 355 by omega, show i9 ≠ 360 by omega, show i9 ≠ 361 by omega, show i9 ≠ 362 by omega, show i9 ≠ 363 by omega, show i9 ≠ 364 by omega]
set_option maxHeartbeats 1000000 in
theorem Inv_blk {n : Nat} {S : MI} {i t o : Nat} {a : Int32} (h : Inv n S) (ht : t < N (S 30 3)) (ho : o ≤ 8) (ha : nbt a (N (S 30 27))) : Inv n (Fblk S i t o a) := by
  obtain ⟨h1, h2, h3, h4, h5, h6, h7, h8⟩ := h
  refine ⟨h1, (by simpa [Fblk, upI_ne, rdI] using h2), InvT_cong h3 (by simp [Fblk, upI_ne, rdI]) (by simp [Fblk, upI_ne, rdI]), InvP_cong h4 (by simp [Fblk, upI_ne, rdI]) (by simp [Fblk, upI_ne, rdI]) (by simp [Fblk, upI_ne, rdI]) (by simp [Fblk, upI_ne, rdI]) (by simp [Fblk, upI_ne, rdI]), InvC_cong h5 (by simp [Fblk, upI_ne, rdI]) (by simp [Fblk, upI_ne, rdI]) (by simp [Fblk, upI_ne, rdI]) (by simp [Fblk, upI_ne, rdI]) (by simp [Fblk, upI_ne, rdI]) (by simp [Fblk, upI_ne, rdI]), InvM_cong h6 (by simp [Fblk, upI_ne, rdI]) (by simp [Fblk, upI_ne, rdI]) (by simp [Fblk, upI_ne, rdI]) (by simp [Fblk, upI_ne, rdI]), fun l hl => ⟨InvQ_cong (h7 l hl).1 (by simp [Fblk, upI_ne, rdI]) (by simp [Fblk, upI_ne, rdI]) (by simp [Fblk, upI_ne, rdI]) (fun j hj => by simp [Fblk, upI_ne, rdI]) (fun j hj => by simp [Fblk, upI_ne, rdI]), ?_, InvS_cong (h7 l hl).2.2 (by simp [Fblk, upI_ne, rdI])⟩, (by simpa [Fblk, upI_ne, rdI] using h8)⟩
  · unfold InvB
    by_cases e : l = i
    · subst e
      have h3b := h3.1.2
      refine ⟨Or.inr (by simp [Fblk, rdI]), fun _ => ⟨?_, ?_, ?_⟩⟩
      · have : N (nI t) = t := N_nI (by omega)
        simp only [nbt, Fblk, rdI]
        simp [this, ht]
      · have : N (nI o) = o := N_nI (by omega)
        simp only [nb, Fblk, rdI]
        simp [this, ho]
      · simpa [Fblk, rdI] using ha
    · have := (h7 l hl).2.1
      unfold InvB at this
      simpa [Fblk, rdI, e] using this
def Cblk (I : MI) (i t o : Nat) (a : Int32) : MI := upI (upI (upI I (lid i 0) 4 a) (lid i 0) 5 (nI t)) (lid i 0) 6 (nI o)
set_option maxHeartbeats 1000000 in
theorem CX_blk {n w nf fr : Nat} {S I J : MI} {T L M : ML} {i t o : Nat} {a : Int32} (h : CX n S T w nf fr J M I L) (ht : t < N (S 30 3)) (ho : o ≤ 8) (ha : nbt a (N (S 30 27))) : CX n (Fblk S i t o a) (T) w nf fr J M (Cblk I i t o a) (L) := by
  obtain ⟨h1, h2, h3, h4, h5, h6⟩ := id h.1
  have hV := h.2.1.2.2.2.2.2.2.1
  refine CX_of h ⟨?_, ?_, ?_, ?_, ?_, fun l hl => ⟨?_, ?_, ?_⟩⟩ (Inv_blk h.2.1 ht ho ha) (by simp [Fblk, Cblk, upI_ne, upL_ne, rdI, rdL, lid_eq, lid_ne, ne_lid]) (fun i9 h79 h89 => ?_)
  · simpa [CRt, Fblk, Cblk, upI_ne, upL_ne, rdI, rdL, lid_eq, lid_ne, ne_lid] using h1
  · simpa [CRk, Fblk, Cblk, upI_ne, upL_ne, rdI, rdL, lid_eq, lid_ne, ne_lid] using h2
  · simpa [CRp, Fblk, Cblk, upI_ne, upL_ne, rdI, rdL, lid_eq, lid_ne, ne_lid] using h3
  · simpa [CRc, Fblk, Cblk, upI_ne, upL_ne, rdI, rdL, lid_eq, lid_ne, ne_lid] using h4
  · simpa [CRs, Fblk, Cblk, upI_ne, upL_ne, rdI, rdL, lid_eq, lid_ne, ne_lid] using h5
  · exact CRq_cong2 (h6 l hl).1 (by simp [Fblk, Cblk, upI_ne, upL_ne, rdI, rdL, lid_eq, lid_ne, ne_lid]) (fun j hj => by simp [Fblk, Cblk, upI_ne, upL_ne, rdI, rdL, lid_eq, lid_ne, ne_lid]) (fun j hj => by simp [Fblk, Cblk, upI_ne, upL_ne, rdI, rdL, lid_eq, lid_ne, ne_lid]) (fun j hj => by simp [Fblk, Cblk, upI_ne, upL_ne, rdI, rdL, lid_eq, lid_ne, ne_lid]) (by simp [Fblk, Cblk, upI_ne, upL_ne, rdI, rdL, lid_eq, lid_ne, ne_lid]) (by simp [Fblk, Cblk, upI_ne, upL_ne, rdI, rdL, lid_eq, lid_ne, ne_lid]) (by simp [Fblk, Cblk, upI_ne, upL_ne, rdI, rdL, lid_eq, lid_ne, ne_lid]) (by simp [Fblk, Cblk, upI_ne, upL_ne, rdI, rdL, lid_eq, lid_ne, ne_lid])
  · exact CRm_cong (h6 l hl).2.1 (by simp [Fblk, Cblk, upI_ne, upL_ne, rdI, rdL, lid_eq, lid_ne, ne_lid]) (by simp [Fblk, Cblk, upI_ne, upL_ne, rdI, rdL, lid_eq, lid_ne, ne_lid]) (by simp [Fblk, Cblk, upI_ne, upL_ne, rdI, rdL, lid_eq, lid_ne, ne_lid]) (by simp [Fblk, Cblk, upI_ne, upL_ne, rdI, rdL, lid_eq, lid_ne, ne_lid]) (by simp [Fblk, Cblk, upI_ne, upL_ne, rdI, rdL, lid_eq, lid_ne, ne_lid]) (by simp [Fblk, Cblk, upI_ne, upL_ne, rdI, rdL, lid_eq, lid_ne, ne_lid]) (by simp [Fblk, Cblk, upI_ne, upL_ne, rdI, rdL, lid_eq, lid_ne, ne_lid]) (by simp [Fblk, Cblk, upI_ne, upL_ne, rdI, rdL, lid_eq, lid_ne, ne_lid])
  · have hl0 := (h6 l hl).2.2
    unfold CRl at hl0 ⊢
    by_cases e : l = i
    · subst e
      exact ⟨by simpa [Fblk, Cblk, upI_ne, upL_ne, rdI, rdL, lid_eq, lid_ne, ne_lid] using hl0.1, by simpa [Fblk, Cblk, upI_ne, upL_ne, rdI, rdL, lid_eq, lid_ne, ne_lid] using hl0.2.1, by simp [Fblk, Cblk, upI_ne, upL_ne, rdI, rdL, lid_eq, lid_ne, ne_lid], by simp [Fblk, Cblk, upI_ne, upL_ne, rdI, rdL, lid_eq, lid_ne, ne_lid], by simpa [Fblk, Cblk, upI_ne, upL_ne, rdI, rdL, lid_eq, lid_ne, ne_lid] using hl0.2.2.2.2⟩
    · simpa [Fblk, Cblk, upI_ne, upL_ne, rdI, rdL, lid_eq, lid_ne, ne_lid, e] using hl0
  · simp [Fblk, Cblk, upI_ne, upL_ne, rdI, rdL, lid_eq, lid_ne, ne_lid, ne_lid (show i9 < 1000 by omega), show i9 ≠ 1 by omega, show i9 ≠ 2 by omega, show i9 ≠ 3 by omega, show i9 ≠ 4 by omega, show i9 ≠ 5 by omega, show i9 ≠ 6 by omega, show i9 ≠ 330 by omega, show i9 ≠ 340 by omega, show i9 ≠ 341 by omega, show i9 ≠ 342 by omega, show i9 ≠ 343 by omega, show i9 ≠ 350 by omega, show i9 ≠ 351 by omega, show i9 ≠ 352 by omega, show i9 ≠ 353 by omega, show i9 ≠ 354 by omega, show i9 ≠ 355 by omega, show i9 ≠ 360 by omega, show i9 ≠ 361 by omega, show i9 ≠ 362 by omega, show i9 ≠ 363 by omega, show i9 ≠ 364 by omega]
set_option maxHeartbeats 1000000 in
theorem Inv_unb {n : Nat} {S : MI} {i : Nat} (h : Inv n S) : Inv n (upI S 214 i 0) := by
  obtain ⟨h1, h2, h3, h4, h5, h6, h7, h8⟩ := h
  refine ⟨h1, (by simpa [upI_ne, rdI] using h2), InvT_cong h3 (by simp [upI_ne, rdI]) (by simp [upI_ne, rdI]), InvP_cong h4 (by simp [upI_ne, rdI]) (by simp [upI_ne, rdI]) (by simp [upI_ne, rdI]) (by simp [upI_ne, rdI]) (by simp [upI_ne, rdI]), InvC_cong h5 (by simp [upI_ne, rdI]) (by simp [upI_ne, rdI]) (by simp [upI_ne, rdI]) (by simp [upI_ne, rdI]) (by simp [upI_ne, rdI]) (by simp [upI_ne, rdI]), InvM_cong h6 (by simp [upI_ne, rdI]) (by simp [upI_ne, rdI]) (by simp [upI_ne, rdI]) (by simp [upI_ne, rdI]), fun l hl => ⟨InvQ_cong (h7 l hl).1 (by simp [upI_ne, rdI]) (by simp [upI_ne, rdI]) (by simp [upI_ne, rdI]) (fun j hj => by simp [upI_ne, rdI]) (fun j hj => by simp [upI_ne, rdI]), ?_, InvS_cong (h7 l hl).2.2 (by simp [upI_ne, rdI])⟩, (by simpa [upI_ne, rdI] using h8)⟩
  · have h0 := (h7 l hl).2.1
    unfold InvB at h0 ⊢
    by_cases e : l = i
    · subst e
      exact ⟨Or.inl (by simp [rdI]), fun q => absurd q (by simp [rdI])⟩
    · simpa [rdI, e] using h0
set_option maxHeartbeats 1000000 in
theorem CX_unb {n w nf fr : Nat} {S I J : MI} {T L M : ML} {i : Nat} (h : CX n S T w nf fr J M I L)  : CX n (upI S 214 i 0) (T) w nf fr J M (upI I (lid i 0) 4 (-1)) (L) := by
  obtain ⟨h1, h2, h3, h4, h5, h6⟩ := id h.1
  have hV := h.2.1.2.2.2.2.2.2.1
  refine CX_of h ⟨?_, ?_, ?_, ?_, ?_, fun l hl => ⟨?_, ?_, ?_⟩⟩ (Inv_unb h.2.1) (by simp [upI_ne, upL_ne, rdI, rdL, lid_eq, lid_ne, ne_lid]) (fun i9 h79 h89 => ?_)
  · simpa [CRt, upI_ne, upL_ne, rdI, rdL, lid_eq, lid_ne, ne_lid] using h1
  · simpa [CRk, upI_ne, upL_ne, rdI, rdL, lid_eq, lid_ne, ne_lid] using h2
  · simpa [CRp, upI_ne, upL_ne, rdI, rdL, lid_eq, lid_ne, ne_lid] using h3
  · simpa [CRc, upI_ne, upL_ne, rdI, rdL, lid_eq, lid_ne, ne_lid] using h4
  · simpa [CRs, upI_ne, upL_ne, rdI, rdL, lid_eq, lid_ne, ne_lid] using h5
  · exact CRq_cong2 (h6 l hl).1 (by simp [upI_ne, upL_ne, rdI, rdL, lid_eq, lid_ne, ne_lid]) (fun j hj => by simp [upI_ne, upL_ne, rdI, rdL, lid_eq, lid_ne, ne_lid]) (fun j hj => by simp [upI_ne, upL_ne, rdI, rdL, lid_eq, lid_ne, ne_lid]) (fun j hj => by simp [upI_ne, upL_ne, rdI, rdL, lid_eq, lid_ne, ne_lid]) (by simp [upI_ne, upL_ne, rdI, rdL, lid_eq, lid_ne, ne_lid]) (by simp [upI_ne, upL_ne, rdI, rdL, lid_eq, lid_ne, ne_lid]) (by simp [upI_ne, upL_ne, rdI, rdL, lid_eq, lid_ne, ne_lid]) (by simp [upI_ne, upL_ne, rdI, rdL, lid_eq, lid_ne, ne_lid])
  · exact CRm_cong (h6 l hl).2.1 (by simp [upI_ne, upL_ne, rdI, rdL, lid_eq, lid_ne, ne_lid]) (by simp [upI_ne, upL_ne, rdI, rdL, lid_eq, lid_ne, ne_lid]) (by simp [upI_ne, upL_ne, rdI, rdL, lid_eq, lid_ne, ne_lid]) (by simp [upI_ne, upL_ne, rdI, rdL, lid_eq, lid_ne, ne_lid]) (by simp [upI_ne, upL_ne, rdI, rdL, lid_eq, lid_ne, ne_lid]) (by simp [upI_ne, upL_ne, rdI, rdL, lid_eq, lid_ne, ne_lid]) (by simp [upI_ne, upL_ne, rdI, rdL, lid_eq, lid_ne, ne_lid]) (by simp [upI_ne, upL_ne, rdI, rdL, lid_eq, lid_ne, ne_lid])
  · have hl0 := (h6 l hl).2.2
    unfold CRl at hl0 ⊢
    by_cases e : l = i
    · subst e
      exact ⟨by simpa [upI_ne, upL_ne, rdI, rdL, lid_eq, lid_ne, ne_lid] using hl0.1, by simpa [upI_ne, upL_ne, rdI, rdL, lid_eq, lid_ne, ne_lid] using hl0.2.1, by simp [upI_ne, upL_ne, rdI, rdL, lid_eq, lid_ne, ne_lid], by simp [upI_ne, upL_ne, rdI, rdL, lid_eq, lid_ne, ne_lid], by simpa [upI_ne, upL_ne, rdI, rdL, lid_eq, lid_ne, ne_lid] using hl0.2.2.2.2⟩
    · simpa [upI_ne, upL_ne, rdI, rdL, lid_eq, lid_ne, ne_lid, e] using hl0
  · simp [upI_ne, upL_ne, rdI, rdL, lid_eq, lid_ne, ne_lid, ne_lid (show i9 < 1000 by omega), show i9 ≠ 1 by omega, show i9 ≠ 2 by omega, show i9 ≠ 3 by omega, show i9 ≠ 4 by omega, show i9 ≠ 5 by omega, show i9 ≠ 6 by omega, show i9 ≠ 330 by omega, show i9 ≠ 340 by omega, show i9 ≠ 341 by omega, show i9 ≠ 342 by omega, show i9 ≠ 343 by omega, show i9 ≠ 350 by omega, show i9 ≠ 351 by omega, show i9 ≠ 352 by omega, show i9 ≠ 353 by omega, show i9 ≠ 354 by omega, show i9 ≠ 355 by omega, show i9 ≠ 360 by omega, show i9 ≠ 361 by omega, show i9 ≠ 362 by omega, show i9 ≠ 363 by omega, show i9 ≠ 364 by omega]
def Tlast (S : MI) (T : ML) (i : Nat) : ML := if S 208 i = 3 then upL T 221 i (T 30 2) else T
set_option maxHeartbeats 1000000 in
theorem CX_last {n w nf fr : Nat} {S I J : MI} {T L M : ML} {i : Nat} (h : CX n S T w nf fr J M I L) (h59 : S 208 i ≤ 3) : CX n (S) (Tlast S T i) w nf fr J M (I) (upL L (lid i 0) 10 (L 2 2)) := by
  obtain ⟨h1, h2, h3, h4, h5, h6⟩ := id h.1
  have hV := h.2.1.2.2.2.2.2.2.1
  refine CX_of h ⟨?_, ?_, ?_, ?_, ?_, fun l hl => ⟨?_, ?_, ?_⟩⟩ (h.2.1) (by simp [Tlast, upI_ne, upL_ne, rdI, rdL, lid_eq, lid_ne, ne_lid]) (fun i9 h79 h89 => ?_)
  · simpa [CRt, Tlast, upI_ne, upL_ne, rdI, rdL, lid_eq, lid_ne, ne_lid] using h1
  · simpa [CRk, Tlast, upI_ne, upL_ne, rdI, rdL, lid_eq, lid_ne, ne_lid] using h2
  · simpa [CRp, Tlast, upI_ne, upL_ne, rdI, rdL, lid_eq, lid_ne, ne_lid] using h3
  · simpa [CRc, Tlast, upI_ne, upL_ne, rdI, rdL, lid_eq, lid_ne, ne_lid] using h4
  · obtain ⟨a1, a2, a3⟩ := h5
    unfold Tlast
    exact ⟨by split <;> simpa [Tlast, upI_ne, upL_ne, rdI, rdL, lid_eq, lid_ne, ne_lid] using a1, a2, a3⟩
  · exact CRq_cong2 (h6 l hl).1 (by simp [Tlast, upI_ne, upL_ne, rdI, rdL, lid_eq, lid_ne, ne_lid]) (fun j hj => by simp [Tlast, upI_ne, upL_ne, rdI, rdL, lid_eq, lid_ne, ne_lid]) (fun j hj => by simp [Tlast, upI_ne, upL_ne, rdI, rdL, lid_eq, lid_ne, ne_lid]) (fun j hj => by simp [Tlast, upI_ne, upL_ne, rdI, rdL, lid_eq, lid_ne, ne_lid]) (by simp [Tlast, upI_ne, upL_ne, rdI, rdL, lid_eq, lid_ne, ne_lid]) (by simp [Tlast, upI_ne, upL_ne, rdI, rdL, lid_eq, lid_ne, ne_lid]) (by simp [Tlast, upI_ne, upL_ne, rdI, rdL, lid_eq, lid_ne, ne_lid]) (by simp [Tlast, upI_ne, upL_ne, rdI, rdL, lid_eq, lid_ne, ne_lid])
  · refine CRm_cong (h6 l hl).2.1 rfl rfl rfl ?_ rfl rfl rfl (by simp [Tlast, upI_ne, upL_ne, rdI, rdL, lid_eq, lid_ne, ne_lid])
    unfold Tlast
    split <;> simp [Tlast, upI_ne, upL_ne, rdI, rdL, lid_eq, lid_ne, ne_lid]
  · have hl0 := (h6 l hl).2.2
    have hck := h5
    unfold CRl at hl0 ⊢
    by_cases e : l = i
    · subst e
      refine ⟨hl0.1, hl0.2.1, hl0.2.2.1, hl0.2.2.2.1, fun h3 => ?_⟩
      have h39 : S 208 l = 3 := Int32.le_antisymm h59 h3
      obtain ⟨b1, b2, b3, b4⟩ := hl0.2.2.2.2 h3
      unfold Tlast
      rw [if_pos h39]
      exact ⟨by simpa [Tlast, upI_ne, upL_ne, rdI, rdL, lid_eq, lid_ne, ne_lid] using b1, by simpa [Tlast, upI_ne, upL_ne, rdI, rdL, lid_eq, lid_ne, ne_lid] using b2, by simpa [Tlast, upI_ne, upL_ne, rdI, rdL, lid_eq, lid_ne, ne_lid] using b3, by simp [Tlast, upI_ne, upL_ne, rdI, rdL, lid_eq, lid_ne, ne_lid, hck.1]⟩
    · refine ⟨hl0.1, hl0.2.1, hl0.2.2.1, hl0.2.2.2.1, fun h3 => ?_⟩
      obtain ⟨b1, b2, b3, b4⟩ := hl0.2.2.2.2 h3
      unfold Tlast
      split <;> simp [Tlast, upI_ne, upL_ne, rdI, rdL, lid_eq, lid_ne, ne_lid, e, b1, b2, b3, b4]
  · simp [Tlast, upI_ne, upL_ne, rdI, rdL, lid_eq, lid_ne, ne_lid, ne_lid (show i9 < 1000 by omega), show i9 ≠ 1 by omega, show i9 ≠ 2 by omega, show i9 ≠ 3 by omega, show i9 ≠ 4 by omega, show i9 ≠ 5 by omega, show i9 ≠ 6 by omega, show i9 ≠ 330 by omega, show i9 ≠ 340 by omega, show i9 ≠ 341 by omega, show i9 ≠ 342 by omega, show i9 ≠ 343 by omega, show i9 ≠ 350 by omega, show i9 ≠ 351 by omega, show i9 ≠ 352 by omega, show i9 ≠ 353 by omega, show i9 ≠ 354 by omega, show i9 ≠ 355 by omega, show i9 ≠ 360 by omega, show i9 ≠ 361 by omega, show i9 ≠ 362 by omega, show i9 ≠ 363 by omega, show i9 ≠ 364 by omega]
end
section
/-! ===== timers ===== -/
theorem Fcnt_set {S : MI} {l t : Nat} {v : Int32} : ∀ m, t < m → Fcnt (upI S 226 t v) l m + (if S 226 t = nI l then 1 else 0) = Fcnt S l m + (if v = nI l then 1 else 0)
  | 0, h => absurd h (Nat.not_lt_zero _)
  | m + 1, h => by
    simp only [Fcnt]
    by_cases e : t = m
    · subst e
      have h0 : ∀ q, q ≤ t → Fcnt (upI S 226 t v) l q = Fcnt S l q := by
        intro q
        induction q with
        | zero => intro _; rfl
        | succ q ih =>
          intro hq
          simp only [Fcnt]
          rw [ih (by omega)]
          have : ¬ q = t := by omega
          simp [rdI, this]
      rw [h0 t (Nat.le_refl _)]
      simp [rdI]
      omega
    · have ih := Fcnt_set (S := S) (l := l) (t := t) (v := v) m (by omega)
      have : ¬ m = t := fun q => e q.symm
      simp only [rdI, this, and_false, if_false]
      omega
theorem Fcnt_out {S S' : MI} {l : Nat} : ∀ m, (∀ t, t < m → S' 226 t = S 226 t) → Fcnt S' l m = Fcnt S l m
  | 0, _ => rfl
  | m + 1, h => by
    simp only [Fcnt]
    rw [Fcnt_out m (fun t ht => h t (by omega)), h m (by omega)]
theorem nI_ne_m1 {j : Nat} (h : j < 2 ^ 31) : ¬ (-1 : Int32) = nI j := by
  intro e
  have := congrArg Int32.toInt e
  rw [nI_toInt h] at this
  have e1 : (-1 : Int32).toInt = -1 := by decide
  rw [e1] at this
  omega
theorem nI_inj {a b : Nat} (ha : a < 2 ^ 31) (hb : b < 2 ^ 31) (h : nI a = nI b) : a = b := (nI_eq ha hb).mp h
set_option maxHeartbeats 1000000 in
theorem Inv_drop {n : Nat} {S : MI} {t : Nat} (h : Inv n S) : Inv n (upI S 226 t (-1)) := by
  obtain ⟨h1, h2, h3, h4, h5, h6, h7, h8⟩ := h
  refine ⟨h1, (by simpa [upI_ne, rdI] using h2), InvT_cong h3 (by simp [upI_ne, rdI]) (by simp [upI_ne, rdI]), InvP_cong h4 (by simp [upI_ne, rdI]) (by simp [upI_ne, rdI]) (by simp [upI_ne, rdI]) (by simp [upI_ne, rdI]) (by simp [upI_ne, rdI]), InvC_cong h5 (by simp [upI_ne, rdI]) (by simp [upI_ne, rdI]) (by simp [upI_ne, rdI]) (by simp [upI_ne, rdI]) (by simp [upI_ne, rdI]) (by simp [upI_ne, rdI]), ?_, fun l hl => ⟨InvQ_cong (h7 l hl).1 (by simp [upI_ne, rdI]) (by simp [upI_ne, rdI]) (by simp [upI_ne, rdI]) (fun j hj => by simp [upI_ne, rdI]) (fun j hj => by simp [upI_ne, rdI]), InvB_cong (h7 l hl).2.1 (by simp [upI_ne, rdI]) (by simp [upI_ne, rdI]) (by simp [upI_ne, rdI]) (by simp [upI_ne, rdI]) (by simp [upI_ne, rdI]) (by simp [upI_ne, rdI]), InvS_cong (h7 l hl).2.2 (by simp [upI_ne, rdI])⟩, (by simpa [upI_ne, rdI] using h8)⟩
  · refine ⟨by simpa [rdI] using h6.1, fun q hq => ?_⟩
    have := h6.2 q (by simpa [rdI] using hq)
    by_cases e : q = t
    · subst e
      exact ⟨by simpa [rdI] using this.1, Or.inl (by simp [rdI])⟩
    · simpa [rdI, e] using this
set_option maxHeartbeats 1000000 in
theorem CX_drop {n w nf fr : Nat} {S I J : MI} {T L M : ML} {i k z t : Nat} (h : CX n S T w nf fr J M I L) (hi : i < n) (hz : Fcnt S i (N (S 30 23)) = z + 1) (hk : k < z + 1) (ht : I (lid i 6) k = nI t) (htb : t < 2 ^ 31) : CX n (upI S 226 t (-1)) (T) w nf fr J M (Cmrem I i z k) (upL L (lid i 8) k (L (lid i 8) z)) := by
  obtain ⟨h1, h2, h3, h4, h5, h6⟩ := id h.1
  have hV := h.2.1.2.2.2.2.2.2.1
  refine CX_of h ⟨?_, ?_, ?_, ?_, ?_, fun l hl => ⟨?_, ?_, ?_⟩⟩ (Inv_drop h.2.1) (by simp [Cmrem, upI_ne, upL_ne, rdI, rdL, lid_eq, lid_ne, ne_lid]) (fun i9 h79 h89 => ?_)
  · simpa [CRt, Cmrem, upI_ne, upL_ne, rdI, rdL, lid_eq, lid_ne, ne_lid] using h1
  · simpa [CRk, Cmrem, upI_ne, upL_ne, rdI, rdL, lid_eq, lid_ne, ne_lid] using h2
  · simpa [CRp, Cmrem, upI_ne, upL_ne, rdI, rdL, lid_eq, lid_ne, ne_lid] using h3
  · simpa [CRc, Cmrem, upI_ne, upL_ne, rdI, rdL, lid_eq, lid_ne, ne_lid] using h4
  · simpa [CRs, Cmrem, upI_ne, upL_ne, rdI, rdL, lid_eq, lid_ne, ne_lid] using h5
  · exact CRq_cong2 (h6 l hl).1 (by simp [Cmrem, upI_ne, upL_ne, rdI, rdL, lid_eq, lid_ne, ne_lid]) (fun j hj => by simp [Cmrem, upI_ne, upL_ne, rdI, rdL, lid_eq, lid_ne, ne_lid]) (fun j hj => by simp [Cmrem, upI_ne, upL_ne, rdI, rdL, lid_eq, lid_ne, ne_lid]) (fun j hj => by simp [Cmrem, upI_ne, upL_ne, rdI, rdL, lid_eq, lid_ne, ne_lid]) (by simp [Cmrem, upI_ne, upL_ne, rdI, rdL, lid_eq, lid_ne, ne_lid]) (by simp [Cmrem, upI_ne, upL_ne, rdI, rdL, lid_eq, lid_ne, ne_lid]) (by simp [Cmrem, upI_ne, upL_ne, rdI, rdL, lid_eq, lid_ne, ne_lid]) (by simp [Cmrem, upI_ne, upL_ne, rdI, rdL, lid_eq, lid_ne, ne_lid])
  · have hn8 := h.2.1.1.2
    have ti := (h6 i hi).2.1
    unfold CRm at ti
    rw [hz] at ti
    obtain ⟨t1, t2, t3, t4, t5⟩ := ti
    obtain ⟨u1, u2, u3, u4⟩ := t3 k hk
    rw [ht] at u1 u2 u3 u4
    have hN : N (nI t) = t := N_nI htb
    rw [hN] at u2 u3 u4
    have htm : t < N (S 30 23) := by have := u1.2; rw [hN] at this; exact this
    have e23 : upI S 226 t (-1) 30 23 = S 30 23 := by simp [rdI]
    have hc := Fcnt_set (S := S) (l := l) (t := t) (v := (-1)) (N (S 30 23)) htm
    rw [if_neg (nI_ne_m1 (j := l) (by omega))] at hc
    by_cases e : l = i
    · subst e
      rw [if_pos u2, hz] at hc
      have hc2 : Fcnt (upI S 226 t (-1)) l (N (S 30 23)) = z := by omega
      have num : ∀ q, q < z → ∃ q', q' < z + 1 ∧ q' ≠ k ∧ Cmrem I l z k (lid l 6) q = I (lid l 6) q' ∧ Cmrem I l z k (lid l 7) q = I (lid l 7) q' ∧ upL L (lid l 8) k (L (lid l 8) z) (lid l 8) q = L (lid l 8) q' ∧ (q' = q ∨ (q = k ∧ q' = z)) := by
        intro q hq
        by_cases eq : q = k
        · subst eq
          refine ⟨z, by omega, by omega, ?_, ?_, ?_, Or.inr ⟨rfl, rfl⟩⟩ <;> simp [Cmrem, upI_ne, upL_ne, rdI, rdL, lid_eq, lid_ne, ne_lid]
        · refine ⟨q, by omega, eq, ?_, ?_, ?_, Or.inl rfl⟩ <;> simp [Cmrem, upI_ne, upL_ne, rdI, rdL, lid_eq, lid_ne, ne_lid, eq]
      unfold CRm
      rw [e23, hc2]
      refine ⟨by simp [Cmrem, upI_ne, upL_ne, rdI, rdL, lid_eq, lid_ne, ne_lid], by omega, fun q hq => ?_, fun q q2 hq hq2 he => ?_, fun t0 ht0 he => ?_⟩
      · obtain ⟨q', b1, b2, b3, b4, b5, -⟩ := num q hq
        rw [b3, b4, b5]
        obtain ⟨v1, v2, v3, v4⟩ := t3 q' b1
        have hne : ¬ N (I (lid l 6) q') = t := fun e9 => b2 (t4 q' k b1 hk (by rw [v1.1, e9, ht]))
        exact ⟨v1, by simpa [rdI, hne] using v2, by simpa [rdI] using v3, by simpa using v4⟩
      · obtain ⟨a', b1, b2, b3, -, -, b6⟩ := num q hq
        obtain ⟨c', d1, d2, d3, -, -, d6⟩ := num q2 hq2
        rw [b3, d3] at he
        have := t4 a' c' b1 d1 he
        omega
      · have hne : ¬ t0 = t := fun e9 => by subst e9; exact nI_ne_m1 (j := l) (by omega) (by simpa [rdI] using he)
        obtain ⟨q, a1, a2⟩ := t5 t0 ht0 (by simpa [rdI, hne] using he)
        have hqk : q ≠ k := fun e9 => by
          subst e9
          rw [ht] at a2
          exact hne (nI_inj (by have := h.2.1.2.2.2.2.2.1.1.2; omega) htb a2.symm)
        by_cases eq : q = z
        · subst eq
          exact ⟨k, by omega, by simpa [Cmrem, upI_ne, upL_ne, rdI, rdL, lid_eq, lid_ne, ne_lid] using a2⟩
        · exact ⟨q, by omega, by simpa [Cmrem, upI_ne, upL_ne, rdI, rdL, lid_eq, lid_ne, ne_lid, hqk] using a2⟩
    · have hne : ¬ S 226 t = nI l := fun e9 => e (nI_inj (by omega) (by omega) (e9.symm.trans u2))
      rw [if_neg hne] at hc
      have tl := (h6 l hl).2.1
      unfold CRm at tl ⊢
      rw [e23, show Fcnt (upI S 226 t (-1)) l (N (S 30 23)) = Fcnt S l (N (S 30 23)) by omega]
      obtain ⟨w1, w2, w3, w4, w5⟩ := tl
      refine ⟨by simpa [Cmrem, upI_ne, upL_ne, rdI, rdL, lid_eq, lid_ne, ne_lid, e] using w1, w2, fun q hq => ?_, fun q q2 hq hq2 he => w4 q q2 hq hq2 (by simpa [Cmrem, upI_ne, upL_ne, rdI, rdL, lid_eq, lid_ne, ne_lid, e] using he), fun t0 ht0 he => ?_⟩
      · obtain ⟨v1, v2, v3, v4⟩ := w3 q hq
        have hne2 : ¬ N (I (lid l 6) q) = t := fun e9 => hne (by rw [← e9]; exact v2)
        exact ⟨by simpa [Cmrem, upI_ne, upL_ne, rdI, rdL, lid_eq, lid_ne, ne_lid, e] using v1, by simpa [Cmrem, upI_ne, upL_ne, rdI, rdL, lid_eq, lid_ne, ne_lid, e, hne2] using v2, by simpa [Cmrem, upI_ne, upL_ne, rdI, rdL, lid_eq, lid_ne, ne_lid, e] using v3, by simpa [Cmrem, upI_ne, upL_ne, rdI, rdL, lid_eq, lid_ne, ne_lid, e] using v4⟩
      · have hne2 : ¬ t0 = t := fun e9 => by subst e9; exact nI_ne_m1 (j := l) (by omega) (by simpa [rdI] using he)
        obtain ⟨q, a1, a2⟩ := w5 t0 ht0 (by simpa [rdI, hne2] using he)
        exact ⟨q, a1, by simpa [Cmrem, upI_ne, upL_ne, rdI, rdL, lid_eq, lid_ne, ne_lid, e] using a2⟩
  · exact CRl_cong (h6 l hl).2.2 (by simp [Cmrem, upI_ne, upL_ne, rdI, rdL, lid_eq, lid_ne, ne_lid]) (by simp [Cmrem, upI_ne, upL_ne, rdI, rdL, lid_eq, lid_ne, ne_lid]) (by simp [Cmrem, upI_ne, upL_ne, rdI, rdL, lid_eq, lid_ne, ne_lid]) (by simp [Cmrem, upI_ne, upL_ne, rdI, rdL, lid_eq, lid_ne, ne_lid]) (by simp [Cmrem, upI_ne, upL_ne, rdI, rdL, lid_eq, lid_ne, ne_lid]) (by simp [Cmrem, upI_ne, upL_ne, rdI, rdL, lid_eq, lid_ne, ne_lid]) (by simp [Cmrem, upI_ne, upL_ne, rdI, rdL, lid_eq, lid_ne, ne_lid]) (by simp [Cmrem, upI_ne, upL_ne, rdI, rdL, lid_eq, lid_ne, ne_lid]) (by simp [Cmrem, upI_ne, upL_ne, rdI, rdL, lid_eq, lid_ne, ne_lid]) (by simp [Cmrem, upI_ne, upL_ne, rdI, rdL, lid_eq, lid_ne, ne_lid]) (by simp [Cmrem, upI_ne, upL_ne, rdI, rdL, lid_eq, lid_ne, ne_lid]) (by simp [Cmrem, upI_ne, upL_ne, rdI, rdL, lid_eq, lid_ne, ne_lid])
  · simp [Cmrem, upI_ne, upL_ne, rdI, rdL, lid_eq, lid_ne, ne_lid, ne_lid (show i9 < 1000 by omega), show i9 ≠ 1 by omega, show i9 ≠ 2 by omega, show i9 ≠ 3 by omega, show i9 ≠ 4 by omega, show i9 ≠ 5 by omega, show i9 ≠ 6 by omega, show i9 ≠ 330 by omega, show i9 ≠ 340 by omega, show i9 ≠ 341 by omega, show i9 ≠ 342 by omega, show i9 ≠ 343 by omega, show i9 ≠ 350 by omega, show i9 ≠ 351 by omega, show i9 ≠ 352 by omega, show i9 ≠ 353 by omega, show i9 ≠ 354 by omega, show i9 ≠ 355 by omega, show i9 ≠ 360 by omega, show i9 ≠ 361 by omega, show i9 ≠ 362 by omega, show i9 ≠ 363 by omega, show i9 ≠ 364 by omega]
end
section
theorem Inv_tadd {n : Nat} {S : MI} {i : Nat} {t : Int32} (h : Inv n S) (hi : i < n) (hm : N (S 30 23) < 400) (ht : nbt t (N (S 30 3))) : Inv n (Fsch0 S i t) := by
  obtain ⟨h1, h2, h3, h4, h5, h6, h7, h8⟩ := h
  have e9 : S 30 23 + 1 = nI (N (S 30 23) + 1) := nI_add1 h6.1.1
  have e2 : Fsch0 S i t 30 23 = nI (N (S 30 23) + 1) := by simp [Fsch0, rdI, e9]
  have e3 : N (Fsch0 S i t 30 23) = N (S 30 23) + 1 := by rw [e2]; exact N_nI (by omega)
  refine ⟨h1, by simpa [Fsch0, rdI] using h2, InvT_cong h3 (by simp [Fsch0, rdI]) (by simp [Fsch0, upI_ne]), InvP_cong h4 (by simp [Fsch0, rdI]) (by simp [Fsch0, rdI]) (by simp [Fsch0, upI_ne]) (by simp [Fsch0, upI_ne]) (by simp [Fsch0, upI_ne]), InvC_cong h5 (by simp [Fsch0, rdI]) (by simp [Fsch0, rdI]) (by simp [Fsch0, upI_ne]) (by simp [Fsch0, upI_ne]) (by simp [Fsch0, upI_ne]) (by simp [Fsch0, upI_ne]), ?_, fun l hl => ⟨InvQ_cong (h7 l hl).1 (by simp [Fsch0, rdI]) (by simp [Fsch0, rdI]) (by simp [Fsch0, rdI]) (fun j hj => by simp [Fsch0, rdI]) (fun j hj => by simp [Fsch0, rdI]), InvB_cong (h7 l hl).2.1 (by simp [Fsch0, rdI]) (by simp [Fsch0, rdI]) (by simp [Fsch0, rdI]) (by simp [Fsch0, rdI]) (by simp [Fsch0, rdI]) (by simp [Fsch0, rdI]), InvS_cong (h7 l hl).2.2 (by simp [Fsch0, rdI])⟩, by simpa [Fsch0, rdI] using h8⟩
  unfold InvM
  rw [e3]
  refine ⟨nb_of e2 (by omega) (by decide), fun q hq => ?_⟩
  by_cases e : q = N (S 30 23)
  · subst e
    refine ⟨by simpa [Fsch0, rdI] using ht, Or.inr ?_⟩
    have : N (nI i) = i := N_nI (by omega)
    simp only [nbt, Fsch0, rdI]
    simp [this, hi]
  · have := h6.2 q (by omega)
    simpa [Fsch0, rdI, e] using this
set_option maxHeartbeats 1000000 in
theorem CX_tadd {n w nf fr : Nat} {S I J : MI} {T L M : ML} {i z : Nat} {t : Int32} {dl : Int64} (h : CX n S T w nf fr J M I L) (hi : i < n) (hm : N (S 30 23) < 400) (ht : nbt t (N (S 30 3))) (hz : Fcnt S i (N (S 30 23)) = z) (hzb : z < 24) : CX n (Fsch0 S i t) (upL T 225 (N (S 30 23)) dl) w nf fr J M (Cmput (upI I 2 4 (I 2 4 + 1)) i z (I 2 4) t) (upL L (lid i 8) z dl) := by
  obtain ⟨h1, h2, h3, h4, h5, h6⟩ := id h.1
  have hV := h.2.1.2.2.2.2.2.2.1
  refine CX_of h ⟨?_, ?_, ?_, ?_, ?_, fun l hl => ⟨?_, ?_, ?_⟩⟩ (Inv_tadd h.2.1 hi hm ht) (by simp [Fsch0, Cmput, upI_ne, upL_ne, rdI, rdL, lid_eq, lid_ne, ne_lid]) (fun i9 h79 h89 => ?_)
  · simpa [CRt, Fsch0, Cmput, upI_ne, upL_ne, rdI, rdL, lid_eq, lid_ne, ne_lid] using h1
  · simpa [CRk, Fsch0, Cmput, upI_ne, upL_ne, rdI, rdL, lid_eq, lid_ne, ne_lid] using h2
  · simpa [CRp, Fsch0, Cmput, upI_ne, upL_ne, rdI, rdL, lid_eq, lid_ne, ne_lid] using h3
  · simpa [CRc, Fsch0, Cmput, upI_ne, upL_ne, rdI, rdL, lid_eq, lid_ne, ne_lid] using h4
  · obtain ⟨a1, a2, a3⟩ := h5
    exact ⟨by simpa [Fsch0, Cmput, upI_ne, upL_ne, rdI, rdL, lid_eq, lid_ne, ne_lid] using a1, by simpa [Fsch0, Cmput, upI_ne, upL_ne, rdI, rdL, lid_eq, lid_ne, ne_lid] using a2, by simp [Fsch0, Cmput, upI_ne, upL_ne, rdI, rdL, lid_eq, lid_ne, ne_lid, a3]⟩
  · exact CRq_cong2 (h6 l hl).1 (by simp [Fsch0, Cmput, upI_ne, upL_ne, rdI, rdL, lid_eq, lid_ne, ne_lid]) (fun j hj => by simp [Fsch0, Cmput, upI_ne, upL_ne, rdI, rdL, lid_eq, lid_ne, ne_lid]) (fun j hj => by simp [Fsch0, Cmput, upI_ne, upL_ne, rdI, rdL, lid_eq, lid_ne, ne_lid]) (fun j hj => by simp [Fsch0, Cmput, upI_ne, upL_ne, rdI, rdL, lid_eq, lid_ne, ne_lid]) (by simp [Fsch0, Cmput, upI_ne, upL_ne, rdI, rdL, lid_eq, lid_ne, ne_lid]) (by simp [Fsch0, Cmput, upI_ne, upL_ne, rdI, rdL, lid_eq, lid_ne, ne_lid]) (by simp [Fsch0, Cmput, upI_ne, upL_ne, rdI, rdL, lid_eq, lid_ne, ne_lid]) (by simp [Fsch0, Cmput, upI_ne, upL_ne, rdI, rdL, lid_eq, lid_ne, ne_lid])
  · have hn8 := h.2.1.1.2
    have h6m := h.2.1.2.2.2.2.2.1
    have e9 : S 30 23 + 1 = nI (N (S 30 23) + 1) := nI_add1 h6m.1.1
    have e2 : Fsch0 S i t 30 23 = nI (N (S 30 23) + 1) := by simp [Fsch0, rdI, e9]
    have e3 : N (Fsch0 S i t 30 23) = N (S 30 23) + 1 := by rw [e2]; exact N_nI (by omega)
    have ec : Fcnt (Fsch0 S i t) l (N (S 30 23)) = Fcnt S l (N (S 30 23)) := Fcnt_out _ (fun q hq => by have : ¬ q = N (S 30 23) := (by omega); simp [Fsch0, rdI, this])
    have ei : I 2 4 = nI (N (S 30 23)) := h5.2.2.trans h6m.1.1
    have tl := (h6 l hl).2.1
    unfold CRm at tl ⊢
    rw [e3]
    simp only [Fcnt]
    rw [ec]
    have el : Fsch0 S i t 226 (N (S 30 23)) = nI i := by simp [Fsch0, rdI]
    rw [el]
    obtain ⟨w1, w2, w3, w4, w5⟩ := tl
    by_cases e : l = i
    · subst e
      rw [hz] at w1 w2 w3 w4 w5 ⊢
      rw [if_pos rfl]
      have hN : N (I 2 4) = N (S 30 23) := by rw [ei]; exact N_nI (by omega)
      refine ⟨by simp [Fsch0, Cmput, upI_ne, upL_ne, rdI, rdL, lid_eq, lid_ne, ne_lid], by omega, fun q hq => ?_, fun q q2 hq hq2 he => ?_, fun t0 ht0 he => ?_⟩
      · by_cases eq : q = z
        · subst eq
          have a1 : Cmput (upI I 2 4 (I 2 4 + 1)) l q (I 2 4) t (lid l 6) q = I 2 4 := by simp [Fsch0, Cmput, upI_ne, upL_ne, rdI, rdL, lid_eq, lid_ne, ne_lid]
          rw [a1, hN]
          refine ⟨⟨by rw [hN]; exact ei, by rw [hN]; omega⟩, by simp [Fsch0, Cmput, upI_ne, upL_ne, rdI, rdL, lid_eq, lid_ne, ne_lid], by simp [Fsch0, Cmput, upI_ne, upL_ne, rdI, rdL, lid_eq, lid_ne, ne_lid], by simp [Fsch0, Cmput, upI_ne, upL_ne, rdI, rdL, lid_eq, lid_ne, ne_lid]⟩
        · obtain ⟨v1, v2, v3, v4⟩ := w3 q (by omega)
          have a1 : Cmput (upI I 2 4 (I 2 4 + 1)) l z (I 2 4) t (lid l 6) q = I (lid l 6) q := by simp [Fsch0, Cmput, upI_ne, upL_ne, rdI, rdL, lid_eq, lid_ne, ne_lid, eq]
          rw [a1]
          have hne : ¬ N (I (lid l 6) q) = N (S 30 23) := by have := v1.2; omega
          exact ⟨⟨v1.1, by have := v1.2; omega⟩, by simpa [Fsch0, Cmput, upI_ne, upL_ne, rdI, rdL, lid_eq, lid_ne, ne_lid, hne] using v2, by simpa [Fsch0, Cmput, upI_ne, upL_ne, rdI, rdL, lid_eq, lid_ne, ne_lid, hne, eq] using v3, by simpa [Fsch0, Cmput, upI_ne, upL_ne, rdI, rdL, lid_eq, lid_ne, ne_lid, hne, eq] using v4⟩
      · by_cases eq : q = z
        · by_cases eq2 : q2 = z
          · omega
          · exfalso
            subst eq
            have v1 := (w3 q2 (by omega)).1
            have : I 2 4 = I (lid l 6) q2 := by simpa [Fsch0, Cmput, upI_ne, upL_ne, rdI, rdL, lid_eq, lid_ne, ne_lid, eq2] using he
            have h9 := v1.2
            rw [← this, hN] at h9
            omega
        · by_cases eq2 : q2 = z
          · exfalso
            subst eq2
            have v1 := (w3 q (by omega)).1
            have : I (lid l 6) q = I 2 4 := by simpa [Fsch0, Cmput, upI_ne, upL_ne, rdI, rdL, lid_eq, lid_ne, ne_lid, eq] using he
            have h9 := v1.2
            rw [this, hN] at h9
            omega
          · exact w4 q q2 (by omega) (by omega) (by simpa [Fsch0, Cmput, upI_ne, upL_ne, rdI, rdL, lid_eq, lid_ne, ne_lid, eq, eq2] using he)
      · by_cases et : t0 = N (S 30 23)
        · subst et
          exact ⟨z, by omega, by simp [Fsch0, Cmput, upI_ne, upL_ne, rdI, rdL, lid_eq, lid_ne, ne_lid, ei]⟩
        · obtain ⟨q, a1, a2⟩ := w5 t0 (by omega) (by simpa [Fsch0, Cmput, upI_ne, upL_ne, rdI, rdL, lid_eq, lid_ne, ne_lid, et] using he)
          have : ¬ q = z := by omega
          exact ⟨q, by omega, by simpa [Fsch0, Cmput, upI_ne, upL_ne, rdI, rdL, lid_eq, lid_ne, ne_lid, this] using a2⟩
    · rw [if_neg (fun e9 => e (nI_inj (by omega) (by omega) e9.symm))]
      refine ⟨by simpa [Fsch0, Cmput, upI_ne, upL_ne, rdI, rdL, lid_eq, lid_ne, ne_lid, e] using w1, by omega, fun q hq => ?_, fun q q2 hq hq2 he => w4 q q2 (by omega) (by omega) (by simpa [Fsch0, Cmput, upI_ne, upL_ne, rdI, rdL, lid_eq, lid_ne, ne_lid, e] using he), fun t0 ht0 he => ?_⟩
      · obtain ⟨v1, v2, v3, v4⟩ := w3 q (by omega)
        have a1 : Cmput (upI I 2 4 (I 2 4 + 1)) i z (I 2 4) t (lid l 6) q = I (lid l 6) q := by simp [Fsch0, Cmput, upI_ne, upL_ne, rdI, rdL, lid_eq, lid_ne, ne_lid, e]
        rw [a1]
        have hne : ¬ N (I (lid l 6) q) = N (S 30 23) := by have := v1.2; omega
        exact ⟨⟨v1.1, by have := v1.2; omega⟩, by simpa [Fsch0, Cmput, upI_ne, upL_ne, rdI, rdL, lid_eq, lid_ne, ne_lid, hne] using v2, by simpa [Fsch0, Cmput, upI_ne, upL_ne, rdI, rdL, lid_eq, lid_ne, ne_lid, hne, e] using v3, by simpa [Fsch0, Cmput, upI_ne, upL_ne, rdI, rdL, lid_eq, lid_ne, ne_lid, hne, e] using v4⟩
      · by_cases et : t0 = N (S 30 23)
        · subst et
          exact absurd (nI_inj (by omega) (by omega) ((by simpa [Fsch0, Cmput, upI_ne, upL_ne, rdI, rdL, lid_eq, lid_ne, ne_lid] using he : nI i = nI l))) (fun q => e q.symm)
        · obtain ⟨q, a1, a2⟩ := w5 t0 (by omega) (by simpa [Fsch0, Cmput, upI_ne, upL_ne, rdI, rdL, lid_eq, lid_ne, ne_lid, et] using he)
          exact ⟨q, by omega, by simpa [Fsch0, Cmput, upI_ne, upL_ne, rdI, rdL, lid_eq, lid_ne, ne_lid, e] using a2⟩
  · exact CRl_cong (h6 l hl).2.2 (by simp [Fsch0, Cmput, upI_ne, upL_ne, rdI, rdL, lid_eq, lid_ne, ne_lid]) (by simp [Fsch0, Cmput, upI_ne, upL_ne, rdI, rdL, lid_eq, lid_ne, ne_lid]) (by simp [Fsch0, Cmput, upI_ne, upL_ne, rdI, rdL, lid_eq, lid_ne, ne_lid]) (by simp [Fsch0, Cmput, upI_ne, upL_ne, rdI, rdL, lid_eq, lid_ne, ne_lid]) (by simp [Fsch0, Cmput, upI_ne, upL_ne, rdI, rdL, lid_eq, lid_ne, ne_lid]) (by simp [Fsch0, Cmput, upI_ne, upL_ne, rdI, rdL, lid_eq, lid_ne, ne_lid]) (by simp [Fsch0, Cmput, upI_ne, upL_ne, rdI, rdL, lid_eq, lid_ne, ne_lid]) (by simp [Fsch0, Cmput, upI_ne, upL_ne, rdI, rdL, lid_eq, lid_ne, ne_lid]) (by simp [Fsch0, Cmput, upI_ne, upL_ne, rdI, rdL, lid_eq, lid_ne, ne_lid]) (by simp [Fsch0, Cmput, upI_ne, upL_ne, rdI, rdL, lid_eq, lid_ne, ne_lid]) (by simp [Fsch0, Cmput, upI_ne, upL_ne, rdI, rdL, lid_eq, lid_ne, ne_lid]) (by simp [Fsch0, Cmput, upI_ne, upL_ne, rdI, rdL, lid_eq, lid_ne, ne_lid])
  · simp [Fsch0, Cmput, upI_ne, upL_ne, rdI, rdL, lid_eq, lid_ne, ne_lid, ne_lid (show i9 < 1000 by omega), show i9 ≠ 1 by omega, show i9 ≠ 2 by omega, show i9 ≠ 3 by omega, show i9 ≠ 4 by omega, show i9 ≠ 5 by omega, show i9 ≠ 6 by omega, show i9 ≠ 330 by omega, show i9 ≠ 340 by omega, show i9 ≠ 341 by omega, show i9 ≠ 342 by omega, show i9 ≠ 343 by omega, show i9 ≠ 350 by omega, show i9 ≠ 351 by omega, show i9 ≠ 352 by omega, show i9 ≠ 353 by omega, show i9 ≠ 354 by omega, show i9 ≠ 355 by omega, show i9 ≠ 360 by omega, show i9 ≠ 361 by omega, show i9 ≠ 362 by omega, show i9 ≠ 363 by omega, show i9 ≠ 364 by omega]
/-- all timers of the loop i are taken away -/
def Fclr (S : MI) (i m : Nat) : MI := fun x q => if x = 226 ∧ q < m ∧ S 226 q = nI i then -1 else S x q
theorem Fclr_ne {S : MI} {i m x : Nat} (h : x ≠ 226) : Fclr S i m x = S x := by
  funext q
  simp [Fclr, h]
set_option maxHeartbeats 1000000 in
theorem Inv_clr {n : Nat} {S : MI} {i m : Nat} (h : Inv n S) : Inv n (Fclr S i m) := by
  obtain ⟨h1, h2, h3, h4, h5, h6, h7, h8⟩ := h
  refine ⟨h1, (by simpa [Fclr_ne, upI_ne, rdI] using h2), InvT_cong h3 (by simp [Fclr_ne, upI_ne, rdI]) (by simp [Fclr_ne, upI_ne, rdI]), InvP_cong h4 (by simp [Fclr_ne, upI_ne, rdI]) (by simp [Fclr_ne, upI_ne, rdI]) (by simp [Fclr_ne, upI_ne, rdI]) (by simp [Fclr_ne, upI_ne, rdI]) (by simp [Fclr_ne, upI_ne, rdI]), InvC_cong h5 (by simp [Fclr_ne, upI_ne, rdI]) (by simp [Fclr_ne, upI_ne, rdI]) (by simp [Fclr_ne, upI_ne, rdI]) (by simp [Fclr_ne, upI_ne, rdI]) (by simp [Fclr_ne, upI_ne, rdI]) (by simp [Fclr_ne, upI_ne, rdI]), ?_, fun l hl => ⟨InvQ_cong (h7 l hl).1 (by simp [Fclr_ne, upI_ne, rdI]) (by simp [Fclr_ne, upI_ne, rdI]) (by simp [Fclr_ne, upI_ne, rdI]) (fun j hj => by simp [Fclr_ne, upI_ne, rdI]) (fun j hj => by simp [Fclr_ne, upI_ne, rdI]), InvB_cong (h7 l hl).2.1 (by simp [Fclr_ne, upI_ne, rdI]) (by simp [Fclr_ne, upI_ne, rdI]) (by simp [Fclr_ne, upI_ne, rdI]) (by simp [Fclr_ne, upI_ne, rdI]) (by simp [Fclr_ne, upI_ne, rdI]) (by simp [Fclr_ne, upI_ne, rdI]), InvS_cong (h7 l hl).2.2 (by simp [Fclr_ne, upI_ne, rdI])⟩, (by simpa [Fclr_ne, upI_ne, rdI] using h8)⟩
  · refine ⟨by simpa [Fclr_ne] using h6.1, fun q hq => ?_⟩
    have := h6.2 q (by simpa [Fclr_ne] using hq)
    refine ⟨by simpa [Fclr_ne] using this.1, ?_⟩
    unfold Fclr
    split
    · exact Or.inl rfl
    · exact this.2
set_option maxHeartbeats 1000000 in
theorem CX_clr {n w nf fr : Nat} {S I J : MI} {T L M : ML} {i : Nat} (h : CX n S T w nf fr J M I L) (hi : i < n) : CX n (Fclr S i (N (S 30 23))) (T) w nf fr J M (upI I (lid i 2) 3 0) (L) := by
  obtain ⟨h1, h2, h3, h4, h5, h6⟩ := id h.1
  have hV := h.2.1.2.2.2.2.2.2.1
  refine CX_of h ⟨?_, ?_, ?_, ?_, ?_, fun l hl => ⟨?_, ?_, ?_⟩⟩ (Inv_clr h.2.1) (by simp [Fclr_ne, upI_ne, upL_ne, rdI, rdL, lid_eq, lid_ne, ne_lid]) (fun i9 h79 h89 => ?_)
  · simpa [CRt, Fclr_ne, upI_ne, upL_ne, rdI, rdL, lid_eq, lid_ne, ne_lid] using h1
  · simpa [CRk, Fclr_ne, upI_ne, upL_ne, rdI, rdL, lid_eq, lid_ne, ne_lid] using h2
  · simpa [CRp, Fclr_ne, upI_ne, upL_ne, rdI, rdL, lid_eq, lid_ne, ne_lid] using h3
  · simpa [CRc, Fclr_ne, upI_ne, upL_ne, rdI, rdL, lid_eq, lid_ne, ne_lid] using h4
  · simpa [CRs, Fclr_ne, upI_ne, upL_ne, rdI, rdL, lid_eq, lid_ne, ne_lid] using h5
  · exact CRq_cong2 (h6 l hl).1 (by simp [Fclr_ne, upI_ne, upL_ne, rdI, rdL, lid_eq, lid_ne, ne_lid]) (fun j hj => by simp [Fclr_ne, upI_ne, upL_ne, rdI, rdL, lid_eq, lid_ne, ne_lid]) (fun j hj => by simp [Fclr_ne, upI_ne, upL_ne, rdI, rdL, lid_eq, lid_ne, ne_lid]) (fun j hj => by simp [Fclr_ne, upI_ne, upL_ne, rdI, rdL, lid_eq, lid_ne, ne_lid]) (by simp [Fclr_ne, upI_ne, upL_ne, rdI, rdL, lid_eq, lid_ne, ne_lid]) (by simp [Fclr_ne, upI_ne, upL_ne, rdI, rdL, lid_eq, lid_ne, ne_lid]) (by simp [Fclr_ne, upI_ne, upL_ne, rdI, rdL, lid_eq, lid_ne, ne_lid]) (by simp [Fclr_ne, upI_ne, upL_ne, rdI, rdL, lid_eq, lid_ne, ne_lid])
  · have hn8 := h.2.1.1.2
    have tl := (h6 l hl).2.1
    unfold CRm at tl ⊢
    have e23 : Fclr S i (N (S 30 23)) 30 23 = S 30 23 := by simp [Fclr_ne]
    rw [e23]
    obtain ⟨w1, w2, w3, w4, w5⟩ := tl
    by_cases e : l = i
    · subst e
      have hc : ∀ m, m ≤ N (S 30 23) → Fcnt (Fclr S l (N (S 30 23))) l m = 0 := by
        intro m
        induction m with
        | zero => intro _; rfl
        | succ m ih =>
          intro hm
          simp only [Fcnt]
          rw [ih (by omega), if_neg]
          unfold Fclr
          split
          · exact nI_ne_m1 (by omega)
          · rename_i hq
            exact fun e9 => hq ⟨rfl, by omega, e9⟩
      rw [hc _ (Nat.le_refl _)]
      refine ⟨by simp [Fclr_ne, upI_ne, upL_ne, rdI, rdL, lid_eq, lid_ne, ne_lid]; rfl, by omega, fun q hq => by omega, fun q q2 hq => by omega, fun t0 ht0 he => ?_⟩
      exfalso
      unfold Fclr at he
      split at he
      · exact nI_ne_m1 (j := l) (by omega) he
      · rename_i hq
        exact hq ⟨rfl, ht0, he⟩
    · have hq : ∀ t0, (Fclr S i (N (S 30 23)) 226 t0 = nI l) = (S 226 t0 = nI l) := by
        intro t0
        unfold Fclr
        split
        · rename_i hq
          simp only [eq_iff_iff]
          exact ⟨fun e9 => absurd e9 (nI_ne_m1 (by omega)), fun e9 => absurd (nI_inj (by omega) (by omega) (e9.symm.trans hq.2.2)) e⟩
        · rfl
      have hc : ∀ m, Fcnt (Fclr S i (N (S 30 23))) l m = Fcnt S l m := by
        intro m
        induction m with
        | zero => rfl
        | succ m ih => simp only [Fcnt, ih, hq]
      rw [hc]
      refine ⟨by simpa [Fclr_ne, upI_ne, upL_ne, rdI, rdL, lid_eq, lid_ne, ne_lid, e] using w1, w2, fun q hq1 => ?_, fun q q2 hq1 hq2 he => w4 q q2 hq1 hq2 (by simpa [Fclr_ne, upI_ne, upL_ne, rdI, rdL, lid_eq, lid_ne, ne_lid, e] using he), fun t0 ht0 he => ?_⟩
      · obtain ⟨v1, v2, v3, v4⟩ := w3 q hq1
        refine ⟨by simpa [Fclr_ne, upI_ne, upL_ne, rdI, rdL, lid_eq, lid_ne, ne_lid, e] using v1, ?_, by simpa [Fclr_ne, upI_ne, upL_ne, rdI, rdL, lid_eq, lid_ne, ne_lid, e] using v3, by simpa [Fclr_ne, upI_ne, upL_ne, rdI, rdL, lid_eq, lid_ne, ne_lid, e] using v4⟩
        have := (hq (N (I (lid l 6) q))).mpr v2
        simpa [Fclr_ne, upI_ne, upL_ne, rdI, rdL, lid_eq, lid_ne, ne_lid, e] using this
      · obtain ⟨q, a1, a2⟩ := w5 t0 ht0 ((hq t0).mp he)
        exact ⟨q, a1, by simpa [Fclr_ne, upI_ne, upL_ne, rdI, rdL, lid_eq, lid_ne, ne_lid, e] using a2⟩
  · exact CRl_cong (h6 l hl).2.2 (by simp [Fclr_ne, upI_ne, upL_ne, rdI, rdL, lid_eq, lid_ne, ne_lid]) (by simp [Fclr_ne, upI_ne, upL_ne, rdI, rdL, lid_eq, lid_ne, ne_lid]) (by simp [Fclr_ne, upI_ne, upL_ne, rdI, rdL, lid_eq, lid_ne, ne_lid]) (by simp [Fclr_ne, upI_ne, upL_ne, rdI, rdL, lid_eq, lid_ne, ne_lid]) (by simp [Fclr_ne, upI_ne, upL_ne, rdI, rdL, lid_eq, lid_ne, ne_lid]) (by simp [Fclr_ne, upI_ne, upL_ne, rdI, rdL, lid_eq, lid_ne, ne_lid]) (by simp [Fclr_ne, upI_ne, upL_ne, rdI, rdL, lid_eq, lid_ne, ne_lid]) (by simp [Fclr_ne, upI_ne, upL_ne, rdI, rdL, lid_eq, lid_ne, ne_lid]) (by simp [Fclr_ne, upI_ne, upL_ne, rdI, rdL, lid_eq, lid_ne, ne_lid]) (by simp [Fclr_ne, upI_ne, upL_ne, rdI, rdL, lid_eq, lid_ne, ne_lid]) (by simp [Fclr_ne, upI_ne, upL_ne, rdI, rdL, lid_eq, lid_ne, ne_lid]) (by simp [Fclr_ne, upI_ne, upL_ne, rdI, rdL, lid_eq, lid_ne, ne_lid])
  · simp [Fclr_ne, upI_ne, upL_ne, rdI, rdL, lid_eq, lid_ne, ne_lid, ne_lid (show i9 < 1000 by omega), show i9 ≠ 1 by omega, show i9 ≠ 2 by omega, show i9 ≠ 3 by omega, show i9 ≠ 4 by omega, show i9 ≠ 5 by omega, show i9 ≠ 6 by omega, show i9 ≠ 330 by omega, show i9 ≠ 340 by omega, show i9 ≠ 341 by omega, show i9 ≠ 342 by omega, show i9 ≠ 343 by omega, show i9 ≠ 350 by omega, show i9 ≠ 351 by omega, show i9 ≠ 352 by omega, show i9 ≠ 353 by omega, show i9 ≠ 354 by omega, show i9 ≠ 355 by omega, show i9 ≠ 360 by omega, show i9 ≠ 361 by omega, show i9 ≠ 362 by omega, show i9 ≠ 363 by omega, show i9 ≠ 364 by omega]
end
section
/-! ===== walks: timers, chooser, states ===== -/
/-- the first place from k on, of m, that holds x; -1 if none -/
def Cpl (f : Nat → Int32) (x : Int32) : Nat → Nat → Int32
  | 0, _ => -1
  | m + 1, k => if f k = x then nI k else Cpl f x m (k + 1)
theorem Cpl_spec (f : Nat → Int32) (x : Int32) : ∀ (m k : Nat), (∃ q, k ≤ q ∧ q < k + m ∧ f q = x ∧ Cpl f x m k = nI q) ∨ (Cpl f x m k = -1 ∧ ∀ q, k ≤ q → q < k + m → f q ≠ x)
  | 0, k => Or.inr ⟨rfl, fun q h1 h2 => by omega⟩
  | m + 1, k => by
    simp only [Cpl]
    by_cases e : f k = x
    · rw [if_pos e]
      exact Or.inl ⟨k, Nat.le_refl _, by omega, e, rfl⟩
    · rw [if_neg e]
      rcases Cpl_spec f x m (k + 1) with ⟨q, a1, a2, a3, a4⟩ | ⟨a1, a2⟩
      · exact Or.inl ⟨q, by omega, by omega, a3, a4⟩
      · refine Or.inr ⟨a1, fun q h1 h2 => ?_⟩
        by_cases eq : q = k
        · subst eq; exact e
        · exact a2 q (by omega) (by omega)
section
variable (l : Launch) (n : Nat) (hn : n < 2 ^ 31) (d : Nat) (I : MI) (L : ML)
set_option maxHeartbeats 4000000 in
set_option maxRecDepth 100000 in
theorem c_placeOf_lp {Q : vq_R} (i z : Nat) (x : Int32) (hn : n < 2 ^ 31) (hi : i < n) (hz : I (lid i 2) 3 = nI z) (hzb : z ≤ 24) : ∀ m k, k + m = z → Q (some (.int (Cpl (I (lid i 6)) x m k))) I L → VP l n m_X7_placeOf d 0 Q noX 0 2 [(2, .int (nI k)), (0, .ref (lid i 2)), (1, .int x)] [] I L := by
  intro m
  induction m with
  | zero =>
    intro k hk hQ
    refine q_iload_n dX7_placeOf_2 rfl ?_
    refine q_aload_n dX7_placeOf_3 rfl ?_
    refine q_getI (lid i 2) 7 3 (vq_isL hi 2 (by decide) rfl) (by decide) rfl (by decide) f_X7_22 rfl dX7_placeOf_4 ?_
    refine q_icmp_ge 28 dX7_placeOf_7 (by decide) (fun h7 => ?_) (fun h7 => ?_)
    · refine q_iconst (-1) dX7_placeOf_28 (by decide) ?_
      exact q_iret dX7_placeOf_29 rfl (by omega) hQ
    · exact absurd (by rw [hz]; exact nI_le (by omega) (by omega)) h7
  | succ m ih =>
    intro k hk hQ
    simp only [Cpl] at hQ
    refine q_iload_n dX7_placeOf_2 rfl ?_
    refine q_aload_n dX7_placeOf_3 rfl ?_
    refine q_getI (lid i 2) 7 3 (vq_isL hi 2 (by decide) rfl) (by decide) rfl (by decide) f_X7_22 rfl dX7_placeOf_4 ?_
    refine q_icmp_ge 28 dX7_placeOf_7 (by decide) (fun h7 => ?_) (fun h7 => ?_)
    · exact absurd h7 (by rw [hz]; exact nI_ge (by omega) (by omega))
    · refine q_aload_n dX7_placeOf_10 rfl ?_
      refine q_getR (lid i 2) 7 0 (lid i 6) (vq_isL hi 2 (by decide) rfl) (by decide) rfl ((gr_lid i 2 0 (by decide)).trans rfl) (by decide) f_X7_11 rfl dX7_placeOf_11 ?_
      refine q_iload_n dX7_placeOf_14 rfl ?_
      refine q_iald (lid i 6) (k) hn (vq_isL hi 6 (by decide) rfl) rfl (by rw [gl_lid]; omega) dX7_placeOf_15 ?_
      refine q_iload_n dX7_placeOf_16 rfl ?_
      refine q_icmp_ne 22 dX7_placeOf_17 (by decide) (fun h17 => ?_) (fun h17 => ?_)
      · rw [if_neg h17] at hQ
        refine q_iinc [(2, _), (0, _), (1, _)] (nI (k + 1)) dX7_placeOf_22 rfl (nI_1 k) (by decide) rfl ?_
        refine q_goto 2 dX7_placeOf_25 (by decide) ?_
        exact ih (k + 1) (by omega) hQ
      · rw [if_pos h17] at hQ
        refine q_iload_n dX7_placeOf_20 rfl ?_
        exact q_iret dX7_placeOf_21 rfl (by omega) hQ
set_option maxHeartbeats 4000000 in
set_option maxRecDepth 100000 in
theorem c_placeOf (i z : Nat) (x : Int32) (hn : n < 2 ^ 31) (hi : i < n) (hz : I (lid i 2) 3 = nI z) (hzb : z ≤ 24) : VM l n m_X7_placeOf d 0 [.ref (lid i 2), .int x] I L (fun r I' L' => r = some (.int (Cpl (I (lid i 6)) x z 0)) ∧ I' = I ∧ L' = L) noX := by
  refine VM_of _ [(0, .ref (lid i 2)), (1, .int x)] rfl (fun a => Nat.le_of_ble_eq_true rfl) rfl ?_
  refine q_iconst (0) dX7_placeOf_0 (by decide) ?_
  refine q_istore_n [(2, _), (0, _), (1, _)] dX7_placeOf_1 (by decide) rfl ?_
  exact c_placeOf_lp l n d I L i z x hn hi hz hzb z 0 (by omega) ⟨rfl, rfl, rfl⟩
theorem abs_eq (x : Int32) : (if 0 ≤ x then x else 0 - x) = if x < 0 then -x else x := by
  by_cases h : x < 0
  · rw [if_pos h, if_neg (Int32.not_le.mpr h)]
    simp
  · rw [if_neg h, if_pos (Int32.not_lt.mp h)]
set_option maxHeartbeats 4000000 in
set_option maxRecDepth 100000 in
theorem c_choose {S J : MI} {T M : ML} {w nf fr : Nat} (h : CX n S T w nf fr J M I L) (hd : 1 ≤ d) : VM l n m_X5_choose d 0 [.ref 2] I L (fun r I' L' => r = some (.int (Fch n (S 30 22))) ∧ CX n (FchS S) T w nf fr J M I' L') noX := by
  refine VM_of _ [(0, .ref 2)] rfl (fun a => Nat.le_of_ble_eq_true rfl) rfl ?_
  have hn8 := h.2.1.1
  have hc : I 2 3 = S 30 22 := h.1.2.2.2.2.1.2.1
  have hn0 : ¬ nI n = 0 := nI_ne0 (by omega) (by omega)
  have hX := CX_ch h
  refine q_aload_n dX5_choose_0 rfl ?_
  refine q_getI 2 5 3 (is_2 n) (by decide) rfl (by decide) f_X5_25 rfl dX5_choose_1 ?_
  refine q_istore_n [(1, _), (0, _)] dX5_choose_4 (by decide) rfl ?_
  refine q_aload_n dX5_choose_5 rfl ?_
  refine q_getR 2 5 1 321 (is_2 n) (by decide) rfl rfl (by decide) f_X5_20 rfl dX5_choose_6 ?_
  refine q_alenI 321 (is_321 n) dX5_choose_9 ?_
  refine q_istore_n [(2, _), (1, _), (0, _)] dX5_choose_10 (by decide) rfl ?_
  refine q_aload_n dX5_choose_11 rfl ?_
  refine q_dup dX5_choose_12 rfl ?_
  refine q_getI 2 5 3 (is_2 n) (by decide) rfl (by decide) f_X5_25 rfl dX5_choose_13 ?_
  refine q_iconst (1) dX5_choose_16 (by decide) ?_
  refine q_iadd dX5_choose_17 ?_
  refine q_putI 2 5 3 (is_2 n) (by decide) rfl (by decide) rfl rfl f_X5_25 rfl dX5_choose_18 ?_
  refine q_iload_n dX5_choose_21 rfl ?_
  refine q_iload_n dX5_choose_22 rfl ?_
  refine q_iconst (1) dX5_choose_23 (by decide) ?_
  refine q_isub dX5_choose_24 ?_
  refine q_iand dX5_choose_25 ?_
  refine q_if_ne 37 dX5_choose_26 (by decide) (fun h26 => ?_) (fun h26 => ?_)
  · refine q_iload_n dX5_choose_37 rfl ?_
    refine q_iload_n dX5_choose_38 rfl ?_
    refine q_irem dX5_choose_39 (by simpa [gl_321] using hn0) ?_
    refine q_abs k_X5_29 rfl dX5_choose_40 hd (by decide) (by omega) ?_
    refine q_iret dX5_choose_43 rfl (by omega) ⟨?_, hX⟩
    rw [abs_eq, hc, gl_321]
    rw [gl_321] at h26
    unfold Fch
    rw [if_neg h26]
  · refine q_iload_n dX5_choose_29 rfl ?_
    refine q_iload_n dX5_choose_30 rfl ?_
    refine q_iconst (1) dX5_choose_31 (by decide) ?_
    refine q_isub dX5_choose_32 ?_
    refine q_iand dX5_choose_33 ?_
    refine q_goto 43 dX5_choose_34 (by decide) ?_
    refine q_iret dX5_choose_43 rfl (by omega) ⟨?_, hX⟩
    rw [hc, gl_321]
    rw [gl_321] at h26
    unfold Fch
    rw [if_pos h26]
end
end
section
theorem Fsch_comm {S : MI} {i : Nat} {t : Int32} : Fsch0 (Fbec S i 2) i t = Fbec (Fsch0 S i t) i 2 := by
  have e1 : N (upI S 208 i 2 30 41) = tr S := by simp [rdI, tr]
  have e2 : N (upI (Fsch0 S i t) 208 i 2 30 41) = tr S := by simp [Fsch0, rdI, tr]
  have e4 : Fbec S i 2 30 23 = S 30 23 := by simp [Fbec, Flog, Rlog, rdI]
  have l1 : Fbec S i 2 = upI (upI (upI (upI (upI S 208 i 2) 242 (tr S % 300) (nI i)) 243 (tr S % 300) 7) 244 (tr S % 300) 2) 30 41 (nI (tr S + 1)) := by
    unfold Fbec Flog Rlog
    rw [e1]
  have l2 : Fbec (Fsch0 S i t) i 2 = upI (upI (upI (upI (upI (Fsch0 S i t) 208 i 2) 242 (tr S % 300) (nI i)) 243 (tr S % 300) 7) 244 (tr S % 300) 2) 30 41 (nI (tr S + 1)) := by
    unfold Fbec Flog Rlog
    rw [e2]
  rw [l2]
  have l3 : Fsch0 (Fbec S i 2) i t = upI (upI (upI (Fbec S i 2) 224 (N (S 30 23)) t) 226 (N (S 30 23)) (nI i)) 30 23 (S 30 23 + 1) := by
    unfold Fsch0
    rw [e4]
  rw [l3, l1]
  unfold Fsch0
  funext a b
  simp only [rdI]
  by_cases ha : a = 30
  · subst ha
    by_cases hb : b = 23
    · subst hb; simp
    · simp [hb]
  · by_cases ha2 : a = 224
    · subst ha2; simp
    · by_cases ha3 : a = 226
      · subst ha3; simp
      · simp [ha, ha2, ha3]
theorem m1_lt0 : ¬ (0 : Int32) ≤ -1 := by decide
theorem le_nI (j : Nat) (h : j < 2 ^ 31) : (0 : Int32) ≤ nI j := nI_pos' h
section
variable (l : Launch) (n : Nat) (hn : n < 2 ^ 31) (d : Nat) (I : MI) (L : ML)
set_option maxHeartbeats 4000000 in
set_option maxRecDepth 100000 in
theorem c_dropTimer_lp {Q : vq_R} {S J : MI} {T M : ML} {w nf fr : Nat} (x : Int32) (hn : n < 2 ^ 31) (h : CX n S T w nf fr J M I L) (hd : 1 ≤ d)
    (hQ1 : ∀ i q z, i < n → Fcnt S i (N (S 30 23)) = z + 1 → q < z + 1 → I (lid i 6) q = x → Q (some (.int 1)) (Cmrem I i z q) (upL L (lid i 8) q (L (lid i 8) z)))
    (hQ0 : (∀ i, i < n → ∀ q, q < Fcnt S i (N (S 30 23)) → I (lid i 6) q ≠ x) → Q (some (.int 0)) I L) :
    ∀ m k, k + m = n → (∀ i, i < k → ∀ q, q < Fcnt S i (N (S 30 23)) → I (lid i 6) q ≠ x) → VP l n m_X5_dropTimer d 0 Q noX 0 2 [(2, .int (nI k)), (0, .ref 2), (1, .int x)] [] I L := by
  intro m
  induction m with
  | zero =>
    intro k hk hno
    refine q_iload_n dX5_dropTimer_2 rfl ?_
    refine q_aload_n dX5_dropTimer_3 rfl ?_
    refine q_getR 2 5 1 321 (is_2 n) (by decide) rfl rfl (by decide) f_X5_20 rfl dX5_dropTimer_4 ?_
    refine q_alenI 321 (is_321 n) dX5_dropTimer_7 ?_
    refine q_icmp_ge 51 dX5_dropTimer_8 (by decide) (fun h8 => ?_) (fun h8 => ?_)
    · refine q_iconst (0) dX5_dropTimer_51 (by decide) ?_
      refine q_zret dX5_dropTimer_52 rfl (by omega) (by decide) (hQ0 (fun i hi => hno i (by omega)))
    · exact absurd (by rw [gl_321]; exact nI_le (by omega) (by omega)) h8
  | succ m ih =>
    intro k hk hno
    have hkn : k < n := by omega
    have hm := (h.1.2.2.2.2.2 k hkn).2.1
    obtain ⟨m1, m2, m3, m4, m5⟩ := hm
    refine q_iload_n dX5_dropTimer_2 rfl ?_
    refine q_aload_n dX5_dropTimer_3 rfl ?_
    refine q_getR 2 5 1 321 (is_2 n) (by decide) rfl rfl (by decide) f_X5_20 rfl dX5_dropTimer_4 ?_
    refine q_alenI 321 (is_321 n) dX5_dropTimer_7 ?_
    refine q_icmp_ge 51 dX5_dropTimer_8 (by decide) (fun h8 => ?_) (fun h8 => ?_)
    · exact absurd h8 (by rw [gl_321]; exact nI_ge (by omega) (by omega))
    · refine q_aload_n dX5_dropTimer_11 rfl ?_
      refine q_getR 2 5 1 321 (is_2 n) (by decide) rfl rfl (by decide) f_X5_20 rfl dX5_dropTimer_12 ?_
      refine q_iload_n dX5_dropTimer_15 rfl ?_
      refine q_aald 321 (k) (lid (k) 0) hn (is_321 n) rfl hkn rfl dX5_dropTimer_16 ?_
      refine q_getR (lid k 0) 1 1 (lid k 2) (vq_isL hkn 0 (by decide) rfl) (by decide) rfl ((gr_lid k 0 1 (by decide)).trans rfl) (by decide) f_X5_62 rfl dX5_dropTimer_17 ?_
      refine q_iload_n dX5_dropTimer_20 rfl ?_
      refine q_calli [.int _] o_X7_placeOf rfl k_X5_78 rfl (vq_isL hkn 2 (by decide) rfl) (by decide) rfl dX5_dropTimer_21 (by decide) (by omega) (by decide) (by omega) (Or.inl rfl) (c_placeOf l n (d - 1) I L k (Fcnt S k (N (S 30 23))) x hn hkn m1 m2) (fun _ _ _ h => h.elim) (fun r1 I1 L1 hq => ?_)
      obtain ⟨e1, e2, e3⟩ := hq
      cases e1
      cases e2.symm
      cases e3.symm
      refine q_istore_n [(3, _), (2, _), (0, _), (1, _)] dX5_dropTimer_24 (by decide) rfl ?_
      refine q_iload_n dX5_dropTimer_25 rfl ?_
      refine q_iconst (-1) dX5_dropTimer_26 (by decide) ?_
      rcases Cpl_spec (I (lid k 6)) x (Fcnt S k (N (S 30 23))) 0 with ⟨q, a1, a2, a3, a4⟩ | ⟨a1, a2⟩
      · rw [a4]
        refine q_icmp_eq 45 dX5_dropTimer_27 (by decide) (fun h27 => ?_) (fun h27 => ?_)
        · exact absurd h27.symm (nI_ne_m1 (by omega))
        · refine q_aload_n dX5_dropTimer_30 rfl ?_
          refine q_getR 2 5 1 321 (is_2 n) (by decide) rfl rfl (by decide) f_X5_20 rfl dX5_dropTimer_31 ?_
          refine q_iload_n dX5_dropTimer_34 rfl ?_
          refine q_aald 321 (k) (lid (k) 0) hn (is_321 n) rfl hkn rfl dX5_dropTimer_35 ?_
          refine q_getR (lid k 0) 1 1 (lid k 2) (vq_isL hkn 0 (by decide) rfl) (by decide) rfl ((gr_lid k 0 1 (by decide)).trans rfl) (by decide) f_X5_62 rfl dX5_dropTimer_36 ?_
          refine q_iload_n dX5_dropTimer_39 rfl ?_
          obtain ⟨z, hz⟩ : ∃ z, Fcnt S k (N (S 30 23)) = z + 1 := ⟨Fcnt S k (N (S 30 23)) - 1, by omega⟩
          refine q_callv [.int _] o_X7_removeAt rfl k_X5_81 rfl (vq_isL hkn 2 (by decide) rfl) (by decide) rfl dX5_dropTimer_40 (by decide) (by omega) (by decide) (by omega) rfl (c_mrem l n (d - 1) I L k z q hn hkn (by rw [← hz]; exact m1) (by omega) (by omega)) (fun _ _ _ h => h.elim) (fun I2 L2 hq => ?_)
          obtain ⟨-, e2, e3⟩ := hq
          subst e2
          subst e3
          refine q_iconst (1) dX5_dropTimer_43 (by decide) ?_
          exact q_zret dX5_dropTimer_44 rfl (by omega) (by decide) (hQ1 k q z hkn hz (by omega) a3)
      · rw [a1]
        refine q_icmp_eq 45 dX5_dropTimer_27 (by decide) (fun h27 => ?_) (fun h27 => ?_)
        · refine q_iinc [(2, _), (3, _), (0, _), (1, _)] (nI (k + 1)) dX5_dropTimer_45 rfl (nI_1 k) (by decide) rfl ?_
          refine q_goto 2 dX5_dropTimer_48 (by decide) ?_
          refine q_lv [(2, .int (nI (k + 1))), (0, .ref 2), (1, .int x)] (by simp) ?_
          refine ih (k + 1) (by omega) (fun i hi q hq => ?_)
          by_cases e : i = k
          · subst e
            exact a2 q (by omega) (by omega)
          · exact hno i (by omega) q hq
        · exact absurd rfl h27
set_option maxHeartbeats 4000000 in
set_option maxRecDepth 100000 in
theorem c_dropTimer {S J : MI} {T M : ML} {w nf fr : Nat} (x : Int32) (hn : n < 2 ^ 31) (h : CX n S T w nf fr J M I L) (hd : 1 ≤ d) : VM l n m_X5_dropTimer d 0 [.ref 2, .int x] I L (fun r I' L' => r = some (.int (bI (0 ≤ x ∧ x < S 30 23 ∧ 0 ≤ S 226 (N x)))) ∧ CX n (if 0 ≤ x ∧ x < S 30 23 ∧ 0 ≤ S 226 (N x) then upI S 226 (N x) (-1) else S) T w nf fr J M I' L') noX := by
  refine VM_of _ [(0, .ref 2), (1, .int x)] rfl (fun a => Nat.le_of_ble_eq_true rfl) rfl ?_
  have hM := h.2.1.2.2.2.2.2.1
  have hn8 := h.2.1.1
  refine q_iconst (0) dX5_dropTimer_0 (by decide) ?_
  refine q_istore_n [(2, _), (0, _), (1, _)] dX5_dropTimer_1 (by decide) rfl ?_
  refine c_dropTimer_lp l n d I L x hn h hd (fun i q z hi hz hq hx => ?_) (fun hno => ?_) n 0 (by omega) (fun i hi => by omega)
  · obtain ⟨m1, m2, m3, m4, m5⟩ := (h.1.2.2.2.2.2 i hi).2.1
    obtain ⟨u1, u2, u3, u4⟩ := m3 q (by omega)
    rw [hx] at u1 u2
    have c1 : 0 ≤ x ∧ x < S 30 23 ∧ 0 ≤ S 226 (N x) := by
      refine ⟨by rw [u1.1]; exact le_nI _ (by have := u1.2; have := hM.1.2; omega), ?_, by rw [u2]; exact le_nI _ (by omega)⟩
      rw [u1.1, hM.1.1]
      exact nI_lt u1.2 (by have := hM.1.2; omega)
    rw [if_pos c1]
    refine ⟨by rw [bI_t c1], ?_⟩
    exact CX_drop h hi hz hq (hx.trans u1.1) (by have := u1.2; have := hM.1.2; omega)
  · have c0 : ¬ (0 ≤ x ∧ x < S 30 23 ∧ 0 ≤ S 226 (N x)) := by
      rintro ⟨c1, c2, c3⟩
      obtain ⟨j, hj, rfl⟩ := nI_of (Int32.not_lt.mpr c1)
      rw [N_nI hj] at c3
      rw [hM.1.1] at c2
      have hjm := (nI_ltI hj (by have := hM.1.2; omega)).mp c2
      rcases (hM.2 j hjm).2 with e | e
      · rw [e] at c3
        exact m1_lt0 c3
      · obtain ⟨m1, m2, m3, m4, m5⟩ := (h.1.2.2.2.2.2 _ e.2).2.1
        obtain ⟨q, hq, hq2⟩ := m5 j hjm e.1
        exact hno _ e.2 q hq hq2
    rw [if_neg c0]
    exact ⟨by rw [bI_f c0], h⟩
set_option maxHeartbeats 4000000 in
set_option maxRecDepth 100000 in
theorem c_targetOf {S J : MI} {T M : ML} {w nf fr : Nat} (th b : Int32) (h : CX n S T w nf fr J M I L) (hd : 2 ≤ d) : VM l n m_X4_targetOf d 0 [.ref 1, .int th, .int b] I L (fun r I' L' => r = some (.int (if b = -1 then th else if b = -2 then Fch n (S 30 22) else b)) ∧ CX n (FtgtS S b) T w nf fr J M I' L') noX := by
  refine VM_of _ [(0, .ref 1), (1, .int th), (2, .int b)] rfl (fun a => Nat.le_of_ble_eq_true rfl) rfl ?_
  refine q_iload_n dX4_targetOf_0 rfl ?_
  refine q_iconst (-1) dX4_targetOf_1 (by decide) ?_
  refine q_icmp_ne 7 dX4_targetOf_2 (by decide) (fun h2 => ?_) (fun h2 => ?_)
  · rw [if_neg h2]
    refine q_iload_n dX4_targetOf_7 rfl ?_
    refine q_bipush (-2) dX4_targetOf_8 (by decide) ?_
    refine q_icmp_ne 23 dX4_targetOf_10 (by decide) (fun h10 => ?_) (fun h10 => ?_)
    · rw [if_neg h10]
      unfold FtgtS
      rw [if_neg h10]
      refine q_iload_n dX4_targetOf_23 rfl ?_
      exact q_iret dX4_targetOf_24 rfl (by omega) ⟨rfl, h⟩
    · rw [if_pos h10]
      unfold FtgtS
      rw [if_pos h10]
      refine q_aload_n dX4_targetOf_13 rfl ?_
      refine q_getR 1 4 3 2 (is_1 n) (by decide) rfl rfl (by decide) f_X4_37 rfl dX4_targetOf_14 ?_
      refine q_calli [] o_X5_choose rfl k_X4_226 rfl (is_2 n) (by decide) rfl dX4_targetOf_17 (by decide) (by omega) (by decide) (by omega) (Or.inl rfl) (c_choose l n (d - 1) I L h (by omega)) (fun _ _ _ h => h.elim) (fun r1 I1 L1 hq => ?_)
      obtain ⟨e1, hX⟩ := hq
      cases e1
      refine q_goto 24 dX4_targetOf_20 (by decide) ?_
      exact q_iret dX4_targetOf_24 rfl (by omega) ⟨rfl, hX⟩
  · rw [if_pos h2]
    unfold FtgtS
    rw [if_neg (by rw [h2]; decide)]
    refine q_iload_n dX4_targetOf_5 rfl ?_
    exact q_iret dX4_targetOf_6 rfl (by omega) ⟨rfl, h⟩
end
end
section
theorem CX_cnt_sched {n w nf fr : Nat} {S I J : MI} {T L M : ML} (h : CX n S T w nf fr J M I L) : I 2 4 = S 30 23 := h.1.2.2.2.2.1.2.2
theorem nb400 {x : Int32} (h : nb x 400) : (400 ≤ x) = (x = 400) := by
  obtain ⟨h1, h2⟩ := h
  rw [h1, show (400 : Int32) = nI 400 from rfl, nI_leI (by omega) (by omega), eq_iff_iff, nI_eq (by omega) (by omega)]
  omega
theorem nI24 {z : Nat} (h : z ≤ 24) : ((24 : Int32) ≤ nI z) = (z = 24) := by
  rw [show (24 : Int32) = nI 24 from rfl, nI_leI (by omega) (by omega), eq_iff_iff]
  omega
theorem i32_3 {s : Int32} : (s < 3) = ¬ (2 < s) := by
  simp only [eq_iff_iff, Int32.lt_iff_toInt_lt, show (2 : Int32).toInt = 2 from rfl, show (3 : Int32).toInt = 3 from rfl]
  omega
theorem tr_bec {n : Nat} {S : MI} {i : Nat} {s : Int32} (h : Inv n S) (hb : tr S + 1 < 2 ^ 31) (hs : s = 1 ∨ s = 2 ∨ s = 3 ∨ s = 4 ∨ s = 5) : Inv n (Fbec S i s) ∧ tr (Fbec S i s) = tr S + 1 := by
  have e : tr (upI S 208 i s) = tr S := by simp [tr, rdI]
  have := Inv_log (nI i) 7 s (Inv_st (i := i) h hs) (by rw [e]; exact hb)
  rw [e] at this
  exact this
section
variable (l : Launch) (n : Nat) (hn : n < 2 ^ 31) (d : Nat) (I : MI) (L : ML)
set_option maxHeartbeats 4000000 in
set_option maxRecDepth 100000 in
theorem c_schedule {S J : MI} {T M : ML} {w nf fr : Nat} (tg : Nat) (th t dl : Int32) (hn : n < 2 ^ 31) (h : CX n S T w nf fr J M I L) (htg : tg < n) (ht : nbt t (N (S 30 3))) (hb : tr S + 2 < 2 ^ 31) (hd : 2 ≤ d) : VM l n m_X5_schedule d 0 [.ref 2, .int th, .int (nI tg), .int t, .int dl] I L (fun r I' L' => r = some (.int (if rejT S tg then -1 else S 30 23)) ∧ CX n (Fsch S th tg t) (TSch S T tg dl.toInt64) w nf fr J M I' L') noX := by
  refine VM_of _ [(0, .ref 2), (1, .int th), (2, .int (nI tg)), (3, .int t), (4, .int dl)] rfl (fun a => Nat.le_of_ble_eq_true rfl) rfl ?_
  have hst : I (lid tg 0) 2 = S 208 tg := (h.1.2.2.2.2.2 tg htg).2.2.1
  have hc := CX_cnt h
  have h23 := CX_cnt_sched h
  have hM := h.2.1.2.2.2.2.2.1.1
  obtain ⟨m1, m2, -⟩ := (h.1.2.2.2.2.2 tg htg).2.1
  have hck : L 2 2 = T 30 2 := h.1.2.2.2.2.1.1
  have REJ : ∀ lv, vq_lk lv 0 = some (.ref 2) → vq_lk lv 1 = some (.int th) → vq_lk lv 3 = some (.int t) → rejT S tg → VP l n m_X5_schedule d 0 (fun r I' L' => r = some (.int (if rejT S tg then -1 else S 30 23)) ∧ CX n (Fsch S th tg t) (TSch S T tg dl.toInt64) w nf fr J M I' L') noX 0 52 lv [] I L := by
    intro lv l0 l1 l3 hr
    refine q_aload_n dX5_schedule_52 l0 ?_
    refine q_getR 2 5 0 3 (is_2 n) (by decide) rfl rfl (by decide) f_X5_12 rfl dX5_schedule_53 ?_
    refine q_iload_n dX5_schedule_56 l1 ?_
    refine q_iconst 4 dX5_schedule_57 (by decide) ?_
    refine q_iload_n dX5_schedule_58 l3 ?_
    refine q_callv [.int _, .int _, .int _] o_X8_log rfl k_X5_48 rfl (is_3 n) (by decide) rfl dX5_schedule_59 (by decide) (by omega) (by decide) (by omega) rfl (c_log l n hn (d - 1) I L (tr S) th 4 t hc (by omega)) (fun _ _ _ h => h.elim) (fun I2 L2 hq => ?_)
    obtain ⟨-, e2, e3⟩ := hq
    subst e2
    cases e3.symm
    refine q_iconst (-1) dX5_schedule_62 (by decide) ?_
    refine q_iret dX5_schedule_63 rfl (by omega) ⟨by rw [if_pos hr], ?_⟩
    unfold Fsch TSch
    rw [if_pos hr, if_pos hr]
    exact CX_log th 4 t h (by omega)
  refine q_aload_n dX5_schedule_0 rfl ?_
  refine q_getR 2 5 1 321 (is_2 n) (by decide) rfl rfl (by decide) f_X5_20 rfl dX5_schedule_1 ?_
  refine q_iload_n dX5_schedule_4 rfl ?_
  refine q_aald 321 (tg) (lid (tg) 0) hn (is_321 n) rfl htg rfl dX5_schedule_5 ?_
  refine q_astore [(5, _), (0, _), (1, _), (2, _), (3, _), (4, _)] dX5_schedule_6 (by decide) rfl ?_
  refine q_aload_n dX5_schedule_8 rfl ?_
  refine q_getI 2 5 4 (is_2 n) (by decide) rfl (by decide) f_X5_59 rfl dX5_schedule_9 ?_
  refine q_sipush (400) dX5_schedule_12 (by decide) ?_
  rw [h23]
  refine q_icmp_ge 35 dX5_schedule_15 (by decide) (fun h15 => ?_) (fun h15 => ?_)
  · rw [nb400 hM] at h15
    refine q_iconst (0) dX5_schedule_35 (by decide) ?_
    refine q_istore [(6, _), (5, _), (0, _), (1, _), (2, _), (3, _), (4, _)] dX5_schedule_36 (by decide) rfl ?_
    refine q_iload dX5_schedule_38 rfl ?_
    refine q_if_eq 52 dX5_schedule_40 (by decide) (fun h40 => ?_) (fun h40 => ?_)
    · exact REJ _ rfl rfl rfl (Or.inr (Or.inl h15))
    · exact absurd rfl h40
  · rw [nb400 hM] at h15
    refine q_aload dX5_schedule_18 rfl ?_
    refine q_getR (lid tg 0) 1 1 (lid tg 2) (vq_isL htg 0 (by decide) rfl) (by decide) rfl ((gr_lid tg 0 1 (by decide)).trans rfl) (by decide) f_X5_62 rfl dX5_schedule_20 ?_
    refine q_getI (lid tg 2) 7 3 (vq_isL htg 2 (by decide) rfl) (by decide) rfl (by decide) f_X5_66 rfl dX5_schedule_23 ?_
    refine q_bipush (24) dX5_schedule_26 (by decide) ?_
    rw [m1]
    refine q_icmp_ge 35 dX5_schedule_28 (by decide) (fun h28 => ?_) (fun h28 => ?_)
    · rw [nI24 m2] at h28
      refine q_iconst (0) dX5_schedule_35 (by decide) ?_
      refine q_istore [(6, _), (5, _), (0, _), (1, _), (2, _), (3, _), (4, _)] dX5_schedule_36 (by decide) rfl ?_
      refine q_iload dX5_schedule_38 rfl ?_
      refine q_if_eq 52 dX5_schedule_40 (by decide) (fun h40 => ?_) (fun h40 => ?_)
      · exact REJ _ rfl rfl rfl (Or.inr (Or.inr h28))
      · exact absurd rfl h40
    · rw [nI24 m2] at h28
      refine q_iconst (1) dX5_schedule_31 (by decide) ?_
      refine q_goto 36 dX5_schedule_32 (by decide) ?_
      refine q_istore [(6, _), (5, _), (0, _), (1, _), (2, _), (3, _), (4, _)] dX5_schedule_36 (by decide) rfl ?_
      refine q_iload dX5_schedule_38 rfl ?_
      refine q_if_eq 52 dX5_schedule_40 (by decide) (fun h40 => ?_) (fun h40 => ?_)
      · exact absurd h40 (by decide)
      · refine q_aload dX5_schedule_43 rfl ?_
        refine q_getI (lid tg 0) 1 2 (vq_isL htg 0 (by decide) rfl) (by decide) rfl (by decide) f_X5_35 rfl dX5_schedule_45 ?_
        refine q_iconst (3) dX5_schedule_48 (by decide) ?_
        rw [hst]
        refine q_icmp_lt 64 dX5_schedule_49 (by decide) (fun h49 => ?_) (fun h49 => ?_)
        · rw [i32_3] at h49
          have hr : ¬ rejT S tg := fun q => q.elim h49 (fun q => q.elim h15 h28)
          have h400 : N (S 30 23) < 400 := by
            rcases Nat.lt_or_ge (N (S 30 23)) 400 with q | q
            · exact q
            · exact absurd (by rw [hM.1, show N (S 30 23) = 400 by have := hM.2; omega]; rfl) h15
          unfold Fsch TSch
          rw [if_neg hr, if_neg hr, if_neg hr]
          refine q_aload dX5_schedule_64 rfl ?_
          refine q_getI (lid tg 0) 1 2 (vq_isL htg 0 (by decide) rfl) (by decide) rfl (by decide) f_X5_35 rfl dX5_schedule_66 ?_
          refine q_iconst (1) dX5_schedule_69 (by decide) ?_
          rw [hst]
          refine q_icmp_ne 79 dX5_schedule_70 (by decide) (fun h70 => ?_) (fun h70 => ?_)
          · rw [if_neg h70]
            have hX := CX_tadd (dl := T 30 2 + dl.toInt64) h htg h400 ht rfl (by omega)
            refine q_aload_n dX5_schedule_79 rfl ?_
            refine q_getI 2 5 4 (is_2 n) (by decide) rfl (by decide) f_X5_59 rfl dX5_schedule_80 ?_
            refine q_istore [(7, _), (6, _), (5, _), (0, _), (1, _), (2, _), (3, _), (4, _)] dX5_schedule_83 (by decide) rfl ?_
            refine q_aload_n dX5_schedule_85 rfl ?_
            refine q_dup dX5_schedule_86 rfl ?_
            refine q_getI 2 5 4 (is_2 n) (by decide) rfl (by decide) f_X5_59 rfl dX5_schedule_87 ?_
            refine q_iconst (1) dX5_schedule_90 (by decide) ?_
            refine q_iadd dX5_schedule_91 ?_
            refine q_putI 2 5 4 (is_2 n) (by decide) rfl (by decide) rfl rfl f_X5_59 rfl dX5_schedule_92 ?_
            refine q_aload dX5_schedule_95 rfl ?_
            refine q_getR (lid tg 0) 1 1 (lid tg 2) (vq_isL htg 0 (by decide) rfl) (by decide) rfl ((gr_lid tg 0 1 (by decide)).trans rfl) (by decide) f_X5_62 rfl dX5_schedule_97 ?_
            refine q_iload dX5_schedule_100 rfl ?_
            refine q_iload_n dX5_schedule_102 rfl ?_
            refine q_aload_n dX5_schedule_103 rfl ?_
            refine q_getL 2 5 2 (is_2 n) (by decide) rfl (by decide) f_X5_71 rfl dX5_schedule_104 ?_
            refine q_iload dX5_schedule_107 rfl ?_
            refine q_i2l dX5_schedule_109 ?_
            refine q_ladd dX5_schedule_110 ?_
            refine q_callv [.int _, .int _, .long _] o_X7_put rfl k_X5_75 rfl (vq_isL htg 2 (by decide) rfl) (by decide) rfl dX5_schedule_111 (by decide) (by omega) (by decide) (by omega) rfl (c_mput l n (d - 1) _ L tg (Fcnt S tg (N (S 30 23))) (I 2 4) t (L 2 2 + dl.toInt64) hn htg (by simpa [rdI, lid_ne] using m1) (by omega)) (fun _ _ _ h => h.elim) (fun I2 L2 hq => ?_)
            obtain ⟨-, e2, e3⟩ := hq
            subst e2
            subst e3
            rw [hck]
            have hb2 : tr (Fsch0 S tg t) = tr S := by simp [tr, Fsch0, rdI]
            refine q_aload_n dX5_schedule_114 rfl ?_
            refine q_getR 2 5 0 3 (is_2 n) (by decide) rfl rfl (by decide) f_X5_12 rfl dX5_schedule_115 ?_
            refine q_iload_n dX5_schedule_118 rfl ?_
            refine q_bipush (9) dX5_schedule_119 (by decide) ?_
            refine q_iload dX5_schedule_121 rfl ?_
            refine q_callv [.int _, .int _, .int _] o_X8_log rfl k_X5_48 rfl (is_3 n) (by decide) rfl dX5_schedule_123 (by decide) (by omega) (by decide) (by omega) rfl (c_log l n hn (d - 1) _ _ (tr S) th 9 (I 2 4) (by simpa [Cmput, rdI, ne_lid] using hc) (by omega)) (fun _ _ _ h => h.elim) (fun I3 L3 hq => ?_)
            obtain ⟨-, e2, e3⟩ := hq
            subst e2
            subst e3
            refine q_iload dX5_schedule_126 rfl ?_
            refine q_iret dX5_schedule_128 rfl (by omega) ⟨by rw [h23], ?_⟩
            have := CX_log th 9 (I 2 4) hX (by rw [hb2]; omega)
            rw [hb2] at this
            simp only [h23] at this ⊢
            exact this
          · rw [if_pos h70]
            have h9 := (CX_bec (i := tg) (s := 2) h (by omega) (by decide) (fun q => absurd q (by decide)))
            have f23 : Fbec S tg 2 30 23 = S 30 23 := by simp [Fbec, Flog, Rlog, rdI]
            have f3 : Fbec S tg 2 30 3 = S 30 3 := by simp [Fbec, Flog, Rlog, rdI]
            have f226 : Fbec S tg 2 226 = S 226 := by simp [Fbec, Flog, Rlog, upI_ne]
            have hX := CX_tadd (i := tg) (t := t) (dl := T 30 2 + dl.toInt64) h9.1 htg (by rw [f23]; exact h400) (by rw [f3]; exact ht) rfl (by rw [f23, Fcnt_cong f226]; omega)
            rw [f23, Fcnt_cong f226, Fsch_comm] at hX
            have hb2 : tr (Fbec (Fsch0 S tg t) tg 2) = tr S + 1 := by
              rw [← Fsch_comm]
              have : tr (Fsch0 (Fbec S tg 2) tg t) = tr (Fbec S tg 2) := by simp [tr, Fsch0, rdI]
              rw [this, h9.2]
            refine q_aload_n dX5_schedule_73 rfl ?_
            refine q_iload_n dX5_schedule_74 rfl ?_
            refine q_iconst (2) dX5_schedule_75 (by decide) ?_
            refine q_callv [.int _, .int _] o_X5_become rfl k_X5_52 rfl (is_2 n) (by decide) rfl dX5_schedule_76 (by decide) (by omega) (by decide) (by omega) rfl (c_become l n (d - 1) I L tg (tr S) 2 hn htg hc (by omega) (by omega)) (fun _ _ _ h => h.elim) (fun I2 L2 hq => ?_)
            obtain ⟨-, e2, e3⟩ := hq
            subst e2
            cases e3.symm
            have g1 : Cbec I (tr S) tg 2 2 4 = I 2 4 := by simp [Cbec, Clog, rdI, ne_lid]
            have g2 : Cbec I (tr S) tg 2 (lid tg 2) 3 = nI (Fcnt S tg (N (S 30 23))) := by simpa [Cbec, Clog, rdI, lid_ne, lid_eq] using m1
            have g3 : Cbec I (tr S) tg 2 3 1 = nI (tr S + 1) := by simp [Cbec, Clog, rdI]
            rw [g1] at hX
            generalize Cbec I (tr S) tg 2 = I2 at *
            refine q_aload_n dX5_schedule_79 rfl ?_
            refine q_getI 2 5 4 (is_2 n) (by decide) rfl (by decide) f_X5_59 rfl dX5_schedule_80 ?_
            refine q_istore [(7, _), (6, _), (5, _), (0, _), (1, _), (2, _), (3, _), (4, _)] dX5_schedule_83 (by decide) rfl ?_
            refine q_aload_n dX5_schedule_85 rfl ?_
            refine q_dup dX5_schedule_86 rfl ?_
            refine q_getI 2 5 4 (is_2 n) (by decide) rfl (by decide) f_X5_59 rfl dX5_schedule_87 ?_
            refine q_iconst (1) dX5_schedule_90 (by decide) ?_
            refine q_iadd dX5_schedule_91 ?_
            refine q_putI 2 5 4 (is_2 n) (by decide) rfl (by decide) rfl rfl f_X5_59 rfl dX5_schedule_92 ?_
            refine q_aload dX5_schedule_95 rfl ?_
            refine q_getR (lid tg 0) 1 1 (lid tg 2) (vq_isL htg 0 (by decide) rfl) (by decide) rfl ((gr_lid tg 0 1 (by decide)).trans rfl) (by decide) f_X5_62 rfl dX5_schedule_97 ?_
            refine q_iload dX5_schedule_100 rfl ?_
            refine q_iload_n dX5_schedule_102 rfl ?_
            refine q_aload_n dX5_schedule_103 rfl ?_
            refine q_getL 2 5 2 (is_2 n) (by decide) rfl (by decide) f_X5_71 rfl dX5_schedule_104 ?_
            refine q_iload dX5_schedule_107 rfl ?_
            refine q_i2l dX5_schedule_109 ?_
            refine q_ladd dX5_schedule_110 ?_
            rw [g1]
            refine q_callv [.int _, .int _, .long _] o_X7_put rfl k_X5_75 rfl (vq_isL htg 2 (by decide) rfl) (by decide) rfl dX5_schedule_111 (by decide) (by omega) (by decide) (by omega) rfl (c_mput l n (d - 1) _ L tg (Fcnt S tg (N (S 30 23))) (I 2 4) t (L 2 2 + dl.toInt64) hn htg (by simpa [rdI, lid_ne] using g2) (by omega)) (fun _ _ _ h => h.elim) (fun I3 L3 hq => ?_)
            obtain ⟨-, e2, e3⟩ := hq
            subst e2
            subst e3
            rw [hck]
            refine q_aload_n dX5_schedule_114 rfl ?_
            refine q_getR 2 5 0 3 (is_2 n) (by decide) rfl rfl (by decide) f_X5_12 rfl dX5_schedule_115 ?_
            refine q_iload_n dX5_schedule_118 rfl ?_
            refine q_bipush (9) dX5_schedule_119 (by decide) ?_
            refine q_iload dX5_schedule_121 rfl ?_
            refine q_callv [.int _, .int _, .int _] o_X8_log rfl k_X5_48 rfl (is_3 n) (by decide) rfl dX5_schedule_123 (by decide) (by omega) (by decide) (by omega) rfl (c_log l n hn (d - 1) _ _ (tr S + 1) th 9 (I 2 4) (by simpa [Cmput, rdI, ne_lid] using g3) (by omega)) (fun _ _ _ h => h.elim) (fun I4 L4 hq => ?_)
            obtain ⟨-, e2, e3⟩ := hq
            subst e2
            subst e3
            refine q_iload dX5_schedule_126 rfl ?_
            refine q_iret dX5_schedule_128 rfl (by omega) ⟨by rw [h23], ?_⟩
            have := CX_log th 9 (I 2 4) hX (by rw [hb2]; omega)
            rw [hb2] at this
            simp only [h23] at this ⊢
            exact this
        · rw [i32_3, Decidable.not_not] at h49
          exact REJ _ rfl rfl rfl (Or.inl h49)
set_option maxHeartbeats 4000000 in
set_option maxRecDepth 100000 in
theorem c_shutAll_lp {Q : vq_R} {S J : MI} {T M : ML} {w nf fr : Nat} (q t : Int32) (hn : n < 2 ^ 31) (hb : tr S + 8 < 2 ^ 31) (hn8 : n ≤ 8) (hd : 2 ≤ d)
    (hQ : ∀ I' L', CX n (Fshut S n) (TShut S T q.toInt64 t.toInt64 n) w nf fr J M I' L' → Q none I' L') :
    ∀ m k, k + m = n → ∀ I L, CX n (Fshut S k) (TShut S T q.toInt64 t.toInt64 k) w nf fr J M I L → tr (Fshut S k) ≤ tr S + k → TShut S T q.toInt64 t.toInt64 k 30 2 = T 30 2 → VP l n m_X5_shutAll d 0 Q noX 0 2 [(3, .int (nI k)), (0, .ref 2), (1, .int q), (2, .int t)] [] I L := by
  intro m
  induction m with
  | zero =>
    intro k hk I L h htr hck
    refine q_iload_n dX5_shutAll_2 rfl ?_
    refine q_aload_n dX5_shutAll_3 rfl ?_
    refine q_getR 2 5 1 321 (is_2 n) (by decide) rfl rfl (by decide) f_X5_20 rfl dX5_shutAll_4 ?_
    refine q_alenI 321 (is_321 n) dX5_shutAll_7 ?_
    refine q_icmp_ge 70 dX5_shutAll_8 (by decide) (fun h8 => ?_) (fun h8 => ?_)
    · refine q_vret dX5_shutAll_70 rfl (by omega) (hQ _ _ ?_)
      have : k = n := by omega
      subst this
      exact h
    · exact absurd (by rw [gl_321]; exact nI_le (by omega) (by omega)) h8
  | succ m ih =>
    intro k hk I L h htr hck
    have hkn : k < n := by omega
    have hst : I (lid k 0) 2 = Fshut S k 208 k := (h.1.2.2.2.2.2 k hkn).2.2.1
    have hc := CX_cnt h
    have hcl : L 2 2 = T 30 2 := h.1.2.2.2.2.1.1.trans hck
    refine q_iload_n dX5_shutAll_2 rfl ?_
    refine q_aload_n dX5_shutAll_3 rfl ?_
    refine q_getR 2 5 1 321 (is_2 n) (by decide) rfl rfl (by decide) f_X5_20 rfl dX5_shutAll_4 ?_
    refine q_alenI 321 (is_321 n) dX5_shutAll_7 ?_
    refine q_icmp_ge 70 dX5_shutAll_8 (by decide) (fun h8 => ?_) (fun h8 => ?_)
    · exact absurd h8 (by rw [gl_321]; exact nI_ge (by omega) (by omega))
    · refine q_aload_n dX5_shutAll_11 rfl ?_
      refine q_getR 2 5 1 321 (is_2 n) (by decide) rfl rfl (by decide) f_X5_20 rfl dX5_shutAll_12 ?_
      refine q_iload_n dX5_shutAll_15 rfl ?_
      refine q_aald 321 (k) (lid (k) 0) hn (is_321 n) rfl hkn rfl dX5_shutAll_16 ?_
      refine q_astore [(4, _), (3, _), (0, _), (1, _), (2, _)] dX5_shutAll_17 (by decide) rfl ?_
      refine q_aload dX5_shutAll_19 rfl ?_
      refine q_getI (lid k 0) 1 2 (vq_isL hkn 0 (by decide) rfl) (by decide) rfl (by decide) f_X5_35 rfl dX5_shutAll_21 ?_
      refine q_iconst (3) dX5_shutAll_24 (by decide) ?_
      rw [hst]
      refine q_icmp_ge 64 dX5_shutAll_25 (by decide) (fun h25 => ?_) (fun h25 => ?_)
      · have e1 : ¬ Fshut S k 208 k < 3 := Int32.not_lt.mpr h25
        refine q_iinc [(3, _), (4, _), (0, _), (1, _), (2, _)] (nI (k + 1)) dX5_shutAll_64 rfl (nI_1 k) (by decide) rfl ?_
        refine q_goto 2 dX5_shutAll_67 (by decide) ?_
        refine q_lv [(3, .int (nI (k + 1))), (0, .ref 2), (1, .int q), (2, .int t)] (by simp) ?_
        have a1 : Fshut S (k + 1) = Fshut S k := by simp only [Fshut]; rw [if_neg e1]
        have a2 : TShut S T q.toInt64 t.toInt64 (k + 1) = TShut S T q.toInt64 t.toInt64 k := by simp only [TShut]; rw [if_neg e1]
        refine ih (k + 1) (by omega) I L ?_ ?_ ?_
        · rw [a1, a2]; exact h
        · rw [a1]; omega
        · rw [a2]; exact hck
      · have e1 : Fshut S k 208 k < 3 := Int32.not_le.mp h25
        have hX := CX_qt (i := k) q t (T 30 2) h e1
        have hY := CX_bec (i := k) (s := 3) hX (by omega) (by decide) (fun _ => by simp [Cqt, CqtL, Tqt, rdI, rdL])
        refine q_aload dX5_shutAll_28 rfl ?_
        refine q_iload_n dX5_shutAll_30 rfl ?_
        refine q_putI (lid k 0) 1 7 (vq_isL hkn 0 (by decide) rfl) (by decide) rfl (by decide) rfl rfl f_X5_101 rfl dX5_shutAll_31 ?_
        refine q_aload dX5_shutAll_34 rfl ?_
        refine q_iload_n dX5_shutAll_36 rfl ?_
        refine q_putI (lid k 0) 1 8 (vq_isL hkn 0 (by decide) rfl) (by decide) rfl (by decide) rfl rfl f_X5_104 rfl dX5_shutAll_37 ?_
        refine q_aload dX5_shutAll_40 rfl ?_
        refine q_aload_n dX5_shutAll_42 rfl ?_
        refine q_getL 2 5 2 (is_2 n) (by decide) rfl (by decide) f_X5_71 rfl dX5_shutAll_43 ?_
        refine q_putL (lid k 0) 1 9 (vq_isL hkn 0 (by decide) rfl) (by decide) rfl (by decide) rfl rfl f_X5_107 rfl dX5_shutAll_46 ?_
        refine q_aload dX5_shutAll_49 rfl ?_
        refine q_aload_n dX5_shutAll_51 rfl ?_
        refine q_getL 2 5 2 (is_2 n) (by decide) rfl (by decide) f_X5_71 rfl dX5_shutAll_52 ?_
        refine q_putL (lid k 0) 1 10 (vq_isL hkn 0 (by decide) rfl) (by decide) rfl (by decide) rfl rfl f_X5_110 rfl dX5_shutAll_55 ?_
        refine q_aload_n dX5_shutAll_58 rfl ?_
        refine q_iload_n dX5_shutAll_59 rfl ?_
        refine q_iconst (3) dX5_shutAll_60 (by decide) ?_
        have g1 : ∀ (L9 : ML), upL L (lid k 0) 9 (L 2 2) 2 2 = L 2 2 := fun _ => by simp [rdL, ne_lid]
        rw [g1 L, hcl]
        refine q_callv [.int _, .int _] o_X5_become rfl k_X5_52 rfl (is_2 n) (by decide) rfl dX5_shutAll_61 (by decide) (by omega) (by decide) (by omega) rfl (c_become l n (d - 1) _ _ k (tr (Fshut S k)) 3 hn hkn (by simpa [rdI, ne_lid] using hc) (by omega) (by omega)) (fun _ _ _ h => h.elim) (fun I2 L2 hq => ?_)
        obtain ⟨-, e2, e3⟩ := hq
        subst e2
        subst e3
        refine q_iinc [(3, _), (4, _), (0, _), (1, _), (2, _)] (nI (k + 1)) dX5_shutAll_64 rfl (nI_1 k) (by decide) rfl ?_
        refine q_goto 2 dX5_shutAll_67 (by decide) ?_
        refine q_lv [(3, .int (nI (k + 1))), (0, .ref 2), (1, .int q), (2, .int t)] (by simp) ?_
        have a1 : Fshut S (k + 1) = Fbec (Fshut S k) k 3 := by simp only [Fshut]; rw [if_pos e1]
        have a2 : TShut S T q.toInt64 t.toInt64 (k + 1) = Tqt (TShut S T q.toInt64 t.toInt64 k) k q.toInt64 t.toInt64 (T 30 2) := by simp only [TShut]; rw [if_pos e1]; rfl
        refine ih (k + 1) (by omega) _ _ ?_ ?_ ?_
        · rw [a1, a2]; exact hY.1
        · rw [a1, hY.2]; omega
        · rw [a2]; simpa [Tqt, rdL] using hck
set_option maxHeartbeats 4000000 in
set_option maxRecDepth 100000 in
theorem c_shutAll {S J : MI} {T M : ML} {w nf fr : Nat} (q t : Int32) (hn : n < 2 ^ 31) (h : CX n S T w nf fr J M I L) (hb : tr S + 8 < 2 ^ 31) (hd : 2 ≤ d) : VM l n m_X5_shutAll d 0 [.ref 2, .int q, .int t] I L (fun r I' L' => r = none ∧ CX n (Fshut S n) (TShut S T q.toInt64 t.toInt64 n) w nf fr J M I' L') noX := by
  refine VM_of _ [(0, .ref 2), (1, .int q), (2, .int t)] rfl (fun a => Nat.le_of_ble_eq_true rfl) rfl ?_
  have hn8 := h.2.1.1
  refine q_iconst (0) dX5_shutAll_0 (by decide) ?_
  refine q_istore_n [(3, _), (0, _), (1, _), (2, _)] dX5_shutAll_1 (by decide) rfl ?_
  exact c_shutAll_lp l n d q t hn hb hn8.2 hd (fun I' L' h' => ⟨rfl, h'⟩) n 0 (by omega) I L h (by exact Nat.le_refl _) rfl
/-- a loop that confirms its end -/
abbrev okC (S : MI) (T : ML) (i : Nat) : Prop := S 208 i = 3 ∧ (T 218 i = 0 ∨ T 219 i < T 30 2 - T 220 i ∨ T 218 i < T 30 2 - T 221 i)
theorem i64_0 (x : Int32) : (x.toInt64 = 0) = (x = 0) := by
  rw [eq_iff_iff]
  constructor
  · intro h
    have := congrArg Int64.toInt h
    rw [Int32.toInt_toInt64] at this
    exact Int32.toInt_inj.mp (by rw [this]; rfl)
  · intro h
    subst h
    rfl
set_option maxHeartbeats 4000000 in
set_option maxRecDepth 100000 in
theorem c_confirm {S J : MI} {T M : ML} {w nf fr : Nat} (i : Nat) (hn : n < 2 ^ 31) (h : CX n S T w nf fr J M I L) (hi : i < n) (hb : tr S + 2 < 2 ^ 31) (hd : 2 ≤ d) : VM l n m_X5_confirm d 0 [.ref 2, .int (nI i)] I L (fun r I' L' => r = some (.int (bI (okC S T i))) ∧ CX n (if okC S T i then Fbec (Fbec S i 4) i 5 else S) T w nf fr J M I' L') noX := by
  refine VM_of _ [(0, .ref 2), (1, .int (nI i))] rfl (fun a => Nat.le_of_ble_eq_true rfl) rfl ?_
  have hcl := (h.1.2.2.2.2.2 i hi).2.2
  have hst : I (lid i 0) 2 = S 208 i := hcl.1
  have hc := CX_cnt h
  have hck : L 2 2 = T 30 2 := h.1.2.2.2.2.1.1
  refine q_aload_n dX5_confirm_0 rfl ?_
  refine q_getR 2 5 1 321 (is_2 n) (by decide) rfl rfl (by decide) f_X5_20 rfl dX5_confirm_1 ?_
  refine q_iload_n dX5_confirm_4 rfl ?_
  refine q_aald 321 (i) (lid (i) 0) hn (is_321 n) rfl hi rfl dX5_confirm_5 ?_
  refine q_astore_n [(2, _), (0, _), (1, _)] dX5_confirm_6 (by decide) rfl ?_
  refine q_aload_n dX5_confirm_7 rfl ?_
  refine q_getI (lid i 0) 1 2 (vq_isL hi 0 (by decide) rfl) (by decide) rfl (by decide) f_X5_35 rfl dX5_confirm_8 ?_
  refine q_iconst (3) dX5_confirm_11 (by decide) ?_
  rw [hst]
  refine q_icmp_ne 26 dX5_confirm_12 (by decide) (fun h12 => ?_) (fun h12 => ?_)
  · refine q_iconst (0) dX5_confirm_26 (by decide) ?_
    refine q_zret dX5_confirm_27 rfl (by omega) (by decide) ?_
    have : ¬ okC S T i := fun q => h12 q.1
    rw [if_neg this]
    exact ⟨by rw [bI_f this], h⟩
  · obtain ⟨b1, b2, b3, b4⟩ := hcl.2.2.2.2 (by rw [h12]; decide)
    refine q_aload_n dX5_confirm_15 rfl ?_
    refine q_aload_n dX5_confirm_16 rfl ?_
    refine q_getL 2 5 2 (is_2 n) (by decide) rfl (by decide) f_X5_71 rfl dX5_confirm_17 ?_
    refine q_calli [.long _] o_X1_isQuiet rfl k_X5_113 rfl (vq_isL hi 0 (by decide) rfl) (by decide) rfl dX5_confirm_20 (by decide) (by omega) (by decide) (by omega) (Or.inr rfl) (c_isQuiet l n (d - 1) I L i (L 2 2) hi) (fun _ _ _ h => h.elim) (fun r1 I1 L1 hq => ?_)
    obtain ⟨e1, e2, e3⟩ := hq
    cases e1
    cases e2.symm
    cases e3.symm
    have hiff : (I (lid i 0) 7 = 0 ∨ (I (lid i 0) 8).toInt64 < L 2 2 - L (lid i 0) 9 ∨ (I (lid i 0) 7).toInt64 < L 2 2 - L (lid i 0) 10) ↔ okC S T i := by
      unfold okC
      rw [← b1, ← b2, ← b3, ← b4, hck, i64_0]
      exact ⟨fun q => ⟨h12, q⟩, fun q => q.2⟩
    refine q_if_ne 28 dX5_confirm_23 (by decide) (fun h23 => ?_) (fun h23 => ?_)
    · have h9 : okC S T i := hiff.mp (by rw [ne_eq, bI_z, Decidable.not_not] at h23; exact h23)
      have hY := CX_bec (i := i) (s := 4) h (by omega) (by decide) (fun _ => ⟨b1, b2, b3, b4⟩)
      have hZ := CX_bec (i := i) (s := 5) hY.1 (by rw [hY.2]; omega) (by decide) (fun _ => by simpa [Cbec, Clog, rdI, lid_ne, lid_eq] using (⟨b1, b2, b3, b4⟩ : _ ∧ _ ∧ _ ∧ _))
      rw [hY.2] at hZ
      refine q_aload_n dX5_confirm_28 rfl ?_
      refine q_iload_n dX5_confirm_29 rfl ?_
      refine q_iconst (4) dX5_confirm_30 (by decide) ?_
      refine q_callv [.int _, .int _] o_X5_become rfl k_X5_52 rfl (is_2 n) (by decide) rfl dX5_confirm_31 (by decide) (by omega) (by decide) (by omega) rfl (c_become l n (d - 1) I L i (tr S) 4 hn hi hc (by omega) (by omega)) (fun _ _ _ h => h.elim) (fun I2 L2 hq => ?_)
      obtain ⟨-, e2, e3⟩ := hq
      subst e2
      cases e3.symm
      refine q_aload_n dX5_confirm_34 rfl ?_
      refine q_iload_n dX5_confirm_35 rfl ?_
      refine q_iconst (5) dX5_confirm_36 (by decide) ?_
      refine q_callv [.int _, .int _] o_X5_become rfl k_X5_52 rfl (is_2 n) (by decide) rfl dX5_confirm_37 (by decide) (by omega) (by decide) (by omega) rfl (c_become l n (d - 1) _ L i (tr S + 1) 5 hn hi (by simp [Cbec, Clog, rdI]) (by omega) (by omega)) (fun _ _ _ h => h.elim) (fun I3 L3 hq => ?_)
      obtain ⟨-, e2, e3⟩ := hq
      subst e2
      cases e3.symm
      refine q_iconst (1) dX5_confirm_40 (by decide) ?_
      refine q_zret dX5_confirm_41 rfl (by omega) (by decide) ?_
      rw [if_pos h9]
      exact ⟨by rw [bI_t h9], hZ.1⟩
    · have h9 : ¬ okC S T i := fun q => by rw [bI_z] at h23; exact h23 (hiff.mpr q)
      refine q_iconst (0) dX5_confirm_26 (by decide) ?_
      refine q_zret dX5_confirm_27 rfl (by omega) (by decide) ?_
      rw [if_neg h9]
      exact ⟨by rw [bI_f h9], h⟩
end
end
section
/-! ===== timers that are due ===== -/
abbrev befo (dl : Nat → Int64) (nu : Nat → Int32) (k b : Nat) : Prop := if dl k = dl b then nu k < nu b else dl k < dl b
def Cfd (dl : Nat → Int64) (nu : Nat → Int32) (c : Int64) : Nat → Nat → Int32 → Int32
  | 0, _, b => b
  | m + 1, k, b => if dl k ≤ c ∧ (b = -1 ∨ befo dl nu k (N b)) then Cfd dl nu c m (k + 1) (nI k) else Cfd dl nu c m (k + 1) b
theorem i64_tri {a b : Int64} (h : ¬ a = b) (h2 : ¬ a < b) : b < a := by
  rcases Int64.lt_or_le b a with q | q
  · exact q
  · rcases Int64.le_iff_lt_or_eq.mp q with q | q
    · exact absurd q h2
    · exact absurd q h
theorem i32_tri {a b : Int32} (h : ¬ a = b) (h2 : ¬ a < b) : b < a := by
  rcases Int32.lt_or_le b a with q | q
  · exact q
  · rcases Int32.le_iff_lt_or_eq.mp q with q | q
    · exact absurd q h2
    · exact absurd q h
theorem befo_tr {dl : Nat → Int64} {nu : Nat → Int32} {a b c : Nat} (h1 : befo dl nu a b) (h2 : befo dl nu b c) : befo dl nu a c := by
  unfold befo at *
  by_cases e1 : dl a = dl b
  · rw [if_pos e1] at h1
    by_cases e2 : dl b = dl c
    · rw [if_pos e2] at h2
      rw [if_pos (e1.trans e2)]
      exact Int32.lt_trans h1 h2
    · rw [if_neg e2] at h2
      rw [if_neg (by rw [e1]; exact e2), e1]
      exact h2
  · rw [if_neg e1] at h1
    by_cases e2 : dl b = dl c
    · rw [if_pos e2] at h2
      rw [if_neg (by rw [← e2]; exact e1), ← e2]
      exact h1
    · rw [if_neg e2] at h2
      have h3 := Int64.lt_trans h1 h2
      rw [if_neg (fun e => by rw [e] at h3; exact Int64.lt_irrefl h3)]
      exact h3
theorem befo_no {dl : Nat → Int64} {nu : Nat → Int32} {a b : Nat} (hne : nu a ≠ nu b) (h : ¬ befo dl nu a b) : befo dl nu b a := by
  unfold befo at *
  by_cases e : dl a = dl b
  · rw [if_pos e] at h
    rw [if_pos e.symm]
    exact i32_tri hne h
  · rw [if_neg e] at h
    rw [if_neg (fun q => e q.symm)]
    exact i64_tri e h
/-- what the search knows: b is none of those that are due below k, or the first of them -/
def okB (dl : Nat → Int64) (nu : Nat → Int32) (c : Int64) (k : Nat) (b : Int32) : Prop := (b = -1 ∧ ∀ q, q < k → ¬ dl q ≤ c) ∨ ∃ j, j < k ∧ b = nI j ∧ dl j ≤ c ∧ ∀ q, q < k → dl q ≤ c → q = j ∨ befo dl nu j q
theorem okB_step {dl : Nat → Int64} {nu : Nat → Int32} {c : Int64} {k : Nat} {b : Int32} (h : okB dl nu c k b) (hk : k < 2 ^ 31) (hi : ∀ q, q < k → nu q ≠ nu k) : okB dl nu c (k + 1) (if dl k ≤ c ∧ (b = -1 ∨ befo dl nu k (N b)) then nI k else b) := by
  rcases h with ⟨rfl, h⟩ | ⟨j, hj, rfl, hd, h⟩
  · by_cases e : dl k ≤ c
    · rw [if_pos ⟨e, Or.inl rfl⟩]
      refine Or.inr ⟨k, by omega, rfl, e, fun q hq hqd => ?_⟩
      by_cases eq : q = k
      · exact Or.inl eq
      · exact absurd hqd (h q (by omega))
    · rw [if_neg (fun q => e q.1)]
      refine Or.inl ⟨rfl, fun q hq => ?_⟩
      by_cases eq : q = k
      · subst eq; exact e
      · exact h q (by omega)
  · rw [N_nI (show j < 2 ^ 31 by omega)]
    by_cases e : dl k ≤ c ∧ (nI j = -1 ∨ befo dl nu k j)
    · rw [if_pos e]
      have hb : befo dl nu k j := e.2.elim (fun q => absurd q.symm (nI_ne_m1 (by omega))) id
      refine Or.inr ⟨k, by omega, rfl, e.1, fun q hq hqd => ?_⟩
      by_cases eq : q = k
      · exact Or.inl eq
      · rcases h q (by omega) hqd with rfl | h2
        · exact Or.inr hb
        · exact Or.inr (befo_tr hb h2)
    · rw [if_neg e]
      refine Or.inr ⟨j, by omega, rfl, hd, fun q hq hqd => ?_⟩
      by_cases eq : q = k
      · subst eq
        exact Or.inr (befo_no (fun q9 => hi j hj q9.symm) (fun q9 => e ⟨hqd, Or.inr q9⟩))
      · exact h q (by omega) hqd
theorem okB_Cfd {dl : Nat → Int64} {nu : Nat → Int32} {c : Int64} {z : Nat} (hz : z ≤ 24) (hi : ∀ q q', q < z → q' < z → nu q = nu q' → q = q') : ∀ m k b, k + m = z → okB dl nu c k b → okB dl nu c z (Cfd dl nu c m k b)
  | 0, k, b, hk, h => by
    have : k = z := by omega
    subst this
    exact h
  | m + 1, k, b, hk, h => by
    have h2 := okB_step h (by omega) (fun q hq e => by have := hi q k (by omega) (by omega) e; omega)
    simp only [Cfd]
    by_cases e : dl k ≤ c ∧ (b = -1 ∨ befo dl nu k (N b))
    · rw [if_pos e] at h2 ⊢
      exact okB_Cfd hz hi m (k + 1) _ (by omega) h2
    · rw [if_neg e] at h2 ⊢
      exact okB_Cfd hz hi m (k + 1) _ (by omega) h2
/-- the reference's search -/
def Rfd (S : MI) (T : ML) (l : Nat) (c : Int64) : Nat → Int32
  | 0 => -1
  | t + 1 => if (S 226 t = nI l ∧ T 225 t ≤ c) ∧ (Rfd S T l c t < 0 ∨ T 225 t < T 225 (N (Rfd S T l c t))) then nI t else Rfd S T l c t
theorem Rfd_spec (S : MI) (T : ML) (l : Nat) (c : Int64) : ∀ m, m < 2 ^ 31 → (Rfd S T l c m = -1 ∧ ∀ t, t < m → ¬ (S 226 t = nI l ∧ T 225 t ≤ c)) ∨ ∃ j, j < m ∧ Rfd S T l c m = nI j ∧ S 226 j = nI l ∧ T 225 j ≤ c ∧ ∀ t, t < m → S 226 t = nI l → T 225 t ≤ c → t = j ∨ T 225 j < T 225 t ∨ (T 225 j = T 225 t ∧ j < t)
  | 0, _ => Or.inl ⟨rfl, fun t h => by omega⟩
  | m + 1, hm => by
    simp only [Rfd]
    rcases Rfd_spec S T l c m (by omega) with ⟨e, h⟩ | ⟨j, hj, e, hs, hd, h⟩
    · rw [e]
      by_cases e2 : S 226 m = nI l ∧ T 225 m ≤ c
      · rw [if_pos ⟨e2, Or.inl (by decide)⟩]
        refine Or.inr ⟨m, by omega, rfl, e2.1, e2.2, fun t ht h1 h2 => ?_⟩
        by_cases et : t = m
        · exact Or.inl et
        · exact absurd ⟨h1, h2⟩ (h t (by omega))
      · rw [if_neg (fun q => e2 q.1)]
        refine Or.inl ⟨rfl, fun t ht => ?_⟩
        by_cases et : t = m
        · subst et; exact e2
        · exact h t (by omega)
    · rw [e, N_nI (show j < 2 ^ 31 by omega)]
      by_cases e2 : (S 226 m = nI l ∧ T 225 m ≤ c) ∧ (nI j < 0 ∨ T 225 m < T 225 j)
      · rw [if_pos e2]
        have hlt : T 225 m < T 225 j := e2.2.elim (fun q => absurd q (nI_pos (by omega))) id
        refine Or.inr ⟨m, by omega, rfl, e2.1.1, e2.1.2, fun t ht h1 h2 => ?_⟩
        by_cases et : t = m
        · exact Or.inl et
        · rcases h t (by omega) h1 h2 with rfl | q | q
          · exact Or.inr (Or.inl hlt)
          · exact Or.inr (Or.inl (Int64.lt_trans hlt q))
          · exact Or.inr (Or.inl (by rw [← q.1]; exact hlt))
      · rw [if_neg e2]
        refine Or.inr ⟨j, by omega, rfl, hs, hd, fun t ht h1 h2 => ?_⟩
        by_cases et : t = m
        · subst et
          have hn : ¬ T 225 t < T 225 j := fun q => e2 ⟨⟨h1, h2⟩, Or.inr q⟩
          by_cases e3 : T 225 j = T 225 t
          · exact Or.inr (Or.inr ⟨e3, hj⟩)
          · exact Or.inr (Or.inl (i64_tri (fun q => e3 q.symm) hn))
        · exact h t (by omega) h1 h2
/-- both searches find the same timer -/
theorem due_same {n w nf fr : Nat} {S I J : MI} {T L M : ML} {i : Nat} (h : CX n S T w nf fr J M I L) (hi : i < n) (c : Int64) :
    (Cfd (L (lid i 8)) (I (lid i 6)) c (Fcnt S i (N (S 30 23))) 0 (-1) = -1 ∧ Rfd S T i c (N (S 30 23)) = -1) ∨ ∃ k t, k < Fcnt S i (N (S 30 23)) ∧ t < N (S 30 23) ∧ Cfd (L (lid i 8)) (I (lid i 6)) c (Fcnt S i (N (S 30 23))) 0 (-1) = nI k ∧ Rfd S T i c (N (S 30 23)) = nI t ∧ I (lid i 6) k = nI t ∧ S 226 t = nI i := by
  obtain ⟨m1, m2, m3, m4, m5⟩ := (h.1.2.2.2.2.2 i hi).2.1
  have hM := h.2.1.2.2.2.2.2.1.1.2
  have hB := okB_Cfd (dl := L (lid i 8)) (nu := I (lid i 6)) (c := c) m2 (fun q q' a b e => m4 q q' a b e) (Fcnt S i (N (S 30 23))) 0 (-1) (by omega) (Or.inl ⟨rfl, fun q hq => by omega⟩)
  rcases Rfd_spec S T i c (N (S 30 23)) (by omega) with ⟨r1, r2⟩ | ⟨t, t1, t2, t3, t4, t5⟩
  · left
    refine ⟨?_, r1⟩
    rcases hB with ⟨b1, -⟩ | ⟨k, k1, k2, k3, -⟩
    · exact b1
    · exfalso
      obtain ⟨u1, u2, u3, u4⟩ := m3 k k1
      exact r2 _ u1.2 ⟨u2, by rw [← u4]; exact k3⟩
  · right
    obtain ⟨k0, a1, a2⟩ := m5 t t1 t3
    have hN : N (nI t) = t := N_nI (by omega)
    have a3 := (m3 k0 a1).2.2.2
    rw [a2, hN] at a3
    rcases hB with ⟨-, b2⟩ | ⟨k, k1, k2, k3, k4⟩
    · exact absurd (by rw [a3]; exact t4) (b2 k0 a1)
    · refine ⟨k, t, k1, t1, k2, t2, ?_, t3⟩
      rcases k4 k0 a1 (by rw [a3]; exact t4) with e | hbf
      · rw [← e]; exact a2
      · exfalso
        obtain ⟨u1, u2, u3, u4⟩ := m3 k k1
        have hne : ¬ I (lid i 6) k = I (lid i 6) k0 := fun e9 => by
          have := m4 k k0 k1 a1 e9
          subst this
          unfold befo at hbf
          rw [if_pos rfl] at hbf
          exact Int32.lt_irrefl hbf
        unfold befo at hbf
        rw [u4, a3, a2] at hbf
        rcases t5 (N (I (lid i 6) k)) u1.2 u2 (by rw [← u4]; exact k3) with e | q | q
        · exact hne (by rw [u1.1, e, a2])
        · rw [if_neg (fun e9 => by rw [e9] at q; exact Int64.lt_irrefl q)] at hbf
          exact Int64.lt_irrefl (Int64.lt_trans q hbf)
        · rw [if_pos q.1.symm, u1.1] at hbf
          have := (nI_ltI (by have := u1.2; omega) (by omega)).mp hbf
          omega
section
variable (l : Launch) (n : Nat) (hn : n < 2 ^ 31) (d : Nat) (I : MI) (L : ML)
set_option maxHeartbeats 4000000 in
set_option maxRecDepth 100000 in
theorem c_firstDue_lp {Q : vq_R} (i z : Nat) (c : Int64) (hn : n < 2 ^ 31) (hi : i < n) (hz : I (lid i 2) 3 = nI z) (hzb : z ≤ 24) (hd : 1 ≤ d) : ∀ m k b, k + m = z → (b = -1 ∨ ∃ j, j < 24 ∧ b = nI j) → Q (some (.int (Cfd (L (lid i 8)) (I (lid i 6)) c m k b))) I L → VP l n m_X7_firstDue d 0 Q noX 0 5 [(4, .int (nI k)), (3, .int b), (0, .ref (lid i 2)), (1, .long c)] [] I L := by
  intro m
  induction m with
  | zero =>
    intro k b hk hb hQ
    refine q_iload dX7_firstDue_5 rfl ?_
    refine q_aload_n dX7_firstDue_7 rfl ?_
    refine q_getI (lid i 2) 7 3 (vq_isL hi 2 (by decide) rfl) (by decide) rfl (by decide) f_X7_22 rfl dX7_firstDue_8 ?_
    refine q_icmp_ge 50 dX7_firstDue_11 (by decide) (fun h11 => ?_) (fun h11 => ?_)
    · refine q_iload_n dX7_firstDue_50 rfl ?_
      exact q_iret dX7_firstDue_51 rfl (by omega) hQ
    · exact absurd (by rw [hz]; exact nI_le (by omega) (by omega)) h11
  | succ m ih =>
    intro k b hk hb hQ
    simp only [Cfd] at hQ
    have NXT : ∀ b', (b' = -1 ∨ ∃ j, j < 24 ∧ b' = nI j) → Q (some (.int (Cfd (L (lid i 8)) (I (lid i 6)) c m (k + 1) b'))) I L → VP l n m_X7_firstDue d 0 Q noX 0 44 [(3, .int b'), (4, .int (nI k)), (0, .ref (lid i 2)), (1, .long c)] [] I L := by
      intro b' hb' hQ'
      refine q_iinc [(4, _), (3, _), (0, _), (1, _)] (nI (k + 1)) dX7_firstDue_44 rfl (nI_1 k) (by decide) rfl ?_
      refine q_goto 5 dX7_firstDue_47 (by decide) ?_
      exact ih (k + 1) b' (by omega) hb' hQ'
    refine q_iload dX7_firstDue_5 rfl ?_
    refine q_aload_n dX7_firstDue_7 rfl ?_
    refine q_getI (lid i 2) 7 3 (vq_isL hi 2 (by decide) rfl) (by decide) rfl (by decide) f_X7_22 rfl dX7_firstDue_8 ?_
    refine q_icmp_ge 50 dX7_firstDue_11 (by decide) (fun h11 => ?_) (fun h11 => ?_)
    · exact absurd h11 (by rw [hz]; exact nI_ge (by omega) (by omega))
    · refine q_aload_n dX7_firstDue_14 rfl ?_
      refine q_getR (lid i 2) 7 2 (lid i 8) (vq_isL hi 2 (by decide) rfl) (by decide) rfl ((gr_lid i 2 2 (by decide)).trans rfl) (by decide) f_X7_18 rfl dX7_firstDue_15 ?_
      refine q_iload dX7_firstDue_18 rfl ?_
      refine q_lald (lid i 8) (k) hn (vq_isL hi 8 (by decide) rfl) rfl (by rw [gl_lid]; omega) dX7_firstDue_20 ?_
      refine q_lload_n dX7_firstDue_21 rfl ?_
      refine q_lcmp dX7_firstDue_22 ?_
      refine q_if_gt 44 dX7_firstDue_23 (by decide) (fun h23 => ?_) (fun h23 => ?_)
      · rw [lg_cmp_gt] at h23
        rw [if_neg (fun q => absurd q.1 (Int64.not_le.mpr h23))] at hQ
        exact q_lv _ (by simp) (NXT b hb hQ)
      · rw [lg_cmp_gt, Int64.not_lt] at h23
        refine q_iload_n dX7_firstDue_26 rfl ?_
        refine q_iconst (-1) dX7_firstDue_27 (by decide) ?_
        refine q_icmp_eq 41 dX7_firstDue_28 (by decide) (fun h28 => ?_) (fun h28 => ?_)
        · rw [if_pos ⟨h23, Or.inl h28⟩] at hQ
          refine q_iload dX7_firstDue_41 rfl ?_
          refine q_istore_n [(3, _), (4, _), (0, _), (1, _)] dX7_firstDue_43 (by decide) rfl ?_
          exact NXT (nI k) (Or.inr ⟨k, by omega, rfl⟩) hQ
        · obtain ⟨j, hj, rfl⟩ := hb.resolve_left h28
          rw [N_nI (by omega)] at hQ
          refine q_aload_n dX7_firstDue_31 rfl ?_
          refine q_iload dX7_firstDue_32 rfl ?_
          refine q_iload_n dX7_firstDue_34 rfl ?_
          refine q_calli [.int _, .int _] o_X7_isBefore rfl k_X7_26 rfl (vq_isL hi 2 (by decide) rfl) (by decide) rfl dX7_firstDue_35 (by decide) (by omega) (by decide) (by omega) (Or.inr rfl) (c_isBefore l n (d - 1) I L i k j hn hi (by omega) hj) (fun _ _ _ h => h.elim) (fun r1 I1 L1 hq => ?_)
          obtain ⟨e1, e2, e3⟩ := hq
          cases e1
          cases e2.symm
          cases e3.symm
          refine q_if_eq 44 dX7_firstDue_38 (by decide) (fun h38 => ?_) (fun h38 => ?_)
          · rw [bI_z] at h38
            rw [if_neg (fun q => q.2.elim h28 h38)] at hQ
            exact q_lv _ (by simp) (NXT (nI j) hb hQ)
          · rw [bI_z, Decidable.not_not] at h38
            rw [if_pos ⟨h23, Or.inr h38⟩] at hQ
            refine q_iload dX7_firstDue_41 rfl ?_
            refine q_istore_n [(3, _), (4, _), (0, _), (1, _)] dX7_firstDue_43 (by decide) rfl ?_
            exact NXT (nI k) (Or.inr ⟨k, by omega, rfl⟩) hQ
set_option maxHeartbeats 4000000 in
set_option maxRecDepth 100000 in
theorem c_firstDue (i z : Nat) (c : Int64) (hn : n < 2 ^ 31) (hi : i < n) (hz : I (lid i 2) 3 = nI z) (hzb : z ≤ 24) (hd : 1 ≤ d) : VM l n m_X7_firstDue d 0 [.ref (lid i 2), .long c] I L (fun r I' L' => r = some (.int (Cfd (L (lid i 8)) (I (lid i 6)) c z 0 (-1))) ∧ I' = I ∧ L' = L) noX := by
  refine VM_of _ [(0, .ref (lid i 2)), (1, .long c)] rfl (fun a => Nat.le_of_ble_eq_true rfl) rfl ?_
  refine q_iconst (-1) dX7_firstDue_0 (by decide) ?_
  refine q_istore_n [(3, _), (0, _), (1, _)] dX7_firstDue_1 (by decide) rfl ?_
  refine q_iconst (0) dX7_firstDue_2 (by decide) ?_
  refine q_istore [(4, _), (3, _), (0, _), (1, _)] dX7_firstDue_3 (by decide) rfl ?_
  exact c_firstDue_lp l n d I L i z c hn hi hz hzb hd z 0 (-1) (by omega) (Or.inl rfl) ⟨rfl, rfl, rfl⟩
end
end
section
/-- the first timer that is due goes to the queue -/
def Fmv (S : MI) (T : ML) (i : Nat) : MI := upI (Fenq0 S i 0 (S 224 (N (Rfd S T i (T 30 2) (N (S 30 23))))) 0) 226 (N (Rfd S T i (T 30 2) (N (S 30 23)))) (-1)
def Fbb (T : ML) (i : Nat) : Nat → MI → MI
  | 0, S => S
  | m + 1, S => if S 209 i = 24 ∨ Rfd S T i (T 30 2) (N (S 30 23)) = -1 then S else Fbb T i m (Fmv S T i)
def FbbS (S : MI) (T : ML) (i : Nat) : MI := upI (Fbb T i 24 S) 210 i (if Fbb T i 24 S 209 i < 16 then Fbb T i 24 S 209 i else 16)
theorem min16 (x : Int32) : (if 16 < x then (16 : Int32) else x) = if x < 16 then x else 16 := by
  by_cases h : x < 16
  · rw [if_pos h, if_neg (fun q => Int32.lt_irrefl (Int32.lt_trans h q))]
  · rw [if_neg h]
    by_cases h2 : 16 < x
    · rw [if_pos h2]
    · rw [if_neg h2]
      exact Int32.le_antisymm (Int32.not_lt.mp h2) (Int32.not_lt.mp h)
theorem CX_mv {n w nf fr : Nat} {S I J : MI} {T L M : ML} {i f k t z : Nat} (h : CX n S T w nf fr J M I L) (hi : i < n) (hq : N (S 209 i) < 24) (hf : f < 24) (hfe : I (lid i 1) 3 = nI f) (hz : Fcnt S i (N (S 30 23)) = z + 1) (hk : k < z + 1) (ht : t < N (S 30 23)) (hr : Rfd S T i (T 30 2) (N (S 30 23)) = nI t) (hkt : I (lid i 6) k = nI t) :
    CX n (Fmv S T i) T w nf fr J M (Cmrem (Cqput I i ((f + N (S 209 i)) % 24) 0 (S 224 t) 0) i z k) (upL L (lid i 8) k (L (lid i 8) z)) := by
  have hM := h.2.1.2.2.2.2.2.1
  have hN : N (nI t) = t := N_nI (by have := hM.1.2; omega)
  unfold Fmv
  rw [hr, hN]
  have h1 := CX_enq0 (i := i) (f := f) (k := 0) (x := S 224 t) (m := 0) h hi hq (Or.inr ⟨Or.inl rfl, (hM.2 t ht).1⟩) hf hfe
  have e1 : Fenq0 S i 0 (S 224 t) 0 30 23 = S 30 23 := by simp [Fenq0, rdI]
  have e2 : Fenq0 S i 0 (S 224 t) 0 226 = S 226 := by simp [Fenq0, upI_ne]
  exact CX_drop h1 hi (by rw [e1, Fcnt_cong e2]; exact hz) hk (by simpa [Cqput, rdI, lid_eq] using hkt) (by have := hM.1.2; omega)
section
variable (l : Launch) (n : Nat) (hn : n < 2 ^ 31) (d : Nat) (I : MI) (L : ML)
set_option maxHeartbeats 4000000 in
set_option maxRecDepth 100000 in
theorem c_batch_ex {Q : vq_R} {S J : MI} {T M : ML} {w nf fr : Nat} (i : Nat) (hi : i < n) (hd : 2 ≤ d) (h : CX n S T w nf fr J M I L) (lv : List (Nat × Value)) (hlv : vq_lk lv 1 = some (.ref (lid i 0)))
    (hQ : ∀ I' L', CX n (upI S 210 i (if S 209 i < 16 then S 209 i else 16)) T w nf fr J M I' L' → Q none I' L') : VP l n m_X5_beginBatch d 0 Q noX 0 70 lv [] I L := by
  have hsz : I (lid i 1) 4 = S 209 i := (h.1.2.2.2.2.2 i hi).1.1
  refine q_aload_n dX5_beginBatch_70 hlv ?_
  refine q_aload_n dX5_beginBatch_71 hlv ?_
  refine q_getR (lid i 0) 1 0 (lid i 1) (vq_isL hi 0 (by decide) rfl) (by decide) rfl ((gr_lid i 0 0 (by decide)).trans rfl) (by decide) f_X5_38 rfl dX5_beginBatch_72 ?_
  refine q_getI (lid i 1) 3 4 (vq_isL hi 1 (by decide) rfl) (by decide) rfl (by decide) f_X5_93 rfl dX5_beginBatch_75 ?_
  refine q_bipush (16) dX5_beginBatch_78 (by decide) ?_
  refine q_min k_X5_94 rfl dX5_beginBatch_80 (by omega) (Nat.le_of_ble_eq_true rfl) (by omega) ?_
  rw [hsz, min16]
  refine q_putI (lid i 0) 1 3 (vq_isL hi 0 (by decide) rfl) (by decide) rfl (by decide) rfl rfl f_X5_98 rfl dX5_beginBatch_83 ?_
  exact q_vret dX5_beginBatch_86 rfl (by omega) (hQ _ _ (CX_ba _ h))
set_option maxHeartbeats 4000000 in
set_option maxRecDepth 100000 in
theorem c_batch_lp {Q : vq_R} {J : MI} {T M : ML} {w nf fr : Nat} (i : Nat) (hn : n < 2 ^ 31) (hi : i < n) (hd : 2 ≤ d) :
    ∀ m mv S I L, mv + m = 24 → CX n S T w nf fr J M I L → mv ≤ N (S 209 i) → (∀ I' L', CX n (upI (Fbb T i m S) 210 i (if Fbb T i m S 209 i < 16 then Fbb T i m S 209 i else 16)) T w nf fr J M I' L' → Q none I' L') → VP l n m_X5_beginBatch d 0 Q noX 0 2 [(2, .int (nI mv)), (0, .ref 2), (1, .ref (lid i 0))] [] I L := by
  intro m
  induction m with
  | zero =>
    intro mv S I L hmv h hle hQ
    refine q_iload_n dX5_beginBatch_2 rfl ?_
    refine q_bipush (24) dX5_beginBatch_3 (by decide) ?_
    refine q_icmp_ge 70 dX5_beginBatch_5 (by decide) (fun h5 => ?_) (fun h5 => ?_)
    · exact c_batch_ex l n d I L i hi hd h _ rfl hQ
    · exact absurd (show (24 : Int32) ≤ nI mv by rw [show mv = 24 by omega]; decide) h5
  | succ m ih =>
    intro mv S I L hmv h hle hQ
    have hsz : I (lid i 1) 4 = S 209 i := (h.1.2.2.2.2.2 i hi).1.1
    have hnb := (h.2.1.2.2.2.2.2.2.1 i hi).1.1
    have hck : L 2 2 = T 30 2 := h.1.2.2.2.2.1.1
    have hM := h.2.1.2.2.2.2.2.1
    obtain ⟨-, f, hf, hfe, -⟩ := (h.1.2.2.2.2.2 i hi).1
    obtain ⟨m1, m2, m3, m4, m5⟩ := (h.1.2.2.2.2.2 i hi).2.1
    refine q_iload_n dX5_beginBatch_2 rfl ?_
    refine q_bipush (24) dX5_beginBatch_3 (by decide) ?_
    refine q_icmp_ge 70 dX5_beginBatch_5 (by decide) (fun h5 => ?_) (fun h5 => ?_)
    · exact absurd h5 (by rw [show (24 : Int32) = nI 24 from rfl]; exact nI_ge (by omega) (by omega))
    · refine q_aload_n dX5_beginBatch_8 rfl ?_
      refine q_getR (lid i 0) 1 0 (lid i 1) (vq_isL hi 0 (by decide) rfl) (by decide) rfl ((gr_lid i 0 0 (by decide)).trans rfl) (by decide) f_X5_38 rfl dX5_beginBatch_9 ?_
      refine q_calli [] o_X3_isFull rfl k_X5_42 rfl (vq_isL hi 1 (by decide) rfl) (by decide) rfl dX5_beginBatch_12 (Nat.le_of_ble_eq_true rfl) (by omega) (by decide) (by omega) (Or.inr rfl) (c_isFull l n (d - 1) I L i hi) (fun _ _ _ h => h.elim) (fun r1 I1 L1 hq => ?_)
      obtain ⟨e1, e2, e3⟩ := hq
      cases e1
      cases e2.symm
      cases e3.symm
      rw [hsz]
      refine q_if_ne 70 dX5_beginBatch_15 (by decide) (fun h15 => ?_) (fun h15 => ?_)
      · rw [ne_eq, bI_z, Decidable.not_not, nb_24 hnb] at h15
        rw [show Fbb T i (m + 1) S = S by simp only [Fbb]; rw [if_pos (Or.inl h15)]] at hQ
        exact c_batch_ex l n d I L i hi hd h _ rfl hQ
      · rw [bI_z, nb_24 hnb] at h15
        have hq24 := nb_lt hnb h15
        refine q_aload_n dX5_beginBatch_18 rfl ?_
        refine q_getR (lid i 0) 1 1 (lid i 2) (vq_isL hi 0 (by decide) rfl) (by decide) rfl ((gr_lid i 0 1 (by decide)).trans rfl) (by decide) f_X5_62 rfl dX5_beginBatch_19 ?_
        refine q_aload_n dX5_beginBatch_22 rfl ?_
        refine q_getL 2 5 2 (is_2 n) (by decide) rfl (by decide) f_X5_71 rfl dX5_beginBatch_23 ?_
        refine q_calli [.long _] o_X7_firstDue rfl k_X5_85 rfl (vq_isL hi 2 (by decide) rfl) (by decide) rfl dX5_beginBatch_26 (Nat.le_of_ble_eq_true rfl) (by omega) (by decide) (by omega) (Or.inl rfl) (c_firstDue l n (d - 1) I L i (Fcnt S i (N (S 30 23))) (L 2 2) hn hi m1 m2 (by omega)) (fun _ _ _ h => h.elim) (fun r1 I1 L1 hq => ?_)
        obtain ⟨e1, e2, e3⟩ := hq
        cases e1
        cases e2.symm
        cases e3.symm
        refine q_istore_n [(3, _), (2, _), (0, _), (1, _)] dX5_beginBatch_29 (by decide) rfl ?_
        refine q_iload_n dX5_beginBatch_30 rfl ?_
        refine q_iconst (-1) dX5_beginBatch_31 (by decide) ?_
        rw [hck]
        rcases due_same h hi (T 30 2) with ⟨a1, a2⟩ | ⟨k, t, a1, a2, a3, a4, a5, a6⟩
        · rw [a1]
          refine q_icmp_ne 38 dX5_beginBatch_32 (by decide) (fun h32 => ?_) (fun h32 => ?_)
          · exact absurd rfl h32
          · rw [show Fbb T i (m + 1) S = S by simp only [Fbb]; rw [if_pos (Or.inr a2)]] at hQ
            refine q_goto 70 dX5_beginBatch_35 (by decide) ?_
            exact c_batch_ex l n d I L i hi hd h _ rfl hQ
        · rw [a3]
          refine q_icmp_ne 38 dX5_beginBatch_32 (by decide) (fun h32 => ?_) (fun h32 => ?_)
          · have e9 : ¬ nI t = -1 := fun q => nI_ne_m1 (by have := hM.1.2; omega) q.symm
            rw [show Fbb T i (m + 1) S = Fbb T i m (Fmv S T i) by simp only [Fbb]; rw [a4, if_neg (fun q => q.elim h15 e9)]] at hQ
            obtain ⟨z, hz⟩ : ∃ z, Fcnt S i (N (S 30 23)) = z + 1 := ⟨Fcnt S i (N (S 30 23)) - 1, by omega⟩
            have hN : N (nI t) = t := N_nI (by have := hM.1.2; omega)
            have e7 : I (lid i 7) k = S 224 t := by
              have := (m3 k a1).2.2.1
              rw [a5, hN] at this
              exact this
            have hX := CX_mv h hi hq24 hf hfe hz (by omega) a2 a4 a5
            refine q_aload_n dX5_beginBatch_38 rfl ?_
            refine q_getR (lid i 0) 1 0 (lid i 1) (vq_isL hi 0 (by decide) rfl) (by decide) rfl ((gr_lid i 0 0 (by decide)).trans rfl) (by decide) f_X5_38 rfl dX5_beginBatch_39 ?_
            refine q_iconst (0) dX5_beginBatch_42 (by decide) ?_
            refine q_aload_n dX5_beginBatch_43 rfl ?_
            refine q_getR (lid i 0) 1 1 (lid i 2) (vq_isL hi 0 (by decide) rfl) (by decide) rfl ((gr_lid i 0 1 (by decide)).trans rfl) (by decide) f_X5_62 rfl dX5_beginBatch_44 ?_
            refine q_getR (lid i 2) 7 1 (lid i 7) (vq_isL hi 2 (by decide) rfl) (by decide) rfl ((gr_lid i 2 1 (by decide)).trans rfl) (by decide) f_X5_89 rfl dX5_beginBatch_47 ?_
            refine q_iload_n dX5_beginBatch_50 rfl ?_
            refine q_iald (lid i 7) (k) hn (vq_isL hi 7 (by decide) rfl) rfl (by rw [gl_lid]; omega) dX5_beginBatch_51 ?_
            refine q_iconst (0) dX5_beginBatch_52 (by decide) ?_
            rw [e7]
            refine q_callv [.int _, .int _, .int _] o_X3_put rfl k_X5_56 rfl (vq_isL hi 1 (by decide) rfl) (by decide) rfl dX5_beginBatch_53 (Nat.le_of_ble_eq_true rfl) (by omega) (by decide) (by omega) rfl (c_qput l n (d - 1) I L i f (N (S 209 i)) 0 (S 224 t) 0 hn hi hfe (hsz.trans hnb.1) hf hq24) (fun _ _ _ h => h.elim) (fun I2 L2 hq => ?_)
            obtain ⟨-, e2, e3⟩ := hq
            subst e2
            cases e3.symm
            refine q_aload_n dX5_beginBatch_56 rfl ?_
            refine q_getR (lid i 0) 1 1 (lid i 2) (vq_isL hi 0 (by decide) rfl) (by decide) rfl ((gr_lid i 0 1 (by decide)).trans rfl) (by decide) f_X5_62 rfl dX5_beginBatch_57 ?_
            refine q_iload_n dX5_beginBatch_60 rfl ?_
            refine q_callv [.int _] o_X7_removeAt rfl k_X5_81 rfl (vq_isL hi 2 (by decide) rfl) (by decide) rfl dX5_beginBatch_61 (Nat.le_of_ble_eq_true rfl) (by omega) (by decide) (by omega) rfl (c_mrem l n (d - 1) _ L i z k hn hi (by rw [← hz]; simpa [Cqput, rdI, lid_eq] using m1) (by omega) (by omega)) (fun _ _ _ h => h.elim) (fun I3 L3 hq => ?_)
            obtain ⟨-, e2, e3⟩ := hq
            subst e2
            subst e3
            refine q_iinc [(2, _), (3, _), (0, _), (1, _)] (nI (mv + 1)) dX5_beginBatch_64 rfl (nI_1 mv) (by decide) rfl ?_
            refine q_goto 2 dX5_beginBatch_67 (by decide) ?_
            refine q_lv [(2, .int (nI (mv + 1))), (0, .ref 2), (1, .ref (lid i 0))] (by simp) ?_
            refine ih (mv + 1) (Fmv S T i) _ _ (by omega) hX ?_ hQ
            have e8 : Fmv S T i 209 i = nI (N (S 209 i) + 1) := by
              simp only [Fmv, Fenq0, rdI]
              simp
              exact nI_add1 hnb.1
            rw [e8, N_nI (by omega)]
            omega
          · exact absurd h32.symm (nI_ne_m1 (by omega))
set_option maxHeartbeats 4000000 in
set_option maxRecDepth 100000 in
theorem c_beginBatch {S J : MI} {T M : ML} {w nf fr : Nat} (i : Nat) (hn : n < 2 ^ 31) (hi : i < n) (h : CX n S T w nf fr J M I L) (hd : 2 ≤ d) : VM l n m_X5_beginBatch d 0 [.ref 2, .ref (lid i 0)] I L (fun r I' L' => r = none ∧ CX n (FbbS S T i) T w nf fr J M I' L') noX := by
  refine VM_of _ [(0, .ref 2), (1, .ref (lid i 0))] rfl (fun a => Nat.le_of_ble_eq_true rfl) rfl ?_
  refine q_iconst (0) dX5_beginBatch_0 (by decide) ?_
  refine q_istore_n [(2, _), (0, _), (1, _)] dX5_beginBatch_1 (by decide) rfl ?_
  exact c_batch_lp l n d i hn hi hd 24 0 S I L (by omega) h (Nat.zero_le _) (fun I' L' h' => ⟨rfl, h'⟩)
end
end
