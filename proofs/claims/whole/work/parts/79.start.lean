/-! ===== the law's start ===== -/
def WE : List Cond := [.arrayOver (.object "LoopGroup$Loop"), .laysStatic Bundle.tN "UNASSIGNED_STACK" Bundle.steD, .laysStatic Bundle.tN "SUPPRESSED_SENTINEL" Bundle.listD, .initialized Bundle.tN, .declares (Bundle.initS "java/lang/RuntimeException"), .declares (Bundle.initS "java/lang/Exception"), .declares (Bundle.initS "java/lang/Throwable"), .castable ise ise, .castable iae iae, .castable iob iob, .stringRef "LoopGroup" 53 "there are 24 tasks", .stringRef "LoopGroup" 67 "no such kind of order", .stringRef "LoopGroup" 74 "the task has 8 orders", .stringRef "LoopGroup" 86 "there are 32 promises", .stringRef "LoopGroup" 94 "there are 16 channels", .stringRef "LoopGroup" 104 "no such place", .stringRef "LoopGroup" 109 "no such kind of handler", .stringRef "LoopGroup" 111 "the pipeline has 6 handlers", .stringRef "LoopGroup" 118 "not 0 .. 1,000,000", .stringRef "LoopGroup" 133 "rejected", .stringRef "LoopGroup" 135 "a time below 0", .stringRef "LoopGroup" 150 "no such how", .stringRef "LoopGroup" 159 "6 listeners wait", .stringRef "LoopGroup" 173 "not 0 <= quiet <= timeout", .stringRef "LoopGroup" 211 "no such what", .stringRef "LoopGroup" 230 "no such entry is kept", .stringRef "LoopGroup" 239 "no such task", .stringRef "LoopGroup" 242 "no such loop", .stringRef "LoopGroup" 245 "no such promise", .stringRef "LoopGroup" 248 "no such channel", .methodLinkNest RX1 11 yX3_init "LoopGroup", .methodLinkNest RX1 20 yX7_init "LoopGroup", .methodLinkNest RX4 11 yX6_init "LoopGroup", .methodLinkNest RX4 20 yX2_init "LoopGroup", .methodLinkNest RX4 27 yX0_init "LoopGroup", .methodLinkNest RX5 11 yX8_init "LoopGroup", .methodLinkNest RX5 24 yX1_init "LoopGroup"]
set_option maxRecDepth 20000 in
theorem tb_E : ∀ w ∈ WE, w ∈ lw_tbl := tb_idx [186, 426, 428, 43, 403, 405, 407, 401, 489, 849, 440, 503, 504, 525, 537, 558, 566, 567, 580, 615, 623, 656, 754, 772, 827, 856, 496, 524, 647, 557, 194, 223, 67, 96, 132, 173, 188] rfl
theorem WE_txt : ∀ q ∈ vq_txt, Cond.stringRef q.1 q.2.1 q.2.2 ∈ WE := by
  intro q hq
  have h : ∀ q ∈ vq_txt, Cond.stringRef q.1 q.2.1 q.2.2 ∈ (WE.drop 10).take 20 := by
    have e : (WE.drop 10).take 20 = vq_txt.map (fun q => Cond.stringRef q.1 q.2.1 q.2.2) := rfl
    intro q hq
    rw [e]
    exact List.mem_map.mpr ⟨q, hq, rfl⟩
  exact List.mem_of_mem_drop (List.mem_of_mem_take (h q hq))
theorem WE_nest : ∀ x ∈ kc_nest, Cond.methodLinkNest x.1 x.2.1 x.2.2 "LoopGroup" ∈ WE := by
  intro q hq
  have e : WE.drop 30 = kc_nest.map (fun x => Cond.methodLinkNest x.1 x.2.1 x.2.2 "LoopGroup") := rfl
  exact List.mem_of_mem_drop (i := 30) (by rw [e]; exact List.mem_map.mpr ⟨q, hq, rfl⟩)
theorem inst_cl (ci : Nat) (h : ci < 11) : Cond.instantiable (vq_cl ci).1 (vq_cl ci).2.2 ∈ WLA := by
  match ci, h with
  | 0, _ => exact instX0
  | 1, _ => exact instX1
  | 2, _ => exact instX2
  | 3, _ => exact instX3
  | 4, _ => exact instX4
  | 5, _ => exact instX5
  | 6, _ => exact instX6
  | 7, _ => exact instX7
  | 8, _ => exact instX8
  | 9, _ => exact instX9
  | 10, _ => exact instX10
theorem k_arr {s : State} {args : Array Value} {ty : FieldType} (hty : ∀ C, ty ≠ .object C) (h : (Cond.arrayClass ty).before args s = true) : ∃ cA, ArrOfT s cA ty ∧ va_RA s cA ty := by
  obtain ⟨c, k, comp, h1, h2, h3⟩ := Cond.arrayClass_spec h
  refine ⟨c, fun n z => ⟨fun k h => (by cases h), k, h2, comp, h3⟩, ?_⟩
  cases ty with
  | object C => exact absurd rfl (hty C)
  | _ => exact h1
theorem law_ctx {p : Program} {s : State} {m : MethodId} {meth : Method} {c : Code} {b Ls : Nat} {xs : Nat → Int32} (C0 : lw_At p s m meth c b Ls xs) : ∃ (cs : vq_S) (D : va_G), kc_X RL cL_law 8 cs D (fun q => s.heap.size ≤ q) p s m #[.ref b] c ∧ vq_E (fun q => s.heap.size ≤ q) s s.heap ∧ va_Nc ise iae s ∧ va_Nc iob iae s := by
  obtain ⟨h1, h2, h3, h4, h5, h6, h7, h8, h9, h10⟩ := C0
  have hw : ∀ w ∈ WLA, w.before #[Value.ref b] s = true := fun w hw => h6 w (tb_WLA w hw)
  have he : ∀ w ∈ WE, w.before #[Value.ref b] s = true := fun w hw => h6 w (tb_E w hw)
  have hgv := flat_of_before _ h10
  have hk : ∀ ci : Nat, ∃ (cC : ClassId) (iS : Nat → Nat), ∀ q : vw_C, vwCl[ci]? = some q → u_Kn s q.1 q.2.1 q.2.2 cC iS := by
    intro ci
    by_cases hci : ci < 11
    · obtain ⟨cC, iS, h⟩ := u_known (ws := WLA) hw (fun w hw => inWS (vq_lay ci hci w hw)) (hw _ (inst_cl ci hci))
      refine ⟨cC, iS, fun q hq => ?_⟩
      have e := Option.some.inj (hq.symm.trans (vq_clg ci hci))
      rw [e]
      exact h
    · exact ⟨0, fun _ => 0, fun q hq => absurd (List.getElem?_eq_some_iff.mp hq).1 (by show ¬ ci < 11; exact hci)⟩
  obtain ⟨c1, a1, r1⟩ := k_arr (by intro C q; cases q) (hw _ arr_int)
  obtain ⟨c2, a2, r2⟩ := k_arr (by intro C q; cases q) (hw _ arr_long)
  obtain ⟨c3, a3, r3⟩ := k_arr (by intro C q; cases q) (hw _ arr_boolean)
  obtain ⟨comp, c4, k4, g1, -, g3, g4, g5⟩ := Cond.arrayOver_spec (he (.arrayOver (.object "LoopGroup$Loop")) (List.mem_of_getElem? (i := 0) rfl))
  have a4 : ArrOfT s c4 (.object "LoopGroup$Loop") := fun n z => ⟨fun k h => (by cases h), k4, g3, comp, g4⟩
  have r4 : va_RA s c4 (.object "LoopGroup$Loop") := ⟨k4, comp, g3, g4, g1, g5⟩
  have hA : ∀ a : Nat, a < s.heap.size → ¬ s.heap.size ≤ a := fun a h => by omega
  have hcur := (hk 9).choose_spec.choose_spec _ (vq_clg 9 (by decide))
  refine ⟨(c1, c2, c3, c4), (fun ci => (hk ci).choose, fun ci => (hk ci).choose_spec.choose), ⟨h1, h2, h4, h5, hw, ⟨fun ci q hq => (hk ci).choose_spec.choose_spec q hq, fun k q hq => ?_⟩, ⟨va_AO.of (he _ (List.mem_of_getElem? (i := 0) rfl)), fun x hx => va_Nw.of rfl (he _ (WE_nest x hx))⟩, fun q hq => hq⟩, ⟨?_, ?_, ?_, ?_, ?_⟩, ?_, ?_⟩
  · match k, hq with
    | 0, hq => cases hq; exact ⟨a1, r1⟩
    | 1, hq => cases hq; exact ⟨a2, r2⟩
    | 2, hq => cases hq; exact ⟨a3, r3⟩
    | 3, hq => cases hq; exact ⟨a4, r4⟩
    | k + 4, hq => cases hq
  · exact vx_Zqof (he _ (List.mem_of_getElem? (i := 1) rfl)) (he _ (List.mem_of_getElem? (i := 3) rfl)) (hgv _ (by decide +kernel)) hA
  · exact vx_Zqof (he _ (List.mem_of_getElem? (i := 2) rfl)) (he _ (List.mem_of_getElem? (i := 3) rfl)) (hgv _ (by decide +kernel)) hA
  · intro x hx
    simp only [vq_bd, List.mem_cons, List.not_mem_nil, or_false] at hx
    rcases hx with rfl | rfl | rfl
    · exact va_Nw.of rfl (he _ (List.mem_of_getElem? (i := 4) rfl))
    · exact va_Nw.of rfl (he _ (List.mem_of_getElem? (i := 5) rfl))
    · exact va_Nw.of rfl (he _ (List.mem_of_getElem? (i := 6) rfl))
  · intro x hx
    simp only [vq_bc, List.mem_cons, List.not_mem_nil, or_false] at hx
    rcases hx with rfl | rfl | rfl
    · exact va_Nw.of rfl (he _ (List.mem_of_getElem? (i := 7) rfl))
    · exact va_Nw.of rfl (he _ (List.mem_of_getElem? (i := 8) rfl))
    · exact va_Nw.of rfl (he _ (List.mem_of_getElem? (i := 9) rfl))
  · intro q hq
    have hl : q.1 = "LoopGroup" := by
      have : ∀ q ∈ vq_txt, q.1 = "LoopGroup" := by decide
      exact this q hq
    have h := he _ (WE_txt q hq)
    obtain ⟨_, _, _, a, _, _, _, _, _, hev⟩ := Cond.stringRef_spec (cur := (hk 9).choose) (by rw [hl]; exact hcur.2.1) h
    exact ⟨a, vk_R.of h hev⟩
  · exact vy_notCast (hgv (.not (.castable ise iae)) (by decide +kernel))
  · exact vy_notCast (hgv (.not (.castable iob iae)) (by decide +kernel))
