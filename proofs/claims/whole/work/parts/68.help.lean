/-! ===== the helpers of the law ===== -/
theorem H1_complete {S : MI} {T : ML} {p9 how v : Int32} : ¬ (Hcomplete S T p9 how v).1 = 2 := by
  unfold Hcomplete
  split <;> (try split) <;> simp
theorem H1_listen {S : MI} {T : ML} {p9 t : Int32} : ¬ (Hlisten S T p9 t).1 = 2 := by
  unfold Hlisten
  split <;> (try split) <;> simp
theorem H1_shutdown {n : Nat} {S : MI} {T : ML} {q t : Int32} : ¬ (Hshutdown n S T q t).1 = 2 := by
  unfold Hshutdown
  split <;> (try split) <;> simp
theorem H1_step {n : Nat} {S : MI} {T : ML} {x : Int32} : ¬ (Hstep n S T x).1 = 2 := by
  unfold Hstep
  split <;> (try split) <;> simp
theorem H1_loop {n : Nat} {S : MI} {T : ML} {x what : Int32} : ¬ (Hloop n S T x what).1 = 2 := by
  unfold Hloop
  split <;> (try split) <;> simp
theorem H1_look {S : MI} {T : ML} {p9 what : Int32} : ¬ (Hlook S T p9 what).1 = 2 := by
  unfold Hlook
  split <;> (try split) <;> simp
theorem H1_task {S : MI} {T : ML} : ¬ (Htask S T).1 = 2 := by
  unfold Htask
  split <;> simp
theorem H2_complete {S : MI} {T : ML} {p how v : Int32} : (Hcomplete S T p how v).2.1 = 0 ∨ (Hcomplete S T p how v).2.1 = 1 := by
  unfold Hcomplete
  split
  · split
    · show bI _ = 0 ∨ bI _ = 1
      unfold bI
      split <;> decide
    · show bI _ = 0 ∨ bI _ = 1
      unfold bI
      split <;> decide
  · exact Or.inl rfl
section
variable (l : Launch) (n : Nat) (d : Nat) (I : MI) (L : ML)
set_option maxHeartbeats 2000000 in
theorem L_task {w : Nat} (hl9 : l.stackTraces = false) (hn : n < 2 ^ 31) (h : CX n (co I) (coL L) w 0 0 I L I L)  (hd : 171 ≤ d) : VHM l n m_L_task hh_task d 3 [.ref 0, .ref 90] I L (HP n I L (Htask (co I) (coL L))) := by
  refine VHM_of [(0, .ref 0), (1, .ref 90)] rfl (fun a => Nat.le_of_ble_eq_true rfl) rfl ?_
  intro p e s m args below meth c a cs D A ls C hr hlk htab hP hD hl
  obtain ⟨d', rfl⟩ : ∃ d', d = d' + 1 := ⟨d - 1, by omega⟩
  have hS : va_S A s.heap s.heap [] := va_S.rf
  have hl : lv_has ls m_L_task.2.2.1 [(0, .ref (a 0)), (1, .ref (a 90))] := hl
  refine lv_aload_n C.1 C.2.1 dL_task_0 rfl (lv_at hl 1 rfl) ?_
  refine lv_iconst (v := 0) C.1 C.2.1 dL_task_1 rfl ?_
  refine lv_aload_n C.1 C.2.1 dL_task_2 rfl (lv_at hl 0 rfl) ?_
  refine vl_calli (As := []) (rest := [.int 0, .ref (a 90)]) o_X9_task rfl kL_7 (is_0 n) (by decide) rfl dL_task_3 (Nat.le_of_ble_eq_true rfl) ⟨Nat.le_refl _, by show 8 + (_ + 11) + 64 * d' ≤ 64 * (d' + 1); simp only; omega⟩ ⟨Nat.le_refl _, Nat.le_refl _⟩ (Or.inl rfl) (h_task l n d' I L hl9  hn h  (by omega)) C hP hD hS hl.1 (fun E ce q9 I' L' H1 locs1 hx hP1 hD1 hS1 hce hcv hcl => ?_) (fun r I' L' H1 locs1 hq hP1 hD1 hS1 => ?_)
  · rcases HP_thr hx with ⟨rfl, h9⟩ | ⟨rfl, h9⟩
    · exact vl_hand (hpc := 11) (sk := 1) [] [] ⟨0, 8, 11, 13⟩ htab rfl (by decide) rfl qL_13 (by simp [vq_bc]) (fun w hw => absurd hw List.not_mem_nil) (fun H1 locs1 k1 sl1 Z1 kk => lv_astore_n C.1 C.2.1 dL_task_11 rfl hl (by decide) rfl (fun ls' _ => kk ls')) dL_task_12 rfl dL_task_13 (by decide) C hr hlk hP1 hD1 hS1 h9 hce hcv hcl
    · exact absurd (Value.int.inj (Option.some.inj h9.1)).symm H1_task
  · refine lv_i2l C.1 C.2.1 dL_task_6 rfl ?_
    refine vl_last dL_task_7 C hP1 hD1 hS1 (fun H2 locs2 hP2 hD2 hS2 => ?_)
    refine lv_goto (tgt := 14) C.1 C.2.1 dL_task_8 rfl ?_
    refine lv_iconst (v := 0) C.1 C.2.1 dL_task_14 rfl ?_
    exact vl_iret dL_task_15 (by decide) C hr hlk hP2 hD2 hS2 (HP_ok hq)
set_option maxHeartbeats 2000000 in
theorem L_order {w : Nat} (hl9 : l.stackTraces = false) (t k a9 b9 : Int32) (hn : n < 2 ^ 31) (h : CX n (co I) (coL L) w 0 0 I L I L)  (hd : 171 ≤ d) : VHM l n m_L_order hh_order d 3 [.ref 0, .int t, .int k, .int a9, .int b9, .ref 90] I L (HP n I L (Horder (co I) (coL L) t k a9 b9)) := by
  refine VHM_of [(0, .ref 0), (1, .int t), (2, .int k), (3, .int a9), (4, .int b9), (5, .ref 90)] rfl (fun a => Nat.le_of_ble_eq_true rfl) rfl ?_
  intro p e s m args below meth c a cs D A ls C hr hlk htab hP hD hl
  obtain ⟨d', rfl⟩ : ∃ d', d = d' + 1 := ⟨d - 1, by omega⟩
  have hS : va_S A s.heap s.heap [] := va_S.rf
  have hl : lv_has ls m_L_order.2.2.1 [(0, .ref (a 0)), (1, .int t), (2, .int k), (3, .int a9), (4, .int b9), (5, .ref (a 90))] := hl
  refine lv_aload C.1 C.2.1 dL_order_0 (lv_at hl 5 rfl) ?_
  refine lv_iconst (v := 0) C.1 C.2.1 dL_order_2 rfl ?_
  refine lv_aload_n C.1 C.2.1 dL_order_3 rfl (lv_at hl 0 rfl) ?_
  refine lv_iload_n C.1 C.2.1 dL_order_4 rfl (lv_at hl 1 rfl) ?_
  refine lv_iload_n C.1 C.2.1 dL_order_5 rfl (lv_at hl 2 rfl) ?_
  refine lv_iload_n C.1 C.2.1 dL_order_6 rfl (lv_at hl 3 rfl) ?_
  refine lv_iload C.1 C.2.1 dL_order_7 (lv_at hl 4 rfl) ?_
  refine vl_calli (As := [.int t, .int k, .int a9, .int b9]) (rest := [.int 0, .ref (a 90)]) o_X9_order rfl kL_15 (is_0 n) (by decide) rfl dL_order_9 (Nat.le_of_ble_eq_true rfl) ⟨Nat.le_refl _, by show 8 + (_ + 11) + 64 * d' ≤ 64 * (d' + 1); simp only; omega⟩ ⟨Nat.le_refl _, Nat.le_refl _⟩ (Or.inl rfl) (h_order l n d' I L hl9 t k a9 b9 hn h  (by omega)) C hP hD hS hl.1 (fun E ce q9 I' L' H1 locs1 hx hP1 hD1 hS1 hce hcv hcl => ?_) (fun r I' L' H1 locs1 hq hP1 hD1 hS1 => ?_)
  · rcases HP_thr hx with ⟨rfl, h9⟩ | ⟨rfl, h9⟩
    · exact vl_hand (hpc := 17) (sk := 2) [] [⟨0, 14, 21, 13⟩] ⟨0, 14, 17, 19⟩ htab rfl (by decide) rfl qL_19 (by simp [vq_bc]) (fun w hw => absurd hw List.not_mem_nil) (fun H1 locs1 k1 sl1 Z1 kk => lv_astore C.1 C.2.1 dL_order_17 hl (by decide) rfl (fun ls' _ => kk ls')) dL_order_19 rfl dL_order_20 (by decide) C hr hlk hP1 hD1 hS1 h9 hce hcv hcl
    · exact vl_hand (hpc := 21) (sk := 2) [⟨0, 14, 17, 19⟩] [] ⟨0, 14, 21, 13⟩ htab rfl (by decide) rfl qL_13 (by simp [vq_bc]) (fun w hw => by rw [List.mem_singleton.mp hw]; exact Or.inr ⟨by decide, iae, C.2.2.2.2.1 _ qL_19, C.2.2.2.2.2.2.2.2.1⟩) (fun H1 locs1 k1 sl1 Z1 kk => lv_astore C.1 C.2.1 dL_order_21 hl (by decide) rfl (fun ls' _ => kk ls')) dL_order_23 rfl dL_order_24 (by decide) C hr hlk hP1 hD1 hS1 h9 hce hcv hcl
  · refine lv_i2l C.1 C.2.1 dL_order_12 rfl ?_
    refine vl_last dL_order_13 C hP1 hD1 hS1 (fun H2 locs2 hP2 hD2 hS2 => ?_)
    refine lv_goto (tgt := 25) C.1 C.2.1 dL_order_14 rfl ?_
    refine lv_iconst (v := 0) C.1 C.2.1 dL_order_25 rfl ?_
    exact vl_iret dL_order_26 (by decide) C hr hlk hP2 hD2 hS2 (HP_ok hq)
set_option maxHeartbeats 2000000 in
theorem L_promise {w : Nat} (hl9 : l.stackTraces = false) (x : Int32) (hn : n < 2 ^ 31) (h : CX n (co I) (coL L) w 0 0 I L I L) (hf1 : ∀ p, N (co I 30 27) ≤ p → co I 232 p = 0) (hd : 171 ≤ d) : VHM l n m_L_promise hh_promise d 3 [.ref 0, .int x, .ref 90] I L (HP n I L (Hpromise n (co I) (coL L) x)) := by
  refine VHM_of [(0, .ref 0), (1, .int x), (2, .ref 90)] rfl (fun a => Nat.le_of_ble_eq_true rfl) rfl ?_
  intro p e s m args below meth c a cs D A ls C hr hlk htab hP hD hl
  obtain ⟨d', rfl⟩ : ∃ d', d = d' + 1 := ⟨d - 1, by omega⟩
  have hS : va_S A s.heap s.heap [] := va_S.rf
  have hl : lv_has ls m_L_promise.2.2.1 [(0, .ref (a 0)), (1, .int x), (2, .ref (a 90))] := hl
  refine lv_aload_n C.1 C.2.1 dL_promise_0 rfl (lv_at hl 2 rfl) ?_
  refine lv_iconst (v := 0) C.1 C.2.1 dL_promise_1 rfl ?_
  refine lv_aload_n C.1 C.2.1 dL_promise_2 rfl (lv_at hl 0 rfl) ?_
  refine lv_iload_n C.1 C.2.1 dL_promise_3 rfl (lv_at hl 1 rfl) ?_
  refine vl_calli (As := [.int x]) (rest := [.int 0, .ref (a 90)]) o_X9_promise rfl kL_21 (is_0 n) (by decide) rfl dL_promise_4 (Nat.le_of_ble_eq_true rfl) ⟨Nat.le_refl _, by show 8 + (_ + 11) + 64 * d' ≤ 64 * (d' + 1); simp only; omega⟩ ⟨Nat.le_refl _, Nat.le_refl _⟩ (Or.inl rfl) (h_promise l n d' I L hl9 x hn h hf1 (by omega)) C hP hD hS hl.1 (fun E ce q9 I' L' H1 locs1 hx hP1 hD1 hS1 hce hcv hcl => ?_) (fun r I' L' H1 locs1 hq hP1 hD1 hS1 => ?_)
  · rcases HP_thr hx with ⟨rfl, h9⟩ | ⟨rfl, h9⟩
    · exact vl_hand (hpc := 12) (sk := 1) [] [⟨0, 9, 15, 13⟩] ⟨0, 9, 12, 19⟩ htab rfl (by decide) rfl qL_19 (by simp [vq_bc]) (fun w hw => absurd hw List.not_mem_nil) (fun H1 locs1 k1 sl1 Z1 kk => lv_astore_n C.1 C.2.1 dL_promise_12 rfl hl (by decide) rfl (fun ls' _ => kk ls')) dL_promise_13 rfl dL_promise_14 (by decide) C hr hlk hP1 hD1 hS1 h9 hce hcv hcl
    · exact vl_hand (hpc := 15) (sk := 1) [⟨0, 9, 12, 19⟩] [] ⟨0, 9, 15, 13⟩ htab rfl (by decide) rfl qL_13 (by simp [vq_bc]) (fun w hw => by rw [List.mem_singleton.mp hw]; exact Or.inr ⟨by decide, iae, C.2.2.2.2.1 _ qL_19, C.2.2.2.2.2.2.2.2.1⟩) (fun H1 locs1 k1 sl1 Z1 kk => lv_astore_n C.1 C.2.1 dL_promise_15 rfl hl (by decide) rfl (fun ls' _ => kk ls')) dL_promise_16 rfl dL_promise_17 (by decide) C hr hlk hP1 hD1 hS1 h9 hce hcv hcl
  · refine lv_i2l C.1 C.2.1 dL_promise_7 rfl ?_
    refine vl_last dL_promise_8 C hP1 hD1 hS1 (fun H2 locs2 hP2 hD2 hS2 => ?_)
    refine lv_goto (tgt := 18) C.1 C.2.1 dL_promise_9 rfl ?_
    refine lv_iconst (v := 0) C.1 C.2.1 dL_promise_18 rfl ?_
    exact vl_iret dL_promise_19 (by decide) C hr hlk hP2 hD2 hS2 (HP_ok hq)
set_option maxHeartbeats 2000000 in
theorem L_channels {w : Nat} (hl9 : l.stackTraces = false) (x z : Int32) (hn : n < 2 ^ 31) (h : CX n (co I) (coL L) w 0 0 I L I L) (hf1 : ∀ c, N (co I 30 34) ≤ c → co I 236 c = 0) (hd : 171 ≤ d) : VHM l n m_L_channels hh_channels d 3 [.ref 0, .int x, .int z, .ref 90] I L (HP n I L (Hchannels n (co I) (coL L) x z)) := by
  refine VHM_of [(0, .ref 0), (1, .int x), (2, .int z), (3, .ref 90)] rfl (fun a => Nat.le_of_ble_eq_true rfl) rfl ?_
  intro p e s m args below meth c a cs D A ls C hr hlk htab hP hD hl
  obtain ⟨d', rfl⟩ : ∃ d', d = d' + 1 := ⟨d - 1, by omega⟩
  have hS : va_S A s.heap s.heap [] := va_S.rf
  have hl : lv_has ls m_L_channels.2.2.1 [(0, .ref (a 0)), (1, .int x), (2, .int z), (3, .ref (a 90))] := hl
  refine lv_aload_n C.1 C.2.1 dL_channels_0 rfl (lv_at hl 3 rfl) ?_
  refine lv_iconst (v := 0) C.1 C.2.1 dL_channels_1 rfl ?_
  refine lv_aload_n C.1 C.2.1 dL_channels_2 rfl (lv_at hl 0 rfl) ?_
  refine lv_iload_n C.1 C.2.1 dL_channels_3 rfl (lv_at hl 1 rfl) ?_
  refine lv_iload_n C.1 C.2.1 dL_channels_4 rfl (lv_at hl 2 rfl) ?_
  refine vl_calli (As := [.int x, .int z]) (rest := [.int 0, .ref (a 90)]) o_X9_channels rfl kL_25 (is_0 n) (by decide) rfl dL_channels_5 (Nat.le_of_ble_eq_true rfl) ⟨Nat.le_refl _, by show 8 + (_ + 11) + 64 * d' ≤ 64 * (d' + 1); simp only; omega⟩ ⟨Nat.le_refl _, Nat.le_refl _⟩ (Or.inl rfl) (h_channels l n d' I L hl9 x z hn h hf1 (by omega)) C hP hD hS hl.1 (fun E ce q9 I' L' H1 locs1 hx hP1 hD1 hS1 hce hcv hcl => ?_) (fun r I' L' H1 locs1 hq hP1 hD1 hS1 => ?_)
  · rcases HP_thr hx with ⟨rfl, h9⟩ | ⟨rfl, h9⟩
    · exact vl_hand (hpc := 13) (sk := 2) [] [⟨0, 10, 17, 13⟩] ⟨0, 10, 13, 19⟩ htab rfl (by decide) rfl qL_19 (by simp [vq_bc]) (fun w hw => absurd hw List.not_mem_nil) (fun H1 locs1 k1 sl1 Z1 kk => lv_astore C.1 C.2.1 dL_channels_13 hl (by decide) rfl (fun ls' _ => kk ls')) dL_channels_15 rfl dL_channels_16 (by decide) C hr hlk hP1 hD1 hS1 h9 hce hcv hcl
    · exact vl_hand (hpc := 17) (sk := 2) [⟨0, 10, 13, 19⟩] [] ⟨0, 10, 17, 13⟩ htab rfl (by decide) rfl qL_13 (by simp [vq_bc]) (fun w hw => by rw [List.mem_singleton.mp hw]; exact Or.inr ⟨by decide, iae, C.2.2.2.2.1 _ qL_19, C.2.2.2.2.2.2.2.2.1⟩) (fun H1 locs1 k1 sl1 Z1 kk => lv_astore C.1 C.2.1 dL_channels_17 hl (by decide) rfl (fun ls' _ => kk ls')) dL_channels_19 rfl dL_channels_20 (by decide) C hr hlk hP1 hD1 hS1 h9 hce hcv hcl
  · refine lv_i2l C.1 C.2.1 dL_channels_8 rfl ?_
    refine vl_last dL_channels_9 C hP1 hD1 hS1 (fun H2 locs2 hP2 hD2 hS2 => ?_)
    refine lv_goto (tgt := 21) C.1 C.2.1 dL_channels_10 rfl ?_
    refine lv_iconst (v := 0) C.1 C.2.1 dL_channels_21 rfl ?_
    exact vl_iret dL_channels_22 (by decide) C hr hlk hP2 hD2 hS2 (HP_ok hq)
set_option maxHeartbeats 2000000 in
theorem L_handler {w : Nat} (hl9 : l.stackTraces = false) (c9 k t p9 : Int32) (hn : n < 2 ^ 31) (h : CX n (co I) (coL L) w 0 0 I L I L)  (hd : 171 ≤ d) : VHM l n m_L_handler hh_handler d 3 [.ref 0, .int c9, .int k, .int t, .int p9, .ref 90] I L (HP n I L (Hhandler (co I) (coL L) c9 k t p9)) := by
  refine VHM_of [(0, .ref 0), (1, .int c9), (2, .int k), (3, .int t), (4, .int p9), (5, .ref 90)] rfl (fun a => Nat.le_of_ble_eq_true rfl) rfl ?_
  intro p e s m args below meth c a cs D A ls C hr hlk htab hP hD hl
  obtain ⟨d', rfl⟩ : ∃ d', d = d' + 1 := ⟨d - 1, by omega⟩
  have hS : va_S A s.heap s.heap [] := va_S.rf
  have hl : lv_has ls m_L_handler.2.2.1 [(0, .ref (a 0)), (1, .int c9), (2, .int k), (3, .int t), (4, .int p9), (5, .ref (a 90))] := hl
  refine lv_aload C.1 C.2.1 dL_handler_0 (lv_at hl 5 rfl) ?_
  refine lv_iconst (v := 0) C.1 C.2.1 dL_handler_2 rfl ?_
  refine lv_aload_n C.1 C.2.1 dL_handler_3 rfl (lv_at hl 0 rfl) ?_
  refine lv_iload_n C.1 C.2.1 dL_handler_4 rfl (lv_at hl 1 rfl) ?_
  refine lv_iload_n C.1 C.2.1 dL_handler_5 rfl (lv_at hl 2 rfl) ?_
  refine lv_iload_n C.1 C.2.1 dL_handler_6 rfl (lv_at hl 3 rfl) ?_
  refine lv_iload C.1 C.2.1 dL_handler_7 (lv_at hl 4 rfl) ?_
  refine vl_calli (As := [.int c9, .int k, .int t, .int p9]) (rest := [.int 0, .ref (a 90)]) o_X9_handler rfl kL_29 (is_0 n) (by decide) rfl dL_handler_9 (Nat.le_of_ble_eq_true rfl) ⟨Nat.le_refl _, by show 8 + (_ + 11) + 64 * d' ≤ 64 * (d' + 1); simp only; omega⟩ ⟨Nat.le_refl _, Nat.le_refl _⟩ (Or.inl rfl) (h_handler l n d' I L hl9 c9 k t p9 hn h  (by omega)) C hP hD hS hl.1 (fun E ce q9 I' L' H1 locs1 hx hP1 hD1 hS1 hce hcv hcl => ?_) (fun r I' L' H1 locs1 hq hP1 hD1 hS1 => ?_)
  · rcases HP_thr hx with ⟨rfl, h9⟩ | ⟨rfl, h9⟩
    · exact vl_hand (hpc := 17) (sk := 2) [] [⟨0, 14, 21, 13⟩] ⟨0, 14, 17, 19⟩ htab rfl (by decide) rfl qL_19 (by simp [vq_bc]) (fun w hw => absurd hw List.not_mem_nil) (fun H1 locs1 k1 sl1 Z1 kk => lv_astore C.1 C.2.1 dL_handler_17 hl (by decide) rfl (fun ls' _ => kk ls')) dL_handler_19 rfl dL_handler_20 (by decide) C hr hlk hP1 hD1 hS1 h9 hce hcv hcl
    · exact vl_hand (hpc := 21) (sk := 2) [⟨0, 14, 17, 19⟩] [] ⟨0, 14, 21, 13⟩ htab rfl (by decide) rfl qL_13 (by simp [vq_bc]) (fun w hw => by rw [List.mem_singleton.mp hw]; exact Or.inr ⟨by decide, iae, C.2.2.2.2.1 _ qL_19, C.2.2.2.2.2.2.2.2.1⟩) (fun H1 locs1 k1 sl1 Z1 kk => lv_astore C.1 C.2.1 dL_handler_21 hl (by decide) rfl (fun ls' _ => kk ls')) dL_handler_23 rfl dL_handler_24 (by decide) C hr hlk hP1 hD1 hS1 h9 hce hcv hcl
  · refine lv_i2l C.1 C.2.1 dL_handler_12 rfl ?_
    refine vl_last dL_handler_13 C hP1 hD1 hS1 (fun H2 locs2 hP2 hD2 hS2 => ?_)
    refine lv_goto (tgt := 25) C.1 C.2.1 dL_handler_14 rfl ?_
    refine lv_iconst (v := 0) C.1 C.2.1 dL_handler_25 rfl ?_
    exact vl_iret dL_handler_26 (by decide) C hr hlk hP2 hD2 hS2 (HP_ok hq)
set_option maxHeartbeats 2000000 in
theorem L_advance {w : Nat} (hl9 : l.stackTraces = false) (x : Int32) (hn : n < 2 ^ 31) (h : CX n (co I) (coL L) w 0 0 I L I L)  (hd : 171 ≤ d) : VHM l n m_L_advance hh_advance d 3 [.ref 0, .int x, .ref 90] I L (HPa n I L x) := by
  refine VHM_of [(0, .ref 0), (1, .int x), (2, .ref 90)] rfl (fun a => Nat.le_of_ble_eq_true rfl) rfl ?_
  intro p e s m args below meth c a cs D A ls C hr hlk htab hP hD hl
  obtain ⟨d', rfl⟩ : ∃ d', d = d' + 1 := ⟨d - 1, by omega⟩
  have hS : va_S A s.heap s.heap [] := va_S.rf
  have hl : lv_has ls m_L_advance.2.2.1 [(0, .ref (a 0)), (1, .int x), (2, .ref (a 90))] := hl
  refine lv_aload_n C.1 C.2.1 dL_advance_0 rfl (lv_at hl 2 rfl) ?_
  refine lv_iconst (v := 0) C.1 C.2.1 dL_advance_1 rfl ?_
  refine lv_aload_n C.1 C.2.1 dL_advance_2 rfl (lv_at hl 0 rfl) ?_
  refine lv_iload_n C.1 C.2.1 dL_advance_3 rfl (lv_at hl 1 rfl) ?_
  refine vl_calll (As := [.int x]) (rest := [.int 0, .ref (a 90)]) o_X9_advance rfl kL_32 (is_0 n) (by decide) rfl dL_advance_4 (Nat.le_of_ble_eq_true rfl) ⟨Nat.le_refl _, by show 8 + (_ + 11) + 64 * d' ≤ 64 * (d' + 1); simp only; omega⟩ ⟨Nat.le_refl _, Nat.le_refl _⟩ rfl (h_advance l n d' I L hl9 x  h  (by omega)) C hP hD hS hl.1 (fun E ce q9 I' L' H1 locs1 hx hP1 hD1 hS1 hce hcv hcl => ?_) (fun r I' L' H1 locs1 hq hP1 hD1 hS1 => ?_)
  · obtain ⟨⟨rfl, h9⟩, h8⟩ := hx
    exact vl_hand (hpc := 11) (sk := 1) [] [] ⟨0, 8, 11, 19⟩ htab rfl (by decide) rfl qL_19 (by simp [vq_bc]) (fun w hw => absurd hw List.not_mem_nil) (fun H1 locs1 k1 sl1 Z1 kk => lv_astore_n C.1 C.2.1 dL_advance_11 rfl hl (by decide) rfl (fun ls' _ => kk ls')) dL_advance_12 rfl dL_advance_13 (by decide) C hr hlk hP1 hD1 hS1 (show HPa n I L x (some (.int 1)) I' L' from ⟨by rw [h9], fun q => by rw [h9] at q; exact absurd q (by decide), HA_of h8⟩) hce hcv hcl
  · obtain ⟨h7, h8, h9⟩ := hq
    cases h8
    refine vl_last dL_advance_7 C hP1 hD1 hS1 (fun H2 locs2 hP2 hD2 hS2 => ?_)
    refine lv_goto (tgt := 14) C.1 C.2.1 dL_advance_8 rfl ?_
    refine lv_iconst (v := 0) C.1 C.2.1 dL_advance_14 rfl ?_
    exact vl_iret dL_advance_15 (by decide) C hr hlk hP2 hD2 hS2 ⟨by rw [h7], fun _ => by simp [upL], (HA_of h9).out⟩
set_option maxHeartbeats 2000000 in
theorem L_execute {w : Nat} (hl9 : l.stackTraces = false) (t x : Int32) (hn : n < 2 ^ 31) (h : CX n (co I) (coL L) w 0 0 I L I L) (hb : tr (co I) + 40200 < 2 ^ 31) (hd : 171 ≤ d) : VHM l n m_L_execute hh_execute d 3 [.ref 0, .int t, .int x, .ref 90] I L (HP n I L (Hexecute n (co I) (coL L) t x)) := by
  refine VHM_of [(0, .ref 0), (1, .int t), (2, .int x), (3, .ref 90)] rfl (fun a => Nat.le_of_ble_eq_true rfl) rfl ?_
  intro p e s m args below meth c a cs D A ls C hr hlk htab hP hD hl
  obtain ⟨d', rfl⟩ : ∃ d', d = d' + 1 := ⟨d - 1, by omega⟩
  have hS : va_S A s.heap s.heap [] := va_S.rf
  have hl : lv_has ls m_L_execute.2.2.1 [(0, .ref (a 0)), (1, .int t), (2, .int x), (3, .ref (a 90))] := hl
  refine lv_aload_n C.1 C.2.1 dL_execute_0 rfl (lv_at hl 3 rfl) ?_
  refine lv_iconst (v := 0) C.1 C.2.1 dL_execute_1 rfl ?_
  refine lv_aload_n C.1 C.2.1 dL_execute_2 rfl (lv_at hl 0 rfl) ?_
  refine lv_iload_n C.1 C.2.1 dL_execute_3 rfl (lv_at hl 1 rfl) ?_
  refine lv_iload_n C.1 C.2.1 dL_execute_4 rfl (lv_at hl 2 rfl) ?_
  refine vl_calli (As := [.int t, .int x]) (rest := [.int 0, .ref (a 90)]) o_X9_execute rfl kL_36 (is_0 n) (by decide) rfl dL_execute_5 (Nat.le_of_ble_eq_true rfl) ⟨Nat.le_refl _, by show 8 + (_ + 11) + 64 * d' ≤ 64 * (d' + 1); simp only; omega⟩ ⟨Nat.le_refl _, Nat.le_refl _⟩ (Or.inl rfl) (h_execute l n d' I L hl9 t x hn h (by omega) (by omega)) C hP hD hS hl.1 (fun E ce q9 I' L' H1 locs1 hx hP1 hD1 hS1 hce hcv hcl => ?_) (fun r I' L' H1 locs1 hq hP1 hD1 hS1 => ?_)
  · rcases HP_thr hx with ⟨rfl, h9⟩ | ⟨rfl, h9⟩
    · exact vl_hand (hpc := 13) (sk := 2) [] [⟨0, 10, 17, 13⟩] ⟨0, 10, 13, 19⟩ htab rfl (by decide) rfl qL_19 (by simp [vq_bc]) (fun w hw => absurd hw List.not_mem_nil) (fun H1 locs1 k1 sl1 Z1 kk => lv_astore C.1 C.2.1 dL_execute_13 hl (by decide) rfl (fun ls' _ => kk ls')) dL_execute_15 rfl dL_execute_16 (by decide) C hr hlk hP1 hD1 hS1 h9 hce hcv hcl
    · exact vl_hand (hpc := 17) (sk := 2) [⟨0, 10, 13, 19⟩] [] ⟨0, 10, 17, 13⟩ htab rfl (by decide) rfl qL_13 (by simp [vq_bc]) (fun w hw => by rw [List.mem_singleton.mp hw]; exact Or.inr ⟨by decide, iae, C.2.2.2.2.1 _ qL_19, C.2.2.2.2.2.2.2.2.1⟩) (fun H1 locs1 k1 sl1 Z1 kk => lv_astore C.1 C.2.1 dL_execute_17 hl (by decide) rfl (fun ls' _ => kk ls')) dL_execute_19 rfl dL_execute_20 (by decide) C hr hlk hP1 hD1 hS1 h9 hce hcv hcl
  · refine lv_i2l C.1 C.2.1 dL_execute_8 rfl ?_
    refine vl_last dL_execute_9 C hP1 hD1 hS1 (fun H2 locs2 hP2 hD2 hS2 => ?_)
    refine lv_goto (tgt := 21) C.1 C.2.1 dL_execute_10 rfl ?_
    refine lv_iconst (v := 0) C.1 C.2.1 dL_execute_21 rfl ?_
    exact vl_iret dL_execute_22 (by decide) C hr hlk hP2 hD2 hS2 (HP_ok hq)
set_option maxHeartbeats 2000000 in
theorem L_timer {w : Nat} (hl9 : l.stackTraces = false) (t dl x : Int32) (hn : n < 2 ^ 31) (h : CX n (co I) (coL L) w 0 0 I L I L) (hb : tr (co I) + 40200 < 2 ^ 31) (hd : 171 ≤ d) : VHM l n m_L_timer hh_timer d 3 [.ref 0, .int t, .int dl, .int x, .ref 90] I L (HP n I L (Htimer n (co I) (coL L) t dl x)) := by
  refine VHM_of [(0, .ref 0), (1, .int t), (2, .int dl), (3, .int x), (4, .ref 90)] rfl (fun a => Nat.le_of_ble_eq_true rfl) rfl ?_
  intro p e s m args below meth c a cs D A ls C hr hlk htab hP hD hl
  obtain ⟨d', rfl⟩ : ∃ d', d = d' + 1 := ⟨d - 1, by omega⟩
  have hS : va_S A s.heap s.heap [] := va_S.rf
  have hl : lv_has ls m_L_timer.2.2.1 [(0, .ref (a 0)), (1, .int t), (2, .int dl), (3, .int x), (4, .ref (a 90))] := hl
  refine lv_aload C.1 C.2.1 dL_timer_0 (lv_at hl 4 rfl) ?_
  refine lv_iconst (v := 0) C.1 C.2.1 dL_timer_2 rfl ?_
  refine lv_aload_n C.1 C.2.1 dL_timer_3 rfl (lv_at hl 0 rfl) ?_
  refine lv_iload_n C.1 C.2.1 dL_timer_4 rfl (lv_at hl 1 rfl) ?_
  refine lv_iload_n C.1 C.2.1 dL_timer_5 rfl (lv_at hl 2 rfl) ?_
  refine lv_iload_n C.1 C.2.1 dL_timer_6 rfl (lv_at hl 3 rfl) ?_
  refine vl_calli (As := [.int t, .int dl, .int x]) (rest := [.int 0, .ref (a 90)]) o_X9_timer rfl kL_39 (is_0 n) (by decide) rfl dL_timer_7 (Nat.le_of_ble_eq_true rfl) ⟨Nat.le_refl _, by show 8 + (_ + 11) + 64 * d' ≤ 64 * (d' + 1); simp only; omega⟩ ⟨Nat.le_refl _, Nat.le_refl _⟩ (Or.inl rfl) (h_timer l n d' I L hl9 t dl x hn h (by omega) (by omega)) C hP hD hS hl.1 (fun E ce q9 I' L' H1 locs1 hx hP1 hD1 hS1 hce hcv hcl => ?_) (fun r I' L' H1 locs1 hq hP1 hD1 hS1 => ?_)
  · rcases HP_thr hx with ⟨rfl, h9⟩ | ⟨rfl, h9⟩
    · exact vl_hand (hpc := 15) (sk := 2) [] [⟨0, 12, 19, 13⟩] ⟨0, 12, 15, 19⟩ htab rfl (by decide) rfl qL_19 (by simp [vq_bc]) (fun w hw => absurd hw List.not_mem_nil) (fun H1 locs1 k1 sl1 Z1 kk => lv_astore C.1 C.2.1 dL_timer_15 hl (by decide) rfl (fun ls' _ => kk ls')) dL_timer_17 rfl dL_timer_18 (by decide) C hr hlk hP1 hD1 hS1 h9 hce hcv hcl
    · exact vl_hand (hpc := 19) (sk := 2) [⟨0, 12, 15, 19⟩] [] ⟨0, 12, 19, 13⟩ htab rfl (by decide) rfl qL_13 (by simp [vq_bc]) (fun w hw => by rw [List.mem_singleton.mp hw]; exact Or.inr ⟨by decide, iae, C.2.2.2.2.1 _ qL_19, C.2.2.2.2.2.2.2.2.1⟩) (fun H1 locs1 k1 sl1 Z1 kk => lv_astore C.1 C.2.1 dL_timer_19 hl (by decide) rfl (fun ls' _ => kk ls')) dL_timer_21 rfl dL_timer_22 (by decide) C hr hlk hP1 hD1 hS1 h9 hce hcv hcl
  · refine lv_i2l C.1 C.2.1 dL_timer_10 rfl ?_
    refine vl_last dL_timer_11 C hP1 hD1 hS1 (fun H2 locs2 hP2 hD2 hS2 => ?_)
    refine lv_goto (tgt := 23) C.1 C.2.1 dL_timer_12 rfl ?_
    refine lv_iconst (v := 0) C.1 C.2.1 dL_timer_23 rfl ?_
    exact vl_iret dL_timer_24 (by decide) C hr hlk hP2 hD2 hS2 (HP_ok hq)
set_option maxHeartbeats 2000000 in
theorem L_complete {w : Nat} (hl9 : l.stackTraces = false) (p9 how v : Int32) (hn : n < 2 ^ 31) (h : CX n (co I) (coL L) w 0 0 I L I L) (hb : tr (co I) + 40200 < 2 ^ 31) (hd : 171 ≤ d) : VHM l n m_L_complete hh_complete d 3 [.ref 0, .int p9, .int how, .int v, .ref 90] I L (HP n I L (Hcomplete (co I) (coL L) p9 how v)) := by
  refine VHM_of [(0, .ref 0), (1, .int p9), (2, .int how), (3, .int v), (4, .ref 90)] rfl (fun a => Nat.le_of_ble_eq_true rfl) rfl ?_
  intro p e s m args below meth c a cs D A ls C hr hlk htab hP hD hl
  obtain ⟨d', rfl⟩ : ∃ d', d = d' + 1 := ⟨d - 1, by omega⟩
  have hS : va_S A s.heap s.heap [] := va_S.rf
  have hl : lv_has ls m_L_complete.2.2.1 [(0, .ref (a 0)), (1, .int p9), (2, .int how), (3, .int v), (4, .ref (a 90))] := hl
  refine lv_aload C.1 C.2.1 dL_complete_0 (lv_at hl 4 rfl) ?_
  refine lv_iconst (v := 0) C.1 C.2.1 dL_complete_2 rfl ?_
  refine lv_aload_n C.1 C.2.1 dL_complete_3 rfl (lv_at hl 0 rfl) ?_
  refine lv_iload_n C.1 C.2.1 dL_complete_4 rfl (lv_at hl 1 rfl) ?_
  refine lv_iload_n C.1 C.2.1 dL_complete_5 rfl (lv_at hl 2 rfl) ?_
  refine lv_iload_n C.1 C.2.1 dL_complete_6 rfl (lv_at hl 3 rfl) ?_
  refine vl_calli (As := [.int p9, .int how, .int v]) (rest := [.int 0, .ref (a 90)]) o_X9_complete rfl kL_43 (is_0 n) (by decide) rfl dL_complete_7 (Nat.le_of_ble_eq_true rfl) ⟨Nat.le_refl _, by show 8 + (_ + 11) + 64 * d' ≤ 64 * (d' + 1); simp only; omega⟩ ⟨Nat.le_refl _, Nat.le_refl _⟩ (Or.inr rfl) (h_complete l n d' I L hl9 p9 how v hn h hb (by omega)) C hP hD hS hl.1 (fun E ce q9 I' L' H1 locs1 hx hP1 hD1 hS1 hce hcv hcl => ?_) (fun r I' L' H1 locs1 hq hP1 hD1 hS1 => ?_)
  · rcases HP_thr hx with ⟨rfl, h9⟩ | ⟨rfl, h9⟩
    · exact vl_hand (hpc := 22) (sk := 2) [] [] ⟨0, 19, 22, 19⟩ htab rfl (by decide) rfl qL_19 (by simp [vq_bc]) (fun w hw => absurd hw List.not_mem_nil) (fun H1 locs1 k1 sl1 Z1 kk => lv_astore C.1 C.2.1 dL_complete_22 hl (by decide) rfl (fun ls' _ => kk ls')) dL_complete_24 rfl dL_complete_25 (by decide) C hr hlk hP1 hD1 hS1 h9 hce hcv hcl
    · exact absurd (Value.int.inj (Option.some.inj h9.1)).symm H1_complete
  · have hv : r = 0 ∨ r = 1 := by
      have h8 := hq.2.1
      cases h8
      exact H2_complete
    rcases hv with rfl | rfl
    · refine lv_if_eq (tgt := 17) C.1 C.2.1 dL_complete_10 rfl (fun _ => ?_) (fun q => absurd rfl q)
      refine lv_lconst (v := 0) C.1 C.2.1 dL_complete_17 rfl ?_
      refine vl_last dL_complete_18 C hP1 hD1 hS1 (fun H2 locs2 hP2 hD2 hS2 => ?_)
      refine lv_goto (tgt := 26) C.1 C.2.1 dL_complete_19 rfl ?_
      refine lv_iconst (v := 0) C.1 C.2.1 dL_complete_26 rfl ?_
      exact vl_iret dL_complete_27 (by decide) C hr hlk hP2 hD2 hS2 (HP_ok hq)
    · refine lv_if_eq (tgt := 17) C.1 C.2.1 dL_complete_10 rfl (fun q => absurd q (by decide)) (fun _ => ?_)
      refine lv_lconst (v := 1) C.1 C.2.1 dL_complete_13 rfl ?_
      refine lv_goto (tgt := 18) C.1 C.2.1 dL_complete_14 rfl ?_
      refine vl_last dL_complete_18 C hP1 hD1 hS1 (fun H2 locs2 hP2 hD2 hS2 => ?_)
      refine lv_goto (tgt := 26) C.1 C.2.1 dL_complete_19 rfl ?_
      refine lv_iconst (v := 0) C.1 C.2.1 dL_complete_26 rfl ?_
      exact vl_iret dL_complete_27 (by decide) C hr hlk hP2 hD2 hS2 (HP_ok hq)
set_option maxHeartbeats 2000000 in
theorem L_listen {w : Nat} (hl9 : l.stackTraces = false) (p9 t : Int32) (hn : n < 2 ^ 31) (h : CX n (co I) (coL L) w 0 0 I L I L) (hb : tr (co I) + 40200 < 2 ^ 31) (hd : 171 ≤ d) : VHM l n m_L_listen hh_listen d 3 [.ref 0, .int p9, .int t] I L (HPv n I L (Hlisten (co I) (coL L) p9 t)) := by
  refine VHM_of [(0, .ref 0), (1, .int p9), (2, .int t)] rfl (fun a => Nat.le_of_ble_eq_true rfl) rfl ?_
  intro p e s m args below meth c a cs D A ls C hr hlk htab hP hD hl
  obtain ⟨d', rfl⟩ : ∃ d', d = d' + 1 := ⟨d - 1, by omega⟩
  have hS : va_S A s.heap s.heap [] := va_S.rf
  have hl : lv_has ls m_L_listen.2.2.1 [(0, .ref (a 0)), (1, .int p9), (2, .int t)] := hl
  refine lv_aload_n C.1 C.2.1 dL_listen_0 rfl (lv_at hl 0 rfl) ?_
  refine lv_iload_n C.1 C.2.1 dL_listen_1 rfl (lv_at hl 1 rfl) ?_
  refine lv_iload_n C.1 C.2.1 dL_listen_2 rfl (lv_at hl 2 rfl) ?_
  refine vl_callv (As := [.int p9, .int t]) (rest := []) o_X9_listen rfl kL_47 (is_0 n) (by decide) rfl dL_listen_3 (Nat.le_of_ble_eq_true rfl) ⟨Nat.le_refl _, by show 8 + (_ + 11) + 64 * d' ≤ 64 * (d' + 1); simp only; omega⟩ ⟨Nat.le_refl _, Nat.le_refl _⟩ rfl (h_listen l n d' I L hl9 p9 t hn h hb (by omega)) C hP hD hS hl.1 (fun E ce q9 I' L' H1 locs1 hx hP1 hD1 hS1 hce hcv hcl => ?_) (fun I' L' H1 locs1 hq hP1 hD1 hS1 => ?_)
  · rcases HPv_thr hx with ⟨rfl, h9⟩ | ⟨rfl, h9⟩
    · exact vl_hand (hpc := 9) (sk := 1) [] [] ⟨0, 6, 9, 19⟩ htab rfl (by decide) rfl qL_19 (by simp [vq_bc]) (fun w hw => absurd hw List.not_mem_nil) (fun H1 locs1 k1 sl1 Z1 kk => lv_astore_n C.1 C.2.1 dL_listen_9 rfl hl (by decide) rfl (fun ls' _ => kk ls')) dL_listen_10 rfl dL_listen_11 (by decide) C hr hlk hP1 hD1 hS1 h9 hce hcv hcl
    · exact absurd (Value.int.inj (Option.some.inj h9.1)).symm H1_listen
  · refine lv_goto (tgt := 12) C.1 C.2.1 dL_listen_6 rfl ?_
    refine lv_iconst (v := 0) C.1 C.2.1 dL_listen_12 rfl ?_
    exact vl_iret dL_listen_13 (by decide) C hr hlk hP1 hD1 hS1 (HPv_ok hq)
set_option maxHeartbeats 2000000 in
theorem L_fire {w : Nat} (hl9 : l.stackTraces = false) (c9 m9 : Int32) (hn : n < 2 ^ 31) (h : CX n (co I) (coL L) w 0 0 I L I L) (hb : tr (co I) + 40200 < 2 ^ 31) (hd : 171 ≤ d) : VHM l n m_L_fire hh_fire d 3 [.ref 0, .int c9, .int m9] I L (HPv n I L (Hfire (co I) (coL L) c9 m9)) := by
  refine VHM_of [(0, .ref 0), (1, .int c9), (2, .int m9)] rfl (fun a => Nat.le_of_ble_eq_true rfl) rfl ?_
  intro p e s m args below meth c a cs D A ls C hr hlk htab hP hD hl
  obtain ⟨d', rfl⟩ : ∃ d', d = d' + 1 := ⟨d - 1, by omega⟩
  have hS : va_S A s.heap s.heap [] := va_S.rf
  have hl : lv_has ls m_L_fire.2.2.1 [(0, .ref (a 0)), (1, .int c9), (2, .int m9)] := hl
  refine lv_aload_n C.1 C.2.1 dL_fire_0 rfl (lv_at hl 0 rfl) ?_
  refine lv_iload_n C.1 C.2.1 dL_fire_1 rfl (lv_at hl 1 rfl) ?_
  refine lv_iload_n C.1 C.2.1 dL_fire_2 rfl (lv_at hl 2 rfl) ?_
  refine vl_callv (As := [.int c9, .int m9]) (rest := []) o_X9_fire rfl kL_51 (is_0 n) (by decide) rfl dL_fire_3 (Nat.le_of_ble_eq_true rfl) ⟨Nat.le_refl _, by show 8 + (_ + 11) + 64 * d' ≤ 64 * (d' + 1); simp only; omega⟩ ⟨Nat.le_refl _, Nat.le_refl _⟩ rfl (h_fire l n d' I L hl9 c9 m9 hn h hb (by omega)) C hP hD hS hl.1 (fun E ce q9 I' L' H1 locs1 hx hP1 hD1 hS1 hce hcv hcl => ?_) (fun I' L' H1 locs1 hq hP1 hD1 hS1 => ?_)
  · rcases HPv_thr hx with ⟨rfl, h9⟩ | ⟨rfl, h9⟩
    · exact vl_hand (hpc := 9) (sk := 1) [] [⟨0, 6, 12, 13⟩] ⟨0, 6, 9, 19⟩ htab rfl (by decide) rfl qL_19 (by simp [vq_bc]) (fun w hw => absurd hw List.not_mem_nil) (fun H1 locs1 k1 sl1 Z1 kk => lv_astore_n C.1 C.2.1 dL_fire_9 rfl hl (by decide) rfl (fun ls' _ => kk ls')) dL_fire_10 rfl dL_fire_11 (by decide) C hr hlk hP1 hD1 hS1 h9 hce hcv hcl
    · exact vl_hand (hpc := 12) (sk := 1) [⟨0, 6, 9, 19⟩] [] ⟨0, 6, 12, 13⟩ htab rfl (by decide) rfl qL_13 (by simp [vq_bc]) (fun w hw => by rw [List.mem_singleton.mp hw]; exact Or.inr ⟨by decide, iae, C.2.2.2.2.1 _ qL_19, C.2.2.2.2.2.2.2.2.1⟩) (fun H1 locs1 k1 sl1 Z1 kk => lv_astore_n C.1 C.2.1 dL_fire_12 rfl hl (by decide) rfl (fun ls' _ => kk ls')) dL_fire_13 rfl dL_fire_14 (by decide) C hr hlk hP1 hD1 hS1 h9 hce hcv hcl
  · refine lv_goto (tgt := 15) C.1 C.2.1 dL_fire_6 rfl ?_
    refine lv_iconst (v := 0) C.1 C.2.1 dL_fire_15 rfl ?_
    exact vl_iret dL_fire_16 (by decide) C hr hlk hP1 hD1 hS1 (HPv_ok hq)
set_option maxHeartbeats 2000000 in
theorem L_shutdown {w : Nat} (hl9 : l.stackTraces = false) (q t : Int32) (hn : n < 2 ^ 31) (h : CX n (co I) (coL L) w 0 0 I L I L) (hb : tr (co I) + 40200 < 2 ^ 31) (hd : 171 ≤ d) : VHM l n m_L_shutdown hh_shutdown d 3 [.ref 0, .int q, .int t] I L (HPv n I L (Hshutdown n (co I) (coL L) q t)) := by
  refine VHM_of [(0, .ref 0), (1, .int q), (2, .int t)] rfl (fun a => Nat.le_of_ble_eq_true rfl) rfl ?_
  intro p e s m args below meth c a cs D A ls C hr hlk htab hP hD hl
  obtain ⟨d', rfl⟩ : ∃ d', d = d' + 1 := ⟨d - 1, by omega⟩
  have hS : va_S A s.heap s.heap [] := va_S.rf
  have hl : lv_has ls m_L_shutdown.2.2.1 [(0, .ref (a 0)), (1, .int q), (2, .int t)] := hl
  refine lv_aload_n C.1 C.2.1 dL_shutdown_0 rfl (lv_at hl 0 rfl) ?_
  refine lv_iload_n C.1 C.2.1 dL_shutdown_1 rfl (lv_at hl 1 rfl) ?_
  refine lv_iload_n C.1 C.2.1 dL_shutdown_2 rfl (lv_at hl 2 rfl) ?_
  refine vl_callv (As := [.int q, .int t]) (rest := []) o_X9_shutdown rfl kL_54 (is_0 n) (by decide) rfl dL_shutdown_3 (Nat.le_of_ble_eq_true rfl) ⟨Nat.le_refl _, by show 8 + (_ + 11) + 64 * d' ≤ 64 * (d' + 1); simp only; omega⟩ ⟨Nat.le_refl _, Nat.le_refl _⟩ rfl (h_shutdown l n d' I L hl9 q t hn h (by omega) (by omega)) C hP hD hS hl.1 (fun E ce q9 I' L' H1 locs1 hx hP1 hD1 hS1 hce hcv hcl => ?_) (fun I' L' H1 locs1 hq hP1 hD1 hS1 => ?_)
  · rcases HPv_thr hx with ⟨rfl, h9⟩ | ⟨rfl, h9⟩
    · exact vl_hand (hpc := 9) (sk := 1) [] [] ⟨0, 6, 9, 19⟩ htab rfl (by decide) rfl qL_19 (by simp [vq_bc]) (fun w hw => absurd hw List.not_mem_nil) (fun H1 locs1 k1 sl1 Z1 kk => lv_astore_n C.1 C.2.1 dL_shutdown_9 rfl hl (by decide) rfl (fun ls' _ => kk ls')) dL_shutdown_10 rfl dL_shutdown_11 (by decide) C hr hlk hP1 hD1 hS1 h9 hce hcv hcl
    · exact absurd (Value.int.inj (Option.some.inj h9.1)).symm H1_shutdown
  · refine lv_goto (tgt := 12) C.1 C.2.1 dL_shutdown_6 rfl ?_
    refine lv_iconst (v := 0) C.1 C.2.1 dL_shutdown_12 rfl ?_
    exact vl_iret dL_shutdown_13 (by decide) C hr hlk hP1 hD1 hS1 (HPv_ok hq)
set_option maxHeartbeats 2000000 in
theorem L_step {w : Nat} (hl9 : l.stackTraces = false) (x : Int32) (hn : n < 2 ^ 31) (h : CX n (co I) (coL L) w 0 0 I L I L) (h4 : ∀ i, co I 208 i ≠ 4) (ho : ∀ i, obk (co I) i) (hb : tr (co I) + 40200 < 2 ^ 31) (hd : 171 ≤ d) : VHM l n m_L_step hh_step d 3 [.ref 0, .int x, .ref 90] I L (HP n I L (Hstep n (co I) (coL L) x)) := by
  refine VHM_of [(0, .ref 0), (1, .int x), (2, .ref 90)] rfl (fun a => Nat.le_of_ble_eq_true rfl) rfl ?_
  intro p e s m args below meth c a cs D A ls C hr hlk htab hP hD hl
  obtain ⟨d', rfl⟩ : ∃ d', d = d' + 1 := ⟨d - 1, by omega⟩
  have hS : va_S A s.heap s.heap [] := va_S.rf
  have hl : lv_has ls m_L_step.2.2.1 [(0, .ref (a 0)), (1, .int x), (2, .ref (a 90))] := hl
  refine lv_aload_n C.1 C.2.1 dL_step_0 rfl (lv_at hl 2 rfl) ?_
  refine lv_iconst (v := 0) C.1 C.2.1 dL_step_1 rfl ?_
  refine lv_aload_n C.1 C.2.1 dL_step_2 rfl (lv_at hl 0 rfl) ?_
  refine lv_iload_n C.1 C.2.1 dL_step_3 rfl (lv_at hl 1 rfl) ?_
  refine vl_calli (As := [.int x]) (rest := [.int 0, .ref (a 90)]) o_X9_step rfl kL_57 (is_0 n) (by decide) rfl dL_step_4 (Nat.le_of_ble_eq_true rfl) ⟨Nat.le_refl _, by show 8 + (_ + 11) + 64 * d' ≤ 64 * (d' + 1); simp only; omega⟩ ⟨Nat.le_refl _, Nat.le_refl _⟩ (Or.inl rfl) (h_step l n d' I L hl9 x hn h h4 ho hb (by omega)) C hP hD hS hl.1 (fun E ce q9 I' L' H1 locs1 hx hP1 hD1 hS1 hce hcv hcl => ?_) (fun r I' L' H1 locs1 hq hP1 hD1 hS1 => ?_)
  · rcases HP_thr hx with ⟨rfl, h9⟩ | ⟨rfl, h9⟩
    · exact vl_hand (hpc := 12) (sk := 1) [] [] ⟨0, 9, 12, 19⟩ htab rfl (by decide) rfl qL_19 (by simp [vq_bc]) (fun w hw => absurd hw List.not_mem_nil) (fun H1 locs1 k1 sl1 Z1 kk => lv_astore_n C.1 C.2.1 dL_step_12 rfl hl (by decide) rfl (fun ls' _ => kk ls')) dL_step_13 rfl dL_step_14 (by decide) C hr hlk hP1 hD1 hS1 h9 hce hcv hcl
    · exact absurd (Value.int.inj (Option.some.inj h9.1)).symm H1_step
  · refine lv_i2l C.1 C.2.1 dL_step_7 rfl ?_
    refine vl_last dL_step_8 C hP1 hD1 hS1 (fun H2 locs2 hP2 hD2 hS2 => ?_)
    refine lv_goto (tgt := 15) C.1 C.2.1 dL_step_9 rfl ?_
    refine lv_iconst (v := 0) C.1 C.2.1 dL_step_15 rfl ?_
    exact vl_iret dL_step_16 (by decide) C hr hlk hP2 hD2 hS2 (HP_ok hq)
set_option maxHeartbeats 2000000 in
theorem L_loop {w : Nat} (hl9 : l.stackTraces = false) (x what : Int32) (hn : n < 2 ^ 31) (h : CX n (co I) (coL L) w 0 0 I L I L)  (hd : 171 ≤ d) : VHM l n m_L_loop hh_loop d 3 [.ref 0, .int x, .int what, .ref 90] I L (HP n I L (Hloop n (co I) (coL L) x what)) := by
  refine VHM_of [(0, .ref 0), (1, .int x), (2, .int what), (3, .ref 90)] rfl (fun a => Nat.le_of_ble_eq_true rfl) rfl ?_
  intro p e s m args below meth c a cs D A ls C hr hlk htab hP hD hl
  obtain ⟨d', rfl⟩ : ∃ d', d = d' + 1 := ⟨d - 1, by omega⟩
  have hS : va_S A s.heap s.heap [] := va_S.rf
  have hl : lv_has ls m_L_loop.2.2.1 [(0, .ref (a 0)), (1, .int x), (2, .int what), (3, .ref (a 90))] := hl
  refine lv_aload_n C.1 C.2.1 dL_loop_0 rfl (lv_at hl 3 rfl) ?_
  refine lv_iconst (v := 0) C.1 C.2.1 dL_loop_1 rfl ?_
  refine lv_aload_n C.1 C.2.1 dL_loop_2 rfl (lv_at hl 0 rfl) ?_
  refine lv_iload_n C.1 C.2.1 dL_loop_3 rfl (lv_at hl 1 rfl) ?_
  refine lv_iload_n C.1 C.2.1 dL_loop_4 rfl (lv_at hl 2 rfl) ?_
  refine vl_calli (As := [.int x, .int what]) (rest := [.int 0, .ref (a 90)]) o_X9_loop rfl kL_60 (is_0 n) (by decide) rfl dL_loop_5 (Nat.le_of_ble_eq_true rfl) ⟨Nat.le_refl _, by show 8 + (_ + 11) + 64 * d' ≤ 64 * (d' + 1); simp only; omega⟩ ⟨Nat.le_refl _, Nat.le_refl _⟩ (Or.inl rfl) (h_loop l n d' I L hl9 x what hn h  (by omega)) C hP hD hS hl.1 (fun E ce q9 I' L' H1 locs1 hx hP1 hD1 hS1 hce hcv hcl => ?_) (fun r I' L' H1 locs1 hq hP1 hD1 hS1 => ?_)
  · rcases HP_thr hx with ⟨rfl, h9⟩ | ⟨rfl, h9⟩
    · exact vl_hand (hpc := 13) (sk := 2) [] [] ⟨0, 10, 13, 19⟩ htab rfl (by decide) rfl qL_19 (by simp [vq_bc]) (fun w hw => absurd hw List.not_mem_nil) (fun H1 locs1 k1 sl1 Z1 kk => lv_astore C.1 C.2.1 dL_loop_13 hl (by decide) rfl (fun ls' _ => kk ls')) dL_loop_15 rfl dL_loop_16 (by decide) C hr hlk hP1 hD1 hS1 h9 hce hcv hcl
    · exact absurd (Value.int.inj (Option.some.inj h9.1)).symm H1_loop
  · refine lv_i2l C.1 C.2.1 dL_loop_8 rfl ?_
    refine vl_last dL_loop_9 C hP1 hD1 hS1 (fun H2 locs2 hP2 hD2 hS2 => ?_)
    refine lv_goto (tgt := 17) C.1 C.2.1 dL_loop_10 rfl ?_
    refine lv_iconst (v := 0) C.1 C.2.1 dL_loop_17 rfl ?_
    exact vl_iret dL_loop_18 (by decide) C hr hlk hP2 hD2 hS2 (HP_ok hq)
set_option maxHeartbeats 2000000 in
theorem L_look {w : Nat} (hl9 : l.stackTraces = false) (p9 what : Int32) (hn : n < 2 ^ 31) (h : CX n (co I) (coL L) w 0 0 I L I L)  (hd : 171 ≤ d) : VHM l n m_L_look hh_look d 3 [.ref 0, .int p9, .int what, .ref 90] I L (HP n I L (Hlook (co I) (coL L) p9 what)) := by
  refine VHM_of [(0, .ref 0), (1, .int p9), (2, .int what), (3, .ref 90)] rfl (fun a => Nat.le_of_ble_eq_true rfl) rfl ?_
  intro p e s m args below meth c a cs D A ls C hr hlk htab hP hD hl
  obtain ⟨d', rfl⟩ : ∃ d', d = d' + 1 := ⟨d - 1, by omega⟩
  have hS : va_S A s.heap s.heap [] := va_S.rf
  have hl : lv_has ls m_L_look.2.2.1 [(0, .ref (a 0)), (1, .int p9), (2, .int what), (3, .ref (a 90))] := hl
  refine lv_aload_n C.1 C.2.1 dL_look_0 rfl (lv_at hl 3 rfl) ?_
  refine lv_iconst (v := 0) C.1 C.2.1 dL_look_1 rfl ?_
  refine lv_aload_n C.1 C.2.1 dL_look_2 rfl (lv_at hl 0 rfl) ?_
  refine lv_iload_n C.1 C.2.1 dL_look_3 rfl (lv_at hl 1 rfl) ?_
  refine lv_iload_n C.1 C.2.1 dL_look_4 rfl (lv_at hl 2 rfl) ?_
  refine vl_calli (As := [.int p9, .int what]) (rest := [.int 0, .ref (a 90)]) o_X9_look rfl kL_63 (is_0 n) (by decide) rfl dL_look_5 (Nat.le_of_ble_eq_true rfl) ⟨Nat.le_refl _, by show 8 + (_ + 11) + 64 * d' ≤ 64 * (d' + 1); simp only; omega⟩ ⟨Nat.le_refl _, Nat.le_refl _⟩ (Or.inl rfl) (h_look l n d' I L hl9 p9 what hn h  (by omega)) C hP hD hS hl.1 (fun E ce q9 I' L' H1 locs1 hx hP1 hD1 hS1 hce hcv hcl => ?_) (fun r I' L' H1 locs1 hq hP1 hD1 hS1 => ?_)
  · rcases HP_thr hx with ⟨rfl, h9⟩ | ⟨rfl, h9⟩
    · exact vl_hand (hpc := 13) (sk := 2) [] [] ⟨0, 10, 13, 19⟩ htab rfl (by decide) rfl qL_19 (by simp [vq_bc]) (fun w hw => absurd hw List.not_mem_nil) (fun H1 locs1 k1 sl1 Z1 kk => lv_astore C.1 C.2.1 dL_look_13 hl (by decide) rfl (fun ls' _ => kk ls')) dL_look_15 rfl dL_look_16 (by decide) C hr hlk hP1 hD1 hS1 h9 hce hcv hcl
    · exact absurd (Value.int.inj (Option.some.inj h9.1)).symm H1_look
  · refine lv_i2l C.1 C.2.1 dL_look_8 rfl ?_
    refine vl_last dL_look_9 C hP1 hD1 hS1 (fun H2 locs2 hP2 hD2 hS2 => ?_)
    refine lv_goto (tgt := 17) C.1 C.2.1 dL_look_10 rfl ?_
    refine lv_iconst (v := 0) C.1 C.2.1 dL_look_17 rfl ?_
    exact vl_iret dL_look_18 (by decide) C hr hlk hP2 hD2 hS2 (HP_ok hq)
set_option maxHeartbeats 2000000 in
theorem L_trace {w : Nat} (hl9 : l.stackTraces = false) (k what : Int32) (hn : n < 2 ^ 31) (h : CX n (co I) (coL L) w 0 0 I L I L) (hb : tr (co I) + 40200 < 2 ^ 31) (hd : 171 ≤ d) : VHM l n m_L_trace hh_trace d 3 [.ref 0, .int k, .int what, .ref 90] I L (HP n I L (Htrace (co I) (coL L) k what)) := by
  refine VHM_of [(0, .ref 0), (1, .int k), (2, .int what), (3, .ref 90)] rfl (fun a => Nat.le_of_ble_eq_true rfl) rfl ?_
  intro p e s m args below meth c a cs D A ls C hr hlk htab hP hD hl
  obtain ⟨d', rfl⟩ : ∃ d', d = d' + 1 := ⟨d - 1, by omega⟩
  have hS : va_S A s.heap s.heap [] := va_S.rf
  have hl : lv_has ls m_L_trace.2.2.1 [(0, .ref (a 0)), (1, .int k), (2, .int what), (3, .ref (a 90))] := hl
  refine lv_aload_n C.1 C.2.1 dL_trace_0 rfl (lv_at hl 3 rfl) ?_
  refine lv_iconst (v := 0) C.1 C.2.1 dL_trace_1 rfl ?_
  refine lv_aload_n C.1 C.2.1 dL_trace_2 rfl (lv_at hl 0 rfl) ?_
  refine lv_iload_n C.1 C.2.1 dL_trace_3 rfl (lv_at hl 1 rfl) ?_
  refine lv_iload_n C.1 C.2.1 dL_trace_4 rfl (lv_at hl 2 rfl) ?_
  refine vl_calli (As := [.int k, .int what]) (rest := [.int 0, .ref (a 90)]) o_X9_trace rfl kL_66 (is_0 n) (by decide) rfl dL_trace_5 (Nat.le_of_ble_eq_true rfl) ⟨Nat.le_refl _, by show 8 + (_ + 11) + 64 * d' ≤ 64 * (d' + 1); simp only; omega⟩ ⟨Nat.le_refl _, Nat.le_refl _⟩ (Or.inl rfl) (h_trace l n d' I L hl9 k what hn h (by omega) (by omega)) C hP hD hS hl.1 (fun E ce q9 I' L' H1 locs1 hx hP1 hD1 hS1 hce hcv hcl => ?_) (fun r I' L' H1 locs1 hq hP1 hD1 hS1 => ?_)
  · rcases HP_thr hx with ⟨rfl, h9⟩ | ⟨rfl, h9⟩
    · exact vl_hand (hpc := 13) (sk := 2) [] [⟨0, 10, 17, 69⟩] ⟨0, 10, 13, 19⟩ htab rfl (by decide) rfl qL_19 (by simp [vq_bc]) (fun w hw => absurd hw List.not_mem_nil) (fun H1 locs1 k1 sl1 Z1 kk => lv_astore C.1 C.2.1 dL_trace_13 hl (by decide) rfl (fun ls' _ => kk ls')) dL_trace_15 rfl dL_trace_16 (by decide) C hr hlk hP1 hD1 hS1 h9 hce hcv hcl
    · exact vl_hand (hpc := 17) (sk := 2) [⟨0, 10, 13, 19⟩] [] ⟨0, 10, 17, 69⟩ htab rfl (by decide) rfl qL_69 (by simp [vq_bc]) (fun w hw => by rw [List.mem_singleton.mp hw]; exact Or.inr ⟨by decide, iae, C.2.2.2.2.1 _ qL_19, C.2.2.2.2.2.2.2.2.2⟩) (fun H1 locs1 k1 sl1 Z1 kk => lv_astore C.1 C.2.1 dL_trace_17 hl (by decide) rfl (fun ls' _ => kk ls')) dL_trace_19 rfl dL_trace_20 (by decide) C hr hlk hP1 hD1 hS1 h9 hce hcv hcl
  · refine lv_i2l C.1 C.2.1 dL_trace_8 rfl ?_
    refine vl_last dL_trace_9 C hP1 hD1 hS1 (fun H2 locs2 hP2 hD2 hS2 => ?_)
    refine lv_goto (tgt := 21) C.1 C.2.1 dL_trace_10 rfl ?_
    refine lv_iconst (v := 0) C.1 C.2.1 dL_trace_21 rfl ?_
    exact vl_iret dL_trace_22 (by decide) C hr hlk hP2 hD2 hS2 (HP_ok hq)
end
