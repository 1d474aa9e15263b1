/-! ===== a step ===== -/
def Ltop (n : Nat) (th : Int32) (t m k : Nat) (x : PX) : PX := Lords n (Lv n th 12).1 (Lv n th 12).2 th 0 0 t m k x
def LtopG (n : Nat) (th : Int32) (c : Nat) (ps : Int32) (x : PX) : PX := Lgo n (Lv n th 12).1 (Lv n th 12).2 th 0 0 c (N (x.1 236 c)) 0 0 ps x
/-- a blocked loop goes on -/
def Lres1 (n : Nat) (S : MI) (T : ML) (i : Nat) : PX := Ltop n (nI i) (N (S 215 i)) (N (S 204 (N (S 215 i))) - N (S 216 i)) (N (S 216 i)) (Flog (upI S 214 i 0) (nI i) 10 (S 217 i), T, 0)
/-- the first of the queue begins -/
def Sbeg (S : MI) (i : Nat) : MI := upI (Fdeq S i) 210 i (S 210 i - 1)
def Lbeg (n : Nat) (S : MI) (T : ML) (i : Nat) : PX :=
  if S 211 (24 * i) = 2 then LtopG n (nI i) (N (S 212 (24 * i))) (S 213 (24 * i)) (Flog (Sbeg S i) (nI i) 1 (-1), Tlast S T i, 0)
  else Ltop n (nI i) (N (S 212 (24 * i))) (N (S 204 (N (S 212 (24 * i))))) 0 (Flog (Sbeg S i) (nI i) (if S 211 (24 * i) = 0 then 1 else 5) (S 212 (24 * i)), Tlast S T i, 0)
/-- a step behind the taking away of timers -/
def Lstep1 (n : Nat) (S : MI) (T : ML) (i : Nat) : Int32 × MI × ML :=
  if S 214 i = 1 then (if S 229 (N (S 217 i)) = 0 then (2, S, T) else (1, (Lres1 n S T i).1, (Lres1 n S T i).2.1))
  else if (if S 210 i = 0 then FbbS S T i else S) 209 i = 0 then
    (if okC (if S 210 i = 0 then FbbS S T i else S) T i then (3, Fbec (Fbec (if S 210 i = 0 then FbbS S T i else S) i 4) i 5, T) else (0, (if S 210 i = 0 then FbbS S T i else S), T))
  else (1, (Lbeg n (if S 210 i = 0 then FbbS S T i else S) T i).1, (Lbeg n (if S 210 i = 0 then FbbS S T i else S) T i).2.1)
def Lstep (n : Nat) (S : MI) (T : ML) (i : Nat) : Int32 × MI × ML :=
  if S 208 i = 1 ∨ S 208 i = 5 then (0, S, T) else Lstep1 n (if S 208 i = 3 then Fclr S i (N (S 30 23)) else S) T i
theorem gc_top {n : Nat} {th : Int32} (hth : nbt th n) {t m k : Nat} {x : PX} (h : Inv n x.1) (hw : x.2.2 ≤ 1000) (ht : t < N (x.1 30 3)) (hk : k + m ≤ N (x.1 204 t)) (hb : Ph x + 100 < 2 ^ 31) : gc n 1 x (Ltop n th t m k x) := gc_ords (lev_ok hth 12).1 (lev_ok hth 12).2 hth 0 0 t m k x h hw ht hk hb
theorem gc_topG {n : Nat} {th : Int32} (hth : nbt th n) {c : Nat} {ps : Int32} {x : PX} (h : Inv n x.1) (hw : x.2.2 ≤ 1000) (hc : c < N (x.1 30 34)) (hb : Ph x + 120 < 2 ^ 31) : gc n 13 x (LtopG n th c ps x) := by
  have h6 := (h.2.2.2.2.1.2.2 c hc).2.1.2
  exact (gc_go (lev_ok hth 12).1 (lev_ok hth 12).2 th 0 0 c (N (x.1 236 c)) 0 0 ps x h hw hc (by omega) (by omega)).up (by omega)
theorem nbt_i {i n : Nat} (h : i < n) (hn : n < 2 ^ 31) : nbt (nI i) n := by
  unfold nbt
  rw [N_nI (by omega)]
  exact ⟨rfl, h⟩
section
variable (l : Launch) (n : Nat) (hn : n < 2 ^ 31) (d : Nat) (I : MI) (L : ML)
set_option maxHeartbeats 8000000 in
set_option maxRecDepth 100000 in
theorem c_resume {J S : MI} {T M : ML} (i : Nat) (hn : n < 2 ^ 31) (hi : i < n) (h : CX n S T 0 0 0 J M I L) (hbl : S 214 i = 1) (ho : N (S 216 i) ≤ N (S 204 (N (S 215 i)))) (hb : tr S + 40200 < 2 ^ 31) (hd : 150 ≤ d) : VM l n m_X4_resume d 0 [.ref 1, .int (nI i), .ref (lid i 0)] I L (fun r I' L' => (S 229 (N (S 217 i)) = 0 → r = some (.int 2) ∧ CX n S T 0 0 0 J M I' L') ∧ (S 229 (N (S 217 i)) ≠ 0 → r = some (.int 1) ∧ CX n (Lres1 n S T i).1 (Lres1 n S T i).2.1 (Lres1 n S T i).2.2 0 0 J M I' L')) noX := by
  refine VM_of _ [(0, .ref 1), (1, .int (nI i)), (2, .ref (lid i 0))] rfl (fun a => Nat.le_of_ble_eq_true rfl) rfl ?_
  have hcl := (h.1.2.2.2.2.2 i hi).2.2.2.2.2.1 hbl
  obtain ⟨b1, b2, b3⟩ := (h.2.1.2.2.2.2.2.2.1 i hi).2.1.2 hbl
  have hp32 := h.2.1.2.2.2.1.1.2
  have hS1 : I 351 (N (S 217 i)) = S 229 (N (S 217 i)) := congrFun h.1.2.2.1.2.2.1 _
  have hc0 := CX_cnt h
  have hn8 := h.2.1.1
  refine q_aload_n dX4_resume_0 rfl ?_
  refine q_getI (lid (i) 0) 1 4 (vq_isL (hi) 0 (by decide) rfl) (by decide) rfl (by decide) f_X4_68 rfl dX4_resume_1 ?_
  rw [hcl.1.trans b3.1]
  refine q_istore_n [(3, _), (0, _), (1, _), (2, _)] dX4_resume_4 (by decide) rfl ?_
  refine q_aload_n dX4_resume_5 rfl ?_
  refine q_getR 1 4 1 5 (is_1 n) (by decide) rfl rfl (by decide) f_X4_21 rfl dX4_resume_6 ?_
  refine q_iload_n dX4_resume_9 rfl ?_
  refine q_calli [.int _] o_X2_isPending rfl k_X4_97 rfl (is_5 n) (by decide) rfl dX4_resume_10 (Nat.le_of_ble_eq_true rfl) (by omega) (by decide) (by omega) (Or.inr rfl) (c_isPending l n (d - 1) I L (N (S 217 i)) hn (by have := b3.2; omega)) (fun _ _ _ h => h.elim) (fun r1 I1 L1 hq => ?_)
  obtain ⟨e1, e2, e3⟩ := hq
  cases e1
  cases e2.symm
  cases e3.symm
  rw [hS1]
  refine q_if_eq 18 dX4_resume_13 (by decide) (fun h13 => ?_) (fun h13 => ?_)
  · rw [bI_z] at h13
    have hX := CX_unb (i := i) h
    have htu : tr (upI S 214 i 0) = tr S := by simp [tr, rdI]
    have hX2 := CX_log (nI i) 10 (S 217 i) hX (by omega)
    have g1 := gc_log (T := T) (w := 0) (nI i) 10 (S 217 i) hX.2.1 (by omega) (by omega)
    have hph := g1.2
    have e204 : Flog (upI S 214 i 0) (nI i) 10 (S 217 i) 204 = S 204 := by simp [Flog, Rlog, upI_ne]
    have e3 : Flog (upI S 214 i 0) (nI i) 10 (S 217 i) 30 3 = S 30 3 := by simp [Flog, Rlog, rdI]
    refine q_aload_n dX4_resume_18 rfl ?_
    refine q_iconst (-1) dX4_resume_19 (by decide) ?_
    refine q_putI (lid (i) 0) 1 4 (vq_isL (hi) 0 (by decide) rfl) (by decide) rfl (by decide) rfl rfl f_X4_68 rfl dX4_resume_20 ?_
    refine q_aload_n dX4_resume_23 rfl ?_
    refine q_getR 1 4 4 3 (is_1 n) (by decide) rfl rfl (by decide) f_X4_45 rfl dX4_resume_24 ?_
    refine q_iload_n dX4_resume_27 rfl ?_
    refine q_bipush (10) dX4_resume_28 (by decide) ?_
    refine q_iload_n dX4_resume_30 rfl ?_
    rw [← b3.1]
    refine q_callv [.int _, .int _, .int _] o_X8_log rfl k_X4_102 rfl (is_3 n) (by decide) rfl dX4_resume_31 (Nat.le_of_ble_eq_true rfl) (by omega) (by decide) (by omega) rfl (c_log l n hn (d - 1) _ L (tr S) (nI i) 10 (S 217 i) (by simpa [rdI, ne_lid] using hc0) (by omega)) (fun _ _ _ h => h.elim) (fun I2 L2 hq => ?_)
    obtain ⟨-, e5, e6⟩ := hq
    subst e5
    cases e6.symm
    rw [htu] at hX2
    have f5 : Clog (upI I (lid i 0) 4 (-1)) (tr S) (nI i) 10 (S 217 i) (lid i 0) 5 = nI (N (S 215 i)) := by
      rw [← b1.1, ← hcl.2.1]
      simp [Clog, rdI, lid_ne]
    have f6 : Clog (upI I (lid i 0) 4 (-1)) (tr S) (nI i) 10 (S 217 i) (lid i 0) 6 = nI (N (S 216 i)) := by
      rw [← b2.1, ← hcl.2.2]
      simp [Clog, rdI, lid_ne]
    generalize Clog (upI I (lid i 0) 4 (-1)) (tr S) (nI i) 10 (S 217 i) = I2 at *
    obtain ⟨hcD, hcG⟩ := c_lev l n (nbt_i hi hn) hn 12
    obtain ⟨hD, hG⟩ := lev_ok (nbt_i hi hn) 12
    refine q_aload_n dX4_resume_34 rfl ?_
    refine q_iload_n dX4_resume_35 rfl ?_
    refine q_aload_n dX4_resume_36 rfl ?_
    refine q_getI (lid (i) 0) 1 5 (vq_isL (hi) 0 (by decide) rfl) (by decide) rfl (by decide) f_X4_106 rfl dX4_resume_37 ?_
    refine q_aload_n dX4_resume_40 rfl ?_
    refine q_getI (lid (i) 0) 1 6 (vq_isL (hi) 0 (by decide) rfl) (by decide) rfl (by decide) f_X4_109 rfl dX4_resume_41 ?_
    rw [f5, f6]
    refine q_callv [.int _, .int _, .int _] o_X4_doOrders rfl k_X4_112 rfl (is_1 n) (by decide) rfl dX4_resume_44 (Nat.le_of_ble_eq_true rfl) (by omega) (by decide) (by omega) rfl (c_doOrders l n (d - 1) I2 L (nbt_i hi hn) hcD hD hcG hG (N (S 215 i)) (N (S 216 i)) (N (S 204 (N (S 215 i))) - N (S 216 i)) hn (by rw [e204]; omega) hX2 (by omega) (by rw [e3]; exact b1.2) (by omega) (by omega) (by omega) (by simp only [Ph] at hph ⊢; omega) (by omega)) (fun _ _ _ h => h.elim) (fun I3 L3 hq => ?_)
    obtain ⟨-, hX3⟩ := hq
    refine q_iconst (1) dX4_resume_47 (by decide) ?_
    exact q_iret dX4_resume_48 rfl (by omega) ⟨fun q => absurd q h13, fun _ => ⟨rfl, hX3⟩⟩
  · rw [bI_z, Decidable.not_not] at h13
    refine q_iconst (2) dX4_resume_16 (by decide) ?_
    exact q_iret dX4_resume_17 rfl (by omega) ⟨fun _ => ⟨rfl, h⟩, fun q => absurd h13 q⟩
set_option maxHeartbeats 8000000 in
set_option maxRecDepth 100000 in
theorem c_beginFirst {J S : MI} {T M : ML} (i : Nat) (hn : n < 2 ^ 31) (hi : i < n) (h : CX n S T 0 0 0 J M I L) (hs3 : S 208 i ≤ 3) (hq0 : S 209 i ≠ 0) (hb : tr S + 40200 < 2 ^ 31) (hd : 150 ≤ d) : VM l n m_X4_beginFirst d 0 [.ref 1, .int (nI i), .ref (lid i 0)] I L (fun r I' L' => r = none ∧ CX n (Lbeg n S T i).1 (Lbeg n S T i).2.1 (Lbeg n S T i).2.2 0 0 J M I' L') noX := by
  refine VM_of _ [(0, .ref 1), (1, .int (nI i)), (2, .ref (lid i 0))] rfl (fun a => Nat.le_of_ble_eq_true rfl) rfl ?_
  have hn8 := h.2.1.1
  have hq := (h.2.1.2.2.2.2.2.2.1 i hi).1
  have hqp : 0 < N (S 209 i) := by
    rcases Nat.eq_zero_or_pos (N (S 209 i)) with q | q
    · exact absurd (by rw [hq.1.1, q]; rfl) hq0
    · exact q
  obtain ⟨c1, f, hf, hfe, hqe⟩ := (h.1.2.2.2.2.2 i hi).1
  obtain ⟨k1, k2, k3⟩ := hqe 0 hqp
  rw [Nat.add_zero, Nat.mod_eq_of_lt hf, Nat.add_zero] at k1 k2 k3
  have hok := hq.2 0 hqp
  rw [Nat.add_zero] at hok
  have hba : I (lid i 0) 3 = S 210 i := (h.1.2.2.2.2.2 i hi).2.2.2.1
  have hX1 := CX_deq h hi hf hfe hqp
  have hX2 := CX_ba (i := i) (S 210 i - 1) hX1
  have e208 : upI (Fdeq S i) 210 i (S 210 i - 1) 208 i = S 208 i := by simp [rdI, Fdeq_ne]
  have hX3 := CX_last (i := i) hX2 (by rw [e208]; exact hs3)
  have eT : Tlast (upI (Fdeq S i) 210 i (S 210 i - 1)) T i = Tlast S T i := by
    unfold Tlast
    rw [e208]
  rw [eT] at hX3
  have htu : tr (upI (Fdeq S i) 210 i (S 210 i - 1)) = tr S := by simp [tr, rdI, Fdeq_ne]
  have e3 : upI (Fdeq S i) 210 i (S 210 i - 1) 30 3 = S 30 3 := by simp [rdI, Fdeq_ne]
  have e34 : upI (Fdeq S i) 210 i (S 210 i - 1) 30 34 = S 30 34 := by simp [rdI, Fdeq_ne]
  have e204 : upI (Fdeq S i) 210 i (S 210 i - 1) 204 = S 204 := by simp [upI_ne, Fdeq_ne]
  have e236 : upI (Fdeq S i) 210 i (S 210 i - 1) 236 = S 236 := by simp [upI_ne, Fdeq_ne]
  have hc0 := CX_cnt hX3
  rw [htu] at hc0
  obtain ⟨hcD, hcG⟩ := c_lev l n (nbt_i hi hn) hn 12
  obtain ⟨hD, hG⟩ := lev_ok (nbt_i hi hn) 12
  refine q_aload_n dX4_beginFirst_0 rfl ?_
  refine q_getR (lid (i) 0) 1 0 (lid (i) 1) (vq_isL (hi) 0 (by decide) rfl) (by decide) rfl ((gr_lid (i) 0 0 (by decide)).trans rfl) (by decide) f_X4_82 rfl dX4_beginFirst_1 ?_
  refine q_getI (lid (i) 1) 3 3 (vq_isL (hi) 1 (by decide) rfl) (by decide) rfl (by decide) f_X4_115 rfl dX4_beginFirst_4 ?_
  rw [hfe]
  refine q_istore_n [(3, _), (0, _), (1, _), (2, _)] dX4_beginFirst_7 (by decide) rfl ?_
  refine q_aload_n dX4_beginFirst_8 rfl ?_
  refine q_getR (lid (i) 0) 1 0 (lid (i) 1) (vq_isL (hi) 0 (by decide) rfl) (by decide) rfl ((gr_lid (i) 0 0 (by decide)).trans rfl) (by decide) f_X4_82 rfl dX4_beginFirst_9 ?_
  refine q_getR (lid (i) 1) 3 0 (lid (i) 3) (vq_isL (hi) 1 (by decide) rfl) (by decide) rfl ((gr_lid (i) 1 0 (by decide)).trans rfl) (by decide) f_X4_118 rfl dX4_beginFirst_12 ?_
  refine q_iload_n dX4_beginFirst_15 rfl ?_
  refine q_iald (lid (i) 3) (f) hn (vq_isL (hi) 3 (by decide) rfl) rfl (by rw [gl_lid]; exact hf) dX4_beginFirst_16 ?_
  refine q_istore [(4, _), (3, _), (0, _), (1, _), (2, _)] dX4_beginFirst_17 (by decide) rfl ?_
  refine q_aload_n dX4_beginFirst_19 rfl ?_
  refine q_getR (lid (i) 0) 1 0 (lid (i) 1) (vq_isL (hi) 0 (by decide) rfl) (by decide) rfl ((gr_lid (i) 0 0 (by decide)).trans rfl) (by decide) f_X4_82 rfl dX4_beginFirst_20 ?_
  refine q_getR (lid (i) 1) 3 1 (lid (i) 4) (vq_isL (hi) 1 (by decide) rfl) (by decide) rfl ((gr_lid (i) 1 1 (by decide)).trans rfl) (by decide) f_X4_122 rfl dX4_beginFirst_23 ?_
  refine q_iload_n dX4_beginFirst_26 rfl ?_
  refine q_iald (lid (i) 4) (f) hn (vq_isL (hi) 4 (by decide) rfl) rfl (by rw [gl_lid]; exact hf) dX4_beginFirst_27 ?_
  refine q_istore [(5, _), (4, _), (3, _), (0, _), (1, _), (2, _)] dX4_beginFirst_28 (by decide) rfl ?_
  refine q_aload_n dX4_beginFirst_30 rfl ?_
  refine q_getR (lid (i) 0) 1 0 (lid (i) 1) (vq_isL (hi) 0 (by decide) rfl) (by decide) rfl ((gr_lid (i) 0 0 (by decide)).trans rfl) (by decide) f_X4_82 rfl dX4_beginFirst_31 ?_
  refine q_getR (lid (i) 1) 3 2 (lid (i) 5) (vq_isL (hi) 1 (by decide) rfl) (by decide) rfl ((gr_lid (i) 1 2 (by decide)).trans rfl) (by decide) f_X4_125 rfl dX4_beginFirst_34 ?_
  refine q_iload_n dX4_beginFirst_37 rfl ?_
  refine q_iald (lid (i) 5) (f) hn (vq_isL (hi) 5 (by decide) rfl) rfl (by rw [gl_lid]; exact hf) dX4_beginFirst_38 ?_
  refine q_istore [(6, _), (5, _), (4, _), (3, _), (0, _), (1, _), (2, _)] dX4_beginFirst_39 (by decide) rfl ?_
  refine q_aload_n dX4_beginFirst_41 rfl ?_
  refine q_getR (lid (i) 0) 1 0 (lid (i) 1) (vq_isL (hi) 0 (by decide) rfl) (by decide) rfl ((gr_lid (i) 0 0 (by decide)).trans rfl) (by decide) f_X4_82 rfl dX4_beginFirst_42 ?_
  rw [k1, k2, k3]
  refine q_callv [] o_X3_dropFirst rfl k_X4_128 rfl (vq_isL (hi) 1 (by decide) rfl) (by decide) rfl dX4_beginFirst_45 (Nat.le_of_ble_eq_true rfl) (by omega) (by decide) (by omega) rfl (c_qdrop l n (d - 1) I L i f hi hfe hf) (fun _ _ _ h => h.elim) (fun I2 L2 hq9 => ?_)
  obtain ⟨-, e5, e6⟩ := hq9
  subst e5
  cases e6.symm
  have f3 : Cqdrop I i f (lid i 0) 3 = S 210 i := by rw [← hba]; simp [Cqdrop, rdI, lid_eq]
  refine q_aload_n dX4_beginFirst_48 rfl ?_
  refine q_dup dX4_beginFirst_49 rfl ?_
  refine q_getI (lid (i) 0) 1 3 (vq_isL (hi) 0 (by decide) rfl) (by decide) rfl (by decide) f_X4_75 rfl dX4_beginFirst_50 ?_
  refine q_iconst (1) dX4_beginFirst_53 (by decide) ?_
  refine q_isub dX4_beginFirst_54 ?_
  refine q_putI (lid (i) 0) 1 3 (vq_isL (hi) 0 (by decide) rfl) (by decide) rfl (by decide) rfl rfl f_X4_75 rfl dX4_beginFirst_55 ?_
  refine q_aload_n dX4_beginFirst_58 rfl ?_
  refine q_aload_n dX4_beginFirst_59 rfl ?_
  refine q_getR 1 4 3 2 (is_1 n) (by decide) rfl rfl (by decide) f_X4_37 rfl dX4_beginFirst_60 ?_
  refine q_getL 2 5 2 (is_2 n) (by decide) rfl (by decide) f_X4_131 rfl dX4_beginFirst_63 ?_
  refine q_putL (lid (i) 0) 1 10 (vq_isL (hi) 0 (by decide) rfl) (by decide) rfl (by decide) rfl rfl f_X4_135 rfl dX4_beginFirst_66 ?_
  rw [f3]
  unfold Lbeg Sbeg
  generalize upI (Cqdrop I i f) (lid i 0) 3 (S 210 i - 1) = I3 at *
  generalize upL L (lid i 0) 10 (L 2 2) = L3 at *
  generalize Tlast S T i = T3 at *
  generalize upI (Fdeq S i) 210 i (S 210 i - 1) = S3 at *
  refine q_iload dX4_beginFirst_69 rfl ?_
  refine q_iconst (2) dX4_beginFirst_71 (by decide) ?_
  refine q_icmp_ne 95 dX4_beginFirst_72 (by decide) (fun h72 => ?_) (fun h72 => ?_)
  · have hok2 := hok.resolve_left (fun q => h72 q.1)
    rw [if_neg h72]
    refine q_aload_n dX4_beginFirst_95 rfl ?_
    refine q_getR 1 4 4 3 (is_1 n) (by decide) rfl rfl (by decide) f_X4_45 rfl dX4_beginFirst_96 ?_
    refine q_iload_n dX4_beginFirst_99 rfl ?_
    refine q_iload dX4_beginFirst_100 rfl ?_
    have FIN : ∀ (kk : Int32) (lv : List (Nat × Value)), kk = (if S 211 (24 * i) = 0 then 1 else 5) → vq_lk lv 0 = some (.ref 1) → vq_lk lv 1 = some (.int (nI i)) → vq_lk lv 5 = some (.int (S 212 (24 * i))) → VP l n m_X4_beginFirst d 0 (fun r I' L' => r = none ∧ CX n (Ltop n (nI i) (N (S 212 (24 * i))) (N (S 204 (N (S 212 (24 * i))))) 0 (Flog S3 (nI i) (if S 211 (24 * i) = 0 then 1 else 5) (S 212 (24 * i)), T3, 0)).1 (Ltop n (nI i) (N (S 212 (24 * i))) (N (S 204 (N (S 212 (24 * i))))) 0 (Flog S3 (nI i) (if S 211 (24 * i) = 0 then 1 else 5) (S 212 (24 * i)), T3, 0)).2.1 (Ltop n (nI i) (N (S 212 (24 * i))) (N (S 204 (N (S 212 (24 * i))))) 0 (Flog S3 (nI i) (if S 211 (24 * i) = 0 then 1 else 5) (S 212 (24 * i)), T3, 0)).2.2 0 0 J M I' L') noX 0 110 lv [.int kk, .int (nI i), .ref 3] I3 L3 := by
      intro kk lv hkk l0 l1 l5
      subst hkk
      have hX4 := CX_log (nI i) (if S 211 (24 * i) = 0 then 1 else 5) (S 212 (24 * i)) hX3 (by rw [htu]; omega)
      have g1 := gc_log (T := T3) (w := 0) (nI i) (if S 211 (24 * i) = 0 then 1 else 5) (S 212 (24 * i)) hX3.2.1 (by omega) (by rw [htu]; omega)
      have hph := g1.2
      have d204 : Flog S3 (nI i) (if S 211 (24 * i) = 0 then 1 else 5) (S 212 (24 * i)) 204 = S 204 := by rw [← e204]; simp [Flog, Rlog, upI_ne]
      have d3 : Flog S3 (nI i) (if S 211 (24 * i) = 0 then 1 else 5) (S 212 (24 * i)) 30 3 = S 30 3 := by rw [← e3]; simp [Flog, Rlog, rdI]
      rw [htu] at hX4
      refine q_iload dX4_beginFirst_110 l5 ?_
      refine q_callv [.int _, .int _, .int _] o_X8_log rfl k_X4_102 rfl (is_3 n) (by decide) rfl dX4_beginFirst_112 (Nat.le_of_ble_eq_true rfl) (by omega) (by decide) (by omega) rfl (c_log l n hn (d - 1) I3 L3 (tr S) (nI i) (if S 211 (24 * i) = 0 then 1 else 5) (S 212 (24 * i)) hc0 (by omega)) (fun _ _ _ h => h.elim) (fun I4 L4 hq9 => ?_)
      obtain ⟨-, e5, e6⟩ := hq9
      subst e5
      cases e6.symm
      refine q_aload_n dX4_beginFirst_115 l0 ?_
      refine q_iload_n dX4_beginFirst_116 l1 ?_
      refine q_iload dX4_beginFirst_117 l5 ?_
      refine q_iconst (0) dX4_beginFirst_119 (by decide) ?_
      refine VP_top1 (z := S 212 (24 * i)) (z' := nI (N (S 212 (24 * i)))) hok2.2.1 ?_
      refine q_callv [.int _, .int _, .int _] o_X4_doOrders rfl k_X4_112 rfl (is_1 n) (by decide) rfl dX4_beginFirst_120 (Nat.le_of_ble_eq_true rfl) (by omega) (by decide) (by omega) rfl (c_doOrders l n (d - 1) _ L3 (nbt_i hi hn) hcD hD hcG hG (N (S 212 (24 * i))) 0 (N (S 204 (N (S 212 (24 * i))))) hn (by rw [d204]; omega) hX4 (by omega) (by rw [d3]; exact hok2.2.2) (by omega) (by omega) (by omega) (by simp only [Ph] at hph ⊢; rw [htu] at hph; omega) (by omega)) (fun _ _ _ h => h.elim) (fun I5 L5 hq9 => ?_)
      obtain ⟨-, hX5⟩ := hq9
      exact q_vret dX4_beginFirst_123 rfl (by omega) ⟨rfl, hX5⟩
    refine q_if_ne 109 dX4_beginFirst_102 (by decide) (fun h102 => ?_) (fun h102 => ?_)
    · refine q_iconst (5) dX4_beginFirst_109 (by decide) ?_
      exact FIN 5 _ (by rw [if_neg h102]) rfl rfl rfl
    · refine q_iconst (1) dX4_beginFirst_105 (by decide) ?_
      refine q_goto 110 dX4_beginFirst_106 (by decide) ?_
      exact FIN 1 _ (by rw [if_pos h102]) rfl rfl rfl
  · rw [if_pos h72]
    have hok2 := hok.resolve_right (fun q => by rcases q.1 with q | q <;> rw [h72] at q <;> exact absurd q (by decide))
    have hX4 := CX_log (nI i) 1 (-1) hX3 (by rw [htu]; omega)
    have g1 := gc_log (T := T3) (w := 0) (nI i) 1 (-1) hX3.2.1 (by omega) (by rw [htu]; omega)
    have hph := g1.2
    have d34 : Flog S3 (nI i) 1 (-1) 30 34 = S 30 34 := by rw [← e34]; simp [Flog, Rlog, rdI]
    rw [htu] at hX4
    refine q_aload_n dX4_beginFirst_75 rfl ?_
    refine q_getR 1 4 4 3 (is_1 n) (by decide) rfl rfl (by decide) f_X4_45 rfl dX4_beginFirst_76 ?_
    refine q_iload_n dX4_beginFirst_79 rfl ?_
    refine q_iconst (1) dX4_beginFirst_80 (by decide) ?_
    refine q_iconst (-1) dX4_beginFirst_81 (by decide) ?_
    refine q_callv [.int _, .int _, .int _] o_X8_log rfl k_X4_102 rfl (is_3 n) (by decide) rfl dX4_beginFirst_82 (Nat.le_of_ble_eq_true rfl) (by omega) (by decide) (by omega) rfl (c_log l n hn (d - 1) I3 L3 (tr S) (nI i) 1 (-1) hc0 (by omega)) (fun _ _ _ h => h.elim) (fun I4 L4 hq9 => ?_)
    obtain ⟨-, e5, e6⟩ := hq9
    subst e5
    cases e6.symm
    refine q_aload_n dX4_beginFirst_85 rfl ?_
    refine q_iload_n dX4_beginFirst_86 rfl ?_
    refine q_iload dX4_beginFirst_87 rfl ?_
    refine q_iload dX4_beginFirst_89 rfl ?_
    refine VP_top1 (z := S 212 (24 * i)) (z' := nI (N (S 212 (24 * i)))) hok2.2.1 ?_
    refine q_callv [.int _, .int _, .int _] o_X4_goThrough rfl k_X4_138 rfl (is_1 n) (by decide) rfl dX4_beginFirst_91 (Nat.le_of_ble_eq_true rfl) (by omega) (by decide) (by omega) rfl (c_go l n (d - 1) _ L3 hcD hD hcG hG (N (S 212 (24 * i))) (S 213 (24 * i)) hn hX4 (by omega) (by rw [d34]; exact hok2.2.2) (by omega) (by omega) (by omega) (by simp only [Ph] at hph ⊢; rw [htu] at hph; omega) (by omega)) (fun _ _ _ h => h.elim) (fun I5 L5 hq9 => ?_)
    obtain ⟨-, hX5⟩ := hq9
    exact q_vret dX4_beginFirst_94 rfl (by omega) ⟨rfl, hX5⟩
end

