/-- the memory as the top task's next order begins -/
def Rwk1 (I : MI) (D k a : Nat) : MI := upI (upI I 248 D (nI (k + 1))) 30 52 (nI (a + 1))
def Rwk (n : Nat) (I : MI) (L : ML) (D t k a : Nat) : MI × ML :=
  if 1000 ≤ a ∨ ¬ Fcan n I (I 205 (8 * t + k)) (I 206 (8 * t + k)) (I 207 (8 * t + k)) then (upI (Flog (Rwk1 I D k a) (I 30 51) 2 (nI t)) 30 45 (nI D), L) else Rdo n (Rwk1 I D k a) L (D + 1) (I 205 (8 * t + k)) (I 206 (8 * t + k)) (I 207 (8 * t + k))
theorem co_wk1 (I : MI) (D k a : Nat) : co (Rwk1 I D k a) = co I := by
  unfold Rwk1
  rw [cu_30_52, cu_248]
def Rps1 (I : MI) (D j : Nat) : MI := upI I 248 D (nI (j + 1))
def Rps2 (I : MI) (D c j : Nat) : MI := Flog (Rps1 I D j) (I 30 51) 6 (1000000 * I 239 (6 * c + j) + I 249 D)
/-- the top message, of the channel c, at its place j -/
def Rps (I : MI) (D c j a : Nat) : MI :=
  if nI j = I 236 c then upI (if I 250 D ≠ 0 then Flog I (I 30 51) 2 (-1 - nI c) else Flog I (I 30 51) 8 (I 249 D)) 30 45 (nI D) else
  if I 250 D ≠ 0 then (if I 237 (6 * c + j) = 6 then upI (Rps1 I D j) 30 45 (nI D) else Rps1 I D j) else
  if I 237 (6 * c + j) = 6 then Rps1 I D j else
  if I 237 (6 * c + j) = 1 then upI (Rps2 I D c j) 249 D (I 249 D + I 239 (6 * c + j)) else
  if I 237 (6 * c + j) = 2 then (if I 249 D &&& 1 = 1 then upI (Rps2 I D c j) 30 45 (nI D) else Rps2 I D c j) else
  if I 237 (6 * c + j) = 3 then (if a < 1000 then Rsend (upI (Rps2 I D c j) 30 52 (nI (a + 1))) (D + 1) (c ^^^ 1) (I 249 D) else Rps2 I D c j) else
  if I 237 (6 * c + j) = 4 then Rpush (Rps2 I D c j) (D + 1) 2 (I 238 (6 * c + j)) 0 else
  if I 237 (6 * c + j) = 5 then (if I 249 D - I 249 D / 3 * 3 = 0 then upI (Rps2 I D c j) 250 D 1 else Rps2 I D c j) else Rps2 I D c j
section
variable (l : Launch) (n : Nat) (hn : n < 2 ^ 31) (d : Nat) (I : MI) (L : ML)
set_option maxHeartbeats 8000000 in
set_option maxRecDepth 100000 in
theorem r_work (D t k a : Nat) (hn : n < 2 ^ 31) (h : Inv n I) (hth : nbt (I 30 51) n) (hD : I 30 45 = nI (D + 1)) (hDb : D < 79) (ho : I 247 D = nI t) (ht : t < 24) (hk : I 248 D = nI k) (hk8 : k < 8) (ha : I 30 52 = nI a) (hab : a + 1 < 2 ^ 31) (hk0 : 0 ≤ I 205 (8 * t + k)) (hk13 : I 205 (8 * t + k) ≤ 13) (hcb : tr I + 20 < 2 ^ 31) (hd : 6 ≤ d) : VM l n m_X10_work d 0 [.ref 30] I L (fun r I' L' => r = none ∧ I' = (Rwk n I L D t k a).1 ∧ L' = (Rwk n I L D t k a).2) noX := by
  refine VM_of _ [(0, .ref 30)] rfl (fun a => Nat.le_of_ble_eq_true rfl) rfl ?_
  have e1 : (8 : Int32) * nI t + nI k = nI (8 * t + k) := idx 8 t k
  have hI1 : Inv n (Rwk1 I D k a) := by rw [← Inv_co, co_wk1, Inv_co]; exact h
  have e45 : Rwk1 I D k a 30 45 = nI (D + 1) := by rw [← hD]; simp [Rwk1, rdI]
  have e51 : Rwk1 I D k a 30 51 = I 30 51 := by simp [Rwk1, rdI]
  have etr : tr (Rwk1 I D k a) = tr I := by simp [Rwk1, tr, rdI]
  have hcan : ∀ K A B, Fcan n (Rwk1 I D k a) K A B ↔ Fcan n I K A B := fun K A B => by rw [← Fcan_co, co_wk1, Fcan_co]
  have kthr : 1000 ≤ a ∨ ¬ Fcan n I (I 205 (8 * t + k)) (I 206 (8 * t + k)) (I 207 (8 * t + k)) → VP l n m_X10_work d 0 (fun r I' L' => r = none ∧ I' = (Rwk n I L D t k a).1 ∧ L' = (Rwk n I L D t k a).2) noX 0 93 [(6, .int (I 207 (8 * t + k))), (5, .int (I 206 (8 * t + k))), (4, .int (I 205 (8 * t + k))), (3, .int (nI (8 * t + k))), (2, .int (nI t)), (1, .int (nI D)), (0, .ref 30)] [] (Rwk1 I D k a) L := by
    intro hb
    refine q_aload_n dX10_work_93 rfl ?_
    refine q_aload_n dX10_work_94 rfl ?_
    refine q_getI 30 10 51 (is_30 n) (by decide) rfl (by decide) f_X10_189 rfl dX10_work_95 ?_
    refine q_iconst (2) dX10_work_98 (by decide) ?_
    refine q_iload_n dX10_work_99 rfl ?_
    refine q_callv [.int _, .int _, .int _] o_X10_log rfl k_X10_155 rfl (is_30 n) (by decide) rfl dX10_work_100 (Nat.le_of_ble_eq_true rfl) (by omega) (by decide) (by omega) rfl (r_log l n hn (d - 1) (Rwk1 I D k a) L (tr I) (Rwk1 I D k a 30 51) 2 (nI t) (by rw [← etr]; exact Inv_tr hI1) (by omega)) (fun _ _ _ h => h.elim) (fun I1 L1 hq1 => ?_)
    obtain ⟨-, e2, e3⟩ := hq1
    have e2 : I1 = Flog (Rwk1 I D k a) (I 30 51) 2 (nI t) := by rw [e2, e51, ← etr]; rfl
    subst e2
    cases e3.symm
    have e46 : Flog (Rwk1 I D k a) (I 30 51) 2 (nI t) 30 45 = nI (D + 1) := by rw [← e45]; simp [Flog, Rlog, rdI]
    refine q_aload_n dX10_work_103 rfl ?_
    refine q_dup dX10_work_104 rfl ?_
    refine q_getI 30 10 45 (is_30 n) (by decide) rfl (by decide) f_X10_203 rfl dX10_work_105 ?_
    refine q_iconst (1) dX10_work_108 (by decide) ?_
    refine q_isub dX10_work_109 ?_
    refine q_putI 30 10 45 (is_30 n) (by decide) rfl (by decide) rfl rfl f_X10_203 rfl dX10_work_110 ?_
    rw [e46, nI_pred]
    exact q_vret dX10_work_113 rfl (by omega) ⟨rfl, by rw [Rwk, if_pos hb], by rw [Rwk, if_pos hb]⟩
  refine q_aload_n dX10_work_0 rfl ?_
  refine q_getI 30 10 45 (is_30 n) (by decide) rfl (by decide) f_X10_203 rfl dX10_work_1 ?_
  refine q_iconst (1) dX10_work_4 (by decide) ?_
  refine q_isub dX10_work_5 ?_
  rw [hD, nI_pred]
  refine q_istore_n [(1, _), (0, _)] dX10_work_6 (by decide) rfl ?_
  refine q_aload_n dX10_work_7 rfl ?_
  refine q_getR 30 10 47 247 (is_30 n) (by decide) rfl rfl (by decide) f_X10_120 rfl dX10_work_8 ?_
  refine q_iload_n dX10_work_11 rfl ?_
  refine q_iald 247 (_) hn (is_247 n) rfl (by show _ < 80; omega) dX10_work_12 ?_
  rw [ho]
  refine q_istore_n [(2, _), (1, _), (0, _)] dX10_work_13 (by decide) rfl ?_
  refine q_bipush (8) dX10_work_14 (by decide) ?_
  refine q_iload_n dX10_work_16 rfl ?_
  refine q_imul dX10_work_17 ?_
  refine q_aload_n dX10_work_18 rfl ?_
  refine q_getR 30 10 48 248 (is_30 n) (by decide) rfl rfl (by decide) f_X10_123 rfl dX10_work_19 ?_
  refine q_iload_n dX10_work_22 rfl ?_
  refine q_iald 248 (_) hn (is_248 n) rfl (by show _ < 80; omega) dX10_work_23 ?_
  refine q_iadd dX10_work_24 ?_
  rw [hk, e1]
  refine q_istore_n [(3, _), (2, _), (1, _), (0, _)] dX10_work_25 (by decide) rfl ?_
  refine q_aload_n dX10_work_26 rfl ?_
  refine q_getR 30 10 5 205 (is_30 n) (by decide) rfl rfl (by decide) f_X10_13 rfl dX10_work_27 ?_
  refine q_iload_n dX10_work_30 rfl ?_
  refine q_iald 205 (_) hn (is_205 n) rfl (by show _ < 192; omega) dX10_work_31 ?_
  refine q_istore [(4, _), (3, _), (2, _), (1, _), (0, _)] dX10_work_32 (by decide) rfl ?_
  refine q_aload_n dX10_work_34 rfl ?_
  refine q_getR 30 10 6 206 (is_30 n) (by decide) rfl rfl (by decide) f_X10_16 rfl dX10_work_35 ?_
  refine q_iload_n dX10_work_38 rfl ?_
  refine q_iald 206 (_) hn (is_206 n) rfl (by show _ < 192; omega) dX10_work_39 ?_
  refine q_istore [(5, _), (4, _), (3, _), (2, _), (1, _), (0, _)] dX10_work_40 (by decide) rfl ?_
  refine q_aload_n dX10_work_42 rfl ?_
  refine q_getR 30 10 7 207 (is_30 n) (by decide) rfl rfl (by decide) f_X10_19 rfl dX10_work_43 ?_
  refine q_iload_n dX10_work_46 rfl ?_
  refine q_iald 207 (_) hn (is_207 n) rfl (by show _ < 192; omega) dX10_work_47 ?_
  refine q_istore [(6, _), (5, _), (4, _), (3, _), (2, _), (1, _), (0, _)] dX10_work_48 (by decide) rfl ?_
  refine q_aload_n dX10_work_50 rfl ?_
  refine q_getR 30 10 48 248 (is_30 n) (by decide) rfl rfl (by decide) f_X10_123 rfl dX10_work_51 ?_
  refine q_iload_n dX10_work_54 rfl ?_
  refine q_dup2 dX10_work_55 rfl rfl ?_
  refine q_iald 248 (_) hn (is_248 n) rfl (by show _ < 80; omega) dX10_work_56 ?_
  refine q_iconst (1) dX10_work_57 (by decide) ?_
  refine q_iadd dX10_work_58 ?_
  rw [hk, nI_1]
  refine q_iast 248 (_) hn (is_248 n) rfl (by show _ < 80; omega) dX10_work_59 ?_
  refine q_aload_n dX10_work_60 rfl ?_
  refine q_dup dX10_work_61 rfl ?_
  refine q_getI 30 10 52 (is_30 n) (by decide) rfl (by decide) f_X10_221 rfl dX10_work_62 ?_
  refine q_iconst (1) dX10_work_65 (by decide) ?_
  refine q_iadd dX10_work_66 ?_
  refine q_putI 30 10 52 (is_30 n) (by decide) rfl (by decide) rfl rfl f_X10_221 rfl dX10_work_67 ?_
  refine q_aload_n dX10_work_70 rfl ?_
  refine q_getI 30 10 52 (is_30 n) (by decide) rfl (by decide) f_X10_221 rfl dX10_work_71 ?_
  refine q_sipush (1000) dX10_work_74 (by decide) ?_
  have e2 : upI (upI I 248 D (nI (k + 1))) 30 52 (upI I 248 D (nI (k + 1)) 30 52 + 1) = Rwk1 I D k a := by
    rw [show upI I 248 D (nI (k + 1)) 30 52 = nI a from by rw [← ha]; simp [rdI], nI_1]
    rfl
  rw [e2]
  have e3 : Rwk1 I D k a 30 52 = nI (a + 1) := by simp [Rwk1, rdI]
  rw [e3]
  refine q_icmp_gt 93 dX10_work_77 (by decide) (fun h77 => kthr (Or.inl ?_)) (fun h77 => ?_)
  · have := (nI_ltI (a := 1000) (b := a + 1) (by decide) hab).mp h77
    omega
  have ha9 : ¬ 1000 ≤ a := fun q => h77 ((nI_ltI (a := 1000) (b := a + 1) (by decide) hab).mpr (by omega))
  refine q_aload_n dX10_work_80 rfl ?_
  refine q_iload dX10_work_81 rfl ?_
  refine q_iload dX10_work_83 rfl ?_
  refine q_iload dX10_work_85 rfl ?_
  refine q_calli [.int _, .int _, .int _] o_X10_isSo rfl k_X10_224 rfl (is_30 n) (by decide) rfl dX10_work_87 (Nat.le_of_ble_eq_true rfl) (by omega) (by decide) (by omega) (Or.inr rfl) (r_isSo l n (d - 1) (Rwk1 I D k a) L (I 205 (8 * t + k)) (I 206 (8 * t + k)) (I 207 (8 * t + k)) hn hI1 hk0 hk13 (by omega)) (fun _ _ _ h => h.elim) (fun r1 I1 L1 hq1 => ?_)
  obtain ⟨e4, e5, e6⟩ := hq1
  cases e4
  cases e5.symm
  cases e6.symm
  rw [bI_c (hcan _ _ _)]
  refine q_if_ne 114 dX10_work_90 (by decide) (fun h90 => ?_) (fun h90 => kthr (Or.inr (by rw [bI_z] at h90; exact h90)))
  rw [ne_eq, bI_z, Decidable.not_not] at h90
  refine r_work_sw l n d (Rwk1 I D k a) L (D + 1) (I 205 (8 * t + k)) (I 206 (8 * t + k)) (I 207 (8 * t + k)) _ _ _ hn hI1 (by rw [e51]; exact hth) e45 (by omega) hk0 hk13 ((hcan _ _ _).mpr h90) (by rw [etr]; exact hcb) (by omega) ?_
  have hno : ¬ (1000 ≤ a ∨ ¬ Fcan n I (I 205 (8 * t + k)) (I 206 (8 * t + k)) (I 207 (8 * t + k))) := fun q => q.elim ha9 (fun z => z h90)
  rw [Rwk, if_neg hno]
  exact ⟨rfl, rfl, rfl⟩
set_option maxHeartbeats 8000000 in
set_option maxRecDepth 100000 in
theorem r_pass (D c j a : Nat) (hn : n < 2 ^ 31) (h : Inv n I) (hD : I 30 45 = nI (D + 1)) (hDb : D < 78) (ho : I 247 D = nI c) (hc : c < N (I 30 34)) (hj : I 248 D = nI j) (hj6 : j ≤ N (I 236 c)) (ha : I 30 52 = nI a) (hab : a + 1 < 2 ^ 31) (hcb : tr I + 20 < 2 ^ 31) (hd : 6 ≤ d) : VM l n m_X10_pass d 0 [.ref 30] I L (fun r I' L' => r = none ∧ I' = Rps I D c j a ∧ L' = L) noX := by
  refine VM_of _ [(0, .ref 30)] rfl (fun a => Nat.le_of_ble_eq_true rfl) rfl ?_
  have hct := Inv_tr h
  have h16 := h.2.2.2.2.1.1.2
  obtain ⟨p1, p2, p3⟩ := h.2.2.2.2.1.2.2 c hc
  have p22 := p2.2
  have e1 : (6 : Int32) * nI c + nI j = nI (6 * c + j) := idx 6 c j
  refine q_aload_n dX10_pass_0 rfl ?_
  refine q_getI 30 10 45 (is_30 n) (by decide) rfl (by decide) f_X10_203 rfl dX10_pass_1 ?_
  refine q_iconst (1) dX10_pass_4 (by decide) ?_
  refine q_isub dX10_pass_5 ?_
  rw [hD, nI_pred]
  refine q_istore_n [(1, _), (0, _)] dX10_pass_6 (by decide) rfl ?_
  refine q_aload_n dX10_pass_7 rfl ?_
  refine q_getR 30 10 47 247 (is_30 n) (by decide) rfl rfl (by decide) f_X10_120 rfl dX10_pass_8 ?_
  refine q_iload_n dX10_pass_11 rfl ?_
  refine q_iald 247 (_) hn (is_247 n) rfl (by show _ < 80; omega) dX10_pass_12 ?_
  rw [ho]
  refine q_istore_n [(2, _), (1, _), (0, _)] dX10_pass_13 (by decide) rfl ?_
  refine q_bipush (6) dX10_pass_14 (by decide) ?_
  refine q_iload_n dX10_pass_16 rfl ?_
  refine q_imul dX10_pass_17 ?_
  refine q_aload_n dX10_pass_18 rfl ?_
  refine q_getR 30 10 48 248 (is_30 n) (by decide) rfl rfl (by decide) f_X10_123 rfl dX10_pass_19 ?_
  refine q_iload_n dX10_pass_22 rfl ?_
  refine q_iald 248 (_) hn (is_248 n) rfl (by show _ < 80; omega) dX10_pass_23 ?_
  refine q_iadd dX10_pass_24 ?_
  rw [hj, e1]
  refine q_istore_n [(3, _), (2, _), (1, _), (0, _)] dX10_pass_25 (by decide) rfl ?_
  refine q_aload_n dX10_pass_26 rfl ?_
  refine q_getR 30 10 49 249 (is_30 n) (by decide) rfl rfl (by decide) f_X10_126 rfl dX10_pass_27 ?_
  refine q_iload_n dX10_pass_30 rfl ?_
  refine q_iald 249 (_) hn (is_249 n) rfl (by show _ < 80; omega) dX10_pass_31 ?_
  refine q_istore [(4, _), (3, _), (2, _), (1, _), (0, _)] dX10_pass_32 (by decide) rfl ?_
  refine q_aload_n dX10_pass_34 rfl ?_
  refine q_getR 30 10 48 248 (is_30 n) (by decide) rfl rfl (by decide) f_X10_123 rfl dX10_pass_35 ?_
  refine q_iload_n dX10_pass_38 rfl ?_
  refine q_iald 248 (_) hn (is_248 n) rfl (by show _ < 80; omega) dX10_pass_39 ?_
  rw [hj]
  refine q_aload_n dX10_pass_40 rfl ?_
  refine q_getR 30 10 36 236 (is_30 n) (by decide) rfl rfl (by decide) f_X10_96 rfl dX10_pass_41 ?_
  refine q_iload_n dX10_pass_44 rfl ?_
  refine q_iald 236 (_) hn (is_236 n) rfl (by show _ < 16; omega) dX10_pass_45 ?_
  refine q_icmp_ne 96 dX10_pass_46 (by decide) (fun h46 => ?_) (fun h46 => ?_)
  · have hjl : j < N (I 236 c) := by
      rcases Nat.lt_or_ge j (N (I 236 c)) with q | q
      · exact q
      · exact absurd (by rw [p2.1, show j = N (I 236 c) by omega]) h46
    refine q_aload_n dX10_pass_96 rfl ?_
    refine q_getR 30 10 48 248 (is_30 n) (by decide) rfl rfl (by decide) f_X10_123 rfl dX10_pass_97 ?_
    refine q_iload_n dX10_pass_100 rfl ?_
    refine q_dup2 dX10_pass_101 rfl rfl ?_
    refine q_iald 248 (_) hn (is_248 n) rfl (by show _ < 80; omega) dX10_pass_102 ?_
    refine q_iconst (1) dX10_pass_103 (by decide) ?_
    refine q_iadd dX10_pass_104 ?_
    rw [hj, nI_1]
    refine q_iast 248 (_) hn (is_248 n) rfl (by show _ < 80; omega) dX10_pass_105 ?_
    refine q_aload_n dX10_pass_106 rfl ?_
    refine q_getR 30 10 37 237 (is_30 n) (by decide) rfl rfl (by decide) f_X10_99 rfl dX10_pass_107 ?_
    refine q_iload_n dX10_pass_110 rfl ?_
    refine q_iald 237 (_) hn (is_237 n) rfl (by show _ < 96; omega) dX10_pass_111 ?_
    refine q_istore [(5, _), (4, _), (3, _), (2, _), (1, _), (0, _)] dX10_pass_112 (by decide) rfl ?_
    refine q_aload_n dX10_pass_114 rfl ?_
    refine q_getR 30 10 50 250 (is_30 n) (by decide) rfl rfl (by decide) f_X10_129 rfl dX10_pass_115 ?_
    refine q_iload_n dX10_pass_118 rfl ?_
    refine q_zald 250 (_) hn (is_250 n) rfl (by show _ < 80; omega) dX10_pass_119 ?_
    rw [show upI I 248 D (nI (j + 1)) = Rps1 I D j from rfl]
    have f237 : Rps1 I D j 237 (6 * c + j) = I 237 (6 * c + j) := by simp [Rps1, rdI]
    have f250 : Rps1 I D j 250 D = I 250 D := by simp [Rps1, rdI]
    have f45 : Rps1 I D j 30 45 = nI (D + 1) := by rw [← hD]; simp [Rps1, rdI]
    have f51 : Rps1 I D j 30 51 = I 30 51 := by simp [Rps1, rdI]
    have f239 : Rps1 I D j 239 (6 * c + j) = I 239 (6 * c + j) := by simp [Rps1, rdI]
    have f41 : Rps1 I D j 30 41 = nI (tr I) := by rw [← hct]; simp [Rps1, rdI]
    have ftr : tr (Rps1 I D j) = tr I := by simp [tr, Rps1, rdI]
    rw [f237, f250]
    refine q_if_eq 141 dX10_pass_120 (by decide) (fun h120 => ?_) (fun h120 => ?_)
    · have hno : ¬ I 250 D ≠ 0 := fun q => q h120
      refine q_iload dX10_pass_141 rfl ?_
      refine q_bipush (6) dX10_pass_143 (by decide) ?_
      refine q_icmp_ne 149 dX10_pass_145 (by decide) (fun h145 => ?_) (fun h145 => ?_)
      · refine q_aload_n dX10_pass_149 rfl ?_
        refine q_aload_n dX10_pass_150 rfl ?_
        refine q_getI 30 10 51 (is_30 n) (by decide) rfl (by decide) f_X10_189 rfl dX10_pass_151 ?_
        refine q_bipush (6) dX10_pass_154 (by decide) ?_
        refine q_ldcw n_X10_256 rfl dX10_pass_156 ?_
        refine q_aload_n dX10_pass_159 rfl ?_
        refine q_getR 30 10 39 239 (is_30 n) (by decide) rfl rfl (by decide) f_X10_105 rfl dX10_pass_160 ?_
        refine q_iload_n dX10_pass_163 rfl ?_
        refine q_iald 239 (_) hn (is_239 n) rfl (by show _ < 96; omega) dX10_pass_164 ?_
        rw [f51, f239]
        refine q_imul dX10_pass_165 ?_
        refine q_iload dX10_pass_166 rfl ?_
        refine q_iadd dX10_pass_168 ?_
        refine q_callv [.int _, .int _, .int _] o_X10_log rfl k_X10_155 rfl (is_30 n) (by decide) rfl dX10_pass_169 (Nat.le_of_ble_eq_true rfl) (by omega) (by decide) (by omega) rfl (r_log l n hn (d - 1) (Rps1 I D j) L (tr I) (I 30 51) 6 _ f41 (by omega)) (fun _ _ _ h => h.elim) (fun I1 L1 hq1 => ?_)
        obtain ⟨-, e2, e3⟩ := hq1
        have e2 : I1 = Rps2 I D c j := by rw [e2, ← ftr]; rfl
        subst e2
        cases e3.symm
        have g239 : Rps2 I D c j 239 (6 * c + j) = I 239 (6 * c + j) := by simp [Rps2, Rps1, Flog, Rlog, rdI]
        have g238 : Rps2 I D c j 238 (6 * c + j) = I 238 (6 * c + j) := by simp [Rps2, Rps1, Flog, Rlog, rdI]
        have g45 : Rps2 I D c j 30 45 = nI (D + 1) := by rw [← hD]; simp [Rps2, Rps1, Flog, Rlog, rdI]
        have g52 : Rps2 I D c j 30 52 = nI a := by rw [← ha]; simp [Rps2, Rps1, Flog, Rlog, rdI]
        have gInv : Inv n (Rps2 I D c j) := by
          have hi : Inv n (Rps1 I D j) := by rw [← Inv_co, Rps1, cu_248, Inv_co]; exact h
          exact (Inv_log _ _ _ hi (by rw [ftr]; omega)).1
        have gtr : tr (Rps2 I D c j) + 10 < 2 ^ 31 := by
          have := (tr_log (Rps1 I D j) (I 30 51) 6 (1000000 * I 239 (6 * c + j) + I 249 D) (by rw [ftr]; omega)).1
          rw [ftr] at this
          show tr (Flog (Rps1 I D j) (I 30 51) 6 (1000000 * I 239 (6 * c + j) + I 249 D)) + 10 < 2 ^ 31
          omega
        have t271 : ∀ I', I 237 (6 * c + j) ≠ 5 → I' = Rps I D c j a → VP l n m_X10_pass d 0 (fun r I' L' => r = none ∧ I' = Rps I D c j a ∧ L' = L) noX 0 271 [(5, .int (I 237 (6 * c + j))), (4, .int (I 249 D)), (3, .int (nI (6 * c + j))), (2, .int (nI c)), (1, .int (nI D)), (0, .ref 30)] [] I' L := by
          intro I' n5 e
          refine q_iload dX10_pass_271 rfl ?_
          refine q_iconst (5) dX10_pass_273 (by decide) ?_
          refine q_icmp_ne 291 dX10_pass_274 (by decide) (fun _ => ?_) (fun q => absurd q n5)
          exact q_vret dX10_pass_291 rfl (by omega) ⟨rfl, e, rfl⟩
        have t253 : ∀ I', I 237 (6 * c + j) ≠ 4 → I 237 (6 * c + j) ≠ 5 → I' = Rps I D c j a → VP l n m_X10_pass d 0 (fun r I' L' => r = none ∧ I' = Rps I D c j a ∧ L' = L) noX 0 253 [(5, .int (I 237 (6 * c + j))), (4, .int (I 249 D)), (3, .int (nI (6 * c + j))), (2, .int (nI c)), (1, .int (nI D)), (0, .ref 30)] [] I' L := by
          intro I' n4 n5 e
          refine q_iload dX10_pass_253 rfl ?_
          refine q_iconst (4) dX10_pass_255 (by decide) ?_
          exact q_icmp_ne 271 dX10_pass_256 (by decide) (fun _ => t271 I' n5 e) (fun q => absurd q n4)
        have t217 : ∀ I', I 237 (6 * c + j) ≠ 3 → I 237 (6 * c + j) ≠ 4 → I 237 (6 * c + j) ≠ 5 → I' = Rps I D c j a → VP l n m_X10_pass d 0 (fun r I' L' => r = none ∧ I' = Rps I D c j a ∧ L' = L) noX 0 217 [(5, .int (I 237 (6 * c + j))), (4, .int (I 249 D)), (3, .int (nI (6 * c + j))), (2, .int (nI c)), (1, .int (nI D)), (0, .ref 30)] [] I' L := by
          intro I' n3 n4 n5 e
          refine q_iload dX10_pass_217 rfl ?_
          refine q_iconst (3) dX10_pass_219 (by decide) ?_
          exact q_icmp_ne 253 dX10_pass_220 (by decide) (fun _ => t253 I' n4 n5 e) (fun q => absurd q n3)
        have t193 : ∀ I', I 237 (6 * c + j) ≠ 2 → I 237 (6 * c + j) ≠ 3 → I 237 (6 * c + j) ≠ 4 → I 237 (6 * c + j) ≠ 5 → I' = Rps I D c j a → VP l n m_X10_pass d 0 (fun r I' L' => r = none ∧ I' = Rps I D c j a ∧ L' = L) noX 0 193 [(5, .int (I 237 (6 * c + j))), (4, .int (I 249 D)), (3, .int (nI (6 * c + j))), (2, .int (nI c)), (1, .int (nI D)), (0, .ref 30)] [] I' L := by
          intro I' n2 n3 n4 n5 e
          refine q_iload dX10_pass_193 rfl ?_
          refine q_iconst (2) dX10_pass_195 (by decide) ?_
          exact q_icmp_ne 217 dX10_pass_196 (by decide) (fun _ => t217 I' n3 n4 n5 e) (fun q => absurd q n2)
        refine q_iload dX10_pass_172 rfl ?_
        refine q_iconst (1) dX10_pass_174 (by decide) ?_
        by_cases k1 : I 237 (6 * c + j) = 1
        · have hR : Rps I D c j a = upI (Rps2 I D c j) 249 D (I 249 D + I 239 (6 * c + j)) := by rw [Rps, if_neg h46, if_neg hno, if_neg h145, if_pos k1]
          refine q_icmp_ne 193 dX10_pass_175 (by decide) (fun q => absurd k1 q) (fun _ => ?_)
          refine q_aload_n dX10_pass_178 rfl ?_
          refine q_getR 30 10 49 249 (is_30 n) (by decide) rfl rfl (by decide) f_X10_126 rfl dX10_pass_179 ?_
          refine q_iload_n dX10_pass_182 rfl ?_
          refine q_iload dX10_pass_183 rfl ?_
          refine q_aload_n dX10_pass_185 rfl ?_
          refine q_getR 30 10 39 239 (is_30 n) (by decide) rfl rfl (by decide) f_X10_105 rfl dX10_pass_186 ?_
          refine q_iload_n dX10_pass_189 rfl ?_
          refine q_iald 239 (_) hn (is_239 n) rfl (by show _ < 96; omega) dX10_pass_190 ?_
          refine q_iadd dX10_pass_191 ?_
          refine q_iast 249 (_) hn (is_249 n) rfl (by show _ < 80; omega) dX10_pass_192 ?_
          rw [g239]
          exact t193 _ (by rw [k1]; decide) (by rw [k1]; decide) (by rw [k1]; decide) (by rw [k1]; decide) hR.symm
        refine q_icmp_ne 193 dX10_pass_175 (by decide) (fun _ => ?_) (fun q => absurd q k1)
        refine q_iload dX10_pass_193 rfl ?_
        refine q_iconst (2) dX10_pass_195 (by decide) ?_
        by_cases k2 : I 237 (6 * c + j) = 2
        · have hR : Rps I D c j a = if I 249 D &&& 1 = 1 then upI (Rps2 I D c j) 30 45 (nI D) else Rps2 I D c j := by rw [Rps, if_neg h46, if_neg hno, if_neg h145, if_neg k1, if_pos k2]
          refine q_icmp_ne 217 dX10_pass_196 (by decide) (fun q => absurd k2 q) (fun _ => ?_)
          refine q_iload dX10_pass_199 rfl ?_
          refine q_iconst (1) dX10_pass_201 (by decide) ?_
          refine q_iand dX10_pass_202 ?_
          refine q_iconst (1) dX10_pass_203 (by decide) ?_
          refine q_icmp_ne 217 dX10_pass_204 (by decide) (fun h204 => ?_) (fun h204 => ?_)
          · exact t217 _ (by rw [k2]; decide) (by rw [k2]; decide) (by rw [k2]; decide) (by rw [hR, if_neg h204])
          · refine q_aload_n dX10_pass_207 rfl ?_
            refine q_dup dX10_pass_208 rfl ?_
            refine q_getI 30 10 45 (is_30 n) (by decide) rfl (by decide) f_X10_203 rfl dX10_pass_209 ?_
            refine q_iconst (1) dX10_pass_212 (by decide) ?_
            refine q_isub dX10_pass_213 ?_
            refine q_putI 30 10 45 (is_30 n) (by decide) rfl (by decide) rfl rfl f_X10_203 rfl dX10_pass_214 ?_
            rw [g45, nI_pred]
            exact t217 _ (by rw [k2]; decide) (by rw [k2]; decide) (by rw [k2]; decide) (by rw [hR, if_pos h204])
        refine q_icmp_ne 217 dX10_pass_196 (by decide) (fun _ => ?_) (fun q => absurd q k2)
        refine q_iload dX10_pass_217 rfl ?_
        refine q_iconst (3) dX10_pass_219 (by decide) ?_
        by_cases k3 : I 237 (6 * c + j) = 3
        · have hR : Rps I D c j a = if a < 1000 then Rsend (upI (Rps2 I D c j) 30 52 (nI (a + 1))) (D + 1) (c ^^^ 1) (I 249 D) else Rps2 I D c j := by rw [Rps, if_neg h46, if_neg hno, if_neg h145, if_neg k1, if_neg k2, if_pos k3]
          refine q_icmp_ne 253 dX10_pass_220 (by decide) (fun q => absurd k3 q) (fun _ => ?_)
          refine q_aload_n dX10_pass_223 rfl ?_
          refine q_getI 30 10 52 (is_30 n) (by decide) rfl (by decide) f_X10_221 rfl dX10_pass_224 ?_
          refine q_sipush (1000) dX10_pass_227 (by decide) ?_
          rw [g52]
          refine q_icmp_ge 253 dX10_pass_230 (by decide) (fun h230 => ?_) (fun h230 => ?_)
          · exact t253 _ (by rw [k3]; decide) (by rw [k3]; decide) (by rw [hR, if_neg (fun q => absurd h230 (nI_ge (b := 1000) q (by decide)))])
          · have hal : a < 1000 := Decidable.byContradiction (fun q => h230 (nI_le (a := 1000) (by omega) (by omega)))
            have hXi : Inv n (upI (Rps2 I D c j) 30 52 (nI (a + 1))) := by rw [← Inv_co, cu_30_52, Inv_co]; exact gInv
            have hpl : c ^^^ 1 < N (I 30 34) := by
              have := (peer_ok (a := nI c) h (by unfold nbt; rw [N_nI (by omega)]; exact ⟨rfl, hc⟩)).2.2
              rw [N_nI (by omega)] at this
              exact this
            have i34 : upI (Rps2 I D c j) 30 52 (nI (a + 1)) 30 34 = I 30 34 := by simp [Rps2, Rps1, Flog, Rlog, rdI]
            obtain ⟨z1, z2, z3⟩ := hXi.2.2.2.2.1.2.2 (c ^^^ 1) (by rw [i34]; exact hpl)
            have htx : tr (upI (Rps2 I D c j) 30 52 (nI (a + 1))) = tr (Rps2 I D c j) := by simp [tr, rdI]
            refine q_aload_n dX10_pass_233 rfl ?_
            refine q_dup dX10_pass_234 rfl ?_
            refine q_getI 30 10 52 (is_30 n) (by decide) rfl (by decide) f_X10_221 rfl dX10_pass_235 ?_
            refine q_iconst (1) dX10_pass_238 (by decide) ?_
            refine q_iadd dX10_pass_239 ?_
            refine q_putI 30 10 52 (is_30 n) (by decide) rfl (by decide) rfl rfl f_X10_221 rfl dX10_pass_240 ?_
            refine q_aload_n dX10_pass_243 rfl ?_
            refine q_iload_n dX10_pass_244 rfl ?_
            refine q_iconst (1) dX10_pass_245 (by decide) ?_
            refine q_ixor dX10_pass_246 ?_
            refine q_iload dX10_pass_247 rfl ?_
            rw [g52, nI_1, peer_nI c (by omega)]
            refine q_calli [.int _, .int _] o_X10_send rfl k_X10_246 rfl (is_30 n) (by decide) rfl dX10_pass_249 (Nat.le_of_ble_eq_true rfl) (by omega) (by decide) (by omega) (Or.inr rfl) (r_send l n (d - 1) (upI (Rps2 I D c j) 30 52 (nI (a + 1))) L (D + 1) (c ^^^ 1) (I 249 D) hn h.1.2 (by rw [← g45]; simp [rdI]) (by omega) (by omega) z1 ((hXi.2.2.2.2.2.2.1 _ z1.2).1.1) (Inv_tr hXi) (by omega) (by omega)) (fun _ _ _ h => h.elim) (fun r2 I2 L2 hq1 => ?_)
            obtain ⟨e1, e2, e3⟩ := hq1
            cases e1
            subst e2
            cases e3.symm
            refine q_pop dX10_pass_252 rfl ?_
            exact t253 _ (by rw [k3]; decide) (by rw [k3]; decide) (by rw [hR, if_pos hal])
        refine q_icmp_ne 253 dX10_pass_220 (by decide) (fun _ => ?_) (fun q => absurd q k3)
        refine q_iload dX10_pass_253 rfl ?_
        refine q_iconst (4) dX10_pass_255 (by decide) ?_
        by_cases k4 : I 237 (6 * c + j) = 4
        · have hR : Rps I D c j a = Rpush (Rps2 I D c j) (D + 1) 2 (I 238 (6 * c + j)) 0 := by rw [Rps, if_neg h46, if_neg hno, if_neg h145, if_neg k1, if_neg k2, if_neg k3, if_pos k4]
          refine q_icmp_ne 271 dX10_pass_256 (by decide) (fun q => absurd k4 q) (fun _ => ?_)
          refine q_aload_n dX10_pass_259 rfl ?_
          refine q_iconst (2) dX10_pass_260 (by decide) ?_
          refine q_aload_n dX10_pass_261 rfl ?_
          refine q_getR 30 10 38 238 (is_30 n) (by decide) rfl rfl (by decide) f_X10_102 rfl dX10_pass_262 ?_
          refine q_iload_n dX10_pass_265 rfl ?_
          refine q_iald 238 (_) hn (is_238 n) rfl (by show _ < 96; omega) dX10_pass_266 ?_
          refine q_iconst (0) dX10_pass_267 (by decide) ?_
          rw [g238]
          refine q_callv [.int _, .int _, .int _] o_X10_push rfl k_X10_209 rfl (is_30 n) (by decide) rfl dX10_pass_268 (Nat.le_of_ble_eq_true rfl) (by omega) (by decide) (by omega) rfl (r_push l n (d - 1) (Rps2 I D c j) L (D + 1) 2 (I 238 (6 * c + j)) 0 hn g45 (by omega)) (fun _ _ _ h => h.elim) (fun I2 L2 hq1 => ?_)
          obtain ⟨-, e2, e3⟩ := hq1
          subst e2
          cases e3.symm
          exact t271 _ (by rw [k4]; decide) hR.symm
        refine q_icmp_ne 271 dX10_pass_256 (by decide) (fun _ => ?_) (fun q => absurd q k4)
        refine q_iload dX10_pass_271 rfl ?_
        refine q_iconst (5) dX10_pass_273 (by decide) ?_
        by_cases k5 : I 237 (6 * c + j) = 5
        · have hR : Rps I D c j a = if I 249 D - I 249 D / 3 * 3 = 0 then upI (Rps2 I D c j) 250 D 1 else Rps2 I D c j := by rw [Rps, if_neg h46, if_neg hno, if_neg h145, if_neg k1, if_neg k2, if_neg k3, if_neg k4, if_pos k5]
          refine q_icmp_ne 291 dX10_pass_274 (by decide) (fun q => absurd k5 q) (fun _ => ?_)
          refine q_iload dX10_pass_277 rfl ?_
          refine q_iconst (3) dX10_pass_279 (by decide) ?_
          refine q_irem dX10_pass_280 (by decide) ?_
          refine q_if_ne 291 dX10_pass_281 (by decide) (fun h281 => ?_) (fun h281 => ?_)
          · exact q_vret dX10_pass_291 rfl (by omega) ⟨rfl, by rw [hR, if_neg h281], rfl⟩
          · refine q_aload_n dX10_pass_284 rfl ?_
            refine q_getR 30 10 50 250 (is_30 n) (by decide) rfl rfl (by decide) f_X10_129 rfl dX10_pass_285 ?_
            refine q_iload_n dX10_pass_288 rfl ?_
            refine q_iconst (1) dX10_pass_289 (by decide) ?_
            refine q_zast 250 (_) hn (is_250 n) rfl (by show _ < 80; omega) (by decide) dX10_pass_290 ?_
            exact q_vret dX10_pass_291 rfl (by omega) ⟨rfl, by rw [hR, if_pos h281], rfl⟩
        · refine q_icmp_ne 291 dX10_pass_274 (by decide) (fun _ => ?_) (fun q => absurd q k5)
          exact q_vret dX10_pass_291 rfl (by omega) ⟨rfl, by rw [Rps, if_neg h46, if_neg hno, if_neg h145, if_neg k1, if_neg k2, if_neg k3, if_neg k4, if_neg k5], rfl⟩
      · exact q_vret dX10_pass_148 rfl (by omega) ⟨rfl, by rw [Rps, if_neg h46, if_neg hno, if_pos h145], rfl⟩
    · refine q_iload dX10_pass_123 rfl ?_
      refine q_bipush (6) dX10_pass_125 (by decide) ?_
      refine q_icmp_ne 140 dX10_pass_127 (by decide) (fun h127 => ?_) (fun h127 => ?_)
      · exact q_vret dX10_pass_140 rfl (by omega) ⟨rfl, by rw [Rps, if_neg h46, if_pos h120, if_neg h127], rfl⟩
      · refine q_aload_n dX10_pass_130 rfl ?_
        refine q_dup dX10_pass_131 rfl ?_
        refine q_getI 30 10 45 (is_30 n) (by decide) rfl (by decide) f_X10_203 rfl dX10_pass_132 ?_
        refine q_iconst (1) dX10_pass_135 (by decide) ?_
        refine q_isub dX10_pass_136 ?_
        refine q_putI 30 10 45 (is_30 n) (by decide) rfl (by decide) rfl rfl f_X10_203 rfl dX10_pass_137 ?_
        rw [f45, nI_pred]
        exact q_vret dX10_pass_140 rfl (by omega) ⟨rfl, by rw [Rps, if_neg h46, if_pos h120, if_pos h127], rfl⟩
  · refine q_aload_n dX10_pass_49 rfl ?_
    refine q_getR 30 10 50 250 (is_30 n) (by decide) rfl rfl (by decide) f_X10_129 rfl dX10_pass_50 ?_
    refine q_iload_n dX10_pass_53 rfl ?_
    refine q_zald 250 (_) hn (is_250 n) rfl (by show _ < 80; omega) dX10_pass_54 ?_
    refine q_if_eq 73 dX10_pass_55 (by decide) (fun h55 => ?_) (fun h55 => ?_)
    · refine q_aload_n dX10_pass_73 rfl ?_
      refine q_aload_n dX10_pass_74 rfl ?_
      refine q_getI 30 10 51 (is_30 n) (by decide) rfl (by decide) f_X10_189 rfl dX10_pass_75 ?_
      refine q_bipush (8) dX10_pass_78 (by decide) ?_
      refine q_iload dX10_pass_80 rfl ?_
      refine q_callv [.int _, .int _, .int _] o_X10_log rfl k_X10_155 rfl (is_30 n) (by decide) rfl dX10_pass_82 (Nat.le_of_ble_eq_true rfl) (by omega) (by decide) (by omega) rfl (r_log l n hn (d - 1) I L (tr I) (I 30 51) 8 (I 249 D) hct (by omega)) (fun _ _ _ h => h.elim) (fun I1 L1 hq1 => ?_)
      obtain ⟨-, e2, e3⟩ := hq1
      have e2 : I1 = Flog I (I 30 51) 8 (I 249 D) := e2
      subst e2
      cases e3.symm
      have e46 : Flog I (I 30 51) 8 (I 249 D) 30 45 = nI (D + 1) := by rw [← hD]; simp [Flog, Rlog, rdI]
      refine q_aload_n dX10_pass_85 rfl ?_
      refine q_dup dX10_pass_86 rfl ?_
      refine q_getI 30 10 45 (is_30 n) (by decide) rfl (by decide) f_X10_203 rfl dX10_pass_87 ?_
      refine q_iconst (1) dX10_pass_90 (by decide) ?_
      refine q_isub dX10_pass_91 ?_
      refine q_putI 30 10 45 (is_30 n) (by decide) rfl (by decide) rfl rfl f_X10_203 rfl dX10_pass_92 ?_
      rw [e46, nI_pred]
      exact q_vret dX10_pass_95 rfl (by omega) ⟨rfl, by rw [Rps, if_pos h46, if_neg (fun q => q h55)], rfl⟩
    · refine q_aload_n dX10_pass_58 rfl ?_
      refine q_aload_n dX10_pass_59 rfl ?_
      refine q_getI 30 10 51 (is_30 n) (by decide) rfl (by decide) f_X10_189 rfl dX10_pass_60 ?_
      refine q_iconst (2) dX10_pass_63 (by decide) ?_
      refine q_iconst (-1) dX10_pass_64 (by decide) ?_
      refine q_iload_n dX10_pass_65 rfl ?_
      refine q_isub dX10_pass_66 ?_
      refine q_callv [.int _, .int _, .int _] o_X10_log rfl k_X10_155 rfl (is_30 n) (by decide) rfl dX10_pass_67 (Nat.le_of_ble_eq_true rfl) (by omega) (by decide) (by omega) rfl (r_log l n hn (d - 1) I L (tr I) (I 30 51) 2 (-1 - nI c) hct (by omega)) (fun _ _ _ h => h.elim) (fun I1 L1 hq1 => ?_)
      obtain ⟨-, e2, e3⟩ := hq1
      have e2 : I1 = Flog I (I 30 51) 2 (-1 - nI c) := e2
      subst e2
      cases e3.symm
      have e46 : Flog I (I 30 51) 2 (-1 - nI c) 30 45 = nI (D + 1) := by rw [← hD]; simp [Flog, Rlog, rdI]
      refine q_goto 85 dX10_pass_70 (by decide) ?_
      refine q_aload_n dX10_pass_85 rfl ?_
      refine q_dup dX10_pass_86 rfl ?_
      refine q_getI 30 10 45 (is_30 n) (by decide) rfl (by decide) f_X10_203 rfl dX10_pass_87 ?_
      refine q_iconst (1) dX10_pass_90 (by decide) ?_
      refine q_isub dX10_pass_91 ?_
      refine q_putI 30 10 45 (is_30 n) (by decide) rfl (by decide) rfl rfl f_X10_203 rfl dX10_pass_92 ?_
      rw [e46, nI_pred]
      exact q_vret dX10_pass_95 rfl (by omega) ⟨rfl, by rw [Rps, if_pos h46, if_pos h55], rfl⟩
end

