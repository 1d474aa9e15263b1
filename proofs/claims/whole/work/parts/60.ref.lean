/-! ===== the host's calls of the reference ===== -/
theorem nb_iff {x : Int32} {b : Nat} (h : nb x b) (hb : b < 2 ^ 31) : x < nI b ↔ ¬ x = nI b := ⟨nlt_ne, fun q => Decidable.byContradiction (fun z => q (nb_nlt h hb z))⟩
theorem in_k (x lo hi : Int32) {lo' hi' : Int64} (h1 : lo.toInt64 = lo') (h2 : hi.toInt64 = hi') : (lo' ≤ x.toInt64 ∧ x.toInt64 ≤ hi') ↔ (lo ≤ x ∧ x ≤ hi) := by
  subst h1
  subst h2
  rw [Int64.le_iff_toInt_le, Int64.le_iff_toInt_le, Int32.toInt_toInt64, Int32.toInt_toInt64, Int32.toInt_toInt64, Int32.le_iff_toInt_le, Int32.le_iff_toInt_le]
section
variable {H : HR} {I I1 I' S' : MI} {L L' T' : ML} {c r : Int32}
theorem RP_nc (e : H = (c, r, S', T')) (h0 : I1 30 0 = c) (hk : KI I I1) (hnc : nc I1 I') (hncL : ncL L L') (hco : co I' = S') (hcoL : coL L' = T') : RP H I L (some (.int r)) I' L' := by
  subst e
  exact ⟨rfl, (hnc 30 0 (by decide)).trans h0, ⟨hco, hcoL⟩, hk.tns (KI.nc hnc), KL.nc hncL⟩
theorem RPv_nc (e : H = (c, r, S', T')) (h0 : I1 30 0 = c) (hk : KI I I1) (hnc : nc I1 I') (hncL : ncL L L') (hco : co I' = S') (hcoL : coL L' = T') : RPv H I L none I' L' := by
  subst e
  exact ⟨rfl, (hnc 30 0 (by decide)).trans h0, ⟨hco, hcoL⟩, hk.tns (KI.nc hnc), KL.nc hncL⟩
theorem RP_0 (e : H = (c, r, co I, coL L)) : RP H I L (some (.int r)) (upI I 30 0 c) L := RP_nc e (if_pos ⟨rfl, rfl⟩) (KI.rf.up (Or.inl rfl)) nc.rf ncL.rf (cu_30_0 _ _) rfl
theorem RPv_0 (e : H = (c, r, co I, coL L)) : RPv H I L none (upI I 30 0 c) L := RPv_nc e (if_pos ⟨rfl, rfl⟩) (KI.rf.up (Or.inl rfl)) nc.rf ncL.rf (cu_30_0 _ _) rfl
end
/-- the memory as a call of the host begins to do something -/
def Rho (I : MI) : MI := upI (upI (upI I 30 0 0) 30 51 (-1)) 30 45 0
theorem co_ho (I : MI) : co (Rho I) = co I := by rw [Rho, cu_30_45, cu_30_51, cu_30_0]
theorem ho_0 (I : MI) : Rho I 30 0 = 0 := by simp [Rho, rdI]
theorem ho_51 (I : MI) : Rho I 30 51 = -1 := by simp [Rho, rdI]
theorem ho_45 (I : MI) : Rho I 30 45 = nI 0 := by simp [Rho, rdI]; rfl
theorem ho_K (I : MI) : KI I (Rho I) := ((KI.rf.up (Or.inl rfl)).up (Or.inl rfl)).up (Or.inl rfl)
theorem ho_Inv {n : Nat} {I : MI} (h : Inv n I) : Inv n (Rho I) := by rw [← Inv_co, co_ho, Inv_co]; exact h
section
variable (l : Launch) (n : Nat) (hn : n < 2 ^ 31) (d : Nat) (I : MI) (L : ML)
set_option maxHeartbeats 8000000 in
set_option maxRecDepth 100000 in
theorem rh_task (hn : n < 2 ^ 31) (h : Inv n I) (hd : 40 ≤ d) : VM l n m_X10_task d 0 [.ref 30] I L (RP (Htask (co I) (coL L)) I L) noX := by
  refine VM_of _ [(0, .ref 30)] rfl (fun a => Nat.le_of_ble_eq_true rfl) rfl ?_
  have hn8 := h.1
  have hct := Inv_tr h
  have ht := h.2.2.1.1
  refine q_aload_n dX10_task_0 rfl ?_
  refine q_aload_n dX10_task_1 rfl ?_
  refine q_getI 30 10 3 (is_30 n) (by decide) rfl (by decide) f_X10_139 rfl dX10_task_2 ?_
  refine q_bipush (24) dX10_task_5 (by decide) ?_
  refine q_icmp_ne 14 dX10_task_7 (by decide) (fun h7 => ?_) (fun h7 => ?_)
  · have eH : Htask (co I) (coL L) = (0, I 30 3, Ftask (co I), coL L) := by rw [Htask, co_30_3, if_pos (show I 30 3 < 24 from (nb_iff ht (by decide)).mpr h7)]
    refine q_iconst (0) dX10_task_14 (by decide) ?_
    refine q_iconst (0) dX10_task_15 (by decide) ?_
    refine q_calli [.int _, .int _] o_X10_throwing rfl k_X10_159 rfl (is_30 n) (by decide) rfl dX10_task_16 (Nat.le_of_ble_eq_true rfl) (by omega) (by decide) (by omega) (Or.inr rfl) (r_thr0 l n (d - 1) I L) (fun _ _ _ h => h.elim) (fun q1 I1 L1 hq1 => ?_)
    obtain ⟨z1, z2, z3⟩ := hq1
    cases z1
    subst z2
    cases z3.symm
    refine q_if_eq 24 dX10_task_19 (by decide) (fun _ => ?_) (fun q => absurd rfl q)
    refine q_aload_n dX10_task_24 rfl ?_
    refine q_dup dX10_task_25 rfl ?_
    refine q_getI 30 10 3 (is_30 n) (by decide) rfl (by decide) f_X10_139 rfl dX10_task_26 ?_
    refine q_iconst (1) dX10_task_29 (by decide) ?_
    refine q_iadd dX10_task_30 ?_
    refine q_putI 30 10 3 (is_30 n) (by decide) rfl (by decide) rfl rfl f_X10_139 rfl dX10_task_31 ?_
    refine q_aload_n dX10_task_34 rfl ?_
    refine q_getI 30 10 3 (is_30 n) (by decide) rfl (by decide) f_X10_139 rfl dX10_task_35 ?_
    refine q_iconst (1) dX10_task_38 (by decide) ?_
    refine q_isub dX10_task_39 ?_
    have e3 : upI I 30 0 0 30 3 = I 30 3 := by simp [rdI]
    have e4 : upI (upI I 30 0 0) 30 3 (I 30 3 + 1) 30 3 = I 30 3 + 1 := by simp [rdI]
    rw [e3, e4, i32_pm]
    refine q_iret dX10_task_40 rfl (by omega) (RP_nc (I1 := upI I 30 0 0) eH (by simp [rdI]) (KI.rf.up (Or.inl rfl)) (nc.rf.up (by decide)) ncL.rf ?_ rfl)
    rw [cu_30_3, cu_30_0]
    rfl
  · have eH : Htask (co I) (coL L) = (1, 0, co I, coL L) := by rw [Htask, co_30_3, if_neg (fun q : I 30 3 < 24 => nlt_ne q h7)]
    refine q_iconst (1) dX10_task_10 (by decide) ?_
    refine q_goto 15 dX10_task_11 (by decide) ?_
    refine q_iconst (0) dX10_task_15 (by decide) ?_
    refine q_calli [.int _, .int _] o_X10_throwing rfl k_X10_159 rfl (is_30 n) (by decide) rfl dX10_task_16 (Nat.le_of_ble_eq_true rfl) (by omega) (by decide) (by omega) (Or.inr rfl) (r_thr1 l n (d - 1) I L 0) (fun _ _ _ h => h.elim) (fun q1 I1 L1 hq1 => ?_)
    obtain ⟨z1, z2, z3⟩ := hq1
    cases z1
    subst z2
    cases z3.symm
    refine q_if_eq 24 dX10_task_19 (by decide) (fun q => absurd q (by decide)) (fun _ => ?_)
    refine q_iconst (0) dX10_task_22 (by decide) ?_
    exact q_iret dX10_task_23 rfl (by omega) (RP_0 eH)
set_option maxHeartbeats 8000000 in
set_option maxRecDepth 100000 in
theorem rh_order (t k a b : Int32) (hn : n < 2 ^ 31) (h : Inv n I) (hd : 40 ≤ d) : VM l n m_X10_order d 0 [.ref 30, .int t, .int k, .int a, .int b] I L (RP (Horder (co I) (coL L) t k a b) I L) noX := by
  refine VM_of _ [(0, .ref 30), (1, .int t), (2, .int k), (3, .int a), (4, .int b)] rfl (fun a => Nat.le_of_ble_eq_true rfl) rfl ?_
  have hn8 := h.1
  have hct := Inv_tr h
  have ht := h.2.2.1.1
  have ht2 := ht.2
  have kbad : ¬ (isT I t ∧ 0 ≤ k ∧ k ≤ 13) → VP l n m_X10_order d 0 (RP (Horder (co I) (coL L) t k a b) I L) noX 0 20 [(0, .ref 30), (1, .int t), (2, .int k), (3, .int a), (4, .int b)] [] I L := by
    intro hbad
    have eH : Horder (co I) (coL L) t k a b = (1, 0, co I, coL L) := by rw [Horder, if_neg (show ¬ (isT (co I) t ∧ 0 ≤ k ∧ k ≤ 13) from hbad)]
    refine q_iconst (1) dX10_order_20 (by decide) ?_
    refine q_goto 25 dX10_order_21 (by decide) ?_
    refine q_istore [(5, _), (0, _), (1, _), (2, _), (3, _), (4, _)] dX10_order_25 (by decide) rfl ?_
    refine q_aload_n dX10_order_27 rfl ?_
    refine q_iload dX10_order_28 rfl ?_
    refine q_iload dX10_order_30 rfl ?_
    refine q_if_ne 50 dX10_order_32 (by decide) (fun _ => ?_) (fun q => absurd q (by decide))
    refine q_iconst (0) dX10_order_50 (by decide) ?_
    refine q_calli [.int _, .int _] o_X10_throwing rfl k_X10_159 rfl (is_30 n) (by decide) rfl dX10_order_51 (Nat.le_of_ble_eq_true rfl) (by omega) (by decide) (by omega) (Or.inr rfl) (r_thr1 l n (d - 1) I L 0) (fun _ _ _ h => h.elim) (fun q1 I1 L1 hq1 => ?_)
    obtain ⟨z1, z2, z3⟩ := hq1
    cases z1
    subst z2
    cases z3.symm
    refine q_if_eq 59 dX10_order_54 (by decide) (fun q => absurd q (by decide)) (fun _ => ?_)
    refine q_iconst (0) dX10_order_57 (by decide) ?_
    exact q_iret dX10_order_58 rfl (by omega) (RP_0 eH)
  refine q_aload_n dX10_order_0 rfl ?_
  refine q_iload_n dX10_order_1 rfl ?_
  refine q_calli [.int _] o_X10_isTask rfl k_X10_163 rfl (is_30 n) (by decide) rfl dX10_order_2 (Nat.le_of_ble_eq_true rfl) (by omega) (by decide) (by omega) (Or.inr rfl) (r_isTask l n (d - 1) I L t ht.1 (by omega) (by omega)) (fun _ _ _ h => h.elim) (fun q1 I1 L1 hq1 => ?_)
  obtain ⟨z1, z2, z3⟩ := hq1
  cases z1
  cases z2.symm
  cases z3.symm
  refine q_if_eq 20 dX10_order_5 (by decide) (fun h5 => kbad (fun q => by rw [bI_z] at h5; exact h5 q.1)) (fun h5 => ?_)
  rw [bI_z, Decidable.not_not] at h5
  refine q_iload_n dX10_order_8 rfl ?_
  refine q_i2l dX10_order_9 ?_
  refine q_lconst (0) dX10_order_10 (by decide) ?_
  refine q_ldc2 n_X10_167 rfl dX10_order_11 ?_
  refine q_calls [.long _, .long _, .long _] o_X10_in rfl k_X10_142 rfl dX10_order_14 (Nat.le_of_ble_eq_true rfl) (by omega) (by decide) (by omega) (Or.inr rfl) (r_in l n (d - 1) I L k.toInt64 0 13) (fun _ _ _ h => h.elim) (fun q1 I1 L1 hq1 => ?_)
  obtain ⟨z1, z2, z3⟩ := hq1
  cases z1
  cases z2.symm
  cases z3.symm
  rw [bI_c (in_k k 0 13 (by decide) (by decide))]
  refine q_if_ne 24 dX10_order_17 (by decide) (fun h17 => ?_) (fun h17 => kbad (fun q => by rw [bI_z] at h17; exact h17 q.2))
  rw [ne_eq, bI_z, Decidable.not_not] at h17
  have hnt := isT_nbt h h5
  have hnt2 := hnt.2
  have h8 := h.2.2.1.2 (N t)
  have eH0 : Horder (co I) (coL L) t k a b = if I 204 (N t) < 8 then (0, I 204 (N t) + 1, Ford (co I) (N t) k a b, coL L) else (2, 0, co I, coL L) := by rw [Horder, if_pos (show isT (co I) t ∧ 0 ≤ k ∧ k ≤ 13 from ⟨h5, h17⟩), co_204]
  refine q_iconst (0) dX10_order_24 (by decide) ?_
  refine q_istore [(5, _), (0, _), (1, _), (2, _), (3, _), (4, _)] dX10_order_25 (by decide) rfl ?_
  refine q_aload_n dX10_order_27 rfl ?_
  refine q_iload dX10_order_28 rfl ?_
  refine q_iload dX10_order_30 rfl ?_
  refine q_if_ne 50 dX10_order_32 (by decide) (fun q => absurd rfl q) (fun _ => ?_)
  refine q_aload_n dX10_order_35 rfl ?_
  refine q_getR 30 10 4 204 (is_30 n) (by decide) rfl rfl (by decide) f_X10_7 rfl dX10_order_36 ?_
  refine q_iload_n dX10_order_39 rfl ?_
  refine q_iald 204 (N t) hn (is_204 n) hnt.1 (by show _ < 24; omega) dX10_order_40 ?_
  refine q_bipush (8) dX10_order_41 (by decide) ?_
  refine q_icmp_ne 50 dX10_order_43 (by decide) (fun h43 => ?_) (fun h43 => ?_)
  · have hlt : I 204 (N t) < 8 := (nb_iff h8 (by decide)).mpr h43
    have hm := nb_ltN h8 (by decide) hlt
    rw [if_pos hlt] at eH0
    have e1 : (8 : Int32) * nI (N t) + I 204 (N t) = nI (8 * N t + N (I 204 (N t))) := by
      conv => lhs; rw [h8.1]
      exact idx 8 _ _
    have e2 : upI I 30 0 0 204 (N t) = I 204 (N t) := by simp [rdI]
    refine q_iconst (0) dX10_order_50 (by decide) ?_
    refine q_calli [.int _, .int _] o_X10_throwing rfl k_X10_159 rfl (is_30 n) (by decide) rfl dX10_order_51 (Nat.le_of_ble_eq_true rfl) (by omega) (by decide) (by omega) (Or.inr rfl) (r_thr0 l n (d - 1) I L) (fun _ _ _ h => h.elim) (fun q1 I1 L1 hq1 => ?_)
    obtain ⟨z1, z2, z3⟩ := hq1
    cases z1
    subst z2
    cases z3.symm
    refine q_if_eq 59 dX10_order_54 (by decide) (fun _ => ?_) (fun q => absurd rfl q)
    rw [hnt.1]
    refine q_bipush (8) dX10_order_59 (by decide) ?_
    refine q_iload_n dX10_order_61 rfl ?_
    refine q_imul dX10_order_62 ?_
    refine q_aload_n dX10_order_63 rfl ?_
    refine q_getR 30 10 4 204 (is_30 n) (by decide) rfl rfl (by decide) f_X10_7 rfl dX10_order_64 ?_
    refine q_iload_n dX10_order_67 rfl ?_
    refine q_iald 204 (_) hn (is_204 n) rfl (by show _ < 24; omega) dX10_order_68 ?_
    rw [e2]
    refine q_iadd dX10_order_69 ?_
    rw [e1]
    refine q_istore [(6, _), (5, _), (0, _), (1, _), (2, _), (3, _), (4, _)] dX10_order_70 (by decide) rfl ?_
    refine q_aload_n dX10_order_72 rfl ?_
    refine q_getR 30 10 5 205 (is_30 n) (by decide) rfl rfl (by decide) f_X10_13 rfl dX10_order_73 ?_
    refine q_iload dX10_order_76 rfl ?_
    refine q_iload_n dX10_order_78 rfl ?_
    refine q_iast 205 (_) hn (is_205 n) rfl (by show _ < 192; omega) dX10_order_79 ?_
    refine q_aload_n dX10_order_80 rfl ?_
    refine q_getR 30 10 6 206 (is_30 n) (by decide) rfl rfl (by decide) f_X10_16 rfl dX10_order_81 ?_
    refine q_iload dX10_order_84 rfl ?_
    refine q_iload_n dX10_order_86 rfl ?_
    refine q_iast 206 (_) hn (is_206 n) rfl (by show _ < 192; omega) dX10_order_87 ?_
    refine q_aload_n dX10_order_88 rfl ?_
    refine q_getR 30 10 7 207 (is_30 n) (by decide) rfl rfl (by decide) f_X10_19 rfl dX10_order_89 ?_
    refine q_iload dX10_order_92 rfl ?_
    refine q_iload dX10_order_94 rfl ?_
    refine q_iast 207 (_) hn (is_207 n) rfl (by show _ < 192; omega) dX10_order_96 ?_
    refine q_aload_n dX10_order_97 rfl ?_
    refine q_getR 30 10 4 204 (is_30 n) (by decide) rfl rfl (by decide) f_X10_7 rfl dX10_order_98 ?_
    refine q_iload_n dX10_order_101 rfl ?_
    refine q_dup2 dX10_order_102 rfl rfl ?_
    refine q_iald 204 (_) hn (is_204 n) rfl (by show _ < 24; omega) dX10_order_103 ?_
    refine q_iconst (1) dX10_order_104 (by decide) ?_
    refine q_iadd dX10_order_105 ?_
    refine q_iast 204 (_) hn (is_204 n) rfl (by show _ < 24; omega) dX10_order_106 ?_
    refine q_aload_n dX10_order_107 rfl ?_
    refine q_getR 30 10 4 204 (is_30 n) (by decide) rfl rfl (by decide) f_X10_7 rfl dX10_order_108 ?_
    refine q_iload_n dX10_order_111 rfl ?_
    refine q_iald 204 (_) hn (is_204 n) rfl (by show _ < 24; omega) dX10_order_112 ?_
    refine VP_top0 (z' := I 204 (N t) + 1) (by simp [rdI]) ?_
    refine q_iret dX10_order_113 rfl (by omega) ?_
    rw [← hnt.1]
    refine RP_nc (I1 := upI I 30 0 0) eH0 (by simp [rdI]) (KI.rf.up (Or.inl rfl)) ((((nc.rf.up (core_c (by decide) (by decide))).up (core_c (by decide) (by decide))).up (core_c (by decide) (by decide))).up (core_c (by decide) (by decide))) ncL.rf ?_ rfl
    rw [cu_204, cu_207, cu_206, cu_205, cu_30_0]
    simp [Ford, rdI, co_204]
  · rw [if_neg (fun q : I 204 (N t) < 8 => nlt_ne q h43)] at eH0
    refine q_iconst (1) dX10_order_46 (by decide) ?_
    refine q_goto 51 dX10_order_47 (by decide) ?_
    refine q_calli [.int _, .int _] o_X10_throwing rfl k_X10_159 rfl (is_30 n) (by decide) rfl dX10_order_51 (Nat.le_of_ble_eq_true rfl) (by omega) (by decide) (by omega) (Or.inr rfl) (r_thr2 l n (d - 1) I L) (fun _ _ _ h => h.elim) (fun q1 I1 L1 hq1 => ?_)
    obtain ⟨z1, z2, z3⟩ := hq1
    cases z1
    subst z2
    cases z3.symm
    refine q_if_eq 59 dX10_order_54 (by decide) (fun q => absurd q (by decide)) (fun _ => ?_)
    refine q_iconst (0) dX10_order_57 (by decide) ?_
    exact q_iret dX10_order_58 rfl (by omega) (RP_0 eH0)
set_option maxHeartbeats 8000000 in
set_option maxRecDepth 100000 in
theorem rh_promise (x : Int32) (hn : n < 2 ^ 31) (h : Inv n I) (hd : 40 ≤ d) : VM l n m_X10_promise d 0 [.ref 30, .int x] I L (RP (Hpromise n (co I) (coL L) x) I L) noX := by
  refine VM_of _ [(0, .ref 30), (1, .int x)] rfl (fun a => Nat.le_of_ble_eq_true rfl) rfl ?_
  have hn8 := h.1
  have hct := Inv_tr h
  have hp := h.2.2.2.1.1
  have hp2 := hp.2
  refine q_aload_n dX10_promise_0 rfl ?_
  refine q_iload_n dX10_promise_1 rfl ?_
  refine q_calli [.int _] o_X10_isLoop rfl k_X10_169 rfl (is_30 n) (by decide) rfl dX10_promise_2 (Nat.le_of_ble_eq_true rfl) (by omega) (by decide) (by omega) (Or.inr rfl) (r_isLoop l n (d - 1) I L x hn h.2.1 (by omega)) (fun _ _ _ h => h.elim) (fun q1 I1 L1 hq1 => ?_)
  obtain ⟨z1, z2, z3⟩ := hq1
  cases z1
  cases z2.symm
  cases z3.symm
  refine q_if_ne 12 dX10_promise_5 (by decide) (fun h5 => ?_) (fun h5 => ?_)
  · rw [ne_eq, bI_z, Decidable.not_not] at h5
    have eH0 : Hpromise n (co I) (coL L) x = if I 30 27 < 32 then (0, I 30 27, Fpadd (co I) x, coL L) else (2, 0, co I, coL L) := by rw [Hpromise, if_pos h5, co_30_27]
    refine q_iconst (0) dX10_promise_12 (by decide) ?_
    refine q_istore_n [(2, _), (0, _), (1, _)] dX10_promise_13 (by decide) rfl ?_
    refine q_aload_n dX10_promise_14 rfl ?_
    refine q_iload_n dX10_promise_15 rfl ?_
    refine q_iload_n dX10_promise_16 rfl ?_
    refine q_if_ne 33 dX10_promise_17 (by decide) (fun q => absurd rfl q) (fun _ => ?_)
    refine q_aload_n dX10_promise_20 rfl ?_
    refine q_getI 30 10 27 (is_30 n) (by decide) rfl (by decide) f_X10_146 rfl dX10_promise_21 ?_
    refine q_bipush (32) dX10_promise_24 (by decide) ?_
    refine q_icmp_ne 33 dX10_promise_26 (by decide) (fun h26 => ?_) (fun h26 => ?_)
    · have hlt : I 30 27 < 32 := (nb_iff hp (by decide)).mpr h26
      have hm := nb_ltN hp (by decide) hlt
      rw [if_pos hlt] at eH0
      have e2 : upI I 30 0 0 30 27 = nI (N (I 30 27)) := by rw [← hp.1]; simp [rdI]
      refine q_iconst (0) dX10_promise_33 (by decide) ?_
      refine q_calli [.int _, .int _] o_X10_throwing rfl k_X10_159 rfl (is_30 n) (by decide) rfl dX10_promise_34 (Nat.le_of_ble_eq_true rfl) (by omega) (by decide) (by omega) (Or.inr rfl) (r_thr0 l n (d - 1) I L) (fun _ _ _ h => h.elim) (fun q1 I1 L1 hq1 => ?_)
      obtain ⟨z1, z2, z3⟩ := hq1
      cases z1
      subst z2
      cases z3.symm
      refine q_if_eq 42 dX10_promise_37 (by decide) (fun _ => ?_) (fun q => absurd rfl q)
      refine q_aload_n dX10_promise_42 rfl ?_
      refine q_getR 30 10 28 228 (is_30 n) (by decide) rfl rfl (by decide) f_X10_75 rfl dX10_promise_43 ?_
      refine q_aload_n dX10_promise_46 rfl ?_
      refine q_getI 30 10 27 (is_30 n) (by decide) rfl (by decide) f_X10_146 rfl dX10_promise_47 ?_
      refine q_iload_n dX10_promise_50 rfl ?_
      refine q_iast 228 (N (I 30 27)) hn (is_228 n) e2 (by show _ < 32; omega) dX10_promise_51 ?_
      refine q_aload_n dX10_promise_52 rfl ?_
      refine q_dup dX10_promise_53 rfl ?_
      refine q_getI 30 10 27 (is_30 n) (by decide) rfl (by decide) f_X10_146 rfl dX10_promise_54 ?_
      refine q_iconst (1) dX10_promise_57 (by decide) ?_
      refine q_iadd dX10_promise_58 ?_
      refine q_putI 30 10 27 (is_30 n) (by decide) rfl (by decide) rfl rfl f_X10_146 rfl dX10_promise_59 ?_
      refine q_aload_n dX10_promise_62 rfl ?_
      refine q_getI 30 10 27 (is_30 n) (by decide) rfl (by decide) f_X10_146 rfl dX10_promise_63 ?_
      refine q_iconst (1) dX10_promise_66 (by decide) ?_
      refine q_isub dX10_promise_67 ?_
      refine VP_top0 (z' := I 30 27) (by simp [rdI, i32_pm]) ?_
      refine q_iret dX10_promise_68 rfl (by omega) (RP_nc (I1 := upI I 30 0 0) eH0 (by simp [rdI]) (KI.rf.up (Or.inl rfl)) ((nc.rf.up (core_c (by decide) (by decide))).up (by decide)) ncL.rf ?_ rfl)
      rw [cu_30_27, cu_228, cu_30_0]
      simp [Fpadd, rdI, co_30_27]
    · rw [if_neg (fun q : I 30 27 < 32 => nlt_ne q h26)] at eH0
      refine q_iconst (1) dX10_promise_29 (by decide) ?_
      refine q_goto 34 dX10_promise_30 (by decide) ?_
      refine q_calli [.int _, .int _] o_X10_throwing rfl k_X10_159 rfl (is_30 n) (by decide) rfl dX10_promise_34 (Nat.le_of_ble_eq_true rfl) (by omega) (by decide) (by omega) (Or.inr rfl) (r_thr2 l n (d - 1) I L) (fun _ _ _ h => h.elim) (fun q1 I1 L1 hq1 => ?_)
      obtain ⟨z1, z2, z3⟩ := hq1
      cases z1
      subst z2
      cases z3.symm
      refine q_if_eq 42 dX10_promise_37 (by decide) (fun q => absurd q (by decide)) (fun _ => ?_)
      refine q_iconst (0) dX10_promise_40 (by decide) ?_
      exact q_iret dX10_promise_41 rfl (by omega) (RP_0 eH0)
  · rw [bI_z] at h5
    have eH : Hpromise n (co I) (coL L) x = (1, 0, co I, coL L) := by rw [Hpromise, if_neg h5]
    refine q_iconst (1) dX10_promise_8 (by decide) ?_
    refine q_goto 13 dX10_promise_9 (by decide) ?_
    refine q_istore_n [(2, _), (0, _), (1, _)] dX10_promise_13 (by decide) rfl ?_
    refine q_aload_n dX10_promise_14 rfl ?_
    refine q_iload_n dX10_promise_15 rfl ?_
    refine q_iload_n dX10_promise_16 rfl ?_
    refine q_if_ne 33 dX10_promise_17 (by decide) (fun _ => ?_) (fun q => absurd q (by decide))
    refine q_iconst (0) dX10_promise_33 (by decide) ?_
    refine q_calli [.int _, .int _] o_X10_throwing rfl k_X10_159 rfl (is_30 n) (by decide) rfl dX10_promise_34 (Nat.le_of_ble_eq_true rfl) (by omega) (by decide) (by omega) (Or.inr rfl) (r_thr1 l n (d - 1) I L 0) (fun _ _ _ h => h.elim) (fun q1 I1 L1 hq1 => ?_)
    obtain ⟨z1, z2, z3⟩ := hq1
    cases z1
    subst z2
    cases z3.symm
    refine q_if_eq 42 dX10_promise_37 (by decide) (fun q => absurd q (by decide)) (fun _ => ?_)
    refine q_iconst (0) dX10_promise_40 (by decide) ?_
    exact q_iret dX10_promise_41 rfl (by omega) (RP_0 eH)
set_option maxHeartbeats 8000000 in
set_option maxRecDepth 100000 in
theorem rh_channels (x z : Int32) (hn : n < 2 ^ 31) (h : Inv n I) (hd : 40 ≤ d) : VM l n m_X10_channels d 0 [.ref 30, .int x, .int z] I L (RP (Hchannels n (co I) (coL L) x z) I L) noX := by
  refine VM_of _ [(0, .ref 30), (1, .int x), (2, .int z)] rfl (fun a => Nat.le_of_ble_eq_true rfl) rfl ?_
  have hn8 := h.1
  have hct := Inv_tr h
  have hp := h.2.2.2.2.1.1
  have hp2 := hp.2
  have hev := h.2.2.2.2.1.2.1
  have kbad : ¬ (isL n x ∧ isL n z) → VP l n m_X10_channels d 0 (RP (Hchannels n (co I) (coL L) x z) I L) noX 0 16 [(0, .ref 30), (1, .int x), (2, .int z)] [] I L := by
    intro hbad
    have eH : Hchannels n (co I) (coL L) x z = (1, 0, co I, coL L) := by rw [Hchannels, if_neg hbad]
    refine q_iconst (1) dX10_channels_16 (by decide) ?_
    refine q_goto 21 dX10_channels_17 (by decide) ?_
    refine q_istore_n [(3, _), (0, _), (1, _), (2, _)] dX10_channels_21 (by decide) rfl ?_
    refine q_aload_n dX10_channels_22 rfl ?_
    refine q_iload_n dX10_channels_23 rfl ?_
    refine q_iload_n dX10_channels_24 rfl ?_
    refine q_if_ne 41 dX10_channels_25 (by decide) (fun _ => ?_) (fun q => absurd q (by decide))
    refine q_iconst (0) dX10_channels_41 (by decide) ?_
    refine q_calli [.int _, .int _] o_X10_throwing rfl k_X10_159 rfl (is_30 n) (by decide) rfl dX10_channels_42 (Nat.le_of_ble_eq_true rfl) (by omega) (by decide) (by omega) (Or.inr rfl) (r_thr1 l n (d - 1) I L 0) (fun _ _ _ h => h.elim) (fun q1 I1 L1 hq1 => ?_)
    obtain ⟨z1, z2, z3⟩ := hq1
    cases z1
    subst z2
    cases z3.symm
    refine q_if_eq 50 dX10_channels_45 (by decide) (fun q => absurd q (by decide)) (fun _ => ?_)
    refine q_iconst (0) dX10_channels_48 (by decide) ?_
    exact q_iret dX10_channels_49 rfl (by omega) (RP_0 eH)
  refine q_aload_n dX10_channels_0 rfl ?_
  refine q_iload_n dX10_channels_1 rfl ?_
  refine q_calli [.int _] o_X10_isLoop rfl k_X10_169 rfl (is_30 n) (by decide) rfl dX10_channels_2 (Nat.le_of_ble_eq_true rfl) (by omega) (by decide) (by omega) (Or.inr rfl) (r_isLoop l n (d - 1) I L x hn h.2.1 (by omega)) (fun _ _ _ h => h.elim) (fun q1 I1 L1 hq1 => ?_)
  obtain ⟨z1, z2, z3⟩ := hq1
  cases z1
  cases z2.symm
  cases z3.symm
  refine q_if_eq 16 dX10_channels_5 (by decide) (fun h5 => kbad (fun q => by rw [bI_z] at h5; exact h5 q.1)) (fun h5 => ?_)
  rw [bI_z, Decidable.not_not] at h5
  refine q_aload_n dX10_channels_8 rfl ?_
  refine q_iload_n dX10_channels_9 rfl ?_
  refine q_calli [.int _] o_X10_isLoop rfl k_X10_169 rfl (is_30 n) (by decide) rfl dX10_channels_10 (Nat.le_of_ble_eq_true rfl) (by omega) (by decide) (by omega) (Or.inr rfl) (r_isLoop l n (d - 1) I L z hn h.2.1 (by omega)) (fun _ _ _ h => h.elim) (fun q1 I1 L1 hq1 => ?_)
  obtain ⟨z1, z2, z3⟩ := hq1
  cases z1
  cases z2.symm
  cases z3.symm
  refine q_if_ne 20 dX10_channels_13 (by decide) (fun h13 => ?_) (fun h13 => kbad (fun q => by rw [bI_z] at h13; exact h13 q.2))
  rw [ne_eq, bI_z, Decidable.not_not] at h13
  have eH0 : Hchannels n (co I) (coL L) x z = if I 30 34 < 16 then (0, I 30 34, Fpair (co I) x z, coL L) else (2, 0, co I, coL L) := by rw [Hchannels, if_pos ⟨h5, h13⟩, co_30_34]
  refine q_iconst (0) dX10_channels_20 (by decide) ?_
  refine q_istore_n [(3, _), (0, _), (1, _), (2, _)] dX10_channels_21 (by decide) rfl ?_
  refine q_aload_n dX10_channels_22 rfl ?_
  refine q_iload_n dX10_channels_23 rfl ?_
  refine q_iload_n dX10_channels_24 rfl ?_
  refine q_if_ne 41 dX10_channels_25 (by decide) (fun q => absurd rfl q) (fun _ => ?_)
  refine q_aload_n dX10_channels_28 rfl ?_
  refine q_getI 30 10 34 (is_30 n) (by decide) rfl (by decide) f_X10_149 rfl dX10_channels_29 ?_
  refine q_bipush (16) dX10_channels_32 (by decide) ?_
  refine q_icmp_ne 41 dX10_channels_34 (by decide) (fun h34 => ?_) (fun h34 => ?_)
  · have hlt : I 30 34 < 16 := (nb_iff hp (by decide)).mpr h34
    have hm := nb_ltN hp (by decide) hlt
    rw [if_pos hlt] at eH0
    have e2 : upI I 30 0 0 30 34 = nI (N (I 30 34)) := by rw [← hp.1]; simp [rdI]
    refine q_iconst (0) dX10_channels_41 (by decide) ?_
    refine q_calli [.int _, .int _] o_X10_throwing rfl k_X10_159 rfl (is_30 n) (by decide) rfl dX10_channels_42 (Nat.le_of_ble_eq_true rfl) (by omega) (by decide) (by omega) (Or.inr rfl) (r_thr0 l n (d - 1) I L) (fun _ _ _ h => h.elim) (fun q1 I1 L1 hq1 => ?_)
    obtain ⟨z1, z2, z3⟩ := hq1
    cases z1
    subst z2
    cases z3.symm
    refine q_if_eq 50 dX10_channels_45 (by decide) (fun _ => ?_) (fun q => absurd rfl q)
    refine q_aload_n dX10_channels_50 rfl ?_
    refine q_getR 30 10 35 235 (is_30 n) (by decide) rfl rfl (by decide) f_X10_93 rfl dX10_channels_51 ?_
    refine q_aload_n dX10_channels_54 rfl ?_
    refine q_getI 30 10 34 (is_30 n) (by decide) rfl (by decide) f_X10_149 rfl dX10_channels_55 ?_
    refine q_iload_n dX10_channels_58 rfl ?_
    refine q_iast 235 (N (I 30 34)) hn (is_235 n) e2 (by show _ < 16; omega) dX10_channels_59 ?_
    refine q_aload_n dX10_channels_60 rfl ?_
    refine q_getR 30 10 35 235 (is_30 n) (by decide) rfl rfl (by decide) f_X10_93 rfl dX10_channels_61 ?_
    refine q_aload_n dX10_channels_64 rfl ?_
    refine q_getI 30 10 34 (is_30 n) (by decide) rfl (by decide) f_X10_149 rfl dX10_channels_65 ?_
    refine q_iconst (1) dX10_channels_68 (by decide) ?_
    refine q_iadd dX10_channels_69 ?_
    refine q_iload_n dX10_channels_70 rfl ?_
    refine q_iast 235 (N (I 30 34) + 1) hn (is_235 n) (by rw [rdI, if_neg (fun q => absurd q.1 (by decide)), e2, nI_1]) (by show _ < 16; omega) dX10_channels_71 ?_
    refine q_aload_n dX10_channels_72 rfl ?_
    refine q_dup dX10_channels_73 rfl ?_
    refine q_getI 30 10 34 (is_30 n) (by decide) rfl (by decide) f_X10_149 rfl dX10_channels_74 ?_
    refine q_iconst (2) dX10_channels_77 (by decide) ?_
    refine q_iadd dX10_channels_78 ?_
    refine q_putI 30 10 34 (is_30 n) (by decide) rfl (by decide) rfl rfl f_X10_149 rfl dX10_channels_79 ?_
    refine q_aload_n dX10_channels_82 rfl ?_
    refine q_getI 30 10 34 (is_30 n) (by decide) rfl (by decide) f_X10_149 rfl dX10_channels_83 ?_
    refine q_iconst (2) dX10_channels_86 (by decide) ?_
    refine q_isub dX10_channels_87 ?_
    refine VP_top0 (z' := I 30 34) (by simp [rdI]) ?_
    refine q_iret dX10_channels_88 rfl (by omega) (RP_nc (I1 := upI I 30 0 0) eH0 (by simp [rdI]) (KI.rf.up (Or.inl rfl)) (((nc.rf.up (core_c (by decide) (by decide))).up (core_c (by decide) (by decide))).up (by decide)) ncL.rf ?_ rfl)
    rw [cu_30_34, cu_235, cu_235, cu_30_0]
    simp [Fpair, rdI, co_30_34]
  · rw [if_neg (fun q : I 30 34 < 16 => nlt_ne q h34)] at eH0
    refine q_iconst (1) dX10_channels_37 (by decide) ?_
    refine q_goto 42 dX10_channels_38 (by decide) ?_
    refine q_calli [.int _, .int _] o_X10_throwing rfl k_X10_159 rfl (is_30 n) (by decide) rfl dX10_channels_42 (Nat.le_of_ble_eq_true rfl) (by omega) (by decide) (by omega) (Or.inr rfl) (r_thr2 l n (d - 1) I L) (fun _ _ _ h => h.elim) (fun q1 I1 L1 hq1 => ?_)
    obtain ⟨z1, z2, z3⟩ := hq1
    cases z1
    subst z2
    cases z3.symm
    refine q_if_eq 50 dX10_channels_45 (by decide) (fun q => absurd q (by decide)) (fun _ => ?_)
    refine q_iconst (0) dX10_channels_48 (by decide) ?_
    exact q_iret dX10_channels_49 rfl (by omega) (RP_0 eH0)
set_option maxHeartbeats 8000000 in
set_option maxRecDepth 100000 in
theorem rh_execute (t x : Int32) (hn : n < 2 ^ 31) (h : Inv n I) (hb : tr I + 42300 < 2 ^ 31) (hd : 40 ≤ d) : VM l n m_X10_execute d 0 [.ref 30, .int t, .int x] I L (RP (Hexecute n (co I) (coL L) t x) I L) noX := by
  refine VM_of _ [(0, .ref 30), (1, .int t), (2, .int x)] rfl (fun a => Nat.le_of_ble_eq_true rfl) rfl ?_
  have hn8 := h.1
  have hct := Inv_tr h
  have ht := h.2.2.1.1
  have ht2 := ht.2
  have kbad : ¬ (isT I t ∧ (x = -2 ∨ isL n x)) → VP l n m_X10_execute d 0 (RP (Hexecute n (co I) (coL L) t x) I L) noX 0 23 [(0, .ref 30), (1, .int t), (2, .int x)] [.ref 30] I L := by
    intro hbad
    have eH : Hexecute n (co I) (coL L) t x = (1, 0, co I, coL L) := by rw [Hexecute, if_neg (show ¬ (isT (co I) t ∧ (x = -2 ∨ isL n x)) from hbad)]
    refine q_iconst (1) dX10_execute_23 (by decide) ?_
    refine q_goto 28 dX10_execute_24 (by decide) ?_
    refine q_iconst (0) dX10_execute_28 (by decide) ?_
    refine q_calli [.int _, .int _] o_X10_throwing rfl k_X10_159 rfl (is_30 n) (by decide) rfl dX10_execute_29 (Nat.le_of_ble_eq_true rfl) (by omega) (by decide) (by omega) (Or.inr rfl) (r_thr1 l n (d - 1) I L 0) (fun _ _ _ h => h.elim) (fun q1 I1 L1 hq1 => ?_)
    obtain ⟨z1, z2, z3⟩ := hq1
    cases z1
    subst z2
    cases z3.symm
    refine q_if_eq 37 dX10_execute_32 (by decide) (fun q => absurd q (by decide)) (fun _ => ?_)
    refine q_iconst (0) dX10_execute_35 (by decide) ?_
    exact q_iret dX10_execute_36 rfl (by omega) (RP_0 eH)
  have kok : isT I t → (x = -2 ∨ isL n x) → VP l n m_X10_execute d 0 (RP (Hexecute n (co I) (coL L) t x) I L) noX 0 27 [(0, .ref 30), (1, .int t), (2, .int x)] [.ref 30] I L := by
    intro h1 h2
    have hnt := isT_nbt h h1
    obtain ⟨z1, z2⟩ := Ftgt_ok' h h2
    have eO : Hon n (co I) x = Hon n I x := rfl
    have eH0 : Hexecute n (co I) (coL L) t x = if rej (FtgtS (co I) x) (N (Hon n I x)) then (2, 0, Fput (FtgtS (co I) x) (-1) (N (Hon n I x)) 0 t 0 t, coL L) else (0, Hon n I x, Fput (FtgtS (co I) x) (-1) (N (Hon n I x)) 0 t 0 t, coL L) := by rw [Hexecute, if_pos (show isT (co I) t ∧ (x = -2 ∨ isL n x) from ⟨h1, h2⟩), eO]
    have kend : VP l n m_X10_execute d 0 (RP (Hexecute n (co I) (coL L) t x) I L) noX 0 55 [(0, .ref 30), (1, .int t), (2, .int x)] [.int (nI (N (Hon n I x)))] (FtgtS (Rho I) x) L := by
      have g1 := gc_tgtS (T := L) (w := 0) x (ho_Inv h) (by omega)
      have i1 := g1.1.1
      have t1 : tr (FtgtS (Rho I) x) = tr I := by
        rw [← tr_co, co_tgtS, co_ho, ← co_tgtS, tr_co]
        unfold FtgtS FchS tr
        split <;> simp [rdI]
      have e51 : FtgtS (Rho I) x 30 51 = -1 := by
        rw [← ho_51 I]
        unfold FtgtS FchS
        split <;> simp [rdI]
      have hco : co (FtgtS (Rho I) x) = FtgtS (co I) x := by rw [co_tgtS, co_ho]
      have erej : rej (FtgtS (Rho I) x) (N (Hon n I x)) ↔ rej (FtgtS (co I) x) (N (Hon n I x)) := by
        unfold rej
        rw [← hco, co_208, co_209]
      refine q_istore_n [(3, _), (0, _), (1, _), (2, _)] dX10_execute_55 (by decide) rfl ?_
      refine q_aload_n dX10_execute_56 rfl ?_
      refine q_iconst (0) dX10_execute_57 (by decide) ?_
      refine q_aload_n dX10_execute_58 rfl ?_
      refine q_iload_n dX10_execute_59 rfl ?_
      refine q_iconst (0) dX10_execute_60 (by decide) ?_
      refine q_iload_n dX10_execute_61 rfl ?_
      refine q_iconst (0) dX10_execute_62 (by decide) ?_
      refine q_iload_n dX10_execute_63 rfl ?_
      refine q_calli [.int _, .int _, .int _, .int _, .int _] o_X10_put rfl k_X10_212 rfl (is_30 n) (by decide) rfl dX10_execute_64 (Nat.le_of_ble_eq_true rfl) (by omega) (by decide) (by omega) (Or.inr rfl) (r_put l n (d - 1) (FtgtS (Rho I) x) L (N (Hon n I x)) 0 t 0 t hn (by omega) (i1.2.2.2.2.2.2.1 _ z2).1.1 (Inv_tr i1) (by omega) (by omega)) (fun _ _ _ h => h.elim) (fun q1 I1 L1 hq1 => ?_)
      obtain ⟨y1, y2, y3⟩ := hq1
      cases y1
      cases y3.symm
      rw [e51] at y2
      have hnc : nc (FtgtS (Rho I) x) I1 := by rw [y2]; exact nc_put _ _ _ _ _ _ _
      have hnc0 : nc (Rho I) I1 := (nc_tgtS _ _).tr hnc
      have hco1 : co I1 = Fput (FtgtS (co I) x) (-1) (N (Hon n I x)) 0 t 0 t := by rw [y2, co_put, hco]
      clear y2
      by_cases hr : rej (FtgtS (co I) x) (N (Hon n I x))
      · rw [if_pos hr] at eH0
        rw [bI_f (fun q => q (erej.mpr hr))]
        refine q_if_ne 74 dX10_execute_67 (by decide) (fun q => absurd rfl q) (fun _ => ?_)
        refine q_iconst (1) dX10_execute_70 (by decide) ?_
        refine q_goto 75 dX10_execute_71 (by decide) ?_
        refine q_calli [.int _, .int _] o_X10_throwing rfl k_X10_159 rfl (is_30 n) (by decide) rfl dX10_execute_75 (Nat.le_of_ble_eq_true rfl) (by omega) (by decide) (by omega) (Or.inr rfl) (r_thr2 l n (d - 1) I1 L) (fun _ _ _ h => h.elim) (fun q1 I1 L1 hq1 => ?_)
        obtain ⟨z1, z2, z3⟩ := hq1
        cases z1
        subst z2
        cases z3.symm
        refine q_if_eq 83 dX10_execute_78 (by decide) (fun q => absurd q (by decide)) (fun _ => ?_)
        refine q_iconst (0) dX10_execute_81 (by decide) ?_
        exact q_iret dX10_execute_82 rfl (by omega) (RP_nc eH0 (if_pos ⟨rfl, rfl⟩) (((ho_K I).tns (KI.nc hnc0)).up (Or.inl rfl)) nc.rf ncL.rf (by rw [cu_30_0, hco1]) rfl)
      · rw [if_neg hr] at eH0
        rw [bI_t (show ¬ rej (FtgtS (Rho I) x) (N (Hon n I x)) from fun q => hr (erej.mp q))]
        refine q_if_ne 74 dX10_execute_67 (by decide) (fun _ => ?_) (fun q => absurd q (by decide))
        refine q_iconst (0) dX10_execute_74 (by decide) ?_
        refine q_calli [.int _, .int _] o_X10_throwing rfl k_X10_159 rfl (is_30 n) (by decide) rfl dX10_execute_75 (Nat.le_of_ble_eq_true rfl) (by omega) (by decide) (by omega) (Or.inr rfl) (r_thr0 l n (d - 1) I1 L) (fun _ _ _ h => h.elim) (fun q1 I1 L1 hq1 => ?_)
        obtain ⟨z1, z2, z3⟩ := hq1
        cases z1
        subst z2
        cases z3.symm
        refine q_if_eq 83 dX10_execute_78 (by decide) (fun _ => ?_) (fun q => absurd rfl q)
        refine q_iload_n dX10_execute_83 rfl ?_
        rw [← z1]
        exact q_iret dX10_execute_84 rfl (by omega) (RP_nc eH0 (if_pos ⟨rfl, rfl⟩) (((ho_K I).tns (KI.nc hnc0)).up (Or.inl rfl)) nc.rf ncL.rf (by rw [cu_30_0, hco1]) rfl)
    refine q_iconst (0) dX10_execute_27 (by decide) ?_
    refine q_iconst (0) dX10_execute_28 (by decide) ?_
    refine q_calli [.int _, .int _] o_X10_throwing rfl k_X10_159 rfl (is_30 n) (by decide) rfl dX10_execute_29 (Nat.le_of_ble_eq_true rfl) (by omega) (by decide) (by omega) (Or.inr rfl) (r_thr0 l n (d - 1) I L) (fun _ _ _ h => h.elim) (fun q1 I1 L1 hq1 => ?_)
    obtain ⟨z1, z2, z3⟩ := hq1
    cases z1
    subst z2
    cases z3.symm
    refine q_if_eq 37 dX10_execute_32 (by decide) (fun _ => ?_) (fun q => absurd rfl q)
    refine q_aload_n dX10_execute_37 rfl ?_
    refine q_callv [] o_X10_host rfl k_X10_272 rfl (is_30 n) (by decide) rfl dX10_execute_38 (Nat.le_of_ble_eq_true rfl) (by omega) (by decide) (by omega) rfl (r_host l n (d - 1) (upI I 30 0 0) L) (fun _ _ _ h => h.elim) (fun I1 L1 hq1 => ?_)
    obtain ⟨-, z2, z3⟩ := hq1
    subst z2
    cases z3.symm
    rw [show upI (upI (upI I 30 0 0) 30 51 (-1)) 30 45 0 = Rho I from rfl]
    rw [← z1] at kend
    refine q_iload_n dX10_execute_41 rfl ?_
    refine q_bipush (-2) dX10_execute_42 (by decide) ?_
    refine q_icmp_ne 54 dX10_execute_44 (by decide) (fun h44 => ?_) (fun h44 => ?_)
    · rw [Hon, if_neg h44, FtgtS, if_neg h44] at kend
      refine q_iload_n dX10_execute_54 rfl ?_
      exact kend
    · rw [Hon, if_pos h44, FtgtS, if_pos h44] at kend
      refine q_aload_n dX10_execute_47 rfl ?_
      refine q_calli [] o_X10_choose rfl k_X10_228 rfl (is_30 n) (by decide) rfl dX10_execute_48 (Nat.le_of_ble_eq_true rfl) (by omega) (by decide) (by omega) (Or.inl rfl) (r_choose l n (d - 1) (Rho I) L hn8 (ho_Inv h).2.1) (fun _ _ _ h => h.elim) (fun q1 I1 L1 hq1 => ?_)
      obtain ⟨y1, y2, y3⟩ := hq1
      cases y1
      subst y2
      cases y3.symm
      refine q_goto 55 dX10_execute_51 (by decide) ?_
      rw [show Rho I 30 22 = I 30 22 from by simp [Rho, rdI]]
      exact kend
  refine q_aload_n dX10_execute_0 rfl ?_
  refine q_aload_n dX10_execute_1 rfl ?_
  refine q_iload_n dX10_execute_2 rfl ?_
  refine q_calli [.int _] o_X10_isTask rfl k_X10_163 rfl (is_30 n) (by decide) rfl dX10_execute_3 (Nat.le_of_ble_eq_true rfl) (by omega) (by decide) (by omega) (Or.inr rfl) (r_isTask l n (d - 1) I L t ht.1 (by omega) (by omega)) (fun _ _ _ h => h.elim) (fun q1 I1 L1 hq1 => ?_)
  obtain ⟨z1, z2, z3⟩ := hq1
  cases z1
  cases z2.symm
  cases z3.symm
  refine q_if_eq 23 dX10_execute_6 (by decide) (fun h6 => kbad (fun q => by rw [bI_z] at h6; exact h6 q.1)) (fun h6 => ?_)
  rw [bI_z, Decidable.not_not] at h6
  refine q_iload_n dX10_execute_9 rfl ?_
  refine q_bipush (-2) dX10_execute_10 (by decide) ?_
  refine q_icmp_eq 27 dX10_execute_12 (by decide) (fun h12 => kok h6 (Or.inl h12)) (fun h12 => ?_)
  refine q_aload_n dX10_execute_15 rfl ?_
  refine q_iload_n dX10_execute_16 rfl ?_
  refine q_calli [.int _] o_X10_isLoop rfl k_X10_169 rfl (is_30 n) (by decide) rfl dX10_execute_17 (Nat.le_of_ble_eq_true rfl) (by omega) (by decide) (by omega) (Or.inr rfl) (r_isLoop l n (d - 1) I L x hn h.2.1 (by omega)) (fun _ _ _ h => h.elim) (fun q1 I1 L1 hq1 => ?_)
  obtain ⟨z1, z2, z3⟩ := hq1
  cases z1
  cases z2.symm
  cases z3.symm
  refine q_if_ne 27 dX10_execute_20 (by decide) (fun h20 => kok h6 (Or.inr (by rw [ne_eq, bI_z, Decidable.not_not] at h20; exact h20))) (fun h20 => kbad (fun q => by rw [bI_z] at h20; exact q.2.elim h12 h20))
set_option maxHeartbeats 8000000 in
set_option maxRecDepth 100000 in
theorem rh_timer (t dl x : Int32) (hn : n < 2 ^ 31) (h : Inv n I) (hb : tr I + 42300 < 2 ^ 31) (hd : 40 ≤ d) : VM l n m_X10_timer d 0 [.ref 30, .int t, .int dl, .int x] I L (RP (Htimer n (co I) (coL L) t dl x) I L) noX := by
  refine VM_of _ [(0, .ref 30), (1, .int t), (2, .int dl), (3, .int x)] rfl (fun a => Nat.le_of_ble_eq_true rfl) rfl ?_
  have hn8 := h.1
  have hct := Inv_tr h
  have ht := h.2.2.1.1
  have ht2 := ht.2
  have kbad : ¬ (isT I t ∧ 0 ≤ dl ∧ isL n x) → VP l n m_X10_timer d 0 (RP (Htimer n (co I) (coL L) t dl x) I L) noX 0 21 [(0, .ref 30), (1, .int t), (2, .int dl), (3, .int x)] [.ref 30] I L := by
    intro hbad
    have eH : Htimer n (co I) (coL L) t dl x = (1, 0, co I, coL L) := by rw [Htimer, if_neg (show ¬ (isT (co I) t ∧ 0 ≤ dl ∧ isL n x) from hbad)]
    refine q_iconst (1) dX10_timer_21 (by decide) ?_
    refine q_goto 26 dX10_timer_22 (by decide) ?_
    refine q_iconst (0) dX10_timer_26 (by decide) ?_
    refine q_calli [.int _, .int _] o_X10_throwing rfl k_X10_159 rfl (is_30 n) (by decide) rfl dX10_timer_27 (Nat.le_of_ble_eq_true rfl) (by omega) (by decide) (by omega) (Or.inr rfl) (r_thr1 l n (d - 1) I L 0) (fun _ _ _ h => h.elim) (fun q1 I1 L1 hq1 => ?_)
    obtain ⟨z1, z2, z3⟩ := hq1
    cases z1
    subst z2
    cases z3.symm
    refine q_if_eq 35 dX10_timer_30 (by decide) (fun q => absurd q (by decide)) (fun _ => ?_)
    refine q_iconst (0) dX10_timer_33 (by decide) ?_
    exact q_iret dX10_timer_34 rfl (by omega) (RP_0 eH)
  refine q_aload_n dX10_timer_0 rfl ?_
  refine q_aload_n dX10_timer_1 rfl ?_
  refine q_iload_n dX10_timer_2 rfl ?_
  refine q_calli [.int _] o_X10_isTask rfl k_X10_163 rfl (is_30 n) (by decide) rfl dX10_timer_3 (Nat.le_of_ble_eq_true rfl) (by omega) (by decide) (by omega) (Or.inr rfl) (r_isTask l n (d - 1) I L t ht.1 (by omega) (by omega)) (fun _ _ _ h => h.elim) (fun q1 I1 L1 hq1 => ?_)
  obtain ⟨z1, z2, z3⟩ := hq1
  cases z1
  cases z2.symm
  cases z3.symm
  refine q_if_eq 21 dX10_timer_6 (by decide) (fun h6 => kbad (fun q => by rw [bI_z] at h6; exact h6 q.1)) (fun h6 => ?_)
  rw [bI_z, Decidable.not_not] at h6
  refine q_iload_n dX10_timer_9 rfl ?_
  refine q_if_lt 21 dX10_timer_10 (by decide) (fun h10 => kbad (fun q => absurd h10 (Int32.not_lt.mpr q.2.1))) (fun h10 => ?_)
  rw [Int32.not_lt] at h10
  refine q_aload_n dX10_timer_13 rfl ?_
  refine q_iload_n dX10_timer_14 rfl ?_
  refine q_calli [.int _] o_X10_isLoop rfl k_X10_169 rfl (is_30 n) (by decide) rfl dX10_timer_15 (Nat.le_of_ble_eq_true rfl) (by omega) (by decide) (by omega) (Or.inr rfl) (r_isLoop l n (d - 1) I L x hn h.2.1 (by omega)) (fun _ _ _ h => h.elim) (fun q1 I1 L1 hq1 => ?_)
  obtain ⟨z1, z2, z3⟩ := hq1
  cases z1
  cases z2.symm
  cases z3.symm
  refine q_if_ne 25 dX10_timer_18 (by decide) (fun h18 => ?_) (fun h18 => kbad (fun q => by rw [bI_z] at h18; exact h18 q.2.2))
  rw [ne_eq, bI_z, Decidable.not_not] at h18
  have hnx := isL_nbt hn8.2 h18
  have hnx2 := hnx.2
  have eH0 : Htimer n (co I) (coL L) t dl x = if rejT (co I) (N x) then (2, 0, Fsch (co I) (-1) (N x) t, TSch (co I) (coL L) (N x) dl.toInt64) else (0, I 30 23, Fsch (co I) (-1) (N x) t, TSch (co I) (coL L) (N x) dl.toInt64) := if_pos (show isT (co I) t ∧ 0 ≤ dl ∧ isL n x from ⟨h6, h10, h18⟩)
  have erej : rejT (Rho I) (N x) ↔ rejT (co I) (N x) := by
    unfold rejT
    rw [← co_ho, co_208, co_30_23, Fcnt_co]
  have i1 := ho_Inv h
  have t1 : tr (Rho I) = tr I := by rw [← tr_co, co_ho, tr_co]
  refine q_iconst (0) dX10_timer_25 (by decide) ?_
  refine q_iconst (0) dX10_timer_26 (by decide) ?_
  refine q_calli [.int _, .int _] o_X10_throwing rfl k_X10_159 rfl (is_30 n) (by decide) rfl dX10_timer_27 (Nat.le_of_ble_eq_true rfl) (by omega) (by decide) (by omega) (Or.inr rfl) (r_thr0 l n (d - 1) I L) (fun _ _ _ h => h.elim) (fun q1 I1 L1 hq1 => ?_)
  obtain ⟨z1, z2, z3⟩ := hq1
  cases z1
  subst z2
  cases z3.symm
  refine q_if_eq 35 dX10_timer_30 (by decide) (fun _ => ?_) (fun q => absurd rfl q)
  refine q_aload_n dX10_timer_35 rfl ?_
  refine q_callv [] o_X10_host rfl k_X10_272 rfl (is_30 n) (by decide) rfl dX10_timer_36 (Nat.le_of_ble_eq_true rfl) (by omega) (by decide) (by omega) rfl (r_host l n (d - 1) (upI I 30 0 0) L) (fun _ _ _ h => h.elim) (fun I1 L1 hq1 => ?_)
  obtain ⟨-, z2, z3⟩ := hq1
  subst z2
  cases z3.symm
  rw [show upI (upI (upI I 30 0 0) 30 51 (-1)) 30 45 0 = Rho I from rfl]
  refine q_aload_n dX10_timer_39 rfl ?_
  refine q_iconst (0) dX10_timer_40 (by decide) ?_
  refine q_aload_n dX10_timer_41 rfl ?_
  refine q_iload_n dX10_timer_42 rfl ?_
  refine q_iload_n dX10_timer_43 rfl ?_
  refine q_i2l dX10_timer_44 ?_
  refine q_iload_n dX10_timer_45 rfl ?_
  refine VP_top0 hnx.1 ?_
  refine q_calli [.int _, .long _, .int _] o_X10_schedule rfl k_X10_232 rfl (is_30 n) (by decide) rfl dX10_timer_46 (Nat.le_of_ble_eq_true rfl) (by omega) (by decide) (by omega) (Or.inr rfl) (r_schedule l n (d - 1) (Rho I) L (N x) t dl.toInt64 hn (by omega) i1.2.2.2.2.2.1.1 (Inv_tr i1) (by omega) (by omega)) (fun _ _ _ h => h.elim) (fun q1 I1 L1 hq1 => ?_)
  obtain ⟨y1, y2, y3⟩ := hq1
  cases y1
  rw [ho_51] at y2
  have hnc : nc (Rho I) I1 := by rw [y2]; exact nc_sch _ _ _ _
  have hco1 : co I1 = Fsch (co I) (-1) (N x) t := by rw [y2, co_sch, co_ho]
  have hncL : ncL L L1 := by rw [y3]; exact ncL_sch _ _ _ _
  have hcoL : coL L1 = TSch (co I) (coL L) (N x) dl.toInt64 := by rw [y3, coL_sch, co_ho]
  by_cases hr : rejT (co I) (N x)
  · rw [if_pos hr] at eH0
    rw [bI_f (fun q => q (erej.mpr hr))]
    refine q_if_ne 56 dX10_timer_49 (by decide) (fun q => absurd rfl q) (fun _ => ?_)
    refine q_iconst (1) dX10_timer_52 (by decide) ?_
    refine q_goto 57 dX10_timer_53 (by decide) ?_
    refine q_calli [.int _, .int _] o_X10_throwing rfl k_X10_159 rfl (is_30 n) (by decide) rfl dX10_timer_57 (Nat.le_of_ble_eq_true rfl) (by omega) (by decide) (by omega) (Or.inr rfl) (r_thr2 l n (d - 1) I1 L1) (fun _ _ _ h => h.elim) (fun q1 I2 L2 hq1 => ?_)
    obtain ⟨z1, z2, z3⟩ := hq1
    cases z1
    subst z2
    cases z3.symm
    refine q_if_eq 65 dX10_timer_60 (by decide) (fun q => absurd q (by decide)) (fun _ => ?_)
    refine q_iconst (0) dX10_timer_63 (by decide) ?_
    exact q_iret dX10_timer_64 rfl (by omega) (RP_nc eH0 (if_pos ⟨rfl, rfl⟩) (((ho_K I).tns (KI.nc hnc)).up (Or.inl rfl)) nc.rf hncL (by rw [cu_30_0, hco1]) hcoL)
  · rw [if_neg hr] at eH0
    rw [bI_t (show ¬ rejT (Rho I) (N x) from fun q => hr (erej.mp q))]
    refine q_if_ne 56 dX10_timer_49 (by decide) (fun _ => ?_) (fun q => absurd q (by decide))
    have e23 : I1 30 23 = I 30 23 + 1 := by
      rw [y2, Fsch, if_neg (fun q => hr (erej.mp q))]
      split <;> simp [Fbec, Flog, Rlog, Fsch0, rdI, Rho]
    refine q_iconst (0) dX10_timer_56 (by decide) ?_
    refine q_calli [.int _, .int _] o_X10_throwing rfl k_X10_159 rfl (is_30 n) (by decide) rfl dX10_timer_57 (Nat.le_of_ble_eq_true rfl) (by omega) (by decide) (by omega) (Or.inr rfl) (r_thr0 l n (d - 1) I1 L1) (fun _ _ _ h => h.elim) (fun q1 I2 L2 hq1 => ?_)
    obtain ⟨z1, z2, z3⟩ := hq1
    cases z1
    subst z2
    cases z3.symm
    refine q_if_eq 65 dX10_timer_60 (by decide) (fun _ => ?_) (fun q => absurd rfl q)
    refine q_aload_n dX10_timer_65 rfl ?_
    refine q_getI 30 10 23 (is_30 n) (by decide) rfl (by decide) f_X10_196 rfl dX10_timer_66 ?_
    refine q_iconst (1) dX10_timer_69 (by decide) ?_
    refine q_isub dX10_timer_70 ?_
    rw [show upI I1 30 0 0 30 23 = I1 30 23 from by simp [rdI], e23, i32_pm]
    exact q_iret dX10_timer_71 rfl (by omega) (RP_nc eH0 (if_pos ⟨rfl, rfl⟩) (((ho_K I).tns (KI.nc hnc)).up (Or.inl rfl)) nc.rf hncL (by rw [cu_30_0, hco1]) hcoL)
end

