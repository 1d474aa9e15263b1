abbrev noX : vq_RX := fun _ _ _ => False
theorem nI_lit (k : Nat) : (OfNat.ofNat k : Int32) = nI k := rfl
theorem nI_rem {x z : Int32} {c k : Nat} (hx : x = nI c) (hz : z = nI k) (hc : c < 2 ^ 31) (h0 : 0 < k) (hk : k < 2 ^ 31) : x - x / z * z = nI (c % k) := by
  subst hx; subst hz
  exact pk_rem hc h0 hk
theorem rdI (I : MI) (i j x z : Nat) (v : Int32) : upI I i j v x z = if x = i ∧ z = j then v else I x z := rfl
theorem rdL (I : ML) (i j x z : Nat) (v : Int64) : upL I i j v x z = if x = i ∧ z = j then v else I x z := rfl
def Clog (I : MI) (c : Nat) (t kd v : Int32) : MI := upI (upI (upI (upI I 330 (c % 300 * 3) t) 330 (c % 300 * 3 + 1) kd) 330 (c % 300 * 3 + 2) v) 3 1 (nI (c + 1))
set_option maxHeartbeats 4000000 in
set_option maxRecDepth 100000 in
theorem c_log (l : Launch) (n : Nat) (hn : n < 2 ^ 31) (d : Nat) (I : MI) (L : ML) (c : Nat) (t kd v : Int32) (hc : I 3 1 = nI c) (hcb : c < 2 ^ 31) :
    VM l n m_X8_log d 0 [.ref 3, .int t, .int kd, .int v] I L (fun r I' L' => r = none ∧ I' = Clog I c t kd v ∧ L' = L) noX := by
  refine VM_of _ [(0, .ref 3), (1, .int t), (2, .int kd), (3, .int v)] rfl (fun a => Nat.le_of_ble_eq_true rfl) rfl ?_
  have h3 : c % 300 < 300 := Nat.mod_lt _ (by decide)
  have e1 : (I 3 1 - I 3 1 / 300 * 300) * 3 = nI (c % 300 * 3) := by rw [nI_rem (z := 300) (k := 300) hc rfl hcb (by decide) (by decide)]; exact pk_mul _ 3
  refine q_aload_n dX8_log_0 rfl ?_
  refine q_getI 3 8 1 (is_3 n) (by decide) rfl (by decide) f_X8_13 rfl dX8_log_1 ?_
  refine q_sipush (300) dX8_log_4 (by decide) ?_
  refine q_irem dX8_log_7 (by decide) ?_
  refine q_iconst (3) dX8_log_8 (by decide) ?_
  refine q_imul dX8_log_9 ?_
  rw [e1]
  refine q_istore [(4, _), (0, _), (1, _), (2, _), (3, _)] dX8_log_10 (by decide) rfl ?_
  refine q_aload_n dX8_log_12 rfl ?_
  refine q_getR 3 8 0 330 (is_3 n) (by decide) rfl rfl (by decide) f_X8_9 rfl dX8_log_13 ?_
  refine q_iload dX8_log_16 rfl ?_
  refine q_iload_n dX8_log_18 rfl ?_
  refine q_iast 330 (c % 300 * 3) hn (is_330 n) rfl (by show _ < 900; omega) dX8_log_19 ?_
  refine q_aload_n dX8_log_20 rfl ?_
  refine q_getR 3 8 0 330 (is_3 n) (by decide) rfl rfl (by decide) f_X8_9 rfl dX8_log_21 ?_
  refine q_iload dX8_log_24 rfl ?_
  refine q_iconst (1) dX8_log_26 (by decide) ?_
  refine q_iadd dX8_log_27 ?_
  refine q_iload_n dX8_log_28 rfl ?_
  refine q_iast 330 (c % 300 * 3 + 1) hn (is_330 n) (nI_add _ 1) (by show _ < 900; omega) dX8_log_29 ?_
  refine q_aload_n dX8_log_30 rfl ?_
  refine q_getR 3 8 0 330 (is_3 n) (by decide) rfl rfl (by decide) f_X8_9 rfl dX8_log_31 ?_
  refine q_iload dX8_log_34 rfl ?_
  refine q_iconst (2) dX8_log_36 (by decide) ?_
  refine q_iadd dX8_log_37 ?_
  refine q_iload_n dX8_log_38 rfl ?_
  refine q_iast 330 (c % 300 * 3 + 2) hn (is_330 n) (nI_add _ 2) (by show _ < 900; omega) dX8_log_39 ?_
  refine q_aload_n dX8_log_40 rfl ?_
  refine q_dup dX8_log_41 rfl ?_
  refine q_getI 3 8 1 (is_3 n) (by decide) rfl (by decide) f_X8_13 rfl dX8_log_42 ?_
  refine q_iconst (1) dX8_log_45 (by decide) ?_
  refine q_iadd dX8_log_46 ?_
  refine q_putI 3 8 1 (is_3 n) (by decide) rfl (by decide) rfl rfl f_X8_13 rfl dX8_log_47 ?_
  refine q_vret dX8_log_50 rfl (by omega) ⟨rfl, ?_, rfl⟩
  simp only [Clog]
  congr 1
  simp only [rdI]
  simp [hc, nI_1]
def Rlog (I : MI) (c : Nat) (t kd v : Int32) : MI := upI (upI (upI (upI I 242 (c % 300) t) 243 (c % 300) kd) 244 (c % 300) v) 30 41 (nI (c + 1))
set_option maxHeartbeats 4000000 in
set_option maxRecDepth 100000 in
theorem r_log (l : Launch) (n : Nat) (hn : n < 2 ^ 31) (d : Nat) (I : MI) (L : ML) (c : Nat) (t kd v : Int32) (hc : I 30 41 = nI c) (hcb : c < 2 ^ 31) :
    VM l n m_X10_log d 0 [.ref 30, .int t, .int kd, .int v] I L (fun r I' L' => r = none ∧ I' = Rlog I c t kd v ∧ L' = L) noX := by
  refine VM_of _ [(0, .ref 30), (1, .int t), (2, .int kd), (3, .int v)] rfl (fun a => Nat.le_of_ble_eq_true rfl) rfl ?_
  have h3 : c % 300 < 300 := Nat.mod_lt _ (by decide)
  refine q_aload_n dX10_log_0 rfl ?_
  refine q_getR 30 10 42 242 (is_30 n) (by decide) rfl rfl (by decide) f_X10_108 rfl dX10_log_1 ?_
  refine q_aload_n dX10_log_4 rfl ?_
  refine q_getI 30 10 41 (is_30 n) (by decide) rfl (by decide) f_X10_152 rfl dX10_log_5 ?_
  refine q_sipush (300) dX10_log_8 (by decide) ?_
  refine q_irem dX10_log_11 (by decide) ?_
  refine q_iload_n dX10_log_12 rfl ?_
  refine q_iast 242 (c % 300) hn (is_242 n) (nI_rem hc rfl hcb (by decide) (by decide)) h3 dX10_log_13 ?_
  refine q_aload_n dX10_log_14 rfl ?_
  refine q_getR 30 10 43 243 (is_30 n) (by decide) rfl rfl (by decide) f_X10_111 rfl dX10_log_15 ?_
  refine q_aload_n dX10_log_18 rfl ?_
  refine q_getI 30 10 41 (is_30 n) (by decide) rfl (by decide) f_X10_152 rfl dX10_log_19 ?_
  refine q_sipush (300) dX10_log_22 (by decide) ?_
  refine q_irem dX10_log_25 (by decide) ?_
  refine q_iload_n dX10_log_26 rfl ?_
  refine q_iast 243 (c % 300) hn (is_243 n) (nI_rem (by simp [rdI, hc]) rfl hcb (by decide) (by decide)) h3 dX10_log_27 ?_
  refine q_aload_n dX10_log_28 rfl ?_
  refine q_getR 30 10 44 244 (is_30 n) (by decide) rfl rfl (by decide) f_X10_114 rfl dX10_log_29 ?_
  refine q_aload_n dX10_log_32 rfl ?_
  refine q_getI 30 10 41 (is_30 n) (by decide) rfl (by decide) f_X10_152 rfl dX10_log_33 ?_
  refine q_sipush (300) dX10_log_36 (by decide) ?_
  refine q_irem dX10_log_39 (by decide) ?_
  refine q_iload_n dX10_log_40 rfl ?_
  refine q_iast 244 (c % 300) hn (is_244 n) (nI_rem (by simp [rdI, hc]) rfl hcb (by decide) (by decide)) h3 dX10_log_41 ?_
  refine q_aload_n dX10_log_42 rfl ?_
  refine q_dup dX10_log_43 rfl ?_
  refine q_getI 30 10 41 (is_30 n) (by decide) rfl (by decide) f_X10_152 rfl dX10_log_44 ?_
  refine q_iconst (1) dX10_log_47 (by decide) ?_
  refine q_iadd dX10_log_48 ?_
  refine q_putI 30 10 41 (is_30 n) (by decide) rfl (by decide) rfl rfl f_X10_152 rfl dX10_log_49 ?_
  refine q_vret dX10_log_52 rfl (by omega) ⟨rfl, ?_, rfl⟩
  simp only [Rlog]
  congr 1
  simp only [rdI]
  simp [hc, nI_1]

