/-! ===== the class's leaves: writes, the memory behind them exactly ===== -/
def Cqput (I : MI) (i a : Nat) (k x m : Int32) : MI := upI (upI (upI (upI I (lid i 3) a k) (lid i 4) a x) (lid i 5) a m) (lid i 1) 4 (I (lid i 1) 4 + 1)
def Cqdrop (I : MI) (i f : Nat) : MI := upI (upI I (lid i 1) 3 (nI ((f + 1) % 24))) (lid i 1) 4 (I (lid i 1) 4 - 1)
def Ctadd (I : MI) : MI := upI I 4 4 (I 4 4 + 1)
def Cord (I : MI) (t m : Nat) (k a b : Int32) : MI := upI (upI (upI (upI I 341 (8 * t + m) k) 342 (8 * t + m) a) 343 (8 * t + m) b) 340 t (nI (m + 1))
def Cpadd (I : MI) (c : Nat) (e : Int32) : MI := upI (upI I 350 c e) 5 6 (nI (c + 1))
def Cwait (I : MI) (p m : Nat) (t : Int32) : MI := upI (upI I 355 (6 * p + m) t) 354 p (nI (m + 1))
def Cpair (I : MI) (c : Nat) (x z : Int32) : MI := upI (upI (upI I 360 c x) 360 (c + 1) z) 6 5 (nI (c + 2))
def Chand (I : MI) (c m : Nat) (k t : Int32) : MI := upI (upI (upI (upI (upI I 362 (6 * c + m) k) 363 (6 * c + m) t) 364 (6 * c + m) (I 6 6)) 361 c (nI (m + 1))) 6 6 (I 6 6 + 1)
def Cmput (I : MI) (i z : Nat) (k t : Int32) : MI := upI (upI (upI I (lid i 6) z k) (lid i 7) z t) (lid i 2) 3 (nI (z + 1))
def Cmrem (I : MI) (i z k : Nat) : MI := upI (upI (upI I (lid i 2) 3 (nI z)) (lid i 6) k (I (lid i 6) z)) (lid i 7) k (I (lid i 7) z)
def Cbec (I : MI) (c i : Nat) (s : Int32) : MI := Clog (upI I (lid i 0) 2 s) c (nI i) 7 s
theorem nI_sub1 (q : Nat) : nI (q + 1) - 1 = nI q := nI_pred q
theorem ix8 (t m : Nat) {x z : Int32} (hx : x = nI t) (hz : z = nI m) : x * 8 + z = nI (8 * t + m) := by
  subst hx; subst hz
  rw [show (8 : Int32) = nI 8 from rfl, pk_mul, nI_add, Nat.mul_comm]
theorem ix6 (t m : Nat) {x z : Int32} (hx : x = nI t) (hz : z = nI m) : x * 6 + z = nI (6 * t + m) := by
  subst hx; subst hz
  rw [show (6 : Int32) = nI 6 from rfl, pk_mul, nI_add, Nat.mul_comm]
theorem nI_add1 {x : Int32} {q : Nat} (h : x = nI q) : x + 1 = nI (q + 1) := by subst h; exact nI_1 q
section
variable (l : Launch) (n : Nat) (hn : n < 2 ^ 31) (d : Nat) (I : MI) (L : ML)
set_option maxHeartbeats 4000000 in
set_option maxRecDepth 100000 in
theorem c_qput (i f q : Nat) (k x m : Int32) (hn : n < 2 ^ 31) (hi : i < n) (hf : I (lid i 1) 3 = nI f) (hq : I (lid i 1) 4 = nI q) (hfb : f < 24) (hqb : q < 24) : VM l n m_X3_put d 0 [.ref (lid i 1), .int k, .int x, .int m] I L (fun r I' L' => r = none ∧ I' = Cqput I i ((f + q) % 24) k x m ∧ L' = L) noX := by
  refine VM_of _ [(0, .ref (lid i 1)), (1, .int k), (2, .int x), (3, .int m)] rfl (fun a => Nat.le_of_ble_eq_true rfl) rfl ?_
  have hb : (f + q) % 24 < 24 := Nat.mod_lt _ (by decide)
  have e1 : (I (lid i 1) 3 + I (lid i 1) 4) - (I (lid i 1) 3 + I (lid i 1) 4) / 24 * 24 = nI ((f + q) % 24) := nI_rem (z := 24) (k := 24) (by rw [hf, hq, nI_add]) rfl (by omega) (by decide) (by decide)
  refine q_aload_n dX3_put_0 rfl ?_
  refine q_getI (lid i 1) 3 3 (vq_isL hi 1 (by decide) rfl) (by decide) rfl (by decide) f_X3_23 rfl dX3_put_1 ?_
  refine q_aload_n dX3_put_4 rfl ?_
  refine q_getI (lid i 1) 3 4 (vq_isL hi 1 (by decide) rfl) (by decide) rfl (by decide) f_X3_19 rfl dX3_put_5 ?_
  refine q_iadd dX3_put_8 ?_
  refine q_bipush (24) dX3_put_9 (by decide) ?_
  refine q_irem dX3_put_11 (by decide) ?_
  rw [e1]
  refine q_istore [(4, _), (0, _), (1, _), (2, _), (3, _)] dX3_put_12 (by decide) rfl ?_
  refine q_aload_n dX3_put_14 rfl ?_
  refine q_getR (lid i 1) 3 0 (lid i 3) (vq_isL hi 1 (by decide) rfl) (by decide) rfl ((gr_lid i 1 0 (by decide)).trans rfl) (by decide) f_X3_9 rfl dX3_put_15 ?_
  refine q_iload dX3_put_18 rfl ?_
  refine q_iload_n dX3_put_20 rfl ?_
  refine q_iast (lid i 3) ((f + q) % 24) hn (vq_isL hi 3 (by decide) rfl) rfl (by rw [gl_lid]; exact hb) dX3_put_21 ?_
  refine q_aload_n dX3_put_22 rfl ?_
  refine q_getR (lid i 1) 3 1 (lid i 4) (vq_isL hi 1 (by decide) rfl) (by decide) rfl ((gr_lid i 1 1 (by decide)).trans rfl) (by decide) f_X3_13 rfl dX3_put_23 ?_
  refine q_iload dX3_put_26 rfl ?_
  refine q_iload_n dX3_put_28 rfl ?_
  refine q_iast (lid i 4) ((f + q) % 24) hn (vq_isL hi 4 (by decide) rfl) rfl (by rw [gl_lid]; exact hb) dX3_put_29 ?_
  refine q_aload_n dX3_put_30 rfl ?_
  refine q_getR (lid i 1) 3 2 (lid i 5) (vq_isL hi 1 (by decide) rfl) (by decide) rfl ((gr_lid i 1 2 (by decide)).trans rfl) (by decide) f_X3_16 rfl dX3_put_31 ?_
  refine q_iload dX3_put_34 rfl ?_
  refine q_iload_n dX3_put_36 rfl ?_
  refine q_iast (lid i 5) ((f + q) % 24) hn (vq_isL hi 5 (by decide) rfl) rfl (by rw [gl_lid]; exact hb) dX3_put_37 ?_
  refine q_aload_n dX3_put_38 rfl ?_
  refine q_dup dX3_put_39 rfl ?_
  refine q_getI (lid i 1) 3 4 (vq_isL hi 1 (by decide) rfl) (by decide) rfl (by decide) f_X3_19 rfl dX3_put_40 ?_
  refine q_iconst (1) dX3_put_43 (by decide) ?_
  refine q_iadd dX3_put_44 ?_
  refine q_putI (lid i 1) 3 4 (vq_isL hi 1 (by decide) rfl) (by decide) rfl (by decide) rfl rfl f_X3_19 rfl dX3_put_45 ?_
  refine q_vret dX3_put_48 rfl (by omega) ⟨rfl, ?_, rfl⟩
  simp [Cqput, rdI, lid_eq]
set_option maxHeartbeats 4000000 in
set_option maxRecDepth 100000 in
theorem c_qdrop (i f : Nat) (hi : i < n) (hf : I (lid i 1) 3 = nI f) (hfb : f < 24) : VM l n m_X3_dropFirst d 0 [.ref (lid i 1)] I L (fun r I' L' => r = none ∧ I' = Cqdrop I i f ∧ L' = L) noX := by
  refine VM_of _ [(0, .ref (lid i 1))] rfl (fun a => Nat.le_of_ble_eq_true rfl) rfl ?_
  have e1 : (I (lid i 1) 3 + 1) - (I (lid i 1) 3 + 1) / 24 * 24 = nI ((f + 1) % 24) := nI_rem (z := 24) (k := 24) (by rw [hf, nI_1]) rfl (by omega) (by decide) (by decide)
  refine q_aload_n dX3_dropFirst_0 rfl ?_
  refine q_aload_n dX3_dropFirst_1 rfl ?_
  refine q_getI (lid i 1) 3 3 (vq_isL hi 1 (by decide) rfl) (by decide) rfl (by decide) f_X3_23 rfl dX3_dropFirst_2 ?_
  refine q_iconst (1) dX3_dropFirst_5 (by decide) ?_
  refine q_iadd dX3_dropFirst_6 ?_
  refine q_bipush (24) dX3_dropFirst_7 (by decide) ?_
  refine q_irem dX3_dropFirst_9 (by decide) ?_
  rw [e1]
  refine q_putI (lid i 1) 3 3 (vq_isL hi 1 (by decide) rfl) (by decide) rfl (by decide) rfl rfl f_X3_23 rfl dX3_dropFirst_10 ?_
  refine q_aload_n dX3_dropFirst_13 rfl ?_
  refine q_dup dX3_dropFirst_14 rfl ?_
  refine q_getI (lid i 1) 3 4 (vq_isL hi 1 (by decide) rfl) (by decide) rfl (by decide) f_X3_19 rfl dX3_dropFirst_15 ?_
  refine q_iconst (1) dX3_dropFirst_18 (by decide) ?_
  refine q_isub dX3_dropFirst_19 ?_
  refine q_putI (lid i 1) 3 4 (vq_isL hi 1 (by decide) rfl) (by decide) rfl (by decide) rfl rfl f_X3_19 rfl dX3_dropFirst_20 ?_
  refine q_vret dX3_dropFirst_23 rfl (by omega) ⟨rfl, ?_, rfl⟩
  simp [Cqdrop, rdI, lid_eq]
set_option maxHeartbeats 4000000 in
set_option maxRecDepth 100000 in
theorem c_tadd : VM l n m_X6_add d 0 [.ref 4] I L (fun r I' L' => r = some (.int (I 4 4 + 1 - 1)) ∧ I' = Ctadd I ∧ L' = L) noX := by
  refine VM_of _ [(0, .ref 4)] rfl (fun a => Nat.le_of_ble_eq_true rfl) rfl ?_
  refine q_aload_n dX6_add_0 rfl ?_
  refine q_dup dX6_add_1 rfl ?_
  refine q_getI 4 6 4 (is_4 n) (by decide) rfl (by decide) f_X6_22 rfl dX6_add_2 ?_
  refine q_iconst (1) dX6_add_5 (by decide) ?_
  refine q_iadd dX6_add_6 ?_
  refine q_putI 4 6 4 (is_4 n) (by decide) rfl (by decide) rfl rfl f_X6_22 rfl dX6_add_7 ?_
  refine q_aload_n dX6_add_10 rfl ?_
  refine q_getI 4 6 4 (is_4 n) (by decide) rfl (by decide) f_X6_22 rfl dX6_add_11 ?_
  refine q_iconst (1) dX6_add_14 (by decide) ?_
  refine q_isub dX6_add_15 ?_
  refine q_iret dX6_add_16 rfl (by omega) ?_
  exact ⟨by simp [rdI], rfl, rfl⟩
set_option maxHeartbeats 4000000 in
set_option maxRecDepth 100000 in
theorem c_addOrder (t m : Nat) (k a b : Int32) (hn : n < 2 ^ 31) (ht : t < 24) (hm : I 340 t = nI m) (hmb : m < 8) : VM l n m_X6_addOrder d 0 [.ref 4, .int (nI t), .int k, .int a, .int b] I L (fun r I' L' => r = some (.int (nI (m + 1))) ∧ I' = Cord I t m k a b ∧ L' = L) noX := by
  refine VM_of _ [(0, .ref 4), (1, .int (nI t)), (2, .int k), (3, .int a), (4, .int b)] rfl (fun a => Nat.le_of_ble_eq_true rfl) rfl ?_
  have e1 : nI t * 8 + I 340 t = nI (8 * t + m) := ix8 t m rfl hm
  refine q_iload_n dX6_addOrder_0 rfl ?_
  refine q_bipush (8) dX6_addOrder_1 (by decide) ?_
  refine q_imul dX6_addOrder_3 ?_
  refine q_aload_n dX6_addOrder_4 rfl ?_
  refine q_getR 4 6 0 340 (is_4 n) (by decide) rfl rfl (by decide) f_X6_9 rfl dX6_addOrder_5 ?_
  refine q_iload_n dX6_addOrder_8 rfl ?_
  refine q_iald 340 (t) hn (is_340 n) rfl ht dX6_addOrder_9 ?_
  refine q_iadd dX6_addOrder_10 ?_
  rw [e1]
  refine q_istore [(5, _), (0, _), (1, _), (2, _), (3, _), (4, _)] dX6_addOrder_11 (by decide) rfl ?_
  refine q_aload_n dX6_addOrder_13 rfl ?_
  refine q_getR 4 6 1 341 (is_4 n) (by decide) rfl rfl (by decide) f_X6_13 rfl dX6_addOrder_14 ?_
  refine q_iload dX6_addOrder_17 rfl ?_
  refine q_iload_n dX6_addOrder_19 rfl ?_
  refine q_iast 341 (8 * t + m) hn (is_341 n) rfl (by show _ < 192; omega) dX6_addOrder_20 ?_
  refine q_aload_n dX6_addOrder_21 rfl ?_
  refine q_getR 4 6 2 342 (is_4 n) (by decide) rfl rfl (by decide) f_X6_16 rfl dX6_addOrder_22 ?_
  refine q_iload dX6_addOrder_25 rfl ?_
  refine q_iload_n dX6_addOrder_27 rfl ?_
  refine q_iast 342 (8 * t + m) hn (is_342 n) rfl (by show _ < 192; omega) dX6_addOrder_28 ?_
  refine q_aload_n dX6_addOrder_29 rfl ?_
  refine q_getR 4 6 3 343 (is_4 n) (by decide) rfl rfl (by decide) f_X6_19 rfl dX6_addOrder_30 ?_
  refine q_iload dX6_addOrder_33 rfl ?_
  refine q_iload dX6_addOrder_35 rfl ?_
  refine q_iast 343 (8 * t + m) hn (is_343 n) rfl (by show _ < 192; omega) dX6_addOrder_37 ?_
  refine q_aload_n dX6_addOrder_38 rfl ?_
  refine q_getR 4 6 0 340 (is_4 n) (by decide) rfl rfl (by decide) f_X6_9 rfl dX6_addOrder_39 ?_
  refine q_iload_n dX6_addOrder_42 rfl ?_
  refine q_dup2 dX6_addOrder_43 rfl rfl ?_
  refine q_iald 340 (t) hn (is_340 n) rfl ht dX6_addOrder_44 ?_
  refine q_iconst (1) dX6_addOrder_45 (by decide) ?_
  refine q_iadd dX6_addOrder_46 ?_
  refine q_iast 340 (t) hn (is_340 n) rfl ht dX6_addOrder_47 ?_
  refine q_aload_n dX6_addOrder_48 rfl ?_
  refine q_getR 4 6 0 340 (is_4 n) (by decide) rfl rfl (by decide) f_X6_9 rfl dX6_addOrder_49 ?_
  refine q_iload_n dX6_addOrder_52 rfl ?_
  refine q_iald 340 (t) hn (is_340 n) rfl ht dX6_addOrder_53 ?_
  refine q_iret dX6_addOrder_54 rfl (by omega) ?_
  exact ⟨by simp [rdI, hm, nI_1], by simp [Cord, rdI, hm, nI_1], rfl⟩
set_option maxHeartbeats 4000000 in
set_option maxRecDepth 100000 in
theorem c_padd (c : Nat) (e : Int32) (hn : n < 2 ^ 31) (hc : I 5 6 = nI c) (hcb : c < 32) : VM l n m_X2_add d 0 [.ref 5, .int e] I L (fun r I' L' => r = some (.int (nI c)) ∧ I' = Cpadd I c e ∧ L' = L) noX := by
  refine VM_of _ [(0, .ref 5), (1, .int e)] rfl (fun a => Nat.le_of_ble_eq_true rfl) rfl ?_
  refine q_aload_n dX2_add_0 rfl ?_
  refine q_getR 5 2 0 350 (is_5 n) (by decide) rfl rfl (by decide) f_X2_9 rfl dX2_add_1 ?_
  refine q_aload_n dX2_add_4 rfl ?_
  refine q_getI 5 2 6 (is_5 n) (by decide) rfl (by decide) f_X2_29 rfl dX2_add_5 ?_
  refine q_iload_n dX2_add_8 rfl ?_
  refine q_iast 350 (c) hn (is_350 n) hc hcb dX2_add_9 ?_
  refine q_aload_n dX2_add_10 rfl ?_
  refine q_dup dX2_add_11 rfl ?_
  refine q_getI 5 2 6 (is_5 n) (by decide) rfl (by decide) f_X2_29 rfl dX2_add_12 ?_
  refine q_iconst (1) dX2_add_15 (by decide) ?_
  refine q_iadd dX2_add_16 ?_
  refine q_putI 5 2 6 (is_5 n) (by decide) rfl (by decide) rfl rfl f_X2_29 rfl dX2_add_17 ?_
  refine q_aload_n dX2_add_20 rfl ?_
  refine q_getI 5 2 6 (is_5 n) (by decide) rfl (by decide) f_X2_29 rfl dX2_add_21 ?_
  refine q_iconst (1) dX2_add_24 (by decide) ?_
  refine q_isub dX2_add_25 ?_
  refine q_iret dX2_add_26 rfl (by omega) ?_
  exact ⟨by simp [rdI, hc, nI_1, nI_sub1], by simp [Cpadd, rdI, hc, nI_1], rfl⟩
set_option maxHeartbeats 4000000 in
set_option maxRecDepth 100000 in
theorem c_pin (p : Nat) (hn : n < 2 ^ 31) (hp : p < 32) (hd : 1 ≤ d) : VM l n m_X2_pin d 0 [.ref 5, .int (nI p)] I L (fun r I' L' => r = some (.int (bI (I 351 p = 0))) ∧ I' = (if I 351 p = 0 then upI I 353 p 1 else I) ∧ L' = L) noX := by
  refine VM_of _ [(0, .ref 5), (1, .int (nI p))] rfl (fun a => Nat.le_of_ble_eq_true rfl) rfl ?_
  refine q_aload_n dX2_pin_0 rfl ?_
  refine q_iload_n dX2_pin_1 rfl ?_
  refine q_calli [.int _] o_X2_isPending rfl k_X2_33 rfl (is_5 n) (by decide) rfl dX2_pin_2 (by decide) (by omega) (by decide) (by omega) (Or.inr rfl) (c_isPending l n (d - 1) I L p hn hp) (fun _ _ _ h => h.elim) (fun r1 I1 L1 hq => ?_)
  obtain ⟨e1, rfl, rfl⟩ := hq; cases e1
  refine q_if_ne 10 dX2_pin_5 (by decide) (fun h5 => ?_) (fun h5 => ?_)
  · refine q_aload_n dX2_pin_10 rfl ?_
    refine q_getR 5 2 3 353 (is_5 n) (by decide) rfl rfl (by decide) f_X2_19 rfl dX2_pin_11 ?_
    refine q_iload_n dX2_pin_14 rfl ?_
    refine q_iconst (1) dX2_pin_15 (by decide) ?_
    refine q_zast 353 (p) hn (is_353 n) rfl hp (by decide) dX2_pin_16 ?_
    refine q_iconst (1) dX2_pin_17 (by decide) ?_
    refine q_zret dX2_pin_18 rfl (by omega) (by decide) ?_
    (simp only [bI_z, ne_eq, Decidable.not_not] at h5; simp [bI, h5])
  · refine q_iconst (0) dX2_pin_8 (by decide) ?_
    refine q_zret dX2_pin_9 rfl (by omega) (by decide) ?_
    (simp only [bI_z, ne_eq, Decidable.not_not] at h5; simp [bI, h5])
set_option maxHeartbeats 4000000 in
set_option maxRecDepth 100000 in
theorem c_close (p : Nat) (s v : Int32) (hn : n < 2 ^ 31) (hp : p < 32) (hd : 1 ≤ d) : VM l n m_X2_close d 0 [.ref 5, .int (nI p), .int s, .int v] I L (fun r I' L' => r = some (.int (bI (¬ (I 351 p ≠ 0 ∨ (s = 3 ∧ I 353 p ≠ 0))))) ∧ I' = (if I 351 p ≠ 0 ∨ (s = 3 ∧ I 353 p ≠ 0) then I else upI (upI I 351 p s) 352 p (if s = 3 then 0 else v)) ∧ L' = L) noX := by
  refine VM_of _ [(0, .ref 5), (1, .int (nI p)), (2, .int s), (3, .int v)] rfl (fun a => Nat.le_of_ble_eq_true rfl) rfl ?_
  refine q_aload_n dX2_close_0 rfl ?_
  refine q_iload_n dX2_close_1 rfl ?_
  refine q_calli [.int _] o_X2_isPending rfl k_X2_33 rfl (is_5 n) (by decide) rfl dX2_close_2 (by decide) (by omega) (by decide) (by omega) (Or.inr rfl) (c_isPending l n (d - 1) I L p hn hp) (fun _ _ _ h => h.elim) (fun r1 I1 L1 hq => ?_)
  obtain ⟨e1, rfl, rfl⟩ := hq; cases e1
  refine q_if_eq 22 dX2_close_5 (by decide) (fun h5 => ?_) (fun h5 => ?_)
  · refine q_iconst (0) dX2_close_22 (by decide) ?_
    refine q_zret dX2_close_23 rfl (by omega) (by decide) ?_
    (simp only [bI_z, ne_eq, Decidable.not_not] at *; simp_all [bI])
  · refine q_iload_n dX2_close_8 rfl ?_
    refine q_iconst (3) dX2_close_9 (by decide) ?_
    refine q_icmp_ne 24 dX2_close_10 (by decide) (fun h10 => ?_) (fun h10 => ?_)
    · refine q_aload_n dX2_close_24 rfl ?_
      refine q_getR 5 2 1 351 (is_5 n) (by decide) rfl rfl (by decide) f_X2_13 rfl dX2_close_25 ?_
      refine q_iload_n dX2_close_28 rfl ?_
      refine q_iload_n dX2_close_29 rfl ?_
      refine q_iast 351 (p) hn (is_351 n) rfl hp dX2_close_30 ?_
      refine q_aload_n dX2_close_31 rfl ?_
      refine q_getR 5 2 2 352 (is_5 n) (by decide) rfl rfl (by decide) f_X2_16 rfl dX2_close_32 ?_
      refine q_iload_n dX2_close_35 rfl ?_
      refine q_iload_n dX2_close_36 rfl ?_
      refine q_iconst (3) dX2_close_37 (by decide) ?_
      refine q_icmp_ne 45 dX2_close_38 (by decide) (fun h38 => ?_) (fun h38 => ?_)
      · refine q_iload_n dX2_close_45 rfl ?_
        refine q_iast 352 (p) hn (is_352 n) rfl hp dX2_close_46 ?_
        refine q_iconst (1) dX2_close_47 (by decide) ?_
        refine q_zret dX2_close_48 rfl (by omega) (by decide) ?_
        (simp only [bI_z, ne_eq, Decidable.not_not] at *; simp_all [bI])
      · refine q_iconst (0) dX2_close_41 (by decide) ?_
        refine q_goto 46 dX2_close_42 (by decide) ?_
        refine q_iast 352 (p) hn (is_352 n) rfl hp dX2_close_46 ?_
        refine q_iconst (1) dX2_close_47 (by decide) ?_
        refine q_zret dX2_close_48 rfl (by omega) (by decide) ?_
        (simp only [bI_z, ne_eq, Decidable.not_not] at *; simp_all [bI])
    · refine q_aload_n dX2_close_13 rfl ?_
      refine q_getR 5 2 3 353 (is_5 n) (by decide) rfl rfl (by decide) f_X2_19 rfl dX2_close_14 ?_
      refine q_iload_n dX2_close_17 rfl ?_
      refine q_zald 353 (p) hn (is_353 n) rfl hp dX2_close_18 ?_
      refine q_if_eq 24 dX2_close_19 (by decide) (fun h19 => ?_) (fun h19 => ?_)
      · refine q_aload_n dX2_close_24 rfl ?_
        refine q_getR 5 2 1 351 (is_5 n) (by decide) rfl rfl (by decide) f_X2_13 rfl dX2_close_25 ?_
        refine q_iload_n dX2_close_28 rfl ?_
        refine q_iload_n dX2_close_29 rfl ?_
        refine q_iast 351 (p) hn (is_351 n) rfl hp dX2_close_30 ?_
        refine q_aload_n dX2_close_31 rfl ?_
        refine q_getR 5 2 2 352 (is_5 n) (by decide) rfl rfl (by decide) f_X2_16 rfl dX2_close_32 ?_
        refine q_iload_n dX2_close_35 rfl ?_
        refine q_iload_n dX2_close_36 rfl ?_
        refine q_iconst (3) dX2_close_37 (by decide) ?_
        refine q_icmp_ne 45 dX2_close_38 (by decide) (fun h38 => ?_) (fun h38 => ?_)
        · refine q_iload_n dX2_close_45 rfl ?_
          refine q_iast 352 (p) hn (is_352 n) rfl hp dX2_close_46 ?_
          refine q_iconst (1) dX2_close_47 (by decide) ?_
          refine q_zret dX2_close_48 rfl (by omega) (by decide) ?_
          (simp only [bI_z, ne_eq, Decidable.not_not] at *; simp_all [bI])
        · refine q_iconst (0) dX2_close_41 (by decide) ?_
          refine q_goto 46 dX2_close_42 (by decide) ?_
          refine q_iast 352 (p) hn (is_352 n) rfl hp dX2_close_46 ?_
          refine q_iconst (1) dX2_close_47 (by decide) ?_
          refine q_zret dX2_close_48 rfl (by omega) (by decide) ?_
          (simp only [bI_z, ne_eq, Decidable.not_not] at *; simp_all [bI])
      · refine q_iconst (0) dX2_close_22 (by decide) ?_
        refine q_zret dX2_close_23 rfl (by omega) (by decide) ?_
        (simp only [bI_z, ne_eq, Decidable.not_not] at *; simp_all [bI])
set_option maxHeartbeats 4000000 in
set_option maxRecDepth 100000 in
theorem c_addWaiting (p m : Nat) (t : Int32) (hn : n < 2 ^ 31) (hp : p < 32) (hm : I 354 p = nI m) (hmb : m < 6) : VM l n m_X2_addWaiting d 0 [.ref 5, .int (nI p), .int t] I L (fun r I' L' => r = none ∧ I' = Cwait I p m t ∧ L' = L) noX := by
  refine VM_of _ [(0, .ref 5), (1, .int (nI p)), (2, .int t)] rfl (fun a => Nat.le_of_ble_eq_true rfl) rfl ?_
  refine q_aload_n dX2_addWaiting_0 rfl ?_
  refine q_getR 5 2 5 355 (is_5 n) (by decide) rfl rfl (by decide) f_X2_26 rfl dX2_addWaiting_1 ?_
  refine q_iload_n dX2_addWaiting_4 rfl ?_
  refine q_bipush (6) dX2_addWaiting_5 (by decide) ?_
  refine q_imul dX2_addWaiting_7 ?_
  refine q_aload_n dX2_addWaiting_8 rfl ?_
  refine q_getR 5 2 4 354 (is_5 n) (by decide) rfl rfl (by decide) f_X2_23 rfl dX2_addWaiting_9 ?_
  refine q_iload_n dX2_addWaiting_12 rfl ?_
  refine q_iald 354 (p) hn (is_354 n) rfl hp dX2_addWaiting_13 ?_
  refine q_iadd dX2_addWaiting_14 ?_
  refine q_iload_n dX2_addWaiting_15 rfl ?_
  refine q_iast 355 (6 * p + m) hn (is_355 n) (ix6 p m rfl hm) (by show _ < 192; omega) dX2_addWaiting_16 ?_
  refine q_aload_n dX2_addWaiting_17 rfl ?_
  refine q_getR 5 2 4 354 (is_5 n) (by decide) rfl rfl (by decide) f_X2_23 rfl dX2_addWaiting_18 ?_
  refine q_iload_n dX2_addWaiting_21 rfl ?_
  refine q_dup2 dX2_addWaiting_22 rfl rfl ?_
  refine q_iald 354 (p) hn (is_354 n) rfl hp dX2_addWaiting_23 ?_
  refine q_iconst (1) dX2_addWaiting_24 (by decide) ?_
  refine q_iadd dX2_addWaiting_25 ?_
  refine q_iast 354 (p) hn (is_354 n) rfl hp dX2_addWaiting_26 ?_
  refine q_vret dX2_addWaiting_27 rfl (by omega) ?_
  exact ⟨rfl, by simp [Cwait, rdI, hm, nI_1], rfl⟩
set_option maxHeartbeats 4000000 in
set_option maxRecDepth 100000 in
theorem c_addPair (c : Nat) (x z : Int32) (hn : n < 2 ^ 31) (hc : I 6 5 = nI c) (hcb : c < 15) : VM l n m_X0_addPair d 0 [.ref 6, .int x, .int z] I L (fun r I' L' => r = some (.int (nI c)) ∧ I' = Cpair I c x z ∧ L' = L) noX := by
  refine VM_of _ [(0, .ref 6), (1, .int x), (2, .int z)] rfl (fun a => Nat.le_of_ble_eq_true rfl) rfl ?_
  have e2 : nI c + 2 = nI (c + 2) := nI_add c 2
  have e3 : nI (c + 2) - 2 = nI c := (pk_sub (a := c + 2) (b := 2) (by omega))
  refine q_aload_n dX0_addPair_0 rfl ?_
  refine q_getR 6 0 0 360 (is_6 n) (by decide) rfl rfl (by decide) f_X0_9 rfl dX0_addPair_1 ?_
  refine q_aload_n dX0_addPair_4 rfl ?_
  refine q_getI 6 0 5 (is_6 n) (by decide) rfl (by decide) f_X0_25 rfl dX0_addPair_5 ?_
  refine q_iload_n dX0_addPair_8 rfl ?_
  refine q_iast 360 (c) hn (is_360 n) hc (by show _ < 16; omega) dX0_addPair_9 ?_
  refine q_aload_n dX0_addPair_10 rfl ?_
  refine q_getR 6 0 0 360 (is_6 n) (by decide) rfl rfl (by decide) f_X0_9 rfl dX0_addPair_11 ?_
  refine q_aload_n dX0_addPair_14 rfl ?_
  refine q_getI 6 0 5 (is_6 n) (by decide) rfl (by decide) f_X0_25 rfl dX0_addPair_15 ?_
  refine q_iconst (1) dX0_addPair_18 (by decide) ?_
  refine q_iadd dX0_addPair_19 ?_
  refine q_iload_n dX0_addPair_20 rfl ?_
  refine q_iast 360 (c + 1) hn (is_360 n) (by simp [rdI, hc, nI_1]) (by show _ < 16; omega) dX0_addPair_21 ?_
  refine q_aload_n dX0_addPair_22 rfl ?_
  refine q_dup dX0_addPair_23 rfl ?_
  refine q_getI 6 0 5 (is_6 n) (by decide) rfl (by decide) f_X0_25 rfl dX0_addPair_24 ?_
  refine q_iconst (2) dX0_addPair_27 (by decide) ?_
  refine q_iadd dX0_addPair_28 ?_
  refine q_putI 6 0 5 (is_6 n) (by decide) rfl (by decide) rfl rfl f_X0_25 rfl dX0_addPair_29 ?_
  refine q_aload_n dX0_addPair_32 rfl ?_
  refine q_getI 6 0 5 (is_6 n) (by decide) rfl (by decide) f_X0_25 rfl dX0_addPair_33 ?_
  refine q_iconst (2) dX0_addPair_36 (by decide) ?_
  refine q_isub dX0_addPair_37 ?_
  refine q_iret dX0_addPair_38 rfl (by omega) ?_
  exact ⟨by simp [rdI, hc, e2, e3], by simp [Cpair, rdI, hc, e2], rfl⟩
set_option maxHeartbeats 4000000 in
set_option maxRecDepth 100000 in
theorem c_addHandler (c m : Nat) (k t : Int32) (hn : n < 2 ^ 31) (hc : c < 16) (hm : I 361 c = nI m) (hmb : m < 6) : VM l n m_X0_addHandler d 0 [.ref 6, .int (nI c), .int k, .int t] I L (fun r I' L' => r = some (.int (I 6 6)) ∧ I' = Chand I c m k t ∧ L' = L) noX := by
  refine VM_of _ [(0, .ref 6), (1, .int (nI c)), (2, .int k), (3, .int t)] rfl (fun a => Nat.le_of_ble_eq_true rfl) rfl ?_
  have e1 : nI c * 6 + I 361 c = nI (6 * c + m) := ix6 c m rfl hm
  refine q_iload_n dX0_addHandler_0 rfl ?_
  refine q_bipush (6) dX0_addHandler_1 (by decide) ?_
  refine q_imul dX0_addHandler_3 ?_
  refine q_aload_n dX0_addHandler_4 rfl ?_
  refine q_getR 6 0 1 361 (is_6 n) (by decide) rfl rfl (by decide) f_X0_13 rfl dX0_addHandler_5 ?_
  refine q_iload_n dX0_addHandler_8 rfl ?_
  refine q_iald 361 (c) hn (is_361 n) rfl hc dX0_addHandler_9 ?_
  refine q_iadd dX0_addHandler_10 ?_
  rw [e1]
  refine q_istore [(4, _), (0, _), (1, _), (2, _), (3, _)] dX0_addHandler_11 (by decide) rfl ?_
  refine q_aload_n dX0_addHandler_13 rfl ?_
  refine q_getR 6 0 2 362 (is_6 n) (by decide) rfl rfl (by decide) f_X0_16 rfl dX0_addHandler_14 ?_
  refine q_iload dX0_addHandler_17 rfl ?_
  refine q_iload_n dX0_addHandler_19 rfl ?_
  refine q_iast 362 (6 * c + m) hn (is_362 n) rfl (by show _ < 96; omega) dX0_addHandler_20 ?_
  refine q_aload_n dX0_addHandler_21 rfl ?_
  refine q_getR 6 0 3 363 (is_6 n) (by decide) rfl rfl (by decide) f_X0_19 rfl dX0_addHandler_22 ?_
  refine q_iload dX0_addHandler_25 rfl ?_
  refine q_iload_n dX0_addHandler_27 rfl ?_
  refine q_iast 363 (6 * c + m) hn (is_363 n) rfl (by show _ < 96; omega) dX0_addHandler_28 ?_
  refine q_aload_n dX0_addHandler_29 rfl ?_
  refine q_getR 6 0 4 364 (is_6 n) (by decide) rfl rfl (by decide) f_X0_22 rfl dX0_addHandler_30 ?_
  refine q_iload dX0_addHandler_33 rfl ?_
  refine q_aload_n dX0_addHandler_35 rfl ?_
  refine q_getI 6 0 6 (is_6 n) (by decide) rfl (by decide) f_X0_29 rfl dX0_addHandler_36 ?_
  refine q_iast 364 (6 * c + m) hn (is_364 n) rfl (by show _ < 96; omega) dX0_addHandler_39 ?_
  refine q_aload_n dX0_addHandler_40 rfl ?_
  refine q_getR 6 0 1 361 (is_6 n) (by decide) rfl rfl (by decide) f_X0_13 rfl dX0_addHandler_41 ?_
  refine q_iload_n dX0_addHandler_44 rfl ?_
  refine q_dup2 dX0_addHandler_45 rfl rfl ?_
  refine q_iald 361 (c) hn (is_361 n) rfl hc dX0_addHandler_46 ?_
  refine q_iconst (1) dX0_addHandler_47 (by decide) ?_
  refine q_iadd dX0_addHandler_48 ?_
  refine q_iast 361 (c) hn (is_361 n) rfl hc dX0_addHandler_49 ?_
  refine q_aload_n dX0_addHandler_50 rfl ?_
  refine q_dup dX0_addHandler_51 rfl ?_
  refine q_getI 6 0 6 (is_6 n) (by decide) rfl (by decide) f_X0_29 rfl dX0_addHandler_52 ?_
  refine q_iconst (1) dX0_addHandler_55 (by decide) ?_
  refine q_iadd dX0_addHandler_56 ?_
  refine q_putI 6 0 6 (is_6 n) (by decide) rfl (by decide) rfl rfl f_X0_29 rfl dX0_addHandler_57 ?_
  refine q_aload_n dX0_addHandler_60 rfl ?_
  refine q_getR 6 0 4 364 (is_6 n) (by decide) rfl rfl (by decide) f_X0_22 rfl dX0_addHandler_61 ?_
  refine q_iload dX0_addHandler_64 rfl ?_
  refine q_iald 364 (6 * c + m) hn (is_364 n) rfl (by show _ < 96; omega) dX0_addHandler_66 ?_
  refine q_iret dX0_addHandler_67 rfl (by omega) ?_
  exact ⟨by simp [rdI], by simp [Chand, rdI, hm, nI_1], rfl⟩
set_option maxHeartbeats 4000000 in
set_option maxRecDepth 100000 in
theorem c_mput (i z : Nat) (k t : Int32) (dl : Int64) (hn : n < 2 ^ 31) (hi : i < n) (hz : I (lid i 2) 3 = nI z) (hzb : z < 24) : VM l n m_X7_put d 0 [.ref (lid i 2), .int k, .int t, .long dl] I L (fun r I' L' => r = none ∧ I' = Cmput I i z k t ∧ L' = upL L (lid i 8) z dl) noX := by
  refine VM_of _ [(0, .ref (lid i 2)), (1, .int k), (2, .int t), (3, .long dl)] rfl (fun a => Nat.le_of_ble_eq_true rfl) rfl ?_
  refine q_aload_n dX7_put_0 rfl ?_
  refine q_getR (lid i 2) 7 0 (lid i 6) (vq_isL hi 2 (by decide) rfl) (by decide) rfl ((gr_lid i 2 0 (by decide)).trans rfl) (by decide) f_X7_11 rfl dX7_put_1 ?_
  refine q_aload_n dX7_put_4 rfl ?_
  refine q_getI (lid i 2) 7 3 (vq_isL hi 2 (by decide) rfl) (by decide) rfl (by decide) f_X7_22 rfl dX7_put_5 ?_
  refine q_iload_n dX7_put_8 rfl ?_
  refine q_iast (lid i 6) (z) hn (vq_isL hi 6 (by decide) rfl) hz (by rw [gl_lid]; exact hzb) dX7_put_9 ?_
  refine q_aload_n dX7_put_10 rfl ?_
  refine q_getR (lid i 2) 7 1 (lid i 7) (vq_isL hi 2 (by decide) rfl) (by decide) rfl ((gr_lid i 2 1 (by decide)).trans rfl) (by decide) f_X7_15 rfl dX7_put_11 ?_
  refine q_aload_n dX7_put_14 rfl ?_
  refine q_getI (lid i 2) 7 3 (vq_isL hi 2 (by decide) rfl) (by decide) rfl (by decide) f_X7_22 rfl dX7_put_15 ?_
  refine q_iload_n dX7_put_18 rfl ?_
  refine q_iast (lid i 7) (z) hn (vq_isL hi 7 (by decide) rfl) (by simp [rdI, lid_eq, hz]) (by rw [gl_lid]; exact hzb) dX7_put_19 ?_
  refine q_aload_n dX7_put_20 rfl ?_
  refine q_getR (lid i 2) 7 2 (lid i 8) (vq_isL hi 2 (by decide) rfl) (by decide) rfl ((gr_lid i 2 2 (by decide)).trans rfl) (by decide) f_X7_18 rfl dX7_put_21 ?_
  refine q_aload_n dX7_put_24 rfl ?_
  refine q_getI (lid i 2) 7 3 (vq_isL hi 2 (by decide) rfl) (by decide) rfl (by decide) f_X7_22 rfl dX7_put_25 ?_
  refine q_lload_n dX7_put_28 rfl ?_
  refine q_last (lid i 8) (z) hn (vq_isL hi 8 (by decide) rfl) (by simp [rdI, lid_eq, hz]) (by rw [gl_lid]; exact hzb) dX7_put_29 ?_
  refine q_aload_n dX7_put_30 rfl ?_
  refine q_dup dX7_put_31 rfl ?_
  refine q_getI (lid i 2) 7 3 (vq_isL hi 2 (by decide) rfl) (by decide) rfl (by decide) f_X7_22 rfl dX7_put_32 ?_
  refine q_iconst (1) dX7_put_35 (by decide) ?_
  refine q_iadd dX7_put_36 ?_
  refine q_putI (lid i 2) 7 3 (vq_isL hi 2 (by decide) rfl) (by decide) rfl (by decide) rfl rfl f_X7_22 rfl dX7_put_37 ?_
  refine q_vret dX7_put_40 rfl (by omega) ?_
  exact ⟨rfl, by simp [Cmput, rdI, lid_eq, hz, nI_1], rfl⟩
set_option maxHeartbeats 4000000 in
set_option maxRecDepth 100000 in
theorem c_mrem (i z k : Nat) (hn : n < 2 ^ 31) (hi : i < n) (hz : I (lid i 2) 3 = nI (z + 1)) (hzb : z < 24) (hk : k < 24) : VM l n m_X7_removeAt d 0 [.ref (lid i 2), .int (nI k)] I L (fun r I' L' => r = none ∧ I' = Cmrem I i z k ∧ L' = upL L (lid i 8) k (L (lid i 8) z)) noX := by
  refine VM_of _ [(0, .ref (lid i 2)), (1, .int (nI k))] rfl (fun a => Nat.le_of_ble_eq_true rfl) rfl ?_
  refine q_aload_n dX7_removeAt_0 rfl ?_
  refine q_dup dX7_removeAt_1 rfl ?_
  refine q_getI (lid i 2) 7 3 (vq_isL hi 2 (by decide) rfl) (by decide) rfl (by decide) f_X7_22 rfl dX7_removeAt_2 ?_
  refine q_iconst (1) dX7_removeAt_5 (by decide) ?_
  refine q_isub dX7_removeAt_6 ?_
  refine q_putI (lid i 2) 7 3 (vq_isL hi 2 (by decide) rfl) (by decide) rfl (by decide) rfl rfl f_X7_22 rfl dX7_removeAt_7 ?_
  refine q_aload_n dX7_removeAt_10 rfl ?_
  refine q_getR (lid i 2) 7 0 (lid i 6) (vq_isL hi 2 (by decide) rfl) (by decide) rfl ((gr_lid i 2 0 (by decide)).trans rfl) (by decide) f_X7_11 rfl dX7_removeAt_11 ?_
  refine q_iload_n dX7_removeAt_14 rfl ?_
  refine q_aload_n dX7_removeAt_15 rfl ?_
  refine q_getR (lid i 2) 7 0 (lid i 6) (vq_isL hi 2 (by decide) rfl) (by decide) rfl ((gr_lid i 2 0 (by decide)).trans rfl) (by decide) f_X7_11 rfl dX7_removeAt_16 ?_
  refine q_aload_n dX7_removeAt_19 rfl ?_
  refine q_getI (lid i 2) 7 3 (vq_isL hi 2 (by decide) rfl) (by decide) rfl (by decide) f_X7_22 rfl dX7_removeAt_20 ?_
  refine q_iald (lid i 6) (z) hn (vq_isL hi 6 (by decide) rfl) (by simp [rdI, lid_eq, hz, nI_sub1]) (by rw [gl_lid]; exact hzb) dX7_removeAt_23 ?_
  refine q_iast (lid i 6) (k) hn (vq_isL hi 6 (by decide) rfl) rfl (by rw [gl_lid]; exact hk) dX7_removeAt_24 ?_
  refine q_aload_n dX7_removeAt_25 rfl ?_
  refine q_getR (lid i 2) 7 1 (lid i 7) (vq_isL hi 2 (by decide) rfl) (by decide) rfl ((gr_lid i 2 1 (by decide)).trans rfl) (by decide) f_X7_15 rfl dX7_removeAt_26 ?_
  refine q_iload_n dX7_removeAt_29 rfl ?_
  refine q_aload_n dX7_removeAt_30 rfl ?_
  refine q_getR (lid i 2) 7 1 (lid i 7) (vq_isL hi 2 (by decide) rfl) (by decide) rfl ((gr_lid i 2 1 (by decide)).trans rfl) (by decide) f_X7_15 rfl dX7_removeAt_31 ?_
  refine q_aload_n dX7_removeAt_34 rfl ?_
  refine q_getI (lid i 2) 7 3 (vq_isL hi 2 (by decide) rfl) (by decide) rfl (by decide) f_X7_22 rfl dX7_removeAt_35 ?_
  refine q_iald (lid i 7) (z) hn (vq_isL hi 7 (by decide) rfl) (by simp [rdI, lid_eq, hz, nI_sub1]) (by rw [gl_lid]; exact hzb) dX7_removeAt_38 ?_
  refine q_iast (lid i 7) (k) hn (vq_isL hi 7 (by decide) rfl) rfl (by rw [gl_lid]; exact hk) dX7_removeAt_39 ?_
  refine q_aload_n dX7_removeAt_40 rfl ?_
  refine q_getR (lid i 2) 7 2 (lid i 8) (vq_isL hi 2 (by decide) rfl) (by decide) rfl ((gr_lid i 2 2 (by decide)).trans rfl) (by decide) f_X7_18 rfl dX7_removeAt_41 ?_
  refine q_iload_n dX7_removeAt_44 rfl ?_
  refine q_aload_n dX7_removeAt_45 rfl ?_
  refine q_getR (lid i 2) 7 2 (lid i 8) (vq_isL hi 2 (by decide) rfl) (by decide) rfl ((gr_lid i 2 2 (by decide)).trans rfl) (by decide) f_X7_18 rfl dX7_removeAt_46 ?_
  refine q_aload_n dX7_removeAt_49 rfl ?_
  refine q_getI (lid i 2) 7 3 (vq_isL hi 2 (by decide) rfl) (by decide) rfl (by decide) f_X7_22 rfl dX7_removeAt_50 ?_
  refine q_lald (lid i 8) (z) hn (vq_isL hi 8 (by decide) rfl) (by simp [rdI, lid_eq, hz, nI_sub1]) (by rw [gl_lid]; exact hzb) dX7_removeAt_53 ?_
  refine q_last (lid i 8) (k) hn (vq_isL hi 8 (by decide) rfl) rfl (by rw [gl_lid]; exact hk) dX7_removeAt_54 ?_
  refine q_vret dX7_removeAt_55 rfl (by omega) ?_
  exact ⟨rfl, by simp [Cmrem, rdI, lid_eq, hz, nI_sub1], rfl⟩
set_option maxHeartbeats 4000000 in
set_option maxRecDepth 100000 in
theorem c_become (i c : Nat) (s : Int32) (hn : n < 2 ^ 31) (hi : i < n) (hc : I 3 1 = nI c) (hcb : c < 2 ^ 31) (hd : 1 ≤ d) : VM l n m_X5_become d 0 [.ref 2, .int (nI i), .int s] I L (fun r I' L' => r = none ∧ I' = Cbec I c i s ∧ L' = L) noX := by
  refine VM_of _ [(0, .ref 2), (1, .int (nI i)), (2, .int s)] rfl (fun a => Nat.le_of_ble_eq_true rfl) rfl ?_
  refine q_aload_n dX5_become_0 rfl ?_
  refine q_getR 2 5 1 321 (is_2 n) (by decide) rfl rfl (by decide) f_X5_20 rfl dX5_become_1 ?_
  refine q_iload_n dX5_become_4 rfl ?_
  refine q_aald 321 (i) (lid (i) 0) hn (is_321 n) rfl hi rfl dX5_become_5 ?_
  refine q_iload_n dX5_become_6 rfl ?_
  refine q_putI (lid i 0) 1 2 (vq_isL hi 0 (by decide) rfl) (by decide) rfl (by decide) rfl rfl f_X5_35 rfl dX5_become_7 ?_
  refine q_aload_n dX5_become_10 rfl ?_
  refine q_getR 2 5 0 3 (is_2 n) (by decide) rfl rfl (by decide) f_X5_12 rfl dX5_become_11 ?_
  refine q_iload_n dX5_become_14 rfl ?_
  refine q_bipush (7) dX5_become_15 (by decide) ?_
  refine q_iload_n dX5_become_17 rfl ?_
  refine q_callv [.int _, .int _, .int _] o_X8_log rfl k_X5_48 rfl (is_3 n) (by decide) rfl dX5_become_18 (by decide) (by omega) (by decide) (by omega) rfl (c_log l n hn (d - 1) _ L c (nI i) 7 s (by simp [rdI, ne_lid, hc]) hcb) (fun _ _ _ h => h.elim) (fun I1 L1 hq => ?_)
  obtain ⟨-, rfl, rfl⟩ := hq
  refine q_vret dX5_become_21 rfl (by omega) ?_
  exact ⟨rfl, rfl, rfl⟩
end

