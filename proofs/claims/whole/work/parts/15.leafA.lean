/-! ===== the class's leaves: reads ===== -/
theorem gl_321 (n : Nat) : gl n 321 = n := rfl
def bI (p : Prop) [Decidable p] : Int32 := if p then 1 else 0
theorem bI_z {p : Prop} [Decidable p] : (bI p = 0) = ¬ p := by
  unfold bI
  split <;> rename_i h <;> simp [h]
theorem bI_t {p : Prop} [Decidable p] (h : p) : bI p = 1 := if_pos h
theorem bI_f {p : Prop} [Decidable p] (h : ¬ p) : bI p = 0 := if_neg h
theorem bI_nar {p : Prop} [Decidable p] : narrow .boolean (.int (bI p)) = .int (bI p) := by
  unfold bI
  split <;> decide
section
variable (l : Launch) (n : Nat) (hn : n < 2 ^ 31) (d : Nat) (I : MI) (L : ML)
set_option maxHeartbeats 4000000 in
set_option maxRecDepth 100000 in
theorem c_tasks_has (x : Int32)  : VM l n m_X6_has d 0 [.ref 4, .int x] I L (fun r I' L' => r = some (.int (bI (0 ≤ x ∧ x < I 4 4))) ∧ I' = I ∧ L' = L) noX := by
  refine VM_of _ [(0, .ref 4), (1, .int x)] rfl (fun a => Nat.le_of_ble_eq_true rfl) rfl ?_
  refine q_iload_n dX6_has_0 rfl ?_
  refine q_if_lt 16 dX6_has_1 (by decide) (fun h1 => ?_) (fun h1 => ?_)
  · refine q_iconst (0) dX6_has_16 (by decide) ?_
    refine q_zret dX6_has_17 rfl (by omega) (by decide) ?_
    refine ⟨?_, rfl, rfl⟩; unfold bI; split <;> first | rfl | (exfalso; (try simp only [bI_z, ne_eq, Decidable.not_not] at *); simp only [Int32.lt_iff_toInt_lt, Int32.le_iff_toInt_le, Int32.toInt_zero, gl_321, ← Int32.toInt_inj, ne_eq] at *; omega)
  · refine q_iload_n dX6_has_4 rfl ?_
    refine q_aload_n dX6_has_5 rfl ?_
    refine q_getI 4 6 4 (is_4 n) (by decide) rfl (by decide) f_X6_22 rfl dX6_has_6 ?_
    refine q_icmp_ge 16 dX6_has_9 (by decide) (fun h9 => ?_) (fun h9 => ?_)
    · refine q_iconst (0) dX6_has_16 (by decide) ?_
      refine q_zret dX6_has_17 rfl (by omega) (by decide) ?_
      refine ⟨?_, rfl, rfl⟩; unfold bI; split <;> first | rfl | (exfalso; (try simp only [bI_z, ne_eq, Decidable.not_not] at *); simp only [Int32.lt_iff_toInt_lt, Int32.le_iff_toInt_le, Int32.toInt_zero, gl_321, ← Int32.toInt_inj, ne_eq] at *; omega)
    · refine q_iconst (1) dX6_has_12 (by decide) ?_
      refine q_goto 17 dX6_has_13 (by decide) ?_
      refine q_zret dX6_has_17 rfl (by omega) (by decide) ?_
      refine ⟨?_, rfl, rfl⟩; unfold bI; split <;> first | rfl | (exfalso; (try simp only [bI_z, ne_eq, Decidable.not_not] at *); simp only [Int32.lt_iff_toInt_lt, Int32.le_iff_toInt_le, Int32.toInt_zero, gl_321, ← Int32.toInt_inj, ne_eq] at *; omega)
set_option maxHeartbeats 4000000 in
set_option maxRecDepth 100000 in
theorem c_promises_has (x : Int32)  : VM l n m_X2_has d 0 [.ref 5, .int x] I L (fun r I' L' => r = some (.int (bI (0 ≤ x ∧ x < I 5 6))) ∧ I' = I ∧ L' = L) noX := by
  refine VM_of _ [(0, .ref 5), (1, .int x)] rfl (fun a => Nat.le_of_ble_eq_true rfl) rfl ?_
  refine q_iload_n dX2_has_0 rfl ?_
  refine q_if_lt 16 dX2_has_1 (by decide) (fun h1 => ?_) (fun h1 => ?_)
  · refine q_iconst (0) dX2_has_16 (by decide) ?_
    refine q_zret dX2_has_17 rfl (by omega) (by decide) ?_
    refine ⟨?_, rfl, rfl⟩; unfold bI; split <;> first | rfl | (exfalso; (try simp only [bI_z, ne_eq, Decidable.not_not] at *); simp only [Int32.lt_iff_toInt_lt, Int32.le_iff_toInt_le, Int32.toInt_zero, gl_321, ← Int32.toInt_inj, ne_eq] at *; omega)
  · refine q_iload_n dX2_has_4 rfl ?_
    refine q_aload_n dX2_has_5 rfl ?_
    refine q_getI 5 2 6 (is_5 n) (by decide) rfl (by decide) f_X2_29 rfl dX2_has_6 ?_
    refine q_icmp_ge 16 dX2_has_9 (by decide) (fun h9 => ?_) (fun h9 => ?_)
    · refine q_iconst (0) dX2_has_16 (by decide) ?_
      refine q_zret dX2_has_17 rfl (by omega) (by decide) ?_
      refine ⟨?_, rfl, rfl⟩; unfold bI; split <;> first | rfl | (exfalso; (try simp only [bI_z, ne_eq, Decidable.not_not] at *); simp only [Int32.lt_iff_toInt_lt, Int32.le_iff_toInt_le, Int32.toInt_zero, gl_321, ← Int32.toInt_inj, ne_eq] at *; omega)
    · refine q_iconst (1) dX2_has_12 (by decide) ?_
      refine q_goto 17 dX2_has_13 (by decide) ?_
      refine q_zret dX2_has_17 rfl (by omega) (by decide) ?_
      refine ⟨?_, rfl, rfl⟩; unfold bI; split <;> first | rfl | (exfalso; (try simp only [bI_z, ne_eq, Decidable.not_not] at *); simp only [Int32.lt_iff_toInt_lt, Int32.le_iff_toInt_le, Int32.toInt_zero, gl_321, ← Int32.toInt_inj, ne_eq] at *; omega)
set_option maxHeartbeats 4000000 in
set_option maxRecDepth 100000 in
theorem c_channels_has (x : Int32)  : VM l n m_X0_has d 0 [.ref 6, .int x] I L (fun r I' L' => r = some (.int (bI (0 ≤ x ∧ x < I 6 5))) ∧ I' = I ∧ L' = L) noX := by
  refine VM_of _ [(0, .ref 6), (1, .int x)] rfl (fun a => Nat.le_of_ble_eq_true rfl) rfl ?_
  refine q_iload_n dX0_has_0 rfl ?_
  refine q_if_lt 16 dX0_has_1 (by decide) (fun h1 => ?_) (fun h1 => ?_)
  · refine q_iconst (0) dX0_has_16 (by decide) ?_
    refine q_zret dX0_has_17 rfl (by omega) (by decide) ?_
    refine ⟨?_, rfl, rfl⟩; unfold bI; split <;> first | rfl | (exfalso; (try simp only [bI_z, ne_eq, Decidable.not_not] at *); simp only [Int32.lt_iff_toInt_lt, Int32.le_iff_toInt_le, Int32.toInt_zero, gl_321, ← Int32.toInt_inj, ne_eq] at *; omega)
  · refine q_iload_n dX0_has_4 rfl ?_
    refine q_aload_n dX0_has_5 rfl ?_
    refine q_getI 6 0 5 (is_6 n) (by decide) rfl (by decide) f_X0_25 rfl dX0_has_6 ?_
    refine q_icmp_ge 16 dX0_has_9 (by decide) (fun h9 => ?_) (fun h9 => ?_)
    · refine q_iconst (0) dX0_has_16 (by decide) ?_
      refine q_zret dX0_has_17 rfl (by omega) (by decide) ?_
      refine ⟨?_, rfl, rfl⟩; unfold bI; split <;> first | rfl | (exfalso; (try simp only [bI_z, ne_eq, Decidable.not_not] at *); simp only [Int32.lt_iff_toInt_lt, Int32.le_iff_toInt_le, Int32.toInt_zero, gl_321, ← Int32.toInt_inj, ne_eq] at *; omega)
    · refine q_iconst (1) dX0_has_12 (by decide) ?_
      refine q_goto 17 dX0_has_13 (by decide) ?_
      refine q_zret dX0_has_17 rfl (by omega) (by decide) ?_
      refine ⟨?_, rfl, rfl⟩; unfold bI; split <;> first | rfl | (exfalso; (try simp only [bI_z, ne_eq, Decidable.not_not] at *); simp only [Int32.lt_iff_toInt_lt, Int32.le_iff_toInt_le, Int32.toInt_zero, gl_321, ← Int32.toInt_inj, ne_eq] at *; omega)
set_option maxHeartbeats 4000000 in
set_option maxRecDepth 100000 in
theorem c_sched_has (x : Int32)  : VM l n m_X5_has d 0 [.ref 2, .int x] I L (fun r I' L' => r = some (.int (bI (0 ≤ x ∧ x < nI n))) ∧ I' = I ∧ L' = L) noX := by
  refine VM_of _ [(0, .ref 2), (1, .int x)] rfl (fun a => Nat.le_of_ble_eq_true rfl) rfl ?_
  refine q_iload_n dX5_has_0 rfl ?_
  refine q_if_lt 17 dX5_has_1 (by decide) (fun h1 => ?_) (fun h1 => ?_)
  · refine q_iconst (0) dX5_has_17 (by decide) ?_
    refine q_zret dX5_has_18 rfl (by omega) (by decide) ?_
    refine ⟨?_, rfl, rfl⟩; unfold bI; split <;> first | rfl | (exfalso; (try simp only [bI_z, ne_eq, Decidable.not_not] at *); simp only [Int32.lt_iff_toInt_lt, Int32.le_iff_toInt_le, Int32.toInt_zero, gl_321, ← Int32.toInt_inj, ne_eq] at *; omega)
  · refine q_iload_n dX5_has_4 rfl ?_
    refine q_aload_n dX5_has_5 rfl ?_
    refine q_getR 2 5 1 321 (is_2 n) (by decide) rfl rfl (by decide) f_X5_20 rfl dX5_has_6 ?_
    refine q_alenI 321 (is_321 n) dX5_has_9 ?_
    refine q_icmp_ge 17 dX5_has_10 (by decide) (fun h10 => ?_) (fun h10 => ?_)
    · refine q_iconst (0) dX5_has_17 (by decide) ?_
      refine q_zret dX5_has_18 rfl (by omega) (by decide) ?_
      refine ⟨?_, rfl, rfl⟩; unfold bI; split <;> first | rfl | (exfalso; (try simp only [bI_z, ne_eq, Decidable.not_not] at *); simp only [Int32.lt_iff_toInt_lt, Int32.le_iff_toInt_le, Int32.toInt_zero, gl_321, ← Int32.toInt_inj, ne_eq] at *; omega)
    · refine q_iconst (1) dX5_has_13 (by decide) ?_
      refine q_goto 18 dX5_has_14 (by decide) ?_
      refine q_zret dX5_has_18 rfl (by omega) (by decide) ?_
      refine ⟨?_, rfl, rfl⟩; unfold bI; split <;> first | rfl | (exfalso; (try simp only [bI_z, ne_eq, Decidable.not_not] at *); simp only [Int32.lt_iff_toInt_lt, Int32.le_iff_toInt_le, Int32.toInt_zero, gl_321, ← Int32.toInt_inj, ne_eq] at *; omega)
set_option maxHeartbeats 4000000 in
set_option maxRecDepth 100000 in
theorem c_canShut (q t : Int32)  : VM l n m_X5_canShut d 0 [.ref 2, .int q, .int t] I L (fun r I' L' => r = some (.int (bI (0 ≤ q ∧ q ≤ t))) ∧ I' = I ∧ L' = L) noX := by
  refine VM_of _ [(0, .ref 2), (1, .int q), (2, .int t)] rfl (fun a => Nat.le_of_ble_eq_true rfl) rfl ?_
  refine q_iload_n dX5_canShut_0 rfl ?_
  refine q_if_lt 13 dX5_canShut_1 (by decide) (fun h1 => ?_) (fun h1 => ?_)
  · refine q_iconst (0) dX5_canShut_13 (by decide) ?_
    refine q_zret dX5_canShut_14 rfl (by omega) (by decide) ?_
    refine ⟨?_, rfl, rfl⟩; unfold bI; split <;> first | rfl | (exfalso; (try simp only [bI_z, ne_eq, Decidable.not_not] at *); simp only [Int32.lt_iff_toInt_lt, Int32.le_iff_toInt_le, Int32.toInt_zero, gl_321, ← Int32.toInt_inj, ne_eq] at *; omega)
  · refine q_iload_n dX5_canShut_4 rfl ?_
    refine q_iload_n dX5_canShut_5 rfl ?_
    refine q_icmp_lt 13 dX5_canShut_6 (by decide) (fun h6 => ?_) (fun h6 => ?_)
    · refine q_iconst (0) dX5_canShut_13 (by decide) ?_
      refine q_zret dX5_canShut_14 rfl (by omega) (by decide) ?_
      refine ⟨?_, rfl, rfl⟩; unfold bI; split <;> first | rfl | (exfalso; (try simp only [bI_z, ne_eq, Decidable.not_not] at *); simp only [Int32.lt_iff_toInt_lt, Int32.le_iff_toInt_le, Int32.toInt_zero, gl_321, ← Int32.toInt_inj, ne_eq] at *; omega)
    · refine q_iconst (1) dX5_canShut_9 (by decide) ?_
      refine q_goto 14 dX5_canShut_10 (by decide) ?_
      refine q_zret dX5_canShut_14 rfl (by omega) (by decide) ?_
      refine ⟨?_, rfl, rfl⟩; unfold bI; split <;> first | rfl | (exfalso; (try simp only [bI_z, ne_eq, Decidable.not_not] at *); simp only [Int32.lt_iff_toInt_lt, Int32.le_iff_toInt_le, Int32.toInt_zero, gl_321, ← Int32.toInt_inj, ne_eq] at *; omega)
set_option maxHeartbeats 4000000 in
set_option maxRecDepth 100000 in
theorem c_isFull (i : Nat) (hi : i < n) : VM l n m_X3_isFull d 0 [.ref (lid i 1)] I L (fun r I' L' => r = some (.int (bI (24 ≤ I (lid i 1) 4))) ∧ I' = I ∧ L' = L) noX := by
  refine VM_of _ [(0, .ref (lid i 1))] rfl (fun a => Nat.le_of_ble_eq_true rfl) rfl ?_
  refine q_aload_n dX3_isFull_0 rfl ?_
  refine q_getI (lid i 1) 3 4 (vq_isL hi 1 (by decide) rfl) (by decide) rfl (by decide) f_X3_19 rfl dX3_isFull_1 ?_
  refine q_bipush (24) dX3_isFull_4 (by decide) ?_
  refine q_icmp_lt 13 dX3_isFull_6 (by decide) (fun h6 => ?_) (fun h6 => ?_)
  · refine q_iconst (0) dX3_isFull_13 (by decide) ?_
    refine q_zret dX3_isFull_14 rfl (by omega) (by decide) ?_
    refine ⟨?_, rfl, rfl⟩; unfold bI; split <;> first | rfl | (exfalso; (try simp only [bI_z, ne_eq, Decidable.not_not] at *); simp only [Int32.lt_iff_toInt_lt, Int32.le_iff_toInt_le, Int32.toInt_zero, gl_321, ← Int32.toInt_inj, ne_eq] at *; omega)
  · refine q_iconst (1) dX3_isFull_9 (by decide) ?_
    refine q_goto 14 dX3_isFull_10 (by decide) ?_
    refine q_zret dX3_isFull_14 rfl (by omega) (by decide) ?_
    refine ⟨?_, rfl, rfl⟩; unfold bI; split <;> first | rfl | (exfalso; (try simp only [bI_z, ne_eq, Decidable.not_not] at *); simp only [Int32.lt_iff_toInt_lt, Int32.le_iff_toInt_le, Int32.toInt_zero, gl_321, ← Int32.toInt_inj, ne_eq] at *; omega)
set_option maxHeartbeats 4000000 in
set_option maxRecDepth 100000 in
theorem c_isPending (x : Nat) (hn : n < 2 ^ 31) (hx : x < 32) : VM l n m_X2_isPending d 0 [.ref 5, .int (nI x)] I L (fun r I' L' => r = some (.int (bI (I 351 x = 0))) ∧ I' = I ∧ L' = L) noX := by
  refine VM_of _ [(0, .ref 5), (1, .int (nI x))] rfl (fun a => Nat.le_of_ble_eq_true rfl) rfl ?_
  refine q_aload_n dX2_isPending_0 rfl ?_
  refine q_getR 5 2 1 351 (is_5 n) (by decide) rfl rfl (by decide) f_X2_13 rfl dX2_isPending_1 ?_
  refine q_iload_n dX2_isPending_4 rfl ?_
  refine q_iald 351 (x) hn (is_351 n) rfl hx dX2_isPending_5 ?_
  refine q_if_ne 13 dX2_isPending_6 (by decide) (fun h6 => ?_) (fun h6 => ?_)
  · refine q_iconst (0) dX2_isPending_13 (by decide) ?_
    refine q_zret dX2_isPending_14 rfl (by omega) (by decide) ?_
    refine ⟨?_, rfl, rfl⟩; unfold bI; split <;> first | rfl | (exfalso; (try simp only [bI_z, ne_eq, Decidable.not_not] at *); simp only [Int32.lt_iff_toInt_lt, Int32.le_iff_toInt_le, Int32.toInt_zero, gl_321, ← Int32.toInt_inj, ne_eq] at *; omega)
  · refine q_iconst (1) dX2_isPending_9 (by decide) ?_
    refine q_goto 14 dX2_isPending_10 (by decide) ?_
    refine q_zret dX2_isPending_14 rfl (by omega) (by decide) ?_
    refine ⟨?_, rfl, rfl⟩; unfold bI; split <;> first | rfl | (exfalso; (try simp only [bI_z, ne_eq, Decidable.not_not] at *); simp only [Int32.lt_iff_toInt_lt, Int32.le_iff_toInt_le, Int32.toInt_zero, gl_321, ← Int32.toInt_inj, ne_eq] at *; omega)
set_option maxHeartbeats 4000000 in
set_option maxRecDepth 100000 in
theorem c_takes (x : Nat) (hn : n < 2 ^ 31) (hx : x < 32) (hd : 1 ≤ d) : VM l n m_X2_takesListener d 0 [.ref 5, .int (nI x)] I L (fun r I' L' => r = some (.int (bI (I 351 x ≠ 0 ∨ I 354 x < 6))) ∧ I' = I ∧ L' = L) noX := by
  refine VM_of _ [(0, .ref 5), (1, .int (nI x))] rfl (fun a => Nat.le_of_ble_eq_true rfl) rfl ?_
  refine q_aload_n dX2_takesListener_0 rfl ?_
  refine q_iload_n dX2_takesListener_1 rfl ?_
  refine q_calli [.int _] o_X2_isPending rfl k_X2_33 rfl (is_5 n) (by decide) rfl dX2_takesListener_2 (by decide) (by omega) (by decide) (by omega) (Or.inr rfl) (c_isPending l n (d - 1) I L x hn hx) (fun _ _ _ h => h.elim) (fun r1 I1 L1 hq => ?_)
  obtain ⟨e1, rfl, rfl⟩ := hq; cases e1
  refine q_if_eq 19 dX2_takesListener_5 (by decide) (fun h5 => ?_) (fun h5 => ?_)
  · refine q_iconst (1) dX2_takesListener_19 (by decide) ?_
    refine q_goto 24 dX2_takesListener_20 (by decide) ?_
    refine q_zret dX2_takesListener_24 rfl (by omega) (by decide) ?_
    refine ⟨?_, rfl, rfl⟩; unfold bI; split <;> first | rfl | (exfalso; (try simp only [bI_z, ne_eq, Decidable.not_not] at *); simp only [Int32.lt_iff_toInt_lt, Int32.le_iff_toInt_le, Int32.toInt_zero, gl_321, ← Int32.toInt_inj, ne_eq] at *; omega)
  · refine q_aload_n dX2_takesListener_8 rfl ?_
    refine q_getR 5 2 4 354 (is_5 n) (by decide) rfl rfl (by decide) f_X2_23 rfl dX2_takesListener_9 ?_
    refine q_iload_n dX2_takesListener_12 rfl ?_
    refine q_iald 354 (x) hn (is_354 n) rfl hx dX2_takesListener_13 ?_
    refine q_bipush (6) dX2_takesListener_14 (by decide) ?_
    refine q_icmp_ge 23 dX2_takesListener_16 (by decide) (fun h16 => ?_) (fun h16 => ?_)
    · refine q_iconst (0) dX2_takesListener_23 (by decide) ?_
      refine q_zret dX2_takesListener_24 rfl (by omega) (by decide) ?_
      refine ⟨?_, rfl, rfl⟩; unfold bI; split <;> first | rfl | (exfalso; (try simp only [bI_z, ne_eq, Decidable.not_not] at *); simp only [Int32.lt_iff_toInt_lt, Int32.le_iff_toInt_le, Int32.toInt_zero, gl_321, ← Int32.toInt_inj, ne_eq] at *; omega)
    · refine q_iconst (1) dX2_takesListener_19 (by decide) ?_
      refine q_goto 24 dX2_takesListener_20 (by decide) ?_
      refine q_zret dX2_takesListener_24 rfl (by omega) (by decide) ?_
      refine ⟨?_, rfl, rfl⟩; unfold bI; split <;> first | rfl | (exfalso; (try simp only [bI_z, ne_eq, Decidable.not_not] at *); simp only [Int32.lt_iff_toInt_lt, Int32.le_iff_toInt_le, Int32.toInt_zero, gl_321, ← Int32.toInt_inj, ne_eq] at *; omega)
set_option maxHeartbeats 4000000 in
set_option maxRecDepth 100000 in
theorem c_keeps (x : Int32)  : VM l n m_X8_keeps d 0 [.ref 3, .int x] I L (fun r I' L' => r = some (.int (bI (0 ≤ x ∧ x < I 3 1 ∧ I 3 1 - 300 ≤ x))) ∧ I' = I ∧ L' = L) noX := by
  refine VM_of _ [(0, .ref 3), (1, .int x)] rfl (fun a => Nat.le_of_ble_eq_true rfl) rfl ?_
  refine q_iload_n dX8_keeps_0 rfl ?_
  refine q_if_lt 28 dX8_keeps_1 (by decide) (fun h1 => ?_) (fun h1 => ?_)
  · refine q_iconst (0) dX8_keeps_28 (by decide) ?_
    refine q_zret dX8_keeps_29 rfl (by omega) (by decide) ?_
    refine ⟨?_, rfl, rfl⟩; unfold bI; split <;> first | rfl | (exfalso; (try simp only [bI_z, ne_eq, Decidable.not_not] at *); simp only [Int32.lt_iff_toInt_lt, Int32.le_iff_toInt_le, Int32.toInt_zero, gl_321, ← Int32.toInt_inj, ne_eq] at *; omega)
  · refine q_iload_n dX8_keeps_4 rfl ?_
    refine q_aload_n dX8_keeps_5 rfl ?_
    refine q_getI 3 8 1 (is_3 n) (by decide) rfl (by decide) f_X8_13 rfl dX8_keeps_6 ?_
    refine q_icmp_ge 28 dX8_keeps_9 (by decide) (fun h9 => ?_) (fun h9 => ?_)
    · refine q_iconst (0) dX8_keeps_28 (by decide) ?_
      refine q_zret dX8_keeps_29 rfl (by omega) (by decide) ?_
      refine ⟨?_, rfl, rfl⟩; unfold bI; split <;> first | rfl | (exfalso; (try simp only [bI_z, ne_eq, Decidable.not_not] at *); simp only [Int32.lt_iff_toInt_lt, Int32.le_iff_toInt_le, Int32.toInt_zero, gl_321, ← Int32.toInt_inj, ne_eq] at *; omega)
    · refine q_iload_n dX8_keeps_12 rfl ?_
      refine q_aload_n dX8_keeps_13 rfl ?_
      refine q_getI 3 8 1 (is_3 n) (by decide) rfl (by decide) f_X8_13 rfl dX8_keeps_14 ?_
      refine q_sipush (300) dX8_keeps_17 (by decide) ?_
      refine q_isub dX8_keeps_20 ?_
      refine q_icmp_lt 28 dX8_keeps_21 (by decide) (fun h21 => ?_) (fun h21 => ?_)
      · refine q_iconst (0) dX8_keeps_28 (by decide) ?_
        refine q_zret dX8_keeps_29 rfl (by omega) (by decide) ?_
        refine ⟨?_, rfl, rfl⟩; unfold bI; split <;> first | rfl | (exfalso; (try simp only [bI_z, ne_eq, Decidable.not_not] at *); simp only [Int32.lt_iff_toInt_lt, Int32.le_iff_toInt_le, Int32.toInt_zero, gl_321, ← Int32.toInt_inj, ne_eq] at *; omega)
      · refine q_iconst (1) dX8_keeps_24 (by decide) ?_
        refine q_goto 29 dX8_keeps_25 (by decide) ?_
        refine q_zret dX8_keeps_29 rfl (by omega) (by decide) ?_
        refine ⟨?_, rfl, rfl⟩; unfold bI; split <;> first | rfl | (exfalso; (try simp only [bI_z, ne_eq, Decidable.not_not] at *); simp only [Int32.lt_iff_toInt_lt, Int32.le_iff_toInt_le, Int32.toInt_zero, gl_321, ← Int32.toInt_inj, ne_eq] at *; omega)
set_option maxHeartbeats 4000000 in
set_option maxRecDepth 100000 in
theorem c_peer (x : Int32)  : VM l n m_X0_peer d 0 [.ref 6, .int x] I L (fun r I' L' => r = some (.int (x ^^^ 1)) ∧ I' = I ∧ L' = L) noX := by
  refine VM_of _ [(0, .ref 6), (1, .int x)] rfl (fun a => Nat.le_of_ble_eq_true rfl) rfl ?_
  refine q_iload_n dX0_peer_0 rfl ?_
  refine q_iconst (1) dX0_peer_1 (by decide) ?_
  refine q_ixor dX0_peer_2 ?_
  refine q_iret dX0_peer_3 rfl (by omega) ?_
  exact ⟨rfl, rfl, rfl⟩
set_option maxHeartbeats 4000000 in
set_option maxRecDepth 100000 in
theorem c_read (x w : Nat) (hn : n < 2 ^ 31) (hx : x < 2 ^ 31) (hw : w < 3) : VM l n m_X8_read d 0 [.ref 3, .int (nI x), .int (nI w)] I L (fun r I' L' => r = some (.int (I 330 (x % 300 * 3 + w))) ∧ I' = I ∧ L' = L) noX := by
  refine VM_of _ [(0, .ref 3), (1, .int (nI x)), (2, .int (nI w))] rfl (fun a => Nat.le_of_ble_eq_true rfl) rfl ?_
  have h3 : x % 300 < 300 := Nat.mod_lt _ (by decide)
  refine q_aload_n dX8_read_0 rfl ?_
  refine q_getR 3 8 0 330 (is_3 n) (by decide) rfl rfl (by decide) f_X8_9 rfl dX8_read_1 ?_
  refine q_iload_n dX8_read_4 rfl ?_
  refine q_sipush (300) dX8_read_5 (by decide) ?_
  refine q_irem dX8_read_8 (by decide) ?_
  refine q_iconst (3) dX8_read_9 (by decide) ?_
  refine q_imul dX8_read_10 ?_
  refine q_iload_n dX8_read_11 rfl ?_
  refine q_iadd dX8_read_12 ?_
  refine q_iald 330 (x % 300 * 3 + w) hn (is_330 n) (by rw [nI_rem (z := 300) (c := x) (k := 300) rfl rfl hx (by decide) (by decide)]; exact (congrArg (· + nI w) (pk_mul _ 3)).trans (nI_add _ _)) (by show _ < 900; omega) dX8_read_13 ?_
  refine q_iret dX8_read_14 rfl (by omega) ?_
  exact ⟨rfl, rfl, rfl⟩
set_option maxHeartbeats 4000000 in
set_option maxRecDepth 100000 in
theorem c_isBefore (i j k : Nat) (hn : n < 2 ^ 31) (hi : i < n) (hj : j < 24) (hk : k < 24) : VM l n m_X7_isBefore d 0 [.ref (lid i 2), .int (nI j), .int (nI k)] I L (fun r I' L' => r = some (.int (bI (if L (lid i 8) j = L (lid i 8) k then I (lid i 6) j < I (lid i 6) k else L (lid i 8) j < L (lid i 8) k))) ∧ I' = I ∧ L' = L) noX := by
  refine VM_of _ [(0, .ref (lid i 2)), (1, .int (nI j)), (2, .int (nI k))] rfl (fun a => Nat.le_of_ble_eq_true rfl) rfl ?_
  have e8 := gl_lid n i 8
  have e6 := gl_lid n i 6
  refine q_aload_n dX7_isBefore_0 rfl ?_
  refine q_getR (lid i 2) 7 2 (lid i 8) (vq_isL hi 2 (by decide) rfl) (by decide) rfl ((gr_lid i 2 2 (by decide)).trans rfl) (by decide) f_X7_18 rfl dX7_isBefore_1 ?_
  refine q_iload_n dX7_isBefore_4 rfl ?_
  refine q_lald (lid i 8) (j) hn (vq_isL hi 8 (by decide) rfl) rfl (by rw [e8]; exact hj) dX7_isBefore_5 ?_
  refine q_aload_n dX7_isBefore_6 rfl ?_
  refine q_getR (lid i 2) 7 2 (lid i 8) (vq_isL hi 2 (by decide) rfl) (by decide) rfl ((gr_lid i 2 2 (by decide)).trans rfl) (by decide) f_X7_18 rfl dX7_isBefore_7 ?_
  refine q_iload_n dX7_isBefore_10 rfl ?_
  refine q_lald (lid i 8) (k) hn (vq_isL hi 8 (by decide) rfl) rfl (by rw [e8]; exact hk) dX7_isBefore_11 ?_
  refine q_lcmp dX7_isBefore_12 ?_
  refine q_if_eq 40 dX7_isBefore_13 (by decide) (fun h13 => ?_) (fun h13 => ?_)
  · refine q_aload_n dX7_isBefore_40 rfl ?_
    refine q_getR (lid i 2) 7 0 (lid i 6) (vq_isL hi 2 (by decide) rfl) (by decide) rfl ((gr_lid i 2 0 (by decide)).trans rfl) (by decide) f_X7_11 rfl dX7_isBefore_41 ?_
    refine q_iload_n dX7_isBefore_44 rfl ?_
    refine q_iald (lid i 6) (j) hn (vq_isL hi 6 (by decide) rfl) rfl (by rw [e6]; exact hj) dX7_isBefore_45 ?_
    refine q_aload_n dX7_isBefore_46 rfl ?_
    refine q_getR (lid i 2) 7 0 (lid i 6) (vq_isL hi 2 (by decide) rfl) (by decide) rfl ((gr_lid i 2 0 (by decide)).trans rfl) (by decide) f_X7_11 rfl dX7_isBefore_47 ?_
    refine q_iload_n dX7_isBefore_50 rfl ?_
    refine q_iald (lid i 6) (k) hn (vq_isL hi 6 (by decide) rfl) rfl (by rw [e6]; exact hk) dX7_isBefore_51 ?_
    refine q_icmp_ge 59 dX7_isBefore_52 (by decide) (fun h52 => ?_) (fun h52 => ?_)
    · refine q_iconst (0) dX7_isBefore_59 (by decide) ?_
      refine q_zret dX7_isBefore_60 rfl (by omega) (by decide) ?_
      exact ⟨by simp_all [bI, lg_cmp_eq, lg_cmp_ge, Int32.not_lt, Int32.not_le, Int64.not_lt, Int64.not_le], rfl, rfl⟩
    · refine q_iconst (1) dX7_isBefore_55 (by decide) ?_
      refine q_goto 60 dX7_isBefore_56 (by decide) ?_
      refine q_zret dX7_isBefore_60 rfl (by omega) (by decide) ?_
      exact ⟨by simp_all [bI, lg_cmp_eq, lg_cmp_ge, Int32.not_lt, Int32.not_le, Int64.not_lt, Int64.not_le], rfl, rfl⟩
  · refine q_aload_n dX7_isBefore_16 rfl ?_
    refine q_getR (lid i 2) 7 2 (lid i 8) (vq_isL hi 2 (by decide) rfl) (by decide) rfl ((gr_lid i 2 2 (by decide)).trans rfl) (by decide) f_X7_18 rfl dX7_isBefore_17 ?_
    refine q_iload_n dX7_isBefore_20 rfl ?_
    refine q_lald (lid i 8) (j) hn (vq_isL hi 8 (by decide) rfl) rfl (by rw [e8]; exact hj) dX7_isBefore_21 ?_
    refine q_aload_n dX7_isBefore_22 rfl ?_
    refine q_getR (lid i 2) 7 2 (lid i 8) (vq_isL hi 2 (by decide) rfl) (by decide) rfl ((gr_lid i 2 2 (by decide)).trans rfl) (by decide) f_X7_18 rfl dX7_isBefore_23 ?_
    refine q_iload_n dX7_isBefore_26 rfl ?_
    refine q_lald (lid i 8) (k) hn (vq_isL hi 8 (by decide) rfl) rfl (by rw [e8]; exact hk) dX7_isBefore_27 ?_
    refine q_lcmp dX7_isBefore_28 ?_
    refine q_if_ge 36 dX7_isBefore_29 (by decide) (fun h29 => ?_) (fun h29 => ?_)
    · refine q_iconst (0) dX7_isBefore_36 (by decide) ?_
      refine q_goto 60 dX7_isBefore_37 (by decide) ?_
      refine q_zret dX7_isBefore_60 rfl (by omega) (by decide) ?_
      exact ⟨by simp_all [bI, lg_cmp_eq, lg_cmp_ge, Int32.not_lt, Int32.not_le, Int64.not_lt, Int64.not_le], rfl, rfl⟩
    · refine q_iconst (1) dX7_isBefore_32 (by decide) ?_
      refine q_goto 60 dX7_isBefore_33 (by decide) ?_
      refine q_zret dX7_isBefore_60 rfl (by omega) (by decide) ?_
      exact ⟨by simp_all [bI, lg_cmp_eq, lg_cmp_ge, Int32.not_lt, Int32.not_le, Int64.not_lt, Int64.not_le], rfl, rfl⟩
set_option maxHeartbeats 4000000 in
set_option maxRecDepth 100000 in
theorem c_isQuiet (i : Nat) (c : Int64) (hi : i < n) : VM l n m_X1_isQuiet d 0 [.ref (lid i 0), .long c] I L (fun r I' L' => r = some (.int (bI (I (lid i 0) 7 = 0 ∨ (I (lid i 0) 8).toInt64 < c - L (lid i 0) 9 ∨ (I (lid i 0) 7).toInt64 < c - L (lid i 0) 10))) ∧ I' = I ∧ L' = L) noX := by
  refine VM_of _ [(0, .ref (lid i 0)), (1, .long c)] rfl (fun a => Nat.le_of_ble_eq_true rfl) rfl ?_
  refine q_aload_n dX1_isQuiet_0 rfl ?_
  refine q_getI (lid i 0) 1 7 (vq_isL hi 0 (by decide) rfl) (by decide) rfl (by decide) f_X1_32 rfl dX1_isQuiet_1 ?_
  refine q_if_eq 37 dX1_isQuiet_4 (by decide) (fun h4 => ?_) (fun h4 => ?_)
  · refine q_iconst (1) dX1_isQuiet_37 (by decide) ?_
    refine q_goto 42 dX1_isQuiet_38 (by decide) ?_
    refine q_zret dX1_isQuiet_42 rfl (by omega) (by decide) ?_
    exact ⟨by simp_all [bI, lg_cmp_gt, lg_cmp_le, Int32.not_lt, Int32.not_le, Int64.not_lt, Int64.not_le], rfl, rfl⟩
  · refine q_lload_n dX1_isQuiet_7 rfl ?_
    refine q_aload_n dX1_isQuiet_8 rfl ?_
    refine q_getL (lid i 0) 1 9 (vq_isL hi 0 (by decide) rfl) (by decide) rfl (by decide) f_X1_35 rfl dX1_isQuiet_9 ?_
    refine q_lsub dX1_isQuiet_12 ?_
    refine q_aload_n dX1_isQuiet_13 rfl ?_
    refine q_getI (lid i 0) 1 8 (vq_isL hi 0 (by decide) rfl) (by decide) rfl (by decide) f_X1_39 rfl dX1_isQuiet_14 ?_
    refine q_i2l dX1_isQuiet_17 ?_
    refine q_lcmp dX1_isQuiet_18 ?_
    refine q_if_gt 37 dX1_isQuiet_19 (by decide) (fun h19 => ?_) (fun h19 => ?_)
    · refine q_iconst (1) dX1_isQuiet_37 (by decide) ?_
      refine q_goto 42 dX1_isQuiet_38 (by decide) ?_
      refine q_zret dX1_isQuiet_42 rfl (by omega) (by decide) ?_
      exact ⟨by simp_all [bI, lg_cmp_gt, lg_cmp_le, Int32.not_lt, Int32.not_le, Int64.not_lt, Int64.not_le], rfl, rfl⟩
    · refine q_lload_n dX1_isQuiet_22 rfl ?_
      refine q_aload_n dX1_isQuiet_23 rfl ?_
      refine q_getL (lid i 0) 1 10 (vq_isL hi 0 (by decide) rfl) (by decide) rfl (by decide) f_X1_42 rfl dX1_isQuiet_24 ?_
      refine q_lsub dX1_isQuiet_27 ?_
      refine q_aload_n dX1_isQuiet_28 rfl ?_
      refine q_getI (lid i 0) 1 7 (vq_isL hi 0 (by decide) rfl) (by decide) rfl (by decide) f_X1_32 rfl dX1_isQuiet_29 ?_
      refine q_i2l dX1_isQuiet_32 ?_
      refine q_lcmp dX1_isQuiet_33 ?_
      refine q_if_le 41 dX1_isQuiet_34 (by decide) (fun h34 => ?_) (fun h34 => ?_)
      · refine q_iconst (0) dX1_isQuiet_41 (by decide) ?_
        refine q_zret dX1_isQuiet_42 rfl (by omega) (by decide) ?_
        exact ⟨by simp_all [bI, lg_cmp_gt, lg_cmp_le, Int32.not_lt, Int32.not_le, Int64.not_lt, Int64.not_le], rfl, rfl⟩
      · refine q_iconst (1) dX1_isQuiet_37 (by decide) ?_
        refine q_goto 42 dX1_isQuiet_38 (by decide) ?_
        refine q_zret dX1_isQuiet_42 rfl (by omega) (by decide) ?_
        exact ⟨by simp_all [bI, lg_cmp_gt, lg_cmp_le, Int32.not_lt, Int32.not_le, Int64.not_lt, Int64.not_le], rfl, rfl⟩
end

