/-! ===== the host's calls of the class ===== -/
abbrev iae : String := "java/lang/IllegalArgumentException"
abbrev ise : String := "java/lang/IllegalStateException"
abbrev iob : String := "java/lang/IndexOutOfBoundsException"
/-- what a call answers: how it was thrown (0 not), the answer, the memory behind it -/
abbrev HR : Type := Int32 × Int32 × MI × ML
def hN (n : Nat) (J : MI) (M : ML) (H : HR) : vq_R := fun r I' L' => H.1 = 0 ∧ r = some (.int H.2.1) ∧ ∃ w, CX n H.2.2.1 H.2.2.2 w 0 0 J M I' L'
def hV (n : Nat) (J : MI) (M : ML) (H : HR) : vq_R := fun r I' L' => H.1 = 0 ∧ r = none ∧ ∃ w, CX n H.2.2.1 H.2.2.2 w 0 0 J M I' L'
def hX (e1 e2 : String) (n : Nat) (J : MI) (M : ML) (H : HR) : vq_RX := fun E I' L' => ((E = e1 ∧ H.1 = 1) ∨ (E = e2 ∧ H.1 = 2)) ∧ ∃ w, CX n H.2.2.1 H.2.2.2 w 0 0 J M I' L'
section
variable {n w : Nat} {S J I : MI} {T M L : ML} {H : HR} {e1 e2 : String}
theorem hX_1 {r : Int32} (e : H = (1, r, S, T)) (h : CX n S T w 0 0 J M I L) : hX e1 e2 n J M H e1 I L := by subst e; exact ⟨Or.inl ⟨rfl, rfl⟩, w, h⟩
theorem hX_2 {r : Int32} (e : H = (2, r, S, T)) (h : CX n S T w 0 0 J M I L) : hX e1 e2 n J M H e2 I L := by subst e; exact ⟨Or.inr ⟨rfl, rfl⟩, w, h⟩
theorem hN_0 {r : Int32} (e : H = (0, r, S, T)) (h : CX n S T w 0 0 J M I L) : hN n J M H (some (.int r)) I L := by subst e; exact ⟨rfl, rfl, w, h⟩
theorem hV_0 {r : Int32} (e : H = (0, r, S, T)) (h : CX n S T w 0 0 J M I L) : hV n J M H none I L := by subst e; exact ⟨rfl, rfl, w, h⟩
end
theorem nb_nlt {x : Int32} {b : Nat} (h : nb x b) (hb : b < 2 ^ 31) (h9 : ¬ x < nI b) : x = nI b := by
  obtain ⟨h1, h2⟩ := h
  rw [h1, nI_ltI (by omega) hb] at h9
  rw [h1, show N x = b by omega]
theorem nb_ltN {x : Int32} {b : Nat} (h : nb x b) (hb : b < 2 ^ 31) (h9 : x < nI b) : N x < b := by
  obtain ⟨h1, h2⟩ := h
  rw [h1, nI_ltI (by omega) hb] at h9
  exact h9
theorem nlt_ne {x : Int32} {b : Nat} (h : x < nI b) : ¬ x = nI b := fun e => by rw [e] at h; exact Int32.lt_irrefl h
theorem i32_pm (x : Int32) : x + 1 - 1 = x := by rw [Int32.add_sub_cancel]
theorem no_host {n : Nat} : ¬ nbt (-1) n := fun h => by
  have := h.1
  have e : N (-1) = 0 := rfl
  rw [e] at this
  exact absurd this (by decide)
section
variable (l : Launch) (n : Nat) (hn : n < 2 ^ 31) (d : Nat) (I : MI) (L : ML)
set_option maxHeartbeats 4000000 in
set_option maxRecDepth 100000 in
theorem c_needTask (x : Int32) (hl : l.stackTraces = false) (hd : 12 ≤ d) : VM l n m_X9_needTask d 1 [.ref 0, .int x] I L (fun r I' L' => (0 ≤ x ∧ x < I 4 4) ∧ r = none ∧ I' = I ∧ L' = L) (fun E I' L' => (¬ (0 ≤ x ∧ x < I 4 4)) ∧ E = iae ∧ I' = I ∧ L' = L) := by
  refine VM_of _ [(0, .ref 0), (1, .int x)] rfl (fun a => Nat.le_of_ble_eq_true rfl) rfl ?_
  refine q_aload_n dX9_needTask_0 rfl ?_
  refine q_getR 0 9 3 4 (is_0 n) (by decide) rfl rfl (by decide) f_X9_34 rfl dX9_needTask_1 ?_
  refine q_iload_n dX9_needTask_4 rfl ?_
  refine q_calli [.int _] o_X6_has rfl k_X9_236 rfl (is_4 n) (by decide) rfl dX9_needTask_5 (Nat.le_of_ble_eq_true rfl) (by omega) (by decide) (by omega) (Or.inr rfl) (c_tasks_has l n (d - 1) I L x) (fun _ _ _ h => h.elim) (fun r1 I1 L1 hq => ?_)
  obtain ⟨e1, e2, e3⟩ := hq
  cases e1
  cases e2.symm
  cases e3.symm
  refine q_if_ne 21 dX9_needTask_8 (by decide) (fun h8 => ?_) (fun h8 => ?_)
  · rw [ne_eq, bI_z, Decidable.not_not] at h8
    exact q_vret dX9_needTask_21 rfl (by omega) ⟨h8, rfl, rfl, rfl⟩
  · rw [bI_z] at h8
    exact q_throw hl x_IAE rfl (List.mem_of_getElem? (i := 16) rfl) dX9_needTask_11 dX9_needTask_14 dX9_needTask_15 dX9_needTask_17 dX9_needTask_20 (by omega) (Nat.le_of_ble_eq_true rfl) (by omega) (⟨h8, rfl, rfl, rfl⟩)
set_option maxHeartbeats 4000000 in
set_option maxRecDepth 100000 in
theorem c_needLoop (x : Int32) (hl : l.stackTraces = false) (hd : 12 ≤ d) : VM l n m_X9_needLoop d 1 [.ref 0, .int x] I L (fun r I' L' => (0 ≤ x ∧ x < nI n) ∧ r = none ∧ I' = I ∧ L' = L) (fun E I' L' => (¬ (0 ≤ x ∧ x < nI n)) ∧ E = iae ∧ I' = I ∧ L' = L) := by
  refine VM_of _ [(0, .ref 0), (1, .int x)] rfl (fun a => Nat.le_of_ble_eq_true rfl) rfl ?_
  refine q_aload_n dX9_needLoop_0 rfl ?_
  refine q_getR 0 9 1 2 (is_0 n) (by decide) rfl rfl (by decide) f_X9_22 rfl dX9_needLoop_1 ?_
  refine q_iload_n dX9_needLoop_4 rfl ?_
  refine q_calli [.int _] o_X5_has rfl k_X9_241 rfl (is_2 n) (by decide) rfl dX9_needLoop_5 (Nat.le_of_ble_eq_true rfl) (by omega) (by decide) (by omega) (Or.inr rfl) (c_sched_has l n (d - 1) I L x) (fun _ _ _ h => h.elim) (fun r1 I1 L1 hq => ?_)
  obtain ⟨e1, e2, e3⟩ := hq
  cases e1
  cases e2.symm
  cases e3.symm
  refine q_if_ne 21 dX9_needLoop_8 (by decide) (fun h8 => ?_) (fun h8 => ?_)
  · rw [ne_eq, bI_z, Decidable.not_not] at h8
    exact q_vret dX9_needLoop_21 rfl (by omega) ⟨h8, rfl, rfl, rfl⟩
  · rw [bI_z] at h8
    exact q_throw hl x_IAE rfl (List.mem_of_getElem? (i := 17) rfl) dX9_needLoop_11 dX9_needLoop_14 dX9_needLoop_15 dX9_needLoop_17 dX9_needLoop_20 (by omega) (Nat.le_of_ble_eq_true rfl) (by omega) (⟨h8, rfl, rfl, rfl⟩)
set_option maxHeartbeats 4000000 in
set_option maxRecDepth 100000 in
theorem c_needPromise (x : Int32) (hl : l.stackTraces = false) (hd : 12 ≤ d) : VM l n m_X9_needPromise d 1 [.ref 0, .int x] I L (fun r I' L' => (0 ≤ x ∧ x < I 5 6) ∧ r = none ∧ I' = I ∧ L' = L) (fun E I' L' => (¬ (0 ≤ x ∧ x < I 5 6)) ∧ E = iae ∧ I' = I ∧ L' = L) := by
  refine VM_of _ [(0, .ref 0), (1, .int x)] rfl (fun a => Nat.le_of_ble_eq_true rfl) rfl ?_
  refine q_aload_n dX9_needPromise_0 rfl ?_
  refine q_getR 0 9 4 5 (is_0 n) (by decide) rfl rfl (by decide) f_X9_39 rfl dX9_needPromise_1 ?_
  refine q_iload_n dX9_needPromise_4 rfl ?_
  refine q_calli [.int _] o_X2_has rfl k_X9_244 rfl (is_5 n) (by decide) rfl dX9_needPromise_5 (Nat.le_of_ble_eq_true rfl) (by omega) (by decide) (by omega) (Or.inr rfl) (c_promises_has l n (d - 1) I L x) (fun _ _ _ h => h.elim) (fun r1 I1 L1 hq => ?_)
  obtain ⟨e1, e2, e3⟩ := hq
  cases e1
  cases e2.symm
  cases e3.symm
  refine q_if_ne 21 dX9_needPromise_8 (by decide) (fun h8 => ?_) (fun h8 => ?_)
  · rw [ne_eq, bI_z, Decidable.not_not] at h8
    exact q_vret dX9_needPromise_21 rfl (by omega) ⟨h8, rfl, rfl, rfl⟩
  · rw [bI_z] at h8
    exact q_throw hl x_IAE rfl (List.mem_of_getElem? (i := 18) rfl) dX9_needPromise_11 dX9_needPromise_14 dX9_needPromise_15 dX9_needPromise_17 dX9_needPromise_20 (by omega) (Nat.le_of_ble_eq_true rfl) (by omega) (⟨h8, rfl, rfl, rfl⟩)
set_option maxHeartbeats 4000000 in
set_option maxRecDepth 100000 in
theorem c_needChannel (x : Int32) (hl : l.stackTraces = false) (hd : 12 ≤ d) : VM l n m_X9_needChannel d 1 [.ref 0, .int x] I L (fun r I' L' => (0 ≤ x ∧ x < I 6 5) ∧ r = none ∧ I' = I ∧ L' = L) (fun E I' L' => (¬ (0 ≤ x ∧ x < I 6 5)) ∧ E = iae ∧ I' = I ∧ L' = L) := by
  refine VM_of _ [(0, .ref 0), (1, .int x)] rfl (fun a => Nat.le_of_ble_eq_true rfl) rfl ?_
  refine q_aload_n dX9_needChannel_0 rfl ?_
  refine q_getR 0 9 5 6 (is_0 n) (by decide) rfl rfl (by decide) f_X9_44 rfl dX9_needChannel_1 ?_
  refine q_iload_n dX9_needChannel_4 rfl ?_
  refine q_calli [.int _] o_X0_has rfl k_X9_247 rfl (is_6 n) (by decide) rfl dX9_needChannel_5 (Nat.le_of_ble_eq_true rfl) (by omega) (by decide) (by omega) (Or.inr rfl) (c_channels_has l n (d - 1) I L x) (fun _ _ _ h => h.elim) (fun r1 I1 L1 hq => ?_)
  obtain ⟨e1, e2, e3⟩ := hq
  cases e1
  cases e2.symm
  cases e3.symm
  refine q_if_ne 21 dX9_needChannel_8 (by decide) (fun h8 => ?_) (fun h8 => ?_)
  · rw [ne_eq, bI_z, Decidable.not_not] at h8
    exact q_vret dX9_needChannel_21 rfl (by omega) ⟨h8, rfl, rfl, rfl⟩
  · rw [bI_z] at h8
    exact q_throw hl x_IAE rfl (List.mem_of_getElem? (i := 19) rfl) dX9_needChannel_11 dX9_needChannel_14 dX9_needChannel_15 dX9_needChannel_17 dX9_needChannel_20 (by omega) (Nat.le_of_ble_eq_true rfl) (by omega) (⟨h8, rfl, rfl, rfl⟩)
set_option maxHeartbeats 4000000 in
set_option maxRecDepth 100000 in
theorem c_removeHandler {S J : MI} {T M : ML} {w nf fr : Nat} (c p : Nat) (hn : n < 2 ^ 31) (h : CX n S T w nf fr J M I L) (hc : c < N (S 30 34)) (hp : p < N (S 236 c)) (hd : 1 ≤ d) : VM l n m_X0_removeHandler d 0 [.ref 6, .int (nI c), .int (nI p)] I L (fun r I' L' => r = some (.int (S 239 (6 * c + p))) ∧ CX n (Fhrem S c p) T w nf fr J M I' L') noX := by
  refine VM_of _ [(0, .ref 6), (1, .int (nI c)), (2, .int (nI p))] rfl (fun a => Nat.le_of_ble_eq_true rfl) rfl ?_
  have h16 := h.2.1.2.2.2.2.1.1.2
  obtain ⟨-, h6, -⟩ := h.2.1.2.2.2.2.1.2.2 c hc
  have hm : I 361 c = nI (N (S 236 c)) := (congrFun h.1.2.2.2.1.2.2.2.1 c).trans h6.1
  have h364 : I 364 (6 * c + p) = S 239 (6 * c + p) := congrFun h.1.2.2.2.1.2.2.2.2.2.2 _
  have hm6 := h6.2
  have e1 : nI c * 6 + nI p = nI (6 * c + p) := by rw [show nI c * 6 = nI (c * 6) from pk_mul _ 6, nI_add, Nat.mul_comm]
  have e2 : nI (N (S 236 c)) - nI p - 1 = nI (N (S 236 c) - p - 1) := by
    obtain ⟨q, hq⟩ : ∃ q, N (S 236 c) = p + (q + 1) := ⟨N (S 236 c) - p - 1, by omega⟩
    rw [hq, ← nI_add p (q + 1), show p + (q + 1) - p - 1 = q by omega]
    rw [Int32.add_comm, Int32.add_sub_cancel, nI_pred]
  refine q_iload_n dX0_removeHandler_0 rfl ?_
  refine q_bipush (6) dX0_removeHandler_1 (by decide) ?_
  refine q_imul dX0_removeHandler_3 ?_
  refine q_iload_n dX0_removeHandler_4 rfl ?_
  refine q_iadd dX0_removeHandler_5 ?_
  rw [e1]
  refine q_istore_n [(3, _), (0, _), (1, _), (2, _)] dX0_removeHandler_6 (by decide) rfl ?_
  refine q_aload_n dX0_removeHandler_7 rfl ?_
  refine q_getR 6 0 4 364 (is_6 n) (by decide) rfl rfl (by decide) f_X0_22 rfl dX0_removeHandler_8 ?_
  refine q_iload_n dX0_removeHandler_11 rfl ?_
  refine q_iald 364 (6*c+p) hn (is_364 n) rfl (by show _ < 96; omega) dX0_removeHandler_12 ?_
  refine q_istore [(4, _), (3, _), (0, _), (1, _), (2, _)] dX0_removeHandler_13 (by decide) rfl ?_
  refine q_aload_n dX0_removeHandler_15 rfl ?_
  refine q_getR 6 0 1 361 (is_6 n) (by decide) rfl rfl (by decide) f_X0_13 rfl dX0_removeHandler_16 ?_
  refine q_iload_n dX0_removeHandler_19 rfl ?_
  refine q_iald 361 (c) hn (is_361 n) rfl (by show _ < 16; omega) dX0_removeHandler_20 ?_
  refine q_iload_n dX0_removeHandler_21 rfl ?_
  refine q_isub dX0_removeHandler_22 ?_
  refine q_iconst (1) dX0_removeHandler_23 (by decide) ?_
  refine q_isub dX0_removeHandler_24 ?_
  rw [hm, e2]
  refine q_istore [(5, _), (4, _), (3, _), (0, _), (1, _), (2, _)] dX0_removeHandler_25 (by decide) rfl ?_
  refine q_aload_n dX0_removeHandler_27 rfl ?_
  refine q_getR 6 0 2 362 (is_6 n) (by decide) rfl rfl (by decide) f_X0_16 rfl dX0_removeHandler_28 ?_
  refine q_iload_n dX0_removeHandler_31 rfl ?_
  refine q_iconst (1) dX0_removeHandler_32 (by decide) ?_
  refine q_iadd dX0_removeHandler_33 ?_
  refine q_aload_n dX0_removeHandler_34 rfl ?_
  refine q_getR 6 0 2 362 (is_6 n) (by decide) rfl rfl (by decide) f_X0_16 rfl dX0_removeHandler_35 ?_
  refine q_iload_n dX0_removeHandler_38 rfl ?_
  refine q_iload dX0_removeHandler_39 rfl ?_
  refine q_copy 362 (6 * c + p + 1) (6 * c + p) (N (S 236 c) - p - 1) hn (is_362 n) (nI_1 _) rfl rfl (by show _ ≤ 96; omega) (by show _ ≤ 96; omega) k_X0_32 rfl dX0_removeHandler_41 hd (by decide) ?_
  refine q_aload_n dX0_removeHandler_44 rfl ?_
  refine q_getR 6 0 3 363 (is_6 n) (by decide) rfl rfl (by decide) f_X0_19 rfl dX0_removeHandler_45 ?_
  refine q_iload_n dX0_removeHandler_48 rfl ?_
  refine q_iconst (1) dX0_removeHandler_49 (by decide) ?_
  refine q_iadd dX0_removeHandler_50 ?_
  refine q_aload_n dX0_removeHandler_51 rfl ?_
  refine q_getR 6 0 3 363 (is_6 n) (by decide) rfl rfl (by decide) f_X0_19 rfl dX0_removeHandler_52 ?_
  refine q_iload_n dX0_removeHandler_55 rfl ?_
  refine q_iload dX0_removeHandler_56 rfl ?_
  refine q_copy 363 (6 * c + p + 1) (6 * c + p) (N (S 236 c) - p - 1) hn (is_363 n) (nI_1 _) rfl rfl (by show _ ≤ 96; omega) (by show _ ≤ 96; omega) k_X0_32 rfl dX0_removeHandler_58 hd (by decide) ?_
  refine q_aload_n dX0_removeHandler_61 rfl ?_
  refine q_getR 6 0 4 364 (is_6 n) (by decide) rfl rfl (by decide) f_X0_22 rfl dX0_removeHandler_62 ?_
  refine q_iload_n dX0_removeHandler_65 rfl ?_
  refine q_iconst (1) dX0_removeHandler_66 (by decide) ?_
  refine q_iadd dX0_removeHandler_67 ?_
  refine q_aload_n dX0_removeHandler_68 rfl ?_
  refine q_getR 6 0 4 364 (is_6 n) (by decide) rfl rfl (by decide) f_X0_22 rfl dX0_removeHandler_69 ?_
  refine q_iload_n dX0_removeHandler_72 rfl ?_
  refine q_iload dX0_removeHandler_73 rfl ?_
  refine q_copy 364 (6 * c + p + 1) (6 * c + p) (N (S 236 c) - p - 1) hn (is_364 n) (nI_1 _) rfl rfl (by show _ ≤ 96; omega) (by show _ ≤ 96; omega) k_X0_32 rfl dX0_removeHandler_75 hd (by decide) ?_
  refine q_aload_n dX0_removeHandler_78 rfl ?_
  refine q_getR 6 0 1 361 (is_6 n) (by decide) rfl rfl (by decide) f_X0_13 rfl dX0_removeHandler_79 ?_
  refine q_iload_n dX0_removeHandler_82 rfl ?_
  refine q_dup2 dX0_removeHandler_83 rfl rfl ?_
  refine q_iald 361 (c) hn (is_361 n) rfl (by show _ < 16; omega) dX0_removeHandler_84 ?_
  refine q_iconst (1) dX0_removeHandler_85 (by decide) ?_
  refine q_isub dX0_removeHandler_86 ?_
  refine q_iast 361 (c) hn (is_361 n) rfl (by show _ < 16; omega) dX0_removeHandler_87 ?_
  refine q_iload dX0_removeHandler_88 rfl ?_
  have e5 : cpI (cpI (cpI I 362 (6 * c + p + 1) (6 * c + p) (N (S 236 c) - p - 1)) 363 (6 * c + p + 1) (6 * c + p) (N (S 236 c) - p - 1)) 364 (6 * c + p + 1) (6 * c + p) (N (S 236 c) - p - 1) 361 c - 1 = nI (N (S 236 c) - 1) := by
    have : cpI (cpI (cpI I 362 (6 * c + p + 1) (6 * c + p) (N (S 236 c) - p - 1)) 363 (6 * c + p + 1) (6 * c + p) (N (S 236 c) - p - 1)) 364 (6 * c + p + 1) (6 * c + p) (N (S 236 c) - p - 1) 361 c = I 361 c := by simp [cpI]
    rw [this, hm]
    obtain ⟨q, hq⟩ : ∃ q, N (S 236 c) = q + 1 := ⟨N (S 236 c) - 1, by omega⟩
    rw [hq, nI_pred]
    rfl
  rw [e5, h364]
  exact q_iret dX0_removeHandler_90 rfl (by omega) ⟨rfl, CX_hrem h hc hp⟩
end

