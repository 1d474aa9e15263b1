/-! ===== the reference: its small methods, to the memory itself ===== -/
theorem q_ldcw {l : Launch} {n : Nat} {y : vq_M} {d K : Nat} {Q : vq_R} {QX : vq_RX} {k pc : Nat} {lv : List (Nat × Value)} {st : List Value} {I : MI} {L : ML} {own : String} {ix : Nat} {v : Int32} (hw : Cond.constant own ix v ∈ WS) (ho : y.1.cls = own) (hd : decode y.2.1 pc = .ok (.ldc_w ix, 3)) (kk : VP l n y d K Q QX k (pc + 3) lv (.int v :: st) I L) : VP l n y d K Q QX k pc lv st I L := by
  intro p e s m args below meth c a cs D A H locs ls C hP hD hS hl
  exact lv_ldcw C.1 C.2.1 (ho ▸ C.2.2.2.2.1) (C.2.2.2.2.2.1 _ hw) hd (kk p e s m args below meth c a cs D A H locs ls C hP hD hS hl)
theorem idx (a t k : Nat) : nI a * nI t + nI k = nI (a * t + k) := by rw [pk_mul, nI_add]
theorem in_lt {x c : Int32} {k : Nat} (hc : c = nI k) (hk : k < 2 ^ 31) : ((0 : Int64) ≤ x.toInt64 ∧ x.toInt64 ≤ (c - 1).toInt64) ↔ (0 ≤ x ∧ x < c) := by
  subst hc
  have e : (nI k - 1).toInt = (k : Int) - 1 := by
    rw [Int32.toInt_sub, nI_toInt hk, show (1 : Int32).toInt = 1 from rfl]
    exact Int.bmod_eq_of_le (by omega) (by omega)
  rw [Int64.le_iff_toInt_le, Int64.le_iff_toInt_le, Int32.toInt_toInt64, Int32.toInt_toInt64, e, Int32.le_iff_toInt_le, Int32.lt_iff_toInt_lt, nI_toInt hk]
  show (0 : Int) ≤ _ ∧ _ ↔ (0 : Int) ≤ _ ∧ _
  omega
/-- the frame what, of, at its beginning, above D others -/
def Rpush (I : MI) (D : Nat) (what ofx more : Int32) : MI := upI (upI (upI (upI (upI (upI I 246 D what) 247 D ofx) 248 D 0) 249 D more) 250 D 0) 30 45 (nI (D + 1))
/-- how many of the lowest frames are what -/
def Rcnt (I : MI) (what : Int32) : Nat → Nat
  | 0 => 0
  | t + 1 => Rcnt I what t + (if I 246 t = what then 1 else 0)
theorem Rcnt_le (I : MI) (what : Int32) : ∀ t, Rcnt I what t ≤ t
  | 0 => Nat.le_refl _
  | t + 1 => by have := Rcnt_le I what t; simp only [Rcnt]; split <;> omega
theorem Fcnt_le (I : MI) (i : Nat) : ∀ t, Fcnt I i t ≤ t
  | 0 => Nat.le_refl _
  | t + 1 => by have := Fcnt_le I i t; simp only [Fcnt]; split <;> omega
section
variable (l : Launch) (n : Nat) (hn : n < 2 ^ 31) (d : Nat) (I : MI) (L : ML)
set_option maxHeartbeats 4000000 in
set_option maxRecDepth 100000 in
theorem r_throwing (a b : Int32) : VM l n m_X10_throwing d 0 [.ref 30, .int a, .int b] I L (fun r I' L' => r = some (.int (bI (a ≠ 0 ∨ b ≠ 0))) ∧ I' = upI I 30 0 (if a ≠ 0 then 1 else if b ≠ 0 then 2 else 0) ∧ L' = L) noX := by
  refine VM_of _ [(0, .ref 30), (1, .int a), (2, .int b)] rfl (fun a => Nat.le_of_ble_eq_true rfl) rfl ?_
  refine q_aload_n dX10_throwing_0 rfl ?_
  refine q_iload_n dX10_throwing_1 rfl ?_
  refine q_if_eq 9 dX10_throwing_2 (by decide) (fun h2 => ?_) (fun h2 => ?_)
  · refine q_iload_n dX10_throwing_9 rfl ?_
    refine q_if_eq 17 dX10_throwing_10 (by decide) (fun h10 => ?_) (fun h10 => ?_)
    · refine q_iconst (0) dX10_throwing_17 (by decide) ?_
      refine q_putI 30 10 0 (is_30 n) (by decide) rfl (by decide) rfl rfl f_X10_136 rfl dX10_throwing_18 ?_
      refine q_aload_n dX10_throwing_21 rfl ?_
      refine q_getI 30 10 0 (is_30 n) (by decide) rfl (by decide) f_X10_136 rfl dX10_throwing_22 ?_
      refine q_if_le 32 dX10_throwing_25 (by decide) (fun h25 => ?_) (fun h25 => ?_)
      · refine q_iconst (0) dX10_throwing_32 (by decide) ?_
        refine q_zret dX10_throwing_33 rfl (by omega) (by decide) ?_
        first | (exfalso; rw [show ∀ v, upI I 30 0 v 30 0 = v from fun v => if_pos ⟨rfl, rfl⟩] at h25; revert h25; decide) | (refine ⟨?_, ?_, rfl⟩ <;> simp [bI, *])
      · refine q_iconst (1) dX10_throwing_28 (by decide) ?_
        refine q_goto 33 dX10_throwing_29 (by decide) ?_
        refine q_zret dX10_throwing_33 rfl (by omega) (by decide) ?_
        first | (exfalso; rw [show ∀ v, upI I 30 0 v 30 0 = v from fun v => if_pos ⟨rfl, rfl⟩] at h25; revert h25; decide) | (refine ⟨?_, ?_, rfl⟩ <;> simp [bI, *])
    · refine q_iconst (2) dX10_throwing_13 (by decide) ?_
      refine q_goto 18 dX10_throwing_14 (by decide) ?_
      refine q_putI 30 10 0 (is_30 n) (by decide) rfl (by decide) rfl rfl f_X10_136 rfl dX10_throwing_18 ?_
      refine q_aload_n dX10_throwing_21 rfl ?_
      refine q_getI 30 10 0 (is_30 n) (by decide) rfl (by decide) f_X10_136 rfl dX10_throwing_22 ?_
      refine q_if_le 32 dX10_throwing_25 (by decide) (fun h25 => ?_) (fun h25 => ?_)
      · refine q_iconst (0) dX10_throwing_32 (by decide) ?_
        refine q_zret dX10_throwing_33 rfl (by omega) (by decide) ?_
        first | (exfalso; rw [show ∀ v, upI I 30 0 v 30 0 = v from fun v => if_pos ⟨rfl, rfl⟩] at h25; revert h25; decide) | (refine ⟨?_, ?_, rfl⟩ <;> simp [bI, *])
      · refine q_iconst (1) dX10_throwing_28 (by decide) ?_
        refine q_goto 33 dX10_throwing_29 (by decide) ?_
        refine q_zret dX10_throwing_33 rfl (by omega) (by decide) ?_
        first | (exfalso; rw [show ∀ v, upI I 30 0 v 30 0 = v from fun v => if_pos ⟨rfl, rfl⟩] at h25; revert h25; decide) | (refine ⟨?_, ?_, rfl⟩ <;> simp [bI, *])
  · refine q_iconst (1) dX10_throwing_5 (by decide) ?_
    refine q_goto 18 dX10_throwing_6 (by decide) ?_
    refine q_putI 30 10 0 (is_30 n) (by decide) rfl (by decide) rfl rfl f_X10_136 rfl dX10_throwing_18 ?_
    refine q_aload_n dX10_throwing_21 rfl ?_
    refine q_getI 30 10 0 (is_30 n) (by decide) rfl (by decide) f_X10_136 rfl dX10_throwing_22 ?_
    refine q_if_le 32 dX10_throwing_25 (by decide) (fun h25 => ?_) (fun h25 => ?_)
    · refine q_iconst (0) dX10_throwing_32 (by decide) ?_
      refine q_zret dX10_throwing_33 rfl (by omega) (by decide) ?_
      first | (exfalso; rw [show ∀ v, upI I 30 0 v 30 0 = v from fun v => if_pos ⟨rfl, rfl⟩] at h25; revert h25; decide) | (refine ⟨?_, ?_, rfl⟩ <;> simp [bI, *])
    · refine q_iconst (1) dX10_throwing_28 (by decide) ?_
      refine q_goto 33 dX10_throwing_29 (by decide) ?_
      refine q_zret dX10_throwing_33 rfl (by omega) (by decide) ?_
      first | (exfalso; rw [show ∀ v, upI I 30 0 v 30 0 = v from fun v => if_pos ⟨rfl, rfl⟩] at h25; revert h25; decide) | (refine ⟨?_, ?_, rfl⟩ <;> simp [bI, *])
set_option maxHeartbeats 4000000 in
set_option maxRecDepth 100000 in
theorem r_in (x lo hi : Int64) : VM l n m_X10_in d 0 [.long x, .long lo, .long hi] I L (fun r I' L' => r = some (.int (bI (lo ≤ x ∧ x ≤ hi))) ∧ I' = I ∧ L' = L) noX := by
  refine VM_of _ [(0, .long x), (2, .long lo), (4, .long hi)] rfl (fun a => Nat.le_of_ble_eq_true rfl) rfl ?_
  refine q_lload_n dX10_in_0 rfl ?_
  refine q_lload_n dX10_in_1 rfl ?_
  refine q_lcmp dX10_in_2 ?_
  refine q_if_lt 17 dX10_in_3 (by decide) (fun h3 => ?_) (fun h3 => ?_)
  · refine q_iconst (0) dX10_in_17 (by decide) ?_
    refine q_zret dX10_in_18 rfl (by omega) (by decide) ?_
    refine ⟨?_, rfl, rfl⟩; unfold bI; split <;> first | rfl | (exfalso; simp only [lg_cmp_lt, lg_cmp_gt, Int64.lt_iff_toInt_lt, Int64.le_iff_toInt_le] at *; omega)
  · refine q_lload_n dX10_in_6 rfl ?_
    refine q_lload dX10_in_7 rfl ?_
    refine q_lcmp dX10_in_9 ?_
    refine q_if_gt 17 dX10_in_10 (by decide) (fun h10 => ?_) (fun h10 => ?_)
    · refine q_iconst (0) dX10_in_17 (by decide) ?_
      refine q_zret dX10_in_18 rfl (by omega) (by decide) ?_
      refine ⟨?_, rfl, rfl⟩; unfold bI; split <;> first | rfl | (exfalso; simp only [lg_cmp_lt, lg_cmp_gt, Int64.lt_iff_toInt_lt, Int64.le_iff_toInt_le] at *; omega)
    · refine q_iconst (1) dX10_in_13 (by decide) ?_
      refine q_goto 18 dX10_in_14 (by decide) ?_
      refine q_zret dX10_in_18 rfl (by omega) (by decide) ?_
      refine ⟨?_, rfl, rfl⟩; unfold bI; split <;> first | rfl | (exfalso; simp only [lg_cmp_lt, lg_cmp_gt, Int64.lt_iff_toInt_lt, Int64.le_iff_toInt_le] at *; omega)
set_option maxHeartbeats 4000000 in
set_option maxRecDepth 100000 in
theorem r_isTask (x : Int32) {c : Nat} (hc : I 30 3 = nI c) (hcb : c < 2 ^ 31) (hd : 1 ≤ d) : VM l n m_X10_isTask d 0 [.ref 30, .int x] I L (fun r I' L' => r = some (.int (bI (0 ≤ x ∧ x < I 30 3))) ∧ I' = I ∧ L' = L) noX := by
  refine VM_of _ [(0, .ref 30), (1, .int x)] rfl (fun a => Nat.le_of_ble_eq_true rfl) rfl ?_
  refine q_iload_n dX10_isTask_0 rfl ?_
  refine q_i2l dX10_isTask_1 ?_
  refine q_lconst (0) dX10_isTask_2 (by decide) ?_
  refine q_aload_n dX10_isTask_3 rfl ?_
  refine q_getI 30 10 3 (is_30 n) (by decide) rfl (by decide) f_X10_139 rfl dX10_isTask_4 ?_
  refine q_iconst (1) dX10_isTask_7 (by decide) ?_
  refine q_isub dX10_isTask_8 ?_
  refine q_i2l dX10_isTask_9 ?_
  refine q_calls [.long _, .long _, .long _] o_X10_in rfl k_X10_142 rfl dX10_isTask_10 (Nat.le_of_ble_eq_true rfl) (by omega) (by decide) (by omega) (Or.inr rfl) (r_in l n (d - 1) I L x.toInt64 0 (I 30 3 - 1).toInt64) (fun _ _ _ h => h.elim) (fun r1 I1 L1 hq => ?_)
  obtain ⟨e1, e2, e3⟩ := hq
  cases e1
  cases e2.symm
  cases e3.symm
  refine q_zret dX10_isTask_13 rfl (by omega) bI_nar ⟨?_, rfl, rfl⟩
  simp only [in_lt hc hcb]
set_option maxHeartbeats 4000000 in
set_option maxRecDepth 100000 in
theorem r_isPromise (x : Int32) {c : Nat} (hc : I 30 27 = nI c) (hcb : c < 2 ^ 31) (hd : 1 ≤ d) : VM l n m_X10_isPromise d 0 [.ref 30, .int x] I L (fun r I' L' => r = some (.int (bI (0 ≤ x ∧ x < I 30 27))) ∧ I' = I ∧ L' = L) noX := by
  refine VM_of _ [(0, .ref 30), (1, .int x)] rfl (fun a => Nat.le_of_ble_eq_true rfl) rfl ?_
  refine q_iload_n dX10_isPromise_0 rfl ?_
  refine q_i2l dX10_isPromise_1 ?_
  refine q_lconst (0) dX10_isPromise_2 (by decide) ?_
  refine q_aload_n dX10_isPromise_3 rfl ?_
  refine q_getI 30 10 27 (is_30 n) (by decide) rfl (by decide) f_X10_146 rfl dX10_isPromise_4 ?_
  refine q_iconst (1) dX10_isPromise_7 (by decide) ?_
  refine q_isub dX10_isPromise_8 ?_
  refine q_i2l dX10_isPromise_9 ?_
  refine q_calls [.long _, .long _, .long _] o_X10_in rfl k_X10_142 rfl dX10_isPromise_10 (Nat.le_of_ble_eq_true rfl) (by omega) (by decide) (by omega) (Or.inr rfl) (r_in l n (d - 1) I L x.toInt64 0 (I 30 27 - 1).toInt64) (fun _ _ _ h => h.elim) (fun r1 I1 L1 hq => ?_)
  obtain ⟨e1, e2, e3⟩ := hq
  cases e1
  cases e2.symm
  cases e3.symm
  refine q_zret dX10_isPromise_13 rfl (by omega) bI_nar ⟨?_, rfl, rfl⟩
  simp only [in_lt hc hcb]
set_option maxHeartbeats 4000000 in
set_option maxRecDepth 100000 in
theorem r_isChannel (x : Int32) {c : Nat} (hc : I 30 34 = nI c) (hcb : c < 2 ^ 31) (hd : 1 ≤ d) : VM l n m_X10_isChannel d 0 [.ref 30, .int x] I L (fun r I' L' => r = some (.int (bI (0 ≤ x ∧ x < I 30 34))) ∧ I' = I ∧ L' = L) noX := by
  refine VM_of _ [(0, .ref 30), (1, .int x)] rfl (fun a => Nat.le_of_ble_eq_true rfl) rfl ?_
  refine q_iload_n dX10_isChannel_0 rfl ?_
  refine q_i2l dX10_isChannel_1 ?_
  refine q_lconst (0) dX10_isChannel_2 (by decide) ?_
  refine q_aload_n dX10_isChannel_3 rfl ?_
  refine q_getI 30 10 34 (is_30 n) (by decide) rfl (by decide) f_X10_149 rfl dX10_isChannel_4 ?_
  refine q_iconst (1) dX10_isChannel_7 (by decide) ?_
  refine q_isub dX10_isChannel_8 ?_
  refine q_i2l dX10_isChannel_9 ?_
  refine q_calls [.long _, .long _, .long _] o_X10_in rfl k_X10_142 rfl dX10_isChannel_10 (Nat.le_of_ble_eq_true rfl) (by omega) (by decide) (by omega) (Or.inr rfl) (r_in l n (d - 1) I L x.toInt64 0 (I 30 34 - 1).toInt64) (fun _ _ _ h => h.elim) (fun r1 I1 L1 hq => ?_)
  obtain ⟨e1, e2, e3⟩ := hq
  cases e1
  cases e2.symm
  cases e3.symm
  refine q_zret dX10_isChannel_13 rfl (by omega) bI_nar ⟨?_, rfl, rfl⟩
  simp only [in_lt hc hcb]
set_option maxHeartbeats 4000000 in
set_option maxRecDepth 100000 in
theorem r_isLoop (x : Int32) (hn : n < 2 ^ 31) (hc : I 30 1 = nI n) (hd : 1 ≤ d) : VM l n m_X10_isLoop d 0 [.ref 30, .int x] I L (fun r I' L' => r = some (.int (bI (isL n x))) ∧ I' = I ∧ L' = L) noX := by
  refine VM_of _ [(0, .ref 30), (1, .int x)] rfl (fun a => Nat.le_of_ble_eq_true rfl) rfl ?_
  refine q_iload_n dX10_isLoop_0 rfl ?_
  refine q_i2l dX10_isLoop_1 ?_
  refine q_lconst (0) dX10_isLoop_2 (by decide) ?_
  refine q_aload_n dX10_isLoop_3 rfl ?_
  refine q_getI 30 10 1 (is_30 n) (by decide) rfl (by decide) f_X10_132 rfl dX10_isLoop_4 ?_
  refine q_iconst (1) dX10_isLoop_7 (by decide) ?_
  refine q_isub dX10_isLoop_8 ?_
  refine q_i2l dX10_isLoop_9 ?_
  rw [hc]
  refine q_calls [.long _, .long _, .long _] o_X10_in rfl k_X10_142 rfl dX10_isLoop_10 (Nat.le_of_ble_eq_true rfl) (by omega) (by decide) (by omega) (Or.inr rfl) (r_in l n (d - 1) I L x.toInt64 0 (nI n - 1).toInt64) (fun _ _ _ h => h.elim) (fun r1 I1 L1 hq => ?_)
  obtain ⟨e1, e2, e3⟩ := hq
  cases e1
  cases e2.symm
  cases e3.symm
  refine q_zret dX10_isLoop_13 rfl (by omega) bI_nar ⟨?_, rfl, rfl⟩
  simp only [in_lt rfl hn]
set_option maxHeartbeats 4000000 in
set_option maxRecDepth 100000 in
theorem r_become (i : Nat) (s : Int32) (hn : n < 2 ^ 31) (hi : i < 8) (hc : I 30 41 = nI (tr I)) (hcb : tr I < 2 ^ 31) (hd : 1 ≤ d) : VM l n m_X10_become d 0 [.ref 30, .int (nI i), .int s] I L (fun r I' L' => r = none ∧ I' = Fbec I i s ∧ L' = L) noX := by
  refine VM_of _ [(0, .ref 30), (1, .int (nI i)), (2, .int s)] rfl (fun a => Nat.le_of_ble_eq_true rfl) rfl ?_
  refine q_aload_n dX10_become_0 rfl ?_
  refine q_getR 30 10 8 208 (is_30 n) (by decide) rfl rfl (by decide) f_X10_22 rfl dX10_become_1 ?_
  refine q_iload_n dX10_become_4 rfl ?_
  refine q_iload_n dX10_become_5 rfl ?_
  refine q_iast 208 (_) hn (is_208 n) rfl (by show _ < 8; omega) dX10_become_6 ?_
  refine q_aload_n dX10_become_7 rfl ?_
  refine q_iload_n dX10_become_8 rfl ?_
  refine q_bipush (7) dX10_become_9 (by decide) ?_
  refine q_iload_n dX10_become_11 rfl ?_
  refine q_callv [.int _, .int _, .int _] o_X10_log rfl k_X10_155 rfl (is_30 n) (by decide) rfl dX10_become_12 (Nat.le_of_ble_eq_true rfl) (by omega) (by decide) (by omega) rfl (r_log l n hn (d - 1) (upI I 208 i s) L (tr I) (nI i) 7 s (by simpa [rdI] using hc) hcb) (fun _ _ _ h => h.elim) (fun I1 L1 hq => ?_)
  obtain ⟨-, e2, e3⟩ := hq
  refine q_vret dX10_become_15 rfl (by omega) ⟨rfl, ?_, e3⟩
  rw [e2, Fbec, Flog]
  rfl
set_option maxHeartbeats 4000000 in
set_option maxRecDepth 100000 in
theorem r_put (i : Nat) (k x m v : Int32) (hn : n < 2 ^ 31) (hi : i < 8) (hq : nb (I 209 i) 24) (hc : I 30 41 = nI (tr I)) (hcb : tr I < 2 ^ 31) (hd : 2 ≤ d) : VM l n m_X10_put d 0 [.ref 30, .int (nI i), .int k, .int x, .int m, .int v] I L (fun r I' L' => r = some (.int (bI (¬ rej I i))) ∧ I' = Fput I (I 30 51) i k x m v ∧ L' = L) noX := by
  refine VM_of _ [(0, .ref 30), (1, .int (nI i)), (2, .int k), (3, .int x), (4, .int m), (5, .int v)] rfl (fun a => Nat.le_of_ble_eq_true rfl) rfl ?_
  have hrej : rej I i → VP l n m_X10_put d 0 (fun r I' L' => r = some (.int (bI (¬ rej I i))) ∧ I' = Fput I (I 30 51) i k x m v ∧ L' = L) noX 0 21 [(0, .ref 30), (1, .int (nI i)), (2, .int k), (3, .int x), (4, .int m), (5, .int v)] [] I L := by
    intro hr
    refine q_aload_n dX10_put_21 rfl ?_
    refine q_aload_n dX10_put_22 rfl ?_
    refine q_getI 30 10 51 (is_30 n) (by decide) rfl (by decide) f_X10_189 rfl dX10_put_23 ?_
    refine q_iconst (4) dX10_put_26 (by decide) ?_
    refine q_iload dX10_put_27 rfl ?_
    refine q_callv [.int _, .int _, .int _] o_X10_log rfl k_X10_155 rfl (is_30 n) (by decide) rfl dX10_put_29 (Nat.le_of_ble_eq_true rfl) (by omega) (by decide) (by omega) rfl (r_log l n hn (d - 1) I L (tr I) (I 30 51) 4 v hc hcb) (fun _ _ _ h => h.elim) (fun I1 L1 hq => ?_)
    obtain ⟨-, e2, e3⟩ := hq
    refine q_iconst (0) dX10_put_32 (by decide) ?_
    refine q_zret dX10_put_33 rfl (by omega) (by decide) ⟨?_, ?_, e3⟩
    · rw [bI_f (fun q => q hr)]
    · rw [Fput, if_pos hr, e2]
      rfl
  refine q_aload_n dX10_put_0 rfl ?_
  refine q_getR 30 10 8 208 (is_30 n) (by decide) rfl rfl (by decide) f_X10_22 rfl dX10_put_1 ?_
  refine q_iload_n dX10_put_4 rfl ?_
  refine q_iald 208 (_) hn (is_208 n) rfl (by show _ < 8; omega) dX10_put_5 ?_
  refine q_iconst (3) dX10_put_6 (by decide) ?_
  refine q_icmp_gt 21 dX10_put_7 (by decide) (fun h7 => ?_) (fun h7 => ?_)
  · exact hrej (Or.inl h7)
  · refine q_aload_n dX10_put_10 rfl ?_
    refine q_getR 30 10 9 209 (is_30 n) (by decide) rfl rfl (by decide) f_X10_25 rfl dX10_put_11 ?_
    refine q_iload_n dX10_put_14 rfl ?_
    refine q_iald 209 (_) hn (is_209 n) rfl (by show _ < 8; omega) dX10_put_15 ?_
    refine q_bipush (24) dX10_put_16 (by decide) ?_
    refine q_icmp_ne 34 dX10_put_18 (by decide) (fun h18 => ?_) (fun h18 => ?_)
    · have hr : ¬ rej I i := fun q => q.elim h7 h18
      have hm : N (I 209 i) < 24 := by
        have := hq.2
        rcases Nat.lt_or_ge (N (I 209 i)) 24 with q | q
        · exact q
        · exact absurd (by rw [hq.1, show N (I 209 i) = 24 by omega]; rfl) h18
      have e1 : (24 : Int32) * nI i + I 209 i = nI (24 * i + N (I 209 i)) := by
        conv => lhs; rw [hq.1]
        exact idx 24 i _
      refine q_bipush (24) dX10_put_34 (by decide) ?_
      refine q_iload_n dX10_put_36 rfl ?_
      refine q_imul dX10_put_37 ?_
      refine q_aload_n dX10_put_38 rfl ?_
      refine q_getR 30 10 9 209 (is_30 n) (by decide) rfl rfl (by decide) f_X10_25 rfl dX10_put_39 ?_
      refine q_iload_n dX10_put_42 rfl ?_
      refine q_iald 209 (_) hn (is_209 n) rfl (by show _ < 8; omega) dX10_put_43 ?_
      refine q_iadd dX10_put_44 ?_
      rw [e1]
      refine q_istore [(6, _), (0, _), (1, _), (2, _), (3, _), (4, _), (5, _)] dX10_put_45 (by decide) rfl ?_
      refine q_aload_n dX10_put_47 rfl ?_
      refine q_getR 30 10 11 211 (is_30 n) (by decide) rfl rfl (by decide) f_X10_31 rfl dX10_put_48 ?_
      refine q_iload dX10_put_51 rfl ?_
      refine q_iload_n dX10_put_53 rfl ?_
      refine q_iast 211 (_) hn (is_211 n) rfl (by show _ < 192; omega) dX10_put_54 ?_
      refine q_aload_n dX10_put_55 rfl ?_
      refine q_getR 30 10 12 212 (is_30 n) (by decide) rfl rfl (by decide) f_X10_34 rfl dX10_put_56 ?_
      refine q_iload dX10_put_59 rfl ?_
      refine q_iload_n dX10_put_61 rfl ?_
      refine q_iast 212 (_) hn (is_212 n) rfl (by show _ < 192; omega) dX10_put_62 ?_
      refine q_aload_n dX10_put_63 rfl ?_
      refine q_getR 30 10 13 213 (is_30 n) (by decide) rfl rfl (by decide) f_X10_37 rfl dX10_put_64 ?_
      refine q_iload dX10_put_67 rfl ?_
      refine q_iload dX10_put_69 rfl ?_
      refine q_iast 213 (_) hn (is_213 n) rfl (by show _ < 192; omega) dX10_put_71 ?_
      refine q_aload_n dX10_put_72 rfl ?_
      refine q_getR 30 10 9 209 (is_30 n) (by decide) rfl rfl (by decide) f_X10_25 rfl dX10_put_73 ?_
      refine q_iload_n dX10_put_76 rfl ?_
      refine q_dup2 dX10_put_77 rfl rfl ?_
      refine q_iald 209 (_) hn (is_209 n) rfl (by show _ < 8; omega) dX10_put_78 ?_
      refine q_iconst (1) dX10_put_79 (by decide) ?_
      refine q_iadd dX10_put_80 ?_
      refine q_iast 209 (_) hn (is_209 n) rfl (by show _ < 8; omega) dX10_put_81 ?_
      refine q_aload_n dX10_put_82 rfl ?_
      refine q_getR 30 10 8 208 (is_30 n) (by decide) rfl rfl (by decide) f_X10_22 rfl dX10_put_83 ?_
      refine q_iload_n dX10_put_86 rfl ?_
      refine q_iald 208 (_) hn (is_208 n) rfl (by show _ < 8; omega) dX10_put_87 ?_
      refine q_iconst (1) dX10_put_88 (by decide) ?_
      have hen : upI (upI (upI (upI I 211 (24 * i + N (I 209 i)) k) 212 (24 * i + N (I 209 i)) x) 213 (24 * i + N (I 209 i)) m) 209 i (upI (upI (upI I 211 (24 * i + N (I 209 i)) k) 212 (24 * i + N (I 209 i)) x) 213 (24 * i + N (I 209 i)) m 209 i + 1) = Fenq0 I i k x m := by
        simp [Fenq0, rdI]
      rw [hen]
      have h208 : Fenq0 I i k x m 208 i = I 208 i := by simp [Fenq0, rdI]
      rw [h208]
      refine q_icmp_ne 98 dX10_put_89 (by decide) (fun h89 => ?_) (fun h89 => ?_)
      · refine q_iconst (1) dX10_put_98 (by decide) ?_
        refine q_zret dX10_put_99 rfl (by omega) (by decide) ⟨?_, ?_, rfl⟩
        · rw [bI_t hr]
        · rw [Fput, if_neg hr, Fenq, if_neg h89]
      · refine q_aload_n dX10_put_92 rfl ?_
        refine q_iload_n dX10_put_93 rfl ?_
        refine q_iconst (2) dX10_put_94 (by decide) ?_
        have htr : tr (Fenq0 I i k x m) = tr I := by simp [tr, Fenq0, rdI]
        refine q_callv [.int _, .int _] o_X10_become rfl k_X10_192 rfl (is_30 n) (by decide) rfl dX10_put_95 (Nat.le_of_ble_eq_true rfl) (by omega) (by decide) (by omega) rfl (r_become l n (d - 1) (Fenq0 I i k x m) L i 2 hn hi (by rw [htr, ← hc]; simp [Fenq0, rdI]) (by rw [htr]; exact hcb) (by omega)) (fun _ _ _ h => h.elim) (fun I1 L1 hq => ?_)
        obtain ⟨-, e2, e3⟩ := hq
        refine q_iconst (1) dX10_put_98 (by decide) ?_
        refine q_zret dX10_put_99 rfl (by omega) (by decide) ⟨?_, ?_, e3⟩
        · rw [bI_t hr]
        · rw [Fput, if_neg hr, Fenq, if_pos h89, e2]
    · exact hrej (Or.inr h18)
set_option maxHeartbeats 4000000 in
set_option maxRecDepth 100000 in
theorem r_waiting_lp {Q : vq_R} (i z : Nat) (hn : n < 2 ^ 31) (hz : I 30 23 = nI z) (hzb : z ≤ 400) : ∀ m k, k + m = z → Q (some (.int (nI (Fcnt I i z)))) I L → VP l n m_X10_waiting d 0 Q noX 0 4 [(3, .int (nI k)), (2, .int (nI (Fcnt I i k))), (0, .ref 30), (1, .int (nI i))] [] I L := by
  intro m
  induction m with
  | zero =>
    intro k hk hQ
    refine q_iload_n dX10_waiting_4 rfl ?_
    refine q_aload_n dX10_waiting_5 rfl ?_
    refine q_getI 30 10 23 (is_30 n) (by decide) rfl (by decide) f_X10_196 rfl dX10_waiting_6 ?_
    rw [hz]
    refine q_icmp_ge 36 dX10_waiting_9 (by decide) (fun _ => ?_) (fun q => absurd (nI_le (by omega) (by omega)) q)
    refine q_iload_n dX10_waiting_36 rfl ?_
    rw [show k = z by omega]
    exact q_iret dX10_waiting_37 rfl (by omega) hQ
  | succ m ih =>
    intro k hk hQ
    refine q_iload_n dX10_waiting_4 rfl ?_
    refine q_aload_n dX10_waiting_5 rfl ?_
    refine q_getI 30 10 23 (is_30 n) (by decide) rfl (by decide) f_X10_196 rfl dX10_waiting_6 ?_
    rw [hz]
    refine q_icmp_ge 36 dX10_waiting_9 (by decide) (fun q => absurd q (nI_ge (by omega) (by omega))) (fun _ => ?_)
    refine q_iload_n dX10_waiting_12 rfl ?_
    refine q_aload_n dX10_waiting_13 rfl ?_
    refine q_getR 30 10 26 226 (is_30 n) (by decide) rfl rfl (by decide) f_X10_72 rfl dX10_waiting_14 ?_
    refine q_iload_n dX10_waiting_17 rfl ?_
    refine q_iald 226 (_) hn (is_226 n) rfl (by show _ < 400; omega) dX10_waiting_18 ?_
    refine q_iload_n dX10_waiting_19 rfl ?_
    have hF : nI (Fcnt I i (k + 1)) = nI (Fcnt I i k) + (if I 226 k = nI i then 1 else 0) := by
      simp only [Fcnt]
      split
      · rw [nI_1]
      · rw [Nat.add_zero, Int32.add_zero]
    refine q_icmp_ne 27 dX10_waiting_20 (by decide) (fun h20 => ?_) (fun h20 => ?_)
    · rw [if_neg h20] at hF
      refine q_iconst (0) dX10_waiting_27 (by decide) ?_
      refine q_iadd dX10_waiting_28 ?_
      refine q_istore_n [(2, _), (3, _), (0, _), (1, _)] dX10_waiting_29 (by decide) rfl ?_
      refine q_iinc [(3, _), (2, _), (0, _), (1, _)] (nI (k + 1)) dX10_waiting_30 rfl (nI_1 k) (by decide) rfl ?_
      refine q_goto 4 dX10_waiting_33 (by decide) ?_
      rw [← hF]
      exact ih (k + 1) (by omega) hQ
    · rw [if_pos h20] at hF
      refine q_iconst (1) dX10_waiting_23 (by decide) ?_
      refine q_goto 28 dX10_waiting_24 (by decide) ?_
      refine q_iadd dX10_waiting_28 ?_
      refine q_istore_n [(2, _), (3, _), (0, _), (1, _)] dX10_waiting_29 (by decide) rfl ?_
      refine q_iinc [(3, _), (2, _), (0, _), (1, _)] (nI (k + 1)) dX10_waiting_30 rfl (nI_1 k) (by decide) rfl ?_
      refine q_goto 4 dX10_waiting_33 (by decide) ?_
      rw [← hF]
      exact ih (k + 1) (by omega) hQ
set_option maxHeartbeats 4000000 in
set_option maxRecDepth 100000 in
theorem r_waiting (i : Nat) (hn : n < 2 ^ 31) (hz : nb (I 30 23) 400) : VM l n m_X10_waiting d 0 [.ref 30, .int (nI i)] I L (fun r I' L' => r = some (.int (nI (Fcnt I i (N (I 30 23))))) ∧ I' = I ∧ L' = L) noX := by
  refine VM_of _ [(0, .ref 30), (1, .int (nI i))] rfl (fun a => Nat.le_of_ble_eq_true rfl) rfl ?_
  refine q_iconst (0) dX10_waiting_0 (by decide) ?_
  refine q_istore_n [(2, _), (0, _), (1, _)] dX10_waiting_1 (by decide) rfl ?_
  refine q_iconst (0) dX10_waiting_2 (by decide) ?_
  refine q_istore_n [(3, _), (2, _), (0, _), (1, _)] dX10_waiting_3 (by decide) rfl ?_
  exact r_waiting_lp l n d I L i (N (I 30 23)) hn hz.1 hz.2 (N (I 30 23)) 0 (by omega) ⟨rfl, rfl, rfl⟩
set_option maxHeartbeats 4000000 in
set_option maxRecDepth 100000 in
theorem r_frames_lp {Q : vq_R} (w : Int32) (z : Nat) (hn : n < 2 ^ 31) (hz : I 30 45 = nI z) (hzb : z ≤ 80) : ∀ m k, k + m = z → Q (some (.int (nI (Rcnt I w z)))) I L → VP l n m_X10_frames d 0 Q noX 0 4 [(3, .int (nI k)), (2, .int (nI (Rcnt I w k))), (0, .ref 30), (1, .int w)] [] I L := by
  intro m
  induction m with
  | zero =>
    intro k hk hQ
    refine q_iload_n dX10_frames_4 rfl ?_
    refine q_aload_n dX10_frames_5 rfl ?_
    refine q_getI 30 10 45 (is_30 n) (by decide) rfl (by decide) f_X10_203 rfl dX10_frames_6 ?_
    rw [hz]
    refine q_icmp_ge 36 dX10_frames_9 (by decide) (fun _ => ?_) (fun q => absurd (nI_le (by omega) (by omega)) q)
    refine q_iload_n dX10_frames_36 rfl ?_
    rw [show k = z by omega]
    exact q_iret dX10_frames_37 rfl (by omega) hQ
  | succ m ih =>
    intro k hk hQ
    refine q_iload_n dX10_frames_4 rfl ?_
    refine q_aload_n dX10_frames_5 rfl ?_
    refine q_getI 30 10 45 (is_30 n) (by decide) rfl (by decide) f_X10_203 rfl dX10_frames_6 ?_
    rw [hz]
    refine q_icmp_ge 36 dX10_frames_9 (by decide) (fun q => absurd q (nI_ge (by omega) (by omega))) (fun _ => ?_)
    refine q_iload_n dX10_frames_12 rfl ?_
    refine q_aload_n dX10_frames_13 rfl ?_
    refine q_getR 30 10 46 246 (is_30 n) (by decide) rfl rfl (by decide) f_X10_117 rfl dX10_frames_14 ?_
    refine q_iload_n dX10_frames_17 rfl ?_
    refine q_iald 246 (_) hn (is_246 n) rfl (by show _ < 80; omega) dX10_frames_18 ?_
    refine q_iload_n dX10_frames_19 rfl ?_
    have hF : nI (Rcnt I w (k + 1)) = nI (Rcnt I w k) + (if I 246 k = w then 1 else 0) := by
      simp only [Rcnt]
      split
      · rw [nI_1]
      · rw [Nat.add_zero, Int32.add_zero]
    refine q_icmp_ne 27 dX10_frames_20 (by decide) (fun h20 => ?_) (fun h20 => ?_)
    · rw [if_neg h20] at hF
      refine q_iconst (0) dX10_frames_27 (by decide) ?_
      refine q_iadd dX10_frames_28 ?_
      refine q_istore_n [(2, _), (3, _), (0, _), (1, _)] dX10_frames_29 (by decide) rfl ?_
      refine q_iinc [(3, _), (2, _), (0, _), (1, _)] (nI (k + 1)) dX10_frames_30 rfl (nI_1 k) (by decide) rfl ?_
      refine q_goto 4 dX10_frames_33 (by decide) ?_
      rw [← hF]
      exact ih (k + 1) (by omega) hQ
    · rw [if_pos h20] at hF
      refine q_iconst (1) dX10_frames_23 (by decide) ?_
      refine q_goto 28 dX10_frames_24 (by decide) ?_
      refine q_iadd dX10_frames_28 ?_
      refine q_istore_n [(2, _), (3, _), (0, _), (1, _)] dX10_frames_29 (by decide) rfl ?_
      refine q_iinc [(3, _), (2, _), (0, _), (1, _)] (nI (k + 1)) dX10_frames_30 rfl (nI_1 k) (by decide) rfl ?_
      refine q_goto 4 dX10_frames_33 (by decide) ?_
      rw [← hF]
      exact ih (k + 1) (by omega) hQ
set_option maxHeartbeats 4000000 in
set_option maxRecDepth 100000 in
theorem r_frames (w : Int32) (z : Nat) (hn : n < 2 ^ 31) (hz : I 30 45 = nI z) (hzb : z ≤ 80) : VM l n m_X10_frames d 0 [.ref 30, .int w] I L (fun r I' L' => r = some (.int (nI (Rcnt I w z))) ∧ I' = I ∧ L' = L) noX := by
  refine VM_of _ [(0, .ref 30), (1, .int w)] rfl (fun a => Nat.le_of_ble_eq_true rfl) rfl ?_
  refine q_iconst (0) dX10_frames_0 (by decide) ?_
  refine q_istore_n [(2, _), (0, _), (1, _)] dX10_frames_1 (by decide) rfl ?_
  refine q_iconst (0) dX10_frames_2 (by decide) ?_
  refine q_istore_n [(3, _), (2, _), (0, _), (1, _)] dX10_frames_3 (by decide) rfl ?_
  exact r_frames_lp l n d I L w z hn hz hzb z 0 (by omega) ⟨rfl, rfl, rfl⟩
set_option maxHeartbeats 4000000 in
set_option maxRecDepth 100000 in
theorem r_schedule (i : Nat) (t : Int32) (dl : Int64) (hn : n < 2 ^ 31) (hi : i < 8) (hz : nb (I 30 23) 400) (hc : I 30 41 = nI (tr I)) (hcb : tr I + 1 < 2 ^ 31) (hd : 2 ≤ d) : VM l n m_X10_schedule d 0 [.ref 30, .int t, .long dl, .int (nI i)] I L (fun r I' L' => r = some (.int (bI (¬ rejT I i))) ∧ I' = Fsch I (I 30 51) i t ∧ L' = TSch I L i dl) noX := by
  refine VM_of _ [(0, .ref 30), (1, .int t), (2, .long dl), (4, .int (nI i))] rfl (fun a => Nat.le_of_ble_eq_true rfl) rfl ?_
  have hrej : rejT I i → VP l n m_X10_schedule d 0 (fun r I' L' => r = some (.int (bI (¬ rejT I i))) ∧ I' = Fsch I (I 30 51) i t ∧ L' = TSch I L i dl) noX 0 32 [(0, .ref 30), (1, .int t), (2, .long dl), (4, .int (nI i))] [] I L := by
    intro hr
    refine q_aload_n dX10_schedule_32 rfl ?_
    refine q_aload_n dX10_schedule_33 rfl ?_
    refine q_getI 30 10 51 (is_30 n) (by decide) rfl (by decide) f_X10_189 rfl dX10_schedule_34 ?_
    refine q_iconst (4) dX10_schedule_37 (by decide) ?_
    refine q_iload_n dX10_schedule_38 rfl ?_
    refine q_callv [.int _, .int _, .int _] o_X10_log rfl k_X10_155 rfl (is_30 n) (by decide) rfl dX10_schedule_39 (Nat.le_of_ble_eq_true rfl) (by omega) (by decide) (by omega) rfl (r_log l n hn (d - 1) I L (tr I) (I 30 51) 4 t hc (by omega)) (fun _ _ _ h => h.elim) (fun I1 L1 hq => ?_)
    obtain ⟨-, e2, e3⟩ := hq
    refine q_iconst (0) dX10_schedule_42 (by decide) ?_
    refine q_zret dX10_schedule_43 rfl (by omega) (by decide) ⟨?_, ?_, ?_⟩
    · rw [bI_f (fun q => q hr)]
    · rw [Fsch, if_pos hr, e2]
      rfl
    · rw [TSch, if_pos hr, e3]
  refine q_aload_n dX10_schedule_0 rfl ?_
  refine q_getR 30 10 8 208 (is_30 n) (by decide) rfl rfl (by decide) f_X10_22 rfl dX10_schedule_1 ?_
  refine q_iload dX10_schedule_4 rfl ?_
  refine q_iald 208 (_) hn (is_208 n) rfl (by show _ < 8; omega) dX10_schedule_6 ?_
  refine q_iconst (2) dX10_schedule_7 (by decide) ?_
  refine q_icmp_gt 32 dX10_schedule_8 (by decide) (fun h8 => ?_) (fun h8 => ?_)
  · exact hrej (Or.inl h8)
  · refine q_aload_n dX10_schedule_11 rfl ?_
    refine q_getI 30 10 23 (is_30 n) (by decide) rfl (by decide) f_X10_196 rfl dX10_schedule_12 ?_
    refine q_sipush (400) dX10_schedule_15 (by decide) ?_
    refine q_icmp_eq 32 dX10_schedule_18 (by decide) (fun h18 => ?_) (fun h18 => ?_)
    · exact hrej (Or.inr (Or.inl h18))
    · refine q_aload_n dX10_schedule_21 rfl ?_
      refine q_iload dX10_schedule_22 rfl ?_
      refine q_calli [.int _] o_X10_waiting rfl k_X10_199 rfl (is_30 n) (by decide) rfl dX10_schedule_24 (Nat.le_of_ble_eq_true rfl) (by omega) (by decide) (by omega) (Or.inl rfl) (r_waiting l n (d - 1) I L i hn hz) (fun _ _ _ h => h.elim) (fun r1 I1 L1 hq => ?_)
      obtain ⟨e1, e2, e3⟩ := hq
      cases e1
      cases e2.symm
      cases e3.symm
      refine q_bipush (24) dX10_schedule_27 (by decide) ?_
      have h400 := hz.2
      have hcl := Fcnt_le I i (N (I 30 23))
      refine q_icmp_ne 44 dX10_schedule_29 (by decide) (fun h29 => ?_) (fun h29 => hrej (Or.inr (Or.inr ((nI_eq (by omega) (by omega)).mp h29))))
      have hr : ¬ rejT I i := fun q => q.elim h8 (fun q => q.elim h18 (fun q => h29 (by rw [q]; rfl)))
      have hm : N (I 30 23) < 400 := by
        rcases Nat.lt_or_ge (N (I 30 23)) 400 with q | q
        · exact q
        · exact absurd (by rw [hz.1, show N (I 30 23) = 400 by omega]; rfl) h18
      refine q_aload_n dX10_schedule_44 rfl ?_
      refine q_getR 30 10 24 224 (is_30 n) (by decide) rfl rfl (by decide) f_X10_66 rfl dX10_schedule_45 ?_
      refine q_aload_n dX10_schedule_48 rfl ?_
      refine q_getI 30 10 23 (is_30 n) (by decide) rfl (by decide) f_X10_196 rfl dX10_schedule_49 ?_
      refine q_iload_n dX10_schedule_52 rfl ?_
      refine q_iast 224 (_) hn (is_224 n) hz.1 (by show _ < 400; omega) dX10_schedule_53 ?_
      refine q_aload_n dX10_schedule_54 rfl ?_
      refine q_getR 30 10 25 225 (is_30 n) (by decide) rfl rfl (by decide) f_X10_69 rfl dX10_schedule_55 ?_
      refine q_aload_n dX10_schedule_58 rfl ?_
      refine q_getI 30 10 23 (is_30 n) (by decide) rfl (by decide) f_X10_196 rfl dX10_schedule_59 ?_
      refine q_aload_n dX10_schedule_62 rfl ?_
      refine q_getL 30 10 2 (is_30 n) (by decide) rfl (by decide) f_X10_182 rfl dX10_schedule_63 ?_
      refine q_lload_n dX10_schedule_66 rfl ?_
      refine q_ladd dX10_schedule_67 ?_
      refine q_last 225 (_) hn (is_225 n) (by simpa [rdI] using hz.1) (by show _ < 400; omega) dX10_schedule_68 ?_
      refine q_aload_n dX10_schedule_69 rfl ?_
      refine q_getR 30 10 26 226 (is_30 n) (by decide) rfl rfl (by decide) f_X10_72 rfl dX10_schedule_70 ?_
      refine q_aload_n dX10_schedule_73 rfl ?_
      refine q_getI 30 10 23 (is_30 n) (by decide) rfl (by decide) f_X10_196 rfl dX10_schedule_74 ?_
      refine q_iload dX10_schedule_77 rfl ?_
      refine q_iast 226 (_) hn (is_226 n) (by simpa [rdI] using hz.1) (by show _ < 400; omega) dX10_schedule_79 ?_
      refine q_aload_n dX10_schedule_80 rfl ?_
      refine q_dup dX10_schedule_81 rfl ?_
      refine q_getI 30 10 23 (is_30 n) (by decide) rfl (by decide) f_X10_196 rfl dX10_schedule_82 ?_
      refine q_iconst (1) dX10_schedule_85 (by decide) ?_
      refine q_iadd dX10_schedule_86 ?_
      refine q_putI 30 10 23 (is_30 n) (by decide) rfl (by decide) rfl rfl f_X10_196 rfl dX10_schedule_87 ?_
      refine q_aload_n dX10_schedule_90 rfl ?_
      refine q_getR 30 10 8 208 (is_30 n) (by decide) rfl rfl (by decide) f_X10_22 rfl dX10_schedule_91 ?_
      refine q_iload dX10_schedule_94 rfl ?_
      refine q_iald 208 (_) hn (is_208 n) rfl (by show _ < 8; omega) dX10_schedule_96 ?_
      refine q_iconst (1) dX10_schedule_97 (by decide) ?_
      have hF : upI (upI (upI I 224 (N (I 30 23)) t) 226 (N (I 30 23)) (nI i)) 30 23 (upI (upI I 224 (N (I 30 23)) t) 226 (N (I 30 23)) (nI i) 30 23 + 1) = Fsch0 I i t := by simp [Fsch0, rdI]
      rw [hF]
      have h208 : Fsch0 I i t 208 i = I 208 i := by simp [Fsch0, rdI]
      rw [h208]
      have hL : upL L 225 (N (I 30 23)) (L 30 2 + dl) = TSch I L i dl := by rw [TSch, if_neg hr]
      rw [hL]
      have htr0 : tr (Fsch0 I i t) = tr I := by simp [tr, Fsch0, rdI]
      have hc0 : Fsch0 I i t 30 41 = nI (tr I) := by rw [← hc]; simp [Fsch0, rdI]
      have key : ∀ I2, I2 = (if I 208 i = 1 then Fbec (Fsch0 I i t) i 2 else Fsch0 I i t) → VP l n m_X10_schedule d 0 (fun r I' L' => r = some (.int (bI (¬ rejT I i))) ∧ I' = Fsch I (I 30 51) i t ∧ L' = TSch I L i dl) noX 0 108 [(0, .ref 30), (1, .int t), (2, .long dl), (4, .int (nI i))] [] I2 (TSch I L i dl) := by
        intro I2 hI2
        have e51 : I2 30 51 = I 30 51 := by rw [hI2]; split <;> simp [Fbec, Flog, Rlog, Fsch0, rdI]
        have e23 : I2 30 23 = I 30 23 + 1 := by rw [hI2]; split <;> simp [Fbec, Flog, Rlog, Fsch0, rdI]
        have e41 : I2 30 41 = nI (tr I2) ∧ tr I2 < 2 ^ 31 := by
          rw [hI2]
          split
          · have : (Fbec (Fsch0 I i t) i 2) 30 41 = nI (tr I + 1) := by
              simp only [Fbec, Flog, Rlog, rdI]
              simp [show N (Fsch0 I i t 30 41) = tr I from htr0]
            unfold tr
            rw [this, N_nI hcb]
            exact ⟨rfl, hcb⟩
          · rw [htr0]
            exact ⟨hc0, by omega⟩
        refine q_aload_n dX10_schedule_108 rfl ?_
        refine q_aload_n dX10_schedule_109 rfl ?_
        refine q_getI 30 10 51 (is_30 n) (by decide) rfl (by decide) f_X10_189 rfl dX10_schedule_110 ?_
        refine q_bipush (9) dX10_schedule_113 (by decide) ?_
        refine q_aload_n dX10_schedule_115 rfl ?_
        refine q_getI 30 10 23 (is_30 n) (by decide) rfl (by decide) f_X10_196 rfl dX10_schedule_116 ?_
        refine q_iconst (1) dX10_schedule_119 (by decide) ?_
        refine q_isub dX10_schedule_120 ?_
        rw [e23, i32_pm]
        refine q_callv [.int _, .int _, .int _] o_X10_log rfl k_X10_155 rfl (is_30 n) (by decide) rfl dX10_schedule_121 (Nat.le_of_ble_eq_true rfl) (by omega) (by decide) (by omega) rfl (r_log l n hn (d - 1) I2 (TSch I L i dl) (tr I2) (I2 30 51) 9 (I 30 23) e41.1 e41.2) (fun _ _ _ h => h.elim) (fun I3 L3 hq => ?_)
        obtain ⟨-, e2, e3⟩ := hq
        refine q_iconst (1) dX10_schedule_124 (by decide) ?_
        refine q_zret dX10_schedule_125 rfl (by omega) (by decide) ⟨?_, ?_, e3⟩
        · rw [bI_t hr]
        · rw [Fsch, if_neg hr, e2, e51, ← hI2]
          rfl
      refine q_icmp_ne 108 dX10_schedule_98 (by decide) (fun h98 => ?_) (fun h98 => ?_)
      · exact key _ (by rw [if_neg h98])
      · refine q_aload_n dX10_schedule_101 rfl ?_
        refine q_iload dX10_schedule_102 rfl ?_
        refine q_iconst (2) dX10_schedule_104 (by decide) ?_
        refine q_callv [.int _, .int _] o_X10_become rfl k_X10_192 rfl (is_30 n) (by decide) rfl dX10_schedule_105 (Nat.le_of_ble_eq_true rfl) (by omega) (by decide) (by omega) rfl (r_become l n (d - 1) (Fsch0 I i t) (TSch I L i dl) i 2 hn hi (by rw [htr0]; exact hc0) (by rw [htr0]; omega) (by omega)) (fun _ _ _ h => h.elim) (fun I1 L1 hq => ?_)
        obtain ⟨-, e2, e3⟩ := hq
        cases e3.symm
        exact key _ (by rw [if_pos h98, e2])
set_option maxHeartbeats 4000000 in
set_option maxRecDepth 100000 in
theorem r_push (D : Nat) (w o m : Int32) (hn : n < 2 ^ 31) (hD : I 30 45 = nI D) (hDb : D < 80) : VM l n m_X10_push d 0 [.ref 30, .int w, .int o, .int m] I L (fun r I' L' => r = none ∧ I' = Rpush I D w o m ∧ L' = L) noX := by
  refine VM_of _ [(0, .ref 30), (1, .int w), (2, .int o), (3, .int m)] rfl (fun a => Nat.le_of_ble_eq_true rfl) rfl ?_
  refine q_aload_n dX10_push_0 rfl ?_
  refine q_getR 30 10 46 246 (is_30 n) (by decide) rfl rfl (by decide) f_X10_117 rfl dX10_push_1 ?_
  refine q_aload_n dX10_push_4 rfl ?_
  refine q_getI 30 10 45 (is_30 n) (by decide) rfl (by decide) f_X10_203 rfl dX10_push_5 ?_
  refine q_iload_n dX10_push_8 rfl ?_
  refine q_iast 246 (_) hn (is_246 n) hD (by show _ < 80; omega) dX10_push_9 ?_
  refine q_aload_n dX10_push_10 rfl ?_
  refine q_getR 30 10 47 247 (is_30 n) (by decide) rfl rfl (by decide) f_X10_120 rfl dX10_push_11 ?_
  refine q_aload_n dX10_push_14 rfl ?_
  refine q_getI 30 10 45 (is_30 n) (by decide) rfl (by decide) f_X10_203 rfl dX10_push_15 ?_
  refine q_iload_n dX10_push_18 rfl ?_
  refine q_iast 247 (_) hn (is_247 n) (by simpa [rdI] using hD) (by show _ < 80; omega) dX10_push_19 ?_
  refine q_aload_n dX10_push_20 rfl ?_
  refine q_getR 30 10 48 248 (is_30 n) (by decide) rfl rfl (by decide) f_X10_123 rfl dX10_push_21 ?_
  refine q_aload_n dX10_push_24 rfl ?_
  refine q_getI 30 10 45 (is_30 n) (by decide) rfl (by decide) f_X10_203 rfl dX10_push_25 ?_
  refine q_iconst (0) dX10_push_28 (by decide) ?_
  refine q_iast 248 (_) hn (is_248 n) (by simpa [rdI] using hD) (by show _ < 80; omega) dX10_push_29 ?_
  refine q_aload_n dX10_push_30 rfl ?_
  refine q_getR 30 10 49 249 (is_30 n) (by decide) rfl rfl (by decide) f_X10_126 rfl dX10_push_31 ?_
  refine q_aload_n dX10_push_34 rfl ?_
  refine q_getI 30 10 45 (is_30 n) (by decide) rfl (by decide) f_X10_203 rfl dX10_push_35 ?_
  refine q_iload_n dX10_push_38 rfl ?_
  refine q_iast 249 (_) hn (is_249 n) (by simpa [rdI] using hD) (by show _ < 80; omega) dX10_push_39 ?_
  refine q_aload_n dX10_push_40 rfl ?_
  refine q_getR 30 10 50 250 (is_30 n) (by decide) rfl rfl (by decide) f_X10_129 rfl dX10_push_41 ?_
  refine q_aload_n dX10_push_44 rfl ?_
  refine q_getI 30 10 45 (is_30 n) (by decide) rfl (by decide) f_X10_203 rfl dX10_push_45 ?_
  refine q_iconst (0) dX10_push_48 (by decide) ?_
  refine q_zast 250 (_) hn (is_250 n) (by simpa [rdI] using hD) (by show _ < 80; omega) (by decide) dX10_push_49 ?_
  refine q_aload_n dX10_push_50 rfl ?_
  refine q_dup dX10_push_51 rfl ?_
  refine q_getI 30 10 45 (is_30 n) (by decide) rfl (by decide) f_X10_203 rfl dX10_push_52 ?_
  refine q_iconst (1) dX10_push_55 (by decide) ?_
  refine q_iadd dX10_push_56 ?_
  refine q_putI 30 10 45 (is_30 n) (by decide) rfl (by decide) rfl rfl f_X10_203 rfl dX10_push_57 ?_
  refine q_vret dX10_push_60 rfl (by omega) ⟨rfl, ?_, rfl⟩
  unfold Rpush
  congr 1
  simp [rdI, hD, nI_1]
set_option maxHeartbeats 4000000 in
set_option maxRecDepth 100000 in
theorem r_choose (hn8 : 1 ≤ n ∧ n ≤ 8) (h1 : I 30 1 = nI n) : VM l n m_X10_choose d 0 [.ref 30] I L (fun r I' L' => r = some (.int (Fch n (I 30 22))) ∧ I' = FchS I ∧ L' = L) noX := by
  refine VM_of _ [(0, .ref 30)] rfl (fun a => Nat.le_of_ble_eq_true rfl) rfl ?_
  have e1 : upI I 30 22 (I 30 22 + 1) 30 1 = nI n := by simpa [rdI] using h1
  refine q_aload_n dX10_choose_0 rfl ?_
  refine q_getI 30 10 22 (is_30 n) (by decide) rfl (by decide) f_X10_186 rfl dX10_choose_1 ?_
  refine q_istore_n [(1, _), (0, _)] dX10_choose_4 (by decide) rfl ?_
  refine q_aload_n dX10_choose_5 rfl ?_
  refine q_dup dX10_choose_6 rfl ?_
  refine q_getI 30 10 22 (is_30 n) (by decide) rfl (by decide) f_X10_186 rfl dX10_choose_7 ?_
  refine q_iconst (1) dX10_choose_10 (by decide) ?_
  refine q_iadd dX10_choose_11 ?_
  refine q_putI 30 10 22 (is_30 n) (by decide) rfl (by decide) rfl rfl f_X10_186 rfl dX10_choose_12 ?_
  refine q_aload_n dX10_choose_15 rfl ?_
  refine q_getI 30 10 1 (is_30 n) (by decide) rfl (by decide) f_X10_132 rfl dX10_choose_16 ?_
  refine q_aload_n dX10_choose_19 rfl ?_
  refine q_getI 30 10 1 (is_30 n) (by decide) rfl (by decide) f_X10_132 rfl dX10_choose_20 ?_
  refine q_iconst (1) dX10_choose_23 (by decide) ?_
  refine q_isub dX10_choose_24 ?_
  refine q_iand dX10_choose_25 ?_
  rw [e1]
  refine q_if_ne 38 dX10_choose_26 (by decide) (fun h26 => ?_) (fun h26 => ?_)
  · refine q_iload_n dX10_choose_38 rfl ?_
    refine q_aload_n dX10_choose_39 rfl ?_
    refine q_getI 30 10 1 (is_30 n) (by decide) rfl (by decide) f_X10_132 rfl dX10_choose_40 ?_
    rw [e1]
    refine q_irem dX10_choose_43 (nI_ne0 (by omega) (by omega)) ?_
    refine q_istore_n [(2, _), (1, _), (0, _)] dX10_choose_44 (by decide) rfl ?_
    refine q_iload_n dX10_choose_45 rfl ?_
    refine q_if_ge 54 dX10_choose_46 (by decide) (fun h46 => ?_) (fun h46 => ?_)
    · refine q_iload_n dX10_choose_54 rfl ?_
      exact q_iret dX10_choose_55 rfl (by omega) ⟨by rw [Fch, if_neg h26, if_neg (Int32.not_lt.mpr h46)], rfl, rfl⟩
    · refine q_iload_n dX10_choose_49 rfl ?_
      refine q_ineg dX10_choose_50 ?_
      refine q_goto 55 dX10_choose_51 (by decide) ?_
      exact q_iret dX10_choose_55 rfl (by omega) ⟨by rw [Fch, if_neg h26, if_pos (Int32.not_le.mp h46)], rfl, rfl⟩
  · refine q_iload_n dX10_choose_29 rfl ?_
    refine q_aload_n dX10_choose_30 rfl ?_
    refine q_getI 30 10 1 (is_30 n) (by decide) rfl (by decide) f_X10_132 rfl dX10_choose_31 ?_
    refine q_iconst (1) dX10_choose_34 (by decide) ?_
    refine q_isub dX10_choose_35 ?_
    rw [e1]
    refine q_iand dX10_choose_36 ?_
    exact q_iret dX10_choose_37 rfl (by omega) ⟨by rw [Fch, if_pos h26], rfl, rfl⟩
end

