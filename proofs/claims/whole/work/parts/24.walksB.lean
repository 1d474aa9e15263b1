theorem Fsch_comm {S : MI} {i : Nat} {t : Int32} : Fsch0 (Fbec S i 2) i t = Fbec (Fsch0 S i t) i 2 := by
  have e1 : N (upI S 208 i 2 30 41) = tr S := by simp [rdI, tr]
  have e2 : N (upI (Fsch0 S i t) 208 i 2 30 41) = tr S := by simp [Fsch0, rdI, tr]
  have e4 : Fbec S i 2 30 23 = S 30 23 := by simp [Fbec, Flog, Rlog, rdI]
  have l1 : Fbec S i 2 = upI (upI (upI (upI (upI S 208 i 2) 242 (tr S % 300) (nI i)) 243 (tr S % 300) 7) 244 (tr S % 300) 2) 30 41 (nI (tr S + 1)) := by
    unfold Fbec Flog Rlog
    rw [e1]
  have l2 : Fbec (Fsch0 S i t) i 2 = upI (upI (upI (upI (upI (Fsch0 S i t) 208 i 2) 242 (tr S % 300) (nI i)) 243 (tr S % 300) 7) 244 (tr S % 300) 2) 30 41 (nI (tr S + 1)) := by
    unfold Fbec Flog Rlog
    rw [e2]
  rw [l2]
  have l3 : Fsch0 (Fbec S i 2) i t = upI (upI (upI (Fbec S i 2) 224 (N (S 30 23)) t) 226 (N (S 30 23)) (nI i)) 30 23 (S 30 23 + 1) := by
    unfold Fsch0
    rw [e4]
  rw [l3, l1]
  unfold Fsch0
  funext a b
  simp only [rdI]
  by_cases ha : a = 30
  · subst ha
    by_cases hb : b = 23
    · subst hb; simp
    · simp [hb]
  · by_cases ha2 : a = 224
    · subst ha2; simp
    · by_cases ha3 : a = 226
      · subst ha3; simp
      · simp [ha, ha2, ha3]
theorem m1_lt0 : ¬ (0 : Int32) ≤ -1 := by decide
theorem le_nI (j : Nat) (h : j < 2 ^ 31) : (0 : Int32) ≤ nI j := nI_pos' h
section
variable (l : Launch) (n : Nat) (hn : n < 2 ^ 31) (d : Nat) (I : MI) (L : ML)
set_option maxHeartbeats 4000000 in
set_option maxRecDepth 100000 in
theorem c_dropTimer_lp {Q : vq_R} {S J : MI} {T M : ML} {w nf fr : Nat} (x : Int32) (hn : n < 2 ^ 31) (h : CX n S T w nf fr J M I L) (hd : 1 ≤ d)
    (hQ1 : ∀ i q z, i < n → Fcnt S i (N (S 30 23)) = z + 1 → q < z + 1 → I (lid i 6) q = x → Q (some (.int 1)) (Cmrem I i z q) (upL L (lid i 8) q (L (lid i 8) z)))
    (hQ0 : (∀ i, i < n → ∀ q, q < Fcnt S i (N (S 30 23)) → I (lid i 6) q ≠ x) → Q (some (.int 0)) I L) :
    ∀ m k, k + m = n → (∀ i, i < k → ∀ q, q < Fcnt S i (N (S 30 23)) → I (lid i 6) q ≠ x) → VP l n m_X5_dropTimer d 0 Q noX 0 2 [(2, .int (nI k)), (0, .ref 2), (1, .int x)] [] I L := by
  intro m
  induction m with
  | zero =>
    intro k hk hno
    refine q_iload_n dX5_dropTimer_2 rfl ?_
    refine q_aload_n dX5_dropTimer_3 rfl ?_
    refine q_getR 2 5 1 321 (is_2 n) (by decide) rfl rfl (by decide) f_X5_20 rfl dX5_dropTimer_4 ?_
    refine q_alenI 321 (is_321 n) dX5_dropTimer_7 ?_
    refine q_icmp_ge 51 dX5_dropTimer_8 (by decide) (fun h8 => ?_) (fun h8 => ?_)
    · refine q_iconst (0) dX5_dropTimer_51 (by decide) ?_
      refine q_zret dX5_dropTimer_52 rfl (by omega) (by decide) (hQ0 (fun i hi => hno i (by omega)))
    · exact absurd (by rw [gl_321]; exact nI_le (by omega) (by omega)) h8
  | succ m ih =>
    intro k hk hno
    have hkn : k < n := by omega
    have hm := (h.1.2.2.2.2.2 k hkn).2.1
    obtain ⟨m1, m2, m3, m4, m5⟩ := hm
    refine q_iload_n dX5_dropTimer_2 rfl ?_
    refine q_aload_n dX5_dropTimer_3 rfl ?_
    refine q_getR 2 5 1 321 (is_2 n) (by decide) rfl rfl (by decide) f_X5_20 rfl dX5_dropTimer_4 ?_
    refine q_alenI 321 (is_321 n) dX5_dropTimer_7 ?_
    refine q_icmp_ge 51 dX5_dropTimer_8 (by decide) (fun h8 => ?_) (fun h8 => ?_)
    · exact absurd h8 (by rw [gl_321]; exact nI_ge (by omega) (by omega))
    · refine q_aload_n dX5_dropTimer_11 rfl ?_
      refine q_getR 2 5 1 321 (is_2 n) (by decide) rfl rfl (by decide) f_X5_20 rfl dX5_dropTimer_12 ?_
      refine q_iload_n dX5_dropTimer_15 rfl ?_
      refine q_aald 321 (k) (lid (k) 0) hn (is_321 n) rfl hkn rfl dX5_dropTimer_16 ?_
      refine q_getR (lid k 0) 1 1 (lid k 2) (vq_isL hkn 0 (by decide) rfl) (by decide) rfl ((gr_lid k 0 1 (by decide)).trans rfl) (by decide) f_X5_62 rfl dX5_dropTimer_17 ?_
      refine q_iload_n dX5_dropTimer_20 rfl ?_
      refine q_calli [.int _] o_X7_placeOf rfl k_X5_78 rfl (vq_isL hkn 2 (by decide) rfl) (by decide) rfl dX5_dropTimer_21 (by decide) (by omega) (by decide) (by omega) (Or.inl rfl) (c_placeOf l n (d - 1) I L k (Fcnt S k (N (S 30 23))) x hn hkn m1 m2) (fun _ _ _ h => h.elim) (fun r1 I1 L1 hq => ?_)
      obtain ⟨e1, e2, e3⟩ := hq
      cases e1
      cases e2.symm
      cases e3.symm
      refine q_istore_n [(3, _), (2, _), (0, _), (1, _)] dX5_dropTimer_24 (by decide) rfl ?_
      refine q_iload_n dX5_dropTimer_25 rfl ?_
      refine q_iconst (-1) dX5_dropTimer_26 (by decide) ?_
      rcases Cpl_spec (I (lid k 6)) x (Fcnt S k (N (S 30 23))) 0 with ⟨q, a1, a2, a3, a4⟩ | ⟨a1, a2⟩
      · rw [a4]
        refine q_icmp_eq 45 dX5_dropTimer_27 (by decide) (fun h27 => ?_) (fun h27 => ?_)
        · exact absurd h27.symm (nI_ne_m1 (by omega))
        · refine q_aload_n dX5_dropTimer_30 rfl ?_
          refine q_getR 2 5 1 321 (is_2 n) (by decide) rfl rfl (by decide) f_X5_20 rfl dX5_dropTimer_31 ?_
          refine q_iload_n dX5_dropTimer_34 rfl ?_
          refine q_aald 321 (k) (lid (k) 0) hn (is_321 n) rfl hkn rfl dX5_dropTimer_35 ?_
          refine q_getR (lid k 0) 1 1 (lid k 2) (vq_isL hkn 0 (by decide) rfl) (by decide) rfl ((gr_lid k 0 1 (by decide)).trans rfl) (by decide) f_X5_62 rfl dX5_dropTimer_36 ?_
          refine q_iload_n dX5_dropTimer_39 rfl ?_
          obtain ⟨z, hz⟩ : ∃ z, Fcnt S k (N (S 30 23)) = z + 1 := ⟨Fcnt S k (N (S 30 23)) - 1, by omega⟩
          refine q_callv [.int _] o_X7_removeAt rfl k_X5_81 rfl (vq_isL hkn 2 (by decide) rfl) (by decide) rfl dX5_dropTimer_40 (by decide) (by omega) (by decide) (by omega) rfl (c_mrem l n (d - 1) I L k z q hn hkn (by rw [← hz]; exact m1) (by omega) (by omega)) (fun _ _ _ h => h.elim) (fun I2 L2 hq => ?_)
          obtain ⟨-, e2, e3⟩ := hq
          subst e2
          subst e3
          refine q_iconst (1) dX5_dropTimer_43 (by decide) ?_
          exact q_zret dX5_dropTimer_44 rfl (by omega) (by decide) (hQ1 k q z hkn hz (by omega) a3)
      · rw [a1]
        refine q_icmp_eq 45 dX5_dropTimer_27 (by decide) (fun h27 => ?_) (fun h27 => ?_)
        · refine q_iinc [(2, _), (3, _), (0, _), (1, _)] (nI (k + 1)) dX5_dropTimer_45 rfl (nI_1 k) (by decide) rfl ?_
          refine q_goto 2 dX5_dropTimer_48 (by decide) ?_
          refine q_lv [(2, .int (nI (k + 1))), (0, .ref 2), (1, .int x)] (by simp) ?_
          refine ih (k + 1) (by omega) (fun i hi q hq => ?_)
          by_cases e : i = k
          · subst e
            exact a2 q (by omega) (by omega)
          · exact hno i (by omega) q hq
        · exact absurd rfl h27
set_option maxHeartbeats 4000000 in
set_option maxRecDepth 100000 in
theorem c_dropTimer {S J : MI} {T M : ML} {w nf fr : Nat} (x : Int32) (hn : n < 2 ^ 31) (h : CX n S T w nf fr J M I L) (hd : 1 ≤ d) : VM l n m_X5_dropTimer d 0 [.ref 2, .int x] I L (fun r I' L' => r = some (.int (bI (0 ≤ x ∧ x < S 30 23 ∧ 0 ≤ S 226 (N x)))) ∧ CX n (if 0 ≤ x ∧ x < S 30 23 ∧ 0 ≤ S 226 (N x) then upI S 226 (N x) (-1) else S) T w nf fr J M I' L') noX := by
  refine VM_of _ [(0, .ref 2), (1, .int x)] rfl (fun a => Nat.le_of_ble_eq_true rfl) rfl ?_
  have hM := h.2.1.2.2.2.2.2.1
  have hn8 := h.2.1.1
  refine q_iconst (0) dX5_dropTimer_0 (by decide) ?_
  refine q_istore_n [(2, _), (0, _), (1, _)] dX5_dropTimer_1 (by decide) rfl ?_
  refine c_dropTimer_lp l n d I L x hn h hd (fun i q z hi hz hq hx => ?_) (fun hno => ?_) n 0 (by omega) (fun i hi => by omega)
  · obtain ⟨m1, m2, m3, m4, m5⟩ := (h.1.2.2.2.2.2 i hi).2.1
    obtain ⟨u1, u2, u3, u4⟩ := m3 q (by omega)
    rw [hx] at u1 u2
    have c1 : 0 ≤ x ∧ x < S 30 23 ∧ 0 ≤ S 226 (N x) := by
      refine ⟨by rw [u1.1]; exact le_nI _ (by have := u1.2; have := hM.1.2; omega), ?_, by rw [u2]; exact le_nI _ (by omega)⟩
      rw [u1.1, hM.1.1]
      exact nI_lt u1.2 (by have := hM.1.2; omega)
    rw [if_pos c1]
    refine ⟨by rw [bI_t c1], ?_⟩
    exact CX_drop h hi hz hq (hx.trans u1.1) (by have := u1.2; have := hM.1.2; omega)
  · have c0 : ¬ (0 ≤ x ∧ x < S 30 23 ∧ 0 ≤ S 226 (N x)) := by
      rintro ⟨c1, c2, c3⟩
      obtain ⟨j, hj, rfl⟩ := nI_of (Int32.not_lt.mpr c1)
      rw [N_nI hj] at c3
      rw [hM.1.1] at c2
      have hjm := (nI_ltI hj (by have := hM.1.2; omega)).mp c2
      rcases (hM.2 j hjm).2 with e | e
      · rw [e] at c3
        exact m1_lt0 c3
      · obtain ⟨m1, m2, m3, m4, m5⟩ := (h.1.2.2.2.2.2 _ e.2).2.1
        obtain ⟨q, hq, hq2⟩ := m5 j hjm e.1
        exact hno _ e.2 q hq hq2
    rw [if_neg c0]
    exact ⟨by rw [bI_f c0], h⟩
set_option maxHeartbeats 4000000 in
set_option maxRecDepth 100000 in
theorem c_targetOf {S J : MI} {T M : ML} {w nf fr : Nat} (th b : Int32) (h : CX n S T w nf fr J M I L) (hd : 2 ≤ d) : VM l n m_X4_targetOf d 0 [.ref 1, .int th, .int b] I L (fun r I' L' => r = some (.int (if b = -1 then th else if b = -2 then Fch n (S 30 22) else b)) ∧ CX n (FtgtS S b) T w nf fr J M I' L') noX := by
  refine VM_of _ [(0, .ref 1), (1, .int th), (2, .int b)] rfl (fun a => Nat.le_of_ble_eq_true rfl) rfl ?_
  refine q_iload_n dX4_targetOf_0 rfl ?_
  refine q_iconst (-1) dX4_targetOf_1 (by decide) ?_
  refine q_icmp_ne 7 dX4_targetOf_2 (by decide) (fun h2 => ?_) (fun h2 => ?_)
  · rw [if_neg h2]
    refine q_iload_n dX4_targetOf_7 rfl ?_
    refine q_bipush (-2) dX4_targetOf_8 (by decide) ?_
    refine q_icmp_ne 23 dX4_targetOf_10 (by decide) (fun h10 => ?_) (fun h10 => ?_)
    · rw [if_neg h10]
      unfold FtgtS
      rw [if_neg h10]
      refine q_iload_n dX4_targetOf_23 rfl ?_
      exact q_iret dX4_targetOf_24 rfl (by omega) ⟨rfl, h⟩
    · rw [if_pos h10]
      unfold FtgtS
      rw [if_pos h10]
      refine q_aload_n dX4_targetOf_13 rfl ?_
      refine q_getR 1 4 3 2 (is_1 n) (by decide) rfl rfl (by decide) f_X4_37 rfl dX4_targetOf_14 ?_
      refine q_calli [] o_X5_choose rfl k_X4_226 rfl (is_2 n) (by decide) rfl dX4_targetOf_17 (by decide) (by omega) (by decide) (by omega) (Or.inl rfl) (c_choose l n (d - 1) I L h (by omega)) (fun _ _ _ h => h.elim) (fun r1 I1 L1 hq => ?_)
      obtain ⟨e1, hX⟩ := hq
      cases e1
      refine q_goto 24 dX4_targetOf_20 (by decide) ?_
      exact q_iret dX4_targetOf_24 rfl (by omega) ⟨rfl, hX⟩
  · rw [if_pos h2]
    unfold FtgtS
    rw [if_neg (by rw [h2]; decide)]
    refine q_iload_n dX4_targetOf_5 rfl ?_
    exact q_iret dX4_targetOf_6 rfl (by omega) ⟨rfl, h⟩
end

