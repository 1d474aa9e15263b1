section
variable (l : Launch) (n : Nat) (hn : n < 2 ^ 31) (d : Nat) (I : MI) (L : ML)
set_option maxHeartbeats 4000000 in
set_option maxRecDepth 100000 in
theorem c_settle {S J : MI} {T M : ML} {w nf fr g : Nat} {D : Nat → Nat → Nat → PX → PX} {th : Int32} (hcD : nbt th n → cDo l n th g D) (hD : nbt th n → hypD n D) (p : Nat) (s v : Int32) (hs0 : s ≠ 0) (hn : n < 2 ^ 31) (h : CX n S T w nf fr J M I L) (hw : w ≤ 1000) (hp : p < N (S 30 27)) (hg : 13 ≤ nf + 2 * fr + (g + 1)) (hnf : nf ≤ 4) (hfr : fr ≤ 4) (hb : Ph (S, T, w) + 112 < 2 ^ 31) (hd : 10 * g + 12 ≤ d) : VM l n m_X4_settle d 0 [.ref 1, .int th, .int (nI p), .int s, .int v] I L (fun r I' L' => r = some (.int (bI (¬ noFin S p s))) ∧ CX n (Lfin D th nf fr p s v (S, T, w)).1 (Lfin D th nf fr p s v (S, T, w)).2.1 (Lfin D th nf fr p s v (S, T, w)).2.2 nf fr J M I' L') noX := by
  refine VM_of _ [(0, .ref 1), (1, .int th), (2, .int (nI p)), (3, .int s), (4, .int v)] rfl (fun a => Nat.le_of_ble_eq_true rfl) rfl ?_
  have hp32 := h.2.1.2.2.2.1.1.2
  obtain ⟨a1, a2, a3⟩ := h.2.1.2.2.2.1.2 p hp
  have ha := a2.2
  have hS1 : I 351 p = S 229 p := congrFun h.1.2.2.1.2.2.1 p
  have hS2 : I 354 p = S 232 p := congrFun h.1.2.2.1.2.2.2.2.2.1 p
  have hiff : (I 351 p ≠ 0 ∨ (s = 3 ∧ I 353 p ≠ 0)) ↔ noFin S p s := by
    unfold noFin
    rw [hS1]
    by_cases e : S 229 p = 0
    · rw [h.1.2.2.1.2.2.2.2.1 p e]
    · exact ⟨fun _ => Or.inl e, fun _ => Or.inl e⟩
  refine q_aload_n dX4_settle_0 rfl ?_
  refine q_getR 1 4 1 5 (is_1 n) (by decide) rfl rfl (by decide) f_X4_21 rfl dX4_settle_1 ?_
  refine q_iload_n dX4_settle_4 rfl ?_
  refine q_iload_n dX4_settle_5 rfl ?_
  refine q_iload dX4_settle_6 rfl ?_
  refine q_calli [.int _, .int _, .int _] o_X2_close rfl k_X4_230 rfl (is_5 n) (by decide) rfl dX4_settle_8 (Nat.le_of_ble_eq_true rfl) (by omega) (by decide) (by omega) (Or.inr rfl) (c_close l n (d - 1) I L p s v hn (by omega) (by omega)) (fun _ _ _ h => h.elim) (fun r1 I1 L1 hq => ?_)
  obtain ⟨e1, e2, e3⟩ := hq
  cases e1
  cases e3.symm
  refine q_if_ne 16 dX4_settle_11 (by decide) (fun h11 => ?_) (fun h11 => ?_)
  · rw [ne_eq, bI_z, Decidable.not_not] at h11
    rw [if_neg h11] at e2
    have hnf9 : ¬ noFin S p s := fun q => h11 (hiff.mpr q)
    have e9 : Lfin D th nf fr p s v (S, T, w) = Ltells D th nf fr p (N (S 232 p)) (N (S 232 p)) (Ffin S p s v, T, w) := by
      unfold Lfin
      rw [if_neg hnf9]
    rw [e9]
    subst e2
    have hX := CX_fin (p := p) s v h hs0
    have g0 : gc n 0 (S, T, w) (Ffin S p s v, T, w) := gc_0 (Inv_fin s v h.2.1) St_fin (Dn_fin hs0 hp) (by simp [Ffin, rdI]) hw
    have hph := g0.2
    refine q_aload_n dX4_settle_16 rfl ?_
    refine q_getR 1 4 1 5 (is_1 n) (by decide) rfl rfl (by decide) f_X4_21 rfl dX4_settle_17 ?_
    refine q_getR 5 2 4 354 (is_5 n) (by decide) rfl rfl (by decide) f_X4_233 rfl dX4_settle_20 ?_
    refine q_iload_n dX4_settle_23 rfl ?_
    refine q_iald 354 (p) hn (is_354 n) rfl (by show p < 32; omega) dX4_settle_24 ?_
    rw [show upI (upI I 351 p s) 352 p (if s = 3 then 0 else v) 354 p = nI (N (S 232 p)) by simp only [rdI]; simp; rw [hS2]; exact a2.1]
    refine q_istore [(5, _), (0, _), (1, _), (2, _), (3, _), (4, _)] dX4_settle_25 (by decide) rfl ?_
    refine q_aload_n dX4_settle_27 rfl ?_
    refine q_getR 1 4 1 5 (is_1 n) (by decide) rfl rfl (by decide) f_X4_21 rfl dX4_settle_28 ?_
    refine q_getR 5 2 4 354 (is_5 n) (by decide) rfl rfl (by decide) f_X4_233 rfl dX4_settle_31 ?_
    refine q_iload_n dX4_settle_34 rfl ?_
    refine q_iconst (0) dX4_settle_35 (by decide) ?_
    refine q_iast 354 (p) hn (is_354 n) rfl (by show p < 32; omega) dX4_settle_36 ?_
    refine q_iconst (0) dX4_settle_37 (by decide) ?_
    refine q_istore [(6, _), (5, _), (0, _), (1, _), (2, _), (3, _), (4, _)] dX4_settle_38 (by decide) rfl ?_
    have H := c_settle_lp l n d hcD hD p (N (S 232 p)) s v hn hg hnf hfr hd ha (N (S 232 p)) (Ffin S p s v, T, w) _ L hX hw (by simpa [Ffin, rdI] using hp) (Nat.le_refl _) (fun j hj => by simpa [Ffin, rdI] using a3 j hj) (by simpa [Ffin, rdI] using hs0) (by omega) (Q := fun r I' L' => r = some (.int (bI (¬ noFin S p s))) ∧ CX n (Ltells D th nf fr p (N (S 232 p)) (N (S 232 p)) (Ffin S p s v, T, w)).1 (Ltells D th nf fr p (N (S 232 p)) (N (S 232 p)) (Ffin S p s v, T, w)).2.1 (Ltells D th nf fr p (N (S 232 p)) (N (S 232 p)) (Ffin S p s v, T, w)).2.2 nf fr J M I' L') (fun I' L' h9 => ⟨by rw [bI_t hnf9], h9⟩)
    rw [Nat.sub_self] at H
    exact H
  · rw [bI_z, Decidable.not_not] at h11
    rw [if_pos h11] at e2
    cases e2.symm
    have hnf9 : noFin S p s := hiff.mp h11
    have e9 : Lfin D th nf fr p s v (S, T, w) = (S, T, w) := by
      unfold Lfin
      rw [if_pos hnf9]
    rw [e9]
    refine q_iconst (0) dX4_settle_14 (by decide) ?_
    exact q_zret dX4_settle_15 rfl (by omega) (by decide) ⟨by rw [bI_f (fun q => q hnf9)], h⟩
set_option maxHeartbeats 4000000 in
set_option maxRecDepth 100000 in
theorem c_addListener {S J : MI} {T M : ML} {w nf fr g : Nat} {D : Nat → Nat → Nat → PX → PX} {th : Int32} (hcD : nbt th n → cDo l n th g D) (hD : nbt th n → hypD n D) (p t : Nat) (hn : n < 2 ^ 31) (h : CX n S T w nf fr J M I L) (hw : w ≤ 1000) (hp : p < N (S 30 27)) (ht : t < N (S 30 3)) (hq6 : S 229 p ≠ 0 ∨ S 232 p < 6) (hg : 13 ≤ nf + 2 * fr + (g + 1)) (hnf : nf ≤ 4) (hfr : fr ≤ 4) (hb : Ph (S, T, w) + 101 < 2 ^ 31) (hd : 10 * g + 12 ≤ d) : VM l n m_X4_addListener d 0 [.ref 1, .int th, .int (nI p), .int (nI t)] I L (fun r I' L' => r = none ∧ CX n (Llis D th nf fr p t (S, T, w)).1 (Llis D th nf fr p t (S, T, w)).2.1 (Llis D th nf fr p t (S, T, w)).2.2 nf fr J M I' L') noX := by
  refine VM_of _ [(0, .ref 1), (1, .int th), (2, .int (nI p)), (3, .int (nI t))] rfl (fun a => Nat.le_of_ble_eq_true rfl) rfl ?_
  have hp32 := h.2.1.2.2.2.1.1.2
  obtain ⟨a1, a2, a3⟩ := h.2.1.2.2.2.1.2 p hp
  have hS1 : I 351 p = S 229 p := congrFun h.1.2.2.1.2.2.1 p
  have hS2 : I 354 p = S 232 p := congrFun h.1.2.2.1.2.2.2.2.2.1 p
  refine q_aload_n dX4_addListener_0 rfl ?_
  refine q_getR 1 4 1 5 (is_1 n) (by decide) rfl rfl (by decide) f_X4_21 rfl dX4_addListener_1 ?_
  refine q_iload_n dX4_addListener_4 rfl ?_
  refine q_calli [.int _] o_X2_isPending rfl k_X4_97 rfl (is_5 n) (by decide) rfl dX4_addListener_5 (Nat.le_of_ble_eq_true rfl) (by omega) (by decide) (by omega) (Or.inr rfl) (c_isPending l n (d - 1) I L p hn (by omega)) (fun _ _ _ h => h.elim) (fun r1 I1 L1 hq => ?_)
  obtain ⟨e1, e2, e3⟩ := hq
  cases e1
  cases e2.symm
  cases e3.symm
  rw [hS1]
  refine q_if_eq 23 dX4_addListener_8 (by decide) (fun h8 => ?_) (fun h8 => ?_)
  · rw [bI_z] at h8
    have e9 : Llis D th nf fr p t (S, T, w) = Ltell D th nf fr p t (S, T, w) := by
      unfold Llis
      rw [if_pos h8]
    rw [e9]
    refine q_aload_n dX4_addListener_23 rfl ?_
    refine q_iload_n dX4_addListener_24 rfl ?_
    refine q_iload_n dX4_addListener_25 rfl ?_
    refine q_iload_n dX4_addListener_26 rfl ?_
    refine q_callv [.int _, .int _, .int _] o_X4_tell rfl k_X4_239 rfl (is_1 n) (by decide) rfl dX4_addListener_27 (Nat.le_of_ble_eq_true rfl) (by omega) (by decide) (by omega) rfl (c_tell l n (d - 1) I L hcD hD p t hn h hw hp ht hg hnf hfr hb (by omega)) (fun _ _ _ h => h.elim) (fun I2 L2 hq => ?_)
    obtain ⟨-, hX⟩ := hq
    exact q_vret dX4_addListener_30 rfl (by omega) ⟨rfl, hX⟩
  · rw [bI_z, Decidable.not_not] at h8
    have h6 : N (S 232 p) < 6 := by
      have := hq6.resolve_left (fun q => q h8)
      rw [a2.1, show (6 : Int32) = nI 6 from rfl] at this
      exact (nI_ltI (by have := a2.2; omega) (by omega)).mp this
    have e9 : Llis D th nf fr p t (S, T, w) = (Flis S p t, T, w) := by
      unfold Llis
      rw [if_neg (fun q => q h8)]
    rw [e9]
    have hX := CX_lis h hp ht h6
    refine q_aload_n dX4_addListener_11 rfl ?_
    refine q_getR 1 4 1 5 (is_1 n) (by decide) rfl rfl (by decide) f_X4_21 rfl dX4_addListener_12 ?_
    refine q_iload_n dX4_addListener_15 rfl ?_
    refine q_iload_n dX4_addListener_16 rfl ?_
    refine q_callv [.int _, .int _] o_X2_addWaiting rfl k_X4_242 rfl (is_5 n) (by decide) rfl dX4_addListener_17 (Nat.le_of_ble_eq_true rfl) (by omega) (by decide) (by omega) rfl (c_addWaiting l n (d - 1) I L p (N (S 232 p)) (nI t) hn (by omega) (hS2.trans a2.1) h6) (fun _ _ _ h => h.elim) (fun I2 L2 hq => ?_)
    obtain ⟨-, e2, e3⟩ := hq
    subst e2
    cases e3.symm
    refine q_goto 30 dX4_addListener_20 (by decide) ?_
    exact q_vret dX4_addListener_30 rfl (by omega) ⟨rfl, hX⟩
set_option maxHeartbeats 4000000 in
set_option maxRecDepth 100000 in
theorem c_send {S J : MI} {T M : ML} {w nf fr g : Nat} {G : Nat → Nat → Nat → Int32 → PX → PX} {th : Int32} (hcG : nbt th n → cGo l n th g G) (c : Nat) (m : Int32) (hn : n < 2 ^ 31) (h : CX n S T w nf fr J M I L) (hw : w ≤ 1000) (hc : c < N (S 30 34)) (hg : 12 ≤ nf + 2 * fr + g) (hnf : nf ≤ 4) (hfr : fr ≤ 4) (hb : Ph (S, T, w) + 120 < 2 ^ 31) (hd : 10 * g + 11 ≤ d) : VM l n m_X4_send d 0 [.ref 1, .int th, .int (nI c), .int m] I L (fun r I' L' => r = some (.int (if S 235 c = th ∧ fr < 4 then 1 else bI (¬ rej S (N (S 235 c))))) ∧ CX n (Lsend G th nf fr c m (S, T, w)).1 (Lsend G th nf fr c m (S, T, w)).2.1 (Lsend G th nf fr c m (S, T, w)).2.2 nf fr J M I' L') noX := by
  refine VM_of _ [(0, .ref 1), (1, .int th), (2, .int (nI c)), (3, .int m)] rfl (fun a => Nat.le_of_ble_eq_true rfl) rfl ?_
  have hc16 := h.2.1.2.2.2.2.1.1.2
  have hb1 : tr S + 120 < 2 ^ 31 := Ph_tr hb
  have hS0 : I 360 c = S 235 c := congrFun h.1.2.2.2.1.2.2.1 c
  obtain ⟨ex, hex, hexn⟩ : ∃ ex, S 235 c = nI ex ∧ ex < n := ⟨_, ((h.2.1.2.2.2.2.1.2.2 c hc).1).1, ((h.2.1.2.2.2.2.1.2.2 c hc).1).2⟩
  have hN : N (S 235 c) = ex := by rw [hex]; exact N_nI (by omega)
  have hNc : N (nI c) = c := N_nI (by omega)
  have hcnt := h.2.2.1
  have ENQ : ∀ lv, vq_lk lv 0 = some (.ref 1) → vq_lk lv 1 = some (.int th) → vq_lk lv 2 = some (.int (nI c)) → vq_lk lv 3 = some (.int m) → vq_lk lv 4 = some (.int (nI ex)) → ¬ (S 235 c = th ∧ fr < 4) → VP l n m_X4_send d 0 (fun r I' L' => r = some (.int (if S 235 c = th ∧ fr < 4 then 1 else bI (¬ rej S (N (S 235 c))))) ∧ CX n (Lsend G th nf fr c m (S, T, w)).1 (Lsend G th nf fr c m (S, T, w)).2.1 (Lsend G th nf fr c m (S, T, w)).2.2 nf fr J M I' L') noX 0 25 lv [] I L := by
    intro lv l0 l1 l2 l3 l4 hr
    have e9 : Lsend G th nf fr c m (S, T, w) = (Fput S th ex 2 (nI c) m (-1), T, w) := by
      unfold Lsend
      rw [if_neg hr]
      show (Fput S th (N (S 235 c)) 2 (nI c) m (-1), T, w) = _
      rw [hN]
    rw [e9, if_neg hr, hN]
    refine q_aload_n dX4_send_25 l0 ?_
    refine q_getR 1 4 3 2 (is_1 n) (by decide) rfl rfl (by decide) f_X4_37 rfl dX4_send_26 ?_
    refine q_iload_n dX4_send_29 l1 ?_
    refine q_iload dX4_send_30 l4 ?_
    refine q_iconst 2 dX4_send_32 (by decide) ?_
    refine q_iload_n dX4_send_33 l2 ?_
    refine q_iload_n dX4_send_34 l3 ?_
    refine q_calli [.int _, .int _, .int _, .int _, .int _] o_X5_enqueue rfl k_X4_195 rfl (is_2 n) (by decide) rfl dX4_send_35 (Nat.le_of_ble_eq_true rfl) (by omega) (by decide) (by omega) (Or.inr rfl) (c_enqueue l n (d - 1) I L ex th 2 (nI c) m hn h hexn (Or.inl ⟨rfl, ⟨by rw [hNc], by rw [hNc]; exact hc⟩⟩) (by omega) (by omega)) (fun _ _ _ h => h.elim) (fun r I2 L2 hq => ?_)
    obtain ⟨e1, hX⟩ := hq
    cases e1
    rw [if_pos rfl] at hX
    exact q_zret dX4_send_38 rfl (by omega) bI_nar ⟨rfl, hX⟩
  refine q_aload_n dX4_send_0 rfl ?_
  refine q_getR 1 4 2 6 (is_1 n) (by decide) rfl rfl (by decide) f_X4_28 rfl dX4_send_1 ?_
  refine q_getR 6 0 0 360 (is_6 n) (by decide) rfl rfl (by decide) f_X4_245 rfl dX4_send_4 ?_
  refine q_iload_n dX4_send_7 rfl ?_
  refine q_iald 360 (c) hn (is_360 n) rfl (by show c < 16; omega) dX4_send_8 ?_
  rw [hS0.trans hex]
  refine q_istore [(4, _), (0, _), (1, _), (2, _), (3, _)] dX4_send_9 (by decide) rfl ?_
  refine q_iload_n dX4_send_11 rfl ?_
  refine q_iload dX4_send_12 rfl ?_
  refine q_icmp_ne 25 dX4_send_14 (by decide) (fun h14 => ?_) (fun h14 => ?_)
  · exact ENQ _ rfl rfl rfl rfl rfl (fun q => h14 (by rw [← q.1, hex]))
  · refine q_aload_n dX4_send_17 rfl ?_
    refine q_getI 1 4 7 (is_1 n) (by decide) rfl (by decide) f_X4_186 rfl dX4_send_18 ?_
    refine q_iconst (4) dX4_send_21 (by decide) ?_
    rw [hcnt.2.2]
    refine q_icmp_lt 39 dX4_send_22 (by decide) (fun h22 => ?_) (fun h22 => ?_)
    · have h4 : fr < 4 := (nI_ltI (by omega) (by omega)).mp h22
      have hr : S 235 c = th ∧ fr < 4 := ⟨by rw [hex, h14], h4⟩
      have hnb : nbt th n := by rw [h14]; exact ⟨by rw [N_nI (by omega)], by rw [N_nI (by omega)]; exact hexn⟩
      have e9 : Lsend G th nf fr c m (S, T, w) = G nf fr c m (S, T, w) := by
        unfold Lsend
        rw [if_pos hr]
      rw [e9, if_pos hr]
      refine q_aload_n dX4_send_39 rfl ?_
      refine q_iload_n dX4_send_40 rfl ?_
      refine q_iload_n dX4_send_41 rfl ?_
      refine q_iload_n dX4_send_42 rfl ?_
      refine q_callv [.int _, .int _, .int _] o_X4_goThrough rfl k_X4_138 rfl (is_1 n) (by decide) rfl dX4_send_43 (Nat.le_of_ble_eq_true rfl) (by omega) (by decide) (by omega) rfl (hcG hnb (d - 1) nf fr c m (S, T, w) I L J M (by omega) hg hnf h4 h hw hc hb) (fun _ _ _ h => h.elim) (fun I2 L2 hq => ?_)
      obtain ⟨-, hX⟩ := hq
      refine q_iconst (1) dX4_send_46 (by decide) ?_
      exact q_zret dX4_send_47 rfl (by omega) (by decide) ⟨rfl, hX⟩
    · exact ENQ _ rfl rfl rfl rfl rfl (fun q => h22 (by have := (nI_ltI (a := fr) (b := 4) (by omega) (by omega)).mpr q.2; exact this))
end

