theorem i32_odd (x : Int32) : (x - x / 2 * 2 = 0) ↔ ¬ (x &&& 1 = 1) := by
  have h1 := i32_rem x 2 (by decide) (by decide)
  have h2 : x &&& 1 = nI (x.toBitVec.toNat % 2 ^ 1) := pk_and x 1 (by decide)
  have hm : x.toInt.tdiv (2 : Nat) * (2 : Nat) + x.toInt.tmod (2 : Nat) = x.toInt := Int.tdiv_mul_add_tmod _ _
  have hlt : x.toInt.tmod (2 : Nat) < (2 : Nat) := Int.tmod_lt_of_pos _ (by decide)
  have hgt : -(2 : Int) < x.toInt.tmod (2 : Nat) := by
    rcases Int.lt_or_le x.toInt 0 with q | q
    · have h9 : (-x.toInt).tmod (2 : Nat) < (2 : Nat) := Int.tmod_lt_of_pos _ (by decide)
      rw [Int.neg_tmod] at h9
      omega
    · have := Int.tmod_nonneg ((2 : Nat) : Int) q
      omega
  have hb : x.toInt = (x.toBitVec.toNat : Int).bmod (2 ^ 32) := BitVec.toInt_eq_toNat_bmod x.toBitVec
  rw [Int.bmod_def] at hb
  have e1 : (x - x / 2 * 2 = 0) ↔ x.toInt.tmod (2 : Nat) = 0 := by
    rw [← Int32.toInt_inj]
    rw [show (x - x / 2 * 2).toInt = x.toInt.tmod (2 : Nat) from h1]
    rfl
  have e2 : (x &&& 1 = 1) ↔ x.toBitVec.toNat % 2 = 1 := by
    rw [h2, show (1 : Int32) = nI 1 from rfl, nI_eq (by omega) (by omega)]
  rw [e1, e2]
  generalize x.toInt.tdiv (2 : Nat) = q at *
  generalize x.toInt.tmod (2 : Nat) = r at *
  generalize x.toBitVec.toNat = m at *
  split at hb <;> omega
section
variable (l : Launch) (n : Nat) (hn : n < 2 ^ 31) (d : Nat) (I : MI) (L : ML)
set_option maxHeartbeats 8000000 in
set_option maxRecDepth 100000 in
theorem c_echo {S J : MI} {T M : ML} {w nf fr g : Nat} {G : Nat → Nat → Nat → Int32 → PX → PX} {th : Int32} (hcG : cGo l n th g G) (c : Nat) (m : Int32) (hn : n < 2 ^ 31) (h : CX n S T w nf fr J M I L) (hw : w ≤ 1000) (hc : c < N (S 30 34)) (hg : 12 ≤ nf + 2 * fr + g) (hnf : nf ≤ 4) (hfr : fr ≤ 4) (hb : Ph (S, T, w) + 100 < 2 ^ 31) (hd : 10 * g + 12 ≤ d) : VM l n m_X4_echo d 0 [.ref 1, .int th, .int (nI c), .int m] I L (fun r I' L' => r = none ∧ CX n (Lecho G th nf fr c m (S, T, w)).1 (Lecho G th nf fr c m (S, T, w)).2.1 (Lecho G th nf fr c m (S, T, w)).2.2 nf fr J M I' L') noX := by
  refine VM_of _ [(0, .ref 1), (1, .int th), (2, .int (nI c)), (3, .int m)] rfl (fun a => Nat.le_of_ble_eq_true rfl) rfl ?_
  have hcnt := h.2.2.1
  have h16 := h.2.1.2.2.2.2.1.1.2
  have hN : N (nI c) = c := N_nI (by omega)
  obtain ⟨p1, p2, p3⟩ := peer_ok h.2.1 (a := nI c) ⟨by rw [hN], by rw [hN]; exact hc⟩
  refine q_aload_n dX4_echo_0 rfl ?_
  refine q_getI 1 4 5 (is_1 n) (by decide) rfl (by decide) f_X4_65 rfl dX4_echo_1 ?_
  refine q_sipush (1000) dX4_echo_4 (by decide) ?_
  rw [hcnt.1]
  refine q_icmp_ge 35 dX4_echo_7 (by decide) (fun h7 => ?_) (fun h7 => ?_)
  · have hw1 : ¬ w < 1000 := fun q => absurd ((nI_ltI (a := w) (b := 1000) (by omega) (by omega)).mpr q) (Int32.not_lt.mpr h7)
    have e9 : Lecho G th nf fr c m (S, T, w) = (S, T, w) := by
      unfold Lecho
      rw [if_neg hw1]
    rw [e9]
    exact q_vret dX4_echo_35 rfl (by omega) ⟨rfl, h⟩
  · have hw1 : w < 1000 := (nI_ltI (a := w) (b := 1000) (by omega) (by omega)).mp (Int32.not_le.mp h7)
    have e9 : Lecho G th nf fr c m (S, T, w) = Lsend G th nf fr (N (nI c ^^^ 1)) m (S, T, w + 1) := by
      unfold Lecho
      rw [if_pos hw1]
    rw [e9]
    have hX := CX_w (I' := upI I 1 5 (nI w + 1)) (w + 1) nf fr h (fun i hi => upI_ne hi) (by simp [rdI, nI_1]) (by simpa [rdI] using hcnt.2.1) (by simpa [rdI] using hcnt.2.2)
    obtain ⟨-, hph⟩ := gc_w (T := T) h.2.1 hw1
    refine q_aload_n dX4_echo_10 rfl ?_
    refine q_dup dX4_echo_11 rfl ?_
    refine q_getI 1 4 5 (is_1 n) (by decide) rfl (by decide) f_X4_65 rfl dX4_echo_12 ?_
    refine q_iconst (1) dX4_echo_15 (by decide) ?_
    refine q_iadd dX4_echo_16 ?_
    refine q_putI 1 4 5 (is_1 n) (by decide) rfl (by decide) rfl rfl f_X4_65 rfl dX4_echo_17 ?_
    refine q_aload_n dX4_echo_20 rfl ?_
    refine q_iload_n dX4_echo_21 rfl ?_
    refine q_aload_n dX4_echo_22 rfl ?_
    refine q_getR 1 4 2 6 (is_1 n) (by decide) rfl rfl (by decide) f_X4_28 rfl dX4_echo_23 ?_
    refine q_iload_n dX4_echo_26 rfl ?_
    rw [hcnt.1]
    generalize upI I 1 5 (nI w + 1) = I1 at *
    refine q_calli [.int _] o_X0_peer rfl k_X4_215 rfl (is_6 n) (by decide) rfl dX4_echo_27 (Nat.le_of_ble_eq_true rfl) (by omega) (by decide) (by omega) (Or.inl rfl) (c_peer l n (d - 1) I1 L (nI c)) (fun _ _ _ h => h.elim) (fun r1 I2 L2 hq => ?_)
    obtain ⟨e1, e2, e3⟩ := hq
    cases e1
    cases e2.symm
    cases e3.symm
    refine q_iload_n dX4_echo_30 rfl ?_
    refine VP_top1 (z := nI c ^^^ 1) (z' := nI (N (nI c ^^^ 1))) (by rw [p2]; exact p1) ?_
    refine q_calli [.int _, .int _, .int _] o_X4_send rfl k_X4_212 rfl (is_1 n) (by decide) rfl dX4_echo_31 (Nat.le_of_ble_eq_true rfl) (by omega) (by decide) (by omega) (Or.inr rfl) (c_send l n (d - 1) I1 L (fun _ => hcG) (N (nI c ^^^ 1)) m hn hX (by omega) (by rw [p2]; exact p3) hg hnf hfr (by omega) (by omega)) (fun _ _ _ h => h.elim) (fun r1 I2 L2 hq => ?_)
    obtain ⟨-, hX2⟩ := hq
    refine q_pop dX4_echo_34 rfl ?_
    exact q_vret dX4_echo_35 rfl (by omega) ⟨rfl, hX2⟩
/-- what a handler of the kind k does with the message ps -/
abbrev Lhan (D : Nat → Nat → Nat → PX → PX) (G : Nat → Nat → Nat → Int32 → PX → PX) (th : Int32) (nf fr c : Nat) (k : Int32) (tk : Nat) (ps : Int32) (x : PX) : PX := if k = 3 then Lecho G th nf fr c ps x else if k = 4 then D nf fr tk x else x
def Lres (k ps : Int32) : Int32 := if k = 2 ∧ ps &&& 1 = 1 then 1 else if k = 5 ∧ ps - ps / 3 * 3 = 0 then 2 else 0
set_option maxHeartbeats 8000000 in
set_option maxRecDepth 100000 in
theorem c_handle {S J : MI} {T M : ML} {w nf fr g : Nat} {D : Nat → Nat → Nat → PX → PX} {G : Nat → Nat → Nat → Int32 → PX → PX} {th : Int32} (hcD : cDo l n th g D) (hcG : cGo l n th g G) (c j : Nat) (ps : Int32) (hn : n < 2 ^ 31) (h : CX n S T w nf fr J M I L) (hw : w ≤ 1000) (hc : c < N (S 30 34)) (hj : j < N (S 236 c)) (hg : 13 ≤ nf + 2 * fr + g) (hnf : nf ≤ 4) (hfr : fr ≤ 4) (hb : Ph (S, T, w) + 102 < 2 ^ 31) (hd : 10 * g + 13 ≤ d) : VM l n m_X4_handle d 0 [.ref 1, .int th, .int (nI c), .int (nI (6 * c + j)), .int ps] I L (fun r I' L' => r = some (.int (Lres (S 237 (6 * c + j)) ps)) ∧ CX n (Lhan D G th nf fr c (S 237 (6 * c + j)) (N (S 238 (6 * c + j))) ps (Flog S th 6 (1000000 * S 239 (6 * c + j) + ps), T, w)).1 (Lhan D G th nf fr c (S 237 (6 * c + j)) (N (S 238 (6 * c + j))) ps (Flog S th 6 (1000000 * S 239 (6 * c + j) + ps), T, w)).2.1 (Lhan D G th nf fr c (S 237 (6 * c + j)) (N (S 238 (6 * c + j))) ps (Flog S th 6 (1000000 * S 239 (6 * c + j) + ps), T, w)).2.2 nf fr J M I' L') noX := by
  refine VM_of _ [(0, .ref 1), (1, .int th), (2, .int (nI c)), (3, .int (nI (6 * c + j))), (4, .int ps)] rfl (fun a => Nat.le_of_ble_eq_true rfl) rfl ?_
  have hb1 : tr S + 102 < 2 ^ 31 := Ph_tr hb
  have hc16 := h.2.1.2.2.2.2.1.1.2
  obtain ⟨i1, i2, i3⟩ := h.2.1.2.2.2.2.1.2.2 c hc
  have hj6 := i2.2
  have hK : I 362 = S 237 := h.1.2.2.2.1.2.2.2.2.1
  have hTk : I 363 = S 238 := h.1.2.2.2.1.2.2.2.2.2.1
  have hNm : I 364 = S 239 := h.1.2.2.2.1.2.2.2.2.2.2
  have hc0 := CX_cnt h
  have hlt : 6 * c + j < 96 := by omega
  refine q_aload_n dX4_handle_0 rfl ?_
  refine q_getR 1 4 4 3 (is_1 n) (by decide) rfl rfl (by decide) f_X4_45 rfl dX4_handle_1 ?_
  refine q_iload_n dX4_handle_4 rfl ?_
  refine q_bipush (6) dX4_handle_5 (by decide) ?_
  refine q_ldc n_X4_253 rfl dX4_handle_7 ?_
  refine q_aload_n dX4_handle_9 rfl ?_
  refine q_getR 1 4 2 6 (is_1 n) (by decide) rfl rfl (by decide) f_X4_28 rfl dX4_handle_10 ?_
  refine q_getR 6 0 4 364 (is_6 n) (by decide) rfl rfl (by decide) f_X4_252 rfl dX4_handle_13 ?_
  refine q_iload_n dX4_handle_16 rfl ?_
  refine q_iald 364 (6 * c + j) hn (is_364 n) rfl (by show _ < 96; exact hlt) dX4_handle_17 ?_
  refine q_imul dX4_handle_18 ?_
  refine q_iload dX4_handle_19 rfl ?_
  refine q_iadd dX4_handle_21 ?_
  rw [hNm]
  refine q_callv [.int _, .int _, .int _] o_X8_log rfl k_X4_102 rfl (is_3 n) (by decide) rfl dX4_handle_22 (Nat.le_of_ble_eq_true rfl) (by omega) (by decide) (by omega) rfl (c_log l n hn (d - 1) I L (tr S) th 6 (1000000 * S 239 (6 * c + j) + ps) hc0 (by omega)) (fun _ _ _ h => h.elim) (fun I2 L2 hq => ?_)
  obtain ⟨-, e2, e3⟩ := hq
  subst e2
  cases e3.symm
  have hX := CX_log th 6 (1000000 * S 239 (6 * c + j) + ps) h (by omega)
  have g1 := gc_log (T := T) (w := w) th 6 (1000000 * S 239 (6 * c + j) + ps) h.2.1 hw (by omega)
  have hph := g1.2
  have e3 : Flog S th 6 (1000000 * S 239 (6 * c + j) + ps) 30 3 = S 30 3 := g1.1.2.1.1.2.1
  have e34 : Flog S th 6 (1000000 * S 239 (6 * c + j) + ps) 30 34 = S 30 34 := g1.1.2.1.1.2.2.2.1
  have hK2 : Clog I (tr S) th 6 (1000000 * S 239 (6 * c + j) + ps) 362 = S 237 := by simpa [Clog, upI_ne] using hK
  have hT2 : Clog I (tr S) th 6 (1000000 * S 239 (6 * c + j) + ps) 363 = S 238 := by simpa [Clog, upI_ne] using hTk
  generalize Clog I (tr S) th 6 (1000000 * S 239 (6 * c + j) + ps) = I1 at *
  generalize Flog S th 6 (1000000 * S 239 (6 * c + j) + ps) = S1 at *
  refine q_aload_n dX4_handle_25 rfl ?_
  refine q_getR 1 4 2 6 (is_1 n) (by decide) rfl rfl (by decide) f_X4_28 rfl dX4_handle_26 ?_
  refine q_getR 6 0 2 362 (is_6 n) (by decide) rfl rfl (by decide) f_X4_248 rfl dX4_handle_29 ?_
  refine q_iload_n dX4_handle_32 rfl ?_
  refine q_iald 362 (6 * c + j) hn (is_362 n) rfl (by show _ < 96; exact hlt) dX4_handle_33 ?_
  rw [hK2]
  have i4 := i3 j hj
  generalize S 237 (6 * c + j) = k at *
  by_cases e2 : k = 2
  · subst e2
    refine q_swIn 64 dX4_handle_34 (by decide) (by decide) rfl (by decide) ?_
    refine q_iload dX4_handle_64 rfl ?_
    refine q_iconst (2) dX4_handle_66 (by decide) ?_
    refine q_irem dX4_handle_67 (by decide) ?_
    refine q_if_eq 75 dX4_handle_68 (by decide) (fun h68 => ?_) (fun h68 => ?_)
    · rw [i32_odd] at h68
      refine q_iconst (0) dX4_handle_75 (by decide) ?_
      refine q_iret dX4_handle_76 rfl (by omega) ⟨?_, by simpa [Lhan] using hX⟩
      simp [Lres, h68]
    · rw [i32_odd, Decidable.not_not] at h68
      refine q_iconst (1) dX4_handle_71 (by decide) ?_
      refine q_goto 76 dX4_handle_72 (by decide) ?_
      refine q_iret dX4_handle_76 rfl (by omega) ⟨?_, by simpa [Lhan] using hX⟩
      simp [Lres, h68]
  by_cases e3b : k = 3
  · subst e3b
    refine q_swIn 77 dX4_handle_34 (by decide) (by decide) rfl (by decide) ?_
    refine q_aload_n dX4_handle_77 rfl ?_
    refine q_iload_n dX4_handle_78 rfl ?_
    refine q_iload_n dX4_handle_79 rfl ?_
    refine q_iload dX4_handle_80 rfl ?_
    refine q_callv [.int _, .int _, .int _] o_X4_echo rfl k_X4_254 rfl (is_1 n) (by decide) rfl dX4_handle_82 (Nat.le_of_ble_eq_true rfl) (by omega) (by decide) (by omega) rfl (c_echo l n (d - 1) I1 L hcG c ps hn hX hw (by rw [e34]; exact hc) (by omega) hnf hfr (by omega) (by omega)) (fun _ _ _ h => h.elim) (fun I3 L3 hq => ?_)
    obtain ⟨-, hX2⟩ := hq
    refine q_iconst (0) dX4_handle_85 (by decide) ?_
    exact q_iret dX4_handle_86 rfl (by omega) ⟨by simp [Lres], by simpa [Lhan] using hX2⟩
  by_cases e4 : k = 4
  · subst e4
    have ht := i4 rfl
    refine q_swIn 87 dX4_handle_34 (by decide) (by decide) rfl (by decide) ?_
    refine q_aload_n dX4_handle_87 rfl ?_
    refine q_iload_n dX4_handle_88 rfl ?_
    refine q_aload_n dX4_handle_89 rfl ?_
    refine q_getR 1 4 2 6 (is_1 n) (by decide) rfl rfl (by decide) f_X4_28 rfl dX4_handle_90 ?_
    refine q_getR 6 0 3 363 (is_6 n) (by decide) rfl rfl (by decide) f_X4_257 rfl dX4_handle_93 ?_
    refine q_iload_n dX4_handle_96 rfl ?_
    refine q_iald 363 (6 * c + j) hn (is_363 n) rfl (by show _ < 96; exact hlt) dX4_handle_97 ?_
    rw [hT2, ht.1]
    refine q_iconst (0) dX4_handle_98 (by decide) ?_
    refine q_callv [.int _, .int _, .int _] o_X4_doOrders rfl k_X4_112 rfl (is_1 n) (by decide) rfl dX4_handle_99 (Nat.le_of_ble_eq_true rfl) (by omega) (by decide) (by omega) rfl (hcD (d - 1) nf fr (N (S 238 (6 * c + j))) (S1, T, w) I1 L J M (by omega) hg hnf hfr hX hw (by show _ < N (S1 30 3); rw [e3]; exact ht.2) (by omega)) (fun _ _ _ h => h.elim) (fun I3 L3 hq => ?_)
    obtain ⟨-, hX2⟩ := hq
    refine q_iconst (0) dX4_handle_102 (by decide) ?_
    refine q_iret dX4_handle_103 rfl (by omega) ⟨by simp [Lres], ?_⟩
    rw [← ht.1]
    simpa [Lhan] using hX2
  by_cases e5 : k = 5
  · subst e5
    refine q_swIn 104 dX4_handle_34 (by decide) (by decide) rfl (by decide) ?_
    refine q_iload dX4_handle_104 rfl ?_
    refine q_iconst (3) dX4_handle_106 (by decide) ?_
    refine q_irem dX4_handle_107 (by decide) ?_
    refine q_if_ne 115 dX4_handle_108 (by decide) (fun h108 => ?_) (fun h108 => ?_)
    · refine q_iconst (0) dX4_handle_115 (by decide) ?_
      refine q_iret dX4_handle_116 rfl (by omega) ⟨?_, by simpa [Lhan] using hX⟩
      simp [Lres, h108]
    · refine q_iconst (2) dX4_handle_111 (by decide) ?_
      refine q_goto 116 dX4_handle_112 (by decide) ?_
      refine q_iret dX4_handle_116 rfl (by omega) ⟨?_, by simpa [Lhan] using hX⟩
      simp [Lres, h108]
  · have ho : k.toInt < 2 ∨ 5 < k.toInt := by
      rcases Int.lt_or_le k.toInt 2 with q | q
      · exact Or.inl q
      · rcases Int.lt_or_le 5 k.toInt with q2 | q2
        · exact Or.inr q2
        · exfalso
          obtain ⟨z, hz, rfl⟩ := nI_of (x := k) (fun q9 => by have := Int32.lt_iff_toInt_lt.mp q9; simp at this; omega)
          rw [nI_toInt hz] at q q2
          rcases (show z = 2 ∨ z = 3 ∨ z = 4 ∨ z = 5 by omega) with rfl | rfl | rfl | rfl
          · exact e2 rfl
          · exact e3b rfl
          · exact e4 rfl
          · exact e5 rfl
    refine q_swOut 117 dX4_handle_34 ho (by decide) ?_
    refine q_iconst (0) dX4_handle_117 (by decide) ?_
    refine q_iret dX4_handle_118 rfl (by omega) ⟨by simp [Lres, e2, e5], ?_⟩
    simpa [Lhan, e3b, e4] using hX
end

