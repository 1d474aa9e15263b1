section
variable (l : Launch) (n : Nat) (hn : n < 2 ^ 31) (d : Nat) (I : MI) (L : ML)
set_option maxHeartbeats 8000000 in
set_option maxRecDepth 100000 in
theorem c_doOrder {S J : MI} {T M : ML} {w nf fr g : Nat} {D : Nat → Nat → Nat → PX → PX} {G : Nat → Nat → Nat → Int32 → PX → PX} {th : Int32} (hth : nbt th n) (hcD : cDo l n th g D) (hD : hypD n D) (hcG : cGo l n th g G) (k a b : Int32) (hn : n < 2 ^ 31) (h : CX n S T w nf fr J M I L) (hw : w ≤ 1000) (hg : 13 ≤ nf + 2 * fr + (g + 1)) (hnf : nf ≤ 4) (hfr : fr ≤ 4) (hb : Ph (S, T, w) + 100 < 2 ^ 31) (hd : 10 * g + 14 ≤ d) : VM l n m_X4_doOrder d 0 [.ref 1, .int th, .int k, .int a, .int b] I L (fun r I' L' => ∃ y e, Lord n D G th nf fr k a b (S, T, w) = (y, e) ∧ r = some (.int (nI e)) ∧ e ≤ 2 ∧ (e ≠ 2 → CX n y.1 y.2.1 y.2.2 nf fr J M I' L') ∧ (e = 2 → ∃ I0, CX n y.1 y.2.1 y.2.2 nf fr J M I0 L' ∧ I' = upI I0 (lid (N th) 0) 4 a)) noX := by
  refine VM_of _ [(0, .ref 1), (1, .int th), (2, .int k), (3, .int a), (4, .int b)] rfl (fun a => Nat.le_of_ble_eq_true rfl) rfl ?_
  have hb1 : tr S + 100 < 2 ^ 31 := Ph_tr hb
  have hcnt := h.2.2.1
  refine q_aload_n dX4_doOrder_0 rfl ?_
  refine q_getI 1 4 5 (is_1 n) (by decide) rfl (by decide) f_X4_65 rfl dX4_doOrder_1 ?_
  refine q_sipush (1000) dX4_doOrder_4 (by decide) ?_
  rw [hcnt.1]
  refine q_icmp_lt 12 dX4_doOrder_7 (by decide) (fun h7 => ?_) (fun h7 => ?_)
  · have hw1 : w < 1000 := (nI_ltI (a := w) (b := 1000) (by omega) (by omega)).mp h7
    have hwn : ¬ 1000 ≤ w := by omega
    have hX := CX_w (I' := upI I 1 5 (nI w + 1)) (w + 1) nf fr h (fun i hi => upI_ne hi) (by simp [rdI, nI_1]) (by simpa [rdI] using hcnt.2.1) (by simpa [rdI] using hcnt.2.2)
    obtain ⟨-, hph⟩ := gc_w (T := T) h.2.1 hw1
    refine q_aload_n dX4_doOrder_12 rfl ?_
    refine q_dup dX4_doOrder_13 rfl ?_
    refine q_getI 1 4 5 (is_1 n) (by decide) rfl (by decide) f_X4_65 rfl dX4_doOrder_14 ?_
    refine q_iconst (1) dX4_doOrder_17 (by decide) ?_
    refine q_iadd dX4_doOrder_18 ?_
    refine q_putI 1 4 5 (is_1 n) (by decide) rfl (by decide) rfl rfl f_X4_65 rfl dX4_doOrder_19 ?_
    refine q_aload_n dX4_doOrder_22 rfl ?_
    refine q_iload_n dX4_doOrder_23 rfl ?_
    refine q_iload_n dX4_doOrder_24 rfl ?_
    refine q_iload dX4_doOrder_25 rfl ?_
    rw [hcnt.1]
    generalize upI I 1 5 (nI w + 1) = I1 at *
    refine q_calli [.int _, .int _, .int _] o_X4_canDo rfl k_X4_155 rfl (is_1 n) (by decide) rfl dX4_doOrder_27 (Nat.le_of_ble_eq_true rfl) (by omega) (by decide) (by omega) (Or.inr rfl) (c_canDo l n (d - 1) I1 L k a b hn hX (by omega)) (fun _ _ _ h => h.elim) (fun r1 I2 L2 hq => ?_)
    obtain ⟨e1, e2, e3⟩ := hq
    cases e1
    cases e2.symm
    cases e3.symm
    refine q_if_ne 35 dX4_doOrder_30 (by decide) (fun h30 => ?_) (fun h30 => ?_)
    · rw [ne_eq, bI_z, Decidable.not_not] at h30
      refine q_iload_n dX4_doOrder_35 rfl ?_
      refine q_bipush (8) dX4_doOrder_36 (by decide) ?_
      refine q_icmp_ne 48 dX4_doOrder_38 (by decide) (fun h38 => ?_) (fun h38 => ?_)
      · have e9 : Lord n D G th nf fr k a b (S, T, w) = (Lcarry n D G th nf fr k a b (S, T, w + 1), 0) := by
          unfold Lord
          rw [if_neg hwn, if_neg (fun q => q h30), if_neg h38]
        refine q_aload_n dX4_doOrder_48 rfl ?_
        refine q_iload_n dX4_doOrder_49 rfl ?_
        refine q_iload_n dX4_doOrder_50 rfl ?_
        refine q_iload_n dX4_doOrder_51 rfl ?_
        refine q_iload dX4_doOrder_52 rfl ?_
        refine q_callv [.int _, .int _, .int _, .int _] o_X4_carryOut rfl k_X4_163 rfl (is_1 n) (by decide) rfl dX4_doOrder_54 (Nat.le_of_ble_eq_true rfl) (by omega) (by decide) (by omega) rfl (c_carryOut l n (d - 1) I1 L hth hcD hD hcG k a b hn hX (by omega) h38 h30 hg hnf hfr (by omega) (by omega)) (fun _ _ _ h => h.elim) (fun I3 L3 hq => ?_)
        obtain ⟨-, hX2⟩ := hq
        refine q_iconst (0) dX4_doOrder_57 (by decide) ?_
        exact q_iret dX4_doOrder_58 rfl (by omega) ⟨_, 0, e9, rfl, by omega, fun _ => hX2, fun q => absurd q (by decide)⟩
      · subst h38
        have hpa := isP_nbt h.2.1 (Fcan_8.mp h30)
        refine q_aload_n dX4_doOrder_41 rfl ?_
        refine q_iload_n dX4_doOrder_42 rfl ?_
        refine q_iload_n dX4_doOrder_43 rfl ?_
        refine VP_top0 (z := a) (z' := nI (N a)) hpa.1 ?_
        refine q_calli [.int _, .int _] o_X4_await rfl k_X4_159 rfl (is_1 n) (by decide) rfl dX4_doOrder_44 (Nat.le_of_ble_eq_true rfl) (by omega) (by decide) (by omega) (Or.inl rfl) (c_await l n (d - 1) I1 L th (N a) (N th) hth.1 hth.2 hn hX hpa.2 hnf (by omega) (by omega) (by omega)) (fun _ _ _ h => h.elim) (fun r1 I3 L3 hq => ?_)
        obtain ⟨q1, q2, q3⟩ := hq
        by_cases ed : S 229 (N a) ≠ 0
        · obtain ⟨e1, hX2⟩ := q1 ed
          cases e1
          have e9 : Lord n D G th nf fr 8 a b (S, T, w) = ((S, T, w + 1), 0) := by
            unfold Lord
            rw [if_neg hwn, if_neg (fun q => q h30), if_pos rfl, if_pos ed]
          exact q_iret dX4_doOrder_47 rfl (by omega) ⟨_, 0, e9, rfl, by omega, fun _ => hX2, fun q => absurd q (by decide)⟩
        · have ed0 : S 229 (N a) = 0 := Decidable.not_not.mp ed
          by_cases er : 0 < nf ∨ 0 < fr ∨ S 228 (N a) = th
          · obtain ⟨e1, hX2⟩ := q2 ed0 er
            cases e1
            have e9 : Lord n D G th nf fr 8 a b (S, T, w) = ((Flog S th 3 a, T, w + 1), 0) := by
              unfold Lord
              rw [if_neg hwn, if_neg (fun q => q h30), if_pos rfl, if_neg ed, if_pos er]
            rw [← hpa.1] at hX2
            exact q_iret dX4_doOrder_47 rfl (by omega) ⟨_, 0, e9, rfl, by omega, fun _ => hX2, fun q => absurd q (by decide)⟩
          · obtain ⟨e1, e2, e3⟩ := q3 ed0 er
            cases e1
            have e9 : Lord n D G th nf fr 8 a b (S, T, w) = ((S, T, w + 1), 2) := by
              unfold Lord
              rw [if_neg hwn, if_neg (fun q => q h30), if_pos rfl, if_neg ed, if_neg er]
            rw [← hpa.1] at e2
            cases e3.symm
            exact q_iret dX4_doOrder_47 rfl (by omega) ⟨_, 2, e9, rfl, by omega, fun q => absurd rfl q, fun _ => ⟨I1, hX, e2⟩⟩
    · rw [bI_z] at h30
      have e9 : Lord n D G th nf fr k a b (S, T, w) = ((S, T, w + 1), 1) := by
        unfold Lord
        rw [if_neg hwn, if_pos h30]
      refine q_iconst (1) dX4_doOrder_33 (by decide) ?_
      exact q_iret dX4_doOrder_34 rfl (by omega) ⟨_, 1, e9, rfl, by omega, fun _ => hX, fun q => absurd q (by decide)⟩
  · have hw1 : 1000 ≤ w := by
      rcases Nat.lt_or_ge w 1000 with q | q
      · exact absurd ((nI_ltI (a := w) (b := 1000) (by omega) (by omega)).mpr q) h7
      · exact q
    have e9 : Lord n D G th nf fr k a b (S, T, w) = ((S, T, w), 1) := by
      unfold Lord
      rw [if_pos hw1]
    refine q_iconst (1) dX4_doOrder_10 (by decide) ?_
    exact q_iret dX4_doOrder_11 rfl (by omega) ⟨_, 1, e9, rfl, by omega, fun _ => h, fun q => absurd q (by decide)⟩
set_option maxHeartbeats 8000000 in
set_option maxRecDepth 100000 in
theorem c_doOrders_lp {Q : vq_R} {J : MI} {M : ML} {nf fr g : Nat} {D : Nat → Nat → Nat → PX → PX} {G : Nat → Nat → Nat → Int32 → PX → PX} {th : Int32} (hth : nbt th n) (hcD : cDo l n th g D) (hD : hypD n D) (hcG : cGo l n th g G) (hG : hypG n G) (t f0 : Nat) (hn : n < 2 ^ 31) (hg : 13 ≤ nf + 2 * fr + (g + 1)) (hnf : nf ≤ 4) (hfr : fr ≤ 4) (hd : 10 * g + 15 ≤ d) :
    ∀ (m k : Nat) (x : PX) (I : MI) (L : ML), k + m = N (x.1 204 t) → CX n x.1 x.2.1 x.2.2 nf fr J M I L → x.2.2 ≤ 1000 → t < N (x.1 30 3) → Ph x + 100 < 2 ^ 31 → (∀ I' L', CX n (Lords n D G th nf fr t m k x).1 (Lords n D G th nf fr t m k x).2.1 (Lords n D G th nf fr t m k x).2.2 nf fr J M I' L' → Q none I' L') →
    VP l n m_X4_doOrders d 0 Q noX 0 3 [(4, .int (nI k)), (0, .ref 1), (1, .int th), (2, .int (nI t)), (3, .int (nI f0))] [] I L := by
  intro m
  induction m with
  | zero =>
    intro k x I L hk h hw ht hb hQ
    have h8 := (h.2.1.2.2.1.2 t)
    have ht24 := h.2.1.2.2.1.1.2
    have hsz : I 340 t = nI (N (x.1 204 t)) := (congrFun h.1.2.1.2.1 t).trans h8.1
    refine q_iload dX4_doOrders_3 rfl ?_
    refine q_aload_n dX4_doOrders_5 rfl ?_
    refine q_getR 1 4 0 4 (is_1 n) (by decide) rfl rfl (by decide) f_X4_12 rfl dX4_doOrders_6 ?_
    refine q_getR 4 6 0 340 (is_4 n) (by decide) rfl rfl (by decide) f_X4_141 rfl dX4_doOrders_9 ?_
    refine q_iload_n dX4_doOrders_12 rfl ?_
    refine q_iald 340 (t) hn (is_340 n) rfl (by show t < 24; omega) dX4_doOrders_13 ?_
    rw [hsz]
    refine q_icmp_ge 122 dX4_doOrders_14 (by decide) (fun h14 => ?_) (fun h14 => ?_)
    · exact q_vret dX4_doOrders_122 rfl (by omega) (hQ _ _ h)
    · exact absurd (nI_le (by omega) (by have := h8.2; omega)) h14
  | succ m ih =>
    intro k x I L hk h hw ht hb hQ
    have h8 := (h.2.1.2.2.1.2 t)
    have h82 := h8.2
    have ht24 := h.2.1.2.2.1.1.2
    have hn8 := h.2.1.1
    have hsz : I 340 t = nI (N (x.1 204 t)) := (congrFun h.1.2.1.2.1 t).trans h8.1
    have hk1 : I 341 = x.1 205 := h.1.2.1.2.2.1
    have hk2 : I 342 = x.1 206 := h.1.2.1.2.2.2.1
    have hk3 : I 343 = x.1 207 := h.1.2.1.2.2.2.2
    have ei : nI t * 8 + nI k = nI (8 * t + k) := ix8 t k rfl rfl
    obtain ⟨g0, g1, g2⟩ := gc_ord hD hG hth nf fr (x.1 205 (8 * t + k)) (x.1 206 (8 * t + k)) (x.1 207 (8 * t + k)) x h.2.1 hw hb
    refine q_iload dX4_doOrders_3 rfl ?_
    refine q_aload_n dX4_doOrders_5 rfl ?_
    refine q_getR 1 4 0 4 (is_1 n) (by decide) rfl rfl (by decide) f_X4_12 rfl dX4_doOrders_6 ?_
    refine q_getR 4 6 0 340 (is_4 n) (by decide) rfl rfl (by decide) f_X4_141 rfl dX4_doOrders_9 ?_
    refine q_iload_n dX4_doOrders_12 rfl ?_
    refine q_iald 340 (t) hn (is_340 n) rfl (by show t < 24; omega) dX4_doOrders_13 ?_
    rw [hsz]
    refine q_icmp_ge 122 dX4_doOrders_14 (by decide) (fun h14 => ?_) (fun h14 => ?_)
    · exact absurd h14 (nI_ge (by omega) (by omega))
    · refine q_iload_n dX4_doOrders_17 rfl ?_
      refine q_bipush (8) dX4_doOrders_18 (by decide) ?_
      refine q_imul dX4_doOrders_20 ?_
      refine q_iload dX4_doOrders_21 rfl ?_
      refine q_iadd dX4_doOrders_23 ?_
      rw [ei]
      refine q_istore [(5, _), (4, _), (0, _), (1, _), (2, _), (3, _)] dX4_doOrders_24 (by decide) rfl ?_
      refine q_aload_n dX4_doOrders_26 rfl ?_
      refine q_iload_n dX4_doOrders_27 rfl ?_
      refine q_aload_n dX4_doOrders_28 rfl ?_
      refine q_getR 1 4 0 4 (is_1 n) (by decide) rfl rfl (by decide) f_X4_12 rfl dX4_doOrders_29 ?_
      refine q_getR 4 6 1 341 (is_4 n) (by decide) rfl rfl (by decide) f_X4_144 rfl dX4_doOrders_32 ?_
      refine q_iload dX4_doOrders_35 rfl ?_
      refine q_iald 341 (8 * t + k) hn (is_341 n) rfl (by show _ < 192; omega) dX4_doOrders_37 ?_
      refine q_aload_n dX4_doOrders_38 rfl ?_
      refine q_getR 1 4 0 4 (is_1 n) (by decide) rfl rfl (by decide) f_X4_12 rfl dX4_doOrders_39 ?_
      refine q_getR 4 6 2 342 (is_4 n) (by decide) rfl rfl (by decide) f_X4_145 rfl dX4_doOrders_42 ?_
      refine q_iload dX4_doOrders_45 rfl ?_
      refine q_iald 342 (8 * t + k) hn (is_342 n) rfl (by show _ < 192; omega) dX4_doOrders_47 ?_
      refine q_aload_n dX4_doOrders_48 rfl ?_
      refine q_getR 1 4 0 4 (is_1 n) (by decide) rfl rfl (by decide) f_X4_12 rfl dX4_doOrders_49 ?_
      refine q_getR 4 6 3 343 (is_4 n) (by decide) rfl rfl (by decide) f_X4_148 rfl dX4_doOrders_52 ?_
      refine q_iload dX4_doOrders_55 rfl ?_
      refine q_iald 343 (8 * t + k) hn (is_343 n) rfl (by show _ < 192; omega) dX4_doOrders_57 ?_
      rw [hk1, hk2, hk3]
      refine q_calli [.int _, .int _, .int _, .int _] o_X4_doOrder rfl k_X4_151 rfl (is_1 n) (by decide) rfl dX4_doOrders_58 (Nat.le_of_ble_eq_true rfl) (by omega) (by decide) (by omega) (Or.inl rfl) (c_doOrder l n (d - 1) I L hth hcD hD hcG (x.1 205 (8 * t + k)) (x.1 206 (8 * t + k)) (x.1 207 (8 * t + k)) hn h hw hg hnf hfr hb (by omega)) (fun _ _ _ h => h.elim) (fun r1 I2 L2 hq => ?_)
      obtain ⟨y, e, eL, e1, e2, q1, q2⟩ := hq
      cases e1
      have eL2 : Lord n D G th nf fr (x.1 205 (8 * t + k)) (x.1 206 (8 * t + k)) (x.1 207 (8 * t + k)) x = (y, e) := eL
      rw [eL2] at g0 g1 g2
      simp only [Lords, eL2] at hQ
      have hph : Ph y ≤ Ph x + 0 := g0.2
      have e3 : y.1 30 3 = x.1 30 3 := g0.1.2.1.1.2.1
      have e204 : y.1 204 = x.1 204 := g0.1.2.1.1.2.2.2.2.1
      refine q_istore [(6, _), (5, _), (4, _), (0, _), (1, _), (2, _), (3, _)] dX4_doOrders_61 (by decide) rfl ?_
      refine q_iload dX4_doOrders_63 rfl ?_
      refine q_iconst (1) dX4_doOrders_65 (by decide) ?_
      rcases (show e = 0 ∨ e = 1 ∨ e = 2 by omega) with rfl | rfl | rfl
      · have hX := q1 (by decide)
        refine q_icmp_ne 80 dX4_doOrders_66 (by decide) (fun h66 => ?_) (fun h66 => ?_)
        · refine q_iload dX4_doOrders_80 rfl ?_
          refine q_iconst (2) dX4_doOrders_82 (by decide) ?_
          refine q_icmp_ne 116 dX4_doOrders_83 (by decide) (fun h83 => ?_) (fun h83 => ?_)
          · refine q_iinc [(4, _), (6, _), (5, _), (0, _), (1, _), (2, _), (3, _)] (nI (k + 1)) dX4_doOrders_116 rfl (nI_1 k) (by decide) rfl ?_
            refine q_goto 3 dX4_doOrders_119 (by decide) ?_
            refine q_lv [(4, .int (nI (k + 1))), (0, .ref 1), (1, .int th), (2, .int (nI t)), (3, .int (nI f0))] (by simp) ?_
            exact ih (k + 1) y I2 L2 (by rw [e204]; omega) hX g0.1.2.2.2 (by rw [e3]; exact ht) (by omega) hQ
          · exact absurd h83 (by decide)
        · exact absurd h66 (by decide)
      · have hX := q1 (by decide)
        have htr : tr y.1 + 1 < 2 ^ 31 := Ph_tr (b := 1) (by omega)
        refine q_icmp_ne 80 dX4_doOrders_66 (by decide) (fun h66 => ?_) (fun h66 => ?_)
        · exact absurd rfl h66
        · refine q_aload_n dX4_doOrders_69 rfl ?_
          refine q_getR 1 4 4 3 (is_1 n) (by decide) rfl rfl (by decide) f_X4_45 rfl dX4_doOrders_70 ?_
          refine q_iload_n dX4_doOrders_73 rfl ?_
          refine q_iconst (2) dX4_doOrders_74 (by decide) ?_
          refine q_iload_n dX4_doOrders_75 rfl ?_
          refine q_callv [.int _, .int _, .int _] o_X8_log rfl k_X4_102 rfl (is_3 n) (by decide) rfl dX4_doOrders_76 (Nat.le_of_ble_eq_true rfl) (by omega) (by decide) (by omega) rfl (c_log l n hn (d - 1) I2 L2 (tr y.1) th 2 (nI t) (CX_cnt hX) (by omega)) (fun _ _ _ h => h.elim) (fun I3 L3 hq => ?_)
          obtain ⟨-, e5, e6⟩ := hq
          subst e5
          cases e6.symm
          exact q_vret dX4_doOrders_79 rfl (by omega) (hQ _ _ (CX_log th 2 (nI t) hX htr))
      · obtain ⟨I0, hX, e5⟩ := q2 rfl
        subst e5
        rcases g2 with q | q | ⟨-, p1, p2, p3, p4⟩
        · simp at q
        · simp at q
        change y = _ at p4
        subst p4
        refine q_icmp_ne 80 dX4_doOrders_66 (by decide) (fun h66 => ?_) (fun h66 => ?_)
        · refine q_iload dX4_doOrders_80 rfl ?_
          refine q_iconst (2) dX4_doOrders_82 (by decide) ?_
          refine q_icmp_ne 116 dX4_doOrders_83 (by decide) (fun h83 => ?_) (fun h83 => ?_)
          · exact absurd rfl h83
          · refine q_aload_n dX4_doOrders_86 rfl ?_
            refine q_getR 1 4 3 2 (is_1 n) (by decide) rfl rfl (by decide) f_X4_37 rfl dX4_doOrders_87 ?_
            refine q_getR 2 5 1 321 (is_2 n) (by decide) rfl rfl (by decide) f_X4_46 rfl dX4_doOrders_90 ?_
            refine q_iload_n dX4_doOrders_93 rfl ?_
            refine q_aald 321 (N th) (lid (N th) 0) hn (is_321 n) hth.1 hth.2 rfl dX4_doOrders_94 ?_
            refine q_iload_n dX4_doOrders_95 rfl ?_
            refine q_putI (lid (N th) 0) 1 5 (vq_isL (hth.2) 0 (by decide) rfl) (by decide) rfl (by decide) rfl rfl f_X4_106 rfl dX4_doOrders_96 ?_
            refine q_aload_n dX4_doOrders_99 rfl ?_
            refine q_getR 1 4 3 2 (is_1 n) (by decide) rfl rfl (by decide) f_X4_37 rfl dX4_doOrders_100 ?_
            refine q_getR 2 5 1 321 (is_2 n) (by decide) rfl rfl (by decide) f_X4_46 rfl dX4_doOrders_103 ?_
            refine q_iload_n dX4_doOrders_106 rfl ?_
            refine q_aald 321 (N th) (lid (N th) 0) hn (is_321 n) hth.1 hth.2 rfl dX4_doOrders_107 ?_
            refine q_iload dX4_doOrders_108 rfl ?_
            refine q_iconst (1) dX4_doOrders_110 (by decide) ?_
            refine q_iadd dX4_doOrders_111 ?_
            refine q_putI (lid (N th) 0) 1 6 (vq_isL (hth.2) 0 (by decide) rfl) (by decide) rfl (by decide) rfl rfl f_X4_109 rfl dX4_doOrders_112 ?_
            refine q_vret dX4_doOrders_115 rfl (by omega) (hQ _ _ ?_)
            have := CX_blk (i := N th) (t := t) (o := k + 1) (a := x.1 206 (8 * t + k)) hX ht (by omega) p1
            rw [nI_1]
            exact this
        · exact absurd h66 (by decide)
end

