theorem CX_cnt_sched {n w nf fr : Nat} {S I J : MI} {T L M : ML} (h : CX n S T w nf fr J M I L) : I 2 4 = S 30 23 := h.1.2.2.2.2.1.2.2
theorem nb400 {x : Int32} (h : nb x 400) : (400 ≤ x) = (x = 400) := by
  obtain ⟨h1, h2⟩ := h
  rw [h1, show (400 : Int32) = nI 400 from rfl, nI_leI (by omega) (by omega), eq_iff_iff, nI_eq (by omega) (by omega)]
  omega
theorem nI24 {z : Nat} (h : z ≤ 24) : ((24 : Int32) ≤ nI z) = (z = 24) := by
  rw [show (24 : Int32) = nI 24 from rfl, nI_leI (by omega) (by omega), eq_iff_iff]
  omega
theorem i32_3 {s : Int32} : (s < 3) = ¬ (2 < s) := by
  simp only [eq_iff_iff, Int32.lt_iff_toInt_lt, show (2 : Int32).toInt = 2 from rfl, show (3 : Int32).toInt = 3 from rfl]
  omega
theorem tr_bec {n : Nat} {S : MI} {i : Nat} {s : Int32} (h : Inv n S) (hb : tr S + 1 < 2 ^ 31) (hs : s = 1 ∨ s = 2 ∨ s = 3 ∨ s = 4 ∨ s = 5) : Inv n (Fbec S i s) ∧ tr (Fbec S i s) = tr S + 1 := by
  have e : tr (upI S 208 i s) = tr S := by simp [tr, rdI]
  have := Inv_log (nI i) 7 s (Inv_st (i := i) h hs) (by rw [e]; exact hb)
  rw [e] at this
  exact this
section
variable (l : Launch) (n : Nat) (hn : n < 2 ^ 31) (d : Nat) (I : MI) (L : ML)
set_option maxHeartbeats 4000000 in
set_option maxRecDepth 100000 in
theorem c_schedule {S J : MI} {T M : ML} {w nf fr : Nat} (tg : Nat) (th t dl : Int32) (hn : n < 2 ^ 31) (h : CX n S T w nf fr J M I L) (htg : tg < n) (ht : nbt t (N (S 30 3))) (hb : tr S + 2 < 2 ^ 31) (hd : 2 ≤ d) : VM l n m_X5_schedule d 0 [.ref 2, .int th, .int (nI tg), .int t, .int dl] I L (fun r I' L' => r = some (.int (if rejT S tg then -1 else S 30 23)) ∧ CX n (Fsch S th tg t) (TSch S T tg dl.toInt64) w nf fr J M I' L') noX := by
  refine VM_of _ [(0, .ref 2), (1, .int th), (2, .int (nI tg)), (3, .int t), (4, .int dl)] rfl (fun a => Nat.le_of_ble_eq_true rfl) rfl ?_
  have hst : I (lid tg 0) 2 = S 208 tg := (h.1.2.2.2.2.2 tg htg).2.2.1
  have hc := CX_cnt h
  have h23 := CX_cnt_sched h
  have hM := h.2.1.2.2.2.2.2.1.1
  obtain ⟨m1, m2, -⟩ := (h.1.2.2.2.2.2 tg htg).2.1
  have hck : L 2 2 = T 30 2 := h.1.2.2.2.2.1.1
  have REJ : ∀ lv, vq_lk lv 0 = some (.ref 2) → vq_lk lv 1 = some (.int th) → vq_lk lv 3 = some (.int t) → rejT S tg → VP l n m_X5_schedule d 0 (fun r I' L' => r = some (.int (if rejT S tg then -1 else S 30 23)) ∧ CX n (Fsch S th tg t) (TSch S T tg dl.toInt64) w nf fr J M I' L') noX 0 52 lv [] I L := by
    intro lv l0 l1 l3 hr
    refine q_aload_n dX5_schedule_52 l0 ?_
    refine q_getR 2 5 0 3 (is_2 n) (by decide) rfl rfl (by decide) f_X5_12 rfl dX5_schedule_53 ?_
    refine q_iload_n dX5_schedule_56 l1 ?_
    refine q_iconst 4 dX5_schedule_57 (by decide) ?_
    refine q_iload_n dX5_schedule_58 l3 ?_
    refine q_callv [.int _, .int _, .int _] o_X8_log rfl k_X5_48 rfl (is_3 n) (by decide) rfl dX5_schedule_59 (by decide) (by omega) (by decide) (by omega) rfl (c_log l n hn (d - 1) I L (tr S) th 4 t hc (by omega)) (fun _ _ _ h => h.elim) (fun I2 L2 hq => ?_)
    obtain ⟨-, e2, e3⟩ := hq
    subst e2
    cases e3.symm
    refine q_iconst (-1) dX5_schedule_62 (by decide) ?_
    refine q_iret dX5_schedule_63 rfl (by omega) ⟨by rw [if_pos hr], ?_⟩
    unfold Fsch TSch
    rw [if_pos hr, if_pos hr]
    exact CX_log th 4 t h (by omega)
  refine q_aload_n dX5_schedule_0 rfl ?_
  refine q_getR 2 5 1 321 (is_2 n) (by decide) rfl rfl (by decide) f_X5_20 rfl dX5_schedule_1 ?_
  refine q_iload_n dX5_schedule_4 rfl ?_
  refine q_aald 321 (tg) (lid (tg) 0) hn (is_321 n) rfl htg rfl dX5_schedule_5 ?_
  refine q_astore [(5, _), (0, _), (1, _), (2, _), (3, _), (4, _)] dX5_schedule_6 (by decide) rfl ?_
  refine q_aload_n dX5_schedule_8 rfl ?_
  refine q_getI 2 5 4 (is_2 n) (by decide) rfl (by decide) f_X5_59 rfl dX5_schedule_9 ?_
  refine q_sipush (400) dX5_schedule_12 (by decide) ?_
  rw [h23]
  refine q_icmp_ge 35 dX5_schedule_15 (by decide) (fun h15 => ?_) (fun h15 => ?_)
  · rw [nb400 hM] at h15
    refine q_iconst (0) dX5_schedule_35 (by decide) ?_
    refine q_istore [(6, _), (5, _), (0, _), (1, _), (2, _), (3, _), (4, _)] dX5_schedule_36 (by decide) rfl ?_
    refine q_iload dX5_schedule_38 rfl ?_
    refine q_if_eq 52 dX5_schedule_40 (by decide) (fun h40 => ?_) (fun h40 => ?_)
    · exact REJ _ rfl rfl rfl (Or.inr (Or.inl h15))
    · exact absurd rfl h40
  · rw [nb400 hM] at h15
    refine q_aload dX5_schedule_18 rfl ?_
    refine q_getR (lid tg 0) 1 1 (lid tg 2) (vq_isL htg 0 (by decide) rfl) (by decide) rfl ((gr_lid tg 0 1 (by decide)).trans rfl) (by decide) f_X5_62 rfl dX5_schedule_20 ?_
    refine q_getI (lid tg 2) 7 3 (vq_isL htg 2 (by decide) rfl) (by decide) rfl (by decide) f_X5_66 rfl dX5_schedule_23 ?_
    refine q_bipush (24) dX5_schedule_26 (by decide) ?_
    rw [m1]
    refine q_icmp_ge 35 dX5_schedule_28 (by decide) (fun h28 => ?_) (fun h28 => ?_)
    · rw [nI24 m2] at h28
      refine q_iconst (0) dX5_schedule_35 (by decide) ?_
      refine q_istore [(6, _), (5, _), (0, _), (1, _), (2, _), (3, _), (4, _)] dX5_schedule_36 (by decide) rfl ?_
      refine q_iload dX5_schedule_38 rfl ?_
      refine q_if_eq 52 dX5_schedule_40 (by decide) (fun h40 => ?_) (fun h40 => ?_)
      · exact REJ _ rfl rfl rfl (Or.inr (Or.inr h28))
      · exact absurd rfl h40
    · rw [nI24 m2] at h28
      refine q_iconst (1) dX5_schedule_31 (by decide) ?_
      refine q_goto 36 dX5_schedule_32 (by decide) ?_
      refine q_istore [(6, _), (5, _), (0, _), (1, _), (2, _), (3, _), (4, _)] dX5_schedule_36 (by decide) rfl ?_
      refine q_iload dX5_schedule_38 rfl ?_
      refine q_if_eq 52 dX5_schedule_40 (by decide) (fun h40 => ?_) (fun h40 => ?_)
      · exact absurd h40 (by decide)
      · refine q_aload dX5_schedule_43 rfl ?_
        refine q_getI (lid tg 0) 1 2 (vq_isL htg 0 (by decide) rfl) (by decide) rfl (by decide) f_X5_35 rfl dX5_schedule_45 ?_
        refine q_iconst (3) dX5_schedule_48 (by decide) ?_
        rw [hst]
        refine q_icmp_lt 64 dX5_schedule_49 (by decide) (fun h49 => ?_) (fun h49 => ?_)
        · rw [i32_3] at h49
          have hr : ¬ rejT S tg := fun q => q.elim h49 (fun q => q.elim h15 h28)
          have h400 : N (S 30 23) < 400 := by
            rcases Nat.lt_or_ge (N (S 30 23)) 400 with q | q
            · exact q
            · exact absurd (by rw [hM.1, show N (S 30 23) = 400 by have := hM.2; omega]; rfl) h15
          unfold Fsch TSch
          rw [if_neg hr, if_neg hr, if_neg hr]
          refine q_aload dX5_schedule_64 rfl ?_
          refine q_getI (lid tg 0) 1 2 (vq_isL htg 0 (by decide) rfl) (by decide) rfl (by decide) f_X5_35 rfl dX5_schedule_66 ?_
          refine q_iconst (1) dX5_schedule_69 (by decide) ?_
          rw [hst]
          refine q_icmp_ne 79 dX5_schedule_70 (by decide) (fun h70 => ?_) (fun h70 => ?_)
          · rw [if_neg h70]
            have hX := CX_tadd (dl := T 30 2 + dl.toInt64) h htg h400 ht rfl (by omega)
            refine q_aload_n dX5_schedule_79 rfl ?_
            refine q_getI 2 5 4 (is_2 n) (by decide) rfl (by decide) f_X5_59 rfl dX5_schedule_80 ?_
            refine q_istore [(7, _), (6, _), (5, _), (0, _), (1, _), (2, _), (3, _), (4, _)] dX5_schedule_83 (by decide) rfl ?_
            refine q_aload_n dX5_schedule_85 rfl ?_
            refine q_dup dX5_schedule_86 rfl ?_
            refine q_getI 2 5 4 (is_2 n) (by decide) rfl (by decide) f_X5_59 rfl dX5_schedule_87 ?_
            refine q_iconst (1) dX5_schedule_90 (by decide) ?_
            refine q_iadd dX5_schedule_91 ?_
            refine q_putI 2 5 4 (is_2 n) (by decide) rfl (by decide) rfl rfl f_X5_59 rfl dX5_schedule_92 ?_
            refine q_aload dX5_schedule_95 rfl ?_
            refine q_getR (lid tg 0) 1 1 (lid tg 2) (vq_isL htg 0 (by decide) rfl) (by decide) rfl ((gr_lid tg 0 1 (by decide)).trans rfl) (by decide) f_X5_62 rfl dX5_schedule_97 ?_
            refine q_iload dX5_schedule_100 rfl ?_
            refine q_iload_n dX5_schedule_102 rfl ?_
            refine q_aload_n dX5_schedule_103 rfl ?_
            refine q_getL 2 5 2 (is_2 n) (by decide) rfl (by decide) f_X5_71 rfl dX5_schedule_104 ?_
            refine q_iload dX5_schedule_107 rfl ?_
            refine q_i2l dX5_schedule_109 ?_
            refine q_ladd dX5_schedule_110 ?_
            refine q_callv [.int _, .int _, .long _] o_X7_put rfl k_X5_75 rfl (vq_isL htg 2 (by decide) rfl) (by decide) rfl dX5_schedule_111 (by decide) (by omega) (by decide) (by omega) rfl (c_mput l n (d - 1) _ L tg (Fcnt S tg (N (S 30 23))) (I 2 4) t (L 2 2 + dl.toInt64) hn htg (by simpa [rdI, lid_ne] using m1) (by omega)) (fun _ _ _ h => h.elim) (fun I2 L2 hq => ?_)
            obtain ⟨-, e2, e3⟩ := hq
            subst e2
            subst e3
            rw [hck]
            have hb2 : tr (Fsch0 S tg t) = tr S := by simp [tr, Fsch0, rdI]
            refine q_aload_n dX5_schedule_114 rfl ?_
            refine q_getR 2 5 0 3 (is_2 n) (by decide) rfl rfl (by decide) f_X5_12 rfl dX5_schedule_115 ?_
            refine q_iload_n dX5_schedule_118 rfl ?_
            refine q_bipush (9) dX5_schedule_119 (by decide) ?_
            refine q_iload dX5_schedule_121 rfl ?_
            refine q_callv [.int _, .int _, .int _] o_X8_log rfl k_X5_48 rfl (is_3 n) (by decide) rfl dX5_schedule_123 (by decide) (by omega) (by decide) (by omega) rfl (c_log l n hn (d - 1) _ _ (tr S) th 9 (I 2 4) (by simpa [Cmput, rdI, ne_lid] using hc) (by omega)) (fun _ _ _ h => h.elim) (fun I3 L3 hq => ?_)
            obtain ⟨-, e2, e3⟩ := hq
            subst e2
            subst e3
            refine q_iload dX5_schedule_126 rfl ?_
            refine q_iret dX5_schedule_128 rfl (by omega) ⟨by rw [h23], ?_⟩
            have := CX_log th 9 (I 2 4) hX (by rw [hb2]; omega)
            rw [hb2] at this
            simp only [h23] at this ⊢
            exact this
          · rw [if_pos h70]
            have h9 := (CX_bec (i := tg) (s := 2) h (by omega) (by decide) (fun q => absurd q (by decide)))
            have f23 : Fbec S tg 2 30 23 = S 30 23 := by simp [Fbec, Flog, Rlog, rdI]
            have f3 : Fbec S tg 2 30 3 = S 30 3 := by simp [Fbec, Flog, Rlog, rdI]
            have f226 : Fbec S tg 2 226 = S 226 := by simp [Fbec, Flog, Rlog, upI_ne]
            have hX := CX_tadd (i := tg) (t := t) (dl := T 30 2 + dl.toInt64) h9.1 htg (by rw [f23]; exact h400) (by rw [f3]; exact ht) rfl (by rw [f23, Fcnt_cong f226]; omega)
            rw [f23, Fcnt_cong f226, Fsch_comm] at hX
            have hb2 : tr (Fbec (Fsch0 S tg t) tg 2) = tr S + 1 := by
              rw [← Fsch_comm]
              have : tr (Fsch0 (Fbec S tg 2) tg t) = tr (Fbec S tg 2) := by simp [tr, Fsch0, rdI]
              rw [this, h9.2]
            refine q_aload_n dX5_schedule_73 rfl ?_
            refine q_iload_n dX5_schedule_74 rfl ?_
            refine q_iconst (2) dX5_schedule_75 (by decide) ?_
            refine q_callv [.int _, .int _] o_X5_become rfl k_X5_52 rfl (is_2 n) (by decide) rfl dX5_schedule_76 (by decide) (by omega) (by decide) (by omega) rfl (c_become l n (d - 1) I L tg (tr S) 2 hn htg hc (by omega) (by omega)) (fun _ _ _ h => h.elim) (fun I2 L2 hq => ?_)
            obtain ⟨-, e2, e3⟩ := hq
            subst e2
            cases e3.symm
            have g1 : Cbec I (tr S) tg 2 2 4 = I 2 4 := by simp [Cbec, Clog, rdI, ne_lid]
            have g2 : Cbec I (tr S) tg 2 (lid tg 2) 3 = nI (Fcnt S tg (N (S 30 23))) := by simpa [Cbec, Clog, rdI, lid_ne, lid_eq] using m1
            have g3 : Cbec I (tr S) tg 2 3 1 = nI (tr S + 1) := by simp [Cbec, Clog, rdI]
            rw [g1] at hX
            generalize Cbec I (tr S) tg 2 = I2 at *
            refine q_aload_n dX5_schedule_79 rfl ?_
            refine q_getI 2 5 4 (is_2 n) (by decide) rfl (by decide) f_X5_59 rfl dX5_schedule_80 ?_
            refine q_istore [(7, _), (6, _), (5, _), (0, _), (1, _), (2, _), (3, _), (4, _)] dX5_schedule_83 (by decide) rfl ?_
            refine q_aload_n dX5_schedule_85 rfl ?_
            refine q_dup dX5_schedule_86 rfl ?_
            refine q_getI 2 5 4 (is_2 n) (by decide) rfl (by decide) f_X5_59 rfl dX5_schedule_87 ?_
            refine q_iconst (1) dX5_schedule_90 (by decide) ?_
            refine q_iadd dX5_schedule_91 ?_
            refine q_putI 2 5 4 (is_2 n) (by decide) rfl (by decide) rfl rfl f_X5_59 rfl dX5_schedule_92 ?_
            refine q_aload dX5_schedule_95 rfl ?_
            refine q_getR (lid tg 0) 1 1 (lid tg 2) (vq_isL htg 0 (by decide) rfl) (by decide) rfl ((gr_lid tg 0 1 (by decide)).trans rfl) (by decide) f_X5_62 rfl dX5_schedule_97 ?_
            refine q_iload dX5_schedule_100 rfl ?_
            refine q_iload_n dX5_schedule_102 rfl ?_
            refine q_aload_n dX5_schedule_103 rfl ?_
            refine q_getL 2 5 2 (is_2 n) (by decide) rfl (by decide) f_X5_71 rfl dX5_schedule_104 ?_
            refine q_iload dX5_schedule_107 rfl ?_
            refine q_i2l dX5_schedule_109 ?_
            refine q_ladd dX5_schedule_110 ?_
            rw [g1]
            refine q_callv [.int _, .int _, .long _] o_X7_put rfl k_X5_75 rfl (vq_isL htg 2 (by decide) rfl) (by decide) rfl dX5_schedule_111 (by decide) (by omega) (by decide) (by omega) rfl (c_mput l n (d - 1) _ L tg (Fcnt S tg (N (S 30 23))) (I 2 4) t (L 2 2 + dl.toInt64) hn htg (by simpa [rdI, lid_ne] using g2) (by omega)) (fun _ _ _ h => h.elim) (fun I3 L3 hq => ?_)
            obtain ⟨-, e2, e3⟩ := hq
            subst e2
            subst e3
            rw [hck]
            refine q_aload_n dX5_schedule_114 rfl ?_
            refine q_getR 2 5 0 3 (is_2 n) (by decide) rfl rfl (by decide) f_X5_12 rfl dX5_schedule_115 ?_
            refine q_iload_n dX5_schedule_118 rfl ?_
            refine q_bipush (9) dX5_schedule_119 (by decide) ?_
            refine q_iload dX5_schedule_121 rfl ?_
            refine q_callv [.int _, .int _, .int _] o_X8_log rfl k_X5_48 rfl (is_3 n) (by decide) rfl dX5_schedule_123 (by decide) (by omega) (by decide) (by omega) rfl (c_log l n hn (d - 1) _ _ (tr S + 1) th 9 (I 2 4) (by simpa [Cmput, rdI, ne_lid] using g3) (by omega)) (fun _ _ _ h => h.elim) (fun I4 L4 hq => ?_)
            obtain ⟨-, e2, e3⟩ := hq
            subst e2
            subst e3
            refine q_iload dX5_schedule_126 rfl ?_
            refine q_iret dX5_schedule_128 rfl (by omega) ⟨by rw [h23], ?_⟩
            have := CX_log th 9 (I 2 4) hX (by rw [hb2]; omega)
            rw [hb2] at this
            simp only [h23] at this ⊢
            exact this
        · rw [i32_3, Decidable.not_not] at h49
          exact REJ _ rfl rfl rfl (Or.inl h49)
set_option maxHeartbeats 4000000 in
set_option maxRecDepth 100000 in
theorem c_shutAll_lp {Q : vq_R} {S J : MI} {T M : ML} {w nf fr : Nat} (q t : Int32) (hn : n < 2 ^ 31) (hb : tr S + 8 < 2 ^ 31) (hn8 : n ≤ 8) (hd : 2 ≤ d)
    (hQ : ∀ I' L', CX n (Fshut S n) (TShut S T q.toInt64 t.toInt64 n) w nf fr J M I' L' → Q none I' L') :
    ∀ m k, k + m = n → ∀ I L, CX n (Fshut S k) (TShut S T q.toInt64 t.toInt64 k) w nf fr J M I L → tr (Fshut S k) ≤ tr S + k → TShut S T q.toInt64 t.toInt64 k 30 2 = T 30 2 → VP l n m_X5_shutAll d 0 Q noX 0 2 [(3, .int (nI k)), (0, .ref 2), (1, .int q), (2, .int t)] [] I L := by
  intro m
  induction m with
  | zero =>
    intro k hk I L h htr hck
    refine q_iload_n dX5_shutAll_2 rfl ?_
    refine q_aload_n dX5_shutAll_3 rfl ?_
    refine q_getR 2 5 1 321 (is_2 n) (by decide) rfl rfl (by decide) f_X5_20 rfl dX5_shutAll_4 ?_
    refine q_alenI 321 (is_321 n) dX5_shutAll_7 ?_
    refine q_icmp_ge 70 dX5_shutAll_8 (by decide) (fun h8 => ?_) (fun h8 => ?_)
    · refine q_vret dX5_shutAll_70 rfl (by omega) (hQ _ _ ?_)
      have : k = n := by omega
      subst this
      exact h
    · exact absurd (by rw [gl_321]; exact nI_le (by omega) (by omega)) h8
  | succ m ih =>
    intro k hk I L h htr hck
    have hkn : k < n := by omega
    have hst : I (lid k 0) 2 = Fshut S k 208 k := (h.1.2.2.2.2.2 k hkn).2.2.1
    have hc := CX_cnt h
    have hcl : L 2 2 = T 30 2 := h.1.2.2.2.2.1.1.trans hck
    refine q_iload_n dX5_shutAll_2 rfl ?_
    refine q_aload_n dX5_shutAll_3 rfl ?_
    refine q_getR 2 5 1 321 (is_2 n) (by decide) rfl rfl (by decide) f_X5_20 rfl dX5_shutAll_4 ?_
    refine q_alenI 321 (is_321 n) dX5_shutAll_7 ?_
    refine q_icmp_ge 70 dX5_shutAll_8 (by decide) (fun h8 => ?_) (fun h8 => ?_)
    · exact absurd h8 (by rw [gl_321]; exact nI_ge (by omega) (by omega))
    · refine q_aload_n dX5_shutAll_11 rfl ?_
      refine q_getR 2 5 1 321 (is_2 n) (by decide) rfl rfl (by decide) f_X5_20 rfl dX5_shutAll_12 ?_
      refine q_iload_n dX5_shutAll_15 rfl ?_
      refine q_aald 321 (k) (lid (k) 0) hn (is_321 n) rfl hkn rfl dX5_shutAll_16 ?_
      refine q_astore [(4, _), (3, _), (0, _), (1, _), (2, _)] dX5_shutAll_17 (by decide) rfl ?_
      refine q_aload dX5_shutAll_19 rfl ?_
      refine q_getI (lid k 0) 1 2 (vq_isL hkn 0 (by decide) rfl) (by decide) rfl (by decide) f_X5_35 rfl dX5_shutAll_21 ?_
      refine q_iconst (3) dX5_shutAll_24 (by decide) ?_
      rw [hst]
      refine q_icmp_ge 64 dX5_shutAll_25 (by decide) (fun h25 => ?_) (fun h25 => ?_)
      · have e1 : ¬ Fshut S k 208 k < 3 := Int32.not_lt.mpr h25
        refine q_iinc [(3, _), (4, _), (0, _), (1, _), (2, _)] (nI (k + 1)) dX5_shutAll_64 rfl (nI_1 k) (by decide) rfl ?_
        refine q_goto 2 dX5_shutAll_67 (by decide) ?_
        refine q_lv [(3, .int (nI (k + 1))), (0, .ref 2), (1, .int q), (2, .int t)] (by simp) ?_
        have a1 : Fshut S (k + 1) = Fshut S k := by simp only [Fshut]; rw [if_neg e1]
        have a2 : TShut S T q.toInt64 t.toInt64 (k + 1) = TShut S T q.toInt64 t.toInt64 k := by simp only [TShut]; rw [if_neg e1]
        refine ih (k + 1) (by omega) I L ?_ ?_ ?_
        · rw [a1, a2]; exact h
        · rw [a1]; omega
        · rw [a2]; exact hck
      · have e1 : Fshut S k 208 k < 3 := Int32.not_le.mp h25
        have hX := CX_qt (i := k) q t (T 30 2) h e1
        have hY := CX_bec (i := k) (s := 3) hX (by omega) (by decide) (fun _ => by simp [Cqt, CqtL, Tqt, rdI, rdL])
        refine q_aload dX5_shutAll_28 rfl ?_
        refine q_iload_n dX5_shutAll_30 rfl ?_
        refine q_putI (lid k 0) 1 7 (vq_isL hkn 0 (by decide) rfl) (by decide) rfl (by decide) rfl rfl f_X5_101 rfl dX5_shutAll_31 ?_
        refine q_aload dX5_shutAll_34 rfl ?_
        refine q_iload_n dX5_shutAll_36 rfl ?_
        refine q_putI (lid k 0) 1 8 (vq_isL hkn 0 (by decide) rfl) (by decide) rfl (by decide) rfl rfl f_X5_104 rfl dX5_shutAll_37 ?_
        refine q_aload dX5_shutAll_40 rfl ?_
        refine q_aload_n dX5_shutAll_42 rfl ?_
        refine q_getL 2 5 2 (is_2 n) (by decide) rfl (by decide) f_X5_71 rfl dX5_shutAll_43 ?_
        refine q_putL (lid k 0) 1 9 (vq_isL hkn 0 (by decide) rfl) (by decide) rfl (by decide) rfl rfl f_X5_107 rfl dX5_shutAll_46 ?_
        refine q_aload dX5_shutAll_49 rfl ?_
        refine q_aload_n dX5_shutAll_51 rfl ?_
        refine q_getL 2 5 2 (is_2 n) (by decide) rfl (by decide) f_X5_71 rfl dX5_shutAll_52 ?_
        refine q_putL (lid k 0) 1 10 (vq_isL hkn 0 (by decide) rfl) (by decide) rfl (by decide) rfl rfl f_X5_110 rfl dX5_shutAll_55 ?_
        refine q_aload_n dX5_shutAll_58 rfl ?_
        refine q_iload_n dX5_shutAll_59 rfl ?_
        refine q_iconst (3) dX5_shutAll_60 (by decide) ?_
        have g1 : ∀ (L9 : ML), upL L (lid k 0) 9 (L 2 2) 2 2 = L 2 2 := fun _ => by simp [rdL, ne_lid]
        rw [g1 L, hcl]
        refine q_callv [.int _, .int _] o_X5_become rfl k_X5_52 rfl (is_2 n) (by decide) rfl dX5_shutAll_61 (by decide) (by omega) (by decide) (by omega) rfl (c_become l n (d - 1) _ _ k (tr (Fshut S k)) 3 hn hkn (by simpa [rdI, ne_lid] using hc) (by omega) (by omega)) (fun _ _ _ h => h.elim) (fun I2 L2 hq => ?_)
        obtain ⟨-, e2, e3⟩ := hq
        subst e2
        subst e3
        refine q_iinc [(3, _), (4, _), (0, _), (1, _), (2, _)] (nI (k + 1)) dX5_shutAll_64 rfl (nI_1 k) (by decide) rfl ?_
        refine q_goto 2 dX5_shutAll_67 (by decide) ?_
        refine q_lv [(3, .int (nI (k + 1))), (0, .ref 2), (1, .int q), (2, .int t)] (by simp) ?_
        have a1 : Fshut S (k + 1) = Fbec (Fshut S k) k 3 := by simp only [Fshut]; rw [if_pos e1]
        have a2 : TShut S T q.toInt64 t.toInt64 (k + 1) = Tqt (TShut S T q.toInt64 t.toInt64 k) k q.toInt64 t.toInt64 (T 30 2) := by simp only [TShut]; rw [if_pos e1]; rfl
        refine ih (k + 1) (by omega) _ _ ?_ ?_ ?_
        · rw [a1, a2]; exact hY.1
        · rw [a1, hY.2]; omega
        · rw [a2]; simpa [Tqt, rdL] using hck
set_option maxHeartbeats 4000000 in
set_option maxRecDepth 100000 in
theorem c_shutAll {S J : MI} {T M : ML} {w nf fr : Nat} (q t : Int32) (hn : n < 2 ^ 31) (h : CX n S T w nf fr J M I L) (hb : tr S + 8 < 2 ^ 31) (hd : 2 ≤ d) : VM l n m_X5_shutAll d 0 [.ref 2, .int q, .int t] I L (fun r I' L' => r = none ∧ CX n (Fshut S n) (TShut S T q.toInt64 t.toInt64 n) w nf fr J M I' L') noX := by
  refine VM_of _ [(0, .ref 2), (1, .int q), (2, .int t)] rfl (fun a => Nat.le_of_ble_eq_true rfl) rfl ?_
  have hn8 := h.2.1.1
  refine q_iconst (0) dX5_shutAll_0 (by decide) ?_
  refine q_istore_n [(3, _), (0, _), (1, _), (2, _)] dX5_shutAll_1 (by decide) rfl ?_
  exact c_shutAll_lp l n d q t hn hb hn8.2 hd (fun I' L' h' => ⟨rfl, h'⟩) n 0 (by omega) I L h (by exact Nat.le_refl _) rfl
/-- a loop that confirms its end -/
abbrev okC (S : MI) (T : ML) (i : Nat) : Prop := S 208 i = 3 ∧ (T 218 i = 0 ∨ T 219 i < T 30 2 - T 220 i ∨ T 218 i < T 30 2 - T 221 i)
theorem i64_0 (x : Int32) : (x.toInt64 = 0) = (x = 0) := by
  rw [eq_iff_iff]
  constructor
  · intro h
    have := congrArg Int64.toInt h
    rw [Int32.toInt_toInt64] at this
    exact Int32.toInt_inj.mp (by rw [this]; rfl)
  · intro h
    subst h
    rfl
set_option maxHeartbeats 4000000 in
set_option maxRecDepth 100000 in
theorem c_confirm {S J : MI} {T M : ML} {w nf fr : Nat} (i : Nat) (hn : n < 2 ^ 31) (h : CX n S T w nf fr J M I L) (hi : i < n) (hb : tr S + 2 < 2 ^ 31) (hd : 2 ≤ d) : VM l n m_X5_confirm d 0 [.ref 2, .int (nI i)] I L (fun r I' L' => r = some (.int (bI (okC S T i))) ∧ CX n (if okC S T i then Fbec (Fbec S i 4) i 5 else S) T w nf fr J M I' L') noX := by
  refine VM_of _ [(0, .ref 2), (1, .int (nI i))] rfl (fun a => Nat.le_of_ble_eq_true rfl) rfl ?_
  have hcl := (h.1.2.2.2.2.2 i hi).2.2
  have hst : I (lid i 0) 2 = S 208 i := hcl.1
  have hc := CX_cnt h
  have hck : L 2 2 = T 30 2 := h.1.2.2.2.2.1.1
  refine q_aload_n dX5_confirm_0 rfl ?_
  refine q_getR 2 5 1 321 (is_2 n) (by decide) rfl rfl (by decide) f_X5_20 rfl dX5_confirm_1 ?_
  refine q_iload_n dX5_confirm_4 rfl ?_
  refine q_aald 321 (i) (lid (i) 0) hn (is_321 n) rfl hi rfl dX5_confirm_5 ?_
  refine q_astore_n [(2, _), (0, _), (1, _)] dX5_confirm_6 (by decide) rfl ?_
  refine q_aload_n dX5_confirm_7 rfl ?_
  refine q_getI (lid i 0) 1 2 (vq_isL hi 0 (by decide) rfl) (by decide) rfl (by decide) f_X5_35 rfl dX5_confirm_8 ?_
  refine q_iconst (3) dX5_confirm_11 (by decide) ?_
  rw [hst]
  refine q_icmp_ne 26 dX5_confirm_12 (by decide) (fun h12 => ?_) (fun h12 => ?_)
  · refine q_iconst (0) dX5_confirm_26 (by decide) ?_
    refine q_zret dX5_confirm_27 rfl (by omega) (by decide) ?_
    have : ¬ okC S T i := fun q => h12 q.1
    rw [if_neg this]
    exact ⟨by rw [bI_f this], h⟩
  · obtain ⟨b1, b2, b3, b4⟩ := hcl.2.2.2.2 (by rw [h12]; decide)
    refine q_aload_n dX5_confirm_15 rfl ?_
    refine q_aload_n dX5_confirm_16 rfl ?_
    refine q_getL 2 5 2 (is_2 n) (by decide) rfl (by decide) f_X5_71 rfl dX5_confirm_17 ?_
    refine q_calli [.long _] o_X1_isQuiet rfl k_X5_113 rfl (vq_isL hi 0 (by decide) rfl) (by decide) rfl dX5_confirm_20 (by decide) (by omega) (by decide) (by omega) (Or.inr rfl) (c_isQuiet l n (d - 1) I L i (L 2 2) hi) (fun _ _ _ h => h.elim) (fun r1 I1 L1 hq => ?_)
    obtain ⟨e1, e2, e3⟩ := hq
    cases e1
    cases e2.symm
    cases e3.symm
    have hiff : (I (lid i 0) 7 = 0 ∨ (I (lid i 0) 8).toInt64 < L 2 2 - L (lid i 0) 9 ∨ (I (lid i 0) 7).toInt64 < L 2 2 - L (lid i 0) 10) ↔ okC S T i := by
      unfold okC
      rw [← b1, ← b2, ← b3, ← b4, hck, i64_0]
      exact ⟨fun q => ⟨h12, q⟩, fun q => q.2⟩
    refine q_if_ne 28 dX5_confirm_23 (by decide) (fun h23 => ?_) (fun h23 => ?_)
    · have h9 : okC S T i := hiff.mp (by rw [ne_eq, bI_z, Decidable.not_not] at h23; exact h23)
      have hY := CX_bec (i := i) (s := 4) h (by omega) (by decide) (fun _ => ⟨b1, b2, b3, b4⟩)
      have hZ := CX_bec (i := i) (s := 5) hY.1 (by rw [hY.2]; omega) (by decide) (fun _ => by simpa [Cbec, Clog, rdI, lid_ne, lid_eq] using (⟨b1, b2, b3, b4⟩ : _ ∧ _ ∧ _ ∧ _))
      rw [hY.2] at hZ
      refine q_aload_n dX5_confirm_28 rfl ?_
      refine q_iload_n dX5_confirm_29 rfl ?_
      refine q_iconst (4) dX5_confirm_30 (by decide) ?_
      refine q_callv [.int _, .int _] o_X5_become rfl k_X5_52 rfl (is_2 n) (by decide) rfl dX5_confirm_31 (by decide) (by omega) (by decide) (by omega) rfl (c_become l n (d - 1) I L i (tr S) 4 hn hi hc (by omega) (by omega)) (fun _ _ _ h => h.elim) (fun I2 L2 hq => ?_)
      obtain ⟨-, e2, e3⟩ := hq
      subst e2
      cases e3.symm
      refine q_aload_n dX5_confirm_34 rfl ?_
      refine q_iload_n dX5_confirm_35 rfl ?_
      refine q_iconst (5) dX5_confirm_36 (by decide) ?_
      refine q_callv [.int _, .int _] o_X5_become rfl k_X5_52 rfl (is_2 n) (by decide) rfl dX5_confirm_37 (by decide) (by omega) (by decide) (by omega) rfl (c_become l n (d - 1) _ L i (tr S + 1) 5 hn hi (by simp [Cbec, Clog, rdI]) (by omega) (by omega)) (fun _ _ _ h => h.elim) (fun I3 L3 hq => ?_)
      obtain ⟨-, e2, e3⟩ := hq
      subst e2
      cases e3.symm
      refine q_iconst (1) dX5_confirm_40 (by decide) ?_
      refine q_zret dX5_confirm_41 rfl (by omega) (by decide) ?_
      rw [if_pos h9]
      exact ⟨by rw [bI_t h9], hZ.1⟩
    · have h9 : ¬ okC S T i := fun q => by rw [bI_z] at h23; exact h23 (hiff.mpr q)
      refine q_iconst (0) dX5_confirm_26 (by decide) ?_
      refine q_zret dX5_confirm_27 rfl (by omega) (by decide) ?_
      rw [if_neg h9]
      exact ⟨by rw [bI_f h9], h⟩
end

