/-- as gc_tell, where the thread may be the host: then nothing runs now -/
theorem gc_tell0 {n : Nat} {D : Nat → Nat → Nat → PX → PX} {th : Int32} (hD : nbt th n → hypD n D) (nf fr p t : Nat) (x : PX) (h : Inv n x.1) (hw : x.2.2 ≤ 1000) (hp : p < N (x.1 30 27)) (ht : t < N (x.1 30 3)) (hb : Ph x + 101 < 2 ^ 31) : gc n 2 x (Ltell D th nf fr p t x) := by
  by_cases e : x.1 228 p = th
  · exact gc_tell (hD (by rw [← e]; exact (h.2.2.2.1.2 p hp).1)) th nf fr p t x h hw hp ht hb
  · have hD0 : hypD n (fun _ _ _ x => x) := fun _ _ _ x h hw _ _ => (gc.rf h hw).up (by omega)
    have := gc_tell hD0 th nf fr p t x h hw hp ht hb
    unfold Ltell at this ⊢
    rw [if_neg (fun q => e q.1)] at this ⊢
    exact this
section
variable (l : Launch) (n : Nat) (hn : n < 2 ^ 31) (d : Nat) (I : MI) (L : ML)
set_option maxHeartbeats 4000000 in
set_option maxRecDepth 100000 in
theorem c_tell {S J : MI} {T M : ML} {w nf fr g : Nat} {D : Nat → Nat → Nat → PX → PX} {th : Int32} (hcD : nbt th n → cDo l n th g D) (hD : nbt th n → hypD n D) (p t : Nat) (hn : n < 2 ^ 31) (h : CX n S T w nf fr J M I L) (hw : w ≤ 1000) (hp : p < N (S 30 27)) (ht : t < N (S 30 3)) (hg : 13 ≤ nf + 2 * fr + (g + 1)) (hnf : nf ≤ 4) (hfr : fr ≤ 4) (hb : Ph (S, T, w) + 101 < 2 ^ 31) (hd : 10 * g + 11 ≤ d) : VM l n m_X4_tell d 0 [.ref 1, .int th, .int (nI p), .int (nI t)] I L (fun r I' L' => r = none ∧ CX n (Ltell D th nf fr p t (S, T, w)).1 (Ltell D th nf fr p t (S, T, w)).2.1 (Ltell D th nf fr p t (S, T, w)).2.2 nf fr J M I' L') noX := by
  refine VM_of _ [(0, .ref 1), (1, .int th), (2, .int (nI p)), (3, .int (nI t))] rfl (fun a => Nat.le_of_ble_eq_true rfl) rfl ?_
  have hp32 := h.2.1.2.2.2.1.1.2
  have ht24 := h.2.1.2.2.1.1.2
  have hb1 : tr S + 101 < 2 ^ 31 := Ph_tr hb
  have hS0 : I 350 p = S 228 p := congrFun h.1.2.2.1.2.1 p
  obtain ⟨ex, hex, hexn⟩ : ∃ ex, S 228 p = nI ex ∧ ex < n := ⟨_, ((h.2.1.2.2.2.1.2 p hp).1).1, ((h.2.1.2.2.2.1.2 p hp).1).2⟩
  have hN : N (S 228 p) = ex := by rw [hex]; exact N_nI (by omega)
  have hNt : N (nI t) = t := N_nI (by omega)
  have hc := CX_cnt h
  have hcnt := h.2.2.1
  have ENQ : ∀ lv, vq_lk lv 0 = some (.ref 1) → vq_lk lv 1 = some (.int th) → vq_lk lv 3 = some (.int (nI t)) → vq_lk lv 4 = some (.int (nI ex)) → ¬ (S 228 p = th ∧ nf < 4) → VP l n m_X4_tell d 0 (fun r I' L' => r = none ∧ CX n (Ltell D th nf fr p t (S, T, w)).1 (Ltell D th nf fr p t (S, T, w)).2.1 (Ltell D th nf fr p t (S, T, w)).2.2 nf fr J M I' L') noX 0 25 lv [] I L := by
    intro lv l0 l1 l3 l4 hr
    have e9 : Ltell D th nf fr p t (S, T, w) = (Fput S th ex 1 (nI t) 0 (nI t), T, w) := by
      unfold Ltell
      rw [if_neg hr]
      show (Fput S th (N (S 228 p)) 1 (nI t) 0 (nI t), T, w) = _
      rw [hN]
    rw [e9]
    refine q_aload_n dX4_tell_25 l0 ?_
    refine q_getR 1 4 3 2 (is_1 n) (by decide) rfl rfl (by decide) f_X4_37 rfl dX4_tell_26 ?_
    refine q_iload_n dX4_tell_29 l1 ?_
    refine q_iload dX4_tell_30 l4 ?_
    refine q_iconst 1 dX4_tell_32 (by decide) ?_
    refine q_iload_n dX4_tell_33 l3 ?_
    refine q_iconst 0 dX4_tell_34 (by decide) ?_
    refine q_calli [.int _, .int _, .int _, .int _, .int _] o_X5_enqueue rfl k_X4_195 rfl (is_2 n) (by decide) rfl dX4_tell_35 (Nat.le_of_ble_eq_true rfl) (by omega) (by decide) (by omega) (Or.inr rfl) (c_enqueue l n (d - 1) I L ex th 1 (nI t) 0 hn h hexn (Or.inr ⟨Or.inr rfl, ⟨by rw [hNt], by rw [hNt]; exact ht⟩⟩) (by omega) (by omega)) (fun _ _ _ h => h.elim) (fun r I2 L2 hq => ?_)
    obtain ⟨-, hX⟩ := hq
    refine q_pop dX4_tell_38 rfl ?_
    refine q_vret dX4_tell_39 rfl (by omega) ⟨rfl, ?_⟩
    rw [if_neg (by decide)] at hX
    exact hX
  refine q_aload_n dX4_tell_0 rfl ?_
  refine q_getR 1 4 1 5 (is_1 n) (by decide) rfl rfl (by decide) f_X4_21 rfl dX4_tell_1 ?_
  refine q_getR 5 2 0 350 (is_5 n) (by decide) rfl rfl (by decide) f_X4_189 rfl dX4_tell_4 ?_
  refine q_iload_n dX4_tell_7 rfl ?_
  refine q_iald 350 (p) hn (is_350 n) rfl (by show p < 32; omega) dX4_tell_8 ?_
  rw [hS0, hex]
  refine q_istore [(4, _), (0, _), (1, _), (2, _), (3, _)] dX4_tell_9 (by decide) rfl ?_
  refine q_iload_n dX4_tell_11 rfl ?_
  refine q_iload dX4_tell_12 rfl ?_
  refine q_icmp_ne 25 dX4_tell_14 (by decide) (fun h14 => ?_) (fun h14 => ?_)
  · exact ENQ _ rfl rfl rfl rfl (fun q => h14 (by rw [← q.1, hex]))
  · refine q_aload_n dX4_tell_17 rfl ?_
    refine q_getI 1 4 6 (is_1 n) (by decide) rfl (by decide) f_X4_183 rfl dX4_tell_18 ?_
    refine q_iconst (4) dX4_tell_21 (by decide) ?_
    rw [hcnt.2.1]
    refine q_icmp_lt 40 dX4_tell_22 (by decide) (fun h22 => ?_) (fun h22 => ?_)
    · have h4 : nf < 4 := (nI_ltI (by omega) (by omega)).mp h22
      have hr : S 228 p = th ∧ nf < 4 := ⟨by rw [hex, h14], h4⟩
      have hnb : nbt th n := by rw [h14]; exact ⟨by rw [N_nI (by omega)], by rw [N_nI (by omega)]; exact hexn⟩
      have e9 : Ltell D th nf fr p t (S, T, w) = D (nf + 1) fr t (Flog S th 5 (nI t), T, w) := by
        unfold Ltell
        rw [if_pos hr]
      rw [e9]
      have g1 := gc_log (T := T) (w := w) th 5 (nI t) h.2.1 hw (by omega)
      have hph := g1.2
      have h1 := CX_w (I' := upI I 1 6 (nI nf + 1)) w (nf + 1) fr h (fun i hi => upI_ne hi) (by simpa [rdI] using hcnt.1) (by simp [rdI, nI_1]) (by simpa [rdI] using hcnt.2.2)
      have h2 := CX_log th 5 (nI t) h1 (by omega)
      refine q_aload_n dX4_tell_40 rfl ?_
      refine q_dup dX4_tell_41 rfl ?_
      refine q_getI 1 4 6 (is_1 n) (by decide) rfl (by decide) f_X4_183 rfl dX4_tell_42 ?_
      refine q_iconst (1) dX4_tell_45 (by decide) ?_
      refine q_iadd dX4_tell_46 ?_
      refine q_putI 1 4 6 (is_1 n) (by decide) rfl (by decide) rfl rfl f_X4_183 rfl dX4_tell_47 ?_
      refine q_aload_n dX4_tell_50 rfl ?_
      refine q_getR 1 4 4 3 (is_1 n) (by decide) rfl rfl (by decide) f_X4_45 rfl dX4_tell_51 ?_
      refine q_iload_n dX4_tell_54 rfl ?_
      refine q_iconst (5) dX4_tell_55 (by decide) ?_
      refine q_iload_n dX4_tell_56 rfl ?_
      rw [hcnt.2.1]
      refine q_callv [.int _, .int _, .int _] o_X8_log rfl k_X4_102 rfl (is_3 n) (by decide) rfl dX4_tell_57 (Nat.le_of_ble_eq_true rfl) (by omega) (by decide) (by omega) rfl (c_log l n hn (d - 1) _ L (tr S) th 5 (nI t) (by simpa [rdI] using hc) (by omega)) (fun _ _ _ h => h.elim) (fun I2 L2 hq => ?_)
      obtain ⟨-, e2, e3⟩ := hq
      subst e2
      cases e3.symm
      refine q_aload_n dX4_tell_60 rfl ?_
      refine q_iload_n dX4_tell_61 rfl ?_
      refine q_iload_n dX4_tell_62 rfl ?_
      refine q_iconst (0) dX4_tell_63 (by decide) ?_
      refine q_callv [.int _, .int _, .int _] o_X4_doOrders rfl k_X4_112 rfl (is_1 n) (by decide) rfl dX4_tell_64 (Nat.le_of_ble_eq_true rfl) (by omega) (by decide) (by omega) rfl (hcD hnb (d - 1) (nf + 1) fr t (Flog S th 5 (nI t), T, w) _ L J M (by omega) (by omega) (by omega) hfr h2 hw (by show t < N (Flog S th 5 (nI t) 30 3); rw [show Flog S th 5 (nI t) 30 3 = S 30 3 from g1.1.2.1.1.2.1]; exact ht) (by omega)) (fun _ _ _ h => h.elim) (fun I3 L3 hq => ?_)
      obtain ⟨-, hX⟩ := hq
      have hcX := hX.2.2.1
      refine q_aload_n dX4_tell_67 rfl ?_
      refine q_dup dX4_tell_68 rfl ?_
      refine q_getI 1 4 6 (is_1 n) (by decide) rfl (by decide) f_X4_183 rfl dX4_tell_69 ?_
      refine q_iconst (1) dX4_tell_72 (by decide) ?_
      refine q_isub dX4_tell_73 ?_
      refine q_putI 1 4 6 (is_1 n) (by decide) rfl (by decide) rfl rfl f_X4_183 rfl dX4_tell_74 ?_
      refine q_vret dX4_tell_77 rfl (by omega) ⟨rfl, ?_⟩
      refine CX_w _ nf fr hX (fun i hi => upI_ne hi) (by simpa [rdI] using hcX.1) ?_ (by simpa [rdI] using hcX.2.2) hX.2.2.2.2
      simp only [rdI]
      simp [hcX.2.1, nI_sub1]
    · exact ENQ _ rfl rfl rfl rfl (fun q => h22 (by have := (nI_ltI (a := nf) (b := 4) (by omega) (by omega)).mpr q.2; exact this))
set_option maxHeartbeats 4000000 in
set_option maxRecDepth 100000 in
theorem c_settle_lp {Q : vq_R} {J : MI} {M : ML} {nf fr g : Nat} {D : Nat → Nat → Nat → PX → PX} {th : Int32} (hcD : nbt th n → cDo l n th g D) (hD : nbt th n → hypD n D) (p k : Nat) (s v : Int32) (hn : n < 2 ^ 31) (hg : 13 ≤ nf + 2 * fr + (g + 1)) (hnf : nf ≤ 4) (hfr : fr ≤ 4) (hd : 10 * g + 12 ≤ d) (hk : k ≤ 6) :
    ∀ (m : Nat) (x : PX) (I : MI) (L : ML), CX n x.1 x.2.1 x.2.2 nf fr J M I L → x.2.2 ≤ 1000 → p < N (x.1 30 27) → m ≤ k → (∀ j, j < k → nbt (x.1 233 (6 * p + j)) (N (x.1 30 3))) → x.1 229 p ≠ 0 → Ph x + 2 * m + 100 < 2 ^ 31 → (∀ I' L', CX n (Ltells D th nf fr p k m x).1 (Ltells D th nf fr p k m x).2.1 (Ltells D th nf fr p k m x).2.2 nf fr J M I' L' → Q (some (.int 1)) I' L') →
    VP l n m_X4_settle d 0 Q noX 0 40 [(6, .int (nI (k - m))), (5, .int (nI k)), (0, .ref 1), (1, .int th), (2, .int (nI p)), (3, .int s), (4, .int v)] [] I L := by
  intro m
  induction m with
  | zero =>
    intro x I L h hw hp hm hl hdn hb hQ
    refine q_iload dX4_settle_40 rfl ?_
    refine q_iload dX4_settle_42 rfl ?_
    refine q_icmp_ge 74 dX4_settle_44 (by decide) (fun h44 => ?_) (fun h44 => ?_)
    · refine q_iconst (1) dX4_settle_74 (by decide) ?_
      exact q_zret dX4_settle_75 rfl (by omega) (by decide) (hQ _ _ h)
    · exact absurd (nI_le (by omega) (by omega)) h44
  | succ m ih =>
    intro x I L h hw hp hm hl hdn hb hQ
    have hp32 := h.2.1.2.2.2.1.1.2
    have hj := hl (k - (m + 1)) (by omega)
    have hS3 : I 355 = x.1 233 := h.1.2.2.1.2.2.2.2.2.2
    refine q_iload dX4_settle_40 rfl ?_
    refine q_iload dX4_settle_42 rfl ?_
    refine q_icmp_ge 74 dX4_settle_44 (by decide) (fun h44 => ?_) (fun h44 => ?_)
    · exact absurd h44 (nI_ge (by omega) (by omega))
    · refine q_aload_n dX4_settle_47 rfl ?_
      refine q_iload_n dX4_settle_48 rfl ?_
      refine q_iload_n dX4_settle_49 rfl ?_
      refine q_aload_n dX4_settle_50 rfl ?_
      refine q_getR 1 4 1 5 (is_1 n) (by decide) rfl rfl (by decide) f_X4_21 rfl dX4_settle_51 ?_
      refine q_getR 5 2 5 355 (is_5 n) (by decide) rfl rfl (by decide) f_X4_236 rfl dX4_settle_54 ?_
      refine q_iload_n dX4_settle_57 rfl ?_
      refine q_bipush (6) dX4_settle_58 (by decide) ?_
      refine q_imul dX4_settle_60 ?_
      refine q_iload dX4_settle_61 rfl ?_
      refine q_iadd dX4_settle_63 ?_
      refine q_iald 355 (6 * p + (k - (m + 1))) hn (is_355 n) (ix6 p _ rfl rfl) (by show _ < 192; omega) dX4_settle_64 ?_
      rw [hS3, hj.1]
      refine q_callv [.int _, .int _, .int _] o_X4_tell rfl k_X4_239 rfl (is_1 n) (by decide) rfl dX4_settle_65 (Nat.le_of_ble_eq_true rfl) (by omega) (by decide) (by omega) rfl (c_tell l n (d - 1) I L hcD hD p (N (x.1 233 (6 * p + (k - (m + 1))))) hn h hw hp hj.2 hg hnf hfr (by show Ph x + 101 < 2 ^ 31; omega) (by omega)) (fun _ _ _ h => h.elim) (fun I2 L2 hq => ?_)
      obtain ⟨-, hX⟩ := hq
      have hcg : gc n 2 x (Ltell D th nf fr p (N (x.1 233 (6 * p + (k - (m + 1))))) x) := gc_tell0 hD nf fr p _ x h.2.1 hw hp hj.2 (by omega)
      have hph := hcg.2
      have e3 := hcg.1.2.1.1.2.1
      have e27 := hcg.1.2.1.1.2.2.1
      have hdd := hcg.1.2.1.2.1 p hdn
      refine q_iinc [(6, _), (5, _), (0, _), (1, _), (2, _), (3, _), (4, _)] (nI (k - m)) dX4_settle_68 rfl (by rw [show k - m = k - (m + 1) + 1 by omega]; exact nI_1 _) (by decide) rfl ?_
      refine q_goto 40 dX4_settle_71 (by decide) ?_
      refine ih (Ltell D th nf fr p (N (x.1 233 (6 * p + (k - (m + 1))))) x) I2 L2 hX hcg.1.2.2.2 (by rw [e27]; exact hp) (by omega) (fun j hj9 => by rw [hdd.2 j (by omega), e3]; exact hl j hj9) hdd.1 (by omega) hQ
end

