/-! ===== the reference's batch, and its confirm ===== -/
abbrev okR (I : MI) (L : ML) (i : Nat) : Prop := L 218 i = 0 ∨ L 219 i < L 30 2 - L 220 i ∨ L 218 i < L 30 2 - L 221 i
theorem Rfd_lt (S : MI) (T : ML) (i : Nat) (c : Int64) (m : Nat) (hm : m < 2 ^ 31) : (Rfd S T i c m < 0 ↔ Rfd S T i c m = -1) ∧ (Rfd S T i c m ≠ -1 → ∃ j, j < m ∧ Rfd S T i c m = nI j) := by
  rcases Rfd_spec S T i c m hm with ⟨e, -⟩ | ⟨j, hj, e, -⟩
  · rw [e]
    exact ⟨⟨fun _ => rfl, fun _ => by decide⟩, fun q => absurd rfl q⟩
  · rw [e]
    exact ⟨⟨fun q => absurd q (nI_pos (by omega)), fun q => absurd q.symm (nI_ne_m1 (by omega))⟩, fun _ => ⟨j, hj, rfl⟩⟩
theorem Inv_mv {n : Nat} {S : MI} {T : ML} {i t : Nat} (h : Inv n S) (hi : i < n) (hq : N (S 209 i) < 24) (ht : t < N (S 30 23)) (hr : Rfd S T i (T 30 2) (N (S 30 23)) = nI t) : Inv n (Fmv S T i) := by
  have hM := h.2.2.2.2.2.1
  have hN : N (nI t) = t := N_nI (by have := hM.1.2; omega)
  unfold Fmv
  rw [hr, hN]
  exact Inv_drop (Inv_enq0 h hi hq (Or.inr ⟨Or.inl rfl, (hM.2 t ht).1⟩))
section
variable (l : Launch) (n : Nat) (hn : n < 2 ^ 31) (d : Nat) (I : MI) (L : ML)
set_option maxHeartbeats 4000000 in
set_option maxRecDepth 100000 in
theorem r_confirm (i : Nat) (hn : n < 2 ^ 31) (hi : i < 8) (hc : I 30 41 = nI (tr I)) (hcb : tr I + 2 < 2 ^ 31) (hd : 2 ≤ d) : VM l n m_X10_confirm d 0 [.ref 30, .int (nI i)] I L (fun r I' L' => r = some (.int (if okR I L i then 3 else 0)) ∧ I' = (if okR I L i then Fbec (Fbec I i 4) i 5 else I) ∧ L' = L) noX := by
  refine VM_of _ [(0, .ref 30), (1, .int (nI i))] rfl (fun a => Nat.le_of_ble_eq_true rfl) rfl ?_
  have kyes : okR I L i → VP l n m_X10_confirm d 0 (fun r I' L' => r = some (.int (if okR I L i then 3 else 0)) ∧ I' = (if okR I L i then Fbec (Fbec I i 4) i 5 else I) ∧ L' = L) noX 0 53 [(0, .ref 30), (1, .int (nI i))] [] I L := by
    intro h
    refine q_iconst (1) dX10_confirm_53 (by decide) ?_
    refine q_goto 58 dX10_confirm_54 (by decide) ?_
    refine q_istore_n [(2, _), (0, _), (1, _)] dX10_confirm_58 (by decide) rfl ?_
    refine q_iload_n dX10_confirm_59 rfl ?_
    refine q_if_ne 65 dX10_confirm_60 (by decide) (fun _ => ?_) (fun q => absurd q (by decide))
    refine q_aload_n dX10_confirm_65 rfl ?_
    refine q_iload_n dX10_confirm_66 rfl ?_
    refine q_iconst (4) dX10_confirm_67 (by decide) ?_
    refine q_callv [.int _, .int _] o_X10_become rfl k_X10_192 rfl (is_30 n) (by decide) rfl dX10_confirm_68 (Nat.le_of_ble_eq_true rfl) (by omega) (by decide) (by omega) rfl (r_become l n (d - 1) I L i 4 hn hi hc (by omega) (by omega)) (fun _ _ _ h => h.elim) (fun I1 L1 hq1 => ?_)
    obtain ⟨-, e2, e3⟩ := hq1
    subst e2
    cases e3.symm
    have t1 := tr_becq I i 4 (by omega)
    refine q_aload_n dX10_confirm_71 rfl ?_
    refine q_iload_n dX10_confirm_72 rfl ?_
    refine q_iconst (5) dX10_confirm_73 (by decide) ?_
    refine q_callv [.int _, .int _] o_X10_become rfl k_X10_192 rfl (is_30 n) (by decide) rfl dX10_confirm_74 (Nat.le_of_ble_eq_true rfl) (by omega) (by decide) (by omega) rfl (r_become l n (d - 1) (Fbec I i 4) L i 5 hn hi (by rw [t1]; simp [Fbec, Flog, Rlog, rdI, tr]) (by rw [t1]; omega) (by omega)) (fun _ _ _ h => h.elim) (fun I1 L1 hq1 => ?_)
    obtain ⟨-, e2, e3⟩ := hq1
    subst e2
    cases e3.symm
    refine q_iconst (3) dX10_confirm_77 (by decide) ?_
    exact q_iret dX10_confirm_78 rfl (by omega) ⟨by rw [if_pos h], by rw [if_pos h], rfl⟩
  refine q_aload_n dX10_confirm_0 rfl ?_
  refine q_getR 30 10 18 218 (is_30 n) (by decide) rfl rfl (by decide) f_X10_53 rfl dX10_confirm_1 ?_
  refine q_iload_n dX10_confirm_4 rfl ?_
  refine q_lald 218 (_) hn (is_218 n) rfl (by show _ < 8; omega) dX10_confirm_5 ?_
  refine q_lconst (0) dX10_confirm_6 (by decide) ?_
  refine q_lcmp dX10_confirm_7 ?_
  refine q_if_eq 53 dX10_confirm_8 (by decide) (fun h8 => kyes (Or.inl (by rwa [lg_cmp_eq] at h8))) (fun h8 => ?_)
  rw [lg_cmp_eq] at h8
  refine q_aload_n dX10_confirm_11 rfl ?_
  refine q_getL 30 10 2 (is_30 n) (by decide) rfl (by decide) f_X10_182 rfl dX10_confirm_12 ?_
  refine q_aload_n dX10_confirm_15 rfl ?_
  refine q_getR 30 10 20 220 (is_30 n) (by decide) rfl rfl (by decide) f_X10_60 rfl dX10_confirm_16 ?_
  refine q_iload_n dX10_confirm_19 rfl ?_
  refine q_lald 220 (_) hn (is_220 n) rfl (by show _ < 8; omega) dX10_confirm_20 ?_
  refine q_lsub dX10_confirm_21 ?_
  refine q_aload_n dX10_confirm_22 rfl ?_
  refine q_getR 30 10 19 219 (is_30 n) (by decide) rfl rfl (by decide) f_X10_57 rfl dX10_confirm_23 ?_
  refine q_iload_n dX10_confirm_26 rfl ?_
  refine q_lald 219 (_) hn (is_219 n) rfl (by show _ < 8; omega) dX10_confirm_27 ?_
  refine q_lcmp dX10_confirm_28 ?_
  refine q_if_gt 53 dX10_confirm_29 (by decide) (fun h29 => kyes (Or.inr (Or.inl (by rwa [lg_cmp_gt] at h29)))) (fun h29 => ?_)
  rw [lg_cmp_gt] at h29
  refine q_aload_n dX10_confirm_32 rfl ?_
  refine q_getL 30 10 2 (is_30 n) (by decide) rfl (by decide) f_X10_182 rfl dX10_confirm_33 ?_
  refine q_aload_n dX10_confirm_36 rfl ?_
  refine q_getR 30 10 21 221 (is_30 n) (by decide) rfl rfl (by decide) f_X10_63 rfl dX10_confirm_37 ?_
  refine q_iload_n dX10_confirm_40 rfl ?_
  refine q_lald 221 (_) hn (is_221 n) rfl (by show _ < 8; omega) dX10_confirm_41 ?_
  refine q_lsub dX10_confirm_42 ?_
  refine q_aload_n dX10_confirm_43 rfl ?_
  refine q_getR 30 10 18 218 (is_30 n) (by decide) rfl rfl (by decide) f_X10_53 rfl dX10_confirm_44 ?_
  refine q_iload_n dX10_confirm_47 rfl ?_
  refine q_lald 218 (_) hn (is_218 n) rfl (by show _ < 8; omega) dX10_confirm_48 ?_
  refine q_lcmp dX10_confirm_49 ?_
  refine q_if_le 57 dX10_confirm_50 (by decide) (fun h50 => ?_) (fun h50 => kyes (Or.inr (Or.inr (by rw [lg_cmp_le, Int64.not_le] at h50; exact h50))))
  rw [lg_cmp_le] at h50
  have hno : ¬ okR I L i := fun q => q.elim h8 (fun q => q.elim h29 (fun q => absurd q (Int64.not_lt.mpr h50)))
  refine q_iconst (0) dX10_confirm_57 (by decide) ?_
  refine q_istore_n [(2, _), (0, _), (1, _)] dX10_confirm_58 (by decide) rfl ?_
  refine q_iload_n dX10_confirm_59 rfl ?_
  refine q_if_ne 65 dX10_confirm_60 (by decide) (fun q => absurd rfl q) (fun _ => ?_)
  refine q_iconst (0) dX10_confirm_63 (by decide) ?_
  exact q_iret dX10_confirm_64 rfl (by omega) ⟨by rw [if_neg hno], by rw [if_neg hno], rfl⟩
set_option maxHeartbeats 4000000 in
set_option maxRecDepth 100000 in
theorem r_bb_in {Q : vq_R} (i z : Nat) (hn : n < 2 ^ 31) (hz : I 30 23 = nI z) (hzb : z ≤ 400) (hQ : VP l n m_X10_beginBatch d 0 Q noX 0 97 [(2, .int (Rfd I L i (L 30 2) z)), (0, .ref 30), (1, .int (nI i))] [] I L) : ∀ m k, k + m = z → VP l n m_X10_beginBatch d 0 Q noX 0 21 [(3, .int (nI k)), (2, .int (Rfd I L i (L 30 2) k)), (0, .ref 30), (1, .int (nI i))] [] I L := by
  intro m
  induction m with
  | zero =>
    intro k hk
    refine q_iload_n dX10_beginBatch_21 rfl ?_
    refine q_aload_n dX10_beginBatch_22 rfl ?_
    refine q_getI 30 10 23 (is_30 n) (by decide) rfl (by decide) f_X10_196 rfl dX10_beginBatch_23 ?_
    rw [hz]
    refine q_icmp_ge 97 dX10_beginBatch_26 (by decide) (fun _ => ?_) (fun q => absurd (nI_le (by omega) (by omega)) q)
    rw [show k = z by omega]
    exact q_lv [(2, .int (Rfd I L i (L 30 2) z)), (0, .ref 30), (1, .int (nI i))] (fun q hq => List.mem_cons_of_mem _ hq) hQ
  | succ m ih =>
    intro k hk
    have key : ∀ v, v = Rfd I L i (L 30 2) (k + 1) → ∀ x4, VP l n m_X10_beginBatch d 0 Q noX 0 90 [(4, .int x4), (3, .int (nI k)), (2, .int (Rfd I L i (L 30 2) k)), (0, .ref 30), (1, .int (nI i))] [.int v] I L := by
      intro v hv x4
      refine q_istore_n [(2, _), (4, _), (3, _), (0, _), (1, _)] dX10_beginBatch_90 (by decide) rfl ?_
      refine q_iinc [(3, _), (2, _), (4, _), (0, _), (1, _)] (nI (k + 1)) dX10_beginBatch_91 rfl (nI_1 k) (by decide) rfl ?_
      refine q_goto 21 dX10_beginBatch_94 (by decide) ?_
      rw [hv]
      refine q_lv [(3, .int (nI (k + 1))), (2, .int (Rfd I L i (L 30 2) (k + 1))), (0, .ref 30), (1, .int (nI i))] (fun q hq => ?_) (ih (k + 1) (by omega))
      simp only [List.mem_cons, List.not_mem_nil, or_false] at hq ⊢
      rcases hq with h | h | h | h <;> simp [h]
    have hstep : ∀ b, (if (I 226 k = nI i ∧ L 225 k ≤ L 30 2) ∧ (Rfd I L i (L 30 2) k < 0 ∨ L 225 k < L 225 (N (Rfd I L i (L 30 2) k))) then nI k else Rfd I L i (L 30 2) k) = b → Rfd I L i (L 30 2) (k + 1) = b := fun b hb => by rw [← hb]; rfl
    obtain ⟨r1, r2⟩ := Rfd_lt I L i (L 30 2) k (by omega)
    have knot : ¬ (I 226 k = nI i ∧ L 225 k ≤ L 30 2) → VP l n m_X10_beginBatch d 0 Q noX 0 57 [(3, .int (nI k)), (2, .int (Rfd I L i (L 30 2) k)), (0, .ref 30), (1, .int (nI i))] [] I L := by
      intro hno
      refine q_iconst (0) dX10_beginBatch_57 (by decide) ?_
      refine q_istore [(4, _), (3, _), (2, _), (0, _), (1, _)] dX10_beginBatch_58 (by decide) rfl ?_
      refine q_iload dX10_beginBatch_60 rfl ?_
      refine q_if_eq 89 dX10_beginBatch_62 (by decide) (fun _ => ?_) (fun q => absurd rfl q)
      refine q_iload_n dX10_beginBatch_89 rfl ?_
      exact key _ (hstep _ (by rw [if_neg (fun q => hno q.1)])).symm _
    refine q_iload_n dX10_beginBatch_21 rfl ?_
    refine q_aload_n dX10_beginBatch_22 rfl ?_
    refine q_getI 30 10 23 (is_30 n) (by decide) rfl (by decide) f_X10_196 rfl dX10_beginBatch_23 ?_
    rw [hz]
    refine q_icmp_ge 97 dX10_beginBatch_26 (by decide) (fun q => absurd q (nI_ge (by omega) (by omega))) (fun _ => ?_)
    refine q_aload_n dX10_beginBatch_29 rfl ?_
    refine q_getR 30 10 26 226 (is_30 n) (by decide) rfl rfl (by decide) f_X10_72 rfl dX10_beginBatch_30 ?_
    refine q_iload_n dX10_beginBatch_33 rfl ?_
    refine q_iald 226 (_) hn (is_226 n) rfl (by show _ < 400; omega) dX10_beginBatch_34 ?_
    refine q_iload_n dX10_beginBatch_35 rfl ?_
    refine q_icmp_ne 57 dX10_beginBatch_36 (by decide) (fun h36 => knot (fun q => h36 q.1)) (fun h36 => ?_)
    refine q_aload_n dX10_beginBatch_39 rfl ?_
    refine q_getR 30 10 25 225 (is_30 n) (by decide) rfl rfl (by decide) f_X10_69 rfl dX10_beginBatch_40 ?_
    refine q_iload_n dX10_beginBatch_43 rfl ?_
    refine q_lald 225 (_) hn (is_225 n) rfl (by show _ < 400; omega) dX10_beginBatch_44 ?_
    refine q_aload_n dX10_beginBatch_45 rfl ?_
    refine q_getL 30 10 2 (is_30 n) (by decide) rfl (by decide) f_X10_182 rfl dX10_beginBatch_46 ?_
    refine q_lcmp dX10_beginBatch_49 ?_
    refine q_if_gt 57 dX10_beginBatch_50 (by decide) (fun h50 => knot (fun q => ?_)) (fun h50 => ?_)
    · rw [lg_cmp_gt] at h50
      exact absurd h50 (Int64.not_lt.mpr q.2)
    rw [lg_cmp_gt, Int64.not_lt] at h50
    refine q_iconst (1) dX10_beginBatch_53 (by decide) ?_
    refine q_goto 58 dX10_beginBatch_54 (by decide) ?_
    refine q_istore [(4, _), (3, _), (2, _), (0, _), (1, _)] dX10_beginBatch_58 (by decide) rfl ?_
    refine q_iload dX10_beginBatch_60 rfl ?_
    refine q_if_eq 89 dX10_beginBatch_62 (by decide) (fun q => absurd q (by decide)) (fun _ => ?_)
    refine q_iload_n dX10_beginBatch_65 rfl ?_
    refine q_if_lt 85 dX10_beginBatch_66 (by decide) (fun h66 => ?_) (fun h66 => ?_)
    · refine q_iload_n dX10_beginBatch_85 rfl ?_
      refine q_goto 90 dX10_beginBatch_86 (by decide) ?_
      exact key _ (hstep _ (by rw [if_pos ⟨⟨h36, h50⟩, Or.inl h66⟩])).symm _
    · obtain ⟨j, hj, hje⟩ := r2 (fun q => h66 (r1.mpr q))
      have hjn : N (Rfd I L i (L 30 2) k) = j := by rw [hje, N_nI (by omega)]
      refine q_aload_n dX10_beginBatch_69 rfl ?_
      refine q_getR 30 10 25 225 (is_30 n) (by decide) rfl rfl (by decide) f_X10_69 rfl dX10_beginBatch_70 ?_
      refine q_iload_n dX10_beginBatch_73 rfl ?_
      refine q_lald 225 (_) hn (is_225 n) rfl (by show _ < 400; omega) dX10_beginBatch_74 ?_
      refine q_aload_n dX10_beginBatch_75 rfl ?_
      refine q_getR 30 10 25 225 (is_30 n) (by decide) rfl rfl (by decide) f_X10_69 rfl dX10_beginBatch_76 ?_
      refine q_iload_n dX10_beginBatch_79 rfl ?_
      refine q_lald 225 (j) hn (is_225 n) hje (by show _ < 400; omega) dX10_beginBatch_80 ?_
      refine q_lcmp dX10_beginBatch_81 ?_
      refine q_if_ge 89 dX10_beginBatch_82 (by decide) (fun h82 => ?_) (fun h82 => ?_)
      · rw [lg_cmp_ge] at h82
        refine q_iload_n dX10_beginBatch_89 rfl ?_
        exact key _ (hstep _ (by rw [if_neg (fun q => q.2.elim h66 (fun z => absurd z (by rw [hjn]; exact Int64.not_lt.mpr h82)))])).symm _
      · rw [lg_cmp_ge, Int64.not_le] at h82
        refine q_iload_n dX10_beginBatch_85 rfl ?_
        refine q_goto 90 dX10_beginBatch_86 (by decide) ?_
        exact key _ (hstep _ (by rw [if_pos ⟨⟨h36, h50⟩, Or.inr (by rw [hjn]; exact h82)⟩])).symm _
set_option maxHeartbeats 4000000 in
set_option maxRecDepth 100000 in
theorem r_bb_lp {Q : vq_R} (i : Nat) (hn : n < 2 ^ 31) (hi : i < n) (hn8 : n ≤ 8) (hd : 3 ≤ d) : ∀ (m : Nat) (I : MI) (v : Int32), Inv n I → (I 208 i = 2 ∨ I 208 i = 3) → tr I + 2 < 2 ^ 31 → 24 - N (I 209 i) ≤ m → 0 ≤ v → VP l n m_X10_beginBatch d 0 Q noX 0 126 [(0, .ref 30), (1, .int (nI i))] [] (Fbb L i m I) L → VP l n m_X10_beginBatch d 0 Q noX 0 2 [(2, .int v), (0, .ref 30), (1, .int (nI i))] [] I L := by
  intro m
  induction m with
  | zero =>
    intro I v h hs hb hm hv hQ
    have hq := (h.2.2.2.2.2.2.1 i hi).1.1
    have hq2 := hq.2
    refine q_iload_n dX10_beginBatch_2 rfl ?_
    refine q_if_lt 126 dX10_beginBatch_3 (by decide) (fun q => absurd q (Int32.not_lt.mpr hv)) (fun _ => ?_)
    refine q_aload_n dX10_beginBatch_6 rfl ?_
    refine q_getR 30 10 9 209 (is_30 n) (by decide) rfl rfl (by decide) f_X10_25 rfl dX10_beginBatch_7 ?_
    refine q_iload_n dX10_beginBatch_10 rfl ?_
    refine q_iald 209 (_) hn (is_209 n) rfl (by show _ < 8; omega) dX10_beginBatch_11 ?_
    refine q_bipush (24) dX10_beginBatch_12 (by decide) ?_
    rw [hq.1, show N (I 209 i) = 24 by omega]
    refine q_icmp_ge 126 dX10_beginBatch_14 (by decide) (fun _ => ?_) (fun q => absurd (nI_le (a := 24) (by omega) (by omega)) q)
    exact q_lv [(0, .ref 30), (1, .int (nI i))] (fun q hq => List.mem_cons_of_mem _ hq) hQ
  | succ m ih =>
    intro I v h hs hb hm hv hQ
    have hq := (h.2.2.2.2.2.2.1 i hi).1.1
    have hq2 := hq.2
    have hz := h.2.2.2.2.2.1.1
    have hz2 := hz.2
    refine q_iload_n dX10_beginBatch_2 rfl ?_
    refine q_if_lt 126 dX10_beginBatch_3 (by decide) (fun q => absurd q (Int32.not_lt.mpr hv)) (fun _ => ?_)
    refine q_aload_n dX10_beginBatch_6 rfl ?_
    refine q_getR 30 10 9 209 (is_30 n) (by decide) rfl rfl (by decide) f_X10_25 rfl dX10_beginBatch_7 ?_
    refine q_iload_n dX10_beginBatch_10 rfl ?_
    refine q_iald 209 (_) hn (is_209 n) rfl (by show _ < 8; omega) dX10_beginBatch_11 ?_
    refine q_bipush (24) dX10_beginBatch_12 (by decide) ?_
    by_cases hfull : N (I 209 i) = 24
    · have e24 : I 209 i = 24 := by rw [hq.1, hfull]; rfl
      rw [e24]
      refine q_icmp_ge 126 dX10_beginBatch_14 (by decide) (fun _ => ?_) (fun q => absurd (Int32.le_refl 24) q)
      have e : Fbb L i (m + 1) I = I := by simp only [Fbb]; rw [if_pos (Or.inl e24)]
      rw [e] at hQ
      exact q_lv [(0, .ref 30), (1, .int (nI i))] (fun q hq => List.mem_cons_of_mem _ hq) hQ
    · have hlt : N (I 209 i) < 24 := by omega
      have e24 : ¬ I 209 i = 24 := fun q => hfull (by rw [q]; rfl)
      refine q_icmp_ge 126 dX10_beginBatch_14 (by decide) (fun q => absurd q (by rw [hq.1]; exact nI_ge (b := 24) hlt (by omega))) (fun _ => ?_)
      refine q_iconst (-1) dX10_beginBatch_17 (by decide) ?_
      refine q_istore_n [(2, _), (0, _), (1, _)] dX10_beginBatch_18 (by decide) rfl ?_
      refine q_iconst (0) dX10_beginBatch_19 (by decide) ?_
      refine q_istore_n [(3, _), (2, _), (0, _), (1, _)] dX10_beginBatch_20 (by decide) rfl ?_
      refine r_bb_in l n d I L i (N (I 30 23)) hn hz.1 hz2 ?_ (N (I 30 23)) 0 (by omega)
      obtain ⟨r1, r2⟩ := Rfd_lt I L i (L 30 2) (N (I 30 23)) (by omega)
      refine q_iload_n dX10_beginBatch_97 rfl ?_
      refine q_if_lt 2 dX10_beginBatch_98 (by decide) (fun h98 => ?_) (fun h98 => ?_)
      · have e : Fbb L i (m + 1) I = I := by simp only [Fbb]; rw [if_pos (Or.inr (r1.mp h98))]
        rw [e] at hQ
        refine q_iload_n dX10_beginBatch_2 rfl ?_
        refine q_if_lt 126 dX10_beginBatch_3 (by decide) (fun _ => ?_) (fun q => absurd h98 q)
        exact q_lv [(0, .ref 30), (1, .int (nI i))] (fun q hq => List.mem_cons_of_mem _ hq) hQ
      · have hne : ¬ Rfd I L i (L 30 2) (N (I 30 23)) = -1 := fun q => h98 (r1.mpr q)
        obtain ⟨t, ht, hte⟩ := r2 hne
        have hmv : Fmv I L i = upI (Fenq0 I i 0 (I 224 t) 0) 226 t (-1) := by rw [Fmv, hte, N_nI (by omega)]
        have e : Fbb L i (m + 1) I = Fbb L i m (Fmv I L i) := by simp only [Fbb]; rw [if_neg (fun q => q.elim e24 hne)]
        rw [e] at hQ
        rw [hte]
        refine q_aload_n dX10_beginBatch_101 rfl ?_
        refine q_getR 30 10 26 226 (is_30 n) (by decide) rfl rfl (by decide) f_X10_72 rfl dX10_beginBatch_102 ?_
        refine q_iload_n dX10_beginBatch_105 rfl ?_
        refine q_iconst (-1) dX10_beginBatch_106 (by decide) ?_
        refine q_iast 226 (_) hn (is_226 n) rfl (by show _ < 400; omega) dX10_beginBatch_107 ?_
        refine q_aload_n dX10_beginBatch_108 rfl ?_
        refine q_iload_n dX10_beginBatch_109 rfl ?_
        refine q_iconst (0) dX10_beginBatch_110 (by decide) ?_
        refine q_aload_n dX10_beginBatch_111 rfl ?_
        refine q_getR 30 10 24 224 (is_30 n) (by decide) rfl rfl (by decide) f_X10_66 rfl dX10_beginBatch_112 ?_
        refine q_iload_n dX10_beginBatch_115 rfl ?_
        refine q_iald 224 (_) hn (is_224 n) rfl (by show _ < 400; omega) dX10_beginBatch_116 ?_
        refine q_iconst (0) dX10_beginBatch_117 (by decide) ?_
        refine q_iconst (0) dX10_beginBatch_118 (by decide) ?_
        have e224 : upI I 226 t (-1) 224 t = I 224 t := by simp [rdI]
        rw [e224]
        have h208 : upI I 226 t (-1) 208 i = I 208 i := by simp [rdI]
        have h209 : upI I 226 t (-1) 209 i = I 209 i := by simp [rdI]
        have hnr : ¬ rej (upI I 226 t (-1)) i := by
          unfold rej
          rw [h208, h209]
          intro q
          rcases q with q | q
          · rcases hs with z | z <;> rw [z] at q <;> exact absurd q (by decide)
          · exact e24 q
        have hfp : Fput (upI I 226 t (-1)) (upI I 226 t (-1) 30 51) i 0 (I 224 t) 0 0 = Fmv I L i := by
          rw [Fput, if_neg hnr, Fenq, h208, if_neg (by rcases hs with z | z <;> rw [z] <;> decide), hmv]
          unfold Fenq0
          rw [h209]
          funext x y
          simp only [rdI]
          by_cases c1 : x = 226 ∧ y = t
          · obtain ⟨rfl, rfl⟩ := c1
            simp
          · simp only [c1, if_false]
        refine q_calli [.int _, .int _, .int _, .int _, .int _] o_X10_put rfl k_X10_212 rfl (is_30 n) (by decide) rfl dX10_beginBatch_119 (Nat.le_of_ble_eq_true rfl) (by omega) (by decide) (by omega) (Or.inr rfl) (r_put l n (d - 1) (upI I 226 t (-1)) L i 0 (I 224 t) 0 0 hn (by omega) (by rw [h209]; exact hq) (by have := Inv_tr h; simpa [tr, rdI] using this) (by show tr I < 2 ^ 31; omega) (by omega)) (fun _ _ _ h => h.elim) (fun q1 I1 L1 hq1 => ?_)
        obtain ⟨e1, e2, e3⟩ := hq1
        cases e1
        rw [hfp] at e2
        subst e2
        cases e3.symm
        refine q_pop dX10_beginBatch_122 rfl ?_
        refine q_goto 2 dX10_beginBatch_123 (by decide) ?_
        have i1 : Inv n (Fmv I L i) := Inv_mv h hi (by omega) ht hte
        have f208 : Fmv I L i 208 i = I 208 i := by rw [hmv]; simp [Fenq0, rdI]
        have f209 : N (Fmv I L i 209 i) = N (I 209 i) + 1 := by
          rw [hmv]
          have : upI (Fenq0 I i 0 (I 224 t) 0) 226 t (-1) 209 i = nI (N (I 209 i) + 1) := by
            simp only [Fenq0, rdI]
            simp
            exact nI_add1 hq.1
          rw [this, N_nI (by omega)]
        have ftr : tr (Fmv I L i) = tr I := tr_mv
        exact ih (Fmv I L i) (nI t) i1 (by rw [f208]; exact hs) (by rw [ftr]; exact hb) (by omega) (nI_pos' (by omega)) hQ
set_option maxHeartbeats 4000000 in
set_option maxRecDepth 100000 in
theorem r_beginBatch (i : Nat) (hn : n < 2 ^ 31) (hi : i < n) (h : Inv n I) (hs : I 208 i = 2 ∨ I 208 i = 3) (hb : tr I + 2 < 2 ^ 31) (hd : 3 ≤ d) : VM l n m_X10_beginBatch d 0 [.ref 30, .int (nI i)] I L (fun r I' L' => r = none ∧ I' = FbbS I L i ∧ L' = L) noX := by
  refine VM_of _ [(0, .ref 30), (1, .int (nI i))] rfl (fun a => Nat.le_of_ble_eq_true rfl) rfl ?_
  have hn8 := h.1.2
  refine q_iconst (0) dX10_beginBatch_0 (by decide) ?_
  refine q_istore_n [(2, _), (0, _), (1, _)] dX10_beginBatch_1 (by decide) rfl ?_
  refine r_bb_lp l n d L i hn hi hn8 hd 24 I 0 h hs hb (by omega) (by decide) ?_
  refine q_aload_n dX10_beginBatch_126 rfl ?_
  refine q_getR 30 10 10 210 (is_30 n) (by decide) rfl rfl (by decide) f_X10_28 rfl dX10_beginBatch_127 ?_
  refine q_iload_n dX10_beginBatch_130 rfl ?_
  refine q_aload_n dX10_beginBatch_131 rfl ?_
  refine q_getR 30 10 9 209 (is_30 n) (by decide) rfl rfl (by decide) f_X10_25 rfl dX10_beginBatch_132 ?_
  refine q_iload_n dX10_beginBatch_135 rfl ?_
  refine q_iald 209 (_) hn (is_209 n) rfl (by show _ < 8; omega) dX10_beginBatch_136 ?_
  refine q_bipush (16) dX10_beginBatch_137 (by decide) ?_
  refine q_icmp_ge 151 dX10_beginBatch_139 (by decide) (fun h139 => ?_) (fun h139 => ?_)
  · refine q_bipush (16) dX10_beginBatch_151 (by decide) ?_
    refine q_iast 210 (_) hn (is_210 n) rfl (by show _ < 8; omega) dX10_beginBatch_153 ?_
    exact q_vret dX10_beginBatch_154 rfl (by omega) ⟨rfl, by rw [FbbS, if_neg (Int32.not_lt.mpr h139)], rfl⟩
  · refine q_aload_n dX10_beginBatch_142 rfl ?_
    refine q_getR 30 10 9 209 (is_30 n) (by decide) rfl rfl (by decide) f_X10_25 rfl dX10_beginBatch_143 ?_
    refine q_iload_n dX10_beginBatch_146 rfl ?_
    refine q_iald 209 (_) hn (is_209 n) rfl (by show _ < 8; omega) dX10_beginBatch_147 ?_
    refine q_goto 153 dX10_beginBatch_148 (by decide) ?_
    refine q_iast 210 (_) hn (is_210 n) rfl (by show _ < 8; omega) dX10_beginBatch_153 ?_
    exact q_vret dX10_beginBatch_154 rfl (by omega) ⟨rfl, by rw [FbbS, if_pos (Int32.not_le.mp h139)], rfl⟩
end

