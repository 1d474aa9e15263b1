theorem Lv_w {n : Nat} : True := trivial
theorem tr_mv {S : MI} {T : ML} {i : Nat} : tr (Fmv S T i) = tr S := by simp [tr, Fmv, Fenq0, rdI]
theorem tr_bb {T : ML} {i : Nat} : ∀ m S, tr (Fbb T i m S) = tr S
  | 0, S => rfl
  | m + 1, S => by
    simp only [Fbb]
    split
    · rfl
    · rw [tr_bb m, tr_mv]
theorem s208_bb {T : ML} {i : Nat} : ∀ m S, Fbb T i m S 208 = S 208
  | 0, S => rfl
  | m + 1, S => by
    simp only [Fbb]
    split
    · rfl
    · rw [s208_bb m]
      simp [Fmv, Fenq0, upI_ne]
section
variable (l : Launch) (n : Nat) (hn : n < 2 ^ 31) (d : Nat) (I : MI) (L : ML)
set_option maxHeartbeats 8000000 in
set_option maxRecDepth 100000 in
theorem c_takeStep {J S : MI} {T M : ML} {w : Nat} (i : Nat) (hn : n < 2 ^ 31) (hi : i < n) (h : CX n S T w 0 0 J M I L) (h4 : S 208 i ≠ 4) (hob : S 214 i = 1 → N (S 216 i) ≤ N (S 204 (N (S 215 i)))) (hb : tr S + 40200 < 2 ^ 31) (hd : 160 ≤ d) : VM l n m_X4_takeStep d 0 [.ref 1, .int (nI i)] I L (fun r I' L' => r = some (.int (Lstep n S T i).1) ∧ ∃ w', CX n (Lstep n S T i).2.1 (Lstep n S T i).2.2 w' 0 0 J M I' L') noX := by
  refine VM_of _ [(0, .ref 1), (1, .int (nI i))] rfl (fun a => Nat.le_of_ble_eq_true rfl) rfl ?_
  have hn8 := h.2.1.1
  have hst : I (lid i 0) 2 = S 208 i := (h.1.2.2.2.2.2 i hi).2.2.1
  have hvs := (h.2.1.2.2.2.2.2.2.1 i hi).2.2
  have REST : ∀ (S1 : MI) (I1 : MI) (lv : List (Nat × Value)), CX n S1 T w 0 0 J M I1 L → S1 208 i = S 208 i → S1 208 i ≤ 3 → S1 214 i = S 214 i → S1 215 = S 215 → S1 216 = S 216 → S1 204 = S 204 → tr S1 = tr S → Lstep n S T i = Lstep1 n S1 T i → vq_lk lv 0 = some (.ref 1) → vq_lk lv 1 = some (.int (nI i)) → vq_lk lv 2 = some (.ref (lid i 0)) → VP l n m_X4_takeStep d 0 (fun r I' L' => r = some (.int (Lstep n S T i).1) ∧ ∃ w', CX n (Lstep n S T i).2.1 (Lstep n S T i).2.2 w' 0 0 J M I' L') noX 0 44 lv [] I1 L := by
    intro S1 I1 lv hX e208 hle e214 e215 e216 e204 etr eL l0 l1 l2
    rw [eL]
    have hcnt := hX.2.2.1
    have hX0 := CX_w (I' := upI I1 1 5 0) 0 0 0 hX (fun i hi => upI_ne hi) (by simp [rdI]; rfl) (by simpa [rdI] using hcnt.2.1) (by simpa [rdI] using hcnt.2.2)
    have hcl := (hX0.1.2.2.2.2.2 i hi).2.2
    have hVB := (hX0.2.1.2.2.2.2.2.2.1 i hi).2.1
    refine q_aload_n dX4_takeStep_44 l0 ?_
    refine q_iconst (0) dX4_takeStep_45 (by decide) ?_
    refine q_putI 1 4 5 (is_1 n) (by decide) rfl (by decide) rfl rfl f_X4_65 rfl dX4_takeStep_46 ?_
    generalize upI I1 1 5 0 = I2 at *
    refine q_aload_n dX4_takeStep_49 l2 ?_
    refine q_getI (lid (i) 0) 1 4 (vq_isL (hi) 0 (by decide) rfl) (by decide) rfl (by decide) f_X4_68 rfl dX4_takeStep_50 ?_
    refine q_iconst (-1) dX4_takeStep_53 (by decide) ?_
    by_cases hbl : S1 214 i = 1
    · obtain ⟨b1, b2, b3⟩ := hVB.2 hbl
      have haw := hcl.2.2.2.1 hbl
      have hp32 := hX0.2.1.2.2.2.1.1.2
      rw [haw.1]
      refine q_icmp_eq 64 dX4_takeStep_54 (by decide) (fun h54 => ?_) (fun h54 => ?_)
      · exact absurd h54 (by rw [b3.1]; exact fun q => nI_ne_m1 (by have := b3.2; omega) q.symm)
      · refine q_aload_n dX4_takeStep_57 l0 ?_
        refine q_iload_n dX4_takeStep_58 l1 ?_
        refine q_aload_n dX4_takeStep_59 l2 ?_
        refine q_calli [.int _, .ref _] o_X4_resume rfl k_X4_71 rfl (is_1 n) (by decide) rfl dX4_takeStep_60 (Nat.le_of_ble_eq_true rfl) (by omega) (by decide) (by omega) (Or.inl rfl) (c_resume l n (d - 1) I2 L i hn hi hX0 hbl (by rw [e216, e215, e204]; exact hob (by rw [← e214]; exact hbl)) (by omega) (by omega)) (fun _ _ _ h => h.elim) (fun r1 I3 L3 hq => ?_)
        obtain ⟨q1, q2⟩ := hq
        unfold Lstep1
        rw [if_pos hbl]
        by_cases ed : S1 229 (N (S1 217 i)) = 0
        · obtain ⟨e1, hX3⟩ := q1 ed
          cases e1
          rw [if_pos ed]
          exact q_iret dX4_takeStep_63 rfl (by omega) ⟨rfl, _, hX3⟩
        · obtain ⟨e1, hX3⟩ := q2 ed
          cases e1
          rw [if_neg ed]
          exact q_iret dX4_takeStep_63 rfl (by omega) ⟨rfl, _, hX3⟩
    · have hb0 : S1 214 i = 0 := hVB.1.resolve_right hbl
      rw [hcl.2.2.1 hb0]
      unfold Lstep1
      rw [if_neg hbl]
      have AFT : ∀ (S2 : MI) (I3 : MI) (L3 : ML), CX n S2 T 0 0 0 J M I3 L3 → S2 = (if S1 210 i = 0 then FbbS S1 T i else S1) → S2 208 i ≤ 3 → tr S2 = tr S → VP l n m_X4_takeStep d 0 (fun r I' L' => r = some (.int (if (if S1 210 i = 0 then FbbS S1 T i else S1) 209 i = 0 then (if okC (if S1 210 i = 0 then FbbS S1 T i else S1) T i then (3, Fbec (Fbec (if S1 210 i = 0 then FbbS S1 T i else S1) i 4) i 5, T) else (0, (if S1 210 i = 0 then FbbS S1 T i else S1), T)) else (1, (Lbeg n (if S1 210 i = 0 then FbbS S1 T i else S1) T i).1, (Lbeg n (if S1 210 i = 0 then FbbS S1 T i else S1) T i).2.1) : Int32 × MI × ML).1) ∧ ∃ w', CX n (if (if S1 210 i = 0 then FbbS S1 T i else S1) 209 i = 0 then (if okC (if S1 210 i = 0 then FbbS S1 T i else S1) T i then (3, Fbec (Fbec (if S1 210 i = 0 then FbbS S1 T i else S1) i 4) i 5, T) else (0, (if S1 210 i = 0 then FbbS S1 T i else S1), T)) else (1, (Lbeg n (if S1 210 i = 0 then FbbS S1 T i else S1) T i).1, (Lbeg n (if S1 210 i = 0 then FbbS S1 T i else S1) T i).2.1) : Int32 × MI × ML).2.1 (if (if S1 210 i = 0 then FbbS S1 T i else S1) 209 i = 0 then (if okC (if S1 210 i = 0 then FbbS S1 T i else S1) T i then (3, Fbec (Fbec (if S1 210 i = 0 then FbbS S1 T i else S1) i 4) i 5, T) else (0, (if S1 210 i = 0 then FbbS S1 T i else S1), T)) else (1, (Lbeg n (if S1 210 i = 0 then FbbS S1 T i else S1) T i).1, (Lbeg n (if S1 210 i = 0 then FbbS S1 T i else S1) T i).2.1) : Int32 × MI × ML).2.2 w' 0 0 J M I' L') noX 0 79 lv [] I3 L3 := by
        intro S2 I3 L3 hX2 eS hle2 etr2
        rw [← eS]
        have hsz : I3 (lid i 1) 4 = S2 209 i := (hX2.1.2.2.2.2.2 i hi).1.1
        refine q_aload_n dX4_takeStep_79 l2 ?_
        refine q_getR (lid (i) 0) 1 0 (lid (i) 1) (vq_isL (hi) 0 (by decide) rfl) (by decide) rfl ((gr_lid (i) 0 0 (by decide)).trans rfl) (by decide) f_X4_82 rfl dX4_takeStep_80 ?_
        refine q_getI (lid (i) 1) 3 4 (vq_isL (hi) 1 (by decide) rfl) (by decide) rfl (by decide) f_X4_86 rfl dX4_takeStep_83 ?_
        rw [hsz]
        refine q_if_ne 106 dX4_takeStep_86 (by decide) (fun h86 => ?_) (fun h86 => ?_)
        · rw [if_neg h86]
          refine q_aload_n dX4_takeStep_106 l0 ?_
          refine q_iload_n dX4_takeStep_107 l1 ?_
          refine q_aload_n dX4_takeStep_108 l2 ?_
          refine q_callv [.int _, .ref _] o_X4_beginFirst rfl k_X4_93 rfl (is_1 n) (by decide) rfl dX4_takeStep_109 (Nat.le_of_ble_eq_true rfl) (by omega) (by decide) (by omega) rfl (c_beginFirst l n (d - 1) I3 L3 i hn hi hX2 hle2 h86 (by omega) (by omega)) (fun _ _ _ h => h.elim) (fun I4 L4 hq => ?_)
          obtain ⟨-, hX4⟩ := hq
          refine q_iconst (1) dX4_takeStep_112 (by decide) ?_
          exact q_iret dX4_takeStep_113 rfl (by omega) ⟨rfl, _, hX4⟩
        · rw [if_pos h86]
          refine q_aload_n dX4_takeStep_89 l0 ?_
          refine q_getR 1 4 3 2 (is_1 n) (by decide) rfl rfl (by decide) f_X4_37 rfl dX4_takeStep_90 ?_
          refine q_iload_n dX4_takeStep_93 l1 ?_
          refine q_calli [.int _] o_X5_confirm rfl k_X4_89 rfl (is_2 n) (by decide) rfl dX4_takeStep_94 (Nat.le_of_ble_eq_true rfl) (by omega) (by decide) (by omega) (Or.inr rfl) (c_confirm l n (d - 1) I3 L3 i hn hX2 hi (by omega) (by omega)) (fun _ _ _ h => h.elim) (fun r1 I4 L4 hq => ?_)
          obtain ⟨e1, hX4⟩ := hq
          cases e1
          refine q_if_eq 104 dX4_takeStep_97 (by decide) (fun h97 => ?_) (fun h97 => ?_)
          · rw [bI_z] at h97
            rw [if_neg h97] at hX4 ⊢
            refine q_iconst (0) dX4_takeStep_104 (by decide) ?_
            exact q_iret dX4_takeStep_105 rfl (by omega) ⟨rfl, _, hX4⟩
          · rw [bI_z, Decidable.not_not] at h97
            rw [if_pos h97] at hX4 ⊢
            refine q_iconst (3) dX4_takeStep_100 (by decide) ?_
            refine q_goto 105 dX4_takeStep_101 (by decide) ?_
            exact q_iret dX4_takeStep_105 rfl (by omega) ⟨rfl, _, hX4⟩
      refine q_icmp_eq 64 dX4_takeStep_54 (by decide) (fun h54 => ?_) (fun h54 => ?_)
      · refine q_aload_n dX4_takeStep_64 l2 ?_
        refine q_getI (lid (i) 0) 1 3 (vq_isL (hi) 0 (by decide) rfl) (by decide) rfl (by decide) f_X4_75 rfl dX4_takeStep_65 ?_
        rw [hcl.2.1]
        refine q_if_ne 79 dX4_takeStep_68 (by decide) (fun h68 => ?_) (fun h68 => ?_)
        · exact AFT S1 I2 L hX0 (by rw [if_neg h68]) hle etr
        · refine q_aload_n dX4_takeStep_71 l0 ?_
          refine q_getR 1 4 3 2 (is_1 n) (by decide) rfl rfl (by decide) f_X4_37 rfl dX4_takeStep_72 ?_
          refine q_aload_n dX4_takeStep_75 l2 ?_
          refine q_callv [.ref _] o_X5_beginBatch rfl k_X4_78 rfl (is_2 n) (by decide) rfl dX4_takeStep_76 (Nat.le_of_ble_eq_true rfl) (by omega) (by decide) (by omega) rfl (c_beginBatch l n (d - 1) I2 L i hn hi hX0 (by omega)) (fun _ _ _ h => h.elim) (fun I3 L3 hq => ?_)
          obtain ⟨-, hX3⟩ := hq
          refine AFT (FbbS S1 T i) I3 L3 hX3 (by rw [if_pos h68]) ?_ ?_
          · rw [show FbbS S1 T i 208 i = S1 208 i by simp only [FbbS, rdI]; simp [s208_bb]]
            exact hle
          · rw [show tr (FbbS S1 T i) = tr (Fbb T i 24 S1) by simp [tr, FbbS, rdI], tr_bb]
            exact etr
      · exact absurd rfl h54
  refine q_aload_n dX4_takeStep_0 rfl ?_
  refine q_getR 1 4 3 2 (is_1 n) (by decide) rfl rfl (by decide) f_X4_37 rfl dX4_takeStep_1 ?_
  refine q_getR 2 5 1 321 (is_2 n) (by decide) rfl rfl (by decide) f_X4_46 rfl dX4_takeStep_4 ?_
  refine q_iload_n dX4_takeStep_7 rfl ?_
  refine q_aald 321 (i) (lid (i) 0) hn (is_321 n) rfl hi rfl dX4_takeStep_8 ?_
  refine q_astore_n [(2, _), (0, _), (1, _)] dX4_takeStep_9 (by decide) rfl ?_
  refine q_aload_n dX4_takeStep_10 rfl ?_
  refine q_getI (lid (i) 0) 1 2 (vq_isL (hi) 0 (by decide) rfl) (by decide) rfl (by decide) f_X4_50 rfl dX4_takeStep_11 ?_
  refine q_iconst (1) dX4_takeStep_14 (by decide) ?_
  rw [hst]
  refine q_icmp_eq 26 dX4_takeStep_15 (by decide) (fun h15 => ?_) (fun h15 => ?_)
  · have e9 : Lstep n S T i = (0, S, T) := by
      unfold Lstep
      rw [if_pos (Or.inl h15)]
    rw [e9]
    refine q_iconst (0) dX4_takeStep_26 (by decide) ?_
    exact q_iret dX4_takeStep_27 rfl (by omega) ⟨rfl, _, h⟩
  · refine q_aload_n dX4_takeStep_18 rfl ?_
    refine q_getI (lid (i) 0) 1 2 (vq_isL (hi) 0 (by decide) rfl) (by decide) rfl (by decide) f_X4_50 rfl dX4_takeStep_19 ?_
    refine q_iconst (5) dX4_takeStep_22 (by decide) ?_
    rw [hst]
    refine q_icmp_ne 28 dX4_takeStep_23 (by decide) (fun h23 => ?_) (fun h23 => ?_)
    · have hno : ¬ (S 208 i = 1 ∨ S 208 i = 5) := fun q => q.elim h15 h23
      have hle : S 208 i ≤ 3 := by
        rcases hvs with q | q | q | q | q
        · exact absurd q h15
        · rw [q]; decide
        · rw [q]; decide
        · exact absurd q h4
        · exact absurd q h23
      refine q_aload_n dX4_takeStep_28 rfl ?_
      refine q_getI (lid (i) 0) 1 2 (vq_isL (hi) 0 (by decide) rfl) (by decide) rfl (by decide) f_X4_50 rfl dX4_takeStep_29 ?_
      refine q_iconst (3) dX4_takeStep_32 (by decide) ?_
      rw [hst]
      refine q_icmp_ne 44 dX4_takeStep_33 (by decide) (fun h33 => ?_) (fun h33 => ?_)
      · exact REST S I _ h rfl hle rfl rfl rfl rfl rfl (by unfold Lstep; rw [if_neg hno, if_neg h33]) rfl rfl rfl
      · refine q_aload_n dX4_takeStep_36 rfl ?_
        refine q_getR (lid (i) 0) 1 1 (lid (i) 2) (vq_isL (hi) 0 (by decide) rfl) (by decide) rfl ((gr_lid (i) 0 1 (by decide)).trans rfl) (by decide) f_X4_56 rfl dX4_takeStep_37 ?_
        refine q_iconst (0) dX4_takeStep_40 (by decide) ?_
        refine q_putI (lid (i) 2) 7 3 (vq_isL (hi) 2 (by decide) rfl) (by decide) rfl (by decide) rfl rfl f_X4_60 rfl dX4_takeStep_41 ?_
        exact REST (Fclr S i (N (S 30 23))) _ _ (CX_clr h hi) (by simp [Fclr_ne]) (by simpa [Fclr_ne] using hle) (by simp [Fclr_ne]) (by simp [Fclr_ne]) (by simp [Fclr_ne]) (by simp [Fclr_ne]) (by simp [tr, Fclr_ne]) (by unfold Lstep; rw [if_neg hno, if_pos h33]) rfl rfl rfl
    · have e9 : Lstep n S T i = (0, S, T) := by
        unfold Lstep
        rw [if_pos (Or.inr h23)]
      rw [e9]
      refine q_iconst (0) dX4_takeStep_26 (by decide) ?_
      exact q_iret dX4_takeStep_27 rfl (by omega) ⟨rfl, _, h⟩
end

