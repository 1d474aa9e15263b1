/-! ===== the runner ===== -/
theorem k_out {k : Int32} (h : ∀ j, j < 14 → k ≠ nI j) : k.toInt < 0 ∨ 13 < k.toInt := by
  rcases Int.lt_or_le k.toInt 0 with q | q
  · exact Or.inl q
  · rcases Int.lt_or_le 13 k.toInt with q2 | q2
    · exact Or.inr q2
    · exfalso
      obtain ⟨j, hj, rfl⟩ := nI_of (x := k) (fun q9 => by have := Int32.lt_iff_toInt_lt.mp q9; simp at this; omega)
      rw [nI_toInt hj] at q2
      exact h j (by omega) rfl
theorem Fcan_0 {n : Nat} {S : MI} {a b : Int32} : Fcan n S 0 a b ↔ (True) := by
  unfold Fcan
  simp
theorem Fcan_1 {n : Nat} {S : MI} {a b : Int32} : Fcan n S 1 a b ↔ (isT S a ∧ (b = -1 ∨ b = -2 ∨ isL n b)) := by
  unfold Fcan
  simp
theorem Fcan_2 {n : Nat} {S : MI} {a b : Int32} : Fcan n S 2 a b ↔ (isT S a ∧ 0 ≤ b) := by
  unfold Fcan
  simp
theorem Fcan_3 {n : Nat} {S : MI} {a b : Int32} : Fcan n S 3 a b ↔ (0 ≤ a ∧ a < S 30 23) := by
  unfold Fcan
  simp
theorem Fcan_4 {n : Nat} {S : MI} {a b : Int32} : Fcan n S 4 a b ↔ (isP S a) := by
  unfold Fcan
  simp
theorem Fcan_5 {n : Nat} {S : MI} {a b : Int32} : Fcan n S 5 a b ↔ (isP S a) := by
  unfold Fcan
  simp
theorem Fcan_6 {n : Nat} {S : MI} {a b : Int32} : Fcan n S 6 a b ↔ (isP S a) := by
  unfold Fcan
  simp
theorem Fcan_7 {n : Nat} {S : MI} {a b : Int32} : Fcan n S 7 a b ↔ (isP S a ∧ isT S b ∧ (S 229 (N a) ≠ 0 ∨ S 232 (N a) < 6)) := by
  unfold Fcan
  simp
theorem Fcan_8 {n : Nat} {S : MI} {a b : Int32} : Fcan n S 8 a b ↔ (isP S a) := by
  unfold Fcan
  simp
theorem Fcan_9 {n : Nat} {S : MI} {a b : Int32} : Fcan n S 9 a b ↔ (False) := by
  unfold Fcan
  simp
theorem Fcan_10 {n : Nat} {S : MI} {a b : Int32} : Fcan n S 10 a b ↔ (isC S a) := by
  unfold Fcan
  simp
theorem Fcan_11 {n : Nat} {S : MI} {a b : Int32} : Fcan n S 11 a b ↔ (isC S a) := by
  unfold Fcan
  simp
theorem Fcan_12 {n : Nat} {S : MI} {a b : Int32} : Fcan n S 12 a b ↔ (0 ≤ a ∧ a ≤ b) := by
  unfold Fcan
  simp
theorem Fcan_13 {n : Nat} {S : MI} {a b : Int32} : Fcan n S 13 a b ↔ (isP S a) := by
  unfold Fcan
  simp
theorem Fcan_out {n : Nat} {S : MI} {k a b : Int32} (h : ∀ j, j < 14 → k ≠ nI j) : ¬ Fcan n S k a b := by
  have h0 : ¬ k = 0 := h 0 (by decide)
  have h1 : ¬ k = 1 := h 1 (by decide)
  have h2 : ¬ k = 2 := h 2 (by decide)
  have h3 : ¬ k = 3 := h 3 (by decide)
  have h4 : ¬ k = 4 := h 4 (by decide)
  have h5 : ¬ k = 5 := h 5 (by decide)
  have h6 : ¬ k = 6 := h 6 (by decide)
  have h7 : ¬ k = 7 := h 7 (by decide)
  have h8 : ¬ k = 8 := h 8 (by decide)
  have h9 : ¬ k = 9 := h 9 (by decide)
  have h10 : ¬ k = 10 := h 10 (by decide)
  have h11 : ¬ k = 11 := h 11 (by decide)
  have h12 : ¬ k = 12 := h 12 (by decide)
  have h13 : ¬ k = 13 := h 13 (by decide)
  unfold Fcan
  rw [if_neg h0, if_neg h1, if_neg h2, if_neg h3, if_neg (fun q => q.elim h4 (fun q => q.elim h5 (fun q => q.elim h6 (fun q => q.elim h8 h13)))), if_neg h7, if_neg (fun q => q.elim h10 h11), if_neg h12]
  exact id
theorem bI_c {p q : Prop} [Decidable p] [Decidable q] (h : p ↔ q) : bI p = bI q := by
  unfold bI
  by_cases hp : p
  · rw [if_pos hp, if_pos (h.mp hp)]
  · rw [if_neg hp, if_neg (fun x => hp (h.mpr x))]
section
variable (l : Launch) (n : Nat) (hn : n < 2 ^ 31) (d : Nat) (I : MI) (L : ML)
set_option maxHeartbeats 8000000 in
set_option maxRecDepth 100000 in
theorem c_canDo {S J : MI} {T M : ML} {w nf fr : Nat} (k a b : Int32) (hn : n < 2 ^ 31) (h : CX n S T w nf fr J M I L) (hd : 2 ≤ d) : VM l n m_X4_canDo d 0 [.ref 1, .int k, .int a, .int b] I L (fun r I' L' => r = some (.int (bI (Fcan n S k a b))) ∧ I' = I ∧ L' = L) noX := by
  refine VM_of _ [(0, .ref 1), (1, .int k), (2, .int a), (3, .int b)] rfl (fun a => Nat.le_of_ble_eq_true rfl) rfl ?_
  have hT : I 4 4 = S 30 3 := h.1.2.1.1
  have hP : I 5 6 = S 30 27 := h.1.2.2.1.1
  have hC : I 6 5 = S 30 34 := h.1.2.2.2.1.1
  have hM : I 2 4 = S 30 23 := CX_cnt_sched h
  have hS1 : I 351 = S 229 := h.1.2.2.1.2.2.1
  have hS2 : I 354 = S 232 := h.1.2.2.1.2.2.2.2.2.1
  refine q_iload_n dX4_canDo_0 rfl ?_
  by_cases e0 : k = 0
  · subst e0
    refine q_swIn 72 dX4_canDo_1 (by decide) (by decide) rfl (by decide) ?_
    refine q_iconst (1) dX4_canDo_72 (by decide) ?_
    refine q_zret dX4_canDo_73 rfl (by omega) (by decide) ?_
    exact ⟨by rw [bI_t (Fcan_0.mpr trivial)], rfl, rfl⟩
  by_cases e1 : k = 1
  · subst e1
    refine q_swIn 74 dX4_canDo_1 (by decide) (by decide) rfl (by decide) ?_
    refine q_aload_n dX4_canDo_74 rfl ?_
    refine q_getR 1 4 0 4 (is_1 n) (by decide) rfl rfl (by decide) f_X4_12 rfl dX4_canDo_75 ?_
    refine q_iload_n dX4_canDo_78 rfl ?_
    refine q_calli [.int _] o_X6_has rfl k_X4_167 rfl (is_4 n) (by decide) rfl dX4_canDo_79 (Nat.le_of_ble_eq_true rfl) (by omega) (by decide) (by omega) (Or.inr rfl) (c_tasks_has l n (d - 1) I L a) (fun _ _ _ h => h.elim) (fun r1 I1 L1 hq => ?_)
    obtain ⟨e1, e2, e3⟩ := hq
    cases e1
    cases e2.symm
    cases e3.symm
    rw [hT]
    refine q_if_eq 111 dX4_canDo_82 (by decide) (fun h82 => ?_) (fun h82 => ?_)
    · rw [bI_z] at h82
      refine q_iconst (0) dX4_canDo_111 (by decide) ?_
      exact q_zret dX4_canDo_112 rfl (by omega) (by decide) ⟨by rw [bI_f (fun q => h82 (Fcan_1.mp q).1)], rfl, rfl⟩
    · rw [bI_z, Decidable.not_not] at h82
      refine q_iload_n dX4_canDo_85 rfl ?_
      refine q_iconst (-1) dX4_canDo_86 (by decide) ?_
      refine q_icmp_eq 107 dX4_canDo_87 (by decide) (fun h87 => ?_) (fun h87 => ?_)
      · refine q_iconst (1) dX4_canDo_107 (by decide) ?_
        refine q_goto 112 dX4_canDo_108 (by decide) ?_
        exact q_zret dX4_canDo_112 rfl (by omega) (by decide) ⟨by rw [bI_t (Fcan_1.mpr ⟨h82, Or.inl h87⟩)], rfl, rfl⟩
      · refine q_iload_n dX4_canDo_90 rfl ?_
        refine q_bipush (-2) dX4_canDo_91 (by decide) ?_
        refine q_icmp_eq 107 dX4_canDo_93 (by decide) (fun h93 => ?_) (fun h93 => ?_)
        · refine q_iconst (1) dX4_canDo_107 (by decide) ?_
          refine q_goto 112 dX4_canDo_108 (by decide) ?_
          exact q_zret dX4_canDo_112 rfl (by omega) (by decide) ⟨by rw [bI_t (Fcan_1.mpr ⟨h82, Or.inr (Or.inl h93)⟩)], rfl, rfl⟩
        · refine q_aload_n dX4_canDo_96 rfl ?_
          refine q_getR 1 4 3 2 (is_1 n) (by decide) rfl rfl (by decide) f_X4_37 rfl dX4_canDo_97 ?_
          refine q_iload_n dX4_canDo_100 rfl ?_
          refine q_calli [.int _] o_X5_has rfl k_X4_170 rfl (is_2 n) (by decide) rfl dX4_canDo_101 (Nat.le_of_ble_eq_true rfl) (by omega) (by decide) (by omega) (Or.inr rfl) (c_sched_has l n (d - 1) I L b) (fun _ _ _ h => h.elim) (fun r1 I1 L1 hq => ?_)
          obtain ⟨e1, e2, e3⟩ := hq
          cases e1
          cases e2.symm
          cases e3.symm
          refine q_if_eq 111 dX4_canDo_104 (by decide) (fun h104 => ?_) (fun h104 => ?_)
          · rw [bI_z] at h104
            refine q_iconst (0) dX4_canDo_111 (by decide) ?_
            exact q_zret dX4_canDo_112 rfl (by omega) (by decide) ⟨by rw [bI_f (fun q => (Fcan_1.mp q).2.elim h87 (fun q => q.elim h93 h104))], rfl, rfl⟩
          · rw [bI_z, Decidable.not_not] at h104
            refine q_iconst (1) dX4_canDo_107 (by decide) ?_
            refine q_goto 112 dX4_canDo_108 (by decide) ?_
            exact q_zret dX4_canDo_112 rfl (by omega) (by decide) ⟨by rw [bI_t (Fcan_1.mpr ⟨h82, Or.inr (Or.inr h104)⟩)], rfl, rfl⟩
  by_cases e2 : k = 2
  · subst e2
    refine q_swIn 113 dX4_canDo_1 (by decide) (by decide) rfl (by decide) ?_
    refine q_aload_n dX4_canDo_113 rfl ?_
    refine q_getR 1 4 0 4 (is_1 n) (by decide) rfl rfl (by decide) f_X4_12 rfl dX4_canDo_114 ?_
    refine q_iload_n dX4_canDo_117 rfl ?_
    refine q_calli [.int _] o_X6_has rfl k_X4_167 rfl (is_4 n) (by decide) rfl dX4_canDo_118 (Nat.le_of_ble_eq_true rfl) (by omega) (by decide) (by omega) (Or.inr rfl) (c_tasks_has l n (d - 1) I L a) (fun _ _ _ h => h.elim) (fun r1 I1 L1 hq => ?_)
    obtain ⟨e1, e2, e3⟩ := hq
    cases e1
    cases e2.symm
    cases e3.symm
    rw [hT]
    refine q_if_eq 132 dX4_canDo_121 (by decide) (fun h121 => ?_) (fun h121 => ?_)
    · rw [bI_z] at h121
      refine q_iconst (0) dX4_canDo_132 (by decide) ?_
      exact q_zret dX4_canDo_133 rfl (by omega) (by decide) ⟨by rw [bI_f (fun q => h121 (Fcan_2.mp q).1)], rfl, rfl⟩
    · rw [bI_z, Decidable.not_not] at h121
      refine q_iload_n dX4_canDo_124 rfl ?_
      refine q_if_lt 132 dX4_canDo_125 (by decide) (fun h125 => ?_) (fun h125 => ?_)
      · refine q_iconst (0) dX4_canDo_132 (by decide) ?_
        exact q_zret dX4_canDo_133 rfl (by omega) (by decide) ⟨by rw [bI_f (fun q => Int32.not_lt.mpr (Fcan_2.mp q).2 h125)], rfl, rfl⟩
      · refine q_iconst (1) dX4_canDo_128 (by decide) ?_
        refine q_goto 133 dX4_canDo_129 (by decide) ?_
        exact q_zret dX4_canDo_133 rfl (by omega) (by decide) ⟨by rw [bI_t (Fcan_2.mpr ⟨h121, Int32.not_lt.mp h125⟩)], rfl, rfl⟩
  by_cases e3 : k = 3
  · subst e3
    refine q_swIn 134 dX4_canDo_1 (by decide) (by decide) rfl (by decide) ?_
    refine q_iload_n dX4_canDo_134 rfl ?_
    refine q_if_lt 153 dX4_canDo_135 (by decide) (fun h135 => ?_) (fun h135 => ?_)
    · refine q_iconst (0) dX4_canDo_153 (by decide) ?_
      exact q_zret dX4_canDo_154 rfl (by omega) (by decide) ⟨by rw [bI_f (fun q => Int32.not_lt.mpr (Fcan_3.mp q).1 h135)], rfl, rfl⟩
    · refine q_iload_n dX4_canDo_138 rfl ?_
      refine q_aload_n dX4_canDo_139 rfl ?_
      refine q_getR 1 4 3 2 (is_1 n) (by decide) rfl rfl (by decide) f_X4_37 rfl dX4_canDo_140 ?_
      refine q_getI 2 5 4 (is_2 n) (by decide) rfl (by decide) f_X4_171 rfl dX4_canDo_143 ?_
      rw [hM]
      refine q_icmp_ge 153 dX4_canDo_146 (by decide) (fun h146 => ?_) (fun h146 => ?_)
      · refine q_iconst (0) dX4_canDo_153 (by decide) ?_
        exact q_zret dX4_canDo_154 rfl (by omega) (by decide) ⟨by rw [bI_f (fun q => Int32.not_lt.mpr h146 (Fcan_3.mp q).2)], rfl, rfl⟩
      · refine q_iconst (1) dX4_canDo_149 (by decide) ?_
        refine q_goto 154 dX4_canDo_150 (by decide) ?_
        exact q_zret dX4_canDo_154 rfl (by omega) (by decide) ⟨by rw [bI_t (Fcan_3.mpr ⟨Int32.not_lt.mp h135, Int32.not_le.mp h146⟩)], rfl, rfl⟩
  by_cases e4 : k = 4
  · subst e4
    refine q_swIn 155 dX4_canDo_1 (by decide) (by decide) rfl (by decide) ?_
    refine q_aload_n dX4_canDo_155 rfl ?_
    refine q_getR 1 4 1 5 (is_1 n) (by decide) rfl rfl (by decide) f_X4_21 rfl dX4_canDo_156 ?_
    refine q_iload_n dX4_canDo_159 rfl ?_
    refine q_calli [.int _] o_X2_has rfl k_X4_174 rfl (is_5 n) (by decide) rfl dX4_canDo_160 (Nat.le_of_ble_eq_true rfl) (by omega) (by decide) (by omega) (Or.inr rfl) (c_promises_has l n (d - 1) I L a) (fun _ _ _ h => h.elim) (fun r1 I1 L1 hq => ?_)
    obtain ⟨e1, e2, e3⟩ := hq; cases e1; cases e2.symm; cases e3.symm
    refine q_zret dX4_canDo_163 rfl (by omega) bI_nar ?_
    exact ⟨by rw [bI_c Fcan_4, hP], rfl, rfl⟩
  by_cases e5 : k = 5
  · subst e5
    refine q_swIn 155 dX4_canDo_1 (by decide) (by decide) rfl (by decide) ?_
    refine q_aload_n dX4_canDo_155 rfl ?_
    refine q_getR 1 4 1 5 (is_1 n) (by decide) rfl rfl (by decide) f_X4_21 rfl dX4_canDo_156 ?_
    refine q_iload_n dX4_canDo_159 rfl ?_
    refine q_calli [.int _] o_X2_has rfl k_X4_174 rfl (is_5 n) (by decide) rfl dX4_canDo_160 (Nat.le_of_ble_eq_true rfl) (by omega) (by decide) (by omega) (Or.inr rfl) (c_promises_has l n (d - 1) I L a) (fun _ _ _ h => h.elim) (fun r1 I1 L1 hq => ?_)
    obtain ⟨e1, e2, e3⟩ := hq; cases e1; cases e2.symm; cases e3.symm
    refine q_zret dX4_canDo_163 rfl (by omega) bI_nar ?_
    exact ⟨by rw [bI_c Fcan_5, hP], rfl, rfl⟩
  by_cases e6 : k = 6
  · subst e6
    refine q_swIn 155 dX4_canDo_1 (by decide) (by decide) rfl (by decide) ?_
    refine q_aload_n dX4_canDo_155 rfl ?_
    refine q_getR 1 4 1 5 (is_1 n) (by decide) rfl rfl (by decide) f_X4_21 rfl dX4_canDo_156 ?_
    refine q_iload_n dX4_canDo_159 rfl ?_
    refine q_calli [.int _] o_X2_has rfl k_X4_174 rfl (is_5 n) (by decide) rfl dX4_canDo_160 (Nat.le_of_ble_eq_true rfl) (by omega) (by decide) (by omega) (Or.inr rfl) (c_promises_has l n (d - 1) I L a) (fun _ _ _ h => h.elim) (fun r1 I1 L1 hq => ?_)
    obtain ⟨e1, e2, e3⟩ := hq; cases e1; cases e2.symm; cases e3.symm
    refine q_zret dX4_canDo_163 rfl (by omega) bI_nar ?_
    exact ⟨by rw [bI_c Fcan_6, hP], rfl, rfl⟩
  by_cases e7 : k = 7
  · subst e7
    refine q_swIn 164 dX4_canDo_1 (by decide) (by decide) rfl (by decide) ?_
    refine q_aload_n dX4_canDo_164 rfl ?_
    refine q_getR 1 4 1 5 (is_1 n) (by decide) rfl rfl (by decide) f_X4_21 rfl dX4_canDo_165 ?_
    refine q_iload_n dX4_canDo_168 rfl ?_
    refine q_calli [.int _] o_X2_has rfl k_X4_174 rfl (is_5 n) (by decide) rfl dX4_canDo_169 (Nat.le_of_ble_eq_true rfl) (by omega) (by decide) (by omega) (Or.inr rfl) (c_promises_has l n (d - 1) I L a) (fun _ _ _ h => h.elim) (fun r1 I1 L1 hq => ?_)
    obtain ⟨e1, e2, e3⟩ := hq
    cases e1
    cases e2.symm
    cases e3.symm
    rw [hP]
    refine q_if_eq 201 dX4_canDo_172 (by decide) (fun h172 => ?_) (fun h172 => ?_)
    · rw [bI_z] at h172
      refine q_iconst (0) dX4_canDo_201 (by decide) ?_
      exact q_zret dX4_canDo_202 rfl (by omega) (by decide) ⟨by rw [bI_f (fun q => h172 (Fcan_7.mp q).1)], rfl, rfl⟩
    · rw [bI_z, Decidable.not_not] at h172
      have hpa := isP_nbt h.2.1 h172
      have hp32 := h.2.1.2.2.2.1.1.2
      refine q_aload_n dX4_canDo_175 rfl ?_
      refine q_getR 1 4 0 4 (is_1 n) (by decide) rfl rfl (by decide) f_X4_12 rfl dX4_canDo_176 ?_
      refine q_iload_n dX4_canDo_179 rfl ?_
      refine q_calli [.int _] o_X6_has rfl k_X4_167 rfl (is_4 n) (by decide) rfl dX4_canDo_180 (Nat.le_of_ble_eq_true rfl) (by omega) (by decide) (by omega) (Or.inr rfl) (c_tasks_has l n (d - 1) I L b) (fun _ _ _ h => h.elim) (fun r1 I1 L1 hq => ?_)
      obtain ⟨e1, e2, e3⟩ := hq
      cases e1
      cases e2.symm
      cases e3.symm
      rw [hT]
      refine q_if_eq 201 dX4_canDo_183 (by decide) (fun h183 => ?_) (fun h183 => ?_)
      · rw [bI_z] at h183
        refine q_iconst (0) dX4_canDo_201 (by decide) ?_
        exact q_zret dX4_canDo_202 rfl (by omega) (by decide) ⟨by rw [bI_f (fun q => h183 (Fcan_7.mp q).2.1)], rfl, rfl⟩
      · rw [bI_z, Decidable.not_not] at h183
        refine q_aload_n dX4_canDo_186 rfl ?_
        refine q_getR 1 4 1 5 (is_1 n) (by decide) rfl rfl (by decide) f_X4_21 rfl dX4_canDo_187 ?_
        refine q_iload_n dX4_canDo_190 rfl ?_
        rw [hpa.1]
        refine q_calli [.int _] o_X2_takesListener rfl k_X4_175 rfl (is_5 n) (by decide) rfl dX4_canDo_191 (Nat.le_of_ble_eq_true rfl) (by omega) (by decide) (by omega) (Or.inr rfl) (c_takes l n (d - 1) I L (N a) hn (by have := hpa.2; omega) (by omega)) (fun _ _ _ h => h.elim) (fun r1 I1 L1 hq => ?_)
        obtain ⟨e1, e2, e3⟩ := hq
        cases e1
        cases e2.symm
        cases e3.symm
        rw [hS1, hS2]
        refine q_if_eq 201 dX4_canDo_194 (by decide) (fun h194 => ?_) (fun h194 => ?_)
        · rw [bI_z] at h194
          refine q_iconst (0) dX4_canDo_201 (by decide) ?_
          exact q_zret dX4_canDo_202 rfl (by omega) (by decide) ⟨by rw [← hpa.1, bI_f (fun q => h194 (Fcan_7.mp q).2.2)], rfl, rfl⟩
        · rw [bI_z, Decidable.not_not] at h194
          refine q_iconst (1) dX4_canDo_197 (by decide) ?_
          refine q_goto 202 dX4_canDo_198 (by decide) ?_
          exact q_zret dX4_canDo_202 rfl (by omega) (by decide) ⟨by rw [← hpa.1, bI_t (Fcan_7.mpr ⟨h172, h183, h194⟩)], rfl, rfl⟩
  by_cases e8 : k = 8
  · subst e8
    refine q_swIn 155 dX4_canDo_1 (by decide) (by decide) rfl (by decide) ?_
    refine q_aload_n dX4_canDo_155 rfl ?_
    refine q_getR 1 4 1 5 (is_1 n) (by decide) rfl rfl (by decide) f_X4_21 rfl dX4_canDo_156 ?_
    refine q_iload_n dX4_canDo_159 rfl ?_
    refine q_calli [.int _] o_X2_has rfl k_X4_174 rfl (is_5 n) (by decide) rfl dX4_canDo_160 (Nat.le_of_ble_eq_true rfl) (by omega) (by decide) (by omega) (Or.inr rfl) (c_promises_has l n (d - 1) I L a) (fun _ _ _ h => h.elim) (fun r1 I1 L1 hq => ?_)
    obtain ⟨e1, e2, e3⟩ := hq; cases e1; cases e2.symm; cases e3.symm
    refine q_zret dX4_canDo_163 rfl (by omega) bI_nar ?_
    exact ⟨by rw [bI_c Fcan_8, hP], rfl, rfl⟩
  by_cases e9 : k = 9
  · subst e9
    refine q_swIn 222 dX4_canDo_1 (by decide) (by decide) rfl (by decide) ?_
    refine q_iconst (0) dX4_canDo_222 (by decide) ?_
    refine q_zret dX4_canDo_223 rfl (by omega) (by decide) ?_
    exact ⟨by rw [bI_f (fun q => Fcan_9.mp q)], rfl, rfl⟩
  by_cases e10 : k = 10
  · subst e10
    refine q_swIn 203 dX4_canDo_1 (by decide) (by decide) rfl (by decide) ?_
    refine q_aload_n dX4_canDo_203 rfl ?_
    refine q_getR 1 4 2 6 (is_1 n) (by decide) rfl rfl (by decide) f_X4_28 rfl dX4_canDo_204 ?_
    refine q_iload_n dX4_canDo_207 rfl ?_
    refine q_calli [.int _] o_X0_has rfl k_X4_178 rfl (is_6 n) (by decide) rfl dX4_canDo_208 (Nat.le_of_ble_eq_true rfl) (by omega) (by decide) (by omega) (Or.inr rfl) (c_channels_has l n (d - 1) I L a) (fun _ _ _ h => h.elim) (fun r1 I1 L1 hq => ?_)
    obtain ⟨e1, e2, e3⟩ := hq; cases e1; cases e2.symm; cases e3.symm
    refine q_zret dX4_canDo_211 rfl (by omega) bI_nar ?_
    exact ⟨by rw [bI_c Fcan_10, hC], rfl, rfl⟩
  by_cases e11 : k = 11
  · subst e11
    refine q_swIn 203 dX4_canDo_1 (by decide) (by decide) rfl (by decide) ?_
    refine q_aload_n dX4_canDo_203 rfl ?_
    refine q_getR 1 4 2 6 (is_1 n) (by decide) rfl rfl (by decide) f_X4_28 rfl dX4_canDo_204 ?_
    refine q_iload_n dX4_canDo_207 rfl ?_
    refine q_calli [.int _] o_X0_has rfl k_X4_178 rfl (is_6 n) (by decide) rfl dX4_canDo_208 (Nat.le_of_ble_eq_true rfl) (by omega) (by decide) (by omega) (Or.inr rfl) (c_channels_has l n (d - 1) I L a) (fun _ _ _ h => h.elim) (fun r1 I1 L1 hq => ?_)
    obtain ⟨e1, e2, e3⟩ := hq; cases e1; cases e2.symm; cases e3.symm
    refine q_zret dX4_canDo_211 rfl (by omega) bI_nar ?_
    exact ⟨by rw [bI_c Fcan_11, hC], rfl, rfl⟩
  by_cases e12 : k = 12
  · subst e12
    refine q_swIn 212 dX4_canDo_1 (by decide) (by decide) rfl (by decide) ?_
    refine q_aload_n dX4_canDo_212 rfl ?_
    refine q_getR 1 4 3 2 (is_1 n) (by decide) rfl rfl (by decide) f_X4_37 rfl dX4_canDo_213 ?_
    refine q_iload_n dX4_canDo_216 rfl ?_
    refine q_iload_n dX4_canDo_217 rfl ?_
    refine q_calli [.int _, .int _] o_X5_canShut rfl k_X4_179 rfl (is_2 n) (by decide) rfl dX4_canDo_218 (Nat.le_of_ble_eq_true rfl) (by omega) (by decide) (by omega) (Or.inr rfl) (c_canShut l n (d - 1) I L a b) (fun _ _ _ h => h.elim) (fun r1 I1 L1 hq => ?_)
    obtain ⟨e1, e2, e3⟩ := hq; cases e1; cases e2.symm; cases e3.symm
    refine q_zret dX4_canDo_221 rfl (by omega) bI_nar ?_
    exact ⟨by rw [bI_c Fcan_12], rfl, rfl⟩
  by_cases e13 : k = 13
  · subst e13
    refine q_swIn 155 dX4_canDo_1 (by decide) (by decide) rfl (by decide) ?_
    refine q_aload_n dX4_canDo_155 rfl ?_
    refine q_getR 1 4 1 5 (is_1 n) (by decide) rfl rfl (by decide) f_X4_21 rfl dX4_canDo_156 ?_
    refine q_iload_n dX4_canDo_159 rfl ?_
    refine q_calli [.int _] o_X2_has rfl k_X4_174 rfl (is_5 n) (by decide) rfl dX4_canDo_160 (Nat.le_of_ble_eq_true rfl) (by omega) (by decide) (by omega) (Or.inr rfl) (c_promises_has l n (d - 1) I L a) (fun _ _ _ h => h.elim) (fun r1 I1 L1 hq => ?_)
    obtain ⟨e1, e2, e3⟩ := hq; cases e1; cases e2.symm; cases e3.symm
    refine q_zret dX4_canDo_163 rfl (by omega) bI_nar ?_
    exact ⟨by rw [bI_c Fcan_13, hP], rfl, rfl⟩
  have ko : ∀ j, j < 14 → k ≠ nI j := by
    intro j hj
    rcases (show j = 0 ∨ j = 1 ∨ j = 2 ∨ j = 3 ∨ j = 4 ∨ j = 5 ∨ j = 6 ∨ j = 7 ∨ j = 8 ∨ j = 9 ∨ j = 10 ∨ j = 11 ∨ j = 12 ∨ j = 13 by omega) with rfl | rfl | rfl | rfl | rfl | rfl | rfl | rfl | rfl | rfl | rfl | rfl | rfl | rfl <;> assumption
  refine q_swOut 222 dX4_canDo_1 (k_out ko) (by decide) ?_
  refine q_iconst (0) dX4_canDo_222 (by decide) ?_
  refine q_zret dX4_canDo_223 rfl (by omega) (by decide) ?_
  exact ⟨by rw [bI_f (Fcan_out ko)], rfl, rfl⟩
end

