/-- what an order of the thread does, to the memory, with D frames -/
def Rdo (n : Nat) (I : MI) (L : ML) (D : Nat) (k a b : Int32) : MI × ML :=
  if k = 0 then (Flog I (I 30 51) 0 a, L) else
  if k = 1 then (Fput (FtgtS I b) (I 30 51) (Ftgt n I (I 30 51) b) 0 a 0 a, L) else
  if k = 2 then (Fsch I (I 30 51) (N (I 30 51)) a, TSch I L (N (I 30 51)) b.toInt64) else
  if k = 3 then (upI I 226 (N a) (-1), L) else
  if k = 4 then (Rfin I D (N a) 1 b, L) else
  if k = 5 then (Rfin I D (N a) 2 b, L) else
  if k = 6 then (Rfin I D (N a) 3 b, L) else
  if k = 7 then (Rlis I D (N a) (N b), L) else
  if k = 8 then (Rawait I D (N a), L) else
  if k = 10 then (Rsend I D (N a) b, L) else
  if k = 11 then (Rsend I D (N (a ^^^ 1)) b, L) else
  if k = 12 then (Fshut I n, TShut I L a.toInt64 b.toInt64 n) else (upI I 231 (N a) 1, L)
theorem in_lt2 {b : Int32} {n : Nat} (hn : n < 2 ^ 31) : ((-2 : Int64) ≤ b.toInt64 ∧ b.toInt64 ≤ (nI n - 1).toInt64) ↔ (b = -1 ∨ b = -2 ∨ isL n b) := by
  have e : (nI n - 1).toInt = (n : Int) - 1 := by
    rw [Int32.toInt_sub, nI_toInt hn, show (1 : Int32).toInt = 1 from rfl]
    exact Int.bmod_eq_of_le (by omega) (by omega)
  show _ ↔ b = -1 ∨ b = -2 ∨ (0 ≤ b ∧ b < nI n)
  rw [Int64.le_iff_toInt_le, Int64.le_iff_toInt_le, Int32.toInt_toInt64, Int32.toInt_toInt64, e, Int32.le_iff_toInt_le, Int32.lt_iff_toInt_lt, nI_toInt hn, ← Int32.toInt_inj, ← Int32.toInt_inj, show (-1 : Int32).toInt = -1 from rfl, show (-2 : Int32).toInt = -2 from rfl, show (0 : Int32).toInt = 0 from rfl, show (-2 : Int64).toInt = -2 from rfl]
  omega
theorem Rfin_3 (I : MI) (D p : Nat) (v : Int32) : Rfin I D p 3 v = Rfin I D p 3 0 := by
  unfold Rfin Ffin
  simp
theorem VP_a3 {l : Launch} {n : Nat} {y : vq_M} {d K : Nat} {Q : vq_R} {QX : vq_RX} {k pc : Nat} {lv : List (Nat × Value)} {st : List Value} {I : MI} {L : ML} {z z' : Int32} {a b : Value} (e : z = z') (h : VP l n y d K Q QX k pc lv (a :: b :: .int z' :: st) I L) : VP l n y d K Q QX k pc lv (a :: b :: .int z :: st) I L := by rw [e]; exact h
section
variable (l : Launch) (n : Nat) (hn : n < 2 ^ 31) (d : Nat) (I : MI) (L : ML)
set_option maxHeartbeats 8000000 in
set_option maxRecDepth 100000 in
theorem r_isSo (k a b : Int32) (hn : n < 2 ^ 31) (h : Inv n I) (hk0 : 0 ≤ k) (hk13 : k ≤ 13) (hd : 2 ≤ d) : VM l n m_X10_isSo d 0 [.ref 30, .int k, .int a, .int b] I L (fun r I' L' => r = some (.int (bI (Fcan n I k a b))) ∧ I' = I ∧ L' = L) noX := by
  refine VM_of _ [(0, .ref 30), (1, .int k), (2, .int a), (3, .int b)] rfl (fun a => Nat.le_of_ble_eq_true rfl) rfl ?_
  have hT := h.2.2.1.1
  have hT2 := hT.2
  have hP := h.2.2.2.1.1
  have hP2 := hP.2
  have hC := h.2.2.2.2.1.1
  have hC2 := hC.2
  have hM := h.2.2.2.2.2.1.1
  have hM2 := hM.2
  have h1 := h.2.1
  obtain ⟨q, hq, rfl⟩ := nI_of2 (n := 13) (by decide) (Int32.not_lt.mpr hk0) hk13
  refine q_iload_n dX10_isSo_0 rfl ?_
  have hpr : VP l n m_X10_isSo d 0 (fun r I' L' => r = some (.int (bI (isP I a))) ∧ I' = I ∧ L' = L) noX 0 132 [(0, .ref 30), (1, .int (nI q)), (2, .int a), (3, .int b)] [] I L := by
    refine q_aload_n dX10_isSo_132 rfl ?_
    refine q_iload_n dX10_isSo_133 rfl ?_
    refine q_calli [.int _] o_X10_isPromise rfl k_X10_218 rfl (is_30 n) (by decide) rfl dX10_isSo_134 (Nat.le_of_ble_eq_true rfl) (by omega) (by decide) (by omega) (Or.inr rfl) (r_isPromise l n (d - 1) I L a hP.1 (by omega) (by omega)) (fun _ _ _ h => h.elim) (fun r1 I1 L1 hq1 => ?_)
    obtain ⟨e1, e2, e3⟩ := hq1
    cases e1
    cases e2.symm
    cases e3.symm
    exact q_zret dX10_isSo_137 rfl (by omega) bI_nar ⟨rfl, rfl, rfl⟩
  have hch : VP l n m_X10_isSo d 0 (fun r I' L' => r = some (.int (bI (isC I a))) ∧ I' = I ∧ L' = L) noX 0 182 [(0, .ref 30), (1, .int (nI q)), (2, .int a), (3, .int b)] [] I L := by
    refine q_aload_n dX10_isSo_182 rfl ?_
    refine q_iload_n dX10_isSo_183 rfl ?_
    refine q_calli [.int _] o_X10_isChannel rfl k_X10_172 rfl (is_30 n) (by decide) rfl dX10_isSo_184 (Nat.le_of_ble_eq_true rfl) (by omega) (by decide) (by omega) (Or.inr rfl) (r_isChannel l n (d - 1) I L a hC.1 (by omega) (by omega)) (fun _ _ _ h => h.elim) (fun r1 I1 L1 hq1 => ?_)
    obtain ⟨e1, e2, e3⟩ := hq1
    cases e1
    cases e2.symm
    cases e3.symm
    exact q_zret dX10_isSo_187 rfl (by omega) bI_nar ⟨rfl, rfl, rfl⟩
  rcases (show q = 0 ∨ q = 1 ∨ q = 2 ∨ q = 3 ∨ q = 4 ∨ q = 5 ∨ q = 6 ∨ q = 7 ∨ q = 8 ∨ q = 9 ∨ q = 10 ∨ q = 11 ∨ q = 12 ∨ q = 13 by omega) with rfl | rfl | rfl | rfl | rfl | rfl | rfl | rfl | rfl | rfl | rfl | rfl | rfl | rfl
  · refine q_swOut 203 dX10_isSo_1 (by decide) (by decide) ?_
    refine q_iconst (1) dX10_isSo_203 (by decide) ?_
    refine q_zret dX10_isSo_204 rfl (by omega) (by decide) ?_
    exact ⟨by rw [show nI 0 = 0 from rfl, bI_t (Fcan_0.mpr trivial)], rfl, rfl⟩
  · refine q_swIn 68 dX10_isSo_1 (by decide) (by decide) rfl (by decide) ?_
    rw [show nI 1 = 1 from rfl, bI_c Fcan_1]
    refine q_aload_n dX10_isSo_68 rfl ?_
    refine q_iload_n dX10_isSo_69 rfl ?_
    refine q_calli [.int _] o_X10_isTask rfl k_X10_163 rfl (is_30 n) (by decide) rfl dX10_isSo_70 (Nat.le_of_ble_eq_true rfl) (by omega) (by decide) (by omega) (Or.inr rfl) (r_isTask l n (d - 1) I L a hT.1 (by omega) (by omega)) (fun _ _ _ h => h.elim) (fun r1 I1 L1 hq1 => ?_)
    obtain ⟨e1, e2, e3⟩ := hq1
    cases e1
    cases e2.symm
    cases e3.symm
    refine q_if_eq 98 dX10_isSo_73 (by decide) (fun h73 => ?_) (fun h73 => ?_)
    · rw [bI_z] at h73
      refine q_iconst (0) dX10_isSo_98 (by decide) ?_
      refine q_zret dX10_isSo_99 rfl (by omega) (by decide) ?_
      exact ⟨by rw [bI_f (fun z => h73 z.1)], rfl, rfl⟩
    · rw [bI_z, Decidable.not_not] at h73
      refine q_iload_n dX10_isSo_76 rfl ?_
      refine q_i2l dX10_isSo_77 ?_
      refine q_ldc2 n_X10_216 rfl dX10_isSo_78 ?_
      refine q_aload_n dX10_isSo_81 rfl ?_
      refine q_getI 30 10 1 (is_30 n) (by decide) rfl (by decide) f_X10_132 rfl dX10_isSo_82 ?_
      refine q_iconst (1) dX10_isSo_85 (by decide) ?_
      refine q_isub dX10_isSo_86 ?_
      refine q_i2l dX10_isSo_87 ?_
      rw [h1]
      refine q_calls [.long _, .long _, .long _] o_X10_in rfl k_X10_142 rfl dX10_isSo_88 (Nat.le_of_ble_eq_true rfl) (by omega) (by decide) (by omega) (Or.inr rfl) (r_in l n (d - 1) I L b.toInt64 (-2) (nI n - 1).toInt64) (fun _ _ _ h => h.elim) (fun r1 I1 L1 hq1 => ?_)
      obtain ⟨e1, e2, e3⟩ := hq1
      cases e1
      cases e2.symm
      cases e3.symm
      rw [bI_c (in_lt2 hn)]
      refine q_if_eq 98 dX10_isSo_91 (by decide) (fun h91 => ?_) (fun h91 => ?_)
      · rw [bI_z] at h91
        refine q_iconst (0) dX10_isSo_98 (by decide) ?_
        refine q_zret dX10_isSo_99 rfl (by omega) (by decide) ?_
        exact ⟨by rw [bI_f (fun z => h91 z.2)], rfl, rfl⟩
      · rw [bI_z, Decidable.not_not] at h91
        refine q_iconst (1) dX10_isSo_94 (by decide) ?_
        refine q_goto 99 dX10_isSo_95 (by decide) ?_
        refine q_zret dX10_isSo_99 rfl (by omega) (by decide) ?_
        exact ⟨by rw [bI_t ⟨h73, h91⟩], rfl, rfl⟩
  · refine q_swIn 100 dX10_isSo_1 (by decide) (by decide) rfl (by decide) ?_
    rw [show nI 2 = 2 from rfl, bI_c Fcan_2]
    refine q_aload_n dX10_isSo_100 rfl ?_
    refine q_iload_n dX10_isSo_101 rfl ?_
    refine q_calli [.int _] o_X10_isTask rfl k_X10_163 rfl (is_30 n) (by decide) rfl dX10_isSo_102 (Nat.le_of_ble_eq_true rfl) (by omega) (by decide) (by omega) (Or.inr rfl) (r_isTask l n (d - 1) I L a hT.1 (by omega) (by omega)) (fun _ _ _ h => h.elim) (fun r1 I1 L1 hq1 => ?_)
    obtain ⟨e1, e2, e3⟩ := hq1
    cases e1
    cases e2.symm
    cases e3.symm
    refine q_if_eq 116 dX10_isSo_105 (by decide) (fun h105 => ?_) (fun h105 => ?_)
    · rw [bI_z] at h105
      refine q_iconst (0) dX10_isSo_116 (by decide) ?_
      refine q_zret dX10_isSo_117 rfl (by omega) (by decide) ?_
      exact ⟨by rw [bI_f (fun z => h105 z.1)], rfl, rfl⟩
    · rw [bI_z, Decidable.not_not] at h105
      refine q_iload_n dX10_isSo_108 rfl ?_
      refine q_if_lt 116 dX10_isSo_109 (by decide) (fun h109 => ?_) (fun h109 => ?_)
      · refine q_iconst (0) dX10_isSo_116 (by decide) ?_
        refine q_zret dX10_isSo_117 rfl (by omega) (by decide) ?_
        exact ⟨by rw [bI_f (fun z => absurd h109 (Int32.not_lt.mpr z.2))], rfl, rfl⟩
      · refine q_iconst (1) dX10_isSo_112 (by decide) ?_
        refine q_goto 117 dX10_isSo_113 (by decide) ?_
        refine q_zret dX10_isSo_117 rfl (by omega) (by decide) ?_
        exact ⟨by rw [bI_t ⟨h105, Int32.not_lt.mp h109⟩], rfl, rfl⟩
  · refine q_swIn 118 dX10_isSo_1 (by decide) (by decide) rfl (by decide) ?_
    rw [show nI 3 = 3 from rfl, bI_c Fcan_3]
    refine q_iload_n dX10_isSo_118 rfl ?_
    refine q_i2l dX10_isSo_119 ?_
    refine q_lconst (0) dX10_isSo_120 (by decide) ?_
    refine q_aload_n dX10_isSo_121 rfl ?_
    refine q_getI 30 10 23 (is_30 n) (by decide) rfl (by decide) f_X10_196 rfl dX10_isSo_122 ?_
    refine q_iconst (1) dX10_isSo_125 (by decide) ?_
    refine q_isub dX10_isSo_126 ?_
    refine q_i2l dX10_isSo_127 ?_
    refine q_calls [.long _, .long _, .long _] o_X10_in rfl k_X10_142 rfl dX10_isSo_128 (Nat.le_of_ble_eq_true rfl) (by omega) (by decide) (by omega) (Or.inr rfl) (r_in l n (d - 1) I L a.toInt64 0 (I 30 23 - 1).toInt64) (fun _ _ _ h => h.elim) (fun r1 I1 L1 hq1 => ?_)
    obtain ⟨e1, e2, e3⟩ := hq1
    cases e1
    cases e2.symm
    cases e3.symm
    exact q_zret dX10_isSo_131 rfl (by omega) bI_nar ⟨by rw [bI_c (in_lt hM.1 (by omega))], rfl, rfl⟩
  · rw [show nI 4 = 4 from rfl, bI_c Fcan_4]
    exact q_swIn 132 dX10_isSo_1 (by decide) (by decide) rfl (by decide) hpr
  · rw [show nI 5 = 5 from rfl, bI_c Fcan_5]
    exact q_swIn 132 dX10_isSo_1 (by decide) (by decide) rfl (by decide) hpr
  · rw [show nI 6 = 6 from rfl, bI_c Fcan_6]
    exact q_swIn 132 dX10_isSo_1 (by decide) (by decide) rfl (by decide) hpr
  · refine q_swIn 138 dX10_isSo_1 (by decide) (by decide) rfl (by decide) ?_
    rw [show nI 7 = 7 from rfl, bI_c Fcan_7]
    refine q_aload_n dX10_isSo_138 rfl ?_
    refine q_iload_n dX10_isSo_139 rfl ?_
    refine q_calli [.int _] o_X10_isPromise rfl k_X10_218 rfl (is_30 n) (by decide) rfl dX10_isSo_140 (Nat.le_of_ble_eq_true rfl) (by omega) (by decide) (by omega) (Or.inr rfl) (r_isPromise l n (d - 1) I L a hP.1 (by omega) (by omega)) (fun _ _ _ h => h.elim) (fun r1 I1 L1 hq1 => ?_)
    obtain ⟨e1, e2, e3⟩ := hq1
    cases e1
    cases e2.symm
    cases e3.symm
    refine q_if_eq 178 dX10_isSo_143 (by decide) (fun h143 => ?_) (fun h143 => ?_)
    · rw [bI_z] at h143
      refine q_iconst (0) dX10_isSo_178 (by decide) ?_
      refine q_zret dX10_isSo_179 rfl (by omega) (by decide) ?_
      exact ⟨by rw [bI_f (fun z => h143 z.1)], rfl, rfl⟩
    · rw [bI_z, Decidable.not_not] at h143
      have hnp := isP_nbt h h143
      have hnp2 := hnp.2
      refine q_aload_n dX10_isSo_146 rfl ?_
      refine q_iload_n dX10_isSo_147 rfl ?_
      refine q_calli [.int _] o_X10_isTask rfl k_X10_163 rfl (is_30 n) (by decide) rfl dX10_isSo_148 (Nat.le_of_ble_eq_true rfl) (by omega) (by decide) (by omega) (Or.inr rfl) (r_isTask l n (d - 1) I L b hT.1 (by omega) (by omega)) (fun _ _ _ h => h.elim) (fun r1 I1 L1 hq1 => ?_)
      obtain ⟨e1, e2, e3⟩ := hq1
      cases e1
      cases e2.symm
      cases e3.symm
      refine q_if_eq 178 dX10_isSo_151 (by decide) (fun h151 => ?_) (fun h151 => ?_)
      · rw [bI_z] at h151
        refine q_iconst (0) dX10_isSo_178 (by decide) ?_
        refine q_zret dX10_isSo_179 rfl (by omega) (by decide) ?_
        exact ⟨by rw [bI_f (fun z => h151 z.2.1)], rfl, rfl⟩
      · rw [bI_z, Decidable.not_not] at h151
        refine q_aload_n dX10_isSo_154 rfl ?_
        refine q_getR 30 10 29 229 (is_30 n) (by decide) rfl rfl (by decide) f_X10_78 rfl dX10_isSo_155 ?_
        refine q_iload_n dX10_isSo_158 rfl ?_
        refine q_iald 229 (N a) hn (is_229 n) hnp.1 (by show _ < 32; omega) dX10_isSo_159 ?_
        refine q_if_ne 174 dX10_isSo_160 (by decide) (fun h160 => ?_) (fun h160 => ?_)
        · refine q_iconst (1) dX10_isSo_174 (by decide) ?_
          refine q_goto 179 dX10_isSo_175 (by decide) ?_
          refine q_zret dX10_isSo_179 rfl (by omega) (by decide) ?_
          exact ⟨by rw [bI_t ⟨h143, h151, Or.inl h160⟩], rfl, rfl⟩
        · refine q_aload_n dX10_isSo_163 rfl ?_
          refine q_getR 30 10 32 232 (is_30 n) (by decide) rfl rfl (by decide) f_X10_87 rfl dX10_isSo_164 ?_
          refine q_iload_n dX10_isSo_167 rfl ?_
          refine q_iald 232 (N a) hn (is_232 n) hnp.1 (by show _ < 32; omega) dX10_isSo_168 ?_
          refine q_bipush (6) dX10_isSo_169 (by decide) ?_
          refine q_icmp_ge 178 dX10_isSo_171 (by decide) (fun h171 => ?_) (fun h171 => ?_)
          · refine q_iconst (0) dX10_isSo_178 (by decide) ?_
            refine q_zret dX10_isSo_179 rfl (by omega) (by decide) ?_
            exact ⟨by rw [bI_f (fun z => z.2.2.elim (fun y => y h160) (fun y => absurd y (Int32.not_lt.mpr h171)))], rfl, rfl⟩
          · refine q_iconst (1) dX10_isSo_174 (by decide) ?_
            refine q_goto 179 dX10_isSo_175 (by decide) ?_
            refine q_zret dX10_isSo_179 rfl (by omega) (by decide) ?_
            exact ⟨by rw [bI_t ⟨h143, h151, Or.inr (Int32.not_le.mp h171)⟩], rfl, rfl⟩
  · rw [show nI 8 = 8 from rfl, bI_c Fcan_8]
    exact q_swIn 132 dX10_isSo_1 (by decide) (by decide) rfl (by decide) hpr
  · refine q_swIn 180 dX10_isSo_1 (by decide) (by decide) rfl (by decide) ?_
    rw [show nI 9 = 9 from rfl, bI_c Fcan_9]
    refine q_iconst (0) dX10_isSo_180 (by decide) ?_
    refine q_zret dX10_isSo_181 rfl (by omega) (by decide) ?_
    exact ⟨rfl, rfl, rfl⟩
  · rw [show nI 10 = 10 from rfl, bI_c Fcan_10]
    exact q_swIn 182 dX10_isSo_1 (by decide) (by decide) rfl (by decide) hch
  · rw [show nI 11 = 11 from rfl, bI_c Fcan_11]
    exact q_swIn 182 dX10_isSo_1 (by decide) (by decide) rfl (by decide) hch
  · refine q_swIn 188 dX10_isSo_1 (by decide) (by decide) rfl (by decide) ?_
    rw [show nI 12 = 12 from rfl, bI_c Fcan_12]
    refine q_iload_n dX10_isSo_188 rfl ?_
    refine q_if_lt 201 dX10_isSo_189 (by decide) (fun h189 => ?_) (fun h189 => ?_)
    · refine q_iconst (0) dX10_isSo_201 (by decide) ?_
      refine q_zret dX10_isSo_202 rfl (by omega) (by decide) ?_
      exact ⟨by rw [bI_f (fun z => absurd h189 (Int32.not_lt.mpr z.1))], rfl, rfl⟩
    · refine q_iload_n dX10_isSo_192 rfl ?_
      refine q_iload_n dX10_isSo_193 rfl ?_
      refine q_icmp_lt 201 dX10_isSo_194 (by decide) (fun h194 => ?_) (fun h194 => ?_)
      · refine q_iconst (0) dX10_isSo_201 (by decide) ?_
        refine q_zret dX10_isSo_202 rfl (by omega) (by decide) ?_
        exact ⟨by rw [bI_f (fun z => absurd h194 (Int32.not_lt.mpr z.2))], rfl, rfl⟩
      · refine q_iconst (1) dX10_isSo_197 (by decide) ?_
        refine q_goto 202 dX10_isSo_198 (by decide) ?_
        refine q_zret dX10_isSo_202 rfl (by omega) (by decide) ?_
        exact ⟨by rw [bI_t ⟨Int32.not_lt.mp h189, Int32.not_lt.mp h194⟩], rfl, rfl⟩
  · rw [show nI 13 = 13 from rfl, bI_c Fcan_13]
    exact q_swIn 132 dX10_isSo_1 (by decide) (by decide) rfl (by decide) hpr
set_option maxHeartbeats 8000000 in
set_option maxRecDepth 100000 in
theorem r_work_sw {Q : vq_R} (D : Nat) (k a b v1 v2 v3 : Int32) (hn : n < 2 ^ 31) (h : Inv n I) (hth : nbt (I 30 51) n) (hD : I 30 45 = nI D) (hDb : D < 80) (hk0 : 0 ≤ k) (hk13 : k ≤ 13) (hcan : Fcan n I k a b) (hcb : tr I + 20 < 2 ^ 31) (hd : 5 ≤ d) (hQ : Q none (Rdo n I L D k a b).1 (Rdo n I L D k a b).2) : VP l n m_X10_work d 0 Q noX 0 114 [(6, .int b), (5, .int a), (4, .int k), (3, .int v3), (2, .int v2), (1, .int v1), (0, .ref 30)] [] I L := by
  have hc := Inv_tr h
  have hn8 := h.1
  have hq9 : ∀ i, i < n → nb (I 209 i) 24 := fun i hi => (h.2.2.2.2.2.2.1 i hi).1.1
  have hth2 := hth.2
  obtain ⟨q, hq, rfl⟩ := nI_of2 (n := 13) (by decide) (Int32.not_lt.mpr hk0) hk13
  refine q_iload dX10_work_114 rfl ?_
  rcases (show q = 0 ∨ q = 1 ∨ q = 2 ∨ q = 3 ∨ q = 4 ∨ q = 5 ∨ q = 6 ∨ q = 7 ∨ q = 8 ∨ q = 9 ∨ q = 10 ∨ q = 11 ∨ q = 12 ∨ q = 13 by omega) with rfl | rfl | rfl | rfl | rfl | rfl | rfl | rfl | rfl | rfl | rfl | rfl | rfl | rfl
  · refine q_swIn 184 dX10_work_116 (by decide) (by decide) rfl (by decide) ?_
    refine q_aload_n dX10_work_184 rfl ?_
    refine q_aload_n dX10_work_185 rfl ?_
    refine q_getI 30 10 51 (is_30 n) (by decide) rfl (by decide) f_X10_189 rfl dX10_work_186 ?_
    refine q_iconst (0) dX10_work_189 (by decide) ?_
    refine q_iload dX10_work_190 rfl ?_
    refine q_callv [.int _, .int _, .int _] o_X10_log rfl k_X10_155 rfl (is_30 n) (by decide) rfl dX10_work_192 (Nat.le_of_ble_eq_true rfl) (by omega) (by decide) (by omega) rfl (r_log l n hn (d - 1) I L (tr I) (I 30 51) 0 a hc (by omega)) (fun _ _ _ h => h.elim) (fun I1 L1 hq1 => ?_)
    obtain ⟨-, e2, e3⟩ := hq1
    have e2 : I1 = Flog I (I 30 51) 0 a := e2
    subst e2
    cases e3.symm
    refine q_goto 362 dX10_work_195 (by decide) ?_
    exact q_vret dX10_work_362 rfl (by omega) hQ
  · have hcan := Fcan_1.mp hcan
    obtain ⟨z1, z2⟩ := Ftgt_ok h hth hcan.2
    have g1 := gc_tgtS (T := L) (w := 0) b h (by omega)
    have hph := g1.2
    have htr : tr (FtgtS I b) = tr I := by unfold tr FtgtS FchS; split <;> simp [rdI]
    have e51 : FtgtS I b 30 51 = I 30 51 := by unfold FtgtS FchS; split <;> simp [rdI]
    have hqq := (g1.1.1.2.2.2.2.2.2.1 _ z2).1.1
    have kend : VP l n m_X10_work d 0 Q noX 0 228 [(6, .int b), (5, .int a), (4, .int (nI 1)), (3, .int v3), (2, .int v2), (1, .int v1), (0, .ref 30)] [.int (nI (Ftgt n I (I 30 51) b)), .ref 30] (FtgtS I b) L := by
      refine q_iconst (0) dX10_work_228 (by decide) ?_
      refine q_iload dX10_work_229 rfl ?_
      refine q_iconst (0) dX10_work_231 (by decide) ?_
      refine q_iload dX10_work_232 rfl ?_
      refine q_calli [.int _, .int _, .int _, .int _, .int _] o_X10_put rfl k_X10_212 rfl (is_30 n) (by decide) rfl dX10_work_234 (Nat.le_of_ble_eq_true rfl) (by omega) (by decide) (by omega) (Or.inr rfl) (r_put l n (d - 1) (FtgtS I b) L (Ftgt n I (I 30 51) b) 0 a 0 a hn (by omega) hqq (Inv_tr g1.1.1) (by omega) (by omega)) (fun _ _ _ h => h.elim) (fun r1 I1 L1 hq1 => ?_)
      obtain ⟨e1, e2, e3⟩ := hq1
      cases e1
      subst e2
      cases e3.symm
      refine q_pop dX10_work_237 rfl ?_
      refine q_goto 362 dX10_work_238 (by decide) ?_
      rw [e51]
      exact q_vret dX10_work_362 rfl (by omega) hQ
    refine q_swIn 198 dX10_work_116 (by decide) (by decide) rfl (by decide) ?_
    rw [← z1] at kend
    refine q_aload_n dX10_work_198 rfl ?_
    refine q_iload dX10_work_199 rfl ?_
    refine q_iconst (-1) dX10_work_201 (by decide) ?_
    refine q_icmp_ne 212 dX10_work_202 (by decide) (fun h202 => ?_) (fun h202 => ?_)
    · rw [if_neg h202] at kend
      refine q_iload dX10_work_212 rfl ?_
      refine q_bipush (-2) dX10_work_214 (by decide) ?_
      refine q_icmp_ne 226 dX10_work_216 (by decide) (fun h216 => ?_) (fun h216 => ?_)
      · rw [if_neg h216, FtgtS, if_neg h216] at kend
        refine q_iload dX10_work_226 rfl ?_
        exact kend
      · rw [if_pos h216, FtgtS, if_pos h216] at kend
        refine q_aload_n dX10_work_219 rfl ?_
        refine q_calli [] o_X10_choose rfl k_X10_228 rfl (is_30 n) (by decide) rfl dX10_work_220 (Nat.le_of_ble_eq_true rfl) (by omega) (by decide) (by omega) (Or.inl rfl) (r_choose l n (d - 1) I L hn8 h.2.1) (fun _ _ _ h => h.elim) (fun r1 I1 L1 hq1 => ?_)
        obtain ⟨e1, e2, e3⟩ := hq1
        cases e1
        subst e2
        cases e3.symm
        refine q_goto 228 dX10_work_223 (by decide) ?_
        exact kend
    · have hx : ¬ b = -2 := by rw [h202]; decide
      rw [if_pos h202, FtgtS, if_neg hx] at kend
      refine q_aload_n dX10_work_205 rfl ?_
      refine q_getI 30 10 51 (is_30 n) (by decide) rfl (by decide) f_X10_189 rfl dX10_work_206 ?_
      refine q_goto 228 dX10_work_209 (by decide) ?_
      exact kend
  · refine q_swIn 241 dX10_work_116 (by decide) (by decide) rfl (by decide) ?_
    refine q_aload_n dX10_work_241 rfl ?_
    refine q_iload dX10_work_242 rfl ?_
    refine q_iload dX10_work_244 rfl ?_
    refine q_i2l dX10_work_246 ?_
    refine q_aload_n dX10_work_247 rfl ?_
    refine q_getI 30 10 51 (is_30 n) (by decide) rfl (by decide) f_X10_189 rfl dX10_work_248 ?_
    refine VP_top0 hth.1 ?_
    refine q_calli [.int _, .long _, .int _] o_X10_schedule rfl k_X10_232 rfl (is_30 n) (by decide) rfl dX10_work_251 (Nat.le_of_ble_eq_true rfl) (by omega) (by decide) (by omega) (Or.inr rfl) (r_schedule l n (d - 1) I L (N (I 30 51)) a b.toInt64 hn (by omega) h.2.2.2.2.2.1.1 hc (by omega) (by omega)) (fun _ _ _ h => h.elim) (fun r1 I1 L1 hq1 => ?_)
    obtain ⟨e1, e2, e3⟩ := hq1
    cases e1
    subst e2
    cases e3.symm
    refine q_pop dX10_work_254 rfl ?_
    refine q_goto 362 dX10_work_255 (by decide) ?_
    exact q_vret dX10_work_362 rfl (by omega) hQ
  · have hcan := Fcan_3.mp hcan
    have hz := h.2.2.2.2.2.1.1
    have hz2 := hz.2
    have hna := is_nbt hz (by decide) hcan.1 hcan.2
    have hna2 := hna.2
    refine q_swIn 258 dX10_work_116 (by decide) (by decide) rfl (by decide) ?_
    refine q_aload_n dX10_work_258 rfl ?_
    refine q_getR 30 10 26 226 (is_30 n) (by decide) rfl rfl (by decide) f_X10_72 rfl dX10_work_259 ?_
    refine q_iload dX10_work_262 rfl ?_
    refine q_iconst (-1) dX10_work_264 (by decide) ?_
    refine q_iast 226 (N a) hn (is_226 n) hna.1 (by show _ < 400; omega) dX10_work_265 ?_
    refine q_goto 362 dX10_work_266 (by decide) ?_
    exact q_vret dX10_work_362 rfl (by omega) hQ
  · have hcan := Fcan_4.mp hcan
    have hna := isP_nbt h hcan
    have hna2 := hna.2
    have h32 := h.2.2.2.1.1.2
    refine q_swIn 269 dX10_work_116 (by decide) (by decide) rfl (by decide) ?_
    refine q_aload_n dX10_work_269 rfl ?_
    refine q_iload dX10_work_270 rfl ?_
    refine q_iload dX10_work_272 rfl ?_
    refine q_iconst (3) dX10_work_274 (by decide) ?_
    refine q_isub dX10_work_275 ?_
    refine q_iload dX10_work_276 rfl ?_
    refine VP_a3 hna.1 ?_
    rw [show nI 4 - 3 = 1 from by decide]
    refine q_calli [.int _, .int _, .int _] o_X10_finish rfl k_X10_236 rfl (is_30 n) (by decide) rfl dX10_work_278 (Nat.le_of_ble_eq_true rfl) (by omega) (by decide) (by omega) (Or.inr rfl) (r_finish l n (d - 1) I L D (N a) 1 b hn hD hDb (by omega) (by omega)) (fun _ _ _ h => h.elim) (fun r1 I1 L1 hq1 => ?_)
    obtain ⟨e1, e2, e3⟩ := hq1
    cases e1
    subst e2
    cases e3.symm
    refine q_pop dX10_work_281 rfl ?_
    refine q_goto 362 dX10_work_282 (by decide) ?_
    exact q_vret dX10_work_362 rfl (by omega) hQ
  · have hcan := Fcan_5.mp hcan
    have hna := isP_nbt h hcan
    have hna2 := hna.2
    have h32 := h.2.2.2.1.1.2
    refine q_swIn 269 dX10_work_116 (by decide) (by decide) rfl (by decide) ?_
    refine q_aload_n dX10_work_269 rfl ?_
    refine q_iload dX10_work_270 rfl ?_
    refine q_iload dX10_work_272 rfl ?_
    refine q_iconst (3) dX10_work_274 (by decide) ?_
    refine q_isub dX10_work_275 ?_
    refine q_iload dX10_work_276 rfl ?_
    refine VP_a3 hna.1 ?_
    rw [show nI 5 - 3 = 2 from by decide]
    refine q_calli [.int _, .int _, .int _] o_X10_finish rfl k_X10_236 rfl (is_30 n) (by decide) rfl dX10_work_278 (Nat.le_of_ble_eq_true rfl) (by omega) (by decide) (by omega) (Or.inr rfl) (r_finish l n (d - 1) I L D (N a) 2 b hn hD hDb (by omega) (by omega)) (fun _ _ _ h => h.elim) (fun r1 I1 L1 hq1 => ?_)
    obtain ⟨e1, e2, e3⟩ := hq1
    cases e1
    subst e2
    cases e3.symm
    refine q_pop dX10_work_281 rfl ?_
    refine q_goto 362 dX10_work_282 (by decide) ?_
    exact q_vret dX10_work_362 rfl (by omega) hQ
  · have hcan := Fcan_6.mp hcan
    have hna := isP_nbt h hcan
    have hna2 := hna.2
    have h32 := h.2.2.2.1.1.2
    refine q_swIn 285 dX10_work_116 (by decide) (by decide) rfl (by decide) ?_
    refine q_aload_n dX10_work_285 rfl ?_
    refine q_iload dX10_work_286 rfl ?_
    refine q_iconst (3) dX10_work_288 (by decide) ?_
    refine q_iconst (0) dX10_work_289 (by decide) ?_
    refine VP_a3 hna.1 ?_
    refine q_calli [.int _, .int _, .int _] o_X10_finish rfl k_X10_236 rfl (is_30 n) (by decide) rfl dX10_work_290 (Nat.le_of_ble_eq_true rfl) (by omega) (by decide) (by omega) (Or.inr rfl) (r_finish l n (d - 1) I L D (N a) 3 0 hn hD hDb (by omega) (by omega)) (fun _ _ _ h => h.elim) (fun r1 I1 L1 hq1 => ?_)
    obtain ⟨e1, e2, e3⟩ := hq1
    cases e1
    subst e2
    cases e3.symm
    refine q_pop dX10_work_293 rfl ?_
    refine q_goto 362 dX10_work_294 (by decide) ?_
    rw [← Rfin_3 I D (N a) b]
    exact q_vret dX10_work_362 rfl (by omega) hQ
  · have hcan := Fcan_7.mp hcan
    have hna := isP_nbt h hcan.1
    have hnb := isT_nbt h hcan.2.1
    have hna2 := hna.2
    have h32 := h.2.2.2.1.1.2
    obtain ⟨p1, p2, p3⟩ := h.2.2.2.1.2 (N a) hna2
    refine q_swIn 297 dX10_work_116 (by decide) (by decide) rfl (by decide) ?_
    refine q_aload_n dX10_work_297 rfl ?_
    refine q_iload dX10_work_298 rfl ?_
    refine q_iload dX10_work_300 rfl ?_
    refine VP_top0 hnb.1 (VP_top1 hna.1 ?_)
    refine q_callv [.int _, .int _] o_X10_listenAt rfl k_X10_239 rfl (is_30 n) (by decide) rfl dX10_work_302 (Nat.le_of_ble_eq_true rfl) (by omega) (by decide) (by omega) rfl (r_listenAt l n (d - 1) I L D (N a) (N b) hn hn8.2 hD hDb (by omega) p1 (hq9 _ p1.2) p2 hcan.2.2 hc (by omega) (by omega)) (fun _ _ _ h => h.elim) (fun I1 L1 hq1 => ?_)
    obtain ⟨-, e2, e3⟩ := hq1
    subst e2
    cases e3.symm
    refine q_goto 362 dX10_work_305 (by decide) ?_
    exact q_vret dX10_work_362 rfl (by omega) hQ
  · have hcan := Fcan_8.mp hcan
    have hna := isP_nbt h hcan
    have hna2 := hna.2
    have h32 := h.2.2.2.1.1.2
    refine q_swIn 308 dX10_work_116 (by decide) (by decide) rfl (by decide) ?_
    refine q_aload_n dX10_work_308 rfl ?_
    refine q_iload dX10_work_309 rfl ?_
    refine VP_top0 hna.1 ?_
    refine q_callv [.int _] o_X10_await rfl k_X10_242 rfl (is_30 n) (by decide) rfl dX10_work_311 (Nat.le_of_ble_eq_true rfl) (by omega) (by decide) (by omega) rfl (r_await l n (d - 1) I L D (N a) hn hn8.2 hD hDb (by omega) hth hc (by omega) (by omega)) (fun _ _ _ h => h.elim) (fun I1 L1 hq1 => ?_)
    obtain ⟨-, e2, e3⟩ := hq1
    subst e2
    cases e3.symm
    refine q_goto 362 dX10_work_314 (by decide) ?_
    exact q_vret dX10_work_362 rfl (by omega) hQ
  · exact absurd hcan (fun z => Fcan_9.mp z)
  · have hcan := Fcan_10.mp hcan
    have hna := isC_nbt h hcan
    have hna2 := hna.2
    have h16 := h.2.2.2.2.1.1.2
    obtain ⟨p1, p2, p3⟩ := h.2.2.2.2.1.2.2 (N a) hna2
    refine q_swIn 317 dX10_work_116 (by decide) (by decide) rfl (by decide) ?_
    refine q_aload_n dX10_work_317 rfl ?_
    refine q_iload dX10_work_318 rfl ?_
    refine q_iload dX10_work_320 rfl ?_
    refine VP_top1 hna.1 ?_
    refine q_calli [.int _, .int _] o_X10_send rfl k_X10_246 rfl (is_30 n) (by decide) rfl dX10_work_322 (Nat.le_of_ble_eq_true rfl) (by omega) (by decide) (by omega) (Or.inr rfl) (r_send l n (d - 1) I L D (N a) b hn hn8.2 hD hDb (by omega) p1 (hq9 _ p1.2) hc (by omega) (by omega)) (fun _ _ _ h => h.elim) (fun r1 I1 L1 hq1 => ?_)
    obtain ⟨e1, e2, e3⟩ := hq1
    cases e1
    subst e2
    cases e3.symm
    refine q_pop dX10_work_325 rfl ?_
    refine q_goto 362 dX10_work_326 (by decide) ?_
    exact q_vret dX10_work_362 rfl (by omega) hQ
  · have hcan := Fcan_11.mp hcan
    have hna := isC_nbt h hcan
    obtain ⟨y1, y2, y3⟩ := peer_ok h hna
    have h16 := h.2.2.2.2.1.1.2
    rw [← y2] at y1 y3
    obtain ⟨p1, p2, p3⟩ := h.2.2.2.2.1.2.2 (N (a ^^^ 1)) y3
    refine q_swIn 329 dX10_work_116 (by decide) (by decide) rfl (by decide) ?_
    refine q_aload_n dX10_work_329 rfl ?_
    refine q_iload dX10_work_330 rfl ?_
    refine q_iconst (1) dX10_work_332 (by decide) ?_
    refine q_ixor dX10_work_333 ?_
    refine q_iload dX10_work_334 rfl ?_
    refine VP_top1 y1 ?_
    refine q_calli [.int _, .int _] o_X10_send rfl k_X10_246 rfl (is_30 n) (by decide) rfl dX10_work_336 (Nat.le_of_ble_eq_true rfl) (by omega) (by decide) (by omega) (Or.inr rfl) (r_send l n (d - 1) I L D (N (a ^^^ 1)) b hn hn8.2 hD hDb (by omega) p1 (hq9 _ p1.2) hc (by omega) (by omega)) (fun _ _ _ h => h.elim) (fun r1 I1 L1 hq1 => ?_)
    obtain ⟨e1, e2, e3⟩ := hq1
    cases e1
    subst e2
    cases e3.symm
    refine q_pop dX10_work_339 rfl ?_
    refine q_goto 362 dX10_work_340 (by decide) ?_
    exact q_vret dX10_work_362 rfl (by omega) hQ
  · refine q_swIn 343 dX10_work_116 (by decide) (by decide) rfl (by decide) ?_
    refine q_aload_n dX10_work_343 rfl ?_
    refine q_iload dX10_work_344 rfl ?_
    refine q_iload dX10_work_346 rfl ?_
    refine q_callv [.int _, .int _] o_X10_shut rfl k_X10_250 rfl (is_30 n) (by decide) rfl dX10_work_348 (Nat.le_of_ble_eq_true rfl) (by omega) (by decide) (by omega) rfl (r_shut l n (d - 1) I L a b hn hn8.2 h.2.1 (by omega) (fun j hj => by have g := gc_shut (T := L) (T' := L) (w := 0) h (by omega) (by omega) j hj; have g2 := g.2; simp only [Ph] at g2; exact ⟨Inv_tr g.1.1, by omega⟩)) (fun _ _ _ h => h.elim) (fun I1 L1 hq1 => ?_)
    obtain ⟨-, e2, e3⟩ := hq1
    subst e2
    cases e3.symm
    refine q_goto 362 dX10_work_351 (by decide) ?_
    exact q_vret dX10_work_362 rfl (by omega) hQ
  · have hcan := Fcan_13.mp hcan
    have hna := isP_nbt h hcan
    have hna2 := hna.2
    have h32 := h.2.2.2.1.1.2
    refine q_swOut 354 dX10_work_116 (by decide) (by decide) ?_
    refine q_aload_n dX10_work_354 rfl ?_
    refine q_getR 30 10 31 231 (is_30 n) (by decide) rfl rfl (by decide) f_X10_84 rfl dX10_work_355 ?_
    refine q_iload dX10_work_358 rfl ?_
    refine q_iconst (1) dX10_work_360 (by decide) ?_
    refine q_zast 231 (N a) hn (is_231 n) hna.1 (by show _ < 32; omega) (by decide) dX10_work_361 ?_
    exact q_vret dX10_work_362 rfl (by omega) hQ
end

