section
variable {l : Launch} {n : Nat} {y : vq_M} {d K : Nat} {Q : vq_R} {QX : vq_RX} {k pc : Nat} {lv : List (Nat × Value)} {st : List Value} {I : MI} {L : ML}
theorem VP_top0 {z z' : Int32} (e : z = z') (h : VP l n y d K Q QX k pc lv (.int z' :: st) I L) : VP l n y d K Q QX k pc lv (.int z :: st) I L := by rw [e]; exact h
theorem VP_top1 {z z' : Int32} {a : Value} (e : z = z') (h : VP l n y d K Q QX k pc lv (a :: .int z' :: st) I L) : VP l n y d K Q QX k pc lv (a :: .int z :: st) I L := by rw [e]; exact h
theorem VP_top2 {z z' u u' : Int32} (e : z = z') (e2 : u = u') (h : VP l n y d K Q QX k pc lv (.int z' :: .int u' :: st) I L) : VP l n y d K Q QX k pc lv (.int z :: .int u :: st) I L := by rw [e, e2]; exact h
theorem VP_top4 {z z' : Int32} {a b : Value} (e : z = z') (h : VP l n y d K Q QX k pc lv (a :: b :: .int z' :: st) I L) : VP l n y d K Q QX k pc lv (a :: b :: .int z :: st) I L := by rw [e]; exact h
theorem VP_ths {th z : Int32} {a b : Value} (e : th = z) (h : VP l n y d K Q QX k pc lv (a :: b :: .int z :: st) I L) : VP l n y d K Q QX k pc lv (a :: b :: .int th :: st) I L := by rw [e]; exact h
end
section
variable (l : Launch) (n : Nat) (hn : n < 2 ^ 31) (d : Nat) (I : MI) (L : ML)
set_option maxHeartbeats 8000000 in
set_option maxRecDepth 100000 in
theorem c_carryOut {S J : MI} {T M : ML} {w nf fr g : Nat} {D : Nat → Nat → Nat → PX → PX} {G : Nat → Nat → Nat → Int32 → PX → PX} {th : Int32} (hth : nbt th n) (hcD : cDo l n th g D) (hD : hypD n D) (hcG : cGo l n th g G) (k a b : Int32) (hn : n < 2 ^ 31) (h : CX n S T w nf fr J M I L) (hw : w ≤ 1000) (hk8 : k ≠ 8) (hc : Fcan n S k a b) (hg : 13 ≤ nf + 2 * fr + (g + 1)) (hnf : nf ≤ 4) (hfr : fr ≤ 4) (hb : Ph (S, T, w) + 120 < 2 ^ 31) (hd : 10 * g + 13 ≤ d) : VM l n m_X4_carryOut d 0 [.ref 1, .int th, .int k, .int a, .int b] I L (fun r I' L' => r = none ∧ CX n (Lcarry n D G th nf fr k a b (S, T, w)).1 (Lcarry n D G th nf fr k a b (S, T, w)).2.1 (Lcarry n D G th nf fr k a b (S, T, w)).2.2 nf fr J M I' L') noX := by
  refine VM_of _ [(0, .ref 1), (1, .int th), (2, .int k), (3, .int a), (4, .int b)] rfl (fun a => Nat.le_of_ble_eq_true rfl) rfl ?_
  have hb1 : tr S + 120 < 2 ^ 31 := Ph_tr hb
  have hn8 := h.2.1.1
  have hc0 := CX_cnt h
  refine q_iload_n dX4_carryOut_0 rfl ?_
  by_cases e0 : k = 0
  · subst e0
    have hc := Fcan_0.mp hc
    refine q_swIn 72 dX4_carryOut_1 (by decide) (by decide) rfl (by decide) ?_
    have e9 : Lcarry n D G th nf fr 0 a b (S, T, w) = (Flog S th 0 a, T, w) := by
      unfold Lcarry
      simp
    rw [e9]
    have hX := CX_log th 0 a h (by omega)
    refine q_aload_n dX4_carryOut_72 rfl ?_
    refine q_getR 1 4 4 3 (is_1 n) (by decide) rfl rfl (by decide) f_X4_45 rfl dX4_carryOut_73 ?_
    refine q_iload_n dX4_carryOut_76 rfl ?_
    refine q_iconst (0) dX4_carryOut_77 (by decide) ?_
    refine q_iload_n dX4_carryOut_78 rfl ?_
    refine q_callv [.int _, .int _, .int _] o_X8_log rfl k_X4_102 rfl (is_3 n) (by decide) rfl dX4_carryOut_79 (Nat.le_of_ble_eq_true rfl) (by omega) (by decide) (by omega) rfl (c_log l n hn (d - 1) I L (tr S) th 0 a hc0 (by omega)) (fun _ _ _ h => h.elim) (fun I2 L2 hq => ?_)
    obtain ⟨-, e2, e3⟩ := hq
    subst e2
    cases e3.symm
    refine q_goto 241 dX4_carryOut_82 (by decide) ?_
    exact q_vret dX4_carryOut_241 rfl (by omega) ⟨rfl, hX⟩
  by_cases e1 : k = 1
  · subst e1
    have hc := Fcan_1.mp hc
    refine q_swIn 85 dX4_carryOut_1 (by decide) (by decide) rfl (by decide) ?_
    have e9 : Lcarry n D G th nf fr 1 a b (S, T, w) = (Fput (FtgtS S b) th (Ftgt n S th b) 0 a 0 a, T, w) := by
      unfold Lcarry
      simp
    rw [e9]
    have ht := isT_nbt h.2.1 hc.1
    obtain ⟨q1, q2⟩ := Ftgt_ok h.2.1 hth hc.2
    refine q_aload_n dX4_carryOut_85 rfl ?_
    refine q_getR 1 4 3 2 (is_1 n) (by decide) rfl rfl (by decide) f_X4_37 rfl dX4_carryOut_86 ?_
    refine q_iload_n dX4_carryOut_89 rfl ?_
    refine q_aload_n dX4_carryOut_90 rfl ?_
    refine q_iload_n dX4_carryOut_91 rfl ?_
    refine q_iload dX4_carryOut_92 rfl ?_
    refine q_calli [.int _, .int _] o_X4_targetOf rfl k_X4_192 rfl (is_1 n) (by decide) rfl dX4_carryOut_94 (Nat.le_of_ble_eq_true rfl) (by omega) (by decide) (by omega) (Or.inl rfl) (c_targetOf l n (d - 1) I L th b h (by omega)) (fun _ _ _ h => h.elim) (fun r1 I2 L2 hq => ?_)
    obtain ⟨e1, hX1⟩ := hq
    cases e1
    rw [q1]
    have g1 := gc_tgtS (T := T) (w := w) b h.2.1 hw
    have hph := g1.2
    have htr : tr (FtgtS S b) + 1 < 2 ^ 31 := Ph_tr (x := (FtgtS S b, T, w)) (b := 1) (by omega)
    have e3 : FtgtS S b 30 3 = S 30 3 := g1.1.2.1.1.2.1
    refine q_iconst (0) dX4_carryOut_97 (by decide) ?_
    refine q_iload_n dX4_carryOut_98 rfl ?_
    refine q_iconst (0) dX4_carryOut_99 (by decide) ?_
    refine q_calli [.int _, .int _, .int _, .int _, .int _] o_X5_enqueue rfl k_X4_195 rfl (is_2 n) (by decide) rfl dX4_carryOut_100 (Nat.le_of_ble_eq_true rfl) (by omega) (by decide) (by omega) (Or.inr rfl) (c_enqueue l n (d - 1) I2 L2 (Ftgt n S th b) th 0 a 0 hn hX1 q2 (Or.inr ⟨Or.inl rfl, by rw [e3]; exact ht⟩) htr (by omega)) (fun _ _ _ h => h.elim) (fun r2 I3 L3 hq => ?_)
    obtain ⟨-, hX⟩ := hq
    rw [if_neg (by decide)] at hX
    refine q_pop dX4_carryOut_103 rfl ?_
    refine q_goto 241 dX4_carryOut_104 (by decide) ?_
    exact q_vret dX4_carryOut_241 rfl (by omega) ⟨rfl, hX⟩
  by_cases e2 : k = 2
  · subst e2
    have hc := Fcan_2.mp hc
    refine q_swIn 107 dX4_carryOut_1 (by decide) (by decide) rfl (by decide) ?_
    have e9 : Lcarry n D G th nf fr 2 a b (S, T, w) = (Fsch S th (N th) a, TSch S T (N th) b.toInt64, w) := by
      unfold Lcarry
      simp
    rw [e9]
    have ht := isT_nbt h.2.1 hc.1
    refine q_aload_n dX4_carryOut_107 rfl ?_
    refine q_getR 1 4 3 2 (is_1 n) (by decide) rfl rfl (by decide) f_X4_37 rfl dX4_carryOut_108 ?_
    refine q_iload_n dX4_carryOut_111 rfl ?_
    refine q_iload_n dX4_carryOut_112 rfl ?_
    refine q_iload_n dX4_carryOut_113 rfl ?_
    refine q_iload dX4_carryOut_114 rfl ?_
    have hth1 : th = nI (N th) := hth.1
    refine VP_ths (th := th) (z := nI (N th)) hth1 ?_
    refine q_calli [.int _, .int _, .int _, .int _] o_X5_schedule rfl k_X4_199 rfl (is_2 n) (by decide) rfl dX4_carryOut_116 (Nat.le_of_ble_eq_true rfl) (by omega) (by decide) (by omega) (Or.inl rfl) (c_schedule l n (d - 1) I L (N th) th a b hn h hth.2 ht (by omega) (by omega)) (fun _ _ _ h => h.elim) (fun r1 I2 L2 hq => ?_)
    obtain ⟨-, hX⟩ := hq
    refine q_pop dX4_carryOut_119 rfl ?_
    refine q_goto 241 dX4_carryOut_120 (by decide) ?_
    exact q_vret dX4_carryOut_241 rfl (by omega) ⟨rfl, hX⟩
  by_cases e3 : k = 3
  · subst e3
    have hc := Fcan_3.mp hc
    refine q_swIn 123 dX4_carryOut_1 (by decide) (by decide) rfl (by decide) ?_
    have e9 : Lcarry n D G th nf fr 3 a b (S, T, w) = (upI S 226 (N a) (-1), T, w) := by
      unfold Lcarry
      simp
    rw [e9]
    refine q_aload_n dX4_carryOut_123 rfl ?_
    refine q_getR 1 4 3 2 (is_1 n) (by decide) rfl rfl (by decide) f_X4_37 rfl dX4_carryOut_124 ?_
    refine q_iload_n dX4_carryOut_127 rfl ?_
    refine q_calli [.int _] o_X5_dropTimer rfl k_X4_202 rfl (is_2 n) (by decide) rfl dX4_carryOut_128 (Nat.le_of_ble_eq_true rfl) (by omega) (by decide) (by omega) (Or.inr rfl) (c_dropTimer l n (d - 1) I L a hn h (by omega)) (fun _ _ _ h => h.elim) (fun r1 I2 L2 hq => ?_)
    obtain ⟨-, hX0⟩ := hq
    have hX : CX n (upI S 226 (N a) (-1)) T w nf fr J M I2 L2 := by
      by_cases e : 0 ≤ S 226 (N a)
      · rw [if_pos ⟨hc.1, hc.2, e⟩] at hX0
        exact hX0
      · rw [if_neg (fun q => e q.2.2)] at hX0
        have ha := is_nbt h.2.1.2.2.2.2.2.1.1 (by decide) hc.1 hc.2
        have e1 : S 226 (N a) = -1 := by
          rcases (h.2.1.2.2.2.2.2.1.2 (N a) ha.2).2 with q | q
          · exact q
          · exact absurd (by rw [q.1]; exact le_nI _ (by have := q.2; omega)) e
        have e2 : upI S 226 (N a) (-1) = S := by
          funext x z
          simp only [rdI]
          split
          · rename_i hq
            rw [hq.1, hq.2, e1]
          · rfl
        rw [e2]
        exact hX0
    refine q_pop dX4_carryOut_131 rfl ?_
    refine q_goto 241 dX4_carryOut_132 (by decide) ?_
    exact q_vret dX4_carryOut_241 rfl (by omega) ⟨rfl, hX⟩
  by_cases e4 : k = 4
  · subst e4
    have hc := Fcan_4.mp hc
    refine q_swIn 135 dX4_carryOut_1 (by decide) (by decide) rfl (by decide) ?_
    have e9 : Lcarry n D G th nf fr 4 a b (S, T, w) = Lfin D th nf fr (N a) 1 b (S, T, w) := by
      unfold Lcarry
      simp
    rw [e9]
    have ha := isP_nbt h.2.1 hc
    refine q_aload_n dX4_carryOut_135 rfl ?_
    refine q_iload_n dX4_carryOut_136 rfl ?_
    refine q_iload_n dX4_carryOut_137 rfl ?_
    refine q_iconst (1) dX4_carryOut_138 (by decide) ?_
    refine q_iload dX4_carryOut_139 rfl ?_
    refine VP_top4 (z := a) (z' := nI (N a)) ha.1 ?_
    refine q_calli [.int _, .int _, .int _, .int _] o_X4_settle rfl k_X4_205 rfl (is_1 n) (by decide) rfl dX4_carryOut_141 (Nat.le_of_ble_eq_true rfl) (by omega) (by decide) (by omega) (Or.inr rfl) (c_settle l n (d - 1) I L (fun _ => hcD) (fun _ => hD) (N a) 1 b (by decide) hn h hw ha.2 hg hnf hfr (by omega) (by omega)) (fun _ _ _ h => h.elim) (fun r1 I2 L2 hq => ?_)
    obtain ⟨-, hX⟩ := hq
    refine q_pop dX4_carryOut_144 rfl ?_
    refine q_goto 241 dX4_carryOut_145 (by decide) ?_
    exact q_vret dX4_carryOut_241 rfl (by omega) ⟨rfl, hX⟩
  by_cases e5 : k = 5
  · subst e5
    have hc := Fcan_5.mp hc
    refine q_swIn 148 dX4_carryOut_1 (by decide) (by decide) rfl (by decide) ?_
    have e9 : Lcarry n D G th nf fr 5 a b (S, T, w) = Lfin D th nf fr (N a) 2 b (S, T, w) := by
      unfold Lcarry
      simp
    rw [e9]
    have ha := isP_nbt h.2.1 hc
    refine q_aload_n dX4_carryOut_148 rfl ?_
    refine q_iload_n dX4_carryOut_149 rfl ?_
    refine q_iload_n dX4_carryOut_150 rfl ?_
    refine q_iconst (2) dX4_carryOut_151 (by decide) ?_
    refine q_iload dX4_carryOut_152 rfl ?_
    refine VP_top4 (z := a) (z' := nI (N a)) ha.1 ?_
    refine q_calli [.int _, .int _, .int _, .int _] o_X4_settle rfl k_X4_205 rfl (is_1 n) (by decide) rfl dX4_carryOut_154 (Nat.le_of_ble_eq_true rfl) (by omega) (by decide) (by omega) (Or.inr rfl) (c_settle l n (d - 1) I L (fun _ => hcD) (fun _ => hD) (N a) 2 b (by decide) hn h hw ha.2 hg hnf hfr (by omega) (by omega)) (fun _ _ _ h => h.elim) (fun r1 I2 L2 hq => ?_)
    obtain ⟨-, hX⟩ := hq
    refine q_pop dX4_carryOut_157 rfl ?_
    refine q_goto 241 dX4_carryOut_158 (by decide) ?_
    exact q_vret dX4_carryOut_241 rfl (by omega) ⟨rfl, hX⟩
  by_cases e6 : k = 6
  · subst e6
    have hc := Fcan_6.mp hc
    refine q_swIn 161 dX4_carryOut_1 (by decide) (by decide) rfl (by decide) ?_
    have e9 : Lcarry n D G th nf fr 6 a b (S, T, w) = Lfin D th nf fr (N a) 3 b (S, T, w) := by
      unfold Lcarry
      simp
    rw [e9]
    have ha := isP_nbt h.2.1 hc
    refine q_aload_n dX4_carryOut_161 rfl ?_
    refine q_iload_n dX4_carryOut_162 rfl ?_
    refine q_iload_n dX4_carryOut_163 rfl ?_
    refine q_iconst (3) dX4_carryOut_164 (by decide) ?_
    refine q_iload dX4_carryOut_165 rfl ?_
    refine VP_top4 (z := a) (z' := nI (N a)) ha.1 ?_
    refine q_calli [.int _, .int _, .int _, .int _] o_X4_settle rfl k_X4_205 rfl (is_1 n) (by decide) rfl dX4_carryOut_167 (Nat.le_of_ble_eq_true rfl) (by omega) (by decide) (by omega) (Or.inr rfl) (c_settle l n (d - 1) I L (fun _ => hcD) (fun _ => hD) (N a) 3 b (by decide) hn h hw ha.2 hg hnf hfr (by omega) (by omega)) (fun _ _ _ h => h.elim) (fun r1 I2 L2 hq => ?_)
    obtain ⟨-, hX⟩ := hq
    refine q_pop dX4_carryOut_170 rfl ?_
    refine q_goto 241 dX4_carryOut_171 (by decide) ?_
    exact q_vret dX4_carryOut_241 rfl (by omega) ⟨rfl, hX⟩
  by_cases e7 : k = 7
  · subst e7
    have hc := Fcan_7.mp hc
    refine q_swIn 174 dX4_carryOut_1 (by decide) (by decide) rfl (by decide) ?_
    have e9 : Lcarry n D G th nf fr 7 a b (S, T, w) = Llis D th nf fr (N a) (N b) (S, T, w) := by
      unfold Lcarry
      simp
    rw [e9]
    have ha := isP_nbt h.2.1 hc.1
    have hb9 := isT_nbt h.2.1 hc.2.1
    refine q_aload_n dX4_carryOut_174 rfl ?_
    refine q_iload_n dX4_carryOut_175 rfl ?_
    refine q_iload_n dX4_carryOut_176 rfl ?_
    refine q_iload dX4_carryOut_177 rfl ?_
    refine VP_top2 (z := b) (z' := nI (N b)) (u := a) (u' := nI (N a)) hb9.1 ha.1 ?_
    refine q_callv [.int _, .int _, .int _] o_X4_addListener rfl k_X4_209 rfl (is_1 n) (by decide) rfl dX4_carryOut_179 (Nat.le_of_ble_eq_true rfl) (by omega) (by decide) (by omega) rfl (c_addListener l n (d - 1) I L (fun _ => hcD) (fun _ => hD) (N a) (N b) hn h hw ha.2 hb9.2 hc.2.2 hg hnf hfr (by omega) (by omega)) (fun _ _ _ h => h.elim) (fun I2 L2 hq => ?_)
    obtain ⟨-, hX⟩ := hq
    refine q_goto 241 dX4_carryOut_182 (by decide) ?_
    exact q_vret dX4_carryOut_241 rfl (by omega) ⟨rfl, hX⟩
  by_cases e8 : k = 8
  · subst e8
    exact absurd rfl hk8
  by_cases e9 : k = 9
  · subst e9
    exact (Fcan_9.mp hc).elim
  by_cases e10 : k = 10
  · subst e10
    have hc := Fcan_10.mp hc
    refine q_swIn 185 dX4_carryOut_1 (by decide) (by decide) rfl (by decide) ?_
    have e9 : Lcarry n D G th nf fr 10 a b (S, T, w) = Lsend G th nf fr (N a) b (S, T, w) := by
      unfold Lcarry
      simp
    rw [e9]
    have ha := isC_nbt h.2.1 hc
    refine q_aload_n dX4_carryOut_185 rfl ?_
    refine q_iload_n dX4_carryOut_186 rfl ?_
    refine q_iload_n dX4_carryOut_187 rfl ?_
    refine q_iload dX4_carryOut_188 rfl ?_
    refine VP_top1 (z := a) (z' := nI (N a)) ha.1 ?_
    refine q_calli [.int _, .int _, .int _] o_X4_send rfl k_X4_212 rfl (is_1 n) (by decide) rfl dX4_carryOut_190 (Nat.le_of_ble_eq_true rfl) (by omega) (by decide) (by omega) (Or.inr rfl) (c_send l n (d - 1) I L (fun _ => hcG) (N a) b hn h hw ha.2 (by omega) hnf hfr hb (by omega)) (fun _ _ _ h => h.elim) (fun r1 I2 L2 hq => ?_)
    obtain ⟨-, hX⟩ := hq
    refine q_pop dX4_carryOut_193 rfl ?_
    refine q_goto 241 dX4_carryOut_194 (by decide) ?_
    exact q_vret dX4_carryOut_241 rfl (by omega) ⟨rfl, hX⟩
  by_cases e11 : k = 11
  · subst e11
    have hc := Fcan_11.mp hc
    refine q_swIn 197 dX4_carryOut_1 (by decide) (by decide) rfl (by decide) ?_
    have e9 : Lcarry n D G th nf fr 11 a b (S, T, w) = Lsend G th nf fr (N (a ^^^ 1)) b (S, T, w) := by
      unfold Lcarry
      simp
    rw [e9]
    have ha := isC_nbt h.2.1 hc
    obtain ⟨p1, p2, p3⟩ := peer_ok h.2.1 ha
    refine q_aload_n dX4_carryOut_197 rfl ?_
    refine q_iload_n dX4_carryOut_198 rfl ?_
    refine q_aload_n dX4_carryOut_199 rfl ?_
    refine q_getR 1 4 2 6 (is_1 n) (by decide) rfl rfl (by decide) f_X4_28 rfl dX4_carryOut_200 ?_
    refine q_iload_n dX4_carryOut_203 rfl ?_
    refine q_calli [.int _] o_X0_peer rfl k_X4_215 rfl (is_6 n) (by decide) rfl dX4_carryOut_204 (Nat.le_of_ble_eq_true rfl) (by omega) (by decide) (by omega) (Or.inl rfl) (c_peer l n (d - 1) I L a) (fun _ _ _ h => h.elim) (fun r1 I2 L2 hq => ?_)
    obtain ⟨e1, e2, e3⟩ := hq
    cases e1
    cases e2.symm
    cases e3.symm
    refine q_iload dX4_carryOut_207 rfl ?_
    refine VP_top1 (z := a ^^^ 1) (z' := nI (N (a ^^^ 1))) (by rw [p2]; exact p1) ?_
    refine q_calli [.int _, .int _, .int _] o_X4_send rfl k_X4_212 rfl (is_1 n) (by decide) rfl dX4_carryOut_209 (Nat.le_of_ble_eq_true rfl) (by omega) (by decide) (by omega) (Or.inr rfl) (c_send l n (d - 1) I L (fun _ => hcG) (N (a ^^^ 1)) b hn h hw (by rw [p2]; exact p3) (by omega) hnf hfr hb (by omega)) (fun _ _ _ h => h.elim) (fun r1 I2 L2 hq => ?_)
    obtain ⟨-, hX⟩ := hq
    refine q_pop dX4_carryOut_212 rfl ?_
    refine q_goto 241 dX4_carryOut_213 (by decide) ?_
    exact q_vret dX4_carryOut_241 rfl (by omega) ⟨rfl, hX⟩
  by_cases e12 : k = 12
  · subst e12
    have hc := Fcan_12.mp hc
    refine q_swIn 216 dX4_carryOut_1 (by decide) (by decide) rfl (by decide) ?_
    have e9 : Lcarry n D G th nf fr 12 a b (S, T, w) = (Fshut S n, TShut S T a.toInt64 b.toInt64 n, w) := by
      unfold Lcarry
      simp
    rw [e9]
    refine q_aload_n dX4_carryOut_216 rfl ?_
    refine q_getR 1 4 3 2 (is_1 n) (by decide) rfl rfl (by decide) f_X4_37 rfl dX4_carryOut_217 ?_
    refine q_iload_n dX4_carryOut_220 rfl ?_
    refine q_iload dX4_carryOut_221 rfl ?_
    refine q_callv [.int _, .int _] o_X5_shutAll rfl k_X4_219 rfl (is_2 n) (by decide) rfl dX4_carryOut_223 (Nat.le_of_ble_eq_true rfl) (by omega) (by decide) (by omega) rfl (c_shutAll l n (d - 1) I L a b hn h (by omega) (by omega)) (fun _ _ _ h => h.elim) (fun I2 L2 hq => ?_)
    obtain ⟨-, hX⟩ := hq
    refine q_goto 241 dX4_carryOut_226 (by decide) ?_
    exact q_vret dX4_carryOut_241 rfl (by omega) ⟨rfl, hX⟩
  by_cases e13 : k = 13
  · subst e13
    have hc := Fcan_13.mp hc
    refine q_swIn 229 dX4_carryOut_1 (by decide) (by decide) rfl (by decide) ?_
    have e9 : Lcarry n D G th nf fr 13 a b (S, T, w) = (upI S 231 (N a) 1, T, w) := by
      unfold Lcarry
      simp
    rw [e9]
    have ha := isP_nbt h.2.1 hc
    have hp32 := h.2.1.2.2.2.1.1.2
    refine q_aload_n dX4_carryOut_229 rfl ?_
    refine q_getR 1 4 1 5 (is_1 n) (by decide) rfl rfl (by decide) f_X4_21 rfl dX4_carryOut_230 ?_
    refine q_iload_n dX4_carryOut_233 rfl ?_
    refine VP_top0 (z := a) (z' := nI (N a)) ha.1 ?_
    refine q_calli [.int _] o_X2_pin rfl k_X4_223 rfl (is_5 n) (by decide) rfl dX4_carryOut_234 (Nat.le_of_ble_eq_true rfl) (by omega) (by decide) (by omega) (Or.inr rfl) (c_pin l n (d - 1) I L (N a) hn (by have := ha.2; omega) (by omega)) (fun _ _ _ h => h.elim) (fun r1 I2 L2 hq => ?_)
    obtain ⟨-, e2, e3⟩ := hq
    subst e2
    cases e3.symm
    have hX := CX_pin (p := N a) h
    refine q_pop dX4_carryOut_237 rfl ?_
    refine q_goto 241 dX4_carryOut_238 (by decide) ?_
    exact q_vret dX4_carryOut_241 rfl (by omega) ⟨rfl, hX⟩
  have ko : ∀ j, j < 14 → k ≠ nI j := by
    intro j hj
    rcases (show j = 0 ∨ j = 1 ∨ j = 2 ∨ j = 3 ∨ j = 4 ∨ j = 5 ∨ j = 6 ∨ j = 7 ∨ j = 8 ∨ j = 9 ∨ j = 10 ∨ j = 11 ∨ j = 12 ∨ j = 13 by omega) with rfl | rfl | rfl | rfl | rfl | rfl | rfl | rfl | rfl | rfl | rfl | rfl | rfl | rfl <;> assumption
  exact absurd hc (Fcan_out ko)
end

