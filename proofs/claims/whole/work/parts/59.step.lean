theorem s205_bb {T : ML} {i : Nat} : ∀ m S, Fbb T i m S 205 = S 205
  | 0, S => rfl
  | m + 1, S => by
    simp only [Fbb]
    split
    · rfl
    · rw [s205_bb m (Fmv S T i)]
      simp [Fmv, Fenq0, upI_ne]
theorem Inv_bb {n : Nat} {T : ML} {i : Nat} (hi : i < n) : ∀ m S, Inv n S → Inv n (Fbb T i m S)
  | 0, S, h => h
  | m + 1, S, h => by
    simp only [Fbb]
    split
    · exact h
    · rename_i hc
      have hz := h.2.2.2.2.2.1.1.2
      have hq := (h.2.2.2.2.2.2.1 i hi).1.1
      have hq2 := hq.2
      obtain ⟨t, ht, hte⟩ := (Rfd_lt S T i (T 30 2) (N (S 30 23)) (by omega)).2 (fun q => hc (Or.inr q))
      refine Inv_bb hi m _ (Inv_mv h hi ?_ ht hte)
      rcases Nat.lt_or_ge (N (S 209 i)) 24 with q | q
      · exact q
      · exact absurd (Or.inl (by rw [hq.1, show N (S 209 i) = 24 by omega]; rfl)) hc
theorem Inv_bbS {n : Nat} {S : MI} {T : ML} {i : Nat} (h : Inv n S) (hi : i < n) : Inv n (FbbS S T i) := Inv_ba _ (Inv_bb hi 24 S h)
section
variable (l : Launch) (n : Nat) (hn : n < 2 ^ 31) (d : Nat) (I : MI) (L : ML)
theorem r_thr1 (b : Int32) : VM l n m_X10_throwing d 0 [.ref 30, .int 1, .int b] I L (fun r I' L' => r = some (.int 1) ∧ I' = upI I 30 0 1 ∧ L' = L) noX := by
  have h := r_throwing l n d I L 1 b
  rw [bI_t (show (1 : Int32) ≠ 0 ∨ b ≠ 0 from Or.inl (by decide)), if_pos (by decide)] at h
  exact h
theorem r_thr2 : VM l n m_X10_throwing d 0 [.ref 30, .int 0, .int 1] I L (fun r I' L' => r = some (.int 1) ∧ I' = upI I 30 0 2 ∧ L' = L) noX := by
  have h := r_throwing l n d I L 0 1
  rw [bI_t (show (0 : Int32) ≠ 0 ∨ (1 : Int32) ≠ 0 from Or.inr (by decide)), if_neg (by decide), if_pos (by decide)] at h
  exact h
theorem r_thr0 : VM l n m_X10_throwing d 0 [.ref 30, .int 0, .int 0] I L (fun r I' L' => r = some (.int 0) ∧ I' = upI I 30 0 0 ∧ L' = L) noX := by
  have h := r_throwing l n d I L 0 0
  rw [bI_f (show ¬ ((0 : Int32) ≠ 0 ∨ (0 : Int32) ≠ 0) from by decide), if_neg (by decide), if_neg (by decide)] at h
  exact h
set_option maxHeartbeats 8000000 in
set_option maxRecDepth 100000 in
theorem r_st1 {Q : vq_R} (i : Nat) (hn : n < 2 ^ 31) (hi : i < n) (h : Inv n I) (hK : HK I) (hs : I 208 i = 2 ∨ I 208 i = 3) (ho : obk I i) (hb : tr I + 42300 < 2 ^ 31) (hd : 30 ≤ d) (h51 : I 30 51 = nI i) (h45 : I 30 45 = 0) (h52 : I 30 52 = 0) (hQ : ∀ I' L', co I' = (Lstep1 n (co I) (coL L) i).2.1 → coL L' = (Lstep1 n (co I) (coL L) i).2.2 → KP 0 I I' → KL L L' → Q (some (.int (Lstep1 n (co I) (coL L) i).1)) I' L') : VP l n m_X10_step d 0 Q noX 0 112 [(0, .ref 30), (1, .int (nI i))] [] I L := by
  have hn8 := h.1
  have hct := Inv_tr h
  obtain ⟨hvq, hvb, hvs⟩ := h.2.2.2.2.2.2.1 i hi
  rw [Lstep1_eq, co_214, co_217, co_229] at hQ
  refine q_aload_n dX10_step_112 rfl ?_
  refine q_getR 30 10 14 214 (is_30 n) (by decide) rfl rfl (by decide) f_X10_40 rfl dX10_step_113 ?_
  refine q_iload_n dX10_step_116 rfl ?_
  refine q_zald 214 (_) hn (is_214 n) rfl (by show _ < 8; omega) dX10_step_117 ?_
  refine q_if_eq 187 dX10_step_118 (by decide) (fun h118 => ?_) (fun h118 => ?_)
  · have hnb : ¬ I 214 i = 1 := by rw [h118]; decide
    rw [if_neg hnb, co_210] at hQ
    refine q_aload_n dX10_step_187 rfl ?_
    refine q_getR 30 10 10 210 (is_30 n) (by decide) rfl rfl (by decide) f_X10_28 rfl dX10_step_188 ?_
    refine q_iload_n dX10_step_191 rfl ?_
    refine q_iald 210 (_) hn (is_210 n) rfl (by show _ < 8; omega) dX10_step_192 ?_
    refine q_if_ne 201 dX10_step_193 (by decide) (fun h193 => ?_) (fun h193 => ?_)
    · rw [if_neg h193] at hQ
      exact r_st2 l n d I L i hn hi h hK hs hb hd h51 h45 h52 hQ
    · rw [if_pos h193] at hQ
      refine q_aload_n dX10_step_196 rfl ?_
      refine q_iload_n dX10_step_197 rfl ?_
      refine q_callv [.int _] o_X10_beginBatch rfl k_X10_266 rfl (is_30 n) (by decide) rfl dX10_step_198 (Nat.le_of_ble_eq_true rfl) (by omega) (by decide) (by omega) rfl (r_beginBatch l n (d - 1) I L i hn hi h hs (by omega) (by omega)) (fun _ _ _ h => h.elim) (fun I1 L1 hq1 => ?_)
      obtain ⟨-, z2, z3⟩ := hq1
      subst z2
      cases z3.symm
      have hnc := nc_bbS I L i
      have i1 : Inv n (FbbS I L i) := Inv_bbS h hi
      have f208 : FbbS I L i 208 i = I 208 i := by
        unfold FbbS
        rw [upI_ne (by decide)]
        exact congrFun (s208_bb 24 I) i
      have ftr : tr (FbbS I L i) = tr I := by
        have : tr (FbbS I L i) = tr (Fbb L i 24 I) := by simp [tr, FbbS, rdI]
        rw [this, tr_bb]
      have f205 : FbbS I L i 205 = I 205 := by
        unfold FbbS
        rw [upI_ne (by decide)]
        exact s205_bb 24 I
      rw [← co_bbS] at hQ
      exact r_st2 l n d (FbbS I L i) L i hn hi i1 (fun j => by rw [f205]; exact hK j) (by rw [f208]; exact hs) (by rw [ftr]; exact hb) hd ((hnc 30 51 (by decide)).trans h51) ((hnc 30 45 (by decide)).trans h45) ((hnc 30 52 (by decide)).trans h52) (fun I' L' r1 r2 r3 r4 => hQ I' L' r1 r2 ((KP.nc hnc).tns r3) r4)
  · have hb1 : I 214 i = 1 := hvb.1.resolve_left h118
    obtain ⟨b1, b2, b3⟩ := hvb.2 hb1
    have b32 := b3.2
    have b12 := b1.2
    have h32 := h.2.2.2.1.1.2
    have h24 := h.2.2.1.1.2
    rw [if_pos hb1] at hQ
    refine q_aload_n dX10_step_121 rfl ?_
    refine q_getR 30 10 29 229 (is_30 n) (by decide) rfl rfl (by decide) f_X10_78 rfl dX10_step_122 ?_
    refine q_aload_n dX10_step_125 rfl ?_
    refine q_getR 30 10 17 217 (is_30 n) (by decide) rfl rfl (by decide) f_X10_50 rfl dX10_step_126 ?_
    refine q_iload_n dX10_step_129 rfl ?_
    refine q_iald 217 (_) hn (is_217 n) rfl (by show _ < 8; omega) dX10_step_130 ?_
    refine q_iald 229 (N (I 217 i)) hn (is_229 n) b3.1 (by show _ < 32; omega) dX10_step_131 ?_
    refine q_if_ne 137 dX10_step_132 (by decide) (fun h132 => ?_) (fun h132 => ?_)
    · rw [if_neg h132] at hQ
      have e217 : upI I 214 i 0 217 i = I 217 i := by simp [rdI]
      have etr : tr (upI I 214 i 0) = tr I := by simp [tr, rdI]
      have hV1 := Inv_unb (i := i) h
      refine q_aload_n dX10_step_137 rfl ?_
      refine q_getR 30 10 14 214 (is_30 n) (by decide) rfl rfl (by decide) f_X10_40 rfl dX10_step_138 ?_
      refine q_iload_n dX10_step_141 rfl ?_
      refine q_iconst (0) dX10_step_142 (by decide) ?_
      refine q_zast 214 (_) hn (is_214 n) rfl (by show _ < 8; omega) (by decide) dX10_step_143 ?_
      refine q_aload_n dX10_step_144 rfl ?_
      refine q_iload_n dX10_step_145 rfl ?_
      refine q_bipush (10) dX10_step_146 (by decide) ?_
      refine q_aload_n dX10_step_148 rfl ?_
      refine q_getR 30 10 17 217 (is_30 n) (by decide) rfl rfl (by decide) f_X10_50 rfl dX10_step_149 ?_
      refine q_iload_n dX10_step_152 rfl ?_
      refine q_iald 217 (_) hn (is_217 n) rfl (by show _ < 8; omega) dX10_step_153 ?_
      rw [e217]
      refine q_callv [.int _, .int _, .int _] o_X10_log rfl k_X10_155 rfl (is_30 n) (by decide) rfl dX10_step_154 (Nat.le_of_ble_eq_true rfl) (by omega) (by decide) (by omega) rfl (r_log l n hn (d - 1) (upI I 214 i 0) L (tr I) (nI i) 10 (I 217 i) (by rw [← etr]; exact Inv_tr hV1) (by omega)) (fun _ _ _ h => h.elim) (fun I4 L4 hq1 => ?_)
      obtain ⟨-, z2, z3⟩ := hq1
      have z2 : I4 = Flog (upI I 214 i 0) (nI i) 10 (I 217 i) := by rw [z2, ← etr]; rfl
      cases z3.symm
      have hnc4 : nc I I4 := by rw [z2]; exact (nc.rf.up (core_c (by decide) (by decide))).tr (nc_log _ _ _ _)
      have g215 : I4 215 i = nI (N (I 215 i)) := by rw [z2, ← b1.1]; simp [Flog, Rlog, rdI]
      have g216 : I4 216 i = nI (N (I 216 i)) := by rw [z2, ← b2.1]; simp [Flog, Rlog, rdI]
      have hco4 : co I4 = Flog (upI (co I) 214 i 0) (nI i) 10 (co I 217 i) := by rw [z2, co_log, cu_214, co_217]
      have hlg := Inv_log (nI i) 10 (I 217 i) hV1 (by rw [etr]; omega)
      rw [← z2, etr] at hlg
      have g3 : I4 30 3 = I 30 3 := by rw [z2]; simp [Flog, Rlog, rdI]
      have g204 : I4 204 = I 204 := by rw [z2]; simp [Flog, Rlog, upI_ne]
      have g205 : I4 205 = I 205 := by rw [z2]; simp [Flog, Rlog, upI_ne]
      clear z2
      refine q_aload_n dX10_step_157 rfl ?_
      refine q_iconst (0) dX10_step_158 (by decide) ?_
      refine q_aload_n dX10_step_159 rfl ?_
      refine q_getR 30 10 15 215 (is_30 n) (by decide) rfl rfl (by decide) f_X10_44 rfl dX10_step_160 ?_
      refine q_iload_n dX10_step_163 rfl ?_
      refine q_iald 215 (_) hn (is_215 n) rfl (by show _ < 8; omega) dX10_step_164 ?_
      rw [g215]
      refine q_iconst (0) dX10_step_165 (by decide) ?_
      refine q_callv [.int _, .int _, .int _] o_X10_push rfl k_X10_209 rfl (is_30 n) (by decide) rfl dX10_step_166 (Nat.le_of_ble_eq_true rfl) (by omega) (by decide) (by omega) rfl (r_push l n (d - 1) I4 L 0 0 (nI (N (I 215 i))) 0 hn (by rw [hnc4 30 45 (by decide), h45]; rfl) (by omega)) (fun _ _ _ h => h.elim) (fun I5 L5 hq1 => ?_)
      obtain ⟨-, z2, z3⟩ := hq1
      subst z2
      cases z3.symm
      have e216 : Rpush I4 0 0 (nI (N (I 215 i))) 0 216 i = nI (N (I 216 i)) := by rw [← g216]; simp [Rpush, rdI]
      refine q_aload_n dX10_step_169 rfl ?_
      refine q_getR 30 10 48 248 (is_30 n) (by decide) rfl rfl (by decide) f_X10_123 rfl dX10_step_170 ?_
      refine q_iconst (0) dX10_step_173 (by decide) ?_
      refine q_aload_n dX10_step_174 rfl ?_
      refine q_getR 30 10 16 216 (is_30 n) (by decide) rfl rfl (by decide) f_X10_47 rfl dX10_step_175 ?_
      refine q_iload_n dX10_step_178 rfl ?_
      refine q_iald 216 (_) hn (is_216 n) rfl (by show _ < 8; omega) dX10_step_179 ?_
      rw [e216]
      refine q_iast 248 (0) hn (is_248 n) rfl (by show _ < 80; omega) dX10_step_180 ?_
      refine q_aload_n dX10_step_181 rfl ?_
      have hco6 : co (upI (Rpush I4 0 0 (nI (N (I 215 i))) 0) 248 0 (nI (N (I 216 i)))) = co I4 := by rw [cu_248, co_push]
      have hR : RS (nI i) (co I4, coL L, 0) (upI (Rpush I4 0 0 (nI (N (I 215 i))) 0) 248 0 (nI (N (I 216 i)))) L :=
        (RS_0 (th := nI i) (I := I4) (L := L) (by rw [hnc4 30 52 (by decide), h52]) (by rw [hnc4 30 51 (by decide), h51])).fr hco6 (by simp [Rpush, rdI]) (by simp [Rpush, rdI])
      have hTp : TP 0 (upI (Rpush I4 0 0 (nI (N (I 215 i))) 0) 248 0 (nI (N (I 216 i)))) 0 (nI (N (I 215 i))) (nI (N (I 216 i))) 0 0 := by simp [TP, Rpush, rdI]
      have hoo := ho hb1
      have eR : Lres1 n (co I) (coL L) i = Ltop n (nI i) (N (I 215 i)) (N (I 204 (N (I 215 i))) - N (I 216 i)) (N (I 216 i)) (co I4, coL L, 0) := by
        rw [hco4]
        unfold Lres1
        rw [co_215, co_216, co_204]
      rw [eR] at hQ
      refine q_callv [] o_X10_run rfl k_X10_263 rfl (is_30 n) (by decide) rfl dX10_step_182 (Nat.le_of_ble_eq_true rfl) (by omega) (by decide) (by omega) rfl (r_runT (l := l) (d := d - 1) hn hi (by omega) (show N (I 216 i) + (N (I 204 (N (I 215 i))) - N (I 216 i)) = N (co I4 204 (N (I 215 i))) from by rw [co_204, g204]; omega) hR (by rw [Inv_co]; exact hlg.1) (fun j => by show 0 ≤ co I4 205 j ∧ co I4 205 j ≤ 13; rw [co_205, g205]; exact hK j) (by show N (I 215 i) < N (co I4 30 3); rw [co_30_3, g3]; exact b12) (by simp only [Ph, tr_co]; omega) hTp) (fun _ _ _ h => h.elim) (fun I6 L6 hq1 => ?_)
      obtain ⟨-, z2, z3, z4⟩ := hq1
      refine q_iconst (1) dX10_step_185 (by decide) ?_
      refine q_iret dX10_step_186 rfl (by omega) (hQ I6 L6 z2.1.1 z2.1.2 ?_ z4)
      exact (KP.nc hnc4).tns ((KP.push.up (Or.inl ⟨by decide, by decide, Nat.le_refl _⟩)).tns z3)
    · rw [if_pos h132] at hQ
      refine q_iconst (2) dX10_step_135 (by decide) ?_
      exact q_iret dX10_step_136 rfl (by omega) (hQ I L rfl rfl KP.rf KL.rf)
set_option maxHeartbeats 4000000 in
set_option maxRecDepth 100000 in
theorem r_clr_lp {Q : vq_R} (i z : Nat) (hn : n < 2 ^ 31) (hz : I 30 23 = nI z) (hzb : z ≤ 400) (hQ : VP l n m_X10_step d 0 Q noX 0 112 [(0, .ref 30), (1, .int (nI i))] [] (Fclr I i z) L) : ∀ m k, k + m = z → VP l n m_X10_step d 0 Q noX 0 72 [(2, .int (nI k)), (0, .ref 30), (1, .int (nI i))] [] (Fclr I i k) L := by
  have h23 : ∀ k, Fclr I i k 30 23 = nI z := fun k => by rw [Fclr_ne (by decide)]; exact hz
  have hat : ∀ k, Fclr I i k 226 k = I 226 k := fun k => by unfold Fclr; rw [if_neg (by omega)]
  have hsu : ∀ k v, v = (if I 226 k = nI i then -1 else I 226 k) → upI (Fclr I i k) 226 k v = Fclr I i (k + 1) := by
    intro k v hv
    funext x y
    rw [rdI]
    unfold Fclr
    by_cases e : x = 226 ∧ y = k
    · obtain ⟨rfl, rfl⟩ := e
      rw [if_pos ⟨rfl, rfl⟩, hv]
      by_cases e2 : I 226 y = nI i
      · rw [if_pos e2, if_pos ⟨rfl, by omega, e2⟩]
      · rw [if_neg e2, if_neg (fun q => e2 q.2.2)]
    · rw [if_neg e]
      by_cases e2 : x = 226 ∧ y < k ∧ I 226 y = nI i
      · rw [if_pos e2, if_pos ⟨e2.1, by omega, e2.2.2⟩]
      · rw [if_neg e2, if_neg (fun q => e2 ⟨q.1, by omega, q.2.2⟩)]
  intro m
  induction m with
  | zero =>
    intro k hk
    refine q_iload_n dX10_step_72 rfl ?_
    refine q_aload_n dX10_step_73 rfl ?_
    refine q_getI 30 10 23 (is_30 n) (by decide) rfl (by decide) f_X10_196 rfl dX10_step_74 ?_
    rw [h23]
    refine q_icmp_ge 112 dX10_step_77 (by decide) (fun _ => ?_) (fun q => absurd (nI_le (by omega) (by omega)) q)
    rw [show k = z by omega]
    exact q_lv _ (fun q hq => List.mem_cons_of_mem _ hq) hQ
  | succ m ih =>
    intro k hk
    refine q_iload_n dX10_step_72 rfl ?_
    refine q_aload_n dX10_step_73 rfl ?_
    refine q_getI 30 10 23 (is_30 n) (by decide) rfl (by decide) f_X10_196 rfl dX10_step_74 ?_
    rw [h23]
    refine q_icmp_ge 112 dX10_step_77 (by decide) (fun q => absurd q (nI_ge (by omega) (by omega))) (fun _ => ?_)
    refine q_aload_n dX10_step_80 rfl ?_
    refine q_getR 30 10 26 226 (is_30 n) (by decide) rfl rfl (by decide) f_X10_72 rfl dX10_step_81 ?_
    refine q_iload_n dX10_step_84 rfl ?_
    refine q_aload_n dX10_step_85 rfl ?_
    refine q_getR 30 10 26 226 (is_30 n) (by decide) rfl rfl (by decide) f_X10_72 rfl dX10_step_86 ?_
    refine q_iload_n dX10_step_89 rfl ?_
    refine q_iald 226 (_) hn (is_226 n) rfl (by show _ < 400; omega) dX10_step_90 ?_
    refine q_iload_n dX10_step_91 rfl ?_
    rw [hat]
    refine q_icmp_ne 99 dX10_step_92 (by decide) (fun h92 => ?_) (fun h92 => ?_)
    · refine q_aload_n dX10_step_99 rfl ?_
      refine q_getR 30 10 26 226 (is_30 n) (by decide) rfl rfl (by decide) f_X10_72 rfl dX10_step_100 ?_
      refine q_iload_n dX10_step_103 rfl ?_
      refine q_iald 226 (_) hn (is_226 n) rfl (by show _ < 400; omega) dX10_step_104 ?_
      rw [hat]
      refine q_iast 226 (_) hn (is_226 n) rfl (by show _ < 400; omega) dX10_step_105 ?_
      refine q_iinc [(2, _), (0, _), (1, _)] (nI (k + 1)) dX10_step_106 rfl (nI_1 _) (by decide) rfl ?_
      refine q_goto 72 dX10_step_109 (by decide) ?_
      rw [hsu k _ (by rw [if_neg h92])]
      exact ih (k + 1) (by omega)
    · refine q_iconst (-1) dX10_step_95 (by decide) ?_
      refine q_goto 105 dX10_step_96 (by decide) ?_
      refine q_iast 226 (_) hn (is_226 n) rfl (by show _ < 400; omega) dX10_step_105 ?_
      refine q_iinc [(2, _), (0, _), (1, _)] (nI (k + 1)) dX10_step_106 rfl (nI_1 _) (by decide) rfl ?_
      refine q_goto 72 dX10_step_109 (by decide) ?_
      rw [hsu k _ (by rw [if_pos h92])]
      exact ih (k + 1) (by omega)
set_option maxHeartbeats 8000000 in
set_option maxRecDepth 100000 in
theorem r_step (x : Int32) (hn : n < 2 ^ 31) (h : Inv n I) (hK : HK I) (h4 : ∀ i, I 208 i ≠ 4) (ho : ∀ i, obk I i) (hb : tr I + 42300 < 2 ^ 31) (hd : 40 ≤ d) : VM l n m_X10_step d 0 [.ref 30, .int x] I L (RP (Hstep n (co I) (coL L) x) I L) noX := by
  refine VM_of _ [(0, .ref 30), (1, .int x)] rfl (fun a => Nat.le_of_ble_eq_true rfl) rfl ?_
  have hn8 := h.1
  refine q_aload_n dX10_step_0 rfl ?_
  refine q_aload_n dX10_step_1 rfl ?_
  refine q_iload_n dX10_step_2 rfl ?_
  refine q_calli [.int _] o_X10_isLoop rfl k_X10_169 rfl (is_30 n) (by decide) rfl dX10_step_3 (Nat.le_of_ble_eq_true rfl) (by omega) (by decide) (by omega) (Or.inr rfl) (r_isLoop l n (d - 1) I L x hn h.2.1 (by omega)) (fun _ _ _ h => h.elim) (fun r1 I1 L1 hq1 => ?_)
  obtain ⟨e1, e2, e3⟩ := hq1
  cases e1
  cases e2.symm
  cases e3.symm
  refine q_if_ne 13 dX10_step_6 (by decide) (fun h6 => ?_) (fun h6 => ?_)
  · rw [ne_eq, bI_z, Decidable.not_not] at h6
    have hnx := isL_nbt hn8.2 h6
    obtain ⟨i, hie⟩ : ∃ i, N x = i := ⟨_, rfl⟩
    have hi : i < n := by rw [← hie]; exact hnx.2
    have hx : x = nI i := by rw [← hie]; exact hnx.1
    have eH : Hstep n (co I) (coL L) x = (0, (Lstep n (co I) (coL L) i).1, (Lstep n (co I) (coL L) i).2.1, (Lstep n (co I) (coL L) i).2.2) := by rw [Hstep, if_pos h6, hie]
    rw [eH, hx]
    obtain ⟨hvq, hvb, hvs⟩ := h.2.2.2.2.2.2.1 i hi
    refine q_iconst (0) dX10_step_13 (by decide) ?_
    refine q_iconst (0) dX10_step_14 (by decide) ?_
    refine q_calli [.int _, .int _] o_X10_throwing rfl k_X10_159 rfl (is_30 n) (by decide) rfl dX10_step_15 (Nat.le_of_ble_eq_true rfl) (by omega) (by decide) (by omega) (Or.inr rfl) (r_thr0 l n (d - 1) I L) (fun _ _ _ h => h.elim) (fun r1 I1 L1 hq1 => ?_)
    obtain ⟨e1, e2, e3⟩ := hq1
    cases e1
    subst e2
    cases e3.symm
    refine q_if_eq 23 dX10_step_18 (by decide) (fun _ => ?_) (fun q => absurd rfl q)
    have f208 : upI I 30 0 0 208 i = I 208 i := by simp [rdI]
    have kret : (I 208 i = 1 ∨ I 208 i = 5) → VP l n m_X10_step d 0 (RP (0, (Lstep n (co I) (coL L) i).1, (Lstep n (co I) (coL L) i).2.1, (Lstep n (co I) (coL L) i).2.2) I L) noX 0 43 [(0, .ref 30), (1, .int (nI i))] [] (upI I 30 0 0) L := by
      intro hst
      have eL : Lstep n (co I) (coL L) i = (0, co I, coL L) := by rw [Lstep, co_208, if_pos hst]
      rw [eL]
      refine q_iconst (0) dX10_step_43 (by decide) ?_
      exact q_iret dX10_step_44 rfl (by omega) ⟨rfl, by simp [rdI], ⟨cu_30_0 _ _, rfl⟩, KI.rf.up (Or.inl rfl), KL.rf⟩
    refine q_aload_n dX10_step_23 rfl ?_
    refine q_getR 30 10 8 208 (is_30 n) (by decide) rfl rfl (by decide) f_X10_22 rfl dX10_step_24 ?_
    refine q_iload_n dX10_step_27 rfl ?_
    refine q_iald 208 (_) hn (is_208 n) rfl (by show _ < 8; omega) dX10_step_28 ?_
    refine q_iconst (1) dX10_step_29 (by decide) ?_
    rw [f208]
    refine q_icmp_eq 43 dX10_step_30 (by decide) (fun h30 => kret (Or.inl h30)) (fun h30 => ?_)
    refine q_aload_n dX10_step_33 rfl ?_
    refine q_getR 30 10 8 208 (is_30 n) (by decide) rfl rfl (by decide) f_X10_22 rfl dX10_step_34 ?_
    refine q_iload_n dX10_step_37 rfl ?_
    refine q_iald 208 (_) hn (is_208 n) rfl (by show _ < 8; omega) dX10_step_38 ?_
    refine q_iconst (5) dX10_step_39 (by decide) ?_
    rw [f208]
    refine q_icmp_ne 45 dX10_step_40 (by decide) (fun h40 => ?_) (fun h40 => kret (Or.inr h40))
    have hs : I 208 i = 2 ∨ I 208 i = 3 := by
      rcases hvs with q | q | q | q | q
      · exact absurd q h30
      · exact Or.inl q
      · exact Or.inr q
      · exact absurd q (h4 i)
      · exact absurd q h40
    have eL : Lstep n (co I) (coL L) i = Lstep1 n (if I 208 i = 3 then Fclr (co I) i (N (I 30 23)) else co I) (coL L) i := by
      rw [Lstep, co_208, co_30_23, if_neg (fun q => q.elim h30 h40)]
    rw [eL]
    refine q_aload_n dX10_step_45 rfl ?_
    refine q_iload_n dX10_step_46 rfl ?_
    refine q_putI 30 10 51 (is_30 n) (by decide) rfl (by decide) rfl rfl f_X10_189 rfl dX10_step_47 ?_
    refine q_aload_n dX10_step_50 rfl ?_
    refine q_iconst (0) dX10_step_51 (by decide) ?_
    refine q_putI 30 10 45 (is_30 n) (by decide) rfl (by decide) rfl rfl f_X10_203 rfl dX10_step_52 ?_
    refine q_aload_n dX10_step_55 rfl ?_
    refine q_iconst (0) dX10_step_56 (by decide) ?_
    refine q_putI 30 10 52 (is_30 n) (by decide) rfl (by decide) rfl rfl f_X10_221 rfl dX10_step_57 ?_
    obtain ⟨I2, hI2⟩ : ∃ I2, I2 = upI (upI (upI (upI I 30 0 0) 30 51 (nI i)) 30 45 0) 30 52 0 := ⟨_, rfl⟩
    rw [← hI2]
    have hco2 : co I2 = co I := by rw [hI2, cu_30_52, cu_30_45, cu_30_51, cu_30_0]
    have hV2 : Inv n I2 := by rw [← Inv_co, hco2, Inv_co]; exact h
    have k208 : I2 208 i = I 208 i := by rw [← co_208 I2, hco2, co_208 I]
    have k205 : I2 205 = I 205 := by rw [← co_205 I2, hco2, co_205 I]
    have k23 : I2 30 23 = I 30 23 := by rw [← co_30_23 I2, hco2, co_30_23 I]
    have ktr : tr I2 = tr I := by rw [← tr_co, hco2, tr_co]
    have kob : obk I2 i := by
      have e214 : I2 214 = I 214 := by rw [← co_214 I2, hco2, co_214 I]
      have e215 : I2 215 = I 215 := by rw [← co_215 I2, hco2, co_215 I]
      have e216 : I2 216 = I 216 := by rw [← co_216 I2, hco2, co_216 I]
      have e204 : I2 204 = I 204 := by rw [← co_204 I2, hco2, co_204 I]
      unfold obk
      rw [e214, e215, e216, e204]
      exact ho i
    have q51 : I2 30 51 = nI i := by rw [hI2]; simp [rdI]
    have q45 : I2 30 45 = 0 := by rw [hI2]; simp [rdI]
    have q52 : I2 30 52 = 0 := by rw [hI2]; simp [rdI]
    have q0 : I2 30 0 = 0 := by rw [hI2]; simp [rdI]
    have kK : KI I I2 := by rw [hI2]; exact (((KI.rf.up (Or.inl rfl)).up (Or.inl rfl)).up (Or.inl rfl)).up (Or.inl rfl)
    clear hI2
    refine q_aload_n dX10_step_60 rfl ?_
    refine q_getR 30 10 8 208 (is_30 n) (by decide) rfl rfl (by decide) f_X10_22 rfl dX10_step_61 ?_
    refine q_iload_n dX10_step_64 rfl ?_
    refine q_iald 208 (_) hn (is_208 n) rfl (by show _ < 8; omega) dX10_step_65 ?_
    refine q_iconst (3) dX10_step_66 (by decide) ?_
    rw [k208]
    refine q_icmp_ne 112 dX10_step_67 (by decide) (fun h67 => ?_) (fun h67 => ?_)
    · rw [if_neg h67, ← hco2]
      exact r_st1 l n d I2 L i hn hi hV2 (fun j => by rw [k205]; exact hK j) (by rw [k208]; exact hs) kob (by rw [ktr]; exact hb) (by omega) q51 q45 q52 (fun I' L' r1 r2 r3 r4 => ⟨rfl, r3.2.2.trans q0, ⟨r1, r2⟩, kK.tns r3.2.1, r4⟩)
    · rw [if_pos h67, ← hco2, ← k23]
      refine q_iconst (0) dX10_step_70 (by decide) ?_
      refine q_istore_n [(2, _), (0, _), (1, _)] dX10_step_71 (by decide) rfl ?_
      have hz := hV2.2.2.2.2.2.1.1
      have hF0 : Fclr I2 i 0 = I2 := by
        funext x y
        unfold Fclr
        rw [if_neg (by omega)]
      have key := r_clr_lp l n d I2 L (Q := (RP (0, (Lstep1 n (Fclr (co I2) i (N (I2 30 23))) (coL L) i).1, (Lstep1 n (Fclr (co I2) i (N (I2 30 23))) (coL L) i).2.1, (Lstep1 n (Fclr (co I2) i (N (I2 30 23))) (coL L) i).2.2) I L)) i (N (I2 30 23)) hn hz.1 hz.2
      have key2 := fun hq9 => key hq9 (N (I2 30 23)) 0 (by omega)
      rw [hF0] at key2
      refine key2 ?_
      have hnc := nc_clr I2 i (N (I2 30 23))
      have c208 : Fclr I2 i (N (I2 30 23)) 208 i = I 208 i := by rw [Fclr_ne (by decide)]; exact k208
      have c205 : Fclr I2 i (N (I2 30 23)) 205 = I 205 := by rw [Fclr_ne (by decide)]; exact k205
      have ctr : tr (Fclr I2 i (N (I2 30 23))) = tr I := by
        rw [← ktr]
        unfold tr
        rw [Fclr_ne (by decide)]
      have cob : obk (Fclr I2 i (N (I2 30 23))) i := by
        unfold obk
        rw [Fclr_ne (by decide), Fclr_ne (by decide), Fclr_ne (by decide), Fclr_ne (by decide)]
        exact kob
      rw [← co_clr]
      exact r_st1 l n d _ L i hn hi (Inv_clr hV2) (fun j => by rw [c205]; exact hK j) (by rw [c208]; exact hs) cob (by rw [ctr]; exact hb) (by omega) ((hnc 30 51 (by decide)).trans q51) ((hnc 30 45 (by decide)).trans q45) ((hnc 30 52 (by decide)).trans q52) (fun I' L' r1 r2 r3 r4 => ⟨rfl, r3.2.2.trans ((hnc 30 0 (by decide)).trans q0), ⟨r1, r2⟩, (kK.tns (KI.nc hnc)).tns r3.2.1, r4⟩)
  · rw [bI_z] at h6
    have eH : Hstep n (co I) (coL L) x = (1, 0, co I, coL L) := by rw [Hstep, if_neg h6]
    rw [eH]
    refine q_iconst (1) dX10_step_9 (by decide) ?_
    refine q_goto 14 dX10_step_10 (by decide) ?_
    refine q_iconst (0) dX10_step_14 (by decide) ?_
    refine q_calli [.int _, .int _] o_X10_throwing rfl k_X10_159 rfl (is_30 n) (by decide) rfl dX10_step_15 (Nat.le_of_ble_eq_true rfl) (by omega) (by decide) (by omega) (Or.inr rfl) (r_thr1 l n (d - 1) I L 0) (fun _ _ _ h => h.elim) (fun r1 I1 L1 hq1 => ?_)
    obtain ⟨e1, e2, e3⟩ := hq1
    cases e1
    subst e2
    cases e3.symm
    refine q_if_eq 23 dX10_step_18 (by decide) (fun q => absurd q (by decide)) (fun _ => ?_)
    refine q_iconst (0) dX10_step_21 (by decide) ?_
    exact q_iret dX10_step_22 rfl (by omega) ⟨rfl, by simp [rdI], ⟨cu_30_0 _ _, rfl⟩, KI.rf.up (Or.inl rfl), KL.rf⟩
end

