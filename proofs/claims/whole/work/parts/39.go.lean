theorem Lgo_eq {n : Nat} {D : Nat → Nat → Nat → PX → PX} {G : Nat → Nat → Nat → Int32 → PX → PX} {th : Int32} {nf fr c m j : Nat} {ps : Int32} {x : PX} (h6 : x.1 237 (6 * c + j) ≠ 6) :
    Lgo n D G th nf fr c (m + 1) j 0 ps x = if Lres (x.1 237 (6 * c + j)) ps = 1 then Lhan D G th nf (fr + 1) c (x.1 237 (6 * c + j)) (N (x.1 238 (6 * c + j))) ps (Flog x.1 th 6 (1000000 * x.1 239 (6 * c + j) + ps), x.2.1, x.2.2) else Lgo n D G th nf fr c m (j + 1) (if Lres (x.1 237 (6 * c + j)) ps = 2 then 2 else 0) (ps + if x.1 237 (6 * c + j) = 1 then x.1 239 (6 * c + j) else 0) (Lhan D G th nf (fr + 1) c (x.1 237 (6 * c + j)) (N (x.1 238 (6 * c + j))) ps (Flog x.1 th 6 (1000000 * x.1 239 (6 * c + j) + ps), x.2.1, x.2.2)) := by
  simp only [Lgo]
  rw [if_neg (by decide), if_neg h6]
  generalize x.1 237 (6 * c + j) = k at *
  have p0 : ps + 0 = ps := by simp
  by_cases e1 : k = 1
  · subst e1
    simp [Lres, Lhan]
  by_cases e2 : k = 2
  · subst e2
    by_cases eo : ps &&& 1 = 1
    · simp [Lres, Lhan, eo]
    · simp [Lres, Lhan, eo]
  by_cases e3 : k = 3
  · subst e3
    simp [Lres, Lhan]
  by_cases e4 : k = 4
  · subst e4
    simp [Lres, Lhan]
  by_cases e5 : k = 5
  · subst e5
    by_cases eo : ps - ps / 3 * 3 = 0
    · simp [Lres, Lhan, eo]
    · simp [Lres, Lhan, eo]
  · simp [Lres, Lhan, e1, e2, e3, e4, e5]
theorem gc_han {n : Nat} {D : Nat → Nat → Nat → PX → PX} {G : Nat → Nat → Nat → Int32 → PX → PX} (hD : hypD n D) (hG : hypG n G) (th : Int32) (nf fr c : Nat) (k ps : Int32) (tk : Nat) (x : PX) (h : Inv n x.1) (hw : x.2.2 ≤ 1000) (hc : c < N (x.1 30 34)) (ht : k = 4 → tk < N (x.1 30 3)) (hb : Ph x + 100 < 2 ^ 31) : gc n 1 x (Lhan D G th nf fr c k tk ps x) := by
  unfold Lhan
  split
  · exact (gc_echo hG th nf fr c ps x h hw hc hb).up (by omega)
  · split
    · rename_i e
      exact hD nf fr tk x h hw (ht e) hb
    · exact (gc.rf h hw).up (by omega)
section
variable (l : Launch) (n : Nat) (hn : n < 2 ^ 31) (d : Nat) (I : MI) (L : ML)
set_option maxHeartbeats 8000000 in
set_option maxRecDepth 100000 in
theorem c_go_ex {Q : vq_R} {S J : MI} {T M : ML} {w nf fr : Nat} {th : Int32} (c : Nat) (f ps : Int32) (lv : List (Nat × Value)) (l0 : vq_lk lv 0 = some (.ref 1)) (l1 : vq_lk lv 1 = some (.int th)) (l2 : vq_lk lv 2 = some (.int (nI c))) (l4 : vq_lk lv 4 = some (.int ps)) (l5 : vq_lk lv 5 = some (.int f)) (hn : n < 2 ^ 31) (h : CX n S T w nf (fr + 1) J M I L) (hb : tr S + 1 < 2 ^ 31) (hd : 3 ≤ d) (hf : f = 0 ∨ f = 1 ∨ f = 2)
    (hQ : ∀ I' L', CX n (if f = 0 then Flog S th 8 ps else if f = 2 then Flog S th 2 (-1 - nI c) else S) T w nf fr J M I' L' → Q none I' L') : VP l n m_X4_goThrough d 0 Q noX 0 133 lv [] I L := by
  have hcnt := h.2.2.1
  have hc0 := CX_cnt h
  have hX := CX_w (I' := upI I 1 7 (nI (fr + 1) - 1)) w nf fr h (fun i hi => upI_ne hi) (by simpa [rdI] using hcnt.1) (by simpa [rdI] using hcnt.2.1) (by simp [rdI, nI_sub1]) h.2.2.2.2
  refine q_aload_n dX4_goThrough_133 l0 ?_
  refine q_dup dX4_goThrough_134 rfl ?_
  refine q_getI 1 4 7 (is_1 n) (by decide) rfl (by decide) f_X4_186 rfl dX4_goThrough_135 ?_
  refine q_iconst (1) dX4_goThrough_138 (by decide) ?_
  refine q_isub dX4_goThrough_139 ?_
  refine q_putI 1 4 7 (is_1 n) (by decide) rfl (by decide) rfl rfl f_X4_186 rfl dX4_goThrough_140 ?_
  rw [hcnt.2.2]
  have hc1 : upI I 1 7 (nI (fr + 1) - 1) 3 1 = nI (tr S) := by simpa [rdI] using hc0
  generalize upI I 1 7 (nI (fr + 1) - 1) = I1 at *
  refine q_iload dX4_goThrough_143 l5 ?_
  refine q_if_ne 163 dX4_goThrough_145 (by decide) (fun h145 => ?_) (fun h145 => ?_)
  · refine q_iload dX4_goThrough_163 l5 ?_
    refine q_iconst (2) dX4_goThrough_165 (by decide) ?_
    refine q_icmp_ne 181 dX4_goThrough_166 (by decide) (fun h166 => ?_) (fun h166 => ?_)
    · rw [if_neg h145, if_neg h166] at hQ
      exact q_vret dX4_goThrough_181 rfl (by omega) (hQ _ _ hX)
    · rw [if_neg h145, if_pos h166] at hQ
      refine q_aload_n dX4_goThrough_169 l0 ?_
      refine q_getR 1 4 4 3 (is_1 n) (by decide) rfl rfl (by decide) f_X4_45 rfl dX4_goThrough_170 ?_
      refine q_iload_n dX4_goThrough_173 l1 ?_
      refine q_iconst (2) dX4_goThrough_174 (by decide) ?_
      refine q_iconst (-1) dX4_goThrough_175 (by decide) ?_
      refine q_iload_n dX4_goThrough_176 l2 ?_
      refine q_isub dX4_goThrough_177 ?_
      refine q_callv [.int _, .int _, .int _] o_X8_log rfl k_X4_102 rfl (is_3 n) (by decide) rfl dX4_goThrough_178 (Nat.le_of_ble_eq_true rfl) (by omega) (by decide) (by omega) rfl (c_log l n hn (d - 1) I1 L (tr S) th 2 (-1 - nI c) hc1 (by omega)) (fun _ _ _ h => h.elim) (fun I2 L2 hq => ?_)
      obtain ⟨-, e2, e3⟩ := hq
      subst e2
      cases e3.symm
      exact q_vret dX4_goThrough_181 rfl (by omega) (hQ _ _ (CX_log th 2 (-1 - nI c) hX hb))
  · rw [if_pos h145] at hQ
    refine q_aload_n dX4_goThrough_148 l0 ?_
    refine q_getR 1 4 4 3 (is_1 n) (by decide) rfl rfl (by decide) f_X4_45 rfl dX4_goThrough_149 ?_
    refine q_iload_n dX4_goThrough_152 l1 ?_
    refine q_bipush (8) dX4_goThrough_153 (by decide) ?_
    refine q_iload dX4_goThrough_155 l4 ?_
    refine q_callv [.int _, .int _, .int _] o_X8_log rfl k_X4_102 rfl (is_3 n) (by decide) rfl dX4_goThrough_157 (Nat.le_of_ble_eq_true rfl) (by omega) (by decide) (by omega) rfl (c_log l n hn (d - 1) I1 L (tr S) th 8 ps hc1 (by omega)) (fun _ _ _ h => h.elim) (fun I2 L2 hq => ?_)
    obtain ⟨-, e2, e3⟩ := hq
    subst e2
    cases e3.symm
    refine q_goto 181 dX4_goThrough_160 (by decide) ?_
    exact q_vret dX4_goThrough_181 rfl (by omega) (hQ _ _ (CX_log th 8 ps hX hb))
set_option maxHeartbeats 8000000 in
set_option maxRecDepth 100000 in
theorem c_go_lp {Q : vq_R} {J : MI} {M : ML} {nf fr g : Nat} {D : Nat → Nat → Nat → PX → PX} {G : Nat → Nat → Nat → Int32 → PX → PX} {th : Int32} (hcD : cDo l n th g D) (hD : hypD n D) (hcG : cGo l n th g G) (hG : hypG n G) (c : Nat) (m0 : Int32) (hn : n < 2 ^ 31) (hg : 12 ≤ nf + 2 * fr + (g + 1)) (hnf : nf ≤ 4) (hfr : fr < 4) (hd : 10 * g + 14 ≤ d) :
    ∀ (m j f : Nat) (ps : Int32) (x : PX) (I : MI) (L : ML), j + m = N (x.1 236 c) → (f = 0 ∨ f = 2) → CX n x.1 x.2.1 x.2.2 nf (fr + 1) J M I L → x.2.2 ≤ 1000 → c < N (x.1 30 34) → Ph x + 2 * m + 108 < 2 ^ 31 → (∀ I' L', CX n (Lgo n D G th nf fr c m j f ps x).1 (Lgo n D G th nf fr c m j f ps x).2.1 (Lgo n D G th nf fr c m j f ps x).2.2 nf fr J M I' L' → Q none I' L') →
    VP l n m_X4_goThrough d 0 Q noX 0 19 [(6, .int (nI j)), (5, .int (nI f)), (4, .int ps), (0, .ref 1), (1, .int th), (2, .int (nI c)), (3, .int m0)] [] I L := by
  intro m
  induction m with
  | zero =>
    intro j f ps x I L hj hf h hw hc hb hQ
    have h6 := (h.2.1.2.2.2.2.1.2.2 c hc).2.1
    have hc16 := h.2.1.2.2.2.2.1.1.2
    have hsz : I 361 c = nI (N (x.1 236 c)) := (congrFun h.1.2.2.2.1.2.2.2.1 c).trans h6.1
    have htr : tr x.1 + 1 < 2 ^ 31 := Ph_tr (b := 1) (by omega)
    refine q_iload dX4_goThrough_19 rfl ?_
    refine q_aload_n dX4_goThrough_21 rfl ?_
    refine q_getR 1 4 2 6 (is_1 n) (by decide) rfl rfl (by decide) f_X4_28 rfl dX4_goThrough_22 ?_
    refine q_getR 6 0 1 361 (is_6 n) (by decide) rfl rfl (by decide) f_X4_247 rfl dX4_goThrough_25 ?_
    refine q_iload_n dX4_goThrough_28 rfl ?_
    refine q_iald 361 (c) hn (is_361 n) rfl (by show c < 16; omega) dX4_goThrough_29 ?_
    rw [hsz]
    refine q_icmp_ge 133 dX4_goThrough_30 (by decide) (fun h30 => ?_) (fun h30 => ?_)
    · refine c_go_ex l n d I L c (nI f) ps _ rfl rfl rfl rfl rfl hn h htr (by omega) (by rcases hf with rfl | rfl; exact Or.inl rfl; exact Or.inr (Or.inr rfl)) (fun I' L' hX => hQ I' L' ?_)
      rcases hf with rfl | rfl
      · simpa [Lgo, nI_0] using hX
      · rw [if_neg (by decide), if_pos (by rfl)] at hX
        simpa [Lgo] using hX
    · exact absurd (nI_le (by omega) (by have := h6.2; omega)) h30
  | succ m ih =>
    intro j f ps x I L hj hf h hw hc hb hQ
    have h6 := (h.2.1.2.2.2.2.1.2.2 c hc).2.1
    have h62 := h6.2
    have hc16 := h.2.1.2.2.2.2.1.1.2
    have hsz : I 361 c = nI (N (x.1 236 c)) := (congrFun h.1.2.2.2.1.2.2.2.1 c).trans h6.1
    have hK : I 362 = x.1 237 := h.1.2.2.2.1.2.2.2.2.1
    have htr : tr x.1 + 1 < 2 ^ 31 := Ph_tr (b := 1) (by omega)
    have ei : nI c * 6 + nI j = nI (6 * c + j) := ix6 c j rfl rfl
    have hlt : 6 * c + j < 96 := by omega
    have NXT : ∀ (f' : Nat) (ps' : Int32) (y : PX) (I' : MI) (L' : ML) (lv : List (Nat × Value)), vq_lk lv 0 = some (.ref 1) → vq_lk lv 1 = some (.int th) → vq_lk lv 2 = some (.int (nI c)) → vq_lk lv 3 = some (.int m0) → vq_lk lv 4 = some (.int ps') → vq_lk lv 5 = some (.int (nI f')) → vq_lk lv 6 = some (.int (nI (j + 1))) → (f' = 0 ∨ f' = 2) → CX n y.1 y.2.1 y.2.2 nf (fr + 1) J M I' L' → gc n 2 x y → (∀ I' L', CX n (Lgo n D G th nf fr c m (j + 1) f' ps' y).1 (Lgo n D G th nf fr c m (j + 1) f' ps' y).2.1 (Lgo n D G th nf fr c m (j + 1) f' ps' y).2.2 nf fr J M I' L' → Q none I' L') → VP l n m_X4_goThrough d 0 Q noX 0 19 lv [] I' L' := by
      intro f' ps' y I' L' lv l0 l1 l2 l3 l4 l5 l6 hf' hX gg hQ'
      have hph := gg.2
      have e34 : y.1 30 34 = x.1 30 34 := gg.1.2.1.1.2.2.2.1
      have e236 : y.1 236 = x.1 236 := gg.1.2.1.1.2.2.2.2.2.2.2.2.2.2.1
      refine q_lv [(6, .int (nI (j + 1))), (5, .int (nI f')), (4, .int ps'), (0, .ref 1), (1, .int th), (2, .int (nI c)), (3, .int m0)] ?_ (ih (j + 1) f' ps' y I' L' (by rw [e236]; omega) hf' hX gg.1.2.2.2 (by rw [e34]; exact hc) (by omega) hQ')
      intro q hq
      simp only [List.mem_cons, List.not_mem_nil, or_false] at hq
      rcases hq with rfl | rfl | rfl | rfl | rfl | rfl | rfl <;> exact vq_lk_mem (by assumption)
    have SWL : ∀ (ps' : Int32) (y : PX) (I' : MI) (L' : ML) (lv : List (Nat × Value)) (pl : Int32), vq_lk lv 0 = some (.ref 1) → vq_lk lv 1 = some (.int th) → vq_lk lv 2 = some (.int (nI c)) → vq_lk lv 4 = some (.int ps') → vq_lk lv 5 = some (.int 1) → vq_lk lv 6 = some (.int pl) → CX n y.1 y.2.1 y.2.2 nf (fr + 1) J M I' L' → gc n 2 x y → (∀ I' L', CX n y.1 y.2.1 y.2.2 nf fr J M I' L' → Q none I' L') → VP l n m_X4_goThrough d 0 Q noX 0 19 lv [] I' L' := by
      intro ps' y I' L' lv pl l0 l1 l2 l4 l5 l6 hX gg hQ'
      have hph := gg.2
      have htr2 : tr y.1 + 1 < 2 ^ 31 := Ph_tr (b := 1) (by omega)
      have EX : VP l n m_X4_goThrough d 0 Q noX 0 133 lv [] I' L' := c_go_ex l n d I' L' c 1 ps' lv l0 l1 l2 l4 l5 hn hX htr2 (by omega) (Or.inr (Or.inl rfl)) (fun I9 L9 h9 => hQ' I9 L9 (by simpa using h9))
      refine q_iload dX4_goThrough_19 l6 ?_
      refine q_aload_n dX4_goThrough_21 l0 ?_
      refine q_getR 1 4 2 6 (is_1 n) (by decide) rfl rfl (by decide) f_X4_28 rfl dX4_goThrough_22 ?_
      refine q_getR 6 0 1 361 (is_6 n) (by decide) rfl rfl (by decide) f_X4_247 rfl dX4_goThrough_25 ?_
      refine q_iload_n dX4_goThrough_28 l2 ?_
      refine q_iald 361 (c) hn (is_361 n) rfl (by show c < 16; omega) dX4_goThrough_29 ?_
      refine q_icmp_ge 133 dX4_goThrough_30 (by decide) (fun h30 => ?_) (fun h30 => ?_)
      · exact EX
      · refine q_iload dX4_goThrough_33 l5 ?_
        refine q_iconst (1) dX4_goThrough_35 (by decide) ?_
        refine q_icmp_eq 133 dX4_goThrough_36 (by decide) (fun h36 => ?_) (fun h36 => ?_)
        · exact EX
        · exact absurd rfl h36
    refine q_iload dX4_goThrough_19 rfl ?_
    refine q_aload_n dX4_goThrough_21 rfl ?_
    refine q_getR 1 4 2 6 (is_1 n) (by decide) rfl rfl (by decide) f_X4_28 rfl dX4_goThrough_22 ?_
    refine q_getR 6 0 1 361 (is_6 n) (by decide) rfl rfl (by decide) f_X4_247 rfl dX4_goThrough_25 ?_
    refine q_iload_n dX4_goThrough_28 rfl ?_
    refine q_iald 361 (c) hn (is_361 n) rfl (by show c < 16; omega) dX4_goThrough_29 ?_
    rw [hsz]
    refine q_icmp_ge 133 dX4_goThrough_30 (by decide) (fun h30 => ?_) (fun h30 => ?_)
    · exact absurd h30 (nI_ge (by omega) (by omega))
    · refine q_iload dX4_goThrough_33 rfl ?_
      refine q_iconst (1) dX4_goThrough_35 (by decide) ?_
      refine q_icmp_eq 133 dX4_goThrough_36 (by decide) (fun h36 => ?_) (fun h36 => ?_)
      · rcases hf with rfl | rfl <;> exact absurd h36 (by decide)
      · refine q_iload_n dX4_goThrough_39 rfl ?_
        refine q_bipush (6) dX4_goThrough_40 (by decide) ?_
        refine q_imul dX4_goThrough_42 ?_
        refine q_iload dX4_goThrough_43 rfl ?_
        refine q_iadd dX4_goThrough_45 ?_
        rw [ei]
        refine q_istore [(7, _), (6, _), (5, _), (4, _), (0, _), (1, _), (2, _), (3, _)] dX4_goThrough_46 (by decide) rfl ?_
        refine q_aload_n dX4_goThrough_48 rfl ?_
        refine q_getR 1 4 2 6 (is_1 n) (by decide) rfl rfl (by decide) f_X4_28 rfl dX4_goThrough_49 ?_
        refine q_getR 6 0 2 362 (is_6 n) (by decide) rfl rfl (by decide) f_X4_248 rfl dX4_goThrough_52 ?_
        refine q_iload dX4_goThrough_55 rfl ?_
        refine q_iald 362 (6 * c + j) hn (is_362 n) rfl (by show _ < 96; exact hlt) dX4_goThrough_57 ?_
        rw [hK]
        refine q_istore [(8, _), (7, _), (6, _), (5, _), (4, _), (0, _), (1, _), (2, _), (3, _)] dX4_goThrough_58 (by decide) rfl ?_
        refine q_iload dX4_goThrough_60 rfl ?_
        refine q_iconst (2) dX4_goThrough_62 (by decide) ?_
        refine q_icmp_ne 83 dX4_goThrough_63 (by decide) (fun h63 => ?_) (fun h63 => ?_)
        · have hf0 : f = 0 := hf.resolve_right (fun q => h63 (by rw [q]; rfl))
          subst hf0
          refine q_iload dX4_goThrough_83 rfl ?_
          refine q_bipush (6) dX4_goThrough_85 (by decide) ?_
          refine q_icmp_eq 127 dX4_goThrough_87 (by decide) (fun h87 => ?_) (fun h87 => ?_)
          · have e9 : Lgo n D G th nf fr c (m + 1) j 0 ps x = Lgo n D G th nf fr c m (j + 1) 0 ps x := by
              simp only [Lgo]
              rw [if_neg (by decide), if_pos h87]
            rw [e9] at hQ
            refine q_iinc [(6, _), (8, _), (7, _), (5, _), (4, _), (0, _), (1, _), (2, _), (3, _)] (nI (j + 1)) dX4_goThrough_127 rfl (nI_1 j) (by decide) rfl ?_
            refine q_goto 19 dX4_goThrough_130 (by decide) ?_
            exact NXT 0 ps x I L _ rfl rfl rfl rfl rfl rfl rfl (Or.inl rfl) h ((gc.rf h.2.1 hw).up (by omega)) hQ
          · rw [Lgo_eq h87] at hQ
            refine q_aload_n dX4_goThrough_90 rfl ?_
            refine q_iload_n dX4_goThrough_91 rfl ?_
            refine q_iload_n dX4_goThrough_92 rfl ?_
            refine q_iload dX4_goThrough_93 rfl ?_
            refine q_iload dX4_goThrough_95 rfl ?_
            refine q_calli [.int _, .int _, .int _, .int _] o_X4_handle rfl k_X4_249 rfl (is_1 n) (by decide) rfl dX4_goThrough_97 (Nat.le_of_ble_eq_true rfl) (by omega) (by decide) (by omega) (Or.inl rfl) (c_handle l n (d - 1) I L hcD hcG c j ps hn h hw hc (by omega) (by omega) hnf (by omega) (by show Ph x + 102 < 2 ^ 31; omega) (by omega)) (fun _ _ _ h => h.elim) (fun r1 I2 L2 hq => ?_)
            obtain ⟨e1, hX⟩ := hq
            cases e1
            have g1 := gc_log (T := x.2.1) (w := x.2.2) th 6 (1000000 * x.1 239 (6 * c + j) + ps) h.2.1 hw (by omega)
            have hph1 : Ph (Flog x.1 th 6 (1000000 * x.1 239 (6 * c + j) + ps), x.2.1, x.2.2) ≤ Ph x + 1 := g1.2
            have e34 : Flog x.1 th 6 (1000000 * x.1 239 (6 * c + j) + ps) 30 34 = x.1 30 34 := g1.1.2.1.1.2.2.2.1
            have e3 : Flog x.1 th 6 (1000000 * x.1 239 (6 * c + j) + ps) 30 3 = x.1 30 3 := g1.1.2.1.1.2.1
            have g2 := gc_han hD hG th nf (fr + 1) c (x.1 237 (6 * c + j)) ps (N (x.1 238 (6 * c + j))) (Flog x.1 th 6 (1000000 * x.1 239 (6 * c + j) + ps), x.2.1, x.2.2) g1.1.1 hw (by have := hc; rw [← e34] at this; exact this) (fun e4 => by have := ((h.2.1.2.2.2.2.1.2.2 c hc).2.2 j (by omega) e4).2; rw [← e3] at this; exact this) (by omega)
            have g3 : gc n 2 x (Lhan D G th nf (fr + 1) c (x.1 237 (6 * c + j)) (N (x.1 238 (6 * c + j))) ps (Flog x.1 th 6 (1000000 * x.1 239 (6 * c + j) + ps), x.2.1, x.2.2)) := g1.tr g2
            have e239 : (Lhan D G th nf (fr + 1) c (x.1 237 (6 * c + j)) (N (x.1 238 (6 * c + j))) ps (Flog x.1 th 6 (1000000 * x.1 239 (6 * c + j) + ps), x.2.1, x.2.2)).1 239 = x.1 239 := g3.1.2.1.1.2.2.2.2.2.2.2.2.2.2.2.2.2
            have hNm : I2 364 = x.1 239 := hX.1.2.2.2.1.2.2.2.2.2.2.trans e239
            generalize Lhan D G th nf (fr + 1) c (x.1 237 (6 * c + j)) (N (x.1 238 (6 * c + j))) ps (Flog x.1 th 6 (1000000 * x.1 239 (6 * c + j) + ps), x.2.1, x.2.2) = y at *
            have TAIL : ∀ (z : Int32) (lv : List (Nat × Value)), z = (if x.1 237 (6 * c + j) = 1 then x.1 239 (6 * c + j) else 0) → vq_lk lv 0 = some (.ref 1) → vq_lk lv 1 = some (.int th) → vq_lk lv 2 = some (.int (nI c)) → vq_lk lv 3 = some (.int m0) → vq_lk lv 4 = some (.int (ps + z)) → vq_lk lv 5 = some (.int (Lres (x.1 237 (6 * c + j)) ps)) → vq_lk lv 6 = some (.int (nI (j + 1))) → VP l n m_X4_goThrough d 0 Q noX 0 19 lv [] I2 L2 := by
              intro z lv hz l0 l1 l2 l3 l4 l5 l6
              subst hz
              by_cases r1 : Lres (x.1 237 (6 * c + j)) ps = 1
              · rw [if_pos r1] at hQ
                rw [r1] at l5
                exact SWL _ y I2 L2 lv _ l0 l1 l2 l4 l5 l6 hX g3 hQ
              · rw [if_neg r1] at hQ
                by_cases r2 : Lres (x.1 237 (6 * c + j)) ps = 2
                · rw [if_pos r2] at hQ
                  rw [r2] at l5
                  exact NXT 2 _ y I2 L2 lv l0 l1 l2 l3 l4 l5 l6 (Or.inr rfl) hX g3 hQ
                · rw [if_neg r2] at hQ
                  have r0 : Lres (x.1 237 (6 * c + j)) ps = 0 := by
                    unfold Lres at r1 r2 ⊢
                    split
                    · rename_i q
                      rw [if_pos q] at r1
                      exact absurd rfl r1
                    · rename_i q
                      rw [if_neg q] at r2
                      split
                      · rename_i q2
                        rw [if_pos q2] at r2
                        exact absurd rfl r2
                      · rfl
                  rw [r0] at l5
                  exact NXT 0 _ y I2 L2 lv l0 l1 l2 l3 l4 l5 l6 (Or.inl rfl) hX g3 hQ
            refine q_istore [(5, _), (8, _), (7, _), (6, _), (4, _), (0, _), (1, _), (2, _), (3, _)] dX4_goThrough_100 (by decide) rfl ?_
            refine q_iload dX4_goThrough_102 rfl ?_
            refine q_iload dX4_goThrough_104 rfl ?_
            refine q_iconst (1) dX4_goThrough_106 (by decide) ?_
            refine q_icmp_ne 123 dX4_goThrough_107 (by decide) (fun h107 => ?_) (fun h107 => ?_)
            · refine q_iconst (0) dX4_goThrough_123 (by decide) ?_
              refine q_iadd dX4_goThrough_124 ?_
              refine q_istore [(4, _), (5, _), (8, _), (7, _), (6, _), (0, _), (1, _), (2, _), (3, _)] dX4_goThrough_125 (by decide) rfl ?_
              refine q_iinc [(6, _), (4, _), (5, _), (8, _), (7, _), (0, _), (1, _), (2, _), (3, _)] (nI (j + 1)) dX4_goThrough_127 rfl (nI_1 j) (by decide) rfl ?_
              refine q_goto 19 dX4_goThrough_130 (by decide) ?_
              exact TAIL 0 _ (by rw [if_neg h107]) rfl rfl rfl rfl rfl rfl rfl
            · refine q_aload_n dX4_goThrough_110 rfl ?_
              refine q_getR 1 4 2 6 (is_1 n) (by decide) rfl rfl (by decide) f_X4_28 rfl dX4_goThrough_111 ?_
              refine q_getR 6 0 4 364 (is_6 n) (by decide) rfl rfl (by decide) f_X4_252 rfl dX4_goThrough_114 ?_
              refine q_iload dX4_goThrough_117 rfl ?_
              refine q_iald 364 (6 * c + j) hn (is_364 n) rfl (by show _ < 96; exact hlt) dX4_goThrough_119 ?_
              rw [hNm]
              refine q_goto 124 dX4_goThrough_120 (by decide) ?_
              refine q_iadd dX4_goThrough_124 ?_
              refine q_istore [(4, _), (5, _), (8, _), (7, _), (6, _), (0, _), (1, _), (2, _), (3, _)] dX4_goThrough_125 (by decide) rfl ?_
              refine q_iinc [(6, _), (4, _), (5, _), (8, _), (7, _), (0, _), (1, _), (2, _), (3, _)] (nI (j + 1)) dX4_goThrough_127 rfl (nI_1 j) (by decide) rfl ?_
              refine q_goto 19 dX4_goThrough_130 (by decide) ?_
              exact TAIL _ _ (by rw [if_pos h107]) rfl rfl rfl rfl rfl rfl rfl
        · have hf2 : f = 2 := hf.resolve_left (fun q => by rw [q] at h63; exact absurd h63 (by decide))
          subst hf2
          refine q_iload dX4_goThrough_66 rfl ?_
          refine q_bipush (6) dX4_goThrough_68 (by decide) ?_
          refine q_icmp_ne 77 dX4_goThrough_70 (by decide) (fun h70 => ?_) (fun h70 => ?_)
          · have e9 : Lgo n D G th nf fr c (m + 1) j 2 ps x = Lgo n D G th nf fr c m (j + 1) 2 ps x := by
              simp [Lgo, h70]
            rw [e9] at hQ
            refine q_iconst (2) dX4_goThrough_77 (by decide) ?_
            refine q_istore [(5, _), (8, _), (7, _), (6, _), (4, _), (0, _), (1, _), (2, _), (3, _)] dX4_goThrough_78 (by decide) rfl ?_
            refine q_goto 127 dX4_goThrough_80 (by decide) ?_
            refine q_iinc [(6, _), (5, _), (8, _), (7, _), (4, _), (0, _), (1, _), (2, _), (3, _)] (nI (j + 1)) dX4_goThrough_127 rfl (nI_1 j) (by decide) rfl ?_
            refine q_goto 19 dX4_goThrough_130 (by decide) ?_
            exact NXT 2 ps x I L _ rfl rfl rfl rfl rfl rfl rfl (Or.inr rfl) h ((gc.rf h.2.1 hw).up (by omega)) hQ
          · have e9 : Lgo n D G th nf fr c (m + 1) j 2 ps x = x := by
              simp [Lgo, h70]
            rw [e9] at hQ
            refine q_iconst (1) dX4_goThrough_73 (by decide) ?_
            refine q_goto 78 dX4_goThrough_74 (by decide) ?_
            refine q_istore [(5, _), (8, _), (7, _), (6, _), (4, _), (0, _), (1, _), (2, _), (3, _)] dX4_goThrough_78 (by decide) rfl ?_
            refine q_goto 127 dX4_goThrough_80 (by decide) ?_
            refine q_iinc [(6, _), (5, _), (8, _), (7, _), (4, _), (0, _), (1, _), (2, _), (3, _)] (nI (j + 1)) dX4_goThrough_127 rfl (nI_1 j) (by decide) rfl ?_
            refine q_goto 19 dX4_goThrough_130 (by decide) ?_
            exact SWL ps x I L _ _ rfl rfl rfl rfl rfl rfl h ((gc.rf h.2.1 hw).up (by omega)) hQ
set_option maxHeartbeats 8000000 in
set_option maxRecDepth 100000 in
theorem c_go {J S : MI} {T M : ML} {w nf fr g : Nat} {D : Nat → Nat → Nat → PX → PX} {G : Nat → Nat → Nat → Int32 → PX → PX} {th : Int32} (hcD : cDo l n th g D) (hD : hypD n D) (hcG : cGo l n th g G) (hG : hypG n G) (c : Nat) (ps : Int32) (hn : n < 2 ^ 31) (h : CX n S T w nf fr J M I L) (hw : w ≤ 1000) (hc : c < N (S 30 34)) (hg : 12 ≤ nf + 2 * fr + (g + 1)) (hnf : nf ≤ 4) (hfr : fr < 4) (hb : Ph (S, T, w) + 120 < 2 ^ 31) (hd : 10 * g + 14 ≤ d) : VM l n m_X4_goThrough d 0 [.ref 1, .int th, .int (nI c), .int ps] I L (fun r I' L' => r = none ∧ CX n (Lgo n D G th nf fr c (N (S 236 c)) 0 0 ps (S, T, w)).1 (Lgo n D G th nf fr c (N (S 236 c)) 0 0 ps (S, T, w)).2.1 (Lgo n D G th nf fr c (N (S 236 c)) 0 0 ps (S, T, w)).2.2 nf fr J M I' L') noX := by
  refine VM_of _ [(0, .ref 1), (1, .int th), (2, .int (nI c)), (3, .int ps)] rfl (fun a => Nat.le_of_ble_eq_true rfl) rfl ?_
  have hcnt := h.2.2.1
  have h6 := (h.2.1.2.2.2.2.1.2.2 c hc).2.1.2
  have hX := CX_w (I' := upI I 1 7 (nI fr + 1)) w nf (fr + 1) h (fun i hi => upI_ne hi) (by simpa [rdI] using hcnt.1) (by simpa [rdI] using hcnt.2.1) (by simp [rdI, nI_1])
  refine q_aload_n dX4_goThrough_0 rfl ?_
  refine q_dup dX4_goThrough_1 rfl ?_
  refine q_getI 1 4 7 (is_1 n) (by decide) rfl (by decide) f_X4_186 rfl dX4_goThrough_2 ?_
  refine q_iconst (1) dX4_goThrough_5 (by decide) ?_
  refine q_iadd dX4_goThrough_6 ?_
  refine q_putI 1 4 7 (is_1 n) (by decide) rfl (by decide) rfl rfl f_X4_186 rfl dX4_goThrough_7 ?_
  refine q_iload_n dX4_goThrough_10 rfl ?_
  refine q_istore [(4, _), (0, _), (1, _), (2, _), (3, _)] dX4_goThrough_11 (by decide) rfl ?_
  refine q_iconst (0) dX4_goThrough_13 (by decide) ?_
  refine q_istore [(5, _), (4, _), (0, _), (1, _), (2, _), (3, _)] dX4_goThrough_14 (by decide) rfl ?_
  refine q_iconst (0) dX4_goThrough_16 (by decide) ?_
  refine q_istore [(6, _), (5, _), (4, _), (0, _), (1, _), (2, _), (3, _)] dX4_goThrough_17 (by decide) rfl ?_
  rw [hcnt.2.2]
  exact c_go_lp l n d hcD hD hcG hG c ps hn hg hnf hfr hd (N (S 236 c)) 0 0 ps (S, T, w) _ L (Nat.zero_add _) (Or.inl rfl) hX hw hc (by omega) (fun I' L' h9 => ⟨rfl, h9⟩)
set_option maxHeartbeats 8000000 in
set_option maxRecDepth 100000 in
theorem c_doOrders {J S : MI} {T M : ML} {w nf fr g : Nat} {D : Nat → Nat → Nat → PX → PX} {G : Nat → Nat → Nat → Int32 → PX → PX} {th : Int32} (hth : nbt th n) (hcD : cDo l n th g D) (hD : hypD n D) (hcG : cGo l n th g G) (hG : hypG n G) (t k m : Nat) (hn : n < 2 ^ 31) (hk : k + m = N (S 204 t)) (h : CX n S T w nf fr J M I L) (hw : w ≤ 1000) (ht : t < N (S 30 3)) (hg : 13 ≤ nf + 2 * fr + (g + 1)) (hnf : nf ≤ 4) (hfr : fr ≤ 4) (hb : Ph (S, T, w) + 100 < 2 ^ 31) (hd : 10 * g + 15 ≤ d) : VM l n m_X4_doOrders d 0 [.ref 1, .int th, .int (nI t), .int (nI k)] I L (fun r I' L' => r = none ∧ CX n (Lords n D G th nf fr t m k (S, T, w)).1 (Lords n D G th nf fr t m k (S, T, w)).2.1 (Lords n D G th nf fr t m k (S, T, w)).2.2 nf fr J M I' L') noX := by
  refine VM_of _ [(0, .ref 1), (1, .int th), (2, .int (nI t)), (3, .int (nI k))] rfl (fun a => Nat.le_of_ble_eq_true rfl) rfl ?_
  refine q_iload_n dX4_doOrders_0 rfl ?_
  refine q_istore [(4, _), (0, _), (1, _), (2, _), (3, _)] dX4_doOrders_1 (by decide) rfl ?_
  exact c_doOrders_lp l n d hth hcD hD hcG hG t k hn hg hnf hfr hd m k (S, T, w) I L hk h hw ht hb (fun I' L' h9 => ⟨rfl, h9⟩)
/-- every level of the class's runner does what the levels of the pure runner say -/
theorem c_lev {th : Int32} (hth : nbt th n) (hn : n < 2 ^ 31) : ∀ g, cDo l n th g (Lv n th g).1 ∧ cGo l n th g (Lv n th g).2
  | 0 => ⟨fun d nf fr t x I L J M _ h1 h2 h3 => by omega, fun d nf fr c m x I L J M _ h1 h2 h3 => by omega⟩
  | g + 1 => by
    obtain ⟨hcD, hcG⟩ := c_lev hth hn g
    obtain ⟨hD, hG⟩ := lev_ok hth g
    refine ⟨fun d nf fr t x I L J M hd hg hnf hfr h hw ht hb => ?_, fun d nf fr c m x I L J M hd hg hnf hfr h hw hc hb => ?_⟩
    · exact c_doOrders l n d I L hth hcD hD hcG hG t 0 (N (x.1 204 t)) hn (Nat.zero_add _) h hw ht hg hnf hfr hb (by omega)
    · exact c_go l n d I L hcD hD hcG hG c m hn h hw hc hg hnf hfr hb (by omega)
end

