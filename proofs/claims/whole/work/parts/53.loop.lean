/-! ===== the reference's run ===== -/
def nc (I I' : MI) : Prop := ∀ i j, ¬ core i j → I' i j = I i j
def ncL (L L' : ML) : Prop := ∀ i j, ¬ core i j → L' i j = L i j
theorem nc.rf {I : MI} : nc I I := fun _ _ _ => rfl
theorem nc.tr {I I' I'' : MI} (h : nc I I') (k : nc I' I'') : nc I I'' := fun i j q => (k i j q).trans (h i j q)
theorem nc.up {I I' : MI} {i j : Nat} {v : Int32} (h : nc I I') (hc : core i j) : nc I (upI I' i j v) := fun x y q => by
  rw [rdI, if_neg (fun e => q (by rw [e.1, e.2]; exact hc))]
  exact h x y q
theorem ncL.rf {I : ML} : ncL I I := fun _ _ _ => rfl
theorem ncL.up {I I' : ML} {i j : Nat} {v : Int64} (h : ncL I I') (hc : core i j) : ncL I (upL I' i j v) := fun x y q => by
  rw [rdL, if_neg (fun e => q (by rw [e.1, e.2]; exact hc))]
  exact h x y q
theorem nc_log (I : MI) (a b c : Int32) : nc I (Flog I a b c) := (((nc.rf.up (core_c (by decide) (by decide))).up (core_c (by decide) (by decide))).up (core_c (by decide) (by decide))).up (by decide)
theorem nc_bec (I : MI) (i : Nat) (s : Int32) : nc I (Fbec I i s) := (nc.rf.up (core_c (by decide) (by decide))).tr (nc_log _ _ _ _)
theorem nc_enq0 (I : MI) (i : Nat) (k x m : Int32) : nc I (Fenq0 I i k x m) := (((nc.rf.up (core_c (by decide) (by decide))).up (core_c (by decide) (by decide))).up (core_c (by decide) (by decide))).up (core_c (by decide) (by decide))
theorem nc_put (I : MI) (th : Int32) (i : Nat) (k x m v : Int32) : nc I (Fput I th i k x m v) := by
  unfold Fput Fenq
  split
  · exact nc_log _ _ _ _
  · split
    · exact (nc_enq0 _ _ _ _ _).tr (nc_bec _ _ _)
    · exact nc_enq0 _ _ _ _ _
theorem nc_sch (I : MI) (th : Int32) (i : Nat) (t : Int32) : nc I (Fsch I th i t) := by
  have e : nc I (Fsch0 I i t) := ((nc.rf.up (core_c (by decide) (by decide))).up (core_c (by decide) (by decide))).up (by decide)
  unfold Fsch
  split
  · exact nc_log _ _ _ _
  · refine nc.tr ?_ (nc_log _ _ _ _)
    split
    · exact e.tr (nc_bec _ _ _)
    · exact e
theorem ncL_sch (I : MI) (L : ML) (i : Nat) (dl : Int64) : ncL L (TSch I L i dl) := by
  unfold TSch
  split
  · exact ncL.rf
  · exact ncL.rf.up (core_c (by decide) (by decide))
theorem nc_tgtS (I : MI) (b : Int32) : nc I (FtgtS I b) := by
  unfold FtgtS
  split
  · exact nc.rf.up (by decide)
  · exact nc.rf
theorem nc_shut (I : MI) : ∀ k, nc I (Fshut I k)
  | 0 => nc.rf
  | k + 1 => by
    simp only [Fshut]
    split
    · exact (nc_shut I k).tr (nc_bec _ _ _)
    · exact nc_shut I k
theorem ncL_shut (I : MI) (L : ML) (q t : Int64) : ∀ k, ncL L (TShut I L q t k)
  | 0 => ncL.rf
  | k + 1 => by
    simp only [TShut]
    split
    · exact ((((ncL_shut I L q t k).up (core_c (by decide) (by decide))).up (core_c (by decide) (by decide))).up (core_c (by decide) (by decide))).up (core_c (by decide) (by decide))
    · exact ncL_shut I L q t k
theorem nc_fin (I : MI) (p : Nat) (how v : Int32) : nc I (Ffin I p how v) := ((nc.rf.up (core_c (by decide) (by decide))).up (core_c (by decide) (by decide))).up (core_c (by decide) (by decide))
theorem nc_lis (I : MI) (p t : Nat) : nc I (Flis I p t) := (nc.rf.up (core_c (by decide) (by decide))).up (core_c (by decide) (by decide))
theorem Rcnt_cong {I I' : MI} (w : Int32) : ∀ D, (∀ j, j < D → I' 246 j = I 246 j) → Rcnt I' w D = Rcnt I w D
  | 0, _ => rfl
  | D + 1, h => by simp only [Rcnt, Rcnt_cong w D (fun j hj => h j (by omega)), h D (by omega)]
theorem nc_246 {I I' : MI} (h : nc I I') (c j : Nat) (hc : 246 ≤ c) (hc2 : c ≤ 250) : I' c j = I c j := h c j (by unfold core; omega)
abbrev RV (l : Launch) (n d : Nat) (Q : vq_R) (I : MI) (L : ML) : Prop := VP l n m_X10_run d 0 Q noX 0 0 [(0, .ref 30)] [] I L
section
variable (l : Launch) (n : Nat) (hn : n < 2 ^ 31) (d : Nat) (I : MI) (L : ML)
set_option maxHeartbeats 4000000 in
set_option maxRecDepth 100000 in
theorem it_end {Q : vq_R} (hD : I 30 45 = 0) (hQ : Q none I L) : RV l n d Q I L := by
  refine q_aload_n dX10_run_0 rfl ?_
  refine q_getI 30 10 45 (is_30 n) (by decide) rfl (by decide) f_X10_203 rfl dX10_run_1 ?_
  rw [hD]
  refine q_if_le 155 dX10_run_4 (by decide) (fun _ => ?_) (fun q => absurd (Int32.le_refl 0) q)
  exact q_vret dX10_run_155 rfl (by omega) hQ
set_option maxHeartbeats 4000000 in
set_option maxRecDepth 100000 in
theorem it_pop {Q : vq_R} (D t : Nat) (hn : n < 2 ^ 31) (hD : I 30 45 = nI (D + 1)) (hDb : D < 79) (h3 : I 246 D ≠ 3) (h4 : I 246 D ≠ 4) (ho : I 247 D = nI t) (ht : t < 24) (hk : I 248 D = I 204 t) (hQ : RV l n d Q (upI I 30 45 (nI D)) L) : RV l n d Q I L := by
  refine q_aload_n dX10_run_0 rfl ?_
  refine q_getI 30 10 45 (is_30 n) (by decide) rfl (by decide) f_X10_203 rfl dX10_run_1 ?_
  rw [hD]
  refine q_if_le 155 dX10_run_4 (by decide) (fun q => absurd q (nI_nle (by omega) (by omega))) (fun _ => ?_)
  refine q_aload_n dX10_run_7 rfl ?_
  refine q_getI 30 10 45 (is_30 n) (by decide) rfl (by decide) f_X10_203 rfl dX10_run_8 ?_
  refine q_iconst (1) dX10_run_11 (by decide) ?_
  refine q_isub dX10_run_12 ?_
  rw [hD, nI_pred]
  refine q_istore_n [(1, _), (0, _)] dX10_run_13 (by decide) rfl ?_
  refine q_aload_n dX10_run_14 rfl ?_
  refine q_getR 30 10 46 246 (is_30 n) (by decide) rfl rfl (by decide) f_X10_117 rfl dX10_run_15 ?_
  refine q_iload_n dX10_run_18 rfl ?_
  refine q_iald 246 (_) hn (is_246 n) rfl (by show _ < 80; omega) dX10_run_19 ?_
  refine q_iconst (4) dX10_run_20 (by decide) ?_
  refine q_icmp_ne 31 dX10_run_21 (by decide) (fun _ => ?_) (fun q => absurd q h4)
  refine q_aload_n dX10_run_31 rfl ?_
  refine q_getR 30 10 46 246 (is_30 n) (by decide) rfl rfl (by decide) f_X10_117 rfl dX10_run_32 ?_
  refine q_iload_n dX10_run_35 rfl ?_
  refine q_iald 246 (_) hn (is_246 n) rfl (by show _ < 80; omega) dX10_run_36 ?_
  refine q_iconst (3) dX10_run_37 (by decide) ?_
  refine q_icmp_ne 115 dX10_run_38 (by decide) (fun _ => ?_) (fun q => absurd q h3)
  refine q_aload_n dX10_run_115 rfl ?_
  refine q_getR 30 10 48 248 (is_30 n) (by decide) rfl rfl (by decide) f_X10_123 rfl dX10_run_116 ?_
  refine q_iload_n dX10_run_119 rfl ?_
  refine q_iald 248 (_) hn (is_248 n) rfl (by show _ < 80; omega) dX10_run_120 ?_
  refine q_aload_n dX10_run_121 rfl ?_
  refine q_getR 30 10 4 204 (is_30 n) (by decide) rfl rfl (by decide) f_X10_7 rfl dX10_run_122 ?_
  refine q_aload_n dX10_run_125 rfl ?_
  refine q_getR 30 10 47 247 (is_30 n) (by decide) rfl rfl (by decide) f_X10_120 rfl dX10_run_126 ?_
  refine q_iload_n dX10_run_129 rfl ?_
  refine q_iald 247 (_) hn (is_247 n) rfl (by show _ < 80; omega) dX10_run_130 ?_
  rw [hk, ho]
  refine q_iald 204 (_) hn (is_204 n) rfl (by show _ < 24; omega) dX10_run_131 ?_
  refine q_icmp_ne 148 dX10_run_132 (by decide) (fun q => absurd rfl q) (fun _ => ?_)
  refine q_aload_n dX10_run_135 rfl ?_
  refine q_dup dX10_run_136 rfl ?_
  refine q_getI 30 10 45 (is_30 n) (by decide) rfl (by decide) f_X10_203 rfl dX10_run_137 ?_
  refine q_iconst (1) dX10_run_140 (by decide) ?_
  refine q_isub dX10_run_141 ?_
  refine q_putI 30 10 45 (is_30 n) (by decide) rfl (by decide) rfl rfl f_X10_203 rfl dX10_run_142 ?_
  rw [hD, nI_pred]
  refine q_goto 152 dX10_run_145 (by decide) (q_goto 0 dX10_run_152 (by decide) ?_)
  exact q_lv [(0, .ref 30)] (by simp) hQ
set_option maxHeartbeats 4000000 in
set_option maxRecDepth 100000 in
theorem it_work {Q : vq_R} (D t k a : Nat) (hn : n < 2 ^ 31) (h : Inv n I) (hth : nbt (I 30 51) n) (hD : I 30 45 = nI (D + 1)) (hDb : D < 79) (h3 : I 246 D ≠ 3) (h4 : I 246 D ≠ 4) (ho : I 247 D = nI t) (ht : t < 24) (hk : I 248 D = nI k) (hkm : k < N (I 204 t)) (ha : I 30 52 = nI a) (hab : a + 1 < 2 ^ 31) (hk0 : 0 ≤ I 205 (8 * t + k)) (hk13 : I 205 (8 * t + k) ≤ 13) (hcb : tr I + 20 < 2 ^ 31) (hd : 7 ≤ d) (hQ : RV l n d Q (Rwk n I L D t k a).1 (Rwk n I L D t k a).2) : RV l n d Q I L := by
  have h8 := h.2.2.1.2 t
  have h82 := h8.2
  refine q_aload_n dX10_run_0 rfl ?_
  refine q_getI 30 10 45 (is_30 n) (by decide) rfl (by decide) f_X10_203 rfl dX10_run_1 ?_
  rw [hD]
  refine q_if_le 155 dX10_run_4 (by decide) (fun q => absurd q (nI_nle (by omega) (by omega))) (fun _ => ?_)
  refine q_aload_n dX10_run_7 rfl ?_
  refine q_getI 30 10 45 (is_30 n) (by decide) rfl (by decide) f_X10_203 rfl dX10_run_8 ?_
  refine q_iconst (1) dX10_run_11 (by decide) ?_
  refine q_isub dX10_run_12 ?_
  rw [hD, nI_pred]
  refine q_istore_n [(1, _), (0, _)] dX10_run_13 (by decide) rfl ?_
  refine q_aload_n dX10_run_14 rfl ?_
  refine q_getR 30 10 46 246 (is_30 n) (by decide) rfl rfl (by decide) f_X10_117 rfl dX10_run_15 ?_
  refine q_iload_n dX10_run_18 rfl ?_
  refine q_iald 246 (_) hn (is_246 n) rfl (by show _ < 80; omega) dX10_run_19 ?_
  refine q_iconst (4) dX10_run_20 (by decide) ?_
  refine q_icmp_ne 31 dX10_run_21 (by decide) (fun _ => ?_) (fun q => absurd q h4)
  refine q_aload_n dX10_run_31 rfl ?_
  refine q_getR 30 10 46 246 (is_30 n) (by decide) rfl rfl (by decide) f_X10_117 rfl dX10_run_32 ?_
  refine q_iload_n dX10_run_35 rfl ?_
  refine q_iald 246 (_) hn (is_246 n) rfl (by show _ < 80; omega) dX10_run_36 ?_
  refine q_iconst (3) dX10_run_37 (by decide) ?_
  refine q_icmp_ne 115 dX10_run_38 (by decide) (fun _ => ?_) (fun q => absurd q h3)
  refine q_aload_n dX10_run_115 rfl ?_
  refine q_getR 30 10 48 248 (is_30 n) (by decide) rfl rfl (by decide) f_X10_123 rfl dX10_run_116 ?_
  refine q_iload_n dX10_run_119 rfl ?_
  refine q_iald 248 (_) hn (is_248 n) rfl (by show _ < 80; omega) dX10_run_120 ?_
  refine q_aload_n dX10_run_121 rfl ?_
  refine q_getR 30 10 4 204 (is_30 n) (by decide) rfl rfl (by decide) f_X10_7 rfl dX10_run_122 ?_
  refine q_aload_n dX10_run_125 rfl ?_
  refine q_getR 30 10 47 247 (is_30 n) (by decide) rfl rfl (by decide) f_X10_120 rfl dX10_run_126 ?_
  refine q_iload_n dX10_run_129 rfl ?_
  refine q_iald 247 (_) hn (is_247 n) rfl (by show _ < 80; omega) dX10_run_130 ?_
  rw [hk, ho]
  refine q_iald 204 (_) hn (is_204 n) rfl (by show _ < 24; omega) dX10_run_131 ?_
  refine q_icmp_ne 148 dX10_run_132 (by decide) (fun _ => ?_) (fun q => absurd q (by rw [h8.1, nI_eq (by omega) (by omega)]; omega))
  refine q_aload_n dX10_run_148 rfl ?_
  refine q_callv [] o_X10_work rfl k_X10_260 rfl (is_30 n) (by decide) rfl dX10_run_149 (Nat.le_of_ble_eq_true rfl) (by omega) (by decide) (by omega) rfl (r_work l n (d - 1) I L D t k a hn h hth hD hDb ho ht hk (by omega) ha hab hk0 hk13 hcb (by omega)) (fun _ _ _ h => h.elim) (fun I1 L1 hq1 => ?_)
  obtain ⟨-, e2, e3⟩ := hq1
  subst e2
  subst e3
  refine q_goto 0 dX10_run_152 (by decide) ?_
  exact q_lv [(0, .ref 30)] (by simp) hQ
set_option maxHeartbeats 4000000 in
set_option maxRecDepth 100000 in
theorem it_pass {Q : vq_R} (D c j a : Nat) (hn : n < 2 ^ 31) (h : Inv n I) (hD : I 30 45 = nI (D + 1)) (hDb : D < 78) (h4 : I 246 D = 4) (ho : I 247 D = nI c) (hc : c < N (I 30 34)) (hj : I 248 D = nI j) (hj6 : j ≤ N (I 236 c)) (ha : I 30 52 = nI a) (hab : a + 1 < 2 ^ 31) (hcb : tr I + 20 < 2 ^ 31) (hd : 7 ≤ d) (hQ : RV l n d Q (Rps I D c j a) L) : RV l n d Q I L := by
  refine q_aload_n dX10_run_0 rfl ?_
  refine q_getI 30 10 45 (is_30 n) (by decide) rfl (by decide) f_X10_203 rfl dX10_run_1 ?_
  rw [hD]
  refine q_if_le 155 dX10_run_4 (by decide) (fun q => absurd q (nI_nle (by omega) (by omega))) (fun _ => ?_)
  refine q_aload_n dX10_run_7 rfl ?_
  refine q_getI 30 10 45 (is_30 n) (by decide) rfl (by decide) f_X10_203 rfl dX10_run_8 ?_
  refine q_iconst (1) dX10_run_11 (by decide) ?_
  refine q_isub dX10_run_12 ?_
  rw [hD, nI_pred]
  refine q_istore_n [(1, _), (0, _)] dX10_run_13 (by decide) rfl ?_
  refine q_aload_n dX10_run_14 rfl ?_
  refine q_getR 30 10 46 246 (is_30 n) (by decide) rfl rfl (by decide) f_X10_117 rfl dX10_run_15 ?_
  refine q_iload_n dX10_run_18 rfl ?_
  refine q_iald 246 (_) hn (is_246 n) rfl (by show _ < 80; omega) dX10_run_19 ?_
  refine q_iconst (4) dX10_run_20 (by decide) ?_
  refine q_icmp_ne 31 dX10_run_21 (by decide) (fun q => absurd h4 q) (fun _ => ?_)
  refine q_aload_n dX10_run_24 rfl ?_
  refine q_callv [] o_X10_pass rfl k_X10_257 rfl (is_30 n) (by decide) rfl dX10_run_25 (Nat.le_of_ble_eq_true rfl) (by omega) (by decide) (by omega) rfl (r_pass l n (d - 1) I L D c j a hn h hD hDb ho hc hj hj6 ha hab hcb (by omega)) (fun _ _ _ h => h.elim) (fun I1 L1 hq1 => ?_)
  obtain ⟨-, e2, e3⟩ := hq1
  subst e2
  subst e3
  refine q_goto 152 dX10_run_28 (by decide) (q_goto 0 dX10_run_152 (by decide) ?_)
  exact q_lv [(0, .ref 30)] (by simp) hQ
set_option maxHeartbeats 4000000 in
set_option maxRecDepth 100000 in
theorem it_npop {Q : vq_R} (D : Nat) (hn : n < 2 ^ 31) (hD : I 30 45 = nI (D + 1)) (hDb : D < 79) (h3 : I 246 D = 3) (hk : I 248 D = I 249 D) (hQ : RV l n d Q (upI I 30 45 (nI D)) L) : RV l n d Q I L := by
  have h4 : I 246 D ≠ 4 := by rw [h3]; decide
  refine q_aload_n dX10_run_0 rfl ?_
  refine q_getI 30 10 45 (is_30 n) (by decide) rfl (by decide) f_X10_203 rfl dX10_run_1 ?_
  rw [hD]
  refine q_if_le 155 dX10_run_4 (by decide) (fun q => absurd q (nI_nle (by omega) (by omega))) (fun _ => ?_)
  refine q_aload_n dX10_run_7 rfl ?_
  refine q_getI 30 10 45 (is_30 n) (by decide) rfl (by decide) f_X10_203 rfl dX10_run_8 ?_
  refine q_iconst (1) dX10_run_11 (by decide) ?_
  refine q_isub dX10_run_12 ?_
  rw [hD, nI_pred]
  refine q_istore_n [(1, _), (0, _)] dX10_run_13 (by decide) rfl ?_
  refine q_aload_n dX10_run_14 rfl ?_
  refine q_getR 30 10 46 246 (is_30 n) (by decide) rfl rfl (by decide) f_X10_117 rfl dX10_run_15 ?_
  refine q_iload_n dX10_run_18 rfl ?_
  refine q_iald 246 (_) hn (is_246 n) rfl (by show _ < 80; omega) dX10_run_19 ?_
  refine q_iconst (4) dX10_run_20 (by decide) ?_
  refine q_icmp_ne 31 dX10_run_21 (by decide) (fun _ => ?_) (fun q => absurd q h4)
  refine q_aload_n dX10_run_31 rfl ?_
  refine q_getR 30 10 46 246 (is_30 n) (by decide) rfl rfl (by decide) f_X10_117 rfl dX10_run_32 ?_
  refine q_iload_n dX10_run_35 rfl ?_
  refine q_iald 246 (_) hn (is_246 n) rfl (by show _ < 80; omega) dX10_run_36 ?_
  refine q_iconst (3) dX10_run_37 (by decide) ?_
  refine q_icmp_ne 115 dX10_run_38 (by decide) (fun q => absurd h3 q) (fun _ => ?_)
  refine q_aload_n dX10_run_41 rfl ?_
  refine q_getR 30 10 48 248 (is_30 n) (by decide) rfl rfl (by decide) f_X10_123 rfl dX10_run_42 ?_
  refine q_iload_n dX10_run_45 rfl ?_
  refine q_iald 248 (_) hn (is_248 n) rfl (by show _ < 80; omega) dX10_run_46 ?_
  refine q_aload_n dX10_run_47 rfl ?_
  refine q_getR 30 10 49 249 (is_30 n) (by decide) rfl rfl (by decide) f_X10_126 rfl dX10_run_48 ?_
  refine q_iload_n dX10_run_51 rfl ?_
  refine q_iald 249 (_) hn (is_249 n) rfl (by show _ < 80; omega) dX10_run_52 ?_
  refine q_icmp_ne 69 dX10_run_53 (by decide) (fun q => absurd hk q) (fun _ => ?_)
  refine q_aload_n dX10_run_56 rfl ?_
  refine q_dup dX10_run_57 rfl ?_
  refine q_getI 30 10 45 (is_30 n) (by decide) rfl (by decide) f_X10_203 rfl dX10_run_58 ?_
  refine q_iconst (1) dX10_run_61 (by decide) ?_
  refine q_isub dX10_run_62 ?_
  refine q_putI 30 10 45 (is_30 n) (by decide) rfl (by decide) rfl rfl f_X10_203 rfl dX10_run_63 ?_
  rw [hD, nI_pred]
  refine q_goto 152 dX10_run_66 (by decide) (q_goto 0 dX10_run_152 (by decide) ?_)
  exact q_lv [(0, .ref 30)] (by simp) hQ
set_option maxHeartbeats 4000000 in
set_option maxRecDepth 100000 in
theorem it_notify {Q : vq_R} (D p j k : Nat) (hn : n < 2 ^ 31) (h : Inv n I) (hD : I 30 45 = nI (D + 1)) (hDb : D < 78) (h3 : I 246 D = 3) (ho : I 247 D = nI p) (hp : p < N (I 30 27)) (hj : I 248 D = nI j) (hk : I 249 D = nI k) (hjk : j < k) (hk6 : k ≤ 6) (hcb : tr I + 20 < 2 ^ 31) (hd : 7 ≤ d) (hQ : RV l n d Q (Rtell (upI I 248 D (nI (j + 1))) (D + 1) p (I 233 (6 * p + j))) L) : RV l n d Q I L := by
  have h4 : I 246 D ≠ 4 := by rw [h3]; decide
  have h32 := h.2.2.2.1.1.2
  have e1 : (6 : Int32) * nI p + nI j = nI (6 * p + j) := idx 6 p j
  have hI1 : Inv n (upI I 248 D (nI (j + 1))) := by rw [← Inv_co, cu_248, Inv_co]; exact h
  have e27 : upI I 248 D (nI (j + 1)) 30 27 = I 30 27 := by simp [rdI]
  obtain ⟨p1, -, -⟩ := hI1.2.2.2.1.2 p (by rw [e27]; exact hp)
  have etr : tr (upI I 248 D (nI (j + 1))) = tr I := by simp [tr, rdI]
  refine q_aload_n dX10_run_0 rfl ?_
  refine q_getI 30 10 45 (is_30 n) (by decide) rfl (by decide) f_X10_203 rfl dX10_run_1 ?_
  rw [hD]
  refine q_if_le 155 dX10_run_4 (by decide) (fun q => absurd q (nI_nle (by omega) (by omega))) (fun _ => ?_)
  refine q_aload_n dX10_run_7 rfl ?_
  refine q_getI 30 10 45 (is_30 n) (by decide) rfl (by decide) f_X10_203 rfl dX10_run_8 ?_
  refine q_iconst (1) dX10_run_11 (by decide) ?_
  refine q_isub dX10_run_12 ?_
  rw [hD, nI_pred]
  refine q_istore_n [(1, _), (0, _)] dX10_run_13 (by decide) rfl ?_
  refine q_aload_n dX10_run_14 rfl ?_
  refine q_getR 30 10 46 246 (is_30 n) (by decide) rfl rfl (by decide) f_X10_117 rfl dX10_run_15 ?_
  refine q_iload_n dX10_run_18 rfl ?_
  refine q_iald 246 (_) hn (is_246 n) rfl (by show _ < 80; omega) dX10_run_19 ?_
  refine q_iconst (4) dX10_run_20 (by decide) ?_
  refine q_icmp_ne 31 dX10_run_21 (by decide) (fun _ => ?_) (fun q => absurd q h4)
  refine q_aload_n dX10_run_31 rfl ?_
  refine q_getR 30 10 46 246 (is_30 n) (by decide) rfl rfl (by decide) f_X10_117 rfl dX10_run_32 ?_
  refine q_iload_n dX10_run_35 rfl ?_
  refine q_iald 246 (_) hn (is_246 n) rfl (by show _ < 80; omega) dX10_run_36 ?_
  refine q_iconst (3) dX10_run_37 (by decide) ?_
  refine q_icmp_ne 115 dX10_run_38 (by decide) (fun q => absurd h3 q) (fun _ => ?_)
  refine q_aload_n dX10_run_41 rfl ?_
  refine q_getR 30 10 48 248 (is_30 n) (by decide) rfl rfl (by decide) f_X10_123 rfl dX10_run_42 ?_
  refine q_iload_n dX10_run_45 rfl ?_
  refine q_iald 248 (_) hn (is_248 n) rfl (by show _ < 80; omega) dX10_run_46 ?_
  refine q_aload_n dX10_run_47 rfl ?_
  refine q_getR 30 10 49 249 (is_30 n) (by decide) rfl rfl (by decide) f_X10_126 rfl dX10_run_48 ?_
  refine q_iload_n dX10_run_51 rfl ?_
  refine q_iald 249 (_) hn (is_249 n) rfl (by show _ < 80; omega) dX10_run_52 ?_
  refine q_icmp_ne 69 dX10_run_53 (by decide) (fun _ => ?_) (fun q => absurd q (by rw [hj, hk, nI_eq (by omega) (by omega)]; omega))
  refine q_aload_n dX10_run_69 rfl ?_
  refine q_getR 30 10 33 233 (is_30 n) (by decide) rfl rfl (by decide) f_X10_90 rfl dX10_run_70 ?_
  refine q_bipush (6) dX10_run_73 (by decide) ?_
  refine q_aload_n dX10_run_75 rfl ?_
  refine q_getR 30 10 47 247 (is_30 n) (by decide) rfl rfl (by decide) f_X10_120 rfl dX10_run_76 ?_
  refine q_iload_n dX10_run_79 rfl ?_
  refine q_iald 247 (_) hn (is_247 n) rfl (by show _ < 80; omega) dX10_run_80 ?_
  refine q_imul dX10_run_81 ?_
  refine q_aload_n dX10_run_82 rfl ?_
  refine q_getR 30 10 48 248 (is_30 n) (by decide) rfl rfl (by decide) f_X10_123 rfl dX10_run_83 ?_
  refine q_iload_n dX10_run_86 rfl ?_
  refine q_iald 248 (_) hn (is_248 n) rfl (by show _ < 80; omega) dX10_run_87 ?_
  rw [ho, hj]
  refine q_iadd dX10_run_88 ?_
  rw [e1]
  refine q_iald 233 (_) hn (is_233 n) rfl (by show _ < 192; omega) dX10_run_89 ?_
  refine q_istore_n [(2, _), (1, _), (0, _)] dX10_run_90 (by decide) rfl ?_
  refine q_aload_n dX10_run_91 rfl ?_
  refine q_getR 30 10 48 248 (is_30 n) (by decide) rfl rfl (by decide) f_X10_123 rfl dX10_run_92 ?_
  refine q_iload_n dX10_run_95 rfl ?_
  refine q_dup2 dX10_run_96 rfl rfl ?_
  refine q_iald 248 (_) hn (is_248 n) rfl (by show _ < 80; omega) dX10_run_97 ?_
  refine q_iconst (1) dX10_run_98 (by decide) ?_
  refine q_iadd dX10_run_99 ?_
  rw [hj, nI_1]
  have e9 : upI I 248 D (nI (j + 1)) 247 D = nI p := by rw [← ho]; simp [rdI]
  refine q_iast 248 (_) hn (is_248 n) rfl (by show _ < 80; omega) dX10_run_100 ?_
  refine q_aload_n dX10_run_101 rfl ?_
  refine q_aload_n dX10_run_102 rfl ?_
  refine q_getR 30 10 47 247 (is_30 n) (by decide) rfl rfl (by decide) f_X10_120 rfl dX10_run_103 ?_
  refine q_iload_n dX10_run_106 rfl ?_
  refine q_iald 247 (_) hn (is_247 n) rfl (by show _ < 80; omega) dX10_run_107 ?_
  rw [e9]
  refine q_iload_n dX10_run_108 rfl ?_
  refine q_callv [.int _, .int _] o_X10_notify rfl k_X10_253 rfl (is_30 n) (by decide) rfl dX10_run_109 (Nat.le_of_ble_eq_true rfl) (by omega) (by decide) (by omega) rfl (r_notify l n (d - 1) (upI I 248 D (nI (j + 1))) L (D + 1) p (I 233 (6 * p + j)) hn h.1.2 (by rw [← hD]; simp [rdI]) (by omega) (by omega) p1 ((hI1.2.2.2.2.2.2.1 _ p1.2).1.1) (Inv_tr hI1) (by rw [etr]; omega) (by omega)) (fun _ _ _ h => h.elim) (fun I1 L1 hq1 => ?_)
  obtain ⟨-, e2, e3⟩ := hq1
  subst e2
  subst e3
  refine q_goto 152 dX10_run_112 (by decide) (q_goto 0 dX10_run_152 (by decide) ?_)
  exact q_lv [(0, .ref 30)] (by simp) hQ
end

