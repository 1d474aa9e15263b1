theorem VP_l14 {l : Launch} {n : Nat} {y : vq_M} {d K : Nat} {Q : vq_R} {QX : vq_RX} {k pc : Nat} {st : List Value} {I : MI} {L : ML} {v5 : Value} {c c' p p' v2 v3 : Int32} (hc : c = c') (hp : p = p') (h : VP l n y d K Q QX k pc [(5, v5), (0, .ref 30), (1, .int c'), (2, .int v2), (3, .int v3), (4, .int p')] st I L) : VP l n y d K Q QX k pc [(5, v5), (0, .ref 30), (1, .int c), (2, .int v2), (3, .int v3), (4, .int p)] st I L := by
  rw [hc, hp]
  exact h
section
variable {l : Launch} {n d : Nat} {I : MI} {L : ML}
theorem ho_RS : RS (-1) (co I, coL L, 0) (Rho I) L := ⟨⟨co_ho I, rfl⟩, ⟨by show 0 ≤ 1000; omega, fun q => absurd rfl q⟩, ho_51 I⟩
theorem ho_tr : tr (Rho I) = tr I := by rw [← tr_co, co_ho, tr_co]
theorem r_runH {I1 : MI} {y : PX} (h : ∀ Q, rEnd l n d Q (-1) 0 (Rho I) L y → RV l n d Q I1 L) : VM l n m_X10_run d 0 [.ref 30] I1 L (fun r I' L' => r = none ∧ RS (-1) y I' L' ∧ KP 0 (Rho I) I' ∧ KL L L') noX := by
  refine VM_of _ [(0, .ref 30)] rfl (fun a => Nat.le_of_ble_eq_true rfl) rfl ?_
  exact h _ (fun I' L' r1 r2 r3 r4 => it_end l n d I' L' r4 ⟨rfl, r1, r2, r3⟩)
theorem r_run0 {I1 : MI} (h : I1 30 45 = 0) : VM l n m_X10_run d 0 [.ref 30] I1 L (fun r I' L' => r = none ∧ I' = I1 ∧ L' = L) noX := by
  refine VM_of _ [(0, .ref 30)] rfl (fun a => Nat.le_of_ble_eq_true rfl) rfl ?_
  exact it_end l n d I1 L h ⟨rfl, rfl, rfl⟩
end
def Fhs (I : MI) (b k : Nat) : MI := fun x z => if (x = 237 ∨ x = 238 ∨ x = 239) ∧ b ≤ z ∧ z < b + k then I x (z + 1) else I x z
theorem Fhs_0 (I : MI) (b : Nat) : Fhs I b 0 = I := by
  funext x z
  unfold Fhs
  rw [if_neg (by omega)]
theorem Fhs_at (I : MI) (b k x : Nat) : Fhs I b k x (b + k + 1) = I x (b + k + 1) := by
  unfold Fhs
  rw [if_neg (by omega)]
theorem Fhs_ne {I : MI} {b k x : Nat} (h : x ≠ 237 ∧ x ≠ 238 ∧ x ≠ 239) : Fhs I b k x = I x := by
  funext z
  unfold Fhs
  rw [if_neg (by omega)]
theorem Fhs_s (I : MI) (b k : Nat) : upI (upI (upI (Fhs I b k) 237 (b + k) (I 237 (b + k + 1))) 238 (b + k) (I 238 (b + k + 1))) 239 (b + k) (I 239 (b + k + 1)) = Fhs I b (k + 1) := by
  funext x z
  simp only [rdI]
  unfold Fhs
  by_cases hz : z = b + k
  · by_cases h1 : x = 237
    · subst h1; subst hz; simp
    · by_cases h2 : x = 238
      · subst h2; subst hz; simp
      · by_cases h3 : x = 239
        · subst h3; subst hz; simp
        · simp [h1, h2, h3]
  · simp only [hz, and_false, if_false]
    by_cases hc : (x = 237 ∨ x = 238 ∨ x = 239) ∧ b ≤ z ∧ z < b + k
    · rw [if_pos hc, if_pos (by omega)]
    · rw [if_neg hc, if_neg (by omega)]
theorem Fhs_end (I : MI) (c p : Nat) (hq : p < N (I 236 c)) : Fhs (upI I 236 c (nI (N (I 236 c) - 1))) (6 * c + p) (N (I 236 c) - 1 - p) = Fhrem I c p := by
  funext x z
  unfold Fhs
  simp only [rdI]
  unfold Fhrem
  by_cases hc : (x = 237 ∨ x = 238 ∨ x = 239) ∧ 6 * c + p ≤ z ∧ z + 1 < 6 * c + N (I 236 c)
  · have n2 : ¬ x = 236 := by omega
    rw [if_pos (show (x = 237 ∨ x = 238 ∨ x = 239) ∧ 6 * c + p ≤ z ∧ z < 6 * c + p + (N (I 236 c) - 1 - p) by omega)]
    simp [n2, hc]
  · rw [if_neg (show ¬ ((x = 237 ∨ x = 238 ∨ x = 239) ∧ 6 * c + p ≤ z ∧ z < 6 * c + p + (N (I 236 c) - 1 - p)) by omega)]
    simp only [hc, if_false]
theorem co_hrem (I : MI) (c p : Nat) : co (Fhrem I c p) = Fhrem (co I) c p := by
  funext x y
  show (if core x y then Fhrem I c p x y else 0) = _
  unfold Fhrem
  rw [co_236]
  by_cases h : (x = 237 ∨ x = 238 ∨ x = 239) ∧ 6 * c + p ≤ y ∧ y + 1 < 6 * c + N (I 236 c)
  · have hx : ∀ z, core x z := fun z => core_c (by omega) (by omega)
    rw [if_pos h, if_pos h, if_pos (hx y), co_rd (hx _)]
  · rw [if_neg h, if_neg h]
    by_cases h2 : x = 236 ∧ y = c
    · rw [if_pos h2, if_pos h2, if_pos (by rw [h2.1]; exact core_c (by decide) (by decide))]
    · rw [if_neg h2, if_neg h2]
      rfl
theorem nc_hrem (I : MI) (c p : Nat) : nc I (Fhrem I c p) := fun x y q => by
  unfold Fhrem
  rw [if_neg (fun z => q (core_c (by omega) (by omega))), if_neg (fun z => q (core_c (by omega) (by omega)))]
section
variable (l : Launch) (n : Nat) (hn : n < 2 ^ 31) (d : Nat) (I : MI) (L : ML)
set_option maxHeartbeats 4000000 in
set_option maxRecDepth 100000 in
theorem r_hs_lp {Q : vq_R} (c p m : Nat) (v2 v3 v5 v6 : Int32) (hn : n < 2 ^ 31) (hc : c < 16) (hp : p ≤ m) (hm : m < 6) (hq : I 236 c = nI m) (hQ : VP l n m_X10_handler d 0 Q noX 0 294 [(6, .int v6), (5, .int v5), (0, .ref 30), (1, .int (nI c)), (2, .int v2), (3, .int v3), (4, .int (nI p))] [] (Fhs I (6 * c + p) (m - p)) L) : ∀ j k, k + j = m - p → VP l n m_X10_handler d 0 Q noX 0 224 [(7, .int (nI (6 * c + p + k))), (6, .int v6), (5, .int v5), (0, .ref 30), (1, .int (nI c)), (2, .int v2), (3, .int v3), (4, .int (nI p))] [] (Fhs I (6 * c + p) k) L := by
  have h236 : ∀ k, Fhs I (6 * c + p) k 236 c = nI m := fun k => by rw [Fhs_ne (by decide)]; exact hq
  have e1 : (6 : Int32) * nI c + nI m = nI (6 * c + m) := idx 6 c m
  intro j
  induction j with
  | zero =>
    intro k hk
    refine q_iload dX10_handler_224 rfl ?_
    refine q_bipush (6) dX10_handler_226 (by decide) ?_
    refine q_iload_n dX10_handler_228 rfl ?_
    refine q_imul dX10_handler_229 ?_
    refine q_aload_n dX10_handler_230 rfl ?_
    refine q_getR 30 10 36 236 (is_30 n) (by decide) rfl rfl (by decide) f_X10_96 rfl dX10_handler_231 ?_
    refine q_iload_n dX10_handler_234 rfl ?_
    refine q_iald 236 (_) hn (is_236 n) rfl (by show _ < 16; omega) dX10_handler_235 ?_
    rw [h236]
    refine q_iadd dX10_handler_236 ?_
    rw [e1]
    refine q_icmp_ge 294 dX10_handler_237 (by decide) (fun _ => ?_) (fun z => absurd (nI_le (by omega) (by omega)) z)
    rw [show k = m - p by omega]
    exact q_lv _ (fun q hq => List.mem_cons_of_mem _ hq) hQ
  | succ j ih =>
    intro k hk
    refine q_iload dX10_handler_224 rfl ?_
    refine q_bipush (6) dX10_handler_226 (by decide) ?_
    refine q_iload_n dX10_handler_228 rfl ?_
    refine q_imul dX10_handler_229 ?_
    refine q_aload_n dX10_handler_230 rfl ?_
    refine q_getR 30 10 36 236 (is_30 n) (by decide) rfl rfl (by decide) f_X10_96 rfl dX10_handler_231 ?_
    refine q_iload_n dX10_handler_234 rfl ?_
    refine q_iald 236 (_) hn (is_236 n) rfl (by show _ < 16; omega) dX10_handler_235 ?_
    rw [h236]
    refine q_iadd dX10_handler_236 ?_
    rw [e1]
    refine q_icmp_ge 294 dX10_handler_237 (by decide) (fun z => absurd z (nI_ge (by omega) (by omega))) (fun _ => ?_)
    refine q_aload_n dX10_handler_240 rfl ?_
    refine q_getR 30 10 37 237 (is_30 n) (by decide) rfl rfl (by decide) f_X10_99 rfl dX10_handler_241 ?_
    refine q_iload dX10_handler_244 rfl ?_
    refine q_aload_n dX10_handler_246 rfl ?_
    refine q_getR 30 10 37 237 (is_30 n) (by decide) rfl rfl (by decide) f_X10_99 rfl dX10_handler_247 ?_
    refine q_iload dX10_handler_250 rfl ?_
    refine q_iconst (1) dX10_handler_252 (by decide) ?_
    refine q_iadd dX10_handler_253 ?_
    refine q_iald 237 (6 * c + p + k + 1) hn (is_237 n) (nI_1 _) (by show _ < 96; omega) dX10_handler_254 ?_
    refine q_iast 237 (_) hn (is_237 n) rfl (by show _ < 96; omega) dX10_handler_255 ?_
    refine q_aload_n dX10_handler_256 rfl ?_
    refine q_getR 30 10 38 238 (is_30 n) (by decide) rfl rfl (by decide) f_X10_102 rfl dX10_handler_257 ?_
    refine q_iload dX10_handler_260 rfl ?_
    refine q_aload_n dX10_handler_262 rfl ?_
    refine q_getR 30 10 38 238 (is_30 n) (by decide) rfl rfl (by decide) f_X10_102 rfl dX10_handler_263 ?_
    refine q_iload dX10_handler_266 rfl ?_
    refine q_iconst (1) dX10_handler_268 (by decide) ?_
    refine q_iadd dX10_handler_269 ?_
    refine q_iald 238 (6 * c + p + k + 1) hn (is_238 n) (nI_1 _) (by show _ < 96; omega) dX10_handler_270 ?_
    refine q_iast 238 (_) hn (is_238 n) rfl (by show _ < 96; omega) dX10_handler_271 ?_
    refine q_aload_n dX10_handler_272 rfl ?_
    refine q_getR 30 10 39 239 (is_30 n) (by decide) rfl rfl (by decide) f_X10_105 rfl dX10_handler_273 ?_
    refine q_iload dX10_handler_276 rfl ?_
    refine q_aload_n dX10_handler_278 rfl ?_
    refine q_getR 30 10 39 239 (is_30 n) (by decide) rfl rfl (by decide) f_X10_105 rfl dX10_handler_279 ?_
    refine q_iload dX10_handler_282 rfl ?_
    refine q_iconst (1) dX10_handler_284 (by decide) ?_
    refine q_iadd dX10_handler_285 ?_
    refine q_iald 239 (6 * c + p + k + 1) hn (is_239 n) (nI_1 _) (by show _ < 96; omega) dX10_handler_286 ?_
    refine q_iast 239 (_) hn (is_239 n) rfl (by show _ < 96; omega) dX10_handler_287 ?_
    refine q_iinc [(7, _), (6, _), (5, _), (0, _), (1, _), (2, _), (3, _), (4, _)] (nI (6 * c + p + k + 1)) dX10_handler_288 rfl (nI_1 _) (by decide) rfl ?_
    refine q_goto 224 dX10_handler_291 (by decide) ?_
    have e2 : Fhs I (6 * c + p) k 237 (6 * c + p + k + 1) = I 237 (6 * c + p + k + 1) := Fhs_at _ _ _ _
    have e3 : upI (Fhs I (6 * c + p) k) 237 (6 * c + p + k) (Fhs I (6 * c + p) k 237 (6 * c + p + k + 1)) 238 (6 * c + p + k + 1) = I 238 (6 * c + p + k + 1) := by rw [rdI, if_neg (by omega)]; exact Fhs_at _ _ _ _
    have e4 : ∀ a b, upI (upI (Fhs I (6 * c + p) k) 237 (6 * c + p + k) a) 238 (6 * c + p + k) b 239 (6 * c + p + k + 1) = I 239 (6 * c + p + k + 1) := fun a b => by rw [rdI, if_neg (by omega), rdI, if_neg (by omega)]; exact Fhs_at _ _ _ _
    rw [e3, e2, e4, Fhs_s]
    exact ih (k + 1) (by omega)
set_option maxHeartbeats 8000000 in
set_option maxRecDepth 100000 in
theorem rh_handler (c k t p : Int32) (hn : n < 2 ^ 31) (h : Inv n I) (hd : 40 ≤ d) : VM l n m_X10_handler d 0 [.ref 30, .int c, .int k, .int t, .int p] I L (RP (Hhandler (co I) (coL L) c k t p) I L) noX := by
  refine VM_of _ [(0, .ref 30), (1, .int c), (2, .int k), (3, .int t), (4, .int p)] rfl (fun a => Nat.le_of_ble_eq_true rfl) rfl ?_
  have hn8 := h.1
  have hct := Inv_tr h
  have hp := h.2.2.2.2.1.1
  have hp2 := hp.2
  have ht := h.2.2.1.1
  have ht2 := ht.2
  have kbad : Hhandler (co I) (coL L) c k t p = (1, 0, co I, coL L) → VP l n m_X10_handler d 0 (RP (Hhandler (co I) (coL L) c k t p) I L) noX 0 73 [(0, .ref 30), (1, .int c), (2, .int k), (3, .int t), (4, .int p)] [] I L := by
    intro eH
    refine q_iconst (1) dX10_handler_73 (by decide) ?_
    refine q_goto 78 dX10_handler_74 (by decide) ?_
    refine q_istore [(5, _), (0, _), (1, _), (2, _), (3, _), (4, _)] dX10_handler_78 (by decide) rfl ?_
    refine q_aload_n dX10_handler_80 rfl ?_
    refine q_iload dX10_handler_81 rfl ?_
    refine q_iload dX10_handler_83 rfl ?_
    refine q_if_ne 109 dX10_handler_85 (by decide) (fun _ => ?_) (fun q => absurd q (by decide))
    refine q_iconst (0) dX10_handler_109 (by decide) ?_
    refine q_calli [.int _, .int _] o_X10_throwing rfl k_X10_159 rfl (is_30 n) (by decide) rfl dX10_handler_110 (Nat.le_of_ble_eq_true rfl) (by omega) (by decide) (by omega) (Or.inr rfl) (r_thr1 l n (d - 1) I L 0) (fun _ _ _ h => h.elim) (fun q1 I1 L1 hq1 => ?_)
    obtain ⟨z1, z2, z3⟩ := hq1
    cases z1
    subst z2
    cases z3.symm
    refine q_if_eq 118 dX10_handler_113 (by decide) (fun q => absurd q (by decide)) (fun _ => ?_)
    refine q_iconst (0) dX10_handler_116 (by decide) ?_
    exact q_iret dX10_handler_117 rfl (by omega) (RP_0 eH)
  refine q_aload_n dX10_handler_0 rfl ?_
  refine q_iload_n dX10_handler_1 rfl ?_
  refine q_calli [.int _] o_X10_isChannel rfl k_X10_172 rfl (is_30 n) (by decide) rfl dX10_handler_2 (Nat.le_of_ble_eq_true rfl) (by omega) (by decide) (by omega) (Or.inr rfl) (r_isChannel l n (d - 1) I L c hp.1 (by omega) (by omega)) (fun _ _ _ h => h.elim) (fun q1 I1 L1 hq1 => ?_)
  obtain ⟨z1, z2, z3⟩ := hq1
  cases z1
  cases z2.symm
  cases z3.symm
  refine q_if_eq 73 dX10_handler_5 (by decide) (fun h5 => kbad (by rw [bI_z] at h5; exact if_neg (show ¬ isC (co I) c from h5))) (fun h5 => ?_)
  rw [bI_z, Decidable.not_not] at h5
  have hnc := isC_nbt h h5
  have hnc2 := hnc.2
  obtain ⟨-, h6, -⟩ := h.2.2.2.2.1.2.2 (N c) hnc2
  have h62 := h6.2
  have eH0 : Hhandler (co I) (coL L) c k t p = if p = -1 then (if (0 ≤ k ∧ k ≤ 6) ∧ (k = 4 → isT I t) then (if I 236 (N c) < 6 then (0, I 30 40, Fhadd (co I) (N c) k t, coL L) else (2, 0, co I, coL L)) else (1, 0, co I, coL L)) else (if 0 ≤ p ∧ p < I 236 (N c) then (0, I 239 (6 * N c + N p), Fhrem (co I) (N c) (N p), coL L) else (1, 0, co I, coL L)) := if_pos (show isC (co I) c from h5)
  refine q_iload dX10_handler_8 rfl ?_
  refine q_iconst (-1) dX10_handler_10 (by decide) ?_
  refine q_icmp_ne 42 dX10_handler_11 (by decide) (fun h11 => ?_) (fun h11 => ?_)
  · rw [if_neg h11] at eH0
    refine q_iload dX10_handler_42 rfl ?_
    refine q_i2l dX10_handler_44 ?_
    refine q_lconst (0) dX10_handler_45 (by decide) ?_
    refine q_aload_n dX10_handler_46 rfl ?_
    refine q_getR 30 10 36 236 (is_30 n) (by decide) rfl rfl (by decide) f_X10_96 rfl dX10_handler_47 ?_
    refine q_aload_n dX10_handler_50 rfl ?_
    refine q_iload_n dX10_handler_51 rfl ?_
    refine q_calli [.int _] o_X10_isChannel rfl k_X10_172 rfl (is_30 n) (by decide) rfl dX10_handler_52 (Nat.le_of_ble_eq_true rfl) (by omega) (by decide) (by omega) (Or.inr rfl) (r_isChannel l n (d - 1) I L c hp.1 (by omega) (by omega)) (fun _ _ _ h => h.elim) (fun q1 I1 L1 hq1 => ?_)
    obtain ⟨z1, z2, z3⟩ := hq1
    cases z1
    cases z2.symm
    cases z3.symm
    rw [bI_t h5]
    refine q_if_eq 62 dX10_handler_55 (by decide) (fun q => absurd q (by decide)) (fun _ => ?_)
    refine q_iload_n dX10_handler_58 rfl ?_
    refine q_goto 63 dX10_handler_59 (by decide) ?_
    refine q_iald 236 (N c) hn (is_236 n) hnc.1 (by show _ < 16; omega) dX10_handler_63 ?_
    refine q_iconst (1) dX10_handler_64 (by decide) ?_
    refine q_isub dX10_handler_65 ?_
    refine q_i2l dX10_handler_66 ?_
    refine q_calls [.long _, .long _, .long _] o_X10_in rfl k_X10_142 rfl dX10_handler_67 (Nat.le_of_ble_eq_true rfl) (by omega) (by decide) (by omega) (Or.inr rfl) (r_in l n (d - 1) I L p.toInt64 0 (I 236 (N c) - 1).toInt64) (fun _ _ _ h => h.elim) (fun q1 I1 L1 hq1 => ?_)
    obtain ⟨z1, z2, z3⟩ := hq1
    cases z1
    cases z2.symm
    cases z3.symm
    rw [bI_c (in_lt h6.1 (by omega))]
    refine q_if_ne 77 dX10_handler_70 (by decide) (fun h70 => ?_) (fun h70 => kbad (by rw [bI_z] at h70; rw [eH0, if_neg h70]))
    rw [ne_eq, bI_z, Decidable.not_not] at h70
    rw [if_pos h70] at eH0
    have hnp := is_nbt h6 (by decide) h70.1 h70.2
    have hnp2 := hnp.2
    have e1 : (6 : Int32) * nI (N c) + nI (N p) = nI (6 * N c + N p) := idx 6 _ _
    have f236 : upI I 30 0 0 236 (N c) = I 236 (N c) := by simp [rdI]
    have f239 : upI I 30 0 0 239 (6 * N c + N p) = I 239 (6 * N c + N p) := by simp [rdI]
    refine q_iconst (0) dX10_handler_77 (by decide) ?_
    refine q_istore [(5, _), (0, _), (1, _), (2, _), (3, _), (4, _)] dX10_handler_78 (by decide) rfl ?_
    refine q_aload_n dX10_handler_80 rfl ?_
    refine q_iload dX10_handler_81 rfl ?_
    refine q_iload dX10_handler_83 rfl ?_
    refine q_if_ne 109 dX10_handler_85 (by decide) (fun q => absurd rfl q) (fun _ => ?_)
    refine q_iload dX10_handler_88 rfl ?_
    refine q_iconst (-1) dX10_handler_90 (by decide) ?_
    refine q_icmp_ne 109 dX10_handler_91 (by decide) (fun _ => ?_) (fun q => absurd q h11)
    refine q_iconst (0) dX10_handler_109 (by decide) ?_
    refine q_calli [.int _, .int _] o_X10_throwing rfl k_X10_159 rfl (is_30 n) (by decide) rfl dX10_handler_110 (Nat.le_of_ble_eq_true rfl) (by omega) (by decide) (by omega) (Or.inr rfl) (r_thr0 l n (d - 1) I L) (fun _ _ _ h => h.elim) (fun q1 I1 L1 hq1 => ?_)
    obtain ⟨z1, z2, z3⟩ := hq1
    cases z1
    subst z2
    cases z3.symm
    refine q_if_eq 118 dX10_handler_113 (by decide) (fun _ => ?_) (fun q => absurd rfl q)
    refine q_iload dX10_handler_118 rfl ?_
    refine q_iconst (-1) dX10_handler_120 (by decide) ?_
    refine q_icmp_ne 191 dX10_handler_121 (by decide) (fun _ => ?_) (fun q => absurd q h11)
    obtain ⟨c9, hc9⟩ : ∃ c9, N c = c9 := ⟨_, rfl⟩
    obtain ⟨p9, hp9⟩ : ∃ p9, N p = p9 := ⟨_, rfl⟩
    have hce : c = nI c9 := by rw [← hc9]; exact hnc.1
    have hpe : p = nI p9 := by rw [← hp9]; exact hnp.1
    rw [hc9] at e1 f236 f239 eH0 h6 h62 hnc2 hnp2
    rw [hp9] at e1 f239 eH0 hnp2
    refine VP_l14 hce hpe ?_
    refine q_aload_n dX10_handler_191 rfl ?_
    refine q_getR 30 10 39 239 (is_30 n) (by decide) rfl rfl (by decide) f_X10_105 rfl dX10_handler_192 ?_
    refine q_bipush (6) dX10_handler_195 (by decide) ?_
    refine q_iload_n dX10_handler_197 rfl ?_
    refine q_imul dX10_handler_198 ?_
    refine q_iload dX10_handler_199 rfl ?_
    refine q_iadd dX10_handler_201 ?_
    rw [e1]
    refine q_iald 239 (_) hn (is_239 n) rfl (by show _ < 96; omega) dX10_handler_202 ?_
    rw [f239]
    refine q_istore [(6, _), (5, _), (0, _), (1, _), (2, _), (3, _), (4, _)] dX10_handler_203 (by decide) rfl ?_
    refine q_aload_n dX10_handler_205 rfl ?_
    refine q_getR 30 10 36 236 (is_30 n) (by decide) rfl rfl (by decide) f_X10_96 rfl dX10_handler_206 ?_
    refine q_iload_n dX10_handler_209 rfl ?_
    refine q_dup2 dX10_handler_210 rfl rfl ?_
    refine q_iald 236 (_) hn (is_236 n) rfl (by show _ < 16; omega) dX10_handler_211 ?_
    refine q_iconst (1) dX10_handler_212 (by decide) ?_
    refine q_isub dX10_handler_213 ?_
    have e2 : upI I 30 0 0 236 c9 - 1 = nI (N (I 236 c9) - 1) := by
      rw [f236]
      obtain ⟨z, hz⟩ : ∃ z, N (I 236 c9) = z + 1 := ⟨N (I 236 c9) - 1, by omega⟩
      conv => lhs; rw [h6.1]
      rw [hz, nI_pred]
      rfl
    rw [e2]
    refine q_iast 236 (_) hn (is_236 n) rfl (by show _ < 16; omega) dX10_handler_214 ?_
    refine q_bipush (6) dX10_handler_215 (by decide) ?_
    refine q_iload_n dX10_handler_217 rfl ?_
    refine q_imul dX10_handler_218 ?_
    refine q_iload dX10_handler_219 rfl ?_
    refine q_iadd dX10_handler_221 ?_
    rw [e1]
    refine q_istore [(7, _), (6, _), (5, _), (0, _), (1, _), (2, _), (3, _), (4, _)] dX10_handler_222 (by decide) rfl ?_
    have hb2 : N (upI I 30 0 0 236 c9) = N (I 236 c9) := by rw [f236]
    have key := r_hs_lp l n d (upI (upI I 30 0 0) 236 c9 (nI (N (I 236 c9) - 1))) L (Q := RP (Hhandler (co I) (coL L) c k t p) I L) c9 p9 (N (I 236 c9) - 1) k t 0 (I 239 (6 * c9 + p9)) hn (by omega) (by omega) (by omega) (by simp [rdI])
    rw [← hb2, Fhs_end (upI I 30 0 0) c9 p9 (by rw [hb2]; exact hnp2)] at key
    have key2 := fun hq9 => key hq9 (N (upI I 30 0 0 236 c9) - 1 - p9) 0 (by omega)
    rw [Fhs_0, Nat.add_zero] at key2
    rw [← hb2]
    refine key2 ?_
    refine q_iload dX10_handler_294 rfl ?_
    refine q_iret dX10_handler_296 rfl (by omega) (RP_nc (I1 := upI I 30 0 0) eH0 (by simp [rdI]) (KI.rf.up (Or.inl rfl)) (nc_hrem _ _ _) ncL.rf ?_ rfl)
    rw [co_hrem, cu_30_0]
  · rw [if_pos h11] at eH0
    have kok : (0 ≤ k ∧ k ≤ 6) ∧ (k = 4 → isT I t) → VP l n m_X10_handler d 0 (RP (Hhandler (co I) (coL L) c k t p) I L) noX 0 77 [(0, .ref 30), (1, .int c), (2, .int k), (3, .int t), (4, .int p)] [] I L := by
      intro hk
      rw [if_pos hk] at eH0
      refine q_iconst (0) dX10_handler_77 (by decide) ?_
      refine q_istore [(5, _), (0, _), (1, _), (2, _), (3, _), (4, _)] dX10_handler_78 (by decide) rfl ?_
      refine q_aload_n dX10_handler_80 rfl ?_
      refine q_iload dX10_handler_81 rfl ?_
      refine q_iload dX10_handler_83 rfl ?_
      refine q_if_ne 109 dX10_handler_85 (by decide) (fun q => absurd rfl q) (fun _ => ?_)
      refine q_iload dX10_handler_88 rfl ?_
      refine q_iconst (-1) dX10_handler_90 (by decide) ?_
      refine q_icmp_ne 109 dX10_handler_91 (by decide) (fun q => absurd h11 q) (fun _ => ?_)
      refine q_aload_n dX10_handler_94 rfl ?_
      refine q_getR 30 10 36 236 (is_30 n) (by decide) rfl rfl (by decide) f_X10_96 rfl dX10_handler_95 ?_
      refine q_iload_n dX10_handler_98 rfl ?_
      refine q_iald 236 (N c) hn (is_236 n) hnc.1 (by show _ < 16; omega) dX10_handler_99 ?_
      refine q_bipush (6) dX10_handler_100 (by decide) ?_
      refine q_icmp_ne 109 dX10_handler_102 (by decide) (fun h102 => ?_) (fun h102 => ?_)
      · have hlt : I 236 (N c) < 6 := (nb_iff h6 (by decide)).mpr h102
        have hm := nb_ltN h6 (by decide) hlt
        rw [if_pos hlt] at eH0
        have e1 : (6 : Int32) * nI (N c) + I 236 (N c) = nI (6 * N c + N (I 236 (N c))) := by
          conv => lhs; rw [h6.1]
          exact idx 6 _ _
        have e2 : upI I 30 0 0 236 (N c) = I 236 (N c) := by simp [rdI]
        refine q_iconst (0) dX10_handler_109 (by decide) ?_
        refine q_calli [.int _, .int _] o_X10_throwing rfl k_X10_159 rfl (is_30 n) (by decide) rfl dX10_handler_110 (Nat.le_of_ble_eq_true rfl) (by omega) (by decide) (by omega) (Or.inr rfl) (r_thr0 l n (d - 1) I L) (fun _ _ _ h => h.elim) (fun q1 I1 L1 hq1 => ?_)
        obtain ⟨z1, z2, z3⟩ := hq1
        cases z1
        subst z2
        cases z3.symm
        refine q_if_eq 118 dX10_handler_113 (by decide) (fun _ => ?_) (fun q => absurd rfl q)
        refine q_iload dX10_handler_118 rfl ?_
        refine q_iconst (-1) dX10_handler_120 (by decide) ?_
        refine q_icmp_ne 191 dX10_handler_121 (by decide) (fun q => absurd h11 q) (fun _ => ?_)
        obtain ⟨c9, hc9⟩ : ∃ c9, N c = c9 := ⟨_, rfl⟩
        have hce : c = nI c9 := by rw [← hc9]; exact hnc.1
        rw [hc9] at e1 e2 eH0 h6 hm hnc2
        refine VP_l14 hce rfl ?_
        refine q_bipush (6) dX10_handler_124 (by decide) ?_
        refine q_iload_n dX10_handler_126 rfl ?_
        refine q_imul dX10_handler_127 ?_
        refine q_aload_n dX10_handler_128 rfl ?_
        refine q_getR 30 10 36 236 (is_30 n) (by decide) rfl rfl (by decide) f_X10_96 rfl dX10_handler_129 ?_
        refine q_iload_n dX10_handler_132 rfl ?_
        refine q_iald 236 (_) hn (is_236 n) rfl (by show _ < 16; omega) dX10_handler_133 ?_
        rw [e2]
        refine q_iadd dX10_handler_134 ?_
        rw [e1]
        refine q_istore [(6, _), (5, _), (0, _), (1, _), (2, _), (3, _), (4, _)] dX10_handler_135 (by decide) rfl ?_
        refine q_aload_n dX10_handler_137 rfl ?_
        refine q_getR 30 10 37 237 (is_30 n) (by decide) rfl rfl (by decide) f_X10_99 rfl dX10_handler_138 ?_
        refine q_iload dX10_handler_141 rfl ?_
        refine q_iload_n dX10_handler_143 rfl ?_
        refine q_iast 237 (_) hn (is_237 n) rfl (by show _ < 96; omega) dX10_handler_144 ?_
        refine q_aload_n dX10_handler_145 rfl ?_
        refine q_getR 30 10 38 238 (is_30 n) (by decide) rfl rfl (by decide) f_X10_102 rfl dX10_handler_146 ?_
        refine q_iload dX10_handler_149 rfl ?_
        refine q_iload_n dX10_handler_151 rfl ?_
        refine q_iast 238 (_) hn (is_238 n) rfl (by show _ < 96; omega) dX10_handler_152 ?_
        refine q_aload_n dX10_handler_153 rfl ?_
        refine q_getR 30 10 39 239 (is_30 n) (by decide) rfl rfl (by decide) f_X10_105 rfl dX10_handler_154 ?_
        refine q_iload dX10_handler_157 rfl ?_
        refine q_aload_n dX10_handler_159 rfl ?_
        refine q_getI 30 10 40 (is_30 n) (by decide) rfl (by decide) f_X10_177 rfl dX10_handler_160 ?_
        refine q_iast 239 (_) hn (is_239 n) rfl (by show _ < 96; omega) dX10_handler_163 ?_
        refine q_aload_n dX10_handler_164 rfl ?_
        refine q_getR 30 10 36 236 (is_30 n) (by decide) rfl rfl (by decide) f_X10_96 rfl dX10_handler_165 ?_
        refine q_iload_n dX10_handler_168 rfl ?_
        refine q_dup2 dX10_handler_169 rfl rfl ?_
        refine q_iald 236 (_) hn (is_236 n) rfl (by show _ < 16; omega) dX10_handler_170 ?_
        refine q_iconst (1) dX10_handler_171 (by decide) ?_
        refine q_iadd dX10_handler_172 ?_
        refine q_iast 236 (_) hn (is_236 n) rfl (by show _ < 16; omega) dX10_handler_173 ?_
        refine q_aload_n dX10_handler_174 rfl ?_
        refine q_dup dX10_handler_175 rfl ?_
        refine q_getI 30 10 40 (is_30 n) (by decide) rfl (by decide) f_X10_177 rfl dX10_handler_176 ?_
        refine q_iconst (1) dX10_handler_179 (by decide) ?_
        refine q_iadd dX10_handler_180 ?_
        refine q_putI 30 10 40 (is_30 n) (by decide) rfl (by decide) rfl rfl f_X10_177 rfl dX10_handler_181 ?_
        refine q_aload_n dX10_handler_184 rfl ?_
        refine q_getI 30 10 40 (is_30 n) (by decide) rfl (by decide) f_X10_177 rfl dX10_handler_185 ?_
        refine q_iconst (1) dX10_handler_188 (by decide) ?_
        refine q_isub dX10_handler_189 ?_
        refine VP_top0 (z' := I 30 40) (by simp [rdI, i32_pm]) ?_
        refine q_iret dX10_handler_190 rfl (by omega) (RP_nc (I1 := upI I 30 0 0) eH0 (by simp [rdI]) (KI.rf.up (Or.inl rfl)) (((((nc.rf.up (core_c (by decide) (by decide))).up (core_c (by decide) (by decide))).up (core_c (by decide) (by decide))).up (core_c (by decide) (by decide))).up (by decide)) ncL.rf ?_ rfl)
        rw [cu_30_40, cu_236, cu_239, cu_238, cu_237, cu_30_0]
        simp [Fhadd, rdI, co_236, co_30_40]
      · rw [if_neg (fun q : I 236 (N c) < 6 => nlt_ne q h102)] at eH0
        refine q_iconst (1) dX10_handler_105 (by decide) ?_
        refine q_goto 110 dX10_handler_106 (by decide) ?_
        refine q_calli [.int _, .int _] o_X10_throwing rfl k_X10_159 rfl (is_30 n) (by decide) rfl dX10_handler_110 (Nat.le_of_ble_eq_true rfl) (by omega) (by decide) (by omega) (Or.inr rfl) (r_thr2 l n (d - 1) I L) (fun _ _ _ h => h.elim) (fun q1 I1 L1 hq1 => ?_)
        obtain ⟨z1, z2, z3⟩ := hq1
        cases z1
        subst z2
        cases z3.symm
        refine q_if_eq 118 dX10_handler_113 (by decide) (fun q => absurd q (by decide)) (fun _ => ?_)
        refine q_iconst (0) dX10_handler_116 (by decide) ?_
        exact q_iret dX10_handler_117 rfl (by omega) (RP_0 eH0)
    refine q_iload_n dX10_handler_14 rfl ?_
    refine q_i2l dX10_handler_15 ?_
    refine q_lconst (0) dX10_handler_16 (by decide) ?_
    refine q_ldc2 n_X10_175 rfl dX10_handler_17 ?_
    refine q_calls [.long _, .long _, .long _] o_X10_in rfl k_X10_142 rfl dX10_handler_20 (Nat.le_of_ble_eq_true rfl) (by omega) (by decide) (by omega) (Or.inr rfl) (r_in l n (d - 1) I L k.toInt64 0 6) (fun _ _ _ h => h.elim) (fun q1 I1 L1 hq1 => ?_)
    obtain ⟨z1, z2, z3⟩ := hq1
    cases z1
    cases z2.symm
    cases z3.symm
    rw [bI_c (in_k k 0 6 (by decide) (by decide))]
    refine q_if_eq 73 dX10_handler_23 (by decide) (fun h23 => kbad (by rw [bI_z] at h23; rw [eH0, if_neg (fun q => h23 q.1)])) (fun h23 => ?_)
    rw [bI_z, Decidable.not_not] at h23
    refine q_iload_n dX10_handler_26 rfl ?_
    refine q_iconst (4) dX10_handler_27 (by decide) ?_
    refine q_icmp_ne 77 dX10_handler_28 (by decide) (fun h28 => kok ⟨h23, fun q => absurd q h28⟩) (fun h28 => ?_)
    refine q_aload_n dX10_handler_31 rfl ?_
    refine q_iload_n dX10_handler_32 rfl ?_
    refine q_calli [.int _] o_X10_isTask rfl k_X10_163 rfl (is_30 n) (by decide) rfl dX10_handler_33 (Nat.le_of_ble_eq_true rfl) (by omega) (by decide) (by omega) (Or.inr rfl) (r_isTask l n (d - 1) I L t ht.1 (by omega) (by omega)) (fun _ _ _ h => h.elim) (fun q1 I1 L1 hq1 => ?_)
    obtain ⟨z1, z2, z3⟩ := hq1
    cases z1
    cases z2.symm
    cases z3.symm
    refine q_if_eq 73 dX10_handler_36 (by decide) (fun h36 => kbad (by rw [bI_z] at h36; rw [eH0, if_neg (fun q => h36 (q.2 h28))])) (fun h36 => ?_)
    rw [bI_z, Decidable.not_not] at h36
    exact q_goto 77 dX10_handler_39 (by decide) (kok ⟨h23, fun _ => h36⟩)
set_option maxHeartbeats 8000000 in
set_option maxRecDepth 100000 in
theorem rh_cancel (t : Int32) (hn : n < 2 ^ 31) (h : Inv n I) (hd : 40 ≤ d) : VM l n m_X10_cancel d 0 [.ref 30, .int t] I L (RP (Hcancel (co I) (coL L) t) I L) noX := by
  refine VM_of _ [(0, .ref 30), (1, .int t)] rfl (fun a => Nat.le_of_ble_eq_true rfl) rfl ?_
  have hn8 := h.1
  have hct := Inv_tr h
  have hz := h.2.2.2.2.2.1.1
  have hz2 := hz.2
  have e23 : upI I 30 0 0 30 23 = I 30 23 := by simp [rdI]
  have eok : okCan (co I) t ↔ okCan I t := Iff.rfl
  have kno : ¬ okCan I t → VP l n m_X10_cancel d 0 (RP (Hcancel (co I) (coL L) t) I L) noX 0 34 [(0, .ref 30), (1, .int t)] [] (upI I 30 0 0) L := by
    intro hno
    have eH : Hcancel (co I) (coL L) t = (0, 0, co I, coL L) := by rw [Hcancel, bI_f (show ¬ okCan (co I) t from hno), if_neg (show ¬ okCan (co I) t from hno)]
    refine q_iconst (0) dX10_cancel_34 (by decide) ?_
    refine q_istore_n [(2, _), (0, _), (1, _)] dX10_cancel_35 (by decide) rfl ?_
    refine q_iload_n dX10_cancel_36 rfl ?_
    refine q_if_eq 47 dX10_cancel_37 (by decide) (fun _ => ?_) (fun q => absurd rfl q)
    refine q_iload_n dX10_cancel_47 rfl ?_
    exact q_zret dX10_cancel_48 rfl (by omega) (by decide) (RP_0 eH)
  refine q_aload_n dX10_cancel_0 rfl ?_
  refine q_iconst (0) dX10_cancel_1 (by decide) ?_
  refine q_putI 30 10 0 (is_30 n) (by decide) rfl (by decide) rfl rfl f_X10_136 rfl dX10_cancel_2 ?_
  refine q_iload_n dX10_cancel_5 rfl ?_
  refine q_i2l dX10_cancel_6 ?_
  refine q_lconst (0) dX10_cancel_7 (by decide) ?_
  refine q_aload_n dX10_cancel_8 rfl ?_
  refine q_getI 30 10 23 (is_30 n) (by decide) rfl (by decide) f_X10_196 rfl dX10_cancel_9 ?_
  refine q_iconst (1) dX10_cancel_12 (by decide) ?_
  refine q_isub dX10_cancel_13 ?_
  refine q_i2l dX10_cancel_14 ?_
  rw [e23]
  refine q_calls [.long _, .long _, .long _] o_X10_in rfl k_X10_142 rfl dX10_cancel_15 (Nat.le_of_ble_eq_true rfl) (by omega) (by decide) (by omega) (Or.inr rfl) (r_in l n (d - 1) (upI I 30 0 0) L t.toInt64 0 (I 30 23 - 1).toInt64) (fun _ _ _ h => h.elim) (fun q1 I1 L1 hq1 => ?_)
  obtain ⟨z1, z2, z3⟩ := hq1
  cases z1
  cases z2.symm
  cases z3.symm
  rw [bI_c (in_lt hz.1 (by omega))]
  refine q_if_eq 34 dX10_cancel_18 (by decide) (fun h18 => kno (fun q => by rw [bI_z] at h18; exact h18 ⟨q.1, q.2.1⟩)) (fun h18 => ?_)
  rw [bI_z, Decidable.not_not] at h18
  have hnt := is_nbt hz (by decide) h18.1 h18.2
  have hnt2 := hnt.2
  have e226 : upI I 30 0 0 226 (N t) = I 226 (N t) := by simp [rdI]
  refine q_aload_n dX10_cancel_21 rfl ?_
  refine q_getR 30 10 26 226 (is_30 n) (by decide) rfl rfl (by decide) f_X10_72 rfl dX10_cancel_22 ?_
  refine q_iload_n dX10_cancel_25 rfl ?_
  refine q_iald 226 (N t) hn (is_226 n) hnt.1 (by show _ < 400; omega) dX10_cancel_26 ?_
  rw [e226]
  refine q_if_lt 34 dX10_cancel_27 (by decide) (fun h27 => kno (fun q => absurd h27 (Int32.not_lt.mpr q.2.2))) (fun h27 => ?_)
  have hyes : okCan I t := ⟨h18.1, h18.2, Int32.not_lt.mp h27⟩
  have eH : Hcancel (co I) (coL L) t = (0, 1, upI (co I) 226 (N t) (-1), coL L) := by rw [Hcancel, bI_t (show okCan (co I) t from hyes), if_pos (show okCan (co I) t from hyes)]
  refine q_iconst (1) dX10_cancel_30 (by decide) ?_
  refine q_goto 35 dX10_cancel_31 (by decide) ?_
  refine q_istore_n [(2, _), (0, _), (1, _)] dX10_cancel_35 (by decide) rfl ?_
  refine q_iload_n dX10_cancel_36 rfl ?_
  refine q_if_eq 47 dX10_cancel_37 (by decide) (fun q => absurd q (by decide)) (fun _ => ?_)
  refine q_aload_n dX10_cancel_40 rfl ?_
  refine q_getR 30 10 26 226 (is_30 n) (by decide) rfl rfl (by decide) f_X10_72 rfl dX10_cancel_41 ?_
  refine q_iload_n dX10_cancel_44 rfl ?_
  refine q_iconst (-1) dX10_cancel_45 (by decide) ?_
  refine q_iast 226 (N t) hn (is_226 n) hnt.1 (by show _ < 400; omega) dX10_cancel_46 ?_
  refine q_iload_n dX10_cancel_47 rfl ?_
  exact q_zret dX10_cancel_48 rfl (by omega) (by decide) (RP_nc (I1 := upI I 30 0 0) eH (by simp [rdI]) (KI.rf.up (Or.inl rfl)) (nc.rf.up (core_c (by decide) (by decide))) ncL.rf (by rw [cu_226, cu_30_0]) rfl)
set_option maxHeartbeats 8000000 in
set_option maxRecDepth 100000 in
theorem rh_complete (p how v : Int32) (hn : n < 2 ^ 31) (h : Inv n I) (hK : HK I) (hb : tr I + 42300 < 2 ^ 31) (hd : 40 ≤ d) : VM l n m_X10_complete d 0 [.ref 30, .int p, .int how, .int v] I L (RP (Hcomplete (co I) (coL L) p how v) I L) noX := by
  refine VM_of _ [(0, .ref 30), (1, .int p), (2, .int how), (3, .int v)] rfl (fun a => Nat.le_of_ble_eq_true rfl) rfl ?_
  have hn8 := h.1
  have hct := Inv_tr h
  have hp := h.2.2.2.1.1
  have hp2 := hp.2
  have kbad : ¬ (isP I p ∧ 1 ≤ how ∧ how ≤ 4) → VP l n m_X10_complete d 0 (RP (Hcomplete (co I) (coL L) p how v) I L) noX 0 21 [(0, .ref 30), (1, .int p), (2, .int how), (3, .int v)] [.ref 30] I L := by
    intro hbad
    have eH : Hcomplete (co I) (coL L) p how v = (1, 0, co I, coL L) := if_neg (show ¬ (isP (co I) p ∧ 1 ≤ how ∧ how ≤ 4) from hbad)
    refine q_iconst (1) dX10_complete_21 (by decide) ?_
    refine q_goto 26 dX10_complete_22 (by decide) ?_
    refine q_iconst (0) dX10_complete_26 (by decide) ?_
    refine q_calli [.int _, .int _] o_X10_throwing rfl k_X10_159 rfl (is_30 n) (by decide) rfl dX10_complete_27 (Nat.le_of_ble_eq_true rfl) (by omega) (by decide) (by omega) (Or.inr rfl) (r_thr1 l n (d - 1) I L 0) (fun _ _ _ h => h.elim) (fun q1 I1 L1 hq1 => ?_)
    obtain ⟨z1, z2, z3⟩ := hq1
    cases z1
    subst z2
    cases z3.symm
    refine q_if_eq 35 dX10_complete_30 (by decide) (fun q => absurd q (by decide)) (fun _ => ?_)
    refine q_iconst (0) dX10_complete_33 (by decide) ?_
    exact q_zret dX10_complete_34 rfl (by omega) (by decide) (RP_0 eH)
  refine q_aload_n dX10_complete_0 rfl ?_
  refine q_aload_n dX10_complete_1 rfl ?_
  refine q_iload_n dX10_complete_2 rfl ?_
  refine q_calli [.int _] o_X10_isPromise rfl k_X10_218 rfl (is_30 n) (by decide) rfl dX10_complete_3 (Nat.le_of_ble_eq_true rfl) (by omega) (by decide) (by omega) (Or.inr rfl) (r_isPromise l n (d - 1) I L p hp.1 (by omega) (by omega)) (fun _ _ _ h => h.elim) (fun q1 I1 L1 hq1 => ?_)
  obtain ⟨z1, z2, z3⟩ := hq1
  cases z1
  cases z2.symm
  cases z3.symm
  refine q_if_eq 21 dX10_complete_6 (by decide) (fun h6 => kbad (fun q => by rw [bI_z] at h6; exact h6 q.1)) (fun h6 => ?_)
  rw [bI_z, Decidable.not_not] at h6
  refine q_iload_n dX10_complete_9 rfl ?_
  refine q_i2l dX10_complete_10 ?_
  refine q_lconst (1) dX10_complete_11 (by decide) ?_
  refine q_ldc2 n_X10_275 rfl dX10_complete_12 ?_
  refine q_calls [.long _, .long _, .long _] o_X10_in rfl k_X10_142 rfl dX10_complete_15 (Nat.le_of_ble_eq_true rfl) (by omega) (by decide) (by omega) (Or.inr rfl) (r_in l n (d - 1) I L how.toInt64 1 4) (fun _ _ _ h => h.elim) (fun q1 I1 L1 hq1 => ?_)
  obtain ⟨z1, z2, z3⟩ := hq1
  cases z1
  cases z2.symm
  cases z3.symm
  rw [bI_c (in_k how 1 4 (by decide) (by decide))]
  refine q_if_ne 25 dX10_complete_18 (by decide) (fun h18 => ?_) (fun h18 => kbad (fun q => by rw [bI_z] at h18; exact h18 q.2))
  rw [ne_eq, bI_z, Decidable.not_not] at h18
  have hnp := isP_nbt h h6
  have hnp2 := hnp.2
  have eH0 : Hcomplete (co I) (coL L) p how v = if how = 4 then (0, bI (I 229 (N p) = 0), upI (co I) 231 (N p) 1, coL L) else (0, bI (¬ noFin I (N p) how), (Lfin idD (-1) 0 0 (N p) how v (co I, coL L, 0)).1, (Lfin idD (-1) 0 0 (N p) how v (co I, coL L, 0)).2.1) := if_pos (show isP (co I) p ∧ 1 ≤ how ∧ how ≤ 4 from ⟨h6, h18⟩)
  have i1 := ho_Inv h
  refine q_iconst (0) dX10_complete_25 (by decide) ?_
  refine q_iconst (0) dX10_complete_26 (by decide) ?_
  refine q_calli [.int _, .int _] o_X10_throwing rfl k_X10_159 rfl (is_30 n) (by decide) rfl dX10_complete_27 (Nat.le_of_ble_eq_true rfl) (by omega) (by decide) (by omega) (Or.inr rfl) (r_thr0 l n (d - 1) I L) (fun _ _ _ h => h.elim) (fun q1 I1 L1 hq1 => ?_)
  obtain ⟨z1, z2, z3⟩ := hq1
  cases z1
  subst z2
  cases z3.symm
  refine q_if_eq 35 dX10_complete_30 (by decide) (fun _ => ?_) (fun q => absurd rfl q)
  refine q_aload_n dX10_complete_35 rfl ?_
  refine q_callv [] o_X10_host rfl k_X10_272 rfl (is_30 n) (by decide) rfl dX10_complete_36 (Nat.le_of_ble_eq_true rfl) (by omega) (by decide) (by omega) rfl (r_host l n (d - 1) (upI I 30 0 0) L) (fun _ _ _ h => h.elim) (fun I1 L1 hq1 => ?_)
  obtain ⟨-, z2, z3⟩ := hq1
  subst z2
  cases z3.symm
  rw [show upI (upI (upI I 30 0 0) 30 51 (-1)) 30 45 0 = Rho I from rfl]
  refine q_iload_n dX10_complete_39 rfl ?_
  refine q_iconst (4) dX10_complete_40 (by decide) ?_
  refine q_icmp_ne 61 dX10_complete_41 (by decide) (fun h41 => ?_) (fun h41 => ?_)
  · rw [if_neg h41] at eH0
    have enf : noFin (Rho I) (N p) how ↔ noFin I (N p) how := by
      unfold noFin
      rw [← co_229 (Rho I), ← co_231 (Rho I), co_ho, co_229, co_231]
    have hph : Ph (co I, coL L, 0) + 2124 < 2 ^ 31 := by simp only [Ph, tr_co]; omega
    refine q_aload_n dX10_complete_61 rfl ?_
    refine q_iload_n dX10_complete_62 rfl ?_
    refine q_iload_n dX10_complete_63 rfl ?_
    refine q_iload_n dX10_complete_64 rfl ?_
    refine VP_a3 hnp.1 ?_
    refine q_calli [.int _, .int _, .int _] o_X10_finish rfl k_X10_236 rfl (is_30 n) (by decide) rfl dX10_complete_65 (Nat.le_of_ble_eq_true rfl) (by omega) (by decide) (by omega) (Or.inr rfl) (r_finish l n (d - 1) (Rho I) L 0 (N p) how v hn (ho_45 I) (by omega) (by omega) (by omega)) (fun _ _ _ h => h.elim) (fun q1 I1 L1 hq1 => ?_)
    obtain ⟨y1, y2, y3⟩ := hq1
    cases y1
    subst y2
    cases y3.symm
    refine q_istore [(4, _), (0, _), (1, _), (2, _), (3, _)] dX10_complete_68 (by decide) rfl ?_
    refine q_iload_n dX10_complete_70 rfl ?_
    refine q_iconst (4) dX10_complete_71 (by decide) ?_
    refine q_icmp_ne 82 dX10_complete_72 (by decide) (fun _ => ?_) (fun q => absurd q h41)
    refine q_aload_n dX10_complete_82 rfl ?_
    refine q_callv [] o_X10_run rfl k_X10_263 rfl (is_30 n) (by decide) rfl dX10_complete_83 (Nat.le_of_ble_eq_true rfl) (by omega) (by decide) (by omega) rfl (r_runH (I := I) (L := L) (y := Lfin idD (-1) 0 0 (N p) how v (co I, coL L, 0)) (fun Q hE => run_fin (g := 12) (nf := 0) (fr := 0) (fun q => absurd q no_host) (fun q => absurd q no_host) hn (by omega) (by omega) (by omega) (by omega) (by omega) ho_RS (by rw [Inv_co]; exact h) (fun j => by rw [co_205]; exact hK j) hph (ho_45 I) rfl rfl (fun q => by rw [q] at h18; exact absurd h18.1 (by decide)) (by rw [co_30_27]; exact hnp2) hE)) (fun _ _ _ h => h.elim) (fun I2 L2 hq1 => ?_)
    obtain ⟨-, y2, y3, y4⟩ := hq1
    refine q_iload dX10_complete_86 rfl ?_
    rw [bI_c (not_congr enf)]
    refine q_zret dX10_complete_88 rfl (by omega) bI_nar ?_
    rw [eH0]
    exact ⟨rfl, y3.2.2.trans (ho_0 I), ⟨y2.1.1, y2.1.2⟩, (ho_K I).tns y3.2.1, y4⟩
  · rw [if_pos h41] at eH0
    have e229 : Rho I 229 (N p) = I 229 (N p) := by rw [← co_229 (Rho I), co_ho, co_229]
    have kend : ∀ b, b = bI (I 229 (N p) = 0) → VP l n m_X10_complete d 0 (RP (Hcomplete (co I) (coL L) p how v) I L) noX 0 68 [(0, .ref 30), (1, .int p), (2, .int how), (3, .int v)] [.int b] (Rho I) L := by
      intro b hb9
      refine q_istore [(4, _), (0, _), (1, _), (2, _), (3, _)] dX10_complete_68 (by decide) rfl ?_
      refine q_iload_n dX10_complete_70 rfl ?_
      refine q_iconst (4) dX10_complete_71 (by decide) ?_
      refine q_icmp_ne 82 dX10_complete_72 (by decide) (fun q => absurd h41 q) (fun _ => ?_)
      refine q_aload_n dX10_complete_75 rfl ?_
      refine q_getR 30 10 31 231 (is_30 n) (by decide) rfl rfl (by decide) f_X10_84 rfl dX10_complete_76 ?_
      refine q_iload_n dX10_complete_79 rfl ?_
      refine q_iconst (1) dX10_complete_80 (by decide) ?_
      refine q_zast 231 (N p) hn (is_231 n) hnp.1 (by show _ < 32; omega) (by decide) dX10_complete_81 ?_
      refine q_aload_n dX10_complete_82 rfl ?_
      refine q_callv [] o_X10_run rfl k_X10_263 rfl (is_30 n) (by decide) rfl dX10_complete_83 (Nat.le_of_ble_eq_true rfl) (by omega) (by decide) (by omega) rfl (r_run0 (I1 := upI (Rho I) 231 (N p) 1) (by rw [rdI, if_neg (fun q => absurd q.1 (by decide))]; exact ho_45 I)) (fun _ _ _ h => h.elim) (fun I2 L2 hq1 => ?_)
      obtain ⟨-, y2, y3⟩ := hq1
      subst y2
      cases y3.symm
      refine q_iload dX10_complete_86 rfl ?_
      rw [hb9]
      exact q_zret dX10_complete_88 rfl (by omega) bI_nar (RP_nc (I1 := Rho I) eH0 (ho_0 I) (ho_K I) (nc.rf.up (core_c (by decide) (by decide))) ncL.rf (by rw [cu_231, co_ho]) rfl)
    refine q_aload_n dX10_complete_44 rfl ?_
    refine q_getR 30 10 29 229 (is_30 n) (by decide) rfl rfl (by decide) f_X10_78 rfl dX10_complete_45 ?_
    refine q_iload_n dX10_complete_48 rfl ?_
    refine q_iald 229 (N p) hn (is_229 n) hnp.1 (by show _ < 32; omega) dX10_complete_49 ?_
    rw [e229]
    refine q_if_ne 57 dX10_complete_50 (by decide) (fun h50 => ?_) (fun h50 => ?_)
    · refine q_iconst (0) dX10_complete_57 (by decide) ?_
      exact q_goto 68 dX10_complete_58 (by decide) (kend _ (by rw [bI_f h50]))
    · refine q_iconst (1) dX10_complete_53 (by decide) ?_
      exact q_goto 68 dX10_complete_54 (by decide) (kend _ (by rw [bI_t h50]))
set_option maxHeartbeats 8000000 in
set_option maxRecDepth 100000 in
theorem rh_listen (p t : Int32) (hn : n < 2 ^ 31) (h : Inv n I) (hK : HK I) (hb : tr I + 42300 < 2 ^ 31) (hd : 40 ≤ d) : VM l n m_X10_listen d 0 [.ref 30, .int p, .int t] I L (RPv (Hlisten (co I) (coL L) p t) I L) noX := by
  refine VM_of _ [(0, .ref 30), (1, .int p), (2, .int t)] rfl (fun a => Nat.le_of_ble_eq_true rfl) rfl ?_
  have hn8 := h.1
  have hct := Inv_tr h
  have hp := h.2.2.2.1.1
  have hp2 := hp.2
  have ht := h.2.2.1.1
  have ht2 := ht.2
  have kbad : ¬ (isP I p ∧ isT I t ∧ (I 229 (N p) ≠ 0 ∨ I 232 (N p) < 6)) → VP l n m_X10_listen d 0 (RPv (Hlisten (co I) (coL L) p t) I L) noX 0 37 [(0, .ref 30), (1, .int p), (2, .int t)] [.ref 30] I L := by
    intro hbad
    have eH : Hlisten (co I) (coL L) p t = (1, 0, co I, coL L) := if_neg (show ¬ (isP (co I) p ∧ isT (co I) t ∧ (co I 229 (N p) ≠ 0 ∨ co I 232 (N p) < 6)) from hbad)
    refine q_iconst (1) dX10_listen_37 (by decide) ?_
    refine q_goto 42 dX10_listen_38 (by decide) ?_
    refine q_iconst (0) dX10_listen_42 (by decide) ?_
    refine q_calli [.int _, .int _] o_X10_throwing rfl k_X10_159 rfl (is_30 n) (by decide) rfl dX10_listen_43 (Nat.le_of_ble_eq_true rfl) (by omega) (by decide) (by omega) (Or.inr rfl) (r_thr1 l n (d - 1) I L 0) (fun _ _ _ h => h.elim) (fun q1 I1 L1 hq1 => ?_)
    obtain ⟨z1, z2, z3⟩ := hq1
    cases z1
    subst z2
    cases z3.symm
    refine q_if_eq 50 dX10_listen_46 (by decide) (fun q => absurd q (by decide)) (fun _ => ?_)
    exact q_vret dX10_listen_49 rfl (by omega) (RPv_0 eH)
  have kok : isP I p → isT I t → (I 229 (N p) ≠ 0 ∨ I 232 (N p) < 6) → VP l n m_X10_listen d 0 (RPv (Hlisten (co I) (coL L) p t) I L) noX 0 41 [(0, .ref 30), (1, .int p), (2, .int t)] [.ref 30] I L := by
    intro g1 g2 g3
    have eH : Hlisten (co I) (coL L) p t = (0, 0, (Llis idD (-1) 0 0 (N p) (N t) (co I, coL L, 0)).1, (Llis idD (-1) 0 0 (N p) (N t) (co I, coL L, 0)).2.1) := if_pos (show isP (co I) p ∧ isT (co I) t ∧ (co I 229 (N p) ≠ 0 ∨ co I 232 (N p) < 6) from ⟨g1, g2, g3⟩)
    have hnp := isP_nbt h g1
    have hnp2 := hnp.2
    have hnt := isT_nbt h g2
    have i1 := ho_Inv h
    have e27 : Rho I 30 27 = I 30 27 := by rw [← co_30_27 (Rho I), co_ho, co_30_27]
    have e229 : Rho I 229 (N p) = I 229 (N p) := by rw [← co_229 (Rho I), co_ho, co_229]
    have e232 : Rho I 232 (N p) = I 232 (N p) := by rw [← co_232 (Rho I), co_ho, co_232]
    obtain ⟨p1, p2, p3⟩ := i1.2.2.2.1.2 (N p) (by rw [e27]; exact hnp2)
    have hph : Ph (co I, coL L, 0) + 2110 < 2 ^ 31 := by simp only [Ph, tr_co]; omega
    refine q_iconst (0) dX10_listen_41 (by decide) ?_
    refine q_iconst (0) dX10_listen_42 (by decide) ?_
    refine q_calli [.int _, .int _] o_X10_throwing rfl k_X10_159 rfl (is_30 n) (by decide) rfl dX10_listen_43 (Nat.le_of_ble_eq_true rfl) (by omega) (by decide) (by omega) (Or.inr rfl) (r_thr0 l n (d - 1) I L) (fun _ _ _ h => h.elim) (fun q1 I1 L1 hq1 => ?_)
    obtain ⟨z1, z2, z3⟩ := hq1
    cases z1
    subst z2
    cases z3.symm
    refine q_if_eq 50 dX10_listen_46 (by decide) (fun _ => ?_) (fun q => absurd rfl q)
    refine q_aload_n dX10_listen_50 rfl ?_
    refine q_callv [] o_X10_host rfl k_X10_272 rfl (is_30 n) (by decide) rfl dX10_listen_51 (Nat.le_of_ble_eq_true rfl) (by omega) (by decide) (by omega) rfl (r_host l n (d - 1) (upI I 30 0 0) L) (fun _ _ _ h => h.elim) (fun I1 L1 hq1 => ?_)
    obtain ⟨-, z2, z3⟩ := hq1
    subst z2
    cases z3.symm
    rw [show upI (upI (upI I 30 0 0) 30 51 (-1)) 30 45 0 = Rho I from rfl]
    refine q_aload_n dX10_listen_54 rfl ?_
    refine q_iload_n dX10_listen_55 rfl ?_
    refine q_iload_n dX10_listen_56 rfl ?_
    refine VP_top0 hnt.1 (VP_top1 hnp.1 ?_)
    refine q_callv [.int _, .int _] o_X10_listenAt rfl k_X10_239 rfl (is_30 n) (by decide) rfl dX10_listen_57 (Nat.le_of_ble_eq_true rfl) (by omega) (by decide) (by omega) rfl (r_listenAt l n (d - 1) (Rho I) L 0 (N p) (N t) hn hn8.2 (ho_45 I) (by omega) (by omega) p1 ((i1.2.2.2.2.2.2.1 _ p1.2).1.1) p2 (by rw [e229, e232]; exact g3) (Inv_tr i1) (by rw [ho_tr]; omega) (by omega)) (fun _ _ _ h => h.elim) (fun I1 L1 hq1 => ?_)
    obtain ⟨-, y2, y3⟩ := hq1
    subst y2
    cases y3.symm
    refine q_aload_n dX10_listen_60 rfl ?_
    refine q_callv [] o_X10_run rfl k_X10_263 rfl (is_30 n) (by decide) rfl dX10_listen_61 (Nat.le_of_ble_eq_true rfl) (by omega) (by decide) (by omega) rfl (r_runH (I := I) (L := L) (y := Llis idD (-1) 0 0 (N p) (N t) (co I, coL L, 0)) (fun Q hE => run_lis (g := 12) (nf := 0) (fr := 0) (fun q => absurd q no_host) hn (by omega) (by omega) (by omega) (by omega) (fun q => absurd q no_host) (by omega) ho_RS (by rw [Inv_co]; exact h) (fun j => by rw [co_205]; exact hK j) hph (ho_45 I) rfl rfl (by rw [co_30_27]; exact hnp2) (by rw [co_30_3]; exact hnt.2) hE)) (fun _ _ _ h => h.elim) (fun I2 L2 hq1 => ?_)
    obtain ⟨-, y2, y3, y4⟩ := hq1
    refine q_vret dX10_listen_64 rfl (by omega) ?_
    rw [eH]
    exact ⟨rfl, y3.2.2.trans (ho_0 I), ⟨y2.1.1, y2.1.2⟩, (ho_K I).tns y3.2.1, y4⟩
  refine q_aload_n dX10_listen_0 rfl ?_
  refine q_aload_n dX10_listen_1 rfl ?_
  refine q_iload_n dX10_listen_2 rfl ?_
  refine q_calli [.int _] o_X10_isPromise rfl k_X10_218 rfl (is_30 n) (by decide) rfl dX10_listen_3 (Nat.le_of_ble_eq_true rfl) (by omega) (by decide) (by omega) (Or.inr rfl) (r_isPromise l n (d - 1) I L p hp.1 (by omega) (by omega)) (fun _ _ _ h => h.elim) (fun q1 I1 L1 hq1 => ?_)
  obtain ⟨z1, z2, z3⟩ := hq1
  cases z1
  cases z2.symm
  cases z3.symm
  refine q_if_eq 37 dX10_listen_6 (by decide) (fun h6 => kbad (fun q => by rw [bI_z] at h6; exact h6 q.1)) (fun h6 => ?_)
  rw [bI_z, Decidable.not_not] at h6
  have hnp := isP_nbt h h6
  have hnp2 := hnp.2
  refine q_aload_n dX10_listen_9 rfl ?_
  refine q_iload_n dX10_listen_10 rfl ?_
  refine q_calli [.int _] o_X10_isTask rfl k_X10_163 rfl (is_30 n) (by decide) rfl dX10_listen_11 (Nat.le_of_ble_eq_true rfl) (by omega) (by decide) (by omega) (Or.inr rfl) (r_isTask l n (d - 1) I L t ht.1 (by omega) (by omega)) (fun _ _ _ h => h.elim) (fun q1 I1 L1 hq1 => ?_)
  obtain ⟨z1, z2, z3⟩ := hq1
  cases z1
  cases z2.symm
  cases z3.symm
  refine q_if_eq 37 dX10_listen_14 (by decide) (fun h14 => kbad (fun q => by rw [bI_z] at h14; exact h14 q.2.1)) (fun h14 => ?_)
  rw [bI_z, Decidable.not_not] at h14
  refine q_aload_n dX10_listen_17 rfl ?_
  refine q_getR 30 10 29 229 (is_30 n) (by decide) rfl rfl (by decide) f_X10_78 rfl dX10_listen_18 ?_
  refine q_iload_n dX10_listen_21 rfl ?_
  refine q_iald 229 (N p) hn (is_229 n) hnp.1 (by show _ < 32; omega) dX10_listen_22 ?_
  refine q_if_ne 41 dX10_listen_23 (by decide) (fun h23 => kok h6 h14 (Or.inl h23)) (fun h23 => ?_)
  have hw := (h.2.2.2.1.2 (N p) hnp2).2.1
  refine q_aload_n dX10_listen_26 rfl ?_
  refine q_getR 30 10 32 232 (is_30 n) (by decide) rfl rfl (by decide) f_X10_87 rfl dX10_listen_27 ?_
  refine q_iload_n dX10_listen_30 rfl ?_
  refine q_iald 232 (N p) hn (is_232 n) hnp.1 (by show _ < 32; omega) dX10_listen_31 ?_
  refine q_bipush (6) dX10_listen_32 (by decide) ?_
  refine q_icmp_ne 41 dX10_listen_34 (by decide) (fun h34 => kok h6 h14 (Or.inr ((nb_iff hw (by decide)).mpr h34))) (fun h34 => kbad (fun q => q.2.2.elim (fun z => z h23) (fun z => nlt_ne (b := 6) z h34)))
set_option maxHeartbeats 8000000 in
set_option maxRecDepth 100000 in
theorem rh_fire (c m : Int32) (hn : n < 2 ^ 31) (h : Inv n I) (hb : tr I + 42300 < 2 ^ 31) (hd : 40 ≤ d) : VM l n m_X10_fire d 0 [.ref 30, .int c, .int m] I L (RPv (Hfire (co I) (coL L) c m) I L) noX := by
  refine VM_of _ [(0, .ref 30), (1, .int c), (2, .int m)] rfl (fun a => Nat.le_of_ble_eq_true rfl) rfl ?_
  have hn8 := h.1
  have hct := Inv_tr h
  have hp := h.2.2.2.2.1.1
  have hp2 := hp.2
  refine q_aload_n dX10_fire_0 rfl ?_
  refine q_aload_n dX10_fire_1 rfl ?_
  refine q_iload_n dX10_fire_2 rfl ?_
  refine q_calli [.int _] o_X10_isChannel rfl k_X10_172 rfl (is_30 n) (by decide) rfl dX10_fire_3 (Nat.le_of_ble_eq_true rfl) (by omega) (by decide) (by omega) (Or.inr rfl) (r_isChannel l n (d - 1) I L c hp.1 (by omega) (by omega)) (fun _ _ _ h => h.elim) (fun q1 I1 L1 hq1 => ?_)
  obtain ⟨z1, z2, z3⟩ := hq1
  cases z1
  cases z2.symm
  cases z3.symm
  refine q_if_ne 13 dX10_fire_6 (by decide) (fun h6 => ?_) (fun h6 => ?_)
  · rw [ne_eq, bI_z, Decidable.not_not] at h6
    have hnc := isC_nbt h h6
    have hnc2 := hnc.2
    have i1 := ho_Inv h
    have e34 : Rho I 30 34 = I 30 34 := by rw [← co_30_34 (Rho I), co_ho, co_30_34]
    have e235 : Rho I 235 (N c) = I 235 (N c) := by rw [← co_235 (Rho I), co_ho, co_235]
    obtain ⟨p1, p2, p3⟩ := i1.2.2.2.2.1.2.2 (N c) (by rw [e34]; exact hnc2)
    have eH0 : Hfire (co I) (coL L) c m = if rej (co I) (N (I 235 (N c))) then (2, 0, Fput (co I) (-1) (N (I 235 (N c))) 2 c m (-1), coL L) else (0, 0, Fput (co I) (-1) (N (I 235 (N c))) 2 c m (-1), coL L) := if_pos (show isC (co I) c from h6)
    have hne : ¬ (Rho I 235 (N c) = Rho I 30 51 ∧ Rcnt (Rho I) 4 0 < 4) := fun q => no_host (n := n) (by have := p1; rw [q.1, ho_51] at this; exact this)
    have erej : rej (Rho I) (N (Rho I 235 (N c))) ↔ rej (co I) (N (I 235 (N c))) := by
      unfold rej
      rw [e235, ← co_208 (Rho I), ← co_209 (Rho I), co_ho]
    refine q_iconst (0) dX10_fire_13 (by decide) ?_
    refine q_iconst (0) dX10_fire_14 (by decide) ?_
    refine q_calli [.int _, .int _] o_X10_throwing rfl k_X10_159 rfl (is_30 n) (by decide) rfl dX10_fire_15 (Nat.le_of_ble_eq_true rfl) (by omega) (by decide) (by omega) (Or.inr rfl) (r_thr0 l n (d - 1) I L) (fun _ _ _ h => h.elim) (fun q1 I1 L1 hq1 => ?_)
    obtain ⟨z1, z2, z3⟩ := hq1
    cases z1
    subst z2
    cases z3.symm
    refine q_if_eq 22 dX10_fire_18 (by decide) (fun _ => ?_) (fun q => absurd rfl q)
    refine q_aload_n dX10_fire_22 rfl ?_
    refine q_callv [] o_X10_host rfl k_X10_272 rfl (is_30 n) (by decide) rfl dX10_fire_23 (Nat.le_of_ble_eq_true rfl) (by omega) (by decide) (by omega) rfl (r_host l n (d - 1) (upI I 30 0 0) L) (fun _ _ _ h => h.elim) (fun I1 L1 hq1 => ?_)
    obtain ⟨-, z2, z3⟩ := hq1
    subst z2
    cases z3.symm
    rw [show upI (upI (upI I 30 0 0) 30 51 (-1)) 30 45 0 = Rho I from rfl]
    refine q_aload_n dX10_fire_26 rfl ?_
    refine q_iconst (0) dX10_fire_27 (by decide) ?_
    refine q_aload_n dX10_fire_28 rfl ?_
    refine q_iload_n dX10_fire_29 rfl ?_
    refine q_iload_n dX10_fire_30 rfl ?_
    refine VP_top1 hnc.1 ?_
    refine q_calli [.int _, .int _] o_X10_send rfl k_X10_246 rfl (is_30 n) (by decide) rfl dX10_fire_31 (Nat.le_of_ble_eq_true rfl) (by omega) (by decide) (by omega) (Or.inr rfl) (r_send l n (d - 1) (Rho I) L 0 (N c) m hn hn8.2 (ho_45 I) (by omega) (by omega) p1 ((i1.2.2.2.2.2.2.1 _ p1.2).1.1) (Inv_tr i1) (by rw [ho_tr]; omega) (by omega)) (fun _ _ _ h => h.elim) (fun q1 I1 L1 hq1 => ?_)
    obtain ⟨y1, y2, y3⟩ := hq1
    cases y1
    cases y3.symm
    rw [Rsend, if_neg hne, ho_51, ← hnc.1] at y2
    have hncc : nc (Rho I) I1 := by rw [y2]; exact nc_put _ _ _ _ _ _ _
    have hco1 : co I1 = Fput (co I) (-1) (N (I 235 (N c))) 2 c m (-1) := by rw [y2, co_put, co_ho, e235]
    rw [if_neg hne]
    by_cases hr : rej (co I) (N (I 235 (N c)))
    · rw [if_pos hr] at eH0
      rw [bI_f (fun q => q (erej.mpr hr))]
      refine q_if_ne 41 dX10_fire_34 (by decide) (fun q => absurd rfl q) (fun _ => ?_)
      refine q_iconst (1) dX10_fire_37 (by decide) ?_
      refine q_goto 42 dX10_fire_38 (by decide) ?_
      refine q_calli [.int _, .int _] o_X10_throwing rfl k_X10_159 rfl (is_30 n) (by decide) rfl dX10_fire_42 (Nat.le_of_ble_eq_true rfl) (by omega) (by decide) (by omega) (Or.inr rfl) (r_thr2 l n (d - 1) I1 L) (fun _ _ _ h => h.elim) (fun q1 I2 L2 hq1 => ?_)
      obtain ⟨z1, z2, z3⟩ := hq1
      cases z1
      subst z2
      cases z3.symm
      refine q_pop dX10_fire_45 rfl ?_
      exact q_vret dX10_fire_46 rfl (by omega) (RPv_nc eH0 (if_pos ⟨rfl, rfl⟩) (((ho_K I).tns (KI.nc hncc)).up (Or.inl rfl)) nc.rf ncL.rf (by rw [cu_30_0, hco1]) rfl)
    · rw [if_neg hr] at eH0
      rw [bI_t (show ¬ rej (Rho I) (N (Rho I 235 (N c))) from fun q => hr (erej.mp q))]
      refine q_if_ne 41 dX10_fire_34 (by decide) (fun _ => ?_) (fun q => absurd q (by decide))
      refine q_iconst (0) dX10_fire_41 (by decide) ?_
      refine q_calli [.int _, .int _] o_X10_throwing rfl k_X10_159 rfl (is_30 n) (by decide) rfl dX10_fire_42 (Nat.le_of_ble_eq_true rfl) (by omega) (by decide) (by omega) (Or.inr rfl) (r_thr0 l n (d - 1) I1 L) (fun _ _ _ h => h.elim) (fun q1 I2 L2 hq1 => ?_)
      obtain ⟨z1, z2, z3⟩ := hq1
      cases z1
      subst z2
      cases z3.symm
      refine q_pop dX10_fire_45 rfl ?_
      exact q_vret dX10_fire_46 rfl (by omega) (RPv_nc eH0 (if_pos ⟨rfl, rfl⟩) (((ho_K I).tns (KI.nc hncc)).up (Or.inl rfl)) nc.rf ncL.rf (by rw [cu_30_0, hco1]) rfl)
  · rw [bI_z] at h6
    have eH : Hfire (co I) (coL L) c m = (1, 0, co I, coL L) := if_neg (show ¬ isC (co I) c from h6)
    refine q_iconst (1) dX10_fire_9 (by decide) ?_
    refine q_goto 14 dX10_fire_10 (by decide) ?_
    refine q_iconst (0) dX10_fire_14 (by decide) ?_
    refine q_calli [.int _, .int _] o_X10_throwing rfl k_X10_159 rfl (is_30 n) (by decide) rfl dX10_fire_15 (Nat.le_of_ble_eq_true rfl) (by omega) (by decide) (by omega) (Or.inr rfl) (r_thr1 l n (d - 1) I L 0) (fun _ _ _ h => h.elim) (fun q1 I1 L1 hq1 => ?_)
    obtain ⟨z1, z2, z3⟩ := hq1
    cases z1
    subst z2
    cases z3.symm
    refine q_if_eq 22 dX10_fire_18 (by decide) (fun q => absurd q (by decide)) (fun _ => ?_)
    exact q_vret dX10_fire_21 rfl (by omega) (RPv_0 eH)
set_option maxHeartbeats 8000000 in
set_option maxRecDepth 100000 in
theorem rh_shutdown (q t : Int32) (hn : n < 2 ^ 31) (h : Inv n I) (hb : tr I + 42300 < 2 ^ 31) (hd : 40 ≤ d) : VM l n m_X10_shutdown d 0 [.ref 30, .int q, .int t] I L (RPv (Hshutdown n (co I) (coL L) q t) I L) noX := by
  refine VM_of _ [(0, .ref 30), (1, .int q), (2, .int t)] rfl (fun a => Nat.le_of_ble_eq_true rfl) rfl ?_
  have hn8 := h.1
  have hct := Inv_tr h
  have kbad : ¬ (0 ≤ q ∧ q ≤ t) → VP l n m_X10_shutdown d 0 (RPv (Hshutdown n (co I) (coL L) q t) I L) noX 0 10 [(0, .ref 30), (1, .int q), (2, .int t)] [.ref 30] I L := by
    intro hbad
    have eH : Hshutdown n (co I) (coL L) q t = (1, 0, co I, coL L) := if_neg hbad
    refine q_iconst (1) dX10_shutdown_10 (by decide) ?_
    refine q_goto 15 dX10_shutdown_11 (by decide) ?_
    refine q_iconst (0) dX10_shutdown_15 (by decide) ?_
    refine q_calli [.int _, .int _] o_X10_throwing rfl k_X10_159 rfl (is_30 n) (by decide) rfl dX10_shutdown_16 (Nat.le_of_ble_eq_true rfl) (by omega) (by decide) (by omega) (Or.inr rfl) (r_thr1 l n (d - 1) I L 0) (fun _ _ _ h => h.elim) (fun q1 I1 L1 hq1 => ?_)
    obtain ⟨z1, z2, z3⟩ := hq1
    cases z1
    subst z2
    cases z3.symm
    refine q_if_eq 23 dX10_shutdown_19 (by decide) (fun q => absurd q (by decide)) (fun _ => ?_)
    exact q_vret dX10_shutdown_22 rfl (by omega) (RPv_0 eH)
  refine q_aload_n dX10_shutdown_0 rfl ?_
  refine q_iload_n dX10_shutdown_1 rfl ?_
  refine q_if_lt 10 dX10_shutdown_2 (by decide) (fun h2 => kbad (fun z => absurd h2 (Int32.not_lt.mpr z.1))) (fun h2 => ?_)
  refine q_iload_n dX10_shutdown_5 rfl ?_
  refine q_iload_n dX10_shutdown_6 rfl ?_
  refine q_icmp_ge 14 dX10_shutdown_7 (by decide) (fun h7 => ?_) (fun h7 => kbad (fun z => h7 z.2))
  have eH : Hshutdown n (co I) (coL L) q t = (0, 0, Fshut (co I) n, TShut (co I) (coL L) q.toInt64 t.toInt64 n) := if_pos ⟨Int32.not_lt.mp h2, h7⟩
  have i1 := ho_Inv h
  refine q_iconst (0) dX10_shutdown_14 (by decide) ?_
  refine q_iconst (0) dX10_shutdown_15 (by decide) ?_
  refine q_calli [.int _, .int _] o_X10_throwing rfl k_X10_159 rfl (is_30 n) (by decide) rfl dX10_shutdown_16 (Nat.le_of_ble_eq_true rfl) (by omega) (by decide) (by omega) (Or.inr rfl) (r_thr0 l n (d - 1) I L) (fun _ _ _ h => h.elim) (fun q1 I1 L1 hq1 => ?_)
  obtain ⟨z1, z2, z3⟩ := hq1
  cases z1
  subst z2
  cases z3.symm
  refine q_if_eq 23 dX10_shutdown_19 (by decide) (fun _ => ?_) (fun q => absurd rfl q)
  refine q_aload_n dX10_shutdown_23 rfl ?_
  refine q_callv [] o_X10_host rfl k_X10_272 rfl (is_30 n) (by decide) rfl dX10_shutdown_24 (Nat.le_of_ble_eq_true rfl) (by omega) (by decide) (by omega) rfl (r_host l n (d - 1) (upI I 30 0 0) L) (fun _ _ _ h => h.elim) (fun I1 L1 hq1 => ?_)
  obtain ⟨-, z2, z3⟩ := hq1
  subst z2
  cases z3.symm
  rw [show upI (upI (upI I 30 0 0) 30 51 (-1)) 30 45 0 = Rho I from rfl]
  refine q_aload_n dX10_shutdown_27 rfl ?_
  refine q_iload_n dX10_shutdown_28 rfl ?_
  refine q_iload_n dX10_shutdown_29 rfl ?_
  refine q_callv [.int _, .int _] o_X10_shut rfl k_X10_250 rfl (is_30 n) (by decide) rfl dX10_shutdown_30 (Nat.le_of_ble_eq_true rfl) (by omega) (by decide) (by omega) rfl (r_shut l n (d - 1) (Rho I) L q t hn hn8.2 i1.2.1 (by omega) (fun j hj => by have g := gc_shut (T := L) (T' := L) (w := 0) i1 (by omega) (by rw [ho_tr]; omega) j hj; have g2 := g.2; simp only [Ph, ho_tr] at g2; exact ⟨Inv_tr g.1.1, by omega⟩)) (fun _ _ _ h => h.elim) (fun I1 L1 hq1 => ?_)
  obtain ⟨-, y2, y3⟩ := hq1
  subst y2
  subst y3
  exact q_vret dX10_shutdown_33 rfl (by omega) (RPv_nc eH (ho_0 I) (ho_K I) (nc_shut _ _) (ncL_shut _ _ _ _ _) (by rw [co_shut, co_ho]) (by rw [coL_shut, co_ho]))
set_option maxHeartbeats 8000000 in
set_option maxRecDepth 100000 in
theorem rh_loop (x what : Int32) (hn : n < 2 ^ 31) (h : Inv n I) (hd : 40 ≤ d) : VM l n m_X10_loop d 0 [.ref 30, .int x, .int what] I L (RP (Hloop n (co I) (coL L) x what) I L) noX := by
  refine VM_of _ [(0, .ref 30), (1, .int x), (2, .int what)] rfl (fun a => Nat.le_of_ble_eq_true rfl) rfl ?_
  have hn8 := h.1
  have hct := Inv_tr h
  have kbad : ¬ (isL n x ∧ 0 ≤ what ∧ what ≤ 4) → VP l n m_X10_loop d 0 (RP (Hloop n (co I) (coL L) x what) I L) noX 0 21 [(0, .ref 30), (1, .int x), (2, .int what)] [.ref 30] I L := by
    intro hbad
    have eH : Hloop n (co I) (coL L) x what = (1, 0, co I, coL L) := if_neg hbad
    refine q_iconst (1) dX10_loop_21 (by decide) ?_
    refine q_goto 26 dX10_loop_22 (by decide) ?_
    refine q_iconst (0) dX10_loop_26 (by decide) ?_
    refine q_calli [.int _, .int _] o_X10_throwing rfl k_X10_159 rfl (is_30 n) (by decide) rfl dX10_loop_27 (Nat.le_of_ble_eq_true rfl) (by omega) (by decide) (by omega) (Or.inr rfl) (r_thr1 l n (d - 1) I L 0) (fun _ _ _ h => h.elim) (fun q1 I1 L1 hq1 => ?_)
    obtain ⟨z1, z2, z3⟩ := hq1
    cases z1
    subst z2
    cases z3.symm
    refine q_if_eq 35 dX10_loop_30 (by decide) (fun q => absurd q (by decide)) (fun _ => ?_)
    refine q_iconst (0) dX10_loop_33 (by decide) ?_
    exact q_iret dX10_loop_34 rfl (by omega) (RP_0 eH)
  refine q_aload_n dX10_loop_0 rfl ?_
  refine q_aload_n dX10_loop_1 rfl ?_
  refine q_iload_n dX10_loop_2 rfl ?_
  refine q_calli [.int _] o_X10_isLoop rfl k_X10_169 rfl (is_30 n) (by decide) rfl dX10_loop_3 (Nat.le_of_ble_eq_true rfl) (by omega) (by decide) (by omega) (Or.inr rfl) (r_isLoop l n (d - 1) I L x hn h.2.1 (by omega)) (fun _ _ _ h => h.elim) (fun q1 I1 L1 hq1 => ?_)
  obtain ⟨z1, z2, z3⟩ := hq1
  cases z1
  cases z2.symm
  cases z3.symm
  refine q_if_eq 21 dX10_loop_6 (by decide) (fun h6 => kbad (fun q => by rw [bI_z] at h6; exact h6 q.1)) (fun h6 => ?_)
  rw [bI_z, Decidable.not_not] at h6
  refine q_iload_n dX10_loop_9 rfl ?_
  refine q_i2l dX10_loop_10 ?_
  refine q_lconst (0) dX10_loop_11 (by decide) ?_
  refine q_ldc2 n_X10_275 rfl dX10_loop_12 ?_
  refine q_calls [.long _, .long _, .long _] o_X10_in rfl k_X10_142 rfl dX10_loop_15 (Nat.le_of_ble_eq_true rfl) (by omega) (by decide) (by omega) (Or.inr rfl) (r_in l n (d - 1) I L what.toInt64 0 4) (fun _ _ _ h => h.elim) (fun q1 I1 L1 hq1 => ?_)
  obtain ⟨z1, z2, z3⟩ := hq1
  cases z1
  cases z2.symm
  cases z3.symm
  rw [bI_c (in_k what 0 4 (by decide) (by decide))]
  refine q_if_ne 25 dX10_loop_18 (by decide) (fun h18 => ?_) (fun h18 => kbad (fun q => by rw [bI_z] at h18; exact h18 q.2))
  rw [ne_eq, bI_z, Decidable.not_not] at h18
  have hnx := isL_nbt hn8.2 h6
  have hnx2 := hnx.2
  have hvb := (h.2.2.2.2.2.2.1 (N x) hnx2).2.1
  have eH : ∀ r, (if what = 0 then I 208 (N x) else if what = 1 then I 209 (N x) else if what = 2 then nI (Fcnt I (N x) (N (I 30 23))) else if what = 3 then bI (I 214 (N x) ≠ 0) else I 210 (N x)) = r → Hloop n (co I) (coL L) x what = (0, r, co I, coL L) := fun r e => by
    rw [Hloop, if_pos ⟨h6, h18⟩, Fcnt_co, co_208, co_209, co_210, co_30_23, ← e]
    rfl
  have f208 : upI I 30 0 0 208 (N x) = I 208 (N x) := by simp [rdI]
  have f209 : upI I 30 0 0 209 (N x) = I 209 (N x) := by simp [rdI]
  have f210 : upI I 30 0 0 210 (N x) = I 210 (N x) := by simp [rdI]
  have f214 : upI I 30 0 0 214 (N x) = I 214 (N x) := by simp [rdI]
  refine q_iconst (0) dX10_loop_25 (by decide) ?_
  refine q_iconst (0) dX10_loop_26 (by decide) ?_
  refine q_calli [.int _, .int _] o_X10_throwing rfl k_X10_159 rfl (is_30 n) (by decide) rfl dX10_loop_27 (Nat.le_of_ble_eq_true rfl) (by omega) (by decide) (by omega) (Or.inr rfl) (r_thr0 l n (d - 1) I L) (fun _ _ _ h => h.elim) (fun q1 I1 L1 hq1 => ?_)
  obtain ⟨z1, z2, z3⟩ := hq1
  cases z1
  subst z2
  cases z3.symm
  refine q_if_eq 35 dX10_loop_30 (by decide) (fun _ => ?_) (fun q => absurd rfl q)
  refine q_iload_n dX10_loop_35 rfl ?_
  refine q_if_ne 48 dX10_loop_36 (by decide) (fun h36 => ?_) (fun h36 => ?_)
  · refine q_iload_n dX10_loop_48 rfl ?_
    refine q_iconst (1) dX10_loop_49 (by decide) ?_
    refine q_icmp_ne 62 dX10_loop_50 (by decide) (fun h50 => ?_) (fun h50 => ?_)
    · refine q_iload_n dX10_loop_62 rfl ?_
      refine q_iconst (2) dX10_loop_63 (by decide) ?_
      refine q_icmp_ne 75 dX10_loop_64 (by decide) (fun h64 => ?_) (fun h64 => ?_)
      · refine q_iload_n dX10_loop_75 rfl ?_
        refine q_iconst (3) dX10_loop_76 (by decide) ?_
        refine q_icmp_ne 97 dX10_loop_77 (by decide) (fun h77 => ?_) (fun h77 => ?_)
        · refine q_aload_n dX10_loop_97 rfl ?_
          refine q_getR 30 10 10 210 (is_30 n) (by decide) rfl rfl (by decide) f_X10_28 rfl dX10_loop_98 ?_
          refine q_iload_n dX10_loop_101 rfl ?_
          refine q_iald 210 (N x) hn (is_210 n) hnx.1 (by show _ < 8; omega) dX10_loop_102 ?_
          rw [f210]
          exact q_iret dX10_loop_103 rfl (by omega) (RP_0 (eH _ (by rw [if_neg h36, if_neg h50, if_neg h64, if_neg h77])))
        · refine q_aload_n dX10_loop_80 rfl ?_
          refine q_getR 30 10 14 214 (is_30 n) (by decide) rfl rfl (by decide) f_X10_40 rfl dX10_loop_81 ?_
          refine q_iload_n dX10_loop_84 rfl ?_
          refine q_zald 214 (N x) hn (is_214 n) hnx.1 (by show _ < 8; omega) dX10_loop_85 ?_
          rw [f214]
          refine q_if_eq 93 dX10_loop_86 (by decide) (fun h86 => ?_) (fun h86 => ?_)
          · refine q_iconst (0) dX10_loop_93 (by decide) ?_
            refine q_goto 103 dX10_loop_94 (by decide) ?_
            exact q_iret dX10_loop_103 rfl (by omega) (RP_0 (eH _ (by rw [if_neg h36, if_neg h50, if_neg h64, if_pos h77, bI_f (fun q => q h86)])))
          · refine q_iconst (1) dX10_loop_89 (by decide) ?_
            refine q_goto 103 dX10_loop_90 (by decide) ?_
            exact q_iret dX10_loop_103 rfl (by omega) (RP_0 (eH _ (by rw [if_neg h36, if_neg h50, if_neg h64, if_pos h77, bI_t h86])))
      · refine q_aload_n dX10_loop_67 rfl ?_
        refine q_iload_n dX10_loop_68 rfl ?_
        refine VP_top0 hnx.1 ?_
        have hz := h.2.2.2.2.2.1.1
        have g23 : upI I 30 0 0 30 23 = I 30 23 := by simp [rdI]
        refine q_calli [.int _] o_X10_waiting rfl k_X10_199 rfl (is_30 n) (by decide) rfl dX10_loop_69 (Nat.le_of_ble_eq_true rfl) (by omega) (by decide) (by omega) (Or.inl rfl) (r_waiting l n (d - 1) (upI I 30 0 0) L (N x) hn (by rw [g23]; exact hz)) (fun _ _ _ h => h.elim) (fun q1 I1 L1 hq1 => ?_)
        obtain ⟨z1, z2, z3⟩ := hq1
        cases z1
        cases z2.symm
        cases z3.symm
        refine q_goto 103 dX10_loop_72 (by decide) ?_
        rw [g23, Fcnt_cong (S := I) (S' := upI I 30 0 0) (by rw [upI_ne (by decide)])]
        exact q_iret dX10_loop_103 rfl (by omega) (RP_0 (eH _ (by rw [if_neg h36, if_neg h50, if_pos h64])))
    · refine q_aload_n dX10_loop_53 rfl ?_
      refine q_getR 30 10 9 209 (is_30 n) (by decide) rfl rfl (by decide) f_X10_25 rfl dX10_loop_54 ?_
      refine q_iload_n dX10_loop_57 rfl ?_
      refine q_iald 209 (N x) hn (is_209 n) hnx.1 (by show _ < 8; omega) dX10_loop_58 ?_
      rw [f209]
      refine q_goto 103 dX10_loop_59 (by decide) ?_
      exact q_iret dX10_loop_103 rfl (by omega) (RP_0 (eH _ (by rw [if_neg h36, if_pos h50])))
  · refine q_aload_n dX10_loop_39 rfl ?_
    refine q_getR 30 10 8 208 (is_30 n) (by decide) rfl rfl (by decide) f_X10_22 rfl dX10_loop_40 ?_
    refine q_iload_n dX10_loop_43 rfl ?_
    refine q_iald 208 (N x) hn (is_208 n) hnx.1 (by show _ < 8; omega) dX10_loop_44 ?_
    rw [f208]
    refine q_goto 103 dX10_loop_45 (by decide) ?_
    exact q_iret dX10_loop_103 rfl (by omega) (RP_0 (eH _ (by rw [if_pos h36])))
set_option maxHeartbeats 8000000 in
set_option maxRecDepth 100000 in
theorem rh_look (p what : Int32) (hn : n < 2 ^ 31) (h : Inv n I) (hd : 40 ≤ d) : VM l n m_X10_look d 0 [.ref 30, .int p, .int what] I L (RP (Hlook (co I) (coL L) p what) I L) noX := by
  refine VM_of _ [(0, .ref 30), (1, .int p), (2, .int what)] rfl (fun a => Nat.le_of_ble_eq_true rfl) rfl ?_
  have hn8 := h.1
  have hct := Inv_tr h
  have hp := h.2.2.2.1.1
  have hp2 := hp.2
  have kbad : ¬ (isP I p ∧ 0 ≤ what ∧ what ≤ 2) → VP l n m_X10_look d 0 (RP (Hlook (co I) (coL L) p what) I L) noX 0 21 [(0, .ref 30), (1, .int p), (2, .int what)] [.ref 30] I L := by
    intro hbad
    have eH : Hlook (co I) (coL L) p what = (1, 0, co I, coL L) := if_neg (show ¬ (isP (co I) p ∧ 0 ≤ what ∧ what ≤ 2) from hbad)
    refine q_iconst (1) dX10_look_21 (by decide) ?_
    refine q_goto 26 dX10_look_22 (by decide) ?_
    refine q_iconst (0) dX10_look_26 (by decide) ?_
    refine q_calli [.int _, .int _] o_X10_throwing rfl k_X10_159 rfl (is_30 n) (by decide) rfl dX10_look_27 (Nat.le_of_ble_eq_true rfl) (by omega) (by decide) (by omega) (Or.inr rfl) (r_thr1 l n (d - 1) I L 0) (fun _ _ _ h => h.elim) (fun q1 I1 L1 hq1 => ?_)
    obtain ⟨z1, z2, z3⟩ := hq1
    cases z1
    subst z2
    cases z3.symm
    refine q_if_eq 35 dX10_look_30 (by decide) (fun q => absurd q (by decide)) (fun _ => ?_)
    refine q_iconst (0) dX10_look_33 (by decide) ?_
    exact q_iret dX10_look_34 rfl (by omega) (RP_0 eH)
  refine q_aload_n dX10_look_0 rfl ?_
  refine q_aload_n dX10_look_1 rfl ?_
  refine q_iload_n dX10_look_2 rfl ?_
  refine q_calli [.int _] o_X10_isPromise rfl k_X10_218 rfl (is_30 n) (by decide) rfl dX10_look_3 (Nat.le_of_ble_eq_true rfl) (by omega) (by decide) (by omega) (Or.inr rfl) (r_isPromise l n (d - 1) I L p hp.1 (by omega) (by omega)) (fun _ _ _ h => h.elim) (fun q1 I1 L1 hq1 => ?_)
  obtain ⟨z1, z2, z3⟩ := hq1
  cases z1
  cases z2.symm
  cases z3.symm
  refine q_if_eq 21 dX10_look_6 (by decide) (fun h6 => kbad (fun q => by rw [bI_z] at h6; exact h6 q.1)) (fun h6 => ?_)
  rw [bI_z, Decidable.not_not] at h6
  refine q_iload_n dX10_look_9 rfl ?_
  refine q_i2l dX10_look_10 ?_
  refine q_lconst (0) dX10_look_11 (by decide) ?_
  refine q_ldc2 n_X10_277 rfl dX10_look_12 ?_
  refine q_calls [.long _, .long _, .long _] o_X10_in rfl k_X10_142 rfl dX10_look_15 (Nat.le_of_ble_eq_true rfl) (by omega) (by decide) (by omega) (Or.inr rfl) (r_in l n (d - 1) I L what.toInt64 0 2) (fun _ _ _ h => h.elim) (fun q1 I1 L1 hq1 => ?_)
  obtain ⟨z1, z2, z3⟩ := hq1
  cases z1
  cases z2.symm
  cases z3.symm
  rw [bI_c (in_k what 0 2 (by decide) (by decide))]
  refine q_if_ne 25 dX10_look_18 (by decide) (fun h18 => ?_) (fun h18 => kbad (fun q => by rw [bI_z] at h18; exact h18 q.2))
  rw [ne_eq, bI_z, Decidable.not_not] at h18
  have hnp := isP_nbt h h6
  have hnp2 := hnp.2
  have eH : ∀ r, (if what = 0 then I 229 (N p) else if what = 1 then I 230 (N p) else I 232 (N p)) = r → Hlook (co I) (coL L) p what = (0, r, co I, coL L) := fun r e => by
    rw [Hlook, if_pos (show isP (co I) p ∧ 0 ≤ what ∧ what ≤ 2 from ⟨h6, h18⟩), co_229, co_230, co_232, e]
  have f229 : upI I 30 0 0 229 (N p) = I 229 (N p) := by simp [rdI]
  have f230 : upI I 30 0 0 230 (N p) = I 230 (N p) := by simp [rdI]
  have f232 : upI I 30 0 0 232 (N p) = I 232 (N p) := by simp [rdI]
  refine q_iconst (0) dX10_look_25 (by decide) ?_
  refine q_iconst (0) dX10_look_26 (by decide) ?_
  refine q_calli [.int _, .int _] o_X10_throwing rfl k_X10_159 rfl (is_30 n) (by decide) rfl dX10_look_27 (Nat.le_of_ble_eq_true rfl) (by omega) (by decide) (by omega) (Or.inr rfl) (r_thr0 l n (d - 1) I L) (fun _ _ _ h => h.elim) (fun q1 I1 L1 hq1 => ?_)
  obtain ⟨z1, z2, z3⟩ := hq1
  cases z1
  subst z2
  cases z3.symm
  refine q_if_eq 35 dX10_look_30 (by decide) (fun _ => ?_) (fun q => absurd rfl q)
  refine q_iload_n dX10_look_35 rfl ?_
  refine q_if_ne 48 dX10_look_36 (by decide) (fun h36 => ?_) (fun h36 => ?_)
  · refine q_iload_n dX10_look_48 rfl ?_
    refine q_iconst (1) dX10_look_49 (by decide) ?_
    refine q_icmp_ne 62 dX10_look_50 (by decide) (fun h50 => ?_) (fun h50 => ?_)
    · refine q_aload_n dX10_look_62 rfl ?_
      refine q_getR 30 10 32 232 (is_30 n) (by decide) rfl rfl (by decide) f_X10_87 rfl dX10_look_63 ?_
      refine q_iload_n dX10_look_66 rfl ?_
      refine q_iald 232 (N p) hn (is_232 n) hnp.1 (by show _ < 32; omega) dX10_look_67 ?_
      rw [f232]
      exact q_iret dX10_look_68 rfl (by omega) (RP_0 (eH _ (by rw [if_neg h36, if_neg h50])))
    · refine q_aload_n dX10_look_53 rfl ?_
      refine q_getR 30 10 30 230 (is_30 n) (by decide) rfl rfl (by decide) f_X10_81 rfl dX10_look_54 ?_
      refine q_iload_n dX10_look_57 rfl ?_
      refine q_iald 230 (N p) hn (is_230 n) hnp.1 (by show _ < 32; omega) dX10_look_58 ?_
      rw [f230]
      refine q_goto 68 dX10_look_59 (by decide) ?_
      exact q_iret dX10_look_68 rfl (by omega) (RP_0 (eH _ (by rw [if_neg h36, if_pos h50])))
  · refine q_aload_n dX10_look_39 rfl ?_
    refine q_getR 30 10 29 229 (is_30 n) (by decide) rfl rfl (by decide) f_X10_78 rfl dX10_look_40 ?_
    refine q_iload_n dX10_look_43 rfl ?_
    refine q_iald 229 (N p) hn (is_229 n) hnp.1 (by show _ < 32; omega) dX10_look_44 ?_
    rw [f229]
    refine q_goto 68 dX10_look_45 (by decide) ?_
    exact q_iret dX10_look_68 rfl (by omega) (RP_0 (eH _ (by rw [if_pos h36])))
set_option maxHeartbeats 8000000 in
set_option maxRecDepth 100000 in
theorem rh_traced (hn : n < 2 ^ 31) (h : Inv n I) (hd : 40 ≤ d) : VM l n m_X10_traced d 0 [.ref 30] I L (RP (Htraced (co I) (coL L)) I L) noX := by
  refine VM_of _ [(0, .ref 30)] rfl (fun a => Nat.le_of_ble_eq_true rfl) rfl ?_
  have hn8 := h.1
  have hct := Inv_tr h
  refine q_aload_n dX10_traced_0 rfl ?_
  refine q_iconst (0) dX10_traced_1 (by decide) ?_
  refine q_putI 30 10 0 (is_30 n) (by decide) rfl (by decide) rfl rfl f_X10_136 rfl dX10_traced_2 ?_
  refine q_aload_n dX10_traced_5 rfl ?_
  refine q_getI 30 10 41 (is_30 n) (by decide) rfl (by decide) f_X10_152 rfl dX10_traced_6 ?_
  rw [show upI I 30 0 0 30 41 = I 30 41 from by simp [rdI]]
  exact q_iret dX10_traced_9 rfl (by omega) (RP_0 rfl)
set_option maxHeartbeats 8000000 in
set_option maxRecDepth 100000 in
theorem rh_trace (k what : Int32) (hn : n < 2 ^ 31) (h : Inv n I) (hb : tr I + 42300 < 2 ^ 31) (hd : 40 ≤ d) : VM l n m_X10_trace d 0 [.ref 30, .int k, .int what] I L (RP (Htrace (co I) (coL L) k what) I L) noX := by
  refine VM_of _ [(0, .ref 30), (1, .int k), (2, .int what)] rfl (fun a => Nat.le_of_ble_eq_true rfl) rfl ?_
  have hn8 := h.1
  have hct := Inv_tr h
  refine q_iload_n dX10_trace_0 rfl ?_
  refine q_i2l dX10_trace_1 ?_
  refine q_lconst (0) dX10_trace_2 (by decide) ?_
  refine q_ldc2 n_X10_277 rfl dX10_trace_3 ?_
  refine q_calls [.long _, .long _, .long _] o_X10_in rfl k_X10_142 rfl dX10_trace_6 (Nat.le_of_ble_eq_true rfl) (by omega) (by decide) (by omega) (Or.inr rfl) (r_in l n (d - 1) I L what.toInt64 0 2) (fun _ _ _ h => h.elim) (fun q1 I1 L1 hq1 => ?_)
  obtain ⟨z1, z2, z3⟩ := hq1
  cases z1
  cases z2.symm
  cases z3.symm
  rw [bI_c (in_k what 0 2 (by decide) (by decide))]
  refine q_if_ne 16 dX10_trace_9 (by decide) (fun h9 => ?_) (fun h9 => ?_)
  · rw [ne_eq, bI_z, Decidable.not_not] at h9
    have kno : ¬ ((0 ≤ k ∧ k < I 30 41) ∧ I 30 41 ≤ k + 300) → VP l n m_X10_trace d 0 (RP (Htrace (co I) (coL L) k what) I L) noX 0 52 [(3, .int 0), (0, .ref 30), (1, .int k), (2, .int what)] [.int 0, .ref 30] I L := by
      intro hbad
      have eH : Htrace (co I) (coL L) k what = (2, 0, co I, coL L) := by rw [Htrace, if_pos h9, co_30_41, if_neg hbad]
      refine q_iconst (1) dX10_trace_52 (by decide) ?_
      refine q_goto 57 dX10_trace_53 (by decide) ?_
      refine q_calli [.int _, .int _] o_X10_throwing rfl k_X10_159 rfl (is_30 n) (by decide) rfl dX10_trace_57 (Nat.le_of_ble_eq_true rfl) (by omega) (by decide) (by omega) (Or.inr rfl) (r_thr2 l n (d - 1) I L) (fun _ _ _ h => h.elim) (fun q1 I1 L1 hq1 => ?_)
      obtain ⟨z1, z2, z3⟩ := hq1
      cases z1
      subst z2
      cases z3.symm
      refine q_if_eq 65 dX10_trace_60 (by decide) (fun q => absurd q (by decide)) (fun _ => ?_)
      refine q_iconst (0) dX10_trace_63 (by decide) ?_
      exact q_iret dX10_trace_64 rfl (by omega) (RP_0 eH)
    refine q_iconst (0) dX10_trace_16 (by decide) ?_
    refine q_istore_n [(3, _), (0, _), (1, _), (2, _)] dX10_trace_17 (by decide) rfl ?_
    refine q_aload_n dX10_trace_18 rfl ?_
    refine q_iload_n dX10_trace_19 rfl ?_
    refine q_iload_n dX10_trace_20 rfl ?_
    refine q_if_ne 56 dX10_trace_21 (by decide) (fun q => absurd rfl q) (fun _ => ?_)
    refine q_iload_n dX10_trace_24 rfl ?_
    refine q_i2l dX10_trace_25 ?_
    refine q_lconst (0) dX10_trace_26 (by decide) ?_
    refine q_aload_n dX10_trace_27 rfl ?_
    refine q_getI 30 10 41 (is_30 n) (by decide) rfl (by decide) f_X10_152 rfl dX10_trace_28 ?_
    refine q_iconst (1) dX10_trace_31 (by decide) ?_
    refine q_isub dX10_trace_32 ?_
    refine q_i2l dX10_trace_33 ?_
    refine q_calls [.long _, .long _, .long _] o_X10_in rfl k_X10_142 rfl dX10_trace_34 (Nat.le_of_ble_eq_true rfl) (by omega) (by decide) (by omega) (Or.inr rfl) (r_in l n (d - 1) I L k.toInt64 0 (I 30 41 - 1).toInt64) (fun _ _ _ h => h.elim) (fun q1 I1 L1 hq1 => ?_)
    obtain ⟨z1, z2, z3⟩ := hq1
    cases z1
    cases z2.symm
    cases z3.symm
    rw [bI_c (in_lt hct (by omega))]
    refine q_if_eq 52 dX10_trace_37 (by decide) (fun h37 => kno (fun q => by rw [bI_z] at h37; exact h37 q.1)) (fun h37 => ?_)
    rw [bI_z, Decidable.not_not] at h37
    refine q_iload_n dX10_trace_40 rfl ?_
    refine q_sipush (300) dX10_trace_41 (by decide) ?_
    refine q_iadd dX10_trace_44 ?_
    refine q_aload_n dX10_trace_45 rfl ?_
    refine q_getI 30 10 41 (is_30 n) (by decide) rfl (by decide) f_X10_152 rfl dX10_trace_46 ?_
    refine q_icmp_ge 56 dX10_trace_49 (by decide) (fun h49 => ?_) (fun h49 => kno (fun q => h49 q.2))
    have eH : ∀ r, (if what = 0 then I 242 (N k % 300) else if what = 1 then I 243 (N k % 300) else I 244 (N k % 300)) = r → Htrace (co I) (coL L) k what = (0, r, co I, coL L) := fun r e => by
      rw [Htrace, if_pos h9, co_30_41, if_pos ⟨h37, h49⟩, co_242, co_243, co_244, e]
    obtain ⟨q, hq, hqe⟩ := nI_of (Int32.not_lt.mpr h37.1)
    have hN : N k = q := by rw [hqe, N_nI hq]
    have hrem : k - k / 300 * 300 = nI (N k % 300) := by rw [hN]; exact nI_rem (z := 300) (k := 300) hqe rfl hq (by decide) (by decide)
    have hml : N k % 300 < 300 := Nat.mod_lt _ (by decide)
    have f242 : upI I 30 0 0 242 (N k % 300) = I 242 (N k % 300) := by simp [rdI]
    have f243 : upI I 30 0 0 243 (N k % 300) = I 243 (N k % 300) := by simp [rdI]
    have f244 : upI I 30 0 0 244 (N k % 300) = I 244 (N k % 300) := by simp [rdI]
    refine q_iconst (0) dX10_trace_56 (by decide) ?_
    refine q_calli [.int _, .int _] o_X10_throwing rfl k_X10_159 rfl (is_30 n) (by decide) rfl dX10_trace_57 (Nat.le_of_ble_eq_true rfl) (by omega) (by decide) (by omega) (Or.inr rfl) (r_thr0 l n (d - 1) I L) (fun _ _ _ h => h.elim) (fun q1 I1 L1 hq1 => ?_)
    obtain ⟨z1, z2, z3⟩ := hq1
    cases z1
    subst z2
    cases z3.symm
    refine q_if_eq 65 dX10_trace_60 (by decide) (fun _ => ?_) (fun q => absurd rfl q)
    refine q_iload_n dX10_trace_65 rfl ?_
    refine q_if_ne 82 dX10_trace_66 (by decide) (fun h66 => ?_) (fun h66 => ?_)
    · refine q_iload_n dX10_trace_82 rfl ?_
      refine q_iconst (1) dX10_trace_83 (by decide) ?_
      refine q_icmp_ne 100 dX10_trace_84 (by decide) (fun h84 => ?_) (fun h84 => ?_)
      · refine q_aload_n dX10_trace_100 rfl ?_
        refine q_getR 30 10 44 244 (is_30 n) (by decide) rfl rfl (by decide) f_X10_114 rfl dX10_trace_101 ?_
        refine q_iload_n dX10_trace_104 rfl ?_
        refine q_sipush (300) dX10_trace_105 (by decide) ?_
        refine q_irem dX10_trace_108 (by decide) ?_
        refine q_iald 244 (N k % 300) hn (is_244 n) hrem (by show _ < 300; omega) dX10_trace_109 ?_
        rw [f244]
        exact q_iret dX10_trace_110 rfl (by omega) (RP_0 (eH _ (by rw [if_neg h66, if_neg h84])))
      · refine q_aload_n dX10_trace_87 rfl ?_
        refine q_getR 30 10 43 243 (is_30 n) (by decide) rfl rfl (by decide) f_X10_111 rfl dX10_trace_88 ?_
        refine q_iload_n dX10_trace_91 rfl ?_
        refine q_sipush (300) dX10_trace_92 (by decide) ?_
        refine q_irem dX10_trace_95 (by decide) ?_
        refine q_iald 243 (N k % 300) hn (is_243 n) hrem (by show _ < 300; omega) dX10_trace_96 ?_
        rw [f243]
        refine q_goto 110 dX10_trace_97 (by decide) ?_
        exact q_iret dX10_trace_110 rfl (by omega) (RP_0 (eH _ (by rw [if_neg h66, if_pos h84])))
    · refine q_aload_n dX10_trace_69 rfl ?_
      refine q_getR 30 10 42 242 (is_30 n) (by decide) rfl rfl (by decide) f_X10_108 rfl dX10_trace_70 ?_
      refine q_iload_n dX10_trace_73 rfl ?_
      refine q_sipush (300) dX10_trace_74 (by decide) ?_
      refine q_irem dX10_trace_77 (by decide) ?_
      refine q_iald 242 (N k % 300) hn (is_242 n) hrem (by show _ < 300; omega) dX10_trace_78 ?_
      rw [f242]
      refine q_goto 110 dX10_trace_79 (by decide) ?_
      exact q_iret dX10_trace_110 rfl (by omega) (RP_0 (eH _ (by rw [if_pos h66])))
  · rw [bI_z] at h9
    have eH : Htrace (co I) (coL L) k what = (1, 0, co I, coL L) := if_neg h9
    refine q_iconst (1) dX10_trace_12 (by decide) ?_
    refine q_goto 17 dX10_trace_13 (by decide) ?_
    refine q_istore_n [(3, _), (0, _), (1, _), (2, _)] dX10_trace_17 (by decide) rfl ?_
    refine q_aload_n dX10_trace_18 rfl ?_
    refine q_iload_n dX10_trace_19 rfl ?_
    refine q_iload_n dX10_trace_20 rfl ?_
    refine q_if_ne 56 dX10_trace_21 (by decide) (fun _ => ?_) (fun q => absurd q (by decide))
    refine q_iconst (0) dX10_trace_56 (by decide) ?_
    refine q_calli [.int _, .int _] o_X10_throwing rfl k_X10_159 rfl (is_30 n) (by decide) rfl dX10_trace_57 (Nat.le_of_ble_eq_true rfl) (by omega) (by decide) (by omega) (Or.inr rfl) (r_thr1 l n (d - 1) I L 0) (fun _ _ _ h => h.elim) (fun q1 I1 L1 hq1 => ?_)
    obtain ⟨z1, z2, z3⟩ := hq1
    cases z1
    subst z2
    cases z3.symm
    refine q_if_eq 65 dX10_trace_60 (by decide) (fun q => absurd q (by decide)) (fun _ => ?_)
    refine q_iconst (0) dX10_trace_63 (by decide) ?_
    exact q_iret dX10_trace_64 rfl (by omega) (RP_0 eH)
set_option maxHeartbeats 4000000 in
set_option maxRecDepth 100000 in
theorem rh_advance (x : Int32) (hd : 40 ≤ d) : VM l n m_X10_advance d 0 [.ref 30, .int x] I L (fun r I' L' => r = some (.long (Hadvance (coL L) x).2.1) ∧ I' 30 0 = (Hadvance (coL L) x).1 ∧ (co I' = co I ∧ coL L' = (Hadvance (coL L) x).2.2) ∧ KI I I' ∧ KL L L') noX := by
  refine VM_of _ [(0, .ref 30), (1, .int x)] rfl (fun a => Nat.le_of_ble_eq_true rfl) rfl ?_
  refine q_aload_n dX10_advance_0 rfl ?_
  refine q_iload_n dX10_advance_1 rfl ?_
  refine q_i2l dX10_advance_2 ?_
  refine q_lconst (0) dX10_advance_3 (by decide) ?_
  refine q_ldc2 n_X10_180 rfl dX10_advance_4 ?_
  refine q_calls [.long _, .long _, .long _] o_X10_in rfl k_X10_142 rfl dX10_advance_7 (Nat.le_of_ble_eq_true rfl) (by omega) (by decide) (by omega) (Or.inr rfl) (r_in l n (d - 1) I L x.toInt64 0 1000000) (fun _ _ _ h => h.elim) (fun q1 I1 L1 hq1 => ?_)
  obtain ⟨z1, z2, z3⟩ := hq1
  cases z1
  cases z2.symm
  cases z3.symm
  rw [bI_c (in_k x 0 1000000 (by decide) (by decide))]
  refine q_if_ne 17 dX10_advance_10 (by decide) (fun h10 => ?_) (fun h10 => ?_)
  · rw [ne_eq, bI_z, Decidable.not_not] at h10
    have eH : Hadvance (coL L) x = (0, L 30 2 + x.toInt64, upL (coL L) 30 2 (L 30 2 + x.toInt64)) := if_pos h10
    refine q_iconst (0) dX10_advance_17 (by decide) ?_
    refine q_iconst (0) dX10_advance_18 (by decide) ?_
    refine q_calli [.int _, .int _] o_X10_throwing rfl k_X10_159 rfl (is_30 n) (by decide) rfl dX10_advance_19 (Nat.le_of_ble_eq_true rfl) (by omega) (by decide) (by omega) (Or.inr rfl) (r_thr0 l n (d - 1) I L) (fun _ _ _ h => h.elim) (fun q1 I1 L1 hq1 => ?_)
    obtain ⟨z1, z2, z3⟩ := hq1
    cases z1
    subst z2
    cases z3.symm
    refine q_if_eq 27 dX10_advance_22 (by decide) (fun _ => ?_) (fun q => absurd rfl q)
    refine q_aload_n dX10_advance_27 rfl ?_
    refine q_dup dX10_advance_28 rfl ?_
    refine q_getL 30 10 2 (is_30 n) (by decide) rfl (by decide) f_X10_182 rfl dX10_advance_29 ?_
    refine q_iload_n dX10_advance_32 rfl ?_
    refine q_i2l dX10_advance_33 ?_
    refine q_ladd dX10_advance_34 ?_
    refine q_putL 30 10 2 (is_30 n) (by decide) rfl (by decide) rfl rfl f_X10_182 rfl dX10_advance_35 ?_
    refine q_aload_n dX10_advance_38 rfl ?_
    refine q_getL 30 10 2 (is_30 n) (by decide) rfl (by decide) f_X10_182 rfl dX10_advance_39 ?_
    rw [show upL L 30 2 (L 30 2 + x.toInt64) 30 2 = L 30 2 + x.toInt64 from by simp [rdL]]
    refine q_lret dX10_advance_42 rfl (by omega) ?_
    rw [eH]
    exact ⟨rfl, by simp [rdI], ⟨cu_30_0 _ _, cuL_30_2 _ _⟩, KI.rf.up (Or.inl rfl), KL.nc (ncL.rf.up (by decide))⟩
  · rw [bI_z] at h10
    have eH : Hadvance (coL L) x = (1, 0, coL L) := if_neg h10
    refine q_iconst (1) dX10_advance_13 (by decide) ?_
    refine q_goto 18 dX10_advance_14 (by decide) ?_
    refine q_iconst (0) dX10_advance_18 (by decide) ?_
    refine q_calli [.int _, .int _] o_X10_throwing rfl k_X10_159 rfl (is_30 n) (by decide) rfl dX10_advance_19 (Nat.le_of_ble_eq_true rfl) (by omega) (by decide) (by omega) (Or.inr rfl) (r_thr1 l n (d - 1) I L 0) (fun _ _ _ h => h.elim) (fun q1 I1 L1 hq1 => ?_)
    obtain ⟨z1, z2, z3⟩ := hq1
    cases z1
    subst z2
    cases z3.symm
    refine q_if_eq 27 dX10_advance_22 (by decide) (fun q => absurd q (by decide)) (fun _ => ?_)
    refine q_lconst (0) dX10_advance_25 (by decide) ?_
    refine q_lret dX10_advance_26 rfl (by omega) ?_
    rw [eH]
    exact ⟨rfl, by simp [rdI], ⟨cu_30_0 _ _, rfl⟩, KI.rf.up (Or.inl rfl), KL.rf⟩
end

