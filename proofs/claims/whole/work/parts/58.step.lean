/-! ===== the reference's step ===== -/
def KI (I I' : MI) : Prop := ∀ i, ¬ refc i → I' i = I i
theorem KI.rf {I : MI} : KI I I := fun _ _ => rfl
theorem KI.tns {I I1 I2 : MI} (h : KI I I1) (k : KI I1 I2) : KI I I2 := fun i hi => (k i hi).trans (h i hi)
theorem KI.up {I I' : MI} {c j : Nat} {v : Int32} (h : KI I I') (hc : refc c) : KI I (upI I' c j v) := fun i hi => by
  rw [upI_ne (fun e => hi (by rw [e]; exact hc))]
  exact h i hi
theorem KI.nc {I I' : MI} (h : nc I I') : KI I I' := (KP.nc (D := 0) h).2.1
/-- a call of the host, done by the reference -/
def RP (H : HR) (I : MI) (L : ML) : vq_R := fun r I' L' => r = some (.int H.2.1) ∧ I' 30 0 = H.1 ∧ (co I' = H.2.2.1 ∧ coL L' = H.2.2.2) ∧ KI I I' ∧ KL L L'
def RPv (H : HR) (I : MI) (L : ML) : vq_R := fun r I' L' => r = none ∧ I' 30 0 = H.1 ∧ (co I' = H.2.2.1 ∧ coL L' = H.2.2.2) ∧ KI I I' ∧ KL L L'
theorem Rfd_co (I : MI) (L : ML) (i : Nat) (c : Int64) : ∀ m, Rfd (co I) (coL L) i c m = Rfd I L i c m
  | 0 => rfl
  | m + 1 => by simp only [Rfd, Rfd_co I L i c m, co_226, coL_225]
theorem co_mv (I : MI) (L : ML) (i : Nat) : co (Fmv I L i) = Fmv (co I) (coL L) i := by
  unfold Fmv
  rw [cu_226, co_enq0, coL_30_2, co_30_23, Rfd_co, co_224]
theorem co_bb (L : ML) (i : Nat) : ∀ m I, co (Fbb L i m I) = Fbb (coL L) i m (co I)
  | 0, _ => rfl
  | m + 1, I => by
    simp only [Fbb, coL_30_2, co_30_23, Rfd_co, co_209]
    split
    · rfl
    · rw [co_bb L i m, co_mv]
theorem co_bbS (I : MI) (L : ML) (i : Nat) : co (FbbS I L i) = FbbS (co I) (coL L) i := by
  unfold FbbS
  rw [cu_210, co_bb, ← co_bb, co_209]
theorem nc_bb (L : ML) (i : Nat) : ∀ m I, nc I (Fbb L i m I)
  | 0, _ => nc.rf
  | m + 1, I => by
    simp only [Fbb]
    split
    · exact nc.rf
    · exact ((nc_enq0 _ _ _ _ _).up (core_c (by decide) (by decide))).tr (nc_bb L i m _)
theorem nc_bbS (I : MI) (L : ML) (i : Nat) : nc I (FbbS I L i) := (nc_bb L i 24 I).up (core_c (by decide) (by decide))
theorem co_clr (I : MI) (i m : Nat) : co (Fclr I i m) = Fclr (co I) i m := by
  funext x y
  show (if core x y then Fclr I i m x y else 0) = _
  unfold Fclr
  rw [co_226]
  by_cases h : x = 226 ∧ y < m ∧ I 226 y = nI i
  · rw [if_pos h, if_pos h, if_pos (by rw [h.1]; exact core_c (by decide) (by decide))]
  · rw [if_neg h, if_neg h]
    rfl
theorem nc_clr (I : MI) (i m : Nat) : nc I (Fclr I i m) := fun x y q => by
  unfold Fclr
  rw [if_neg (fun z => q (by rw [z.1]; exact core_c (by decide) (by decide)))]
theorem co_deq (I : MI) (i : Nat) : co (Fdeq I i) = Fdeq (co I) i := by
  funext x y
  show (if core x y then Fdeq I i x y else 0) = _
  unfold Fdeq
  rw [co_209]
  by_cases h : (x = 211 ∨ x = 212 ∨ x = 213) ∧ 24 * i ≤ y ∧ y + 1 < 24 * i + N (I 209 i)
  · have hx : ∀ z, core x z := fun z => core_c (by omega) (by omega)
    rw [if_pos h, if_pos h, if_pos (hx y), co_rd (hx _)]
  · rw [if_neg h, if_neg h]
    by_cases h2 : x = 209 ∧ y = i
    · rw [if_pos h2, if_pos h2, if_pos (by rw [h2.1]; exact core_c (by decide) (by decide))]
    · rw [if_neg h2, if_neg h2]
      rfl
theorem nc_deq (I : MI) (i : Nat) : nc I (Fdeq I i) := fun x y q => by
  unfold Fdeq
  rw [if_neg (fun z => q (core_c (by omega) (by omega))), if_neg (fun z => q (core_c (by omega) (by omega)))]
def Fsh (I : MI) (i k : Nat) : MI := fun x z => if (x = 211 ∨ x = 212 ∨ x = 213) ∧ 24 * i ≤ z ∧ z < 24 * i + k then I x (z + 1) else I x z
theorem Fsh_0 (I : MI) (i : Nat) : Fsh I i 0 = I := by
  funext x z
  unfold Fsh
  rw [if_neg (by omega)]
theorem Fsh_at (I : MI) (i k x : Nat) : Fsh I i k x (24 * i + k + 1) = I x (24 * i + k + 1) := by
  unfold Fsh
  rw [if_neg (by omega)]
theorem Fsh_ne {I : MI} {i k x : Nat} (h : x ≠ 211 ∧ x ≠ 212 ∧ x ≠ 213) : Fsh I i k x = I x := by
  funext z
  unfold Fsh
  rw [if_neg (by omega)]
theorem Fsh_s (I : MI) (i k : Nat) : upI (upI (upI (Fsh I i k) 211 (24 * i + k) (I 211 (24 * i + k + 1))) 212 (24 * i + k) (I 212 (24 * i + k + 1))) 213 (24 * i + k) (I 213 (24 * i + k + 1)) = Fsh I i (k + 1) := by
  funext x z
  simp only [rdI]
  unfold Fsh
  by_cases hz : z = 24 * i + k
  · by_cases h1 : x = 211
    · subst h1; subst hz; simp
    · by_cases h2 : x = 212
      · subst h2; subst hz; simp
      · by_cases h3 : x = 213
        · subst h3; subst hz; simp
        · simp [h1, h2, h3]
  · simp only [hz, and_false, if_false]
    by_cases hc : (x = 211 ∨ x = 212 ∨ x = 213) ∧ 24 * i ≤ z ∧ z < 24 * i + k
    · rw [if_pos hc, if_pos (by omega)]
    · rw [if_neg hc, if_neg (by omega)]
theorem Fsh_end (I : MI) (i : Nat) (hq : 0 < N (I 209 i)) (b : Int32) : Fsh (upI (upI I 209 i (nI (N (I 209 i) - 1))) 210 i b) i (N (I 209 i) - 1) = upI (Fdeq I i) 210 i b := by
  funext x z
  unfold Fsh
  simp only [rdI]
  unfold Fdeq
  by_cases hc : (x = 211 ∨ x = 212 ∨ x = 213) ∧ 24 * i ≤ z ∧ z + 1 < 24 * i + N (I 209 i)
  · have n1 : ¬ x = 210 := by omega
    have n2 : ¬ x = 209 := by omega
    rw [if_pos (show (x = 211 ∨ x = 212 ∨ x = 213) ∧ 24 * i ≤ z ∧ z < 24 * i + (N (I 209 i) - 1) by omega)]
    simp [n1, n2, hc]
  · rw [if_neg (show ¬ ((x = 211 ∨ x = 212 ∨ x = 213) ∧ 24 * i ≤ z ∧ z < 24 * i + (N (I 209 i) - 1)) by omega)]
    simp only [hc, if_false]
section
variable {l : Launch} {n : Nat} {d : Nat} {I : MI} {L : ML}
theorem r_run_of {th : Int32} {y : PX} (h : ∀ Q, rEnd l n d Q th 0 I L y → RV l n d Q I L) : VM l n m_X10_run d 0 [.ref 30] I L (fun r I' L' => r = none ∧ RS th y I' L' ∧ KP 0 I I' ∧ KL L L') noX := by
  refine VM_of _ [(0, .ref 30)] rfl (fun a => Nat.le_of_ble_eq_true rfl) rfl ?_
  exact h _ (fun I' L' r1 r2 r3 r4 => it_end l n d I' L' r4 ⟨rfl, r1, r2, r3⟩)
theorem r_runT {i t k m : Nat} {x : PX} {mo tw : Int32} (hn : n < 2 ^ 31) (hi : i < n) (hd : 20 ≤ d) (hkm : k + m = N (x.1 204 t)) (hR : RS (nI i) x I L) (hV : Inv n x.1) (hK : HK x.1) (ht : t < N (x.1 30 3)) (hb : Ph x + 2100 < 2 ^ 31) (hT : TP 0 I 0 (nI t) (nI k) mo tw) : VM l n m_X10_run d 0 [.ref 30] I L (fun r I' L' => r = none ∧ RS (nI i) (Ltop n (nI i) t m k x) I' L' ∧ KP 0 I I' ∧ KL L L') noX := by
  have hth : nbt (nI i) n := nbt_nI hi hn
  obtain ⟨h1, h2⟩ := rlev (l := l) hth hn 12
  obtain ⟨h3, h4⟩ := lev_ok hth 12
  exact r_run_of (fun Q hE => run_ords hth h1 h3 h2 h4 hn (nf := 0) (fr := 0) (by omega) (by omega) (by omega) hd (by omega) (by omega) m k x I L 0 mo tw hkm hR hV hK ht hb hT ⟨by decide, by decide⟩ (by rw [hT.cnt, if_neg (by decide)]; rfl) (by rw [hT.cnt, if_neg (by decide)]; rfl) hE)
theorem r_runM {i c : Nat} {x : PX} {ps : Int32} (hn : n < 2 ^ 31) (hi : i < n) (hd : 20 ≤ d) (hR : RS (nI i) x I L) (hV : Inv n x.1) (hK : HK x.1) (hc : c < N (x.1 30 34)) (hb : Ph x + 2150 < 2 ^ 31) (hT : TP 0 I 4 (nI c) 0 ps 0) : VM l n m_X10_run d 0 [.ref 30] I L (fun r I' L' => r = none ∧ RS (nI i) (LtopG n (nI i) c ps x) I' L' ∧ KP 0 I I' ∧ KL L L') noX := by
  have hth : nbt (nI i) n := nbt_nI hi hn
  obtain ⟨h1, h2⟩ := rlev (l := l) hth hn 12
  obtain ⟨h3, h4⟩ := lev_ok hth 12
  have h6 := (hV.2.2.2.2.1.2.2 c hc).2.1.2
  exact r_run_of (fun Q hE => run_go hth h1 h3 h2 h4 hn (nf := 0) (fr := 0) (by omega) (by omega) (by omega) hd (by omega) (N (x.1 236 c)) 0 0 ps x I L (by omega) hR hV hK hc (by omega) hT (Or.inl rfl) rfl rfl hE)
end
def Lst2 (n : Nat) (S : MI) (T : ML) (i : Nat) : Int32 × MI × ML :=
  if S 209 i = 0 then (if okC S T i then (3, Fbec (Fbec S i 4) i 5, T) else (0, S, T)) else (1, (Lbeg n S T i).1, (Lbeg n S T i).2.1)
theorem Lstep1_eq (n : Nat) (S : MI) (T : ML) (i : Nat) : Lstep1 n S T i = if S 214 i = 1 then (if S 229 (N (S 217 i)) = 0 then (2, S, T) else (1, (Lres1 n S T i).1, (Lres1 n S T i).2.1)) else Lst2 n (if S 210 i = 0 then FbbS S T i else S) T i := rfl
theorem RS_0 {th : Int32} {I : MI} {L : ML} (h52 : I 30 52 = 0) (h51 : I 30 51 = th) : RS th (co I, coL L, 0) I L := ⟨⟨rfl, rfl⟩, RA_mk 0 h52 rfl (Nat.zero_le _), h51⟩
section
variable (l : Launch) (n : Nat) (hn : n < 2 ^ 31) (d : Nat) (I : MI) (L : ML)
set_option maxHeartbeats 4000000 in
set_option maxRecDepth 100000 in
theorem r_sh_lp {Q : vq_R} (i q : Nat) (v3 v4 v5 : Int32) (hn : n < 2 ^ 31) (hi : i < 8) (hq : I 209 i = nI q) (hqb : q < 24) (hQ : VP l n m_X10_step d 0 Q noX 0 348 [(5, .int v5), (4, .int v4), (3, .int v3), (2, .int (nI (24 * i))), (0, .ref 30), (1, .int (nI i))] [] (Fsh I i q) L) : ∀ m k, k + m = q → VP l n m_X10_step d 0 Q noX 0 281 [(6, .int (nI (24 * i + k))), (5, .int v5), (4, .int v4), (3, .int v3), (2, .int (nI (24 * i))), (0, .ref 30), (1, .int (nI i))] [] (Fsh I i k) L := by
  have h209 : ∀ k, Fsh I i k 209 i = nI q := fun k => by rw [Fsh_ne (by decide)]; exact hq
  intro m
  induction m with
  | zero =>
    intro k hk
    refine q_iload dX10_step_281 rfl ?_
    refine q_iload_n dX10_step_283 rfl ?_
    refine q_aload_n dX10_step_284 rfl ?_
    refine q_getR 30 10 9 209 (is_30 n) (by decide) rfl rfl (by decide) f_X10_25 rfl dX10_step_285 ?_
    refine q_iload_n dX10_step_288 rfl ?_
    refine q_iald 209 (_) hn (is_209 n) rfl (by show _ < 8; omega) dX10_step_289 ?_
    rw [h209]
    refine q_iadd dX10_step_290 ?_
    rw [nI_add]
    refine q_icmp_ge 348 dX10_step_291 (by decide) (fun _ => ?_) (fun z => absurd (nI_le (by omega) (by omega)) z)
    rw [show k = q by omega]
    exact q_lv _ (fun q hq => List.mem_cons_of_mem _ hq) hQ
  | succ m ih =>
    intro k hk
    refine q_iload dX10_step_281 rfl ?_
    refine q_iload_n dX10_step_283 rfl ?_
    refine q_aload_n dX10_step_284 rfl ?_
    refine q_getR 30 10 9 209 (is_30 n) (by decide) rfl rfl (by decide) f_X10_25 rfl dX10_step_285 ?_
    refine q_iload_n dX10_step_288 rfl ?_
    refine q_iald 209 (_) hn (is_209 n) rfl (by show _ < 8; omega) dX10_step_289 ?_
    rw [h209]
    refine q_iadd dX10_step_290 ?_
    rw [nI_add]
    refine q_icmp_ge 348 dX10_step_291 (by decide) (fun z => absurd z (nI_ge (by omega) (by omega))) (fun _ => ?_)
    refine q_aload_n dX10_step_294 rfl ?_
    refine q_getR 30 10 11 211 (is_30 n) (by decide) rfl rfl (by decide) f_X10_31 rfl dX10_step_295 ?_
    refine q_iload dX10_step_298 rfl ?_
    refine q_aload_n dX10_step_300 rfl ?_
    refine q_getR 30 10 11 211 (is_30 n) (by decide) rfl rfl (by decide) f_X10_31 rfl dX10_step_301 ?_
    refine q_iload dX10_step_304 rfl ?_
    refine q_iconst (1) dX10_step_306 (by decide) ?_
    refine q_iadd dX10_step_307 ?_
    refine q_iald 211 (24 * i + k + 1) hn (is_211 n) (nI_1 _) (by show _ < 192; omega) dX10_step_308 ?_
    refine q_iast 211 (_) hn (is_211 n) rfl (by show _ < 192; omega) dX10_step_309 ?_
    refine q_aload_n dX10_step_310 rfl ?_
    refine q_getR 30 10 12 212 (is_30 n) (by decide) rfl rfl (by decide) f_X10_34 rfl dX10_step_311 ?_
    refine q_iload dX10_step_314 rfl ?_
    refine q_aload_n dX10_step_316 rfl ?_
    refine q_getR 30 10 12 212 (is_30 n) (by decide) rfl rfl (by decide) f_X10_34 rfl dX10_step_317 ?_
    refine q_iload dX10_step_320 rfl ?_
    refine q_iconst (1) dX10_step_322 (by decide) ?_
    refine q_iadd dX10_step_323 ?_
    refine q_iald 212 (24 * i + k + 1) hn (is_212 n) (nI_1 _) (by show _ < 192; omega) dX10_step_324 ?_
    refine q_iast 212 (_) hn (is_212 n) rfl (by show _ < 192; omega) dX10_step_325 ?_
    refine q_aload_n dX10_step_326 rfl ?_
    refine q_getR 30 10 13 213 (is_30 n) (by decide) rfl rfl (by decide) f_X10_37 rfl dX10_step_327 ?_
    refine q_iload dX10_step_330 rfl ?_
    refine q_aload_n dX10_step_332 rfl ?_
    refine q_getR 30 10 13 213 (is_30 n) (by decide) rfl rfl (by decide) f_X10_37 rfl dX10_step_333 ?_
    refine q_iload dX10_step_336 rfl ?_
    refine q_iconst (1) dX10_step_338 (by decide) ?_
    refine q_iadd dX10_step_339 ?_
    refine q_iald 213 (24 * i + k + 1) hn (is_213 n) (nI_1 _) (by show _ < 192; omega) dX10_step_340 ?_
    refine q_iast 213 (_) hn (is_213 n) rfl (by show _ < 192; omega) dX10_step_341 ?_
    refine q_iinc [(6, _), (5, _), (4, _), (3, _), (2, _), (0, _), (1, _)] (nI (24 * i + k + 1)) dX10_step_342 rfl (nI_1 _) (by decide) rfl ?_
    refine q_goto 281 dX10_step_345 (by decide) ?_
    have e1 : Fsh I i k 211 (24 * i + k + 1) = I 211 (24 * i + k + 1) := Fsh_at _ _ _ _
    have e2 : upI (Fsh I i k) 211 (24 * i + k) (Fsh I i k 211 (24 * i + k + 1)) 212 (24 * i + k + 1) = I 212 (24 * i + k + 1) := by rw [rdI, if_neg (by omega)]; exact Fsh_at _ _ _ _
    have e3 : ∀ a b, upI (upI (Fsh I i k) 211 (24 * i + k) a) 212 (24 * i + k) b 213 (24 * i + k + 1) = I 213 (24 * i + k + 1) := fun a b => by rw [rdI, if_neg (by omega), rdI, if_neg (by omega)]; exact Fsh_at _ _ _ _
    rw [e2, e1, e3, Fsh_s]
    exact ih (k + 1) (by omega)
set_option maxHeartbeats 8000000 in
set_option maxRecDepth 100000 in
theorem r_st2 {Q : vq_R} (i : Nat) (hn : n < 2 ^ 31) (hi : i < n) (h : Inv n I) (hK : HK I) (hs : I 208 i = 2 ∨ I 208 i = 3) (hb : tr I + 42300 < 2 ^ 31) (hd : 30 ≤ d) (h51 : I 30 51 = nI i) (h45 : I 30 45 = 0) (h52 : I 30 52 = 0) (hQ : ∀ I' L', co I' = (Lst2 n (co I) (coL L) i).2.1 → coL L' = (Lst2 n (co I) (coL L) i).2.2 → KP 0 I I' → KL L L' → Q (some (.int (Lst2 n (co I) (coL L) i).1)) I' L') : VP l n m_X10_step d 0 Q noX 0 201 [(0, .ref 30), (1, .int (nI i))] [] I L := by
  have hn8 := h.1
  have hct := Inv_tr h
  obtain ⟨hvq, hvb, hvs⟩ := h.2.2.2.2.2.2.1 i hi
  have hq := hvq.1
  have hq2 := hq.2
  refine q_aload_n dX10_step_201 rfl ?_
  refine q_getR 30 10 9 209 (is_30 n) (by decide) rfl rfl (by decide) f_X10_25 rfl dX10_step_202 ?_
  refine q_iload_n dX10_step_205 rfl ?_
  refine q_iald 209 (_) hn (is_209 n) rfl (by show _ < 8; omega) dX10_step_206 ?_
  refine q_if_ne 230 dX10_step_207 (by decide) (fun h207 => ?_) (fun h207 => ?_)
  · have hqp : 0 < N (I 209 i) := by
      rcases Nat.eq_zero_or_pos (N (I 209 i)) with z | z
      · exact absurd (by rw [hq.1, z]; rfl) h207
      · exact z
    have eL : Lst2 n (co I) (coL L) i = (1, (Lbeg n (co I) (coL L) i).1, (Lbeg n (co I) (coL L) i).2.1) := by rw [Lst2, co_209, if_neg h207]
    rw [eL] at hQ
    have e1 : (24 : Int32) * nI i = nI (24 * i) := pk_mul 24 i
    have hok := hvq.2 0 hqp
    rw [Nat.add_zero] at hok
    refine q_bipush (24) dX10_step_230 (by decide) ?_
    refine q_iload_n dX10_step_232 rfl ?_
    refine q_imul dX10_step_233 ?_
    rw [e1]
    refine q_istore_n [(2, _), (0, _), (1, _)] dX10_step_234 (by decide) rfl ?_
    refine q_aload_n dX10_step_235 rfl ?_
    refine q_getR 30 10 11 211 (is_30 n) (by decide) rfl rfl (by decide) f_X10_31 rfl dX10_step_236 ?_
    refine q_iload_n dX10_step_239 rfl ?_
    refine q_iald 211 (_) hn (is_211 n) rfl (by show _ < 192; omega) dX10_step_240 ?_
    refine q_istore_n [(3, _), (2, _), (0, _), (1, _)] dX10_step_241 (by decide) rfl ?_
    refine q_aload_n dX10_step_242 rfl ?_
    refine q_getR 30 10 12 212 (is_30 n) (by decide) rfl rfl (by decide) f_X10_34 rfl dX10_step_243 ?_
    refine q_iload_n dX10_step_246 rfl ?_
    refine q_iald 212 (_) hn (is_212 n) rfl (by show _ < 192; omega) dX10_step_247 ?_
    refine q_istore [(4, _), (3, _), (2, _), (0, _), (1, _)] dX10_step_248 (by decide) rfl ?_
    refine q_aload_n dX10_step_250 rfl ?_
    refine q_getR 30 10 13 213 (is_30 n) (by decide) rfl rfl (by decide) f_X10_37 rfl dX10_step_251 ?_
    refine q_iload_n dX10_step_254 rfl ?_
    refine q_iald 213 (_) hn (is_213 n) rfl (by show _ < 192; omega) dX10_step_255 ?_
    refine q_istore [(5, _), (4, _), (3, _), (2, _), (0, _), (1, _)] dX10_step_256 (by decide) rfl ?_
    refine q_aload_n dX10_step_258 rfl ?_
    refine q_getR 30 10 9 209 (is_30 n) (by decide) rfl rfl (by decide) f_X10_25 rfl dX10_step_259 ?_
    refine q_iload_n dX10_step_262 rfl ?_
    refine q_dup2 dX10_step_263 rfl rfl ?_
    refine q_iald 209 (_) hn (is_209 n) rfl (by show _ < 8; omega) dX10_step_264 ?_
    refine q_iconst (1) dX10_step_265 (by decide) ?_
    refine q_isub dX10_step_266 ?_
    have e2 : I 209 i - 1 = nI (N (I 209 i) - 1) := by
      obtain ⟨z, hz⟩ : ∃ z, N (I 209 i) = z + 1 := ⟨N (I 209 i) - 1, by omega⟩
      conv => lhs; rw [hq.1]
      rw [hz, nI_pred]
      rfl
    rw [e2]
    refine q_iast 209 (_) hn (is_209 n) rfl (by show _ < 8; omega) dX10_step_267 ?_
    refine q_aload_n dX10_step_268 rfl ?_
    refine q_getR 30 10 10 210 (is_30 n) (by decide) rfl rfl (by decide) f_X10_28 rfl dX10_step_269 ?_
    refine q_iload_n dX10_step_272 rfl ?_
    refine q_dup2 dX10_step_273 rfl rfl ?_
    refine q_iald 210 (_) hn (is_210 n) rfl (by show _ < 8; omega) dX10_step_274 ?_
    refine q_iconst (1) dX10_step_275 (by decide) ?_
    refine q_isub dX10_step_276 ?_
    have e3 : upI I 209 i (nI (N (I 209 i) - 1)) 210 i = I 210 i := by simp [rdI]
    rw [e3]
    refine q_iast 210 (_) hn (is_210 n) rfl (by show _ < 8; omega) dX10_step_277 ?_
    refine q_iload_n dX10_step_278 rfl ?_
    refine q_istore [(6, _), (5, _), (4, _), (3, _), (2, _), (0, _), (1, _)] dX10_step_279 (by decide) rfl ?_
    have key := r_sh_lp l n d (upI (upI I 209 i (nI (N (I 209 i) - 1))) 210 i (I 210 i - 1)) L (Q := Q) i (N (I 209 i) - 1) (I 211 (24 * i)) (I 212 (24 * i)) (I 213 (24 * i)) hn (by omega) (by simp [rdI]) (by omega)
    rw [Fsh_end I i hqp] at key
    have key2 := fun hq9 => key hq9 (N (I 209 i) - 1) 0 (by omega)
    rw [Fsh_0, Nat.add_zero] at key2
    refine key2 ?_
    -- the first is out of the queue
    obtain ⟨I3, hI3⟩ : ∃ I3, I3 = upI (Fdeq I i) 210 i (I 210 i - 1) := ⟨_, rfl⟩
    rw [← hI3]
    have hco3 : co I3 = Sbeg (co I) i := by rw [hI3, cu_210, co_deq, Sbeg, co_210]
    have hnc3 : nc I I3 := by rw [hI3]; exact (nc_deq I i).up (core_c (by decide) (by decide))
    have hV3 : Inv n I3 := by rw [hI3]; exact Inv_ba _ (Inv_deq h hi)
    have f208 : I3 208 i = I 208 i := by rw [hI3, upI_ne (by decide), Fdeq_ne (by decide) (by decide) (by decide) (by decide)]
    have f205 : I3 205 = I 205 := by rw [hI3, upI_ne (by decide), Fdeq_ne (by decide) (by decide) (by decide) (by decide)]
    have f3 : I3 30 3 = I 30 3 := by rw [hI3, upI_ne (by decide), Fdeq_ne (by decide) (by decide) (by decide) (by decide)]
    have f34 : I3 30 34 = I 30 34 := by rw [hI3, upI_ne (by decide), Fdeq_ne (by decide) (by decide) (by decide) (by decide)]
    have f41 : I3 30 41 = I 30 41 := by rw [hI3, upI_ne (by decide), Fdeq_ne (by decide) (by decide) (by decide) (by decide)]
    have ftr : tr I3 = tr I := by unfold tr; rw [f41]
    -- the end, from the log on
    have kend : ∀ L3, coL L3 = Tlast (co I) (coL L) i → KL L L3 → VP l n m_X10_step d 0 Q noX 0 368 [(5, .int (I 213 (24 * i))), (4, .int (I 212 (24 * i))), (3, .int (I 211 (24 * i))), (2, .int (nI (24 * i))), (0, .ref 30), (1, .int (nI i))] [] I3 L3 := by
      intro L3 hL3 hKL
      rcases hok with ⟨k2, w2⟩ | ⟨k01, w01⟩
      · have w22 := w2.2
        have h16 := h.2.2.2.2.1.1.2
        have eB : Lbeg n (co I) (coL L) i = LtopG n (nI i) (N (I 212 (24 * i))) (I 213 (24 * i)) (Flog (Sbeg (co I) i) (nI i) 1 (-1), Tlast (co I) (coL L) i, 0) := by
          rw [Lbeg, co_211, co_212, co_213, if_pos k2]
        rw [eB] at hQ
        rw [k2]
        refine q_aload_n dX10_step_368 rfl ?_
        refine q_iload_n dX10_step_369 rfl ?_
        refine q_iload_n dX10_step_370 rfl ?_
        refine q_iconst (1) dX10_step_371 (by decide) ?_
        refine q_icmp_ne 379 dX10_step_372 (by decide) (fun _ => ?_) (fun z => absurd z (by decide))
        refine q_iconst (1) dX10_step_379 (by decide) ?_
        refine q_iload_n dX10_step_380 rfl ?_
        refine q_iconst (2) dX10_step_381 (by decide) ?_
        refine q_icmp_ne 389 dX10_step_382 (by decide) (fun z => absurd rfl z) (fun _ => ?_)
        refine q_iconst (-1) dX10_step_385 (by decide) ?_
        refine q_goto 391 dX10_step_386 (by decide) ?_
        refine q_callv [.int _, .int _, .int _] o_X10_log rfl k_X10_155 rfl (is_30 n) (by decide) rfl dX10_step_391 (Nat.le_of_ble_eq_true rfl) (by omega) (by decide) (by omega) rfl (r_log l n hn (d - 1) I3 L3 (tr I) (nI i) 1 (-1) (by rw [f41]; exact hct) (by omega)) (fun _ _ _ h => h.elim) (fun I4 L4 hq1 => ?_)
        obtain ⟨-, z2, z3⟩ := hq1
        have z2 : I4 = Flog I3 (nI i) 1 (-1) := by rw [z2, ← ftr]; rfl
        subst z2
        cases z3.symm
        refine q_aload_n dX10_step_394 rfl ?_
        refine q_iload_n dX10_step_395 rfl ?_
        refine q_iconst (2) dX10_step_396 (by decide) ?_
        refine q_icmp_ne 404 dX10_step_397 (by decide) (fun z => absurd rfl z) (fun _ => ?_)
        refine q_iconst (4) dX10_step_400 (by decide) ?_
        refine q_goto 405 dX10_step_401 (by decide) ?_
        refine q_iload dX10_step_405 rfl ?_
        refine q_iload dX10_step_407 rfl ?_
        rw [w2.1]
        refine q_callv [.int _, .int _, .int _] o_X10_push rfl k_X10_209 rfl (is_30 n) (by decide) rfl dX10_step_409 (Nat.le_of_ble_eq_true rfl) (by omega) (by decide) (by omega) rfl (r_push l n (d - 1) (Flog I3 (nI i) 1 (-1)) L3 0 4 (nI (N (I 212 (24 * i)))) (I 213 (24 * i)) hn (by rw [show Flog I3 (nI i) 1 (-1) 30 45 = I3 30 45 from by simp [Flog, Rlog, rdI], hnc3 30 45 (by decide), h45]; rfl) (by omega)) (fun _ _ _ h => h.elim) (fun I5 L5 hq1 => ?_)
        obtain ⟨-, z2, z3⟩ := hq1
        subst z2
        cases z3.symm
        have hlg := Inv_log (nI i) 1 (-1) hV3 (by rw [ftr]; omega)
        have hR : RS (nI i) (Flog (Sbeg (co I) i) (nI i) 1 (-1), Tlast (co I) (coL L) i, 0) (Flog I3 (nI i) 1 (-1)) L3 := by
          have := RS_0 (th := nI i) (I := Flog I3 (nI i) 1 (-1)) (L := L3) (by rw [show Flog I3 (nI i) 1 (-1) 30 52 = I3 30 52 from by simp [Flog, Rlog, rdI], hnc3 30 52 (by decide), h52]) (by rw [show Flog I3 (nI i) 1 (-1) 30 51 = I3 30 51 from by simp [Flog, Rlog, rdI], hnc3 30 51 (by decide), h51])
          rw [co_log, hco3, hL3] at this
          exact this
        have hVx : Inv n (Flog (Sbeg (co I) i) (nI i) 1 (-1)) := by rw [← hco3, ← co_log, Inv_co]; exact hlg.1
        have hKx : HK (Flog (Sbeg (co I) i) (nI i) 1 (-1)) := fun j => by
          rw [← hco3, ← co_log, co_205, show Flog I3 (nI i) 1 (-1) 205 = I3 205 from by simp [Flog, Rlog, upI_ne], f205]
          exact hK j
        have hPh : Ph (Flog (Sbeg (co I) i) (nI i) 1 (-1), Tlast (co I) (coL L) i, 0) + 2150 < 2 ^ 31 := by
          have : tr (Flog (Sbeg (co I) i) (nI i) 1 (-1)) = tr I + 1 := by rw [← hco3, ← co_log, tr_co, hlg.2, ftr]
          simp only [Ph, this]
          omega
        have g34 : Flog (Sbeg (co I) i) (nI i) 1 (-1) 30 34 = I 30 34 := by
          rw [← hco3, ← co_log, co_30_34, ← f34]
          simp [Flog, Rlog, rdI]
        refine q_aload_n dX10_step_412 rfl ?_
        refine q_callv [] o_X10_run rfl k_X10_263 rfl (is_30 n) (by decide) rfl dX10_step_413 (Nat.le_of_ble_eq_true rfl) (by omega) (by decide) (by omega) rfl (r_runM (l := l) (d := d - 1) (ps := I 213 (24 * i)) hn hi (by omega) hR.push hVx hKx (by show N (I 212 (24 * i)) < N (Flog (Sbeg (co I) i) (nI i) 1 (-1) 30 34); rw [g34]; exact w22) hPh TP.push) (fun _ _ _ h => h.elim) (fun I6 L6 hq1 => ?_)
        obtain ⟨-, z2, z3, z4⟩ := hq1
        refine q_iconst (1) dX10_step_416 (by decide) ?_
        refine q_iret dX10_step_417 rfl (by omega) (hQ I6 L6 z2.1.1 z2.1.2 ?_ (hKL.tns z4))
        exact ((KP.nc hnc3).tns (KP.nc (nc_log _ _ _ _))).tns (KP.push.tns z3)
      · have w22 := w01.2
        have h24 := h.2.2.1.1.2
        have n2 : ¬ I 211 (24 * i) = 2 := by rcases k01 with z | z <;> rw [z] <;> decide
        have hlk : ∀ v, (if I 211 (24 * i) = 0 then (1 : Int32) else 5) = v → Lbeg n (co I) (coL L) i = Ltop n (nI i) (N (I 212 (24 * i))) (N (I 204 (N (I 212 (24 * i))))) 0 (Flog (Sbeg (co I) i) (nI i) v (I 212 (24 * i)), Tlast (co I) (coL L) i, 0) := fun v hv => by
          rw [Lbeg, co_211, co_212, co_204, if_neg n2, hv]
        have kend2 : ∀ v, (if I 211 (24 * i) = 0 then (1 : Int32) else 5) = v → VP l n m_X10_step d 0 Q noX 0 380 [(5, .int (I 213 (24 * i))), (4, .int (I 212 (24 * i))), (3, .int (I 211 (24 * i))), (2, .int (nI (24 * i))), (0, .ref 30), (1, .int (nI i))] [.int v, .int (nI i), .ref 30] I3 L3 := by
          intro v hv
          have eB := hlk v hv
          rw [eB] at hQ
          refine q_iload_n dX10_step_380 rfl ?_
          refine q_iconst (2) dX10_step_381 (by decide) ?_
          refine q_icmp_ne 389 dX10_step_382 (by decide) (fun _ => ?_) (fun z => absurd z n2)
          refine q_iload dX10_step_389 rfl ?_
          refine q_callv [.int _, .int _, .int _] o_X10_log rfl k_X10_155 rfl (is_30 n) (by decide) rfl dX10_step_391 (Nat.le_of_ble_eq_true rfl) (by omega) (by decide) (by omega) rfl (r_log l n hn (d - 1) I3 L3 (tr I) (nI i) v (I 212 (24 * i)) (by rw [f41]; exact hct) (by omega)) (fun _ _ _ h => h.elim) (fun I4 L4 hq1 => ?_)
          obtain ⟨-, z2, z3⟩ := hq1
          have z2 : I4 = Flog I3 (nI i) v (I 212 (24 * i)) := by rw [z2, ← ftr]; rfl
          subst z2
          cases z3.symm
          refine q_aload_n dX10_step_394 rfl ?_
          refine q_iload_n dX10_step_395 rfl ?_
          refine q_iconst (2) dX10_step_396 (by decide) ?_
          refine q_icmp_ne 404 dX10_step_397 (by decide) (fun _ => ?_) (fun z => absurd z n2)
          refine q_iconst (0) dX10_step_404 (by decide) ?_
          refine q_iload dX10_step_405 rfl ?_
          refine q_iload dX10_step_407 rfl ?_
          refine q_callv [.int _, .int _, .int _] o_X10_push rfl k_X10_209 rfl (is_30 n) (by decide) rfl dX10_step_409 (Nat.le_of_ble_eq_true rfl) (by omega) (by decide) (by omega) rfl (r_push l n (d - 1) (Flog I3 (nI i) v (I 212 (24 * i))) L3 0 0 (I 212 (24 * i)) (I 213 (24 * i)) hn (by rw [show Flog I3 (nI i) v (I 212 (24 * i)) 30 45 = I3 30 45 from by simp [Flog, Rlog, rdI], hnc3 30 45 (by decide), h45]; rfl) (by omega)) (fun _ _ _ h => h.elim) (fun I5 L5 hq1 => ?_)
          obtain ⟨-, z2, z3⟩ := hq1
          subst z2
          cases z3.symm
          have hlg := Inv_log (nI i) v (I 212 (24 * i)) hV3 (by rw [ftr]; omega)
          have hR : RS (nI i) (Flog (Sbeg (co I) i) (nI i) v (I 212 (24 * i)), Tlast (co I) (coL L) i, 0) (Flog I3 (nI i) v (I 212 (24 * i))) L3 := by
            have := RS_0 (th := nI i) (I := Flog I3 (nI i) v (I 212 (24 * i))) (L := L3) (by rw [show Flog I3 (nI i) v (I 212 (24 * i)) 30 52 = I3 30 52 from by simp [Flog, Rlog, rdI], hnc3 30 52 (by decide), h52]) (by rw [show Flog I3 (nI i) v (I 212 (24 * i)) 30 51 = I3 30 51 from by simp [Flog, Rlog, rdI], hnc3 30 51 (by decide), h51])
            rw [co_log, hco3, hL3] at this
            exact this
          have hVx : Inv n (Flog (Sbeg (co I) i) (nI i) v (I 212 (24 * i))) := by rw [← hco3, ← co_log, Inv_co]; exact hlg.1
          have hKx : HK (Flog (Sbeg (co I) i) (nI i) v (I 212 (24 * i))) := fun j => by
            rw [← hco3, ← co_log, co_205, show Flog I3 (nI i) v (I 212 (24 * i)) 205 = I3 205 from by simp [Flog, Rlog, upI_ne], f205]
            exact hK j
          have hPh : Ph (Flog (Sbeg (co I) i) (nI i) v (I 212 (24 * i)), Tlast (co I) (coL L) i, 0) + 2100 < 2 ^ 31 := by
            have : tr (Flog (Sbeg (co I) i) (nI i) v (I 212 (24 * i))) = tr I + 1 := by rw [← hco3, ← co_log, tr_co, hlg.2, ftr]
            simp only [Ph, this]
            omega
          have g3 : Flog (Sbeg (co I) i) (nI i) v (I 212 (24 * i)) 30 3 = I 30 3 := by
            rw [← hco3, ← co_log, co_30_3, ← f3]
            simp [Flog, Rlog, rdI]
          have g204 : Flog (Sbeg (co I) i) (nI i) v (I 212 (24 * i)) 204 = I 204 := by
            rw [← hco3, ← co_log, co_204, hI3]
            simp [Flog, Rlog, upI_ne, Fdeq_ne]
          have hTp : TP 0 (Rpush (Flog I3 (nI i) v (I 212 (24 * i))) 0 0 (I 212 (24 * i)) (I 213 (24 * i))) 0 (nI (N (I 212 (24 * i)))) (nI 0) (I 213 (24 * i)) 0 := by
            rw [← w01.1]
            exact TP.push
          refine q_aload_n dX10_step_412 rfl ?_
          refine q_callv [] o_X10_run rfl k_X10_263 rfl (is_30 n) (by decide) rfl dX10_step_413 (Nat.le_of_ble_eq_true rfl) (by omega) (by decide) (by omega) rfl (r_runT (l := l) (d := d - 1) hn hi (by omega) (show 0 + N (I 204 (N (I 212 (24 * i)))) = N (Flog (Sbeg (co I) i) (nI i) v (I 212 (24 * i)) 204 (N (I 212 (24 * i)))) from by rw [g204]; omega) hR.push hVx hKx (by show N (I 212 (24 * i)) < N (Flog (Sbeg (co I) i) (nI i) v (I 212 (24 * i)) 30 3); rw [g3]; exact w22) hPh hTp) (fun _ _ _ h => h.elim) (fun I6 L6 hq1 => ?_)
          obtain ⟨-, z2, z3, z4⟩ := hq1
          refine q_iconst (1) dX10_step_416 (by decide) ?_
          refine q_iret dX10_step_417 rfl (by omega) (hQ I6 L6 z2.1.1 z2.1.2 ?_ (hKL.tns z4))
          exact ((KP.nc hnc3).tns (KP.nc (nc_log _ _ _ _))).tns (KP.push.tns z3)
        refine q_aload_n dX10_step_368 rfl ?_
        refine q_iload_n dX10_step_369 rfl ?_
        refine q_iload_n dX10_step_370 rfl ?_
        refine q_iconst (1) dX10_step_371 (by decide) ?_
        refine q_icmp_ne 379 dX10_step_372 (by decide) (fun h372 => ?_) (fun h372 => ?_)
        · have h0 : I 211 (24 * i) = 0 := k01.resolve_right h372
          refine q_iconst (1) dX10_step_379 (by decide) ?_
          exact kend2 1 (by rw [if_pos h0])
        · refine q_iconst (5) dX10_step_375 (by decide) ?_
          refine q_goto 380 dX10_step_376 (by decide) ?_
          exact kend2 5 (by rw [if_neg (by rw [h372]; decide)])
    refine q_aload_n dX10_step_348 rfl ?_
    refine q_getR 30 10 8 208 (is_30 n) (by decide) rfl rfl (by decide) f_X10_22 rfl dX10_step_349 ?_
    refine q_iload_n dX10_step_352 rfl ?_
    refine q_iald 208 (_) hn (is_208 n) rfl (by show _ < 8; omega) dX10_step_353 ?_
    refine q_iconst (3) dX10_step_354 (by decide) ?_
    rw [f208]
    refine q_icmp_ne 368 dX10_step_355 (by decide) (fun h355 => ?_) (fun h355 => ?_)
    · exact kend L (by rw [Tlast, co_208, if_neg h355]) KL.rf
    · refine q_aload_n dX10_step_358 rfl ?_
      refine q_getR 30 10 21 221 (is_30 n) (by decide) rfl rfl (by decide) f_X10_63 rfl dX10_step_359 ?_
      refine q_iload_n dX10_step_362 rfl ?_
      refine q_aload_n dX10_step_363 rfl ?_
      refine q_getL 30 10 2 (is_30 n) (by decide) rfl (by decide) f_X10_182 rfl dX10_step_364 ?_
      refine q_last 221 (_) hn (is_221 n) rfl (by show _ < 8; omega) dX10_step_367 ?_
      exact kend _ (by rw [Tlast, co_208, if_pos h355, cuL_221]; rfl) (KL.nc (ncL.rf.up (core_c (by decide) (by decide))))
  · have eL : Lst2 n (co I) (coL L) i = (if okC (co I) (coL L) i then (3, Fbec (Fbec (co I) i 4) i 5, coL L) else (0, co I, coL L)) := by rw [Lst2, co_209, if_pos h207]
    rw [eL] at hQ
    have hokc : okC (co I) (coL L) i ↔ (I 208 i = 3 ∧ okR I L i) := by
      unfold okC okR
      rw [co_208, coL_218, coL_219, coL_220, coL_221, coL_30_2]
    refine q_aload_n dX10_step_210 rfl ?_
    refine q_getR 30 10 8 208 (is_30 n) (by decide) rfl rfl (by decide) f_X10_22 rfl dX10_step_211 ?_
    refine q_iload_n dX10_step_214 rfl ?_
    refine q_iald 208 (_) hn (is_208 n) rfl (by show _ < 8; omega) dX10_step_215 ?_
    refine q_iconst (3) dX10_step_216 (by decide) ?_
    refine q_icmp_ne 228 dX10_step_217 (by decide) (fun h217 => ?_) (fun h217 => ?_)
    · rw [if_neg (fun q => h217 (hokc.mp q).1)] at hQ
      refine q_iconst (0) dX10_step_228 (by decide) ?_
      exact q_iret dX10_step_229 rfl (by omega) (hQ I L rfl rfl KP.rf KL.rf)
    · refine q_aload_n dX10_step_220 rfl ?_
      refine q_iload_n dX10_step_221 rfl ?_
      refine q_calli [.int _] o_X10_confirm rfl k_X10_269 rfl (is_30 n) (by decide) rfl dX10_step_222 (Nat.le_of_ble_eq_true rfl) (by omega) (by decide) (by omega) (Or.inl rfl) (r_confirm l n (d - 1) I L i hn (by omega) hct (by omega) (by omega)) (fun _ _ _ h => h.elim) (fun r1 I1 L1 hq1 => ?_)
      obtain ⟨z1, z2, z3⟩ := hq1
      cases z1
      subst z2
      cases z3.symm
      refine q_goto 229 dX10_step_225 (by decide) ?_
      by_cases hk : okR I L i
      · rw [if_pos (hokc.mpr ⟨h217, hk⟩)] at hQ
        rw [if_pos hk, if_pos hk]
        exact q_iret dX10_step_229 rfl (by omega) (hQ _ L (by rw [co_bec, co_bec]) rfl (KP.nc ((nc_bec _ _ _).tr (nc_bec _ _ _))) KL.rf)
      · rw [if_neg (fun q => hk (hokc.mp q).2)] at hQ
        rw [if_neg hk, if_neg hk]
        exact q_iret dX10_step_229 rfl (by omega) (hQ I L rfl rfl KP.rf KL.rf)
end

