/-! ===== the cases of the law ===== -/
section LAWC
variable {l : Launch} {n : Nat} {p : Program} {e : Env} {s : State} {m : MethodId} {args : Array Value} {below : List Frame} {meth : Method} {c : Code} {a : Nat → Nat} {cs : vq_S} {D : va_G} {A : Nat → Prop} {b Ls : Nat} {xs : Nat → Int32} {Z : State → Prop} {H : Heap} {locs : List Loc} {ls : Array Slot} {k sl : Nat} {I : MI} {L : ML}
set_option maxHeartbeats 4000000 in
theorem lc_task (X : LB l n cs D A p s m args c b Ls xs) {i q : Nat} (hi : i + 4 < Ls) (hq : q ≤ 64) (hk : k + 3 ≤ 600128) (hs : sl + 18 ≤ 7301064) (h : LI n q I L) (hP : va_P D vwCl (vq_W n a cs I L) H) (hD : va_D A (vq_W n a cs I L)) (hS : va_S A s.heap H locs) (hl : lv_has ls 8 (Lv5 a b i)) (kk : LK l n p e s m args below meth c a cs D A b Z (q + 1) i (k + 3) (sl + 18)) : W p l e room_1 s m args below meth c H locs k sl Z (F0 m 136 ls []) := by
  have C := X.1
  have hn : n < 2 ^ 31 := by have := X.2.2.2.2.2.1; omega
  have hb : tr (co I) + 40200 < 2 ^ 31 := by have := h.2.2; omega
  obtain ⟨w, hw⟩ := h.1
  refine lv_aload_n C.1 C.2.1 dL_law_136 rfl (lv_at hl 1 rfl) ?_
  refine lv_aload_n C.1 C.2.1 dL_law_137 rfl (lv_at hl 3 rfl) ?_
  refine vl_calls (As := [.ref 0, .ref 90]) (rest := []) (d' := 200) (K' := 3) o_L_task rfl kL_83 dL_law_138 (Nat.le_of_ble_eq_true rfl) ⟨by decide, by decide⟩ ⟨hk, hs⟩ rfl (L_task l n 200 I L X.2.2.2.2.1  hn hw  (by decide)) C hP hD hS hl.1 (fun r I1 L1 H1 locs1 hq1 hP1 hD1 hS1 => ?_)
  obtain ⟨e1, e2, e3⟩ := hq1
  cases e1
  obtain ⟨⟨w2, c2⟩, e4, e5⟩ := id e3
  obtain ⟨i1, i2, i3, i4⟩ := HI_ref h.2.1 e4
  have ht : tr I1 + 42300 < 2 ^ 31 := by
    have e9 : tr I1 = tr (co I) := by rw [← e4]; rfl
    have := h.2.2
    omega
  refine lv_istore (lv' := (5, .int _) :: Lv5 a b i) C.1 C.2.1 dL_law_141 hl (by decide) rfl (fun ls1 hl1 => ?_)
  refine lv_aload_n C.1 C.2.1 dL_law_143 rfl (lv_at hl1 3 rfl) ?_
  refine vl_calli (As := []) (rest := []) (d' := 200) (K' := 0) o_X10_task rfl kL_86 (is_30 n) (by decide) rfl dL_law_144 (Nat.le_of_ble_eq_true rfl) ⟨by decide, by decide⟩ ⟨hk, hs⟩ (Or.inl rfl) (rh_task l n 200 I1 L1  hn i1  (by decide)) C hP1 hD1 hS1 hl1.1 (fun E ce q9 I' L' H' locs' hx _ _ _ _ _ _ => hx.elim) (fun r2 I2 L2 H2 locs2 hq2 hP2 hD2 hS2 => ?_)
  obtain ⟨f1, f2, f3, f4, f5⟩ := hq2
  rw [e4, e5] at f1 f2 f3
  cases f1
  refine lv_istore (lv' := (6, .int _) :: (5, .int _) :: Lv5 a b i) C.1 C.2.1 dL_law_147 hl1 (by decide) rfl (fun ls2 hl2 => ?_)
  refine lv_aload_n C.1 C.2.1 dL_law_149 rfl (lv_at hl2 4 rfl) ?_
  refine vl_calli (As := []) (rest := []) (d' := 200) (K' := 0) o_X10_thrown rfl kL_87 (is_30 n) (by decide) rfl dL_law_150 (Nat.le_of_ble_eq_true rfl) ⟨by decide, by decide⟩ ⟨hk, hs⟩ (Or.inl rfl) (r_thrown l n 200 I2 L2) C hP2 hD2 hS2 hl2.1 (fun E ce q9 I' L' H' locs' hx _ _ _ _ _ _ => hx.elim) (fun r3 I3 L3 H3 locs3 hq3 hP3 hD3 hS3 => ?_)
  obtain ⟨g1, g2, g3⟩ := hq3
  cases g1; cases g2.symm; cases g3.symm
  refine lv_iload C.1 C.2.1 dL_law_153 (lv_at hl2 1 rfl) ?_
  refine lv_icmp_eq (tgt := 160) C.1 C.2.1 dL_law_155 rfl (fun _ => ?_) (fun z => absurd f2 z)
  refine lv_iload C.1 C.2.1 dL_law_160 (lv_at hl2 1 rfl) ?_
  refine lv_if_ne (tgt := 177) C.1 C.2.1 dL_law_162 rfl (fun _ => ?_) (fun z => ?_)
  · skip
    refine lv_goto (tgt := 1220) C.1 C.2.1 dL_law_177 rfl ?_
    exact kk I2 L2 H3 locs3 ls2 (LI_next h e3 f3 f4 f5 (HG_task  h.2.1 c2.2.1)) hP3 hD3 hS3 (lv_drop hl2 (by intro q9 h9; simp only [Lv5, List.mem_cons, List.not_mem_nil, or_false] at h9 ⊢; rcases h9 with h9 | h9 | h9 | h9 | h9 <;> simp [h9]))
  · have e9 : L2 90 0 = (Htask (co I) (coL L) ).2.1.toInt64 := by rw [f5 90 (by decide)]; exact e2 z
    refine lv_aload_n C.1 C.2.1 dL_law_165 rfl (lv_at hl2 5 rfl) ?_
    refine lv_iconst (v := 0) C.1 C.2.1 dL_law_166 rfl ?_
    refine vl_lald dL_law_167 C hP3 ?_
    rw [e9]
    refine lv_iload C.1 C.2.1 dL_law_168 (lv_at hl2 0 rfl) ?_
    refine lv_i2l C.1 C.2.1 dL_law_170 rfl ?_
    refine W.lcmp C.1 C.2.1 dL_law_171 ?_
    rw [lg_cmp_self]
    refine lv_if_eq (tgt := 177) C.1 C.2.1 dL_law_172 rfl (fun _ => ?_) (fun z => absurd rfl z)
    refine lv_goto (tgt := 1220) C.1 C.2.1 dL_law_177 rfl ?_
    exact kk I2 L2 H3 locs3 ls2 (LI_next h e3 f3 f4 f5 (HG_task  h.2.1 c2.2.1)) hP3 hD3 hS3 (lv_drop hl2 (by intro q9 h9; simp only [Lv5, List.mem_cons, List.not_mem_nil, or_false] at h9 ⊢; rcases h9 with h9 | h9 | h9 | h9 | h9 <;> simp [h9]))
set_option maxHeartbeats 4000000 in
theorem lc_order (X : LB l n cs D A p s m args c b Ls xs) {i q : Nat} (hi : i + 4 < Ls) (hq : q ≤ 64) (hk : k + 3 ≤ 600128) (hs : sl + 18 ≤ 7301064) (h : LI n q I L) (hP : va_P D vwCl (vq_W n a cs I L) H) (hD : va_D A (vq_W n a cs I L)) (hS : va_S A s.heap H locs) (hl : lv_has ls 8 (Lv5 a b i)) (kk : LK l n p e s m args below meth c a cs D A b Z (q + 1) i (k + 3) (sl + 18)) : W p l e room_1 s m args below meth c H locs k sl Z (F0 m 180 ls []) := by
  have C := X.1
  have hn : n < 2 ^ 31 := by have := X.2.2.2.2.2.1; omega
  have hb : tr (co I) + 40200 < 2 ^ 31 := by have := h.2.2; omega
  obtain ⟨w, hw⟩ := h.1
  refine lv_aload_n C.1 C.2.1 dL_law_180 rfl (lv_at hl 1 rfl) ?_
  refine ls_arg (nk := 0) (i := i) (j := 1) X hS hl rfl rfl rfl (by decide) hi dL_law_181 dL_law_182 dL_law_184 dL_law_185 dL_law_186 ?_
  refine ls_arg (nk := 0) (i := i) (j := 2) X hS hl rfl rfl rfl (by decide) hi dL_law_187 dL_law_188 dL_law_190 dL_law_191 dL_law_192 ?_
  refine ls_arg (nk := 0) (i := i) (j := 3) X hS hl rfl rfl rfl (by decide) hi dL_law_193 dL_law_194 dL_law_196 dL_law_197 dL_law_198 ?_
  refine ls_arg (nk := 0) (i := i) (j := 4) X hS hl rfl rfl rfl (by decide) hi dL_law_199 dL_law_200 dL_law_202 dL_law_203 dL_law_204 ?_
  refine lv_aload_n C.1 C.2.1 dL_law_205 rfl (lv_at hl 3 rfl) ?_
  refine vl_calls (As := [.ref 0, .int (xs (i + 1)), .int (xs (i + 2)), .int (xs (i + 3)), .int (xs (i + 4)), .ref 90]) (rest := []) (d' := 200) (K' := 3) o_L_order rfl kL_90 dL_law_206 (Nat.le_of_ble_eq_true rfl) ⟨by decide, by decide⟩ ⟨hk, hs⟩ rfl (L_order l n 200 I L X.2.2.2.2.1 (xs (i + 1)) (xs (i + 2)) (xs (i + 3)) (xs (i + 4)) hn hw  (by decide)) C hP hD hS hl.1 (fun r I1 L1 H1 locs1 hq1 hP1 hD1 hS1 => ?_)
  obtain ⟨e1, e2, e3⟩ := hq1
  cases e1
  obtain ⟨⟨w2, c2⟩, e4, e5⟩ := id e3
  obtain ⟨i1, i2, i3, i4⟩ := HI_ref h.2.1 e4
  have ht : tr I1 + 42300 < 2 ^ 31 := by
    have e9 : tr I1 = tr (co I) := by rw [← e4]; rfl
    have := h.2.2
    omega
  refine lv_istore (lv' := (5, .int _) :: Lv5 a b i) C.1 C.2.1 dL_law_209 hl (by decide) rfl (fun ls1 hl1 => ?_)
  refine lv_aload_n C.1 C.2.1 dL_law_211 rfl (lv_at hl1 3 rfl) ?_
  refine ls_arg (nk := 1) (i := i) (j := 1) X hS1 hl1 rfl rfl rfl (by decide) hi dL_law_212 dL_law_213 dL_law_215 dL_law_216 dL_law_217 ?_
  refine ls_arg (nk := 1) (i := i) (j := 2) X hS1 hl1 rfl rfl rfl (by decide) hi dL_law_218 dL_law_219 dL_law_221 dL_law_222 dL_law_223 ?_
  refine ls_arg (nk := 1) (i := i) (j := 3) X hS1 hl1 rfl rfl rfl (by decide) hi dL_law_224 dL_law_225 dL_law_227 dL_law_228 dL_law_229 ?_
  refine ls_arg (nk := 1) (i := i) (j := 4) X hS1 hl1 rfl rfl rfl (by decide) hi dL_law_230 dL_law_231 dL_law_233 dL_law_234 dL_law_235 ?_
  refine vl_calli (As := [.int (xs (i + 1)), .int (xs (i + 2)), .int (xs (i + 3)), .int (xs (i + 4))]) (rest := []) (d' := 200) (K' := 0) o_X10_order rfl kL_93 (is_30 n) (by decide) rfl dL_law_236 (Nat.le_of_ble_eq_true rfl) ⟨by decide, by decide⟩ ⟨hk, hs⟩ (Or.inl rfl) (rh_order l n 200 I1 L1 (xs (i + 1)) (xs (i + 2)) (xs (i + 3)) (xs (i + 4)) hn i1  (by decide)) C hP1 hD1 hS1 hl1.1 (fun E ce q9 I' L' H' locs' hx _ _ _ _ _ _ => hx.elim) (fun r2 I2 L2 H2 locs2 hq2 hP2 hD2 hS2 => ?_)
  obtain ⟨f1, f2, f3, f4, f5⟩ := hq2
  rw [e4, e5] at f1 f2 f3
  cases f1
  refine lv_istore (lv' := (6, .int _) :: (5, .int _) :: Lv5 a b i) C.1 C.2.1 dL_law_239 hl1 (by decide) rfl (fun ls2 hl2 => ?_)
  refine lv_aload_n C.1 C.2.1 dL_law_241 rfl (lv_at hl2 4 rfl) ?_
  refine vl_calli (As := []) (rest := []) (d' := 200) (K' := 0) o_X10_thrown rfl kL_87 (is_30 n) (by decide) rfl dL_law_242 (Nat.le_of_ble_eq_true rfl) ⟨by decide, by decide⟩ ⟨hk, hs⟩ (Or.inl rfl) (r_thrown l n 200 I2 L2) C hP2 hD2 hS2 hl2.1 (fun E ce q9 I' L' H' locs' hx _ _ _ _ _ _ => hx.elim) (fun r3 I3 L3 H3 locs3 hq3 hP3 hD3 hS3 => ?_)
  obtain ⟨g1, g2, g3⟩ := hq3
  cases g1; cases g2.symm; cases g3.symm
  refine lv_iload C.1 C.2.1 dL_law_245 (lv_at hl2 1 rfl) ?_
  refine lv_icmp_eq (tgt := 252) C.1 C.2.1 dL_law_247 rfl (fun _ => ?_) (fun z => absurd f2 z)
  refine lv_iload C.1 C.2.1 dL_law_252 (lv_at hl2 1 rfl) ?_
  refine lv_if_ne (tgt := 269) C.1 C.2.1 dL_law_254 rfl (fun _ => ?_) (fun z => ?_)
  · skip
    refine lv_goto (tgt := 1220) C.1 C.2.1 dL_law_269 rfl ?_
    exact kk I2 L2 H3 locs3 ls2 (LI_next h e3 f3 f4 f5 (HG_order (xs (i + 1)) (xs (i + 2)) (xs (i + 3)) (xs (i + 4)) h.2.1 c2.2.1)) hP3 hD3 hS3 (lv_drop hl2 (by intro q9 h9; simp only [Lv5, List.mem_cons, List.not_mem_nil, or_false] at h9 ⊢; rcases h9 with h9 | h9 | h9 | h9 | h9 <;> simp [h9]))
  · have e9 : L2 90 0 = (Horder (co I) (coL L) (xs (i + 1)) (xs (i + 2)) (xs (i + 3)) (xs (i + 4))).2.1.toInt64 := by rw [f5 90 (by decide)]; exact e2 z
    refine lv_aload_n C.1 C.2.1 dL_law_257 rfl (lv_at hl2 5 rfl) ?_
    refine lv_iconst (v := 0) C.1 C.2.1 dL_law_258 rfl ?_
    refine vl_lald dL_law_259 C hP3 ?_
    rw [e9]
    refine lv_iload C.1 C.2.1 dL_law_260 (lv_at hl2 0 rfl) ?_
    refine lv_i2l C.1 C.2.1 dL_law_262 rfl ?_
    refine W.lcmp C.1 C.2.1 dL_law_263 ?_
    rw [lg_cmp_self]
    refine lv_if_eq (tgt := 269) C.1 C.2.1 dL_law_264 rfl (fun _ => ?_) (fun z => absurd rfl z)
    refine lv_goto (tgt := 1220) C.1 C.2.1 dL_law_269 rfl ?_
    exact kk I2 L2 H3 locs3 ls2 (LI_next h e3 f3 f4 f5 (HG_order (xs (i + 1)) (xs (i + 2)) (xs (i + 3)) (xs (i + 4)) h.2.1 c2.2.1)) hP3 hD3 hS3 (lv_drop hl2 (by intro q9 h9; simp only [Lv5, List.mem_cons, List.not_mem_nil, or_false] at h9 ⊢; rcases h9 with h9 | h9 | h9 | h9 | h9 <;> simp [h9]))
set_option maxHeartbeats 4000000 in
theorem lc_promise (X : LB l n cs D A p s m args c b Ls xs) {i q : Nat} (hi : i + 4 < Ls) (hq : q ≤ 64) (hk : k + 3 ≤ 600128) (hs : sl + 18 ≤ 7301064) (h : LI n q I L) (hP : va_P D vwCl (vq_W n a cs I L) H) (hD : va_D A (vq_W n a cs I L)) (hS : va_S A s.heap H locs) (hl : lv_has ls 8 (Lv5 a b i)) (kk : LK l n p e s m args below meth c a cs D A b Z (q + 1) i (k + 3) (sl + 18)) : W p l e room_1 s m args below meth c H locs k sl Z (F0 m 272 ls []) := by
  have C := X.1
  have hn : n < 2 ^ 31 := by have := X.2.2.2.2.2.1; omega
  have hb : tr (co I) + 40200 < 2 ^ 31 := by have := h.2.2; omega
  obtain ⟨w, hw⟩ := h.1
  refine lv_aload_n C.1 C.2.1 dL_law_272 rfl (lv_at hl 1 rfl) ?_
  refine ls_arg (nk := 0) (i := i) (j := 1) X hS hl rfl rfl rfl (by decide) hi dL_law_273 dL_law_274 dL_law_276 dL_law_277 dL_law_278 ?_
  refine lv_aload_n C.1 C.2.1 dL_law_279 rfl (lv_at hl 3 rfl) ?_
  refine vl_calls (As := [.ref 0, .int (xs (i + 1)), .ref 90]) (rest := []) (d' := 200) (K' := 3) o_L_promise rfl kL_94 dL_law_280 (Nat.le_of_ble_eq_true rfl) ⟨by decide, by decide⟩ ⟨hk, hs⟩ rfl (L_promise l n 200 I L X.2.2.2.2.1 (xs (i + 1)) hn hw h.2.1.2.2.2.2.1 (by decide)) C hP hD hS hl.1 (fun r I1 L1 H1 locs1 hq1 hP1 hD1 hS1 => ?_)
  obtain ⟨e1, e2, e3⟩ := hq1
  cases e1
  obtain ⟨⟨w2, c2⟩, e4, e5⟩ := id e3
  obtain ⟨i1, i2, i3, i4⟩ := HI_ref h.2.1 e4
  have ht : tr I1 + 42300 < 2 ^ 31 := by
    have e9 : tr I1 = tr (co I) := by rw [← e4]; rfl
    have := h.2.2
    omega
  refine lv_istore (lv' := (5, .int _) :: Lv5 a b i) C.1 C.2.1 dL_law_283 hl (by decide) rfl (fun ls1 hl1 => ?_)
  refine lv_aload_n C.1 C.2.1 dL_law_285 rfl (lv_at hl1 3 rfl) ?_
  refine ls_arg (nk := 1) (i := i) (j := 1) X hS1 hl1 rfl rfl rfl (by decide) hi dL_law_286 dL_law_287 dL_law_289 dL_law_290 dL_law_291 ?_
  refine vl_calli (As := [.int (xs (i + 1))]) (rest := []) (d' := 200) (K' := 0) o_X10_promise rfl kL_97 (is_30 n) (by decide) rfl dL_law_292 (Nat.le_of_ble_eq_true rfl) ⟨by decide, by decide⟩ ⟨hk, hs⟩ (Or.inl rfl) (rh_promise l n 200 I1 L1 (xs (i + 1)) hn i1  (by decide)) C hP1 hD1 hS1 hl1.1 (fun E ce q9 I' L' H' locs' hx _ _ _ _ _ _ => hx.elim) (fun r2 I2 L2 H2 locs2 hq2 hP2 hD2 hS2 => ?_)
  obtain ⟨f1, f2, f3, f4, f5⟩ := hq2
  rw [e4, e5] at f1 f2 f3
  cases f1
  refine lv_istore (lv' := (6, .int _) :: (5, .int _) :: Lv5 a b i) C.1 C.2.1 dL_law_295 hl1 (by decide) rfl (fun ls2 hl2 => ?_)
  refine lv_aload_n C.1 C.2.1 dL_law_297 rfl (lv_at hl2 4 rfl) ?_
  refine vl_calli (As := []) (rest := []) (d' := 200) (K' := 0) o_X10_thrown rfl kL_87 (is_30 n) (by decide) rfl dL_law_298 (Nat.le_of_ble_eq_true rfl) ⟨by decide, by decide⟩ ⟨hk, hs⟩ (Or.inl rfl) (r_thrown l n 200 I2 L2) C hP2 hD2 hS2 hl2.1 (fun E ce q9 I' L' H' locs' hx _ _ _ _ _ _ => hx.elim) (fun r3 I3 L3 H3 locs3 hq3 hP3 hD3 hS3 => ?_)
  obtain ⟨g1, g2, g3⟩ := hq3
  cases g1; cases g2.symm; cases g3.symm
  refine lv_iload C.1 C.2.1 dL_law_301 (lv_at hl2 1 rfl) ?_
  refine lv_icmp_eq (tgt := 308) C.1 C.2.1 dL_law_303 rfl (fun _ => ?_) (fun z => absurd f2 z)
  refine lv_iload C.1 C.2.1 dL_law_308 (lv_at hl2 1 rfl) ?_
  refine lv_if_ne (tgt := 325) C.1 C.2.1 dL_law_310 rfl (fun _ => ?_) (fun z => ?_)
  · skip
    refine lv_goto (tgt := 1220) C.1 C.2.1 dL_law_325 rfl ?_
    exact kk I2 L2 H3 locs3 ls2 (LI_next h e3 f3 f4 f5 (HG_promise (xs (i + 1)) h.2.1 c2.2.1)) hP3 hD3 hS3 (lv_drop hl2 (by intro q9 h9; simp only [Lv5, List.mem_cons, List.not_mem_nil, or_false] at h9 ⊢; rcases h9 with h9 | h9 | h9 | h9 | h9 <;> simp [h9]))
  · have e9 : L2 90 0 = (Hpromise n (co I) (coL L) (xs (i + 1))).2.1.toInt64 := by rw [f5 90 (by decide)]; exact e2 z
    refine lv_aload_n C.1 C.2.1 dL_law_313 rfl (lv_at hl2 5 rfl) ?_
    refine lv_iconst (v := 0) C.1 C.2.1 dL_law_314 rfl ?_
    refine vl_lald dL_law_315 C hP3 ?_
    rw [e9]
    refine lv_iload C.1 C.2.1 dL_law_316 (lv_at hl2 0 rfl) ?_
    refine lv_i2l C.1 C.2.1 dL_law_318 rfl ?_
    refine W.lcmp C.1 C.2.1 dL_law_319 ?_
    rw [lg_cmp_self]
    refine lv_if_eq (tgt := 325) C.1 C.2.1 dL_law_320 rfl (fun _ => ?_) (fun z => absurd rfl z)
    refine lv_goto (tgt := 1220) C.1 C.2.1 dL_law_325 rfl ?_
    exact kk I2 L2 H3 locs3 ls2 (LI_next h e3 f3 f4 f5 (HG_promise (xs (i + 1)) h.2.1 c2.2.1)) hP3 hD3 hS3 (lv_drop hl2 (by intro q9 h9; simp only [Lv5, List.mem_cons, List.not_mem_nil, or_false] at h9 ⊢; rcases h9 with h9 | h9 | h9 | h9 | h9 <;> simp [h9]))
set_option maxHeartbeats 4000000 in
theorem lc_channels (X : LB l n cs D A p s m args c b Ls xs) {i q : Nat} (hi : i + 4 < Ls) (hq : q ≤ 64) (hk : k + 3 ≤ 600128) (hs : sl + 18 ≤ 7301064) (h : LI n q I L) (hP : va_P D vwCl (vq_W n a cs I L) H) (hD : va_D A (vq_W n a cs I L)) (hS : va_S A s.heap H locs) (hl : lv_has ls 8 (Lv5 a b i)) (kk : LK l n p e s m args below meth c a cs D A b Z (q + 1) i (k + 3) (sl + 18)) : W p l e room_1 s m args below meth c H locs k sl Z (F0 m 328 ls []) := by
  have C := X.1
  have hn : n < 2 ^ 31 := by have := X.2.2.2.2.2.1; omega
  have hb : tr (co I) + 40200 < 2 ^ 31 := by have := h.2.2; omega
  obtain ⟨w, hw⟩ := h.1
  refine lv_aload_n C.1 C.2.1 dL_law_328 rfl (lv_at hl 1 rfl) ?_
  refine ls_arg (nk := 0) (i := i) (j := 1) X hS hl rfl rfl rfl (by decide) hi dL_law_329 dL_law_330 dL_law_332 dL_law_333 dL_law_334 ?_
  refine ls_arg (nk := 0) (i := i) (j := 2) X hS hl rfl rfl rfl (by decide) hi dL_law_335 dL_law_336 dL_law_338 dL_law_339 dL_law_340 ?_
  refine lv_aload_n C.1 C.2.1 dL_law_341 rfl (lv_at hl 3 rfl) ?_
  refine vl_calls (As := [.ref 0, .int (xs (i + 1)), .int (xs (i + 2)), .ref 90]) (rest := []) (d' := 200) (K' := 3) o_L_channels rfl kL_98 dL_law_342 (Nat.le_of_ble_eq_true rfl) ⟨by decide, by decide⟩ ⟨hk, hs⟩ rfl (L_channels l n 200 I L X.2.2.2.2.1 (xs (i + 1)) (xs (i + 2)) hn hw h.2.1.2.2.2.2.2 (by decide)) C hP hD hS hl.1 (fun r I1 L1 H1 locs1 hq1 hP1 hD1 hS1 => ?_)
  obtain ⟨e1, e2, e3⟩ := hq1
  cases e1
  obtain ⟨⟨w2, c2⟩, e4, e5⟩ := id e3
  obtain ⟨i1, i2, i3, i4⟩ := HI_ref h.2.1 e4
  have ht : tr I1 + 42300 < 2 ^ 31 := by
    have e9 : tr I1 = tr (co I) := by rw [← e4]; rfl
    have := h.2.2
    omega
  refine lv_istore (lv' := (5, .int _) :: Lv5 a b i) C.1 C.2.1 dL_law_345 hl (by decide) rfl (fun ls1 hl1 => ?_)
  refine lv_aload_n C.1 C.2.1 dL_law_347 rfl (lv_at hl1 3 rfl) ?_
  refine ls_arg (nk := 1) (i := i) (j := 1) X hS1 hl1 rfl rfl rfl (by decide) hi dL_law_348 dL_law_349 dL_law_351 dL_law_352 dL_law_353 ?_
  refine ls_arg (nk := 1) (i := i) (j := 2) X hS1 hl1 rfl rfl rfl (by decide) hi dL_law_354 dL_law_355 dL_law_357 dL_law_358 dL_law_359 ?_
  refine vl_calli (As := [.int (xs (i + 1)), .int (xs (i + 2))]) (rest := []) (d' := 200) (K' := 0) o_X10_channels rfl kL_101 (is_30 n) (by decide) rfl dL_law_360 (Nat.le_of_ble_eq_true rfl) ⟨by decide, by decide⟩ ⟨hk, hs⟩ (Or.inl rfl) (rh_channels l n 200 I1 L1 (xs (i + 1)) (xs (i + 2)) hn i1  (by decide)) C hP1 hD1 hS1 hl1.1 (fun E ce q9 I' L' H' locs' hx _ _ _ _ _ _ => hx.elim) (fun r2 I2 L2 H2 locs2 hq2 hP2 hD2 hS2 => ?_)
  obtain ⟨f1, f2, f3, f4, f5⟩ := hq2
  rw [e4, e5] at f1 f2 f3
  cases f1
  refine lv_istore (lv' := (6, .int _) :: (5, .int _) :: Lv5 a b i) C.1 C.2.1 dL_law_363 hl1 (by decide) rfl (fun ls2 hl2 => ?_)
  refine lv_aload_n C.1 C.2.1 dL_law_365 rfl (lv_at hl2 4 rfl) ?_
  refine vl_calli (As := []) (rest := []) (d' := 200) (K' := 0) o_X10_thrown rfl kL_87 (is_30 n) (by decide) rfl dL_law_366 (Nat.le_of_ble_eq_true rfl) ⟨by decide, by decide⟩ ⟨hk, hs⟩ (Or.inl rfl) (r_thrown l n 200 I2 L2) C hP2 hD2 hS2 hl2.1 (fun E ce q9 I' L' H' locs' hx _ _ _ _ _ _ => hx.elim) (fun r3 I3 L3 H3 locs3 hq3 hP3 hD3 hS3 => ?_)
  obtain ⟨g1, g2, g3⟩ := hq3
  cases g1; cases g2.symm; cases g3.symm
  refine lv_iload C.1 C.2.1 dL_law_369 (lv_at hl2 1 rfl) ?_
  refine lv_icmp_eq (tgt := 376) C.1 C.2.1 dL_law_371 rfl (fun _ => ?_) (fun z => absurd f2 z)
  refine lv_iload C.1 C.2.1 dL_law_376 (lv_at hl2 1 rfl) ?_
  refine lv_if_ne (tgt := 393) C.1 C.2.1 dL_law_378 rfl (fun _ => ?_) (fun z => ?_)
  · skip
    refine lv_goto (tgt := 1220) C.1 C.2.1 dL_law_393 rfl ?_
    exact kk I2 L2 H3 locs3 ls2 (LI_next h e3 f3 f4 f5 (HG_channels (xs (i + 1)) (xs (i + 2)) h.2.1 c2.2.1)) hP3 hD3 hS3 (lv_drop hl2 (by intro q9 h9; simp only [Lv5, List.mem_cons, List.not_mem_nil, or_false] at h9 ⊢; rcases h9 with h9 | h9 | h9 | h9 | h9 <;> simp [h9]))
  · have e9 : L2 90 0 = (Hchannels n (co I) (coL L) (xs (i + 1)) (xs (i + 2))).2.1.toInt64 := by rw [f5 90 (by decide)]; exact e2 z
    refine lv_aload_n C.1 C.2.1 dL_law_381 rfl (lv_at hl2 5 rfl) ?_
    refine lv_iconst (v := 0) C.1 C.2.1 dL_law_382 rfl ?_
    refine vl_lald dL_law_383 C hP3 ?_
    rw [e9]
    refine lv_iload C.1 C.2.1 dL_law_384 (lv_at hl2 0 rfl) ?_
    refine lv_i2l C.1 C.2.1 dL_law_386 rfl ?_
    refine W.lcmp C.1 C.2.1 dL_law_387 ?_
    rw [lg_cmp_self]
    refine lv_if_eq (tgt := 393) C.1 C.2.1 dL_law_388 rfl (fun _ => ?_) (fun z => absurd rfl z)
    refine lv_goto (tgt := 1220) C.1 C.2.1 dL_law_393 rfl ?_
    exact kk I2 L2 H3 locs3 ls2 (LI_next h e3 f3 f4 f5 (HG_channels (xs (i + 1)) (xs (i + 2)) h.2.1 c2.2.1)) hP3 hD3 hS3 (lv_drop hl2 (by intro q9 h9; simp only [Lv5, List.mem_cons, List.not_mem_nil, or_false] at h9 ⊢; rcases h9 with h9 | h9 | h9 | h9 | h9 <;> simp [h9]))
set_option maxHeartbeats 4000000 in
theorem lc_handler (X : LB l n cs D A p s m args c b Ls xs) {i q : Nat} (hi : i + 4 < Ls) (hq : q ≤ 64) (hk : k + 3 ≤ 600128) (hs : sl + 18 ≤ 7301064) (h : LI n q I L) (hP : va_P D vwCl (vq_W n a cs I L) H) (hD : va_D A (vq_W n a cs I L)) (hS : va_S A s.heap H locs) (hl : lv_has ls 8 (Lv5 a b i)) (kk : LK l n p e s m args below meth c a cs D A b Z (q + 1) i (k + 3) (sl + 18)) : W p l e room_1 s m args below meth c H locs k sl Z (F0 m 396 ls []) := by
  have C := X.1
  have hn : n < 2 ^ 31 := by have := X.2.2.2.2.2.1; omega
  have hb : tr (co I) + 40200 < 2 ^ 31 := by have := h.2.2; omega
  obtain ⟨w, hw⟩ := h.1
  refine lv_aload_n C.1 C.2.1 dL_law_396 rfl (lv_at hl 1 rfl) ?_
  refine ls_arg (nk := 0) (i := i) (j := 1) X hS hl rfl rfl rfl (by decide) hi dL_law_397 dL_law_398 dL_law_400 dL_law_401 dL_law_402 ?_
  refine ls_arg (nk := 0) (i := i) (j := 2) X hS hl rfl rfl rfl (by decide) hi dL_law_403 dL_law_404 dL_law_406 dL_law_407 dL_law_408 ?_
  refine ls_arg (nk := 0) (i := i) (j := 3) X hS hl rfl rfl rfl (by decide) hi dL_law_409 dL_law_410 dL_law_412 dL_law_413 dL_law_414 ?_
  refine ls_arg (nk := 0) (i := i) (j := 4) X hS hl rfl rfl rfl (by decide) hi dL_law_415 dL_law_416 dL_law_418 dL_law_419 dL_law_420 ?_
  refine lv_aload_n C.1 C.2.1 dL_law_421 rfl (lv_at hl 3 rfl) ?_
  refine vl_calls (As := [.ref 0, .int (xs (i + 1)), .int (xs (i + 2)), .int (xs (i + 3)), .int (xs (i + 4)), .ref 90]) (rest := []) (d' := 200) (K' := 3) o_L_handler rfl kL_102 dL_law_422 (Nat.le_of_ble_eq_true rfl) ⟨by decide, by decide⟩ ⟨hk, hs⟩ rfl (L_handler l n 200 I L X.2.2.2.2.1 (xs (i + 1)) (xs (i + 2)) (xs (i + 3)) (xs (i + 4)) hn hw  (by decide)) C hP hD hS hl.1 (fun r I1 L1 H1 locs1 hq1 hP1 hD1 hS1 => ?_)
  obtain ⟨e1, e2, e3⟩ := hq1
  cases e1
  obtain ⟨⟨w2, c2⟩, e4, e5⟩ := id e3
  obtain ⟨i1, i2, i3, i4⟩ := HI_ref h.2.1 e4
  have ht : tr I1 + 42300 < 2 ^ 31 := by
    have e9 : tr I1 = tr (co I) := by rw [← e4]; rfl
    have := h.2.2
    omega
  refine lv_istore (lv' := (5, .int _) :: Lv5 a b i) C.1 C.2.1 dL_law_425 hl (by decide) rfl (fun ls1 hl1 => ?_)
  refine lv_aload_n C.1 C.2.1 dL_law_427 rfl (lv_at hl1 3 rfl) ?_
  refine ls_arg (nk := 1) (i := i) (j := 1) X hS1 hl1 rfl rfl rfl (by decide) hi dL_law_428 dL_law_429 dL_law_431 dL_law_432 dL_law_433 ?_
  refine ls_arg (nk := 1) (i := i) (j := 2) X hS1 hl1 rfl rfl rfl (by decide) hi dL_law_434 dL_law_435 dL_law_437 dL_law_438 dL_law_439 ?_
  refine ls_arg (nk := 1) (i := i) (j := 3) X hS1 hl1 rfl rfl rfl (by decide) hi dL_law_440 dL_law_441 dL_law_443 dL_law_444 dL_law_445 ?_
  refine ls_arg (nk := 1) (i := i) (j := 4) X hS1 hl1 rfl rfl rfl (by decide) hi dL_law_446 dL_law_447 dL_law_449 dL_law_450 dL_law_451 ?_
  refine vl_calli (As := [.int (xs (i + 1)), .int (xs (i + 2)), .int (xs (i + 3)), .int (xs (i + 4))]) (rest := []) (d' := 200) (K' := 0) o_X10_handler rfl kL_104 (is_30 n) (by decide) rfl dL_law_452 (Nat.le_of_ble_eq_true rfl) ⟨by decide, by decide⟩ ⟨hk, hs⟩ (Or.inl rfl) (rh_handler l n 200 I1 L1 (xs (i + 1)) (xs (i + 2)) (xs (i + 3)) (xs (i + 4)) hn i1  (by decide)) C hP1 hD1 hS1 hl1.1 (fun E ce q9 I' L' H' locs' hx _ _ _ _ _ _ => hx.elim) (fun r2 I2 L2 H2 locs2 hq2 hP2 hD2 hS2 => ?_)
  obtain ⟨f1, f2, f3, f4, f5⟩ := hq2
  rw [e4, e5] at f1 f2 f3
  cases f1
  refine lv_istore (lv' := (6, .int _) :: (5, .int _) :: Lv5 a b i) C.1 C.2.1 dL_law_455 hl1 (by decide) rfl (fun ls2 hl2 => ?_)
  refine lv_aload_n C.1 C.2.1 dL_law_457 rfl (lv_at hl2 4 rfl) ?_
  refine vl_calli (As := []) (rest := []) (d' := 200) (K' := 0) o_X10_thrown rfl kL_87 (is_30 n) (by decide) rfl dL_law_458 (Nat.le_of_ble_eq_true rfl) ⟨by decide, by decide⟩ ⟨hk, hs⟩ (Or.inl rfl) (r_thrown l n 200 I2 L2) C hP2 hD2 hS2 hl2.1 (fun E ce q9 I' L' H' locs' hx _ _ _ _ _ _ => hx.elim) (fun r3 I3 L3 H3 locs3 hq3 hP3 hD3 hS3 => ?_)
  obtain ⟨g1, g2, g3⟩ := hq3
  cases g1; cases g2.symm; cases g3.symm
  refine lv_iload C.1 C.2.1 dL_law_461 (lv_at hl2 1 rfl) ?_
  refine lv_icmp_eq (tgt := 468) C.1 C.2.1 dL_law_463 rfl (fun _ => ?_) (fun z => absurd f2 z)
  refine lv_iload C.1 C.2.1 dL_law_468 (lv_at hl2 1 rfl) ?_
  refine lv_if_ne (tgt := 485) C.1 C.2.1 dL_law_470 rfl (fun _ => ?_) (fun z => ?_)
  · skip
    refine lv_goto (tgt := 1220) C.1 C.2.1 dL_law_485 rfl ?_
    exact kk I2 L2 H3 locs3 ls2 (LI_next h e3 f3 f4 f5 (HG_handler (xs (i + 1)) (xs (i + 2)) (xs (i + 3)) (xs (i + 4)) h.2.1 c2.2.1)) hP3 hD3 hS3 (lv_drop hl2 (by intro q9 h9; simp only [Lv5, List.mem_cons, List.not_mem_nil, or_false] at h9 ⊢; rcases h9 with h9 | h9 | h9 | h9 | h9 <;> simp [h9]))
  · have e9 : L2 90 0 = (Hhandler (co I) (coL L) (xs (i + 1)) (xs (i + 2)) (xs (i + 3)) (xs (i + 4))).2.1.toInt64 := by rw [f5 90 (by decide)]; exact e2 z
    refine lv_aload_n C.1 C.2.1 dL_law_473 rfl (lv_at hl2 5 rfl) ?_
    refine lv_iconst (v := 0) C.1 C.2.1 dL_law_474 rfl ?_
    refine vl_lald dL_law_475 C hP3 ?_
    rw [e9]
    refine lv_iload C.1 C.2.1 dL_law_476 (lv_at hl2 0 rfl) ?_
    refine lv_i2l C.1 C.2.1 dL_law_478 rfl ?_
    refine W.lcmp C.1 C.2.1 dL_law_479 ?_
    rw [lg_cmp_self]
    refine lv_if_eq (tgt := 485) C.1 C.2.1 dL_law_480 rfl (fun _ => ?_) (fun z => absurd rfl z)
    refine lv_goto (tgt := 1220) C.1 C.2.1 dL_law_485 rfl ?_
    exact kk I2 L2 H3 locs3 ls2 (LI_next h e3 f3 f4 f5 (HG_handler (xs (i + 1)) (xs (i + 2)) (xs (i + 3)) (xs (i + 4)) h.2.1 c2.2.1)) hP3 hD3 hS3 (lv_drop hl2 (by intro q9 h9; simp only [Lv5, List.mem_cons, List.not_mem_nil, or_false] at h9 ⊢; rcases h9 with h9 | h9 | h9 | h9 | h9 <;> simp [h9]))
set_option maxHeartbeats 4000000 in
theorem lc_advance (X : LB l n cs D A p s m args c b Ls xs) {i q : Nat} (hi : i + 4 < Ls) (hq : q ≤ 64) (hk : k + 3 ≤ 600128) (hs : sl + 18 ≤ 7301064) (h : LI n q I L) (hP : va_P D vwCl (vq_W n a cs I L) H) (hD : va_D A (vq_W n a cs I L)) (hS : va_S A s.heap H locs) (hl : lv_has ls 8 (Lv5 a b i)) (kk : LK l n p e s m args below meth c a cs D A b Z (q + 1) i (k + 3) (sl + 18)) : W p l e room_1 s m args below meth c H locs k sl Z (F0 m 488 ls []) := by
  have C := X.1
  have hn : n < 2 ^ 31 := by have := X.2.2.2.2.2.1; omega
  have hb : tr (co I) + 40200 < 2 ^ 31 := by have := h.2.2; omega
  obtain ⟨w, hw⟩ := h.1
  refine lv_aload_n C.1 C.2.1 dL_law_488 rfl (lv_at hl 1 rfl) ?_
  refine ls_arg (nk := 0) (i := i) (j := 1) X hS hl rfl rfl rfl (by decide) hi dL_law_489 dL_law_490 dL_law_492 dL_law_493 dL_law_494 ?_
  refine lv_aload_n C.1 C.2.1 dL_law_495 rfl (lv_at hl 3 rfl) ?_
  refine vl_calls (As := [.ref 0, .int (xs (i + 1)), .ref 90]) (rest := []) (d' := 200) (K' := 3) o_L_advance rfl kL_105 dL_law_496 (Nat.le_of_ble_eq_true rfl) ⟨by decide, by decide⟩ ⟨hk, hs⟩ rfl (L_advance l n 200 I L X.2.2.2.2.1 (xs (i + 1)) hn hw  (by decide)) C hP hD hS hl.1 (fun r I1 L1 H1 locs1 hq1 hP1 hD1 hS1 => ?_)
  obtain ⟨e1, e2, e3⟩ := hq1
  cases e1
  obtain ⟨⟨w2, c2⟩, e4, e5⟩ := id e3
  obtain ⟨i1, i2, i3, i4⟩ := HI_ref h.2.1 e4
  have ht : tr I1 + 42300 < 2 ^ 31 := by
    have e9 : tr I1 = tr (co I) := by rw [← e4]; rfl
    have := h.2.2
    omega
  refine lv_istore (lv' := (5, .int _) :: Lv5 a b i) C.1 C.2.1 dL_law_499 hl (by decide) rfl (fun ls1 hl1 => ?_)
  refine lv_aload_n C.1 C.2.1 dL_law_501 rfl (lv_at hl1 3 rfl) ?_
  refine ls_arg (nk := 1) (i := i) (j := 1) X hS1 hl1 rfl rfl rfl (by decide) hi dL_law_502 dL_law_503 dL_law_505 dL_law_506 dL_law_507 ?_
  refine vl_calll (As := [.int (xs (i + 1))]) (rest := []) (d' := 200) (K' := 0) o_X10_advance rfl kL_107 (is_30 n) (by decide) rfl dL_law_508 (Nat.le_of_ble_eq_true rfl) ⟨by decide, by decide⟩ ⟨hk, hs⟩ rfl (rh_advance l n 200 I1 L1 (xs (i + 1)) (by decide)) C hP1 hD1 hS1 hl1.1 (fun E ce q9 I' L' H' locs' hx _ _ _ _ _ _ => hx.elim) (fun r2 I2 L2 H2 locs2 hq2 hP2 hD2 hS2 => ?_)
  obtain ⟨f1, f2, f3, f4, f5⟩ := hq2
  rw [e5] at f1 f2 f3
  rw [e4] at f3
  cases f1
  refine lv_lstore (lv' := (6, .long _) :: (5, .int _) :: Lv5 a b i) C.1 C.2.1 dL_law_511 hl1 (by decide) rfl (fun ls2 hl2 => ?_)
  refine lv_aload_n C.1 C.2.1 dL_law_513 rfl (lv_at hl2 4 rfl) ?_
  refine vl_calli (As := []) (rest := []) (d' := 200) (K' := 0) o_X10_thrown rfl kL_87 (is_30 n) (by decide) rfl dL_law_514 (Nat.le_of_ble_eq_true rfl) ⟨by decide, by decide⟩ ⟨hk, hs⟩ (Or.inl rfl) (r_thrown l n 200 I2 L2) C hP2 hD2 hS2 hl2.1 (fun E ce q9 I' L' H' locs' hx _ _ _ _ _ _ => hx.elim) (fun r3 I3 L3 H3 locs3 hq3 hP3 hD3 hS3 => ?_)
  obtain ⟨g1, g2, g3⟩ := hq3
  cases g1; cases g2.symm; cases g3.symm
  refine lv_iload C.1 C.2.1 dL_law_517 (lv_at hl2 1 rfl) ?_
  refine lv_icmp_eq (tgt := 524) C.1 C.2.1 dL_law_519 rfl (fun _ => ?_) (fun z => absurd f2 z)
  refine lv_iload C.1 C.2.1 dL_law_524 (lv_at hl2 1 rfl) ?_
  refine lv_if_ne (tgt := 540) C.1 C.2.1 dL_law_526 rfl (fun _ => ?_) (fun z => ?_)
  · skip
    refine lv_goto (tgt := 1220) C.1 C.2.1 dL_law_540 rfl ?_
    exact kk I2 L2 H3 locs3 ls2 (LI_next h e3 f3 f4 f5 (HG.rf h.2.1)) hP3 hD3 hS3 (lv_drop hl2 (by intro q9 h9; simp only [Lv5, List.mem_cons, List.not_mem_nil, or_false] at h9 ⊢; rcases h9 with h9 | h9 | h9 | h9 | h9 <;> simp [h9]))
  · have e9 : L2 90 0 = (Hadvance (coL L) (xs (i + 1))).2.1 := by rw [f5 90 (by decide)]; exact e2 z
    refine lv_aload_n C.1 C.2.1 dL_law_529 rfl (lv_at hl2 5 rfl) ?_
    refine lv_iconst (v := 0) C.1 C.2.1 dL_law_530 rfl ?_
    refine vl_lald dL_law_531 C hP3 ?_
    rw [e9]
    refine lv_lload C.1 C.2.1 dL_law_532 (lv_at hl2 0 rfl) ?_
    refine W.lcmp C.1 C.2.1 dL_law_534 ?_
    rw [lg_cmp_self]
    refine lv_if_eq (tgt := 540) C.1 C.2.1 dL_law_535 rfl (fun _ => ?_) (fun z => absurd rfl z)
    refine lv_goto (tgt := 1220) C.1 C.2.1 dL_law_540 rfl ?_
    exact kk I2 L2 H3 locs3 ls2 (LI_next h e3 f3 f4 f5 (HG.rf h.2.1)) hP3 hD3 hS3 (lv_drop hl2 (by intro q9 h9; simp only [Lv5, List.mem_cons, List.not_mem_nil, or_false] at h9 ⊢; rcases h9 with h9 | h9 | h9 | h9 | h9 <;> simp [h9]))
set_option maxHeartbeats 4000000 in
theorem lc_execute (X : LB l n cs D A p s m args c b Ls xs) {i q : Nat} (hi : i + 4 < Ls) (hq : q ≤ 64) (hk : k + 3 ≤ 600128) (hs : sl + 18 ≤ 7301064) (h : LI n q I L) (hP : va_P D vwCl (vq_W n a cs I L) H) (hD : va_D A (vq_W n a cs I L)) (hS : va_S A s.heap H locs) (hl : lv_has ls 8 (Lv5 a b i)) (kk : LK l n p e s m args below meth c a cs D A b Z (q + 1) i (k + 3) (sl + 18)) : W p l e room_1 s m args below meth c H locs k sl Z (F0 m 543 ls []) := by
  have C := X.1
  have hn : n < 2 ^ 31 := by have := X.2.2.2.2.2.1; omega
  have hb : tr (co I) + 40200 < 2 ^ 31 := by have := h.2.2; omega
  obtain ⟨w, hw⟩ := h.1
  refine lv_aload_n C.1 C.2.1 dL_law_543 rfl (lv_at hl 1 rfl) ?_
  refine ls_arg (nk := 0) (i := i) (j := 1) X hS hl rfl rfl rfl (by decide) hi dL_law_544 dL_law_545 dL_law_547 dL_law_548 dL_law_549 ?_
  refine ls_arg (nk := 0) (i := i) (j := 2) X hS hl rfl rfl rfl (by decide) hi dL_law_550 dL_law_551 dL_law_553 dL_law_554 dL_law_555 ?_
  refine lv_aload_n C.1 C.2.1 dL_law_556 rfl (lv_at hl 3 rfl) ?_
  refine vl_calls (As := [.ref 0, .int (xs (i + 1)), .int (xs (i + 2)), .ref 90]) (rest := []) (d' := 200) (K' := 3) o_L_execute rfl kL_108 dL_law_557 (Nat.le_of_ble_eq_true rfl) ⟨by decide, by decide⟩ ⟨hk, hs⟩ rfl (L_execute l n 200 I L X.2.2.2.2.1 (xs (i + 1)) (xs (i + 2)) hn hw hb (by decide)) C hP hD hS hl.1 (fun r I1 L1 H1 locs1 hq1 hP1 hD1 hS1 => ?_)
  obtain ⟨e1, e2, e3⟩ := hq1
  cases e1
  obtain ⟨⟨w2, c2⟩, e4, e5⟩ := id e3
  obtain ⟨i1, i2, i3, i4⟩ := HI_ref h.2.1 e4
  have ht : tr I1 + 42300 < 2 ^ 31 := by
    have e9 : tr I1 = tr (co I) := by rw [← e4]; rfl
    have := h.2.2
    omega
  refine lv_istore (lv' := (5, .int _) :: Lv5 a b i) C.1 C.2.1 dL_law_560 hl (by decide) rfl (fun ls1 hl1 => ?_)
  refine lv_aload_n C.1 C.2.1 dL_law_562 rfl (lv_at hl1 3 rfl) ?_
  refine ls_arg (nk := 1) (i := i) (j := 1) X hS1 hl1 rfl rfl rfl (by decide) hi dL_law_563 dL_law_564 dL_law_566 dL_law_567 dL_law_568 ?_
  refine ls_arg (nk := 1) (i := i) (j := 2) X hS1 hl1 rfl rfl rfl (by decide) hi dL_law_569 dL_law_570 dL_law_572 dL_law_573 dL_law_574 ?_
  refine vl_calli (As := [.int (xs (i + 1)), .int (xs (i + 2))]) (rest := []) (d' := 200) (K' := 0) o_X10_execute rfl kL_110 (is_30 n) (by decide) rfl dL_law_575 (Nat.le_of_ble_eq_true rfl) ⟨by decide, by decide⟩ ⟨hk, hs⟩ (Or.inl rfl) (rh_execute l n 200 I1 L1 (xs (i + 1)) (xs (i + 2)) hn i1 ht (by decide)) C hP1 hD1 hS1 hl1.1 (fun E ce q9 I' L' H' locs' hx _ _ _ _ _ _ => hx.elim) (fun r2 I2 L2 H2 locs2 hq2 hP2 hD2 hS2 => ?_)
  obtain ⟨f1, f2, f3, f4, f5⟩ := hq2
  rw [e4, e5] at f1 f2 f3
  cases f1
  refine lv_istore (lv' := (6, .int _) :: (5, .int _) :: Lv5 a b i) C.1 C.2.1 dL_law_578 hl1 (by decide) rfl (fun ls2 hl2 => ?_)
  refine lv_aload_n C.1 C.2.1 dL_law_580 rfl (lv_at hl2 4 rfl) ?_
  refine vl_calli (As := []) (rest := []) (d' := 200) (K' := 0) o_X10_thrown rfl kL_87 (is_30 n) (by decide) rfl dL_law_581 (Nat.le_of_ble_eq_true rfl) ⟨by decide, by decide⟩ ⟨hk, hs⟩ (Or.inl rfl) (r_thrown l n 200 I2 L2) C hP2 hD2 hS2 hl2.1 (fun E ce q9 I' L' H' locs' hx _ _ _ _ _ _ => hx.elim) (fun r3 I3 L3 H3 locs3 hq3 hP3 hD3 hS3 => ?_)
  obtain ⟨g1, g2, g3⟩ := hq3
  cases g1; cases g2.symm; cases g3.symm
  refine lv_iload C.1 C.2.1 dL_law_584 (lv_at hl2 1 rfl) ?_
  refine lv_icmp_eq (tgt := 591) C.1 C.2.1 dL_law_586 rfl (fun _ => ?_) (fun z => absurd f2 z)
  refine lv_iload C.1 C.2.1 dL_law_591 (lv_at hl2 1 rfl) ?_
  refine lv_if_ne (tgt := 608) C.1 C.2.1 dL_law_593 rfl (fun _ => ?_) (fun z => ?_)
  · skip
    refine lv_goto (tgt := 1220) C.1 C.2.1 dL_law_608 rfl ?_
    exact kk I2 L2 H3 locs3 ls2 (LI_next h e3 f3 f4 f5 (HG_execute (xs (i + 1)) (xs (i + 2)) h.2.1 hb)) hP3 hD3 hS3 (lv_drop hl2 (by intro q9 h9; simp only [Lv5, List.mem_cons, List.not_mem_nil, or_false] at h9 ⊢; rcases h9 with h9 | h9 | h9 | h9 | h9 <;> simp [h9]))
  · have e9 : L2 90 0 = (Hexecute n (co I) (coL L) (xs (i + 1)) (xs (i + 2))).2.1.toInt64 := by rw [f5 90 (by decide)]; exact e2 z
    refine lv_aload_n C.1 C.2.1 dL_law_596 rfl (lv_at hl2 5 rfl) ?_
    refine lv_iconst (v := 0) C.1 C.2.1 dL_law_597 rfl ?_
    refine vl_lald dL_law_598 C hP3 ?_
    rw [e9]
    refine lv_iload C.1 C.2.1 dL_law_599 (lv_at hl2 0 rfl) ?_
    refine lv_i2l C.1 C.2.1 dL_law_601 rfl ?_
    refine W.lcmp C.1 C.2.1 dL_law_602 ?_
    rw [lg_cmp_self]
    refine lv_if_eq (tgt := 608) C.1 C.2.1 dL_law_603 rfl (fun _ => ?_) (fun z => absurd rfl z)
    refine lv_goto (tgt := 1220) C.1 C.2.1 dL_law_608 rfl ?_
    exact kk I2 L2 H3 locs3 ls2 (LI_next h e3 f3 f4 f5 (HG_execute (xs (i + 1)) (xs (i + 2)) h.2.1 hb)) hP3 hD3 hS3 (lv_drop hl2 (by intro q9 h9; simp only [Lv5, List.mem_cons, List.not_mem_nil, or_false] at h9 ⊢; rcases h9 with h9 | h9 | h9 | h9 | h9 <;> simp [h9]))
set_option maxHeartbeats 4000000 in
theorem lc_timer (X : LB l n cs D A p s m args c b Ls xs) {i q : Nat} (hi : i + 4 < Ls) (hq : q ≤ 64) (hk : k + 3 ≤ 600128) (hs : sl + 18 ≤ 7301064) (h : LI n q I L) (hP : va_P D vwCl (vq_W n a cs I L) H) (hD : va_D A (vq_W n a cs I L)) (hS : va_S A s.heap H locs) (hl : lv_has ls 8 (Lv5 a b i)) (kk : LK l n p e s m args below meth c a cs D A b Z (q + 1) i (k + 3) (sl + 18)) : W p l e room_1 s m args below meth c H locs k sl Z (F0 m 611 ls []) := by
  have C := X.1
  have hn : n < 2 ^ 31 := by have := X.2.2.2.2.2.1; omega
  have hb : tr (co I) + 40200 < 2 ^ 31 := by have := h.2.2; omega
  obtain ⟨w, hw⟩ := h.1
  refine lv_aload_n C.1 C.2.1 dL_law_611 rfl (lv_at hl 1 rfl) ?_
  refine ls_arg (nk := 0) (i := i) (j := 1) X hS hl rfl rfl rfl (by decide) hi dL_law_612 dL_law_613 dL_law_615 dL_law_616 dL_law_617 ?_
  refine ls_arg (nk := 0) (i := i) (j := 2) X hS hl rfl rfl rfl (by decide) hi dL_law_618 dL_law_619 dL_law_621 dL_law_622 dL_law_623 ?_
  refine ls_arg (nk := 0) (i := i) (j := 3) X hS hl rfl rfl rfl (by decide) hi dL_law_624 dL_law_625 dL_law_627 dL_law_628 dL_law_629 ?_
  refine lv_aload_n C.1 C.2.1 dL_law_630 rfl (lv_at hl 3 rfl) ?_
  refine vl_calls (As := [.ref 0, .int (xs (i + 1)), .int (xs (i + 2)), .int (xs (i + 3)), .ref 90]) (rest := []) (d' := 200) (K' := 3) o_L_timer rfl kL_111 dL_law_631 (Nat.le_of_ble_eq_true rfl) ⟨by decide, by decide⟩ ⟨hk, hs⟩ rfl (L_timer l n 200 I L X.2.2.2.2.1 (xs (i + 1)) (xs (i + 2)) (xs (i + 3)) hn hw hb (by decide)) C hP hD hS hl.1 (fun r I1 L1 H1 locs1 hq1 hP1 hD1 hS1 => ?_)
  obtain ⟨e1, e2, e3⟩ := hq1
  cases e1
  obtain ⟨⟨w2, c2⟩, e4, e5⟩ := id e3
  obtain ⟨i1, i2, i3, i4⟩ := HI_ref h.2.1 e4
  have ht : tr I1 + 42300 < 2 ^ 31 := by
    have e9 : tr I1 = tr (co I) := by rw [← e4]; rfl
    have := h.2.2
    omega
  refine lv_istore (lv' := (5, .int _) :: Lv5 a b i) C.1 C.2.1 dL_law_634 hl (by decide) rfl (fun ls1 hl1 => ?_)
  refine lv_aload_n C.1 C.2.1 dL_law_636 rfl (lv_at hl1 3 rfl) ?_
  refine ls_arg (nk := 1) (i := i) (j := 1) X hS1 hl1 rfl rfl rfl (by decide) hi dL_law_637 dL_law_638 dL_law_640 dL_law_641 dL_law_642 ?_
  refine ls_arg (nk := 1) (i := i) (j := 2) X hS1 hl1 rfl rfl rfl (by decide) hi dL_law_643 dL_law_644 dL_law_646 dL_law_647 dL_law_648 ?_
  refine ls_arg (nk := 1) (i := i) (j := 3) X hS1 hl1 rfl rfl rfl (by decide) hi dL_law_649 dL_law_650 dL_law_652 dL_law_653 dL_law_654 ?_
  refine vl_calli (As := [.int (xs (i + 1)), .int (xs (i + 2)), .int (xs (i + 3))]) (rest := []) (d' := 200) (K' := 0) o_X10_timer rfl kL_114 (is_30 n) (by decide) rfl dL_law_655 (Nat.le_of_ble_eq_true rfl) ⟨by decide, by decide⟩ ⟨hk, hs⟩ (Or.inl rfl) (rh_timer l n 200 I1 L1 (xs (i + 1)) (xs (i + 2)) (xs (i + 3)) hn i1 ht (by decide)) C hP1 hD1 hS1 hl1.1 (fun E ce q9 I' L' H' locs' hx _ _ _ _ _ _ => hx.elim) (fun r2 I2 L2 H2 locs2 hq2 hP2 hD2 hS2 => ?_)
  obtain ⟨f1, f2, f3, f4, f5⟩ := hq2
  rw [e4, e5] at f1 f2 f3
  cases f1
  refine lv_istore (lv' := (6, .int _) :: (5, .int _) :: Lv5 a b i) C.1 C.2.1 dL_law_658 hl1 (by decide) rfl (fun ls2 hl2 => ?_)
  refine lv_aload_n C.1 C.2.1 dL_law_660 rfl (lv_at hl2 4 rfl) ?_
  refine vl_calli (As := []) (rest := []) (d' := 200) (K' := 0) o_X10_thrown rfl kL_87 (is_30 n) (by decide) rfl dL_law_661 (Nat.le_of_ble_eq_true rfl) ⟨by decide, by decide⟩ ⟨hk, hs⟩ (Or.inl rfl) (r_thrown l n 200 I2 L2) C hP2 hD2 hS2 hl2.1 (fun E ce q9 I' L' H' locs' hx _ _ _ _ _ _ => hx.elim) (fun r3 I3 L3 H3 locs3 hq3 hP3 hD3 hS3 => ?_)
  obtain ⟨g1, g2, g3⟩ := hq3
  cases g1; cases g2.symm; cases g3.symm
  refine lv_iload C.1 C.2.1 dL_law_664 (lv_at hl2 1 rfl) ?_
  refine lv_icmp_eq (tgt := 671) C.1 C.2.1 dL_law_666 rfl (fun _ => ?_) (fun z => absurd f2 z)
  refine lv_iload C.1 C.2.1 dL_law_671 (lv_at hl2 1 rfl) ?_
  refine lv_if_ne (tgt := 688) C.1 C.2.1 dL_law_673 rfl (fun _ => ?_) (fun z => ?_)
  · skip
    refine lv_goto (tgt := 1220) C.1 C.2.1 dL_law_688 rfl ?_
    exact kk I2 L2 H3 locs3 ls2 (LI_next h e3 f3 f4 f5 (HG_timer (xs (i + 1)) (xs (i + 2)) (xs (i + 3)) h.2.1 hb)) hP3 hD3 hS3 (lv_drop hl2 (by intro q9 h9; simp only [Lv5, List.mem_cons, List.not_mem_nil, or_false] at h9 ⊢; rcases h9 with h9 | h9 | h9 | h9 | h9 <;> simp [h9]))
  · have e9 : L2 90 0 = (Htimer n (co I) (coL L) (xs (i + 1)) (xs (i + 2)) (xs (i + 3))).2.1.toInt64 := by rw [f5 90 (by decide)]; exact e2 z
    refine lv_aload_n C.1 C.2.1 dL_law_676 rfl (lv_at hl2 5 rfl) ?_
    refine lv_iconst (v := 0) C.1 C.2.1 dL_law_677 rfl ?_
    refine vl_lald dL_law_678 C hP3 ?_
    rw [e9]
    refine lv_iload C.1 C.2.1 dL_law_679 (lv_at hl2 0 rfl) ?_
    refine lv_i2l C.1 C.2.1 dL_law_681 rfl ?_
    refine W.lcmp C.1 C.2.1 dL_law_682 ?_
    rw [lg_cmp_self]
    refine lv_if_eq (tgt := 688) C.1 C.2.1 dL_law_683 rfl (fun _ => ?_) (fun z => absurd rfl z)
    refine lv_goto (tgt := 1220) C.1 C.2.1 dL_law_688 rfl ?_
    exact kk I2 L2 H3 locs3 ls2 (LI_next h e3 f3 f4 f5 (HG_timer (xs (i + 1)) (xs (i + 2)) (xs (i + 3)) h.2.1 hb)) hP3 hD3 hS3 (lv_drop hl2 (by intro q9 h9; simp only [Lv5, List.mem_cons, List.not_mem_nil, or_false] at h9 ⊢; rcases h9 with h9 | h9 | h9 | h9 | h9 <;> simp [h9]))
set_option maxHeartbeats 4000000 in
theorem lc_cancel (X : LB l n cs D A p s m args c b Ls xs) {i q : Nat} (hi : i + 4 < Ls) (hq : q ≤ 64) (hk : k + 3 ≤ 600128) (hs : sl + 18 ≤ 7301064) (h : LI n q I L) (hP : va_P D vwCl (vq_W n a cs I L) H) (hD : va_D A (vq_W n a cs I L)) (hS : va_S A s.heap H locs) (hl : lv_has ls 8 (Lv5 a b i)) (kk : LK l n p e s m args below meth c a cs D A b Z (q + 1) i (k + 3) (sl + 18)) : W p l e room_1 s m args below meth c H locs k sl Z (F0 m 691 ls []) := by
  have C := X.1
  have hn : n < 2 ^ 31 := by have := X.2.2.2.2.2.1; omega
  have hb : tr (co I) + 40200 < 2 ^ 31 := by have := h.2.2; omega
  obtain ⟨w, hw⟩ := h.1
  refine lv_aload_n C.1 C.2.1 dL_law_691 rfl (lv_at hl 1 rfl) ?_
  refine ls_arg (nk := 0) (i := i) (j := 1) X hS hl rfl rfl rfl (by decide) hi dL_law_692 dL_law_693 dL_law_695 dL_law_696 dL_law_697 ?_
  refine vl_calli (As := [.int (xs (i + 1))]) (rest := []) (d' := 200) (K' := 3) o_X9_cancel rfl kL_115 (is_0 n) (by decide) rfl dL_law_698 (Nat.le_of_ble_eq_true rfl) ⟨by decide, by decide⟩ ⟨hk, hs⟩ (Or.inr rfl) (h_cancel l n 200 I L X.2.2.2.2.1 (xs (i + 1)) hn hw (by decide)) C hP hD hS hl.1 (fun E ce q9 I' L' H' locs' hx _ _ _ _ _ _ => by rcases hx.1 with z | z <;> exact absurd z.2 (by show ¬ (0 : Int32) = _; decide)) (fun r I1 L1 H1 locs1 hq1 hP1 hD1 hS1 => ?_)
  obtain ⟨-, e1, e2⟩ := hq1
  have e3 := HA_of e2
  cases e1
  obtain ⟨i1, i2, i3, i4⟩ := HI_ref h.2.1 e3.2.1
  refine lv_aload_n C.1 C.2.1 dL_law_701 rfl (lv_at hl 2 rfl) ?_
  refine ls_arg (nk := 0) (i := i) (j := 1) X hS1 hl rfl rfl rfl (by decide) hi dL_law_702 dL_law_703 dL_law_705 dL_law_706 dL_law_707 ?_
  refine vl_calli (As := [.int (xs (i + 1))]) (rest := [.int _]) (d' := 200) (K' := 0) o_X10_cancel rfl kL_119 (is_30 n) (by decide) rfl dL_law_708 (Nat.le_of_ble_eq_true rfl) ⟨by decide, by decide⟩ ⟨hk, hs⟩ (Or.inr rfl) (rh_cancel l n 200 I1 L1 (xs (i + 1)) hn i1  (by decide)) C hP1 hD1 hS1 hl.1 (fun E ce q9 I' L' H' locs' hx _ _ _ _ _ _ => hx.elim) (fun r2 I2 L2 H2 locs2 hq2 hP2 hD2 hS2 => ?_)
  obtain ⟨f1, f2, f3, f4, f5⟩ := hq2
  rw [e3.2.1, e3.2.2] at f1 f2 f3
  cases f1
  refine lv_icmp_eq (tgt := 1220) C.1 C.2.1 dL_law_711 rfl (fun _ => ?_) (fun z => absurd rfl z)
  exact kk I2 L2 H2 locs2 ls (LI_next h e3 f3 f4 f5 (HG_cancel (xs (i + 1)) h.2.1 )) hP2 hD2 hS2 hl
set_option maxHeartbeats 4000000 in
theorem lc_complete (X : LB l n cs D A p s m args c b Ls xs) {i q : Nat} (hi : i + 4 < Ls) (hq : q ≤ 64) (hk : k + 3 ≤ 600128) (hs : sl + 18 ≤ 7301064) (h : LI n q I L) (hP : va_P D vwCl (vq_W n a cs I L) H) (hD : va_D A (vq_W n a cs I L)) (hS : va_S A s.heap H locs) (hl : lv_has ls 8 (Lv5 a b i)) (kk : LK l n p e s m args below meth c a cs D A b Z (q + 1) i (k + 3) (sl + 18)) : W p l e room_1 s m args below meth c H locs k sl Z (F0 m 716 ls []) := by
  have C := X.1
  have hn : n < 2 ^ 31 := by have := X.2.2.2.2.2.1; omega
  have hb : tr (co I) + 40200 < 2 ^ 31 := by have := h.2.2; omega
  obtain ⟨w, hw⟩ := h.1
  refine lv_aload_n C.1 C.2.1 dL_law_716 rfl (lv_at hl 1 rfl) ?_
  refine ls_arg (nk := 0) (i := i) (j := 1) X hS hl rfl rfl rfl (by decide) hi dL_law_717 dL_law_718 dL_law_720 dL_law_721 dL_law_722 ?_
  refine ls_arg (nk := 0) (i := i) (j := 2) X hS hl rfl rfl rfl (by decide) hi dL_law_723 dL_law_724 dL_law_726 dL_law_727 dL_law_728 ?_
  refine ls_arg (nk := 0) (i := i) (j := 3) X hS hl rfl rfl rfl (by decide) hi dL_law_729 dL_law_730 dL_law_732 dL_law_733 dL_law_734 ?_
  refine lv_aload_n C.1 C.2.1 dL_law_735 rfl (lv_at hl 3 rfl) ?_
  refine vl_calls (As := [.ref 0, .int (xs (i + 1)), .int (xs (i + 2)), .int (xs (i + 3)), .ref 90]) (rest := []) (d' := 200) (K' := 3) o_L_complete rfl kL_120 dL_law_736 (Nat.le_of_ble_eq_true rfl) ⟨by decide, by decide⟩ ⟨hk, hs⟩ rfl (L_complete l n 200 I L X.2.2.2.2.1 (xs (i + 1)) (xs (i + 2)) (xs (i + 3)) hn hw hb (by decide)) C hP hD hS hl.1 (fun r I1 L1 H1 locs1 hq1 hP1 hD1 hS1 => ?_)
  obtain ⟨e1, e2, e3⟩ := hq1
  cases e1
  obtain ⟨⟨w2, c2⟩, e4, e5⟩ := id e3
  obtain ⟨i1, i2, i3, i4⟩ := HI_ref h.2.1 e4
  have ht : tr I1 + 42300 < 2 ^ 31 := by
    have e9 : tr I1 = tr (co I) := by rw [← e4]; rfl
    have := h.2.2
    omega
  refine lv_istore (lv' := (5, .int _) :: Lv5 a b i) C.1 C.2.1 dL_law_739 hl (by decide) rfl (fun ls1 hl1 => ?_)
  refine lv_aload_n C.1 C.2.1 dL_law_741 rfl (lv_at hl1 3 rfl) ?_
  refine ls_arg (nk := 1) (i := i) (j := 1) X hS1 hl1 rfl rfl rfl (by decide) hi dL_law_742 dL_law_743 dL_law_745 dL_law_746 dL_law_747 ?_
  refine ls_arg (nk := 1) (i := i) (j := 2) X hS1 hl1 rfl rfl rfl (by decide) hi dL_law_748 dL_law_749 dL_law_751 dL_law_752 dL_law_753 ?_
  refine ls_arg (nk := 1) (i := i) (j := 3) X hS1 hl1 rfl rfl rfl (by decide) hi dL_law_754 dL_law_755 dL_law_757 dL_law_758 dL_law_759 ?_
  refine vl_calli (As := [.int (xs (i + 1)), .int (xs (i + 2)), .int (xs (i + 3))]) (rest := []) (d' := 200) (K' := 0) o_X10_complete rfl kL_122 (is_30 n) (by decide) rfl dL_law_760 (Nat.le_of_ble_eq_true rfl) ⟨by decide, by decide⟩ ⟨hk, hs⟩ (Or.inr rfl) (rh_complete l n 200 I1 L1 (xs (i + 1)) (xs (i + 2)) (xs (i + 3)) hn i1 i2 ht (by decide)) C hP1 hD1 hS1 hl1.1 (fun E ce q9 I' L' H' locs' hx _ _ _ _ _ _ => hx.elim) (fun r2 I2 L2 H2 locs2 hq2 hP2 hD2 hS2 => ?_)
  obtain ⟨f1, f2, f3, f4, f5⟩ := hq2
  rw [e4, e5] at f1 f2 f3
  cases f1
  refine lv_istore (lv' := (6, .int _) :: (5, .int _) :: Lv5 a b i) C.1 C.2.1 dL_law_763 hl1 (by decide) rfl (fun ls2 hl2 => ?_)
  refine lv_aload_n C.1 C.2.1 dL_law_765 rfl (lv_at hl2 4 rfl) ?_
  refine vl_calli (As := []) (rest := []) (d' := 200) (K' := 0) o_X10_thrown rfl kL_87 (is_30 n) (by decide) rfl dL_law_766 (Nat.le_of_ble_eq_true rfl) ⟨by decide, by decide⟩ ⟨hk, hs⟩ (Or.inl rfl) (r_thrown l n 200 I2 L2) C hP2 hD2 hS2 hl2.1 (fun E ce q9 I' L' H' locs' hx _ _ _ _ _ _ => hx.elim) (fun r3 I3 L3 H3 locs3 hq3 hP3 hD3 hS3 => ?_)
  obtain ⟨g1, g2, g3⟩ := hq3
  cases g1; cases g2.symm; cases g3.symm
  refine lv_iload C.1 C.2.1 dL_law_769 (lv_at hl2 1 rfl) ?_
  refine lv_icmp_eq (tgt := 776) C.1 C.2.1 dL_law_771 rfl (fun _ => ?_) (fun z => absurd f2 z)
  refine lv_iload C.1 C.2.1 dL_law_776 (lv_at hl2 1 rfl) ?_
  refine lv_if_ne (tgt := 800) C.1 C.2.1 dL_law_778 rfl (fun _ => ?_) (fun z => ?_)
  · skip
    refine lv_goto (tgt := 1220) C.1 C.2.1 dL_law_800 rfl ?_
    exact kk I2 L2 H3 locs3 ls2 (LI_next h e3 f3 f4 f5 (HG_complete (xs (i + 1)) (xs (i + 2)) (xs (i + 3)) h.2.1 hb)) hP3 hD3 hS3 (lv_drop hl2 (by intro q9 h9; simp only [Lv5, List.mem_cons, List.not_mem_nil, or_false] at h9 ⊢; rcases h9 with h9 | h9 | h9 | h9 | h9 <;> simp [h9]))
  · have e9 : L2 90 0 = (Hcomplete (co I) (coL L) (xs (i + 1)) (xs (i + 2)) (xs (i + 3))).2.1.toInt64 := by rw [f5 90 (by decide)]; exact e2 z
    refine lv_aload_n C.1 C.2.1 dL_law_781 rfl (lv_at hl2 5 rfl) ?_
    refine lv_iconst (v := 0) C.1 C.2.1 dL_law_782 rfl ?_
    refine vl_lald dL_law_783 C hP3 ?_
    rw [e9]
    refine lv_iload C.1 C.2.1 dL_law_784 (lv_at hl2 0 rfl) ?_
    rcases H2_complete (S := co I) (T := coL L) (p := (xs (i + 1))) (how := (xs (i + 2))) (v := (xs (i + 3))) with z2 | z2
    · refine lv_if_eq (tgt := 793) C.1 C.2.1 dL_law_786 rfl (fun _ => ?_) (fun z => absurd z2 z)
      refine lv_lconst (v := 0) C.1 C.2.1 dL_law_793 rfl ?_
      refine W.lcmp C.1 C.2.1 dL_law_794 ?_
      rw [z2, show ((0 : Int32).toInt64) = 0 from rfl, lg_cmp_self]
      refine lv_if_eq (tgt := 800) C.1 C.2.1 dL_law_795 rfl (fun _ => ?_) (fun z => absurd rfl z)
      refine lv_goto (tgt := 1220) C.1 C.2.1 dL_law_800 rfl ?_
      exact kk I2 L2 H3 locs3 ls2 (LI_next h e3 f3 f4 f5 (HG_complete (xs (i + 1)) (xs (i + 2)) (xs (i + 3)) h.2.1 hb)) hP3 hD3 hS3 (lv_drop hl2 (by intro q9 h9; simp only [Lv5, List.mem_cons, List.not_mem_nil, or_false] at h9 ⊢; rcases h9 with h9 | h9 | h9 | h9 | h9 <;> simp [h9]))
    · refine lv_if_eq (tgt := 793) C.1 C.2.1 dL_law_786 rfl (fun z => absurd (z2.symm.trans z) (by decide)) (fun _ => ?_)
      refine lv_lconst (v := 1) C.1 C.2.1 dL_law_789 rfl ?_
      refine lv_goto (tgt := 794) C.1 C.2.1 dL_law_790 rfl ?_
      refine W.lcmp C.1 C.2.1 dL_law_794 ?_
      rw [z2, show ((1 : Int32).toInt64) = 1 from rfl, lg_cmp_self]
      refine lv_if_eq (tgt := 800) C.1 C.2.1 dL_law_795 rfl (fun _ => ?_) (fun z => absurd rfl z)
      refine lv_goto (tgt := 1220) C.1 C.2.1 dL_law_800 rfl ?_
      exact kk I2 L2 H3 locs3 ls2 (LI_next h e3 f3 f4 f5 (HG_complete (xs (i + 1)) (xs (i + 2)) (xs (i + 3)) h.2.1 hb)) hP3 hD3 hS3 (lv_drop hl2 (by intro q9 h9; simp only [Lv5, List.mem_cons, List.not_mem_nil, or_false] at h9 ⊢; rcases h9 with h9 | h9 | h9 | h9 | h9 <;> simp [h9]))
set_option maxHeartbeats 4000000 in
theorem lc_listen (X : LB l n cs D A p s m args c b Ls xs) {i q : Nat} (hi : i + 4 < Ls) (hq : q ≤ 64) (hk : k + 3 ≤ 600128) (hs : sl + 18 ≤ 7301064) (h : LI n q I L) (hP : va_P D vwCl (vq_W n a cs I L) H) (hD : va_D A (vq_W n a cs I L)) (hS : va_S A s.heap H locs) (hl : lv_has ls 8 (Lv5 a b i)) (kk : LK l n p e s m args below meth c a cs D A b Z (q + 1) i (k + 3) (sl + 18)) : W p l e room_1 s m args below meth c H locs k sl Z (F0 m 803 ls []) := by
  have C := X.1
  have hn : n < 2 ^ 31 := by have := X.2.2.2.2.2.1; omega
  have hb : tr (co I) + 40200 < 2 ^ 31 := by have := h.2.2; omega
  obtain ⟨w, hw⟩ := h.1
  refine lv_aload_n C.1 C.2.1 dL_law_803 rfl (lv_at hl 1 rfl) ?_
  refine ls_arg (nk := 0) (i := i) (j := 1) X hS hl rfl rfl rfl (by decide) hi dL_law_804 dL_law_805 dL_law_807 dL_law_808 dL_law_809 ?_
  refine ls_arg (nk := 0) (i := i) (j := 2) X hS hl rfl rfl rfl (by decide) hi dL_law_810 dL_law_811 dL_law_813 dL_law_814 dL_law_815 ?_
  refine vl_calls (As := [.ref 0, .int (xs (i + 1)), .int (xs (i + 2))]) (rest := []) (d' := 200) (K' := 3) o_L_listen rfl kL_123 dL_law_816 (Nat.le_of_ble_eq_true rfl) ⟨by decide, by decide⟩ ⟨hk, hs⟩ rfl (L_listen l n 200 I L X.2.2.2.2.1 (xs (i + 1)) (xs (i + 2)) hn hw hb (by decide)) C hP hD hS hl.1 (fun r I1 L1 H1 locs1 hq1 hP1 hD1 hS1 => ?_)
  obtain ⟨e1, e3⟩ := hq1
  cases e1
  obtain ⟨⟨w2, c2⟩, e4, e5⟩ := id e3
  obtain ⟨i1, i2, i3, i4⟩ := HI_ref h.2.1 e4
  have ht : tr I1 + 42300 < 2 ^ 31 := by
    have e9 : tr I1 = tr (co I) := by rw [← e4]; rfl
    have := h.2.2
    omega
  refine lv_istore (lv' := (5, .int _) :: Lv5 a b i) C.1 C.2.1 dL_law_819 hl (by decide) rfl (fun ls1 hl1 => ?_)
  refine lv_aload_n C.1 C.2.1 dL_law_821 rfl (lv_at hl1 3 rfl) ?_
  refine ls_arg (nk := 1) (i := i) (j := 1) X hS1 hl1 rfl rfl rfl (by decide) hi dL_law_822 dL_law_823 dL_law_825 dL_law_826 dL_law_827 ?_
  refine ls_arg (nk := 1) (i := i) (j := 2) X hS1 hl1 rfl rfl rfl (by decide) hi dL_law_828 dL_law_829 dL_law_831 dL_law_832 dL_law_833 ?_
  refine vl_callv (As := [.int (xs (i + 1)), .int (xs (i + 2))]) (rest := []) (d' := 200) (K' := 0) o_X10_listen rfl kL_126 (is_30 n) (by decide) rfl dL_law_834 (Nat.le_of_ble_eq_true rfl) ⟨by decide, by decide⟩ ⟨hk, hs⟩ rfl (rh_listen l n 200 I1 L1 (xs (i + 1)) (xs (i + 2)) hn i1 i2 ht (by decide)) C hP1 hD1 hS1 hl1.1 (fun E ce q9 I' L' H' locs' hx _ _ _ _ _ _ => hx.elim) (fun I2 L2 H2 locs2 hq2 hP2 hD2 hS2 => ?_)
  obtain ⟨f1, f2, f3, f4, f5⟩ := hq2
  rw [e4, e5] at f2 f3
  refine lv_aload_n C.1 C.2.1 dL_law_837 rfl (lv_at hl1 3 rfl) ?_
  refine vl_calli (As := []) (rest := []) (d' := 200) (K' := 0) o_X10_thrown rfl kL_87 (is_30 n) (by decide) rfl dL_law_838 (Nat.le_of_ble_eq_true rfl) ⟨by decide, by decide⟩ ⟨hk, hs⟩ (Or.inl rfl) (r_thrown l n 200 I2 L2) C hP2 hD2 hS2 hl1.1 (fun E ce q9 I' L' H' locs' hx _ _ _ _ _ _ => hx.elim) (fun r3 I3 L3 H3 locs3 hq3 hP3 hD3 hS3 => ?_)
  obtain ⟨g1, g2, g3⟩ := hq3
  cases g1; cases g2.symm; cases g3.symm
  refine lv_iload C.1 C.2.1 dL_law_841 (lv_at hl1 0 rfl) ?_
  refine lv_icmp_eq (tgt := 848) C.1 C.2.1 dL_law_843 rfl (fun _ => ?_) (fun z => absurd f2 z)
  refine lv_goto (tgt := 1220) C.1 C.2.1 dL_law_848 rfl ?_
  exact kk I2 L2 H3 locs3 ls1 (LI_next h e3 f3 f4 f5 (HG_listen (xs (i + 1)) (xs (i + 2)) h.2.1 hb)) hP3 hD3 hS3 (lv_drop hl1 (by intro q9 h9; simp only [Lv5, List.mem_cons, List.not_mem_nil, or_false] at h9 ⊢; rcases h9 with h9 | h9 | h9 | h9 | h9 <;> simp [h9]))
set_option maxHeartbeats 4000000 in
theorem lc_fire (X : LB l n cs D A p s m args c b Ls xs) {i q : Nat} (hi : i + 4 < Ls) (hq : q ≤ 64) (hk : k + 3 ≤ 600128) (hs : sl + 18 ≤ 7301064) (h : LI n q I L) (hP : va_P D vwCl (vq_W n a cs I L) H) (hD : va_D A (vq_W n a cs I L)) (hS : va_S A s.heap H locs) (hl : lv_has ls 8 (Lv5 a b i)) (kk : LK l n p e s m args below meth c a cs D A b Z (q + 1) i (k + 3) (sl + 18)) : W p l e room_1 s m args below meth c H locs k sl Z (F0 m 851 ls []) := by
  have C := X.1
  have hn : n < 2 ^ 31 := by have := X.2.2.2.2.2.1; omega
  have hb : tr (co I) + 40200 < 2 ^ 31 := by have := h.2.2; omega
  obtain ⟨w, hw⟩ := h.1
  refine lv_aload_n C.1 C.2.1 dL_law_851 rfl (lv_at hl 1 rfl) ?_
  refine ls_arg (nk := 0) (i := i) (j := 1) X hS hl rfl rfl rfl (by decide) hi dL_law_852 dL_law_853 dL_law_855 dL_law_856 dL_law_857 ?_
  refine ls_arg (nk := 0) (i := i) (j := 2) X hS hl rfl rfl rfl (by decide) hi dL_law_858 dL_law_859 dL_law_861 dL_law_862 dL_law_863 ?_
  refine vl_calls (As := [.ref 0, .int (xs (i + 1)), .int (xs (i + 2))]) (rest := []) (d' := 200) (K' := 3) o_L_fire rfl kL_127 dL_law_864 (Nat.le_of_ble_eq_true rfl) ⟨by decide, by decide⟩ ⟨hk, hs⟩ rfl (L_fire l n 200 I L X.2.2.2.2.1 (xs (i + 1)) (xs (i + 2)) hn hw hb (by decide)) C hP hD hS hl.1 (fun r I1 L1 H1 locs1 hq1 hP1 hD1 hS1 => ?_)
  obtain ⟨e1, e3⟩ := hq1
  cases e1
  obtain ⟨⟨w2, c2⟩, e4, e5⟩ := id e3
  obtain ⟨i1, i2, i3, i4⟩ := HI_ref h.2.1 e4
  have ht : tr I1 + 42300 < 2 ^ 31 := by
    have e9 : tr I1 = tr (co I) := by rw [← e4]; rfl
    have := h.2.2
    omega
  refine lv_istore (lv' := (5, .int _) :: Lv5 a b i) C.1 C.2.1 dL_law_867 hl (by decide) rfl (fun ls1 hl1 => ?_)
  refine lv_aload_n C.1 C.2.1 dL_law_869 rfl (lv_at hl1 3 rfl) ?_
  refine ls_arg (nk := 1) (i := i) (j := 1) X hS1 hl1 rfl rfl rfl (by decide) hi dL_law_870 dL_law_871 dL_law_873 dL_law_874 dL_law_875 ?_
  refine ls_arg (nk := 1) (i := i) (j := 2) X hS1 hl1 rfl rfl rfl (by decide) hi dL_law_876 dL_law_877 dL_law_879 dL_law_880 dL_law_881 ?_
  refine vl_callv (As := [.int (xs (i + 1)), .int (xs (i + 2))]) (rest := []) (d' := 200) (K' := 0) o_X10_fire rfl kL_129 (is_30 n) (by decide) rfl dL_law_882 (Nat.le_of_ble_eq_true rfl) ⟨by decide, by decide⟩ ⟨hk, hs⟩ rfl (rh_fire l n 200 I1 L1 (xs (i + 1)) (xs (i + 2)) hn i1 ht (by decide)) C hP1 hD1 hS1 hl1.1 (fun E ce q9 I' L' H' locs' hx _ _ _ _ _ _ => hx.elim) (fun I2 L2 H2 locs2 hq2 hP2 hD2 hS2 => ?_)
  obtain ⟨f1, f2, f3, f4, f5⟩ := hq2
  rw [e4, e5] at f2 f3
  refine lv_aload_n C.1 C.2.1 dL_law_885 rfl (lv_at hl1 3 rfl) ?_
  refine vl_calli (As := []) (rest := []) (d' := 200) (K' := 0) o_X10_thrown rfl kL_87 (is_30 n) (by decide) rfl dL_law_886 (Nat.le_of_ble_eq_true rfl) ⟨by decide, by decide⟩ ⟨hk, hs⟩ (Or.inl rfl) (r_thrown l n 200 I2 L2) C hP2 hD2 hS2 hl1.1 (fun E ce q9 I' L' H' locs' hx _ _ _ _ _ _ => hx.elim) (fun r3 I3 L3 H3 locs3 hq3 hP3 hD3 hS3 => ?_)
  obtain ⟨g1, g2, g3⟩ := hq3
  cases g1; cases g2.symm; cases g3.symm
  refine lv_iload C.1 C.2.1 dL_law_889 (lv_at hl1 0 rfl) ?_
  refine lv_icmp_eq (tgt := 896) C.1 C.2.1 dL_law_891 rfl (fun _ => ?_) (fun z => absurd f2 z)
  refine lv_goto (tgt := 1220) C.1 C.2.1 dL_law_896 rfl ?_
  exact kk I2 L2 H3 locs3 ls1 (LI_next h e3 f3 f4 f5 (HG_fire (xs (i + 1)) (xs (i + 2)) h.2.1 hb)) hP3 hD3 hS3 (lv_drop hl1 (by intro q9 h9; simp only [Lv5, List.mem_cons, List.not_mem_nil, or_false] at h9 ⊢; rcases h9 with h9 | h9 | h9 | h9 | h9 <;> simp [h9]))
set_option maxHeartbeats 4000000 in
theorem lc_shutdown (X : LB l n cs D A p s m args c b Ls xs) {i q : Nat} (hi : i + 4 < Ls) (hq : q ≤ 64) (hk : k + 3 ≤ 600128) (hs : sl + 18 ≤ 7301064) (h : LI n q I L) (hP : va_P D vwCl (vq_W n a cs I L) H) (hD : va_D A (vq_W n a cs I L)) (hS : va_S A s.heap H locs) (hl : lv_has ls 8 (Lv5 a b i)) (kk : LK l n p e s m args below meth c a cs D A b Z (q + 1) i (k + 3) (sl + 18)) : W p l e room_1 s m args below meth c H locs k sl Z (F0 m 899 ls []) := by
  have C := X.1
  have hn : n < 2 ^ 31 := by have := X.2.2.2.2.2.1; omega
  have hb : tr (co I) + 40200 < 2 ^ 31 := by have := h.2.2; omega
  obtain ⟨w, hw⟩ := h.1
  refine lv_aload_n C.1 C.2.1 dL_law_899 rfl (lv_at hl 1 rfl) ?_
  refine ls_arg (nk := 0) (i := i) (j := 1) X hS hl rfl rfl rfl (by decide) hi dL_law_900 dL_law_901 dL_law_903 dL_law_904 dL_law_905 ?_
  refine ls_arg (nk := 0) (i := i) (j := 2) X hS hl rfl rfl rfl (by decide) hi dL_law_906 dL_law_907 dL_law_909 dL_law_910 dL_law_911 ?_
  refine vl_calls (As := [.ref 0, .int (xs (i + 1)), .int (xs (i + 2))]) (rest := []) (d' := 200) (K' := 3) o_L_shutdown rfl kL_130 dL_law_912 (Nat.le_of_ble_eq_true rfl) ⟨by decide, by decide⟩ ⟨hk, hs⟩ rfl (L_shutdown l n 200 I L X.2.2.2.2.1 (xs (i + 1)) (xs (i + 2)) hn hw hb (by decide)) C hP hD hS hl.1 (fun r I1 L1 H1 locs1 hq1 hP1 hD1 hS1 => ?_)
  obtain ⟨e1, e3⟩ := hq1
  cases e1
  obtain ⟨⟨w2, c2⟩, e4, e5⟩ := id e3
  obtain ⟨i1, i2, i3, i4⟩ := HI_ref h.2.1 e4
  have ht : tr I1 + 42300 < 2 ^ 31 := by
    have e9 : tr I1 = tr (co I) := by rw [← e4]; rfl
    have := h.2.2
    omega
  refine lv_istore (lv' := (5, .int _) :: Lv5 a b i) C.1 C.2.1 dL_law_915 hl (by decide) rfl (fun ls1 hl1 => ?_)
  refine lv_aload_n C.1 C.2.1 dL_law_917 rfl (lv_at hl1 3 rfl) ?_
  refine ls_arg (nk := 1) (i := i) (j := 1) X hS1 hl1 rfl rfl rfl (by decide) hi dL_law_918 dL_law_919 dL_law_921 dL_law_922 dL_law_923 ?_
  refine ls_arg (nk := 1) (i := i) (j := 2) X hS1 hl1 rfl rfl rfl (by decide) hi dL_law_924 dL_law_925 dL_law_927 dL_law_928 dL_law_929 ?_
  refine vl_callv (As := [.int (xs (i + 1)), .int (xs (i + 2))]) (rest := []) (d' := 200) (K' := 0) o_X10_shutdown rfl kL_132 (is_30 n) (by decide) rfl dL_law_930 (Nat.le_of_ble_eq_true rfl) ⟨by decide, by decide⟩ ⟨hk, hs⟩ rfl (rh_shutdown l n 200 I1 L1 (xs (i + 1)) (xs (i + 2)) hn i1 ht (by decide)) C hP1 hD1 hS1 hl1.1 (fun E ce q9 I' L' H' locs' hx _ _ _ _ _ _ => hx.elim) (fun I2 L2 H2 locs2 hq2 hP2 hD2 hS2 => ?_)
  obtain ⟨f1, f2, f3, f4, f5⟩ := hq2
  rw [e4, e5] at f2 f3
  refine lv_aload_n C.1 C.2.1 dL_law_933 rfl (lv_at hl1 3 rfl) ?_
  refine vl_calli (As := []) (rest := []) (d' := 200) (K' := 0) o_X10_thrown rfl kL_87 (is_30 n) (by decide) rfl dL_law_934 (Nat.le_of_ble_eq_true rfl) ⟨by decide, by decide⟩ ⟨hk, hs⟩ (Or.inl rfl) (r_thrown l n 200 I2 L2) C hP2 hD2 hS2 hl1.1 (fun E ce q9 I' L' H' locs' hx _ _ _ _ _ _ => hx.elim) (fun r3 I3 L3 H3 locs3 hq3 hP3 hD3 hS3 => ?_)
  obtain ⟨g1, g2, g3⟩ := hq3
  cases g1; cases g2.symm; cases g3.symm
  refine lv_iload C.1 C.2.1 dL_law_937 (lv_at hl1 0 rfl) ?_
  refine lv_icmp_eq (tgt := 944) C.1 C.2.1 dL_law_939 rfl (fun _ => ?_) (fun z => absurd f2 z)
  refine lv_goto (tgt := 1220) C.1 C.2.1 dL_law_944 rfl ?_
  exact kk I2 L2 H3 locs3 ls1 (LI_next h e3 f3 f4 f5 (HG_shutdown (xs (i + 1)) (xs (i + 2)) h.2.1 hb)) hP3 hD3 hS3 (lv_drop hl1 (by intro q9 h9; simp only [Lv5, List.mem_cons, List.not_mem_nil, or_false] at h9 ⊢; rcases h9 with h9 | h9 | h9 | h9 | h9 <;> simp [h9]))
set_option maxHeartbeats 4000000 in
theorem lc_step (X : LB l n cs D A p s m args c b Ls xs) {i q : Nat} (hi : i + 4 < Ls) (hq : q ≤ 64) (hk : k + 3 ≤ 600128) (hs : sl + 18 ≤ 7301064) (h : LI n q I L) (hP : va_P D vwCl (vq_W n a cs I L) H) (hD : va_D A (vq_W n a cs I L)) (hS : va_S A s.heap H locs) (hl : lv_has ls 8 (Lv5 a b i)) (kk : LK l n p e s m args below meth c a cs D A b Z (q + 1) i (k + 3) (sl + 18)) : W p l e room_1 s m args below meth c H locs k sl Z (F0 m 947 ls []) := by
  have C := X.1
  have hn : n < 2 ^ 31 := by have := X.2.2.2.2.2.1; omega
  have hb : tr (co I) + 40200 < 2 ^ 31 := by have := h.2.2; omega
  obtain ⟨w, hw⟩ := h.1
  refine lv_aload_n C.1 C.2.1 dL_law_947 rfl (lv_at hl 1 rfl) ?_
  refine ls_arg (nk := 0) (i := i) (j := 1) X hS hl rfl rfl rfl (by decide) hi dL_law_948 dL_law_949 dL_law_951 dL_law_952 dL_law_953 ?_
  refine lv_aload_n C.1 C.2.1 dL_law_954 rfl (lv_at hl 3 rfl) ?_
  refine vl_calls (As := [.ref 0, .int (xs (i + 1)), .ref 90]) (rest := []) (d' := 200) (K' := 3) o_L_step rfl kL_133 dL_law_955 (Nat.le_of_ble_eq_true rfl) ⟨by decide, by decide⟩ ⟨hk, hs⟩ rfl (L_step l n 200 I L X.2.2.2.2.1 (xs (i + 1)) hn hw h.2.1.2.2.1 h.2.1.2.2.2.1 hb (by decide)) C hP hD hS hl.1 (fun r I1 L1 H1 locs1 hq1 hP1 hD1 hS1 => ?_)
  obtain ⟨e1, e2, e3⟩ := hq1
  cases e1
  obtain ⟨⟨w2, c2⟩, e4, e5⟩ := id e3
  obtain ⟨i1, i2, i3, i4⟩ := HI_ref h.2.1 e4
  have ht : tr I1 + 42300 < 2 ^ 31 := by
    have e9 : tr I1 = tr (co I) := by rw [← e4]; rfl
    have := h.2.2
    omega
  refine lv_istore (lv' := (5, .int _) :: Lv5 a b i) C.1 C.2.1 dL_law_958 hl (by decide) rfl (fun ls1 hl1 => ?_)
  refine lv_aload_n C.1 C.2.1 dL_law_960 rfl (lv_at hl1 3 rfl) ?_
  refine ls_arg (nk := 1) (i := i) (j := 1) X hS1 hl1 rfl rfl rfl (by decide) hi dL_law_961 dL_law_962 dL_law_964 dL_law_965 dL_law_966 ?_
  refine vl_calli (As := [.int (xs (i + 1))]) (rest := []) (d' := 200) (K' := 0) o_X10_step rfl kL_135 (is_30 n) (by decide) rfl dL_law_967 (Nat.le_of_ble_eq_true rfl) ⟨by decide, by decide⟩ ⟨hk, hs⟩ (Or.inl rfl) (r_step l n 200 I1 L1 (xs (i + 1)) hn i1 i2 i3 i4 ht (by decide)) C hP1 hD1 hS1 hl1.1 (fun E ce q9 I' L' H' locs' hx _ _ _ _ _ _ => hx.elim) (fun r2 I2 L2 H2 locs2 hq2 hP2 hD2 hS2 => ?_)
  obtain ⟨f1, f2, f3, f4, f5⟩ := hq2
  rw [e4, e5] at f1 f2 f3
  cases f1
  refine lv_istore (lv' := (6, .int _) :: (5, .int _) :: Lv5 a b i) C.1 C.2.1 dL_law_970 hl1 (by decide) rfl (fun ls2 hl2 => ?_)
  refine lv_aload_n C.1 C.2.1 dL_law_972 rfl (lv_at hl2 4 rfl) ?_
  refine vl_calli (As := []) (rest := []) (d' := 200) (K' := 0) o_X10_thrown rfl kL_87 (is_30 n) (by decide) rfl dL_law_973 (Nat.le_of_ble_eq_true rfl) ⟨by decide, by decide⟩ ⟨hk, hs⟩ (Or.inl rfl) (r_thrown l n 200 I2 L2) C hP2 hD2 hS2 hl2.1 (fun E ce q9 I' L' H' locs' hx _ _ _ _ _ _ => hx.elim) (fun r3 I3 L3 H3 locs3 hq3 hP3 hD3 hS3 => ?_)
  obtain ⟨g1, g2, g3⟩ := hq3
  cases g1; cases g2.symm; cases g3.symm
  refine lv_iload C.1 C.2.1 dL_law_976 (lv_at hl2 1 rfl) ?_
  refine lv_icmp_eq (tgt := 983) C.1 C.2.1 dL_law_978 rfl (fun _ => ?_) (fun z => absurd f2 z)
  refine lv_iload C.1 C.2.1 dL_law_983 (lv_at hl2 1 rfl) ?_
  refine lv_if_ne (tgt := 1000) C.1 C.2.1 dL_law_985 rfl (fun _ => ?_) (fun z => ?_)
  · skip
    refine lv_goto (tgt := 1220) C.1 C.2.1 dL_law_1000 rfl ?_
    exact kk I2 L2 H3 locs3 ls2 (LI_next h e3 f3 f4 f5 (HG_step (xs (i + 1)) h.2.1 hb)) hP3 hD3 hS3 (lv_drop hl2 (by intro q9 h9; simp only [Lv5, List.mem_cons, List.not_mem_nil, or_false] at h9 ⊢; rcases h9 with h9 | h9 | h9 | h9 | h9 <;> simp [h9]))
  · have e9 : L2 90 0 = (Hstep n (co I) (coL L) (xs (i + 1))).2.1.toInt64 := by rw [f5 90 (by decide)]; exact e2 z
    refine lv_aload_n C.1 C.2.1 dL_law_988 rfl (lv_at hl2 5 rfl) ?_
    refine lv_iconst (v := 0) C.1 C.2.1 dL_law_989 rfl ?_
    refine vl_lald dL_law_990 C hP3 ?_
    rw [e9]
    refine lv_iload C.1 C.2.1 dL_law_991 (lv_at hl2 0 rfl) ?_
    refine lv_i2l C.1 C.2.1 dL_law_993 rfl ?_
    refine W.lcmp C.1 C.2.1 dL_law_994 ?_
    rw [lg_cmp_self]
    refine lv_if_eq (tgt := 1000) C.1 C.2.1 dL_law_995 rfl (fun _ => ?_) (fun z => absurd rfl z)
    refine lv_goto (tgt := 1220) C.1 C.2.1 dL_law_1000 rfl ?_
    exact kk I2 L2 H3 locs3 ls2 (LI_next h e3 f3 f4 f5 (HG_step (xs (i + 1)) h.2.1 hb)) hP3 hD3 hS3 (lv_drop hl2 (by intro q9 h9; simp only [Lv5, List.mem_cons, List.not_mem_nil, or_false] at h9 ⊢; rcases h9 with h9 | h9 | h9 | h9 | h9 <;> simp [h9]))
set_option maxHeartbeats 4000000 in
theorem lc_loop (X : LB l n cs D A p s m args c b Ls xs) {i q : Nat} (hi : i + 4 < Ls) (hq : q ≤ 64) (hk : k + 3 ≤ 600128) (hs : sl + 18 ≤ 7301064) (h : LI n q I L) (hP : va_P D vwCl (vq_W n a cs I L) H) (hD : va_D A (vq_W n a cs I L)) (hS : va_S A s.heap H locs) (hl : lv_has ls 8 (Lv5 a b i)) (kk : LK l n p e s m args below meth c a cs D A b Z (q + 1) i (k + 3) (sl + 18)) : W p l e room_1 s m args below meth c H locs k sl Z (F0 m 1003 ls []) := by
  have C := X.1
  have hn : n < 2 ^ 31 := by have := X.2.2.2.2.2.1; omega
  have hb : tr (co I) + 40200 < 2 ^ 31 := by have := h.2.2; omega
  obtain ⟨w, hw⟩ := h.1
  refine lv_aload_n C.1 C.2.1 dL_law_1003 rfl (lv_at hl 1 rfl) ?_
  refine ls_arg (nk := 0) (i := i) (j := 1) X hS hl rfl rfl rfl (by decide) hi dL_law_1004 dL_law_1005 dL_law_1007 dL_law_1008 dL_law_1009 ?_
  refine ls_arg (nk := 0) (i := i) (j := 2) X hS hl rfl rfl rfl (by decide) hi dL_law_1010 dL_law_1011 dL_law_1013 dL_law_1014 dL_law_1015 ?_
  refine lv_aload_n C.1 C.2.1 dL_law_1016 rfl (lv_at hl 3 rfl) ?_
  refine vl_calls (As := [.ref 0, .int (xs (i + 1)), .int (xs (i + 2)), .ref 90]) (rest := []) (d' := 200) (K' := 3) o_L_loop rfl kL_136 dL_law_1017 (Nat.le_of_ble_eq_true rfl) ⟨by decide, by decide⟩ ⟨hk, hs⟩ rfl (L_loop l n 200 I L X.2.2.2.2.1 (xs (i + 1)) (xs (i + 2)) hn hw  (by decide)) C hP hD hS hl.1 (fun r I1 L1 H1 locs1 hq1 hP1 hD1 hS1 => ?_)
  obtain ⟨e1, e2, e3⟩ := hq1
  cases e1
  obtain ⟨⟨w2, c2⟩, e4, e5⟩ := id e3
  obtain ⟨i1, i2, i3, i4⟩ := HI_ref h.2.1 e4
  have ht : tr I1 + 42300 < 2 ^ 31 := by
    have e9 : tr I1 = tr (co I) := by rw [← e4]; rfl
    have := h.2.2
    omega
  refine lv_istore (lv' := (5, .int _) :: Lv5 a b i) C.1 C.2.1 dL_law_1020 hl (by decide) rfl (fun ls1 hl1 => ?_)
  refine lv_aload_n C.1 C.2.1 dL_law_1022 rfl (lv_at hl1 3 rfl) ?_
  refine ls_arg (nk := 1) (i := i) (j := 1) X hS1 hl1 rfl rfl rfl (by decide) hi dL_law_1023 dL_law_1024 dL_law_1026 dL_law_1027 dL_law_1028 ?_
  refine ls_arg (nk := 1) (i := i) (j := 2) X hS1 hl1 rfl rfl rfl (by decide) hi dL_law_1029 dL_law_1030 dL_law_1032 dL_law_1033 dL_law_1034 ?_
  refine vl_calli (As := [.int (xs (i + 1)), .int (xs (i + 2))]) (rest := []) (d' := 200) (K' := 0) o_X10_loop rfl kL_138 (is_30 n) (by decide) rfl dL_law_1035 (Nat.le_of_ble_eq_true rfl) ⟨by decide, by decide⟩ ⟨hk, hs⟩ (Or.inl rfl) (rh_loop l n 200 I1 L1 (xs (i + 1)) (xs (i + 2)) hn i1  (by decide)) C hP1 hD1 hS1 hl1.1 (fun E ce q9 I' L' H' locs' hx _ _ _ _ _ _ => hx.elim) (fun r2 I2 L2 H2 locs2 hq2 hP2 hD2 hS2 => ?_)
  obtain ⟨f1, f2, f3, f4, f5⟩ := hq2
  rw [e4, e5] at f1 f2 f3
  cases f1
  refine lv_istore (lv' := (6, .int _) :: (5, .int _) :: Lv5 a b i) C.1 C.2.1 dL_law_1038 hl1 (by decide) rfl (fun ls2 hl2 => ?_)
  refine lv_aload_n C.1 C.2.1 dL_law_1040 rfl (lv_at hl2 4 rfl) ?_
  refine vl_calli (As := []) (rest := []) (d' := 200) (K' := 0) o_X10_thrown rfl kL_87 (is_30 n) (by decide) rfl dL_law_1041 (Nat.le_of_ble_eq_true rfl) ⟨by decide, by decide⟩ ⟨hk, hs⟩ (Or.inl rfl) (r_thrown l n 200 I2 L2) C hP2 hD2 hS2 hl2.1 (fun E ce q9 I' L' H' locs' hx _ _ _ _ _ _ => hx.elim) (fun r3 I3 L3 H3 locs3 hq3 hP3 hD3 hS3 => ?_)
  obtain ⟨g1, g2, g3⟩ := hq3
  cases g1; cases g2.symm; cases g3.symm
  refine lv_iload C.1 C.2.1 dL_law_1044 (lv_at hl2 1 rfl) ?_
  refine lv_icmp_eq (tgt := 1051) C.1 C.2.1 dL_law_1046 rfl (fun _ => ?_) (fun z => absurd f2 z)
  refine lv_iload C.1 C.2.1 dL_law_1051 (lv_at hl2 1 rfl) ?_
  refine lv_if_ne (tgt := 1068) C.1 C.2.1 dL_law_1053 rfl (fun _ => ?_) (fun z => ?_)
  · skip
    refine lv_goto (tgt := 1220) C.1 C.2.1 dL_law_1068 rfl ?_
    exact kk I2 L2 H3 locs3 ls2 (LI_next h e3 f3 f4 f5 (HG_loop (xs (i + 1)) (xs (i + 2)) h.2.1 )) hP3 hD3 hS3 (lv_drop hl2 (by intro q9 h9; simp only [Lv5, List.mem_cons, List.not_mem_nil, or_false] at h9 ⊢; rcases h9 with h9 | h9 | h9 | h9 | h9 <;> simp [h9]))
  · have e9 : L2 90 0 = (Hloop n (co I) (coL L) (xs (i + 1)) (xs (i + 2))).2.1.toInt64 := by rw [f5 90 (by decide)]; exact e2 z
    refine lv_aload_n C.1 C.2.1 dL_law_1056 rfl (lv_at hl2 5 rfl) ?_
    refine lv_iconst (v := 0) C.1 C.2.1 dL_law_1057 rfl ?_
    refine vl_lald dL_law_1058 C hP3 ?_
    rw [e9]
    refine lv_iload C.1 C.2.1 dL_law_1059 (lv_at hl2 0 rfl) ?_
    refine lv_i2l C.1 C.2.1 dL_law_1061 rfl ?_
    refine W.lcmp C.1 C.2.1 dL_law_1062 ?_
    rw [lg_cmp_self]
    refine lv_if_eq (tgt := 1068) C.1 C.2.1 dL_law_1063 rfl (fun _ => ?_) (fun z => absurd rfl z)
    refine lv_goto (tgt := 1220) C.1 C.2.1 dL_law_1068 rfl ?_
    exact kk I2 L2 H3 locs3 ls2 (LI_next h e3 f3 f4 f5 (HG_loop (xs (i + 1)) (xs (i + 2)) h.2.1 )) hP3 hD3 hS3 (lv_drop hl2 (by intro q9 h9; simp only [Lv5, List.mem_cons, List.not_mem_nil, or_false] at h9 ⊢; rcases h9 with h9 | h9 | h9 | h9 | h9 <;> simp [h9]))
set_option maxHeartbeats 4000000 in
theorem lc_look (X : LB l n cs D A p s m args c b Ls xs) {i q : Nat} (hi : i + 4 < Ls) (hq : q ≤ 64) (hk : k + 3 ≤ 600128) (hs : sl + 18 ≤ 7301064) (h : LI n q I L) (hP : va_P D vwCl (vq_W n a cs I L) H) (hD : va_D A (vq_W n a cs I L)) (hS : va_S A s.heap H locs) (hl : lv_has ls 8 (Lv5 a b i)) (kk : LK l n p e s m args below meth c a cs D A b Z (q + 1) i (k + 3) (sl + 18)) : W p l e room_1 s m args below meth c H locs k sl Z (F0 m 1071 ls []) := by
  have C := X.1
  have hn : n < 2 ^ 31 := by have := X.2.2.2.2.2.1; omega
  have hb : tr (co I) + 40200 < 2 ^ 31 := by have := h.2.2; omega
  obtain ⟨w, hw⟩ := h.1
  refine lv_aload_n C.1 C.2.1 dL_law_1071 rfl (lv_at hl 1 rfl) ?_
  refine ls_arg (nk := 0) (i := i) (j := 1) X hS hl rfl rfl rfl (by decide) hi dL_law_1072 dL_law_1073 dL_law_1075 dL_law_1076 dL_law_1077 ?_
  refine ls_arg (nk := 0) (i := i) (j := 2) X hS hl rfl rfl rfl (by decide) hi dL_law_1078 dL_law_1079 dL_law_1081 dL_law_1082 dL_law_1083 ?_
  refine lv_aload_n C.1 C.2.1 dL_law_1084 rfl (lv_at hl 3 rfl) ?_
  refine vl_calls (As := [.ref 0, .int (xs (i + 1)), .int (xs (i + 2)), .ref 90]) (rest := []) (d' := 200) (K' := 3) o_L_look rfl kL_139 dL_law_1085 (Nat.le_of_ble_eq_true rfl) ⟨by decide, by decide⟩ ⟨hk, hs⟩ rfl (L_look l n 200 I L X.2.2.2.2.1 (xs (i + 1)) (xs (i + 2)) hn hw  (by decide)) C hP hD hS hl.1 (fun r I1 L1 H1 locs1 hq1 hP1 hD1 hS1 => ?_)
  obtain ⟨e1, e2, e3⟩ := hq1
  cases e1
  obtain ⟨⟨w2, c2⟩, e4, e5⟩ := id e3
  obtain ⟨i1, i2, i3, i4⟩ := HI_ref h.2.1 e4
  have ht : tr I1 + 42300 < 2 ^ 31 := by
    have e9 : tr I1 = tr (co I) := by rw [← e4]; rfl
    have := h.2.2
    omega
  refine lv_istore (lv' := (5, .int _) :: Lv5 a b i) C.1 C.2.1 dL_law_1088 hl (by decide) rfl (fun ls1 hl1 => ?_)
  refine lv_aload_n C.1 C.2.1 dL_law_1090 rfl (lv_at hl1 3 rfl) ?_
  refine ls_arg (nk := 1) (i := i) (j := 1) X hS1 hl1 rfl rfl rfl (by decide) hi dL_law_1091 dL_law_1092 dL_law_1094 dL_law_1095 dL_law_1096 ?_
  refine ls_arg (nk := 1) (i := i) (j := 2) X hS1 hl1 rfl rfl rfl (by decide) hi dL_law_1097 dL_law_1098 dL_law_1100 dL_law_1101 dL_law_1102 ?_
  refine vl_calli (As := [.int (xs (i + 1)), .int (xs (i + 2))]) (rest := []) (d' := 200) (K' := 0) o_X10_look rfl kL_141 (is_30 n) (by decide) rfl dL_law_1103 (Nat.le_of_ble_eq_true rfl) ⟨by decide, by decide⟩ ⟨hk, hs⟩ (Or.inl rfl) (rh_look l n 200 I1 L1 (xs (i + 1)) (xs (i + 2)) hn i1  (by decide)) C hP1 hD1 hS1 hl1.1 (fun E ce q9 I' L' H' locs' hx _ _ _ _ _ _ => hx.elim) (fun r2 I2 L2 H2 locs2 hq2 hP2 hD2 hS2 => ?_)
  obtain ⟨f1, f2, f3, f4, f5⟩ := hq2
  rw [e4, e5] at f1 f2 f3
  cases f1
  refine lv_istore (lv' := (6, .int _) :: (5, .int _) :: Lv5 a b i) C.1 C.2.1 dL_law_1106 hl1 (by decide) rfl (fun ls2 hl2 => ?_)
  refine lv_aload_n C.1 C.2.1 dL_law_1108 rfl (lv_at hl2 4 rfl) ?_
  refine vl_calli (As := []) (rest := []) (d' := 200) (K' := 0) o_X10_thrown rfl kL_87 (is_30 n) (by decide) rfl dL_law_1109 (Nat.le_of_ble_eq_true rfl) ⟨by decide, by decide⟩ ⟨hk, hs⟩ (Or.inl rfl) (r_thrown l n 200 I2 L2) C hP2 hD2 hS2 hl2.1 (fun E ce q9 I' L' H' locs' hx _ _ _ _ _ _ => hx.elim) (fun r3 I3 L3 H3 locs3 hq3 hP3 hD3 hS3 => ?_)
  obtain ⟨g1, g2, g3⟩ := hq3
  cases g1; cases g2.symm; cases g3.symm
  refine lv_iload C.1 C.2.1 dL_law_1112 (lv_at hl2 1 rfl) ?_
  refine lv_icmp_eq (tgt := 1119) C.1 C.2.1 dL_law_1114 rfl (fun _ => ?_) (fun z => absurd f2 z)
  refine lv_iload C.1 C.2.1 dL_law_1119 (lv_at hl2 1 rfl) ?_
  refine lv_if_ne (tgt := 1136) C.1 C.2.1 dL_law_1121 rfl (fun _ => ?_) (fun z => ?_)
  · skip
    refine lv_goto (tgt := 1220) C.1 C.2.1 dL_law_1136 rfl ?_
    exact kk I2 L2 H3 locs3 ls2 (LI_next h e3 f3 f4 f5 (HG_look (xs (i + 1)) (xs (i + 2)) h.2.1 )) hP3 hD3 hS3 (lv_drop hl2 (by intro q9 h9; simp only [Lv5, List.mem_cons, List.not_mem_nil, or_false] at h9 ⊢; rcases h9 with h9 | h9 | h9 | h9 | h9 <;> simp [h9]))
  · have e9 : L2 90 0 = (Hlook (co I) (coL L) (xs (i + 1)) (xs (i + 2))).2.1.toInt64 := by rw [f5 90 (by decide)]; exact e2 z
    refine lv_aload_n C.1 C.2.1 dL_law_1124 rfl (lv_at hl2 5 rfl) ?_
    refine lv_iconst (v := 0) C.1 C.2.1 dL_law_1125 rfl ?_
    refine vl_lald dL_law_1126 C hP3 ?_
    rw [e9]
    refine lv_iload C.1 C.2.1 dL_law_1127 (lv_at hl2 0 rfl) ?_
    refine lv_i2l C.1 C.2.1 dL_law_1129 rfl ?_
    refine W.lcmp C.1 C.2.1 dL_law_1130 ?_
    rw [lg_cmp_self]
    refine lv_if_eq (tgt := 1136) C.1 C.2.1 dL_law_1131 rfl (fun _ => ?_) (fun z => absurd rfl z)
    refine lv_goto (tgt := 1220) C.1 C.2.1 dL_law_1136 rfl ?_
    exact kk I2 L2 H3 locs3 ls2 (LI_next h e3 f3 f4 f5 (HG_look (xs (i + 1)) (xs (i + 2)) h.2.1 )) hP3 hD3 hS3 (lv_drop hl2 (by intro q9 h9; simp only [Lv5, List.mem_cons, List.not_mem_nil, or_false] at h9 ⊢; rcases h9 with h9 | h9 | h9 | h9 | h9 <;> simp [h9]))
set_option maxHeartbeats 4000000 in
theorem lc_traced (X : LB l n cs D A p s m args c b Ls xs) {i q : Nat} (hi : i + 4 < Ls) (hq : q ≤ 64) (hk : k + 3 ≤ 600128) (hs : sl + 18 ≤ 7301064) (h : LI n q I L) (hP : va_P D vwCl (vq_W n a cs I L) H) (hD : va_D A (vq_W n a cs I L)) (hS : va_S A s.heap H locs) (hl : lv_has ls 8 (Lv5 a b i)) (kk : LK l n p e s m args below meth c a cs D A b Z (q + 1) i (k + 3) (sl + 18)) : W p l e room_1 s m args below meth c H locs k sl Z (F0 m 1139 ls []) := by
  have C := X.1
  have hn : n < 2 ^ 31 := by have := X.2.2.2.2.2.1; omega
  have hb : tr (co I) + 40200 < 2 ^ 31 := by have := h.2.2; omega
  obtain ⟨w, hw⟩ := h.1
  refine lv_aload_n C.1 C.2.1 dL_law_1139 rfl (lv_at hl 1 rfl) ?_
  refine vl_calli (As := []) (rest := []) (d' := 200) (K' := 3) o_X9_traced rfl kL_142 (is_0 n) (by decide) rfl dL_law_1140 (Nat.le_of_ble_eq_true rfl) ⟨by decide, by decide⟩ ⟨hk, hs⟩ (Or.inl rfl) (h_traced l n 200 I L X.2.2.2.2.1  hn hw (by decide)) C hP hD hS hl.1 (fun E ce q9 I' L' H' locs' hx _ _ _ _ _ _ => by rcases hx.1 with z | z <;> exact absurd z.2 (by show ¬ (0 : Int32) = _; decide)) (fun r I1 L1 H1 locs1 hq1 hP1 hD1 hS1 => ?_)
  obtain ⟨-, e1, e2⟩ := hq1
  have e3 := HA_of e2
  cases e1
  obtain ⟨i1, i2, i3, i4⟩ := HI_ref h.2.1 e3.2.1
  refine lv_aload_n C.1 C.2.1 dL_law_1143 rfl (lv_at hl 2 rfl) ?_
  refine vl_calli (As := []) (rest := [.int _]) (d' := 200) (K' := 0) o_X10_traced rfl kL_145 (is_30 n) (by decide) rfl dL_law_1144 (Nat.le_of_ble_eq_true rfl) ⟨by decide, by decide⟩ ⟨hk, hs⟩ (Or.inl rfl) (rh_traced l n 200 I1 L1  hn i1  (by decide)) C hP1 hD1 hS1 hl.1 (fun E ce q9 I' L' H' locs' hx _ _ _ _ _ _ => hx.elim) (fun r2 I2 L2 H2 locs2 hq2 hP2 hD2 hS2 => ?_)
  obtain ⟨f1, f2, f3, f4, f5⟩ := hq2
  rw [e3.2.1, e3.2.2] at f1 f2 f3
  cases f1
  refine lv_icmp_eq (tgt := 1220) C.1 C.2.1 dL_law_1147 rfl (fun _ => ?_) (fun z => absurd rfl z)
  exact kk I2 L2 H2 locs2 ls (LI_next h e3 f3 f4 f5 (HG.rf h.2.1)) hP2 hD2 hS2 hl
set_option maxHeartbeats 4000000 in
theorem lc_trace (X : LB l n cs D A p s m args c b Ls xs) {i q : Nat} (hi : i + 4 < Ls) (hq : q ≤ 64) (hk : k + 3 ≤ 600128) (hs : sl + 18 ≤ 7301064) (h : LI n q I L) (hP : va_P D vwCl (vq_W n a cs I L) H) (hD : va_D A (vq_W n a cs I L)) (hS : va_S A s.heap H locs) (hl : lv_has ls 8 (Lv5 a b i)) (kk : LK l n p e s m args below meth c a cs D A b Z (q + 1) i (k + 3) (sl + 18)) : W p l e room_1 s m args below meth c H locs k sl Z (F0 m 1152 ls []) := by
  have C := X.1
  have hn : n < 2 ^ 31 := by have := X.2.2.2.2.2.1; omega
  have hb : tr (co I) + 40200 < 2 ^ 31 := by have := h.2.2; omega
  obtain ⟨w, hw⟩ := h.1
  refine lv_aload_n C.1 C.2.1 dL_law_1152 rfl (lv_at hl 1 rfl) ?_
  refine ls_arg (nk := 0) (i := i) (j := 1) X hS hl rfl rfl rfl (by decide) hi dL_law_1153 dL_law_1154 dL_law_1156 dL_law_1157 dL_law_1158 ?_
  refine ls_arg (nk := 0) (i := i) (j := 2) X hS hl rfl rfl rfl (by decide) hi dL_law_1159 dL_law_1160 dL_law_1162 dL_law_1163 dL_law_1164 ?_
  refine lv_aload_n C.1 C.2.1 dL_law_1165 rfl (lv_at hl 3 rfl) ?_
  refine vl_calls (As := [.ref 0, .int (xs (i + 1)), .int (xs (i + 2)), .ref 90]) (rest := []) (d' := 200) (K' := 3) o_L_trace rfl kL_146 dL_law_1166 (Nat.le_of_ble_eq_true rfl) ⟨by decide, by decide⟩ ⟨hk, hs⟩ rfl (L_trace l n 200 I L X.2.2.2.2.1 (xs (i + 1)) (xs (i + 2)) hn hw hb (by decide)) C hP hD hS hl.1 (fun r I1 L1 H1 locs1 hq1 hP1 hD1 hS1 => ?_)
  obtain ⟨e1, e2, e3⟩ := hq1
  cases e1
  obtain ⟨⟨w2, c2⟩, e4, e5⟩ := id e3
  obtain ⟨i1, i2, i3, i4⟩ := HI_ref h.2.1 e4
  have ht : tr I1 + 42300 < 2 ^ 31 := by
    have e9 : tr I1 = tr (co I) := by rw [← e4]; rfl
    have := h.2.2
    omega
  refine lv_istore (lv' := (5, .int _) :: Lv5 a b i) C.1 C.2.1 dL_law_1169 hl (by decide) rfl (fun ls1 hl1 => ?_)
  refine lv_aload_n C.1 C.2.1 dL_law_1171 rfl (lv_at hl1 3 rfl) ?_
  refine ls_arg (nk := 1) (i := i) (j := 1) X hS1 hl1 rfl rfl rfl (by decide) hi dL_law_1172 dL_law_1173 dL_law_1175 dL_law_1176 dL_law_1177 ?_
  refine ls_arg (nk := 1) (i := i) (j := 2) X hS1 hl1 rfl rfl rfl (by decide) hi dL_law_1178 dL_law_1179 dL_law_1181 dL_law_1182 dL_law_1183 ?_
  refine vl_calli (As := [.int (xs (i + 1)), .int (xs (i + 2))]) (rest := []) (d' := 200) (K' := 0) o_X10_trace rfl kL_148 (is_30 n) (by decide) rfl dL_law_1184 (Nat.le_of_ble_eq_true rfl) ⟨by decide, by decide⟩ ⟨hk, hs⟩ (Or.inl rfl) (rh_trace l n 200 I1 L1 (xs (i + 1)) (xs (i + 2)) hn i1 ht (by decide)) C hP1 hD1 hS1 hl1.1 (fun E ce q9 I' L' H' locs' hx _ _ _ _ _ _ => hx.elim) (fun r2 I2 L2 H2 locs2 hq2 hP2 hD2 hS2 => ?_)
  obtain ⟨f1, f2, f3, f4, f5⟩ := hq2
  rw [e4, e5] at f1 f2 f3
  cases f1
  refine lv_istore (lv' := (6, .int _) :: (5, .int _) :: Lv5 a b i) C.1 C.2.1 dL_law_1187 hl1 (by decide) rfl (fun ls2 hl2 => ?_)
  refine lv_aload_n C.1 C.2.1 dL_law_1189 rfl (lv_at hl2 4 rfl) ?_
  refine vl_calli (As := []) (rest := []) (d' := 200) (K' := 0) o_X10_thrown rfl kL_87 (is_30 n) (by decide) rfl dL_law_1190 (Nat.le_of_ble_eq_true rfl) ⟨by decide, by decide⟩ ⟨hk, hs⟩ (Or.inl rfl) (r_thrown l n 200 I2 L2) C hP2 hD2 hS2 hl2.1 (fun E ce q9 I' L' H' locs' hx _ _ _ _ _ _ => hx.elim) (fun r3 I3 L3 H3 locs3 hq3 hP3 hD3 hS3 => ?_)
  obtain ⟨g1, g2, g3⟩ := hq3
  cases g1; cases g2.symm; cases g3.symm
  refine lv_iload C.1 C.2.1 dL_law_1193 (lv_at hl2 1 rfl) ?_
  refine lv_icmp_eq (tgt := 1200) C.1 C.2.1 dL_law_1195 rfl (fun _ => ?_) (fun z => absurd f2 z)
  refine lv_iload C.1 C.2.1 dL_law_1200 (lv_at hl2 1 rfl) ?_
  refine lv_if_ne (tgt := 1217) C.1 C.2.1 dL_law_1202 rfl (fun _ => ?_) (fun z => ?_)
  · skip
    refine lv_goto (tgt := 1220) C.1 C.2.1 dL_law_1217 rfl ?_
    exact kk I2 L2 H3 locs3 ls2 (LI_next h e3 f3 f4 f5 (HG_trace (xs (i + 1)) (xs (i + 2)) h.2.1 )) hP3 hD3 hS3 (lv_drop hl2 (by intro q9 h9; simp only [Lv5, List.mem_cons, List.not_mem_nil, or_false] at h9 ⊢; rcases h9 with h9 | h9 | h9 | h9 | h9 <;> simp [h9]))
  · have e9 : L2 90 0 = (Htrace (co I) (coL L) (xs (i + 1)) (xs (i + 2))).2.1.toInt64 := by rw [f5 90 (by decide)]; exact e2 z
    refine lv_aload_n C.1 C.2.1 dL_law_1205 rfl (lv_at hl2 5 rfl) ?_
    refine lv_iconst (v := 0) C.1 C.2.1 dL_law_1206 rfl ?_
    refine vl_lald dL_law_1207 C hP3 ?_
    rw [e9]
    refine lv_iload C.1 C.2.1 dL_law_1208 (lv_at hl2 0 rfl) ?_
    refine lv_i2l C.1 C.2.1 dL_law_1210 rfl ?_
    refine W.lcmp C.1 C.2.1 dL_law_1211 ?_
    rw [lg_cmp_self]
    refine lv_if_eq (tgt := 1217) C.1 C.2.1 dL_law_1212 rfl (fun _ => ?_) (fun z => absurd rfl z)
    refine lv_goto (tgt := 1220) C.1 C.2.1 dL_law_1217 rfl ?_
    exact kk I2 L2 H3 locs3 ls2 (LI_next h e3 f3 f4 f5 (HG_trace (xs (i + 1)) (xs (i + 2)) h.2.1 )) hP3 hD3 hS3 (lv_drop hl2 (by intro q9 h9; simp only [Lv5, List.mem_cons, List.not_mem_nil, or_false] at h9 ⊢; rcases h9 with h9 | h9 | h9 | h9 | h9 <;> simp [h9]))
end LAWC
